/-! least: the reference's side -/
theorem m_floor {R C : Nat} {sg : Nat → Nat} {dr th er k : Nat} {wc wl wd : Nat → Nat} {mb : BT} (ho : okS R C sg dr th er k wc wl wd) (hr : rM R C sg dr th er k wc wl wd mb) : M_X9_floor mb = some (nI (opn R C sg)) := by
  have h16 := ho.1.n16
  have e : mk (fun i => !(sg i == 35)) (R * C) = opn R C sg := (mk_eq (opn_lt R C sg) (fun i hi => opn_bit sg hi)).symm
  have st : ∀ fu j, j ≤ R * C → R * C - j < fu → M_X9_floor_4 mb fu (nI (mk (fun i => !(sg i == 35)) j), nI j) = some (nI (opn R C sg)) := by
    intro fu
    induction fu with
    | zero => intro j _ h; omega
    | succ fu ih =>
      intro j hj hfu
      show M_X9_floor_4b _ _ _ = _
      unfold M_X9_floor_4b M_X9_floor_28
      dsimp only
      rw [m_cellsM hr, bx]
      rcases Nat.lt_or_ge j (R * C) with y | y
      · have key := ih (j + 1) (by omega) (by omega)
        have e1 : mk (fun i => !(sg i == 35)) (j + 1) = if (!(sg j == 35)) = true then mk (fun i => !(sg i == 35)) j ||| 2 ^ j else mk (fun i => !(sg i == 35)) j := rfl
        rw [if_neg (nI_ge y (by omega)), m_isWall ho hr y, bx, n_pow (by omega), ← nI_succ]
        by_cases t : sg j = 35
        · rw [t, if_neg (by decide)] at e1
          rw [e1] at key
          rw [if_pos t, if_neg k10, n_or0]
          exact key
        · rw [beq_eq_false_iff_ne.mpr t, if_pos (by decide)] at e1
          rw [e1] at key
          rw [if_neg t, if_pos k00, n_or]
          exact key
      · have ej : j = R * C := by omega
        rw [ej, if_pos (nI_le (Nat.le_refl _) (by omega)), e]
  exact st 200 0 (by omega) (by omega)
theorem opn_s {R C : Nat} {sg : Nat → Nat} {c : Nat} (hc : c < R * C) : (opn R C sg).testBit c = true ↔ sg c ≠ 35 := by
  rw [opn_bit sg hc]
  simp
theorem m_fs65 {R C g c d bn : Nat} {last : Bool} {sg : Nat → Nat} {dr th er k : Nat} {wc wl wd : Nat → Nat} {mb : BT} {f : AR} (x1 : Int32) (rc12 : AR × AR × Int32 → Option (Int32 × AR × AR)) (rc22 : AR × AR × Int32 × Int32 → Option (Int32 × AR × AR)) (ho : okS R C sg dr th er k wc wl wd) (hr : rM R C sg dr th er k wc wl wd mb) (hbn : brs R C sg er wc wl wd k = bn) (hf : FS R C sg (opn R C sg) g f) (hg : g < R * C) (hc : c < R * C) (hs : sg c ≠ 35) (hd : isD R C sg (opn R C sg) g (d + 1) c) (sh0 : AR) (hS : ∀ q, q < R * C → sg q ≠ 35 → isD R C sg (opn R C sg) g d q → ∃ v, isM R C sg (opn R C sg) g (sw bn g last) d q v ∧ sh0 q = nI v) : ∀ fu w x (sh : AR), w ≤ 4 → 4 - w < fu → sh c = nI x → x ≤ 1000 → (∀ q, q ≠ c → sh q = sh0 q) → MN R C sg (opn R C sg) g (sw bn g last) 1000 d c w x → ∃ sh' x', M_X9_fewestShown_65 mb x1 (nI g) (bI last) rc12 rc22 fu (f, sh, nI (d + 1), nI c, nI w) = rc22 (f, sh', nI (d + 1), nI (c + 1)) ∧ sh' c = nI x' ∧ (∀ q, q ≠ c → sh' q = sh0 q) ∧ MN R C sg (opn R C sg) g (sw bn g last) 1000 d c 4 x' := by
  have h16 := ho.1.n16
  have h15 := D_15 ho.1 (d + 1) c hc hd
  intro fu
  induction fu with
  | zero => intro w x sh _ h; omega
  | succ fu ih =>
    intro w x sh hw hfu hx hx1 hq hm
    show ∃ sh' x', M_X9_fewestShown_65b _ _ _ _ _ _ _ _ = _ ∧ _
    unfold M_X9_fewestShown_65b
    dsimp only
    rcases Nat.lt_or_ge w 4 with y | y
    · rw [if_neg (show ¬ (4 : Int32) ≤ nI w from nI_ge (b := 4) y (by omega)), if_neg (show ¬ nI (d + 1) ≤ 0 from nI_ge (a := 0) (by omega) (by omega)), m_beyond ho hr hc (by omega), bx]
      have f155 : ∀ i, i ≤ 1000 → M_X9_fewestShown_155 mb x1 (nI g) (bI last) rc12 rc22 (M_X9_fewestShown_65 mb x1 (nI g) (bI last) rc12 rc22 fu) (f, sh, nI (d + 1), nI c, nI w, nI i) = M_X9_fewestShown_65 mb x1 (nI g) (bI last) rc12 rc22 fu (f, upd sh c (nI (if x ≤ i then x else i)), nI (d + 1), nI c, nI (w + 1)) := by
        intro i hi
        unfold M_X9_fewestShown_155 M_X9_fewestShown_187
        dsimp only
        have vc := nI_in (c := c) (N := 16) (by omega) (by omega)
        rw [if_pos vc, if_pos vc, if_pos vc]
        simp only [nI_clamp (n := c) (show c < 2 ^ 31 by omega), hx]
        rw [← nI_succ]
        by_cases u : x ≤ i
        · rw [if_pos (nI_le u (by omega)), if_pos u]
          try rw [if_pos vc]
        · rw [if_neg (nI_ge (by omega) (by omega)), if_neg u]
          try rw [if_pos vc]
      have skip : (∀ q, stp R C sg c w = some q → (opn R C sg).testBit q = true → ¬ isD R C sg (opn R C sg) g d q) → ∃ sh' x', M_X9_fewestShown_155 mb x1 (nI g) (bI last) rc12 rc22 (M_X9_fewestShown_65 mb x1 (nI g) (bI last) rc12 rc22 fu) (f, sh, nI (d + 1), nI c, nI w, (1000 : Int32)) = rc22 (f, sh', nI (d + 1), nI (c + 1)) ∧ sh' c = nI x' ∧ (∀ q, q ≠ c → sh' q = sh0 q) ∧ MN R C sg (opn R C sg) g (sw bn g last) 1000 d c 4 x' := by
        intro hn
        rw [show (1000 : Int32) = nI 1000 from rfl, f155 1000 (Nat.le_refl _), if_pos hx1]
        exact ih (w + 1) x _ (by omega) (by omega) (upd_at ..) hx1 (fun q h => by rw [upd_ne _ _ h]; exact hq q h) (MN_skip hm hn hd)
      unfold M_X9_fewestShown_109 M_X9_fewestShown_110
      dsimp only
      cases e : stp R C sg c w with
      | none =>
        rw [if_pos (show oI none < 0 by decide +kernel), if_pos k00]
        exact skip (fun q z => by rw [e] at z; exact absurd z (by simp))
      | some q =>
        obtain ⟨q1, q2, q3⟩ := stp_lt ho.1 hc (show w < 5 by omega) e
        have vq := nI_in (c := q) (N := 16) (by omega) (by omega)
        have en : nI (d + 1) - (1 : Int32) = nI d := (n_sub (a := d + 1) (b := 1) (by omega)).trans (by rw [Nat.add_sub_cancel])
        rw [show oI (some q) = nI q from rfl, if_neg (nI_pos (by omega)), if_pos vq]
        by_cases u : isD R C sg (opn R C sg) g d q
        · obtain ⟨v, v1, v2⟩ := hS q q1 q2 u
          have vle := ew_le (sw_le bn g last) d q v v1.1
          have nq : q ≠ c := by
            intro z
            subst z
            have := D_uniq u hd
            omega
          have hsh : sh q = nI v := by rw [hq q nq]; exact v2
          have oq := (opn_s q1).mpr q2
          have tk := MN_take hm y e oq v1
          have sle := sw_le bn g last q
          have fin : ∃ sh' x', M_X9_fewestShown_155 mb x1 (nI g) (bI last) rc12 rc22 (M_X9_fewestShown_65 mb x1 (nI g) (bI last) rc12 rc22 fu) (f, sh, nI (d + 1), nI c, nI w, nI (v + sw bn g last q)) = rc22 (f, sh', nI (d + 1), nI (c + 1)) ∧ sh' c = nI x' ∧ (∀ q, q ≠ c → sh' q = sh0 q) ∧ MN R C sg (opn R C sg) g (sw bn g last) 1000 d c 4 x' := by
            rw [f155 _ (by omega)]
            exact ih (w + 1) _ _ (by omega) (by omega) (upd_at ..) (by split <;> omega) (fun q h => by rw [upd_ne _ _ h]; exact hq q h) tk
          have hb := m_isBare ho hr q1
          rw [hbn] at hb
          unfold M_X9_fewestShown_149 M_X9_fewestShown_153 M_X9_fewestShown_154
          dsimp only
          rw [if_pos (show f (nI q).toNatClampNeg = nI (d + 1) - 1 by rw [nI_clamp (by omega), en]; exact (FS_at hf q1 q2 u).2), if_neg k10, if_pos vq, hb, bx, nI_clamp (by omega), hsh]
          unfold sw at fin
          cases eb : bn.testBit q
          · rw [eb, if_neg (show ¬ false = true by decide)] at fin
            rw [if_pos (show bI false = 0 from rfl)]
            by_cases t : q = g
            · rw [if_pos (show nI q = nI g by rw [t])]
              cases last
              · rw [if_pos ⟨t, rfl⟩] at fin
                rw [if_pos (show bI false = 0 from rfl), show nI v + (0 : Int32) = nI (v + 0) from nI_add v 0]
                exact fin
              · rw [if_neg (fun z => absurd z.2 (by decide))] at fin
                rw [if_neg bI0, show nI v + (1 : Int32) = nI (v + 1) from nI_add v 1]
                exact fin
            · rw [if_neg (fun z => t z.1)] at fin
              rw [if_neg (w_ne (by omega) (by omega) t), show nI v + (1 : Int32) = nI (v + 1) from nI_add v 1]
              exact fin
          · rw [eb, if_pos (show true = true from rfl)] at fin
            rw [if_neg bI0, show nI v + (0 : Int32) = nI (v + 0) from nI_add v 0]
            exact fin
        · have fne : ¬ f q = nI d := by
            rcases hf q q1 q2 with ⟨m, m1, m2, m3⟩ | ⟨m1, m2⟩
            · rw [m3]; exact w_ne (by omega) (by omega) (fun z => u (z ▸ m2))
            · rw [m2]; exact w_ne (by omega) (by omega) (by omega)
          rw [if_neg (show ¬ f (nI q).toNatClampNeg = nI (d + 1) - 1 by rw [nI_clamp (by omega), en]; exact fne), if_pos k00]
          exact skip (fun q' z _ => by rw [e] at z; injection z with z; rw [← z]; exact u)
    · have e : w = 4 := by omega
      subst e
      unfold M_X9_fewestShown_194
      rw [if_pos (show (4 : Int32) ≤ nI 4 by decide +kernel), ← nI_succ]
      exact ⟨sh, x, rfl, hx, hq, hm⟩
/-- levels that are done -/
def SL (R C : Nat) (sg : Nat → Nat) (A g : Nat) (s : Nat → Nat) (sh : AR) (d c : Nat) : Prop := ∀ q n, q < R * C → sg q ≠ 35 → isD R C sg A g n q → (n < d ∨ (n = d ∧ q < c)) → ∃ v, isM R C sg A g s n q v ∧ sh q = nI v
theorem m_fs22 {R C g d bn : Nat} {last : Bool} {sg : Nat → Nat} {dr th er k : Nat} {wc wl wd : Nat → Nat} {mb : BT} {f : AR} (x1 : Int32) (rc12 : AR × AR × Int32 → Option (Int32 × AR × AR)) (ho : okS R C sg dr th er k wc wl wd) (hr : rM R C sg dr th er k wc wl wd mb) (hbn : brs R C sg er wc wl wd k = bn) (hf : FS R C sg (opn R C sg) g f) (hfw : ∀ c, c < R * C → sg c = 35 → c ≠ g → f c = nI 1000) (hg : g < R * C) (hgs : sg g ≠ 35) (hd : d < 16) : ∀ fu c (sh : AR), c ≤ R * C → R * C - c < fu → SL R C sg (opn R C sg) g (sw bn g last) sh d c → ∃ sh', M_X9_fewestShown_22 mb x1 (nI g) (bI last) rc12 fu (f, sh, nI d, nI c) = rc12 (f, sh', nI (d + 1)) ∧ SL R C sg (opn R C sg) g (sw bn g last) sh' (d + 1) 0 := by
  have h16 := ho.1.n16
  intro fu
  induction fu with
  | zero => intro c sh _ h; omega
  | succ fu ih =>
    intro c sh hc hfu hS
    show ∃ sh', M_X9_fewestShown_22b _ _ _ _ _ _ _ = _ ∧ _
    unfold M_X9_fewestShown_22b M_X9_fewestShown_200
    dsimp only
    rw [m_cellsM hr, bx]
    rcases Nat.lt_or_ge c (R * C) with y | y
    · have vc := nI_in (c := c) (N := 16) (by omega) (by omega)
      rw [if_neg (nI_ge y (by omega)), if_pos vc, nI_clamp (by omega)]
      have goOn : (¬ (sg c ≠ 35 ∧ isD R C sg (opn R C sg) g d c)) → ∃ sh', M_X9_fewestShown_194 mb x1 (nI g) (bI last) rc12 (M_X9_fewestShown_22 mb x1 (nI g) (bI last) rc12 fu) (f, sh, nI d, nI c) = rc12 (f, sh', nI (d + 1)) ∧ SL R C sg (opn R C sg) g (sw bn g last) sh' (d + 1) 0 := by
        intro hn
        unfold M_X9_fewestShown_194
        dsimp only
        rw [← nI_succ]
        refine ih (c + 1) sh (by omega) (by omega) ?_
        intro q n h1 h2 h3 h4
        rcases h4 with h4 | ⟨h4, h5⟩
        · exact hS q n h1 h2 h3 (Or.inl h4)
        · by_cases t : q = c
          · subst t; subst h4; exact absurd ⟨h2, h3⟩ hn
          · exact hS q n h1 h2 h3 (Or.inr ⟨h4, by omega⟩)
      by_cases t : sg c ≠ 35 ∧ isD R C sg (opn R C sg) g d c
      · obtain ⟨t1, t2⟩ := t
        rw [if_pos (FS_at hf y t1 t2).2]
        have done : ∀ (sh' : AR) x', (∀ q, q ≠ c → sh' q = sh q) → sh' c = nI x' → isM R C sg (opn R C sg) g (sw bn g last) d c x' → SL R C sg (opn R C sg) g (sw bn g last) sh' d (c + 1) := by
          intro sh' x' a1 a2 a3 q n h1 h2 h3 h4
          by_cases u : q = c
          · subst u
            have en := D_uniq h3 t2
            subst en
            exact ⟨x', a3, a2⟩
          · rw [a1 q u]
            rcases h4 with h4 | ⟨h4, h5⟩
            · exact hS q n h1 h2 h3 (Or.inl h4)
            · exact hS q n h1 h2 h3 (Or.inr ⟨h4, by omega⟩)
        cases d with
        | zero =>
          rw [if_pos n0I]
          unfold M_X9_fewestShown_61
          dsimp only
          rw [if_pos vc, nI_clamp (by omega)]
          have e65 : ∀ s : AR, M_X9_fewestShown_65 mb x1 (nI g) (bI last) rc12 (M_X9_fewestShown_22 mb x1 (nI g) (bI last) rc12 fu) 200 (f, s, nI 0, nI c, 0) = M_X9_fewestShown_22 mb x1 (nI g) (bI last) rc12 fu (f, s, nI 0, nI (c + 1)) := by
            intro s
            show M_X9_fewestShown_65b _ _ _ _ _ _ _ _ = _
            unfold M_X9_fewestShown_65b M_X9_fewestShown_194
            dsimp only
            rw [if_neg (show ¬ (4 : Int32) ≤ 0 by decide +kernel), if_pos (show nI 0 ≤ 0 by decide +kernel), ← nI_succ]
          rw [e65]
          exact ih (c + 1) _ (by omega) (by omega) (done _ 0 (fun q h => upd_ne _ _ h) (upd_at ..) (M_0 t2))
        | succ d =>
          rw [if_neg (show ¬ nI (d + 1) = 0 from nI_ne0 (by omega) (by omega))]
          unfold M_X9_fewestShown_61
          dsimp only
          rw [if_pos vc, nI_clamp (by omega)]
          obtain ⟨sh', x', a1, a2, a3, a4⟩ := m_fs65 (last := last) x1 rc12 (M_X9_fewestShown_22 mb x1 (nI g) (bI last) rc12 fu) ho hr hbn hf hg y t1 t2 sh (fun q h1 h2 h3 => hS q d h1 h2 h3 (Or.inl (by omega))) 200 0 1000 (upd sh c 1000) (by omega) (by omega) (upd_at ..) (Nat.le_refl _) (fun q h => upd_ne _ _ h) (MN_0 ..)
          rw [show M_X9_fewestShown_65 mb x1 (nI g) (bI last) rc12 (M_X9_fewestShown_22 mb x1 (nI g) (bI last) rc12 fu) 200 (f, upd sh c 1000, nI (d + 1), nI c, 0) = _ from a1]
          refine ih (c + 1) sh' (by omega) (by omega) (done sh' x' a3 a2 (MN_end a4 ho.1 (sw_le bn g last) (by omega) t2 ?_))
          intro q h1 h2
          by_cases qn : q < R * C
          · obtain ⟨v, v1, _⟩ := hS q d qn ((opn_s qn).mp h1) h2 (Or.inl (by omega))
            exact ⟨v, v1⟩
          · exact absurd h1 (by
              rw [Nat.testBit_lt_two_pow (Nat.lt_of_lt_of_le (opn_lt R C sg) (Nat.pow_le_pow_right (by omega) (show R * C ≤ q by omega)))]
              decide)
      · have fne : ¬ f c = nI d := by
          by_cases s : sg c = 35
          · rw [hfw c y s (fun z => hgs (z ▸ s))]
            exact w_ne (by omega) (by omega) (by omega)
          · rcases hf c y s with ⟨m, m1, m2, m3⟩ | ⟨m1, m2⟩
            · rw [m3]; exact w_ne (by omega) (by omega) (fun z => t ⟨s, z ▸ m2⟩)
            · rw [m2]; exact w_ne (by omega) (by omega) (by omega)
        rw [if_neg fne]
        exact goOn t
    · have e : c = R * C := by omega
      rw [e, if_pos (nI_le (Nat.le_refl _) (by omega)), ← nI_succ]
      refine ⟨sh, rfl, ?_⟩
      intro q n h1 h2 h3 h4
      refine hS q n h1 h2 h3 ?_
      rcases h4 with h4 | ⟨h4, h5⟩
      · rcases Nat.lt_or_ge n d with u | u
        · exact Or.inl u
        · exact Or.inr ⟨by omega, by omega⟩
      · omega
theorem m_fewestShown {R C g c n bn : Nat} {last : Bool} {sg : Nat → Nat} {dr th er k : Nat} {wc wl wd : Nat → Nat} {mb : BT} (mf mz : AR) (ho : okS R C sg dr th er k wc wl wd) (hr : rM R C sg dr th er k wc wl wd mb) (hbn : brs R C sg er wc wl wd k = bn) (hg : g < R * C) (hgs : sg g ≠ 35) (hc : c < R * C) (hs : sg c ≠ 35) (hd : isD R C sg (opn R C sg) g n c) : ∃ v f sh, M_X9_fewestShown mb mf mz (nI c) (nI g) (bI last) = some (nI v, f, sh) ∧ isM R C sg (opn R C sg) g (sw bn g last) n c v := by
  have h16 := ho.1.n16
  have hA := lt16 ho.1 (opn_lt R C sg)
  have h15 := D_15 ho.1 n c hc hd
  obtain ⟨f, f1, f2, f3⟩ := m_findFarW (g := g) mf ho hr hA hg
  unfold M_X9_fewestShown
  rw [m_floor ho hr, bx, f1, bx]
  have lp : ∀ fu d (sh : AR), d ≤ 16 → 16 - d < fu → SL R C sg (opn R C sg) g (sw bn g last) sh d 0 → ∃ sh', M_X9_fewestShown_12 mb (nI c) (nI g) (bI last) fu (f, sh, nI d) = some (sh' c, f, sh') ∧ SL R C sg (opn R C sg) g (sw bn g last) sh' 16 0 := by
    intro fu
    induction fu with
    | zero => intro d sh _ h; omega
    | succ fu ih =>
      intro d sh hd' hfu hS
      show ∃ sh', M_X9_fewestShown_12b _ _ _ _ _ _ = _ ∧ _
      unfold M_X9_fewestShown_12b
      dsimp only
      rcases Nat.lt_or_ge d 16 with y | y
      · rw [if_neg (show ¬ (16 : Int32) ≤ nI d from nI_ge (b := 16) y (by omega))]
        obtain ⟨sh', a1, a2⟩ := m_fs22 (last := last) (nI c) (M_X9_fewestShown_12 mb (nI c) (nI g) (bI last) fu) ho hr hbn f2 f3 hg hgs y 200 0 sh (by omega) (by omega) hS
        rw [show M_X9_fewestShown_22 mb (nI c) (nI g) (bI last) (M_X9_fewestShown_12 mb (nI c) (nI g) (bI last) fu) 200 (f, sh, nI d, 0) = _ from a1]
        exact ih (d + 1) sh' (by omega) (by omega) a2
      · have e : d = 16 := by omega
        subst e
        rw [if_pos (show (16 : Int32) ≤ nI 16 by decide +kernel), if_pos (nI_in (c := c) (N := 16) (by omega) (by omega)), nI_clamp (by omega)]
        exact ⟨sh, rfl, hS⟩
  obtain ⟨sh', l1, l2⟩ := lp 200 0 mz (by omega) (by omega) (fun q n _ _ _ h => by omega)
  obtain ⟨v, v1, v2⟩ := l2 c n hc hs hd (Or.inl (by omega))
  refine ⟨v, f, sh', ?_, v1⟩
  rw [← v2]
  exact l1
