/-! Ways and how long they are; the reference's distances -/
/-- a way of n steps from a cell to g, over cells of A -/
def wk (R C : Nat) (sg : Nat → Nat) (A g : Nat) : Nat → Nat → Prop
  | 0, c => c = g
  | n + 1, c => ∃ w q, w < 4 ∧ stp R C sg c w = some q ∧ A.testBit q = true ∧ wk R C sg A g n q
/-- a shortest one -/
def isD (R C : Nat) (sg : Nat → Nat) (A g n c : Nat) : Prop := wk R C sg A g n c ∧ ∀ m, m < n → ¬ wk R C sg A g m c
noncomputable def dc (p : Prop) : Bool := @decide p (Classical.propDecidable p)
theorem dc_iff {p : Prop} : dc p = true ↔ p := by
  unfold dc
  exact @decide_eq_true_iff p (Classical.propDecidable p)
theorem dc_no {p : Prop} (h : ¬ p) : dc p = false := by
  cases e : dc p
  · rfl
  · exact absurd (dc_iff.mp e) h
theorem D_cases (R C : Nat) (sg : Nat → Nat) (A g c : Nat) : (∃ n, isD R C sg A g n c) ∨ ∀ n, ¬ wk R C sg A g n c := by
  by_cases h : ∃ n, wk R C sg A g n c
  · obtain ⟨n, a, b⟩ := pk_least (fun n => wk R C sg A g n c) h
    exact Or.inl ⟨n, a, b⟩
  · exact Or.inr (fun n hn => h ⟨n, hn⟩)
theorem D_uniq {R C : Nat} {sg : Nat → Nat} {A g n m c : Nat} (h1 : isD R C sg A g n c) (h2 : isD R C sg A g m c) : n = m := by
  rcases Nat.lt_trichotomy n m with y | y | y
  · exact absurd h1.1 (h2.2 n y)
  · exact y
  · exact absurd h2.1 (h1.2 m y)
theorem D_next {R C : Nat} {sg : Nat → Nat} {A g n c : Nat} (h : isD R C sg A g (n + 1) c) : ∃ w q, w < 4 ∧ stp R C sg c w = some q ∧ A.testBit q = true ∧ isD R C sg A g n q := by
  obtain ⟨⟨w, q, h1, h2, h3, h4⟩, h5⟩ := h
  exact ⟨w, q, h1, h2, h3, h4, fun m hm z => h5 (m + 1) (by omega) ⟨w, q, h1, h2, h3, z⟩⟩
theorem cn_mono {P Q : Nat → Bool} : ∀ n, (∀ i, i < n → P i = true → Q i = true) → cn P n ≤ cn Q n := by
  intro n
  induction n with
  | zero => intro _; exact Nat.le_refl _
  | succ n ih =>
    intro h
    have h1 := ih (fun i hi => h i (by omega))
    have h2 := h n (by omega)
    show cn P n + (if P n then 1 else 0) ≤ cn Q n + (if Q n then 1 else 0)
    cases e : P n
    · simp; omega
    · rw [h2 e]; simp; omega
theorem cn_lt {P Q : Nat → Bool} {t : Nat} (hp : P t = false) (hq : Q t = true) : ∀ n, (∀ i, i < n → P i = true → Q i = true) → t < n → cn P n < cn Q n := by
  intro n
  induction n with
  | zero => intro _ h; omega
  | succ n ih =>
    intro h ht
    show cn P n + (if P n then 1 else 0) < cn Q n + (if Q n then 1 else 0)
    by_cases e : t = n
    · subst e
      have := cn_mono (P := P) (Q := Q) t (fun i hi => h i (by omega))
      rw [hp, hq]; simp; omega
    · have h1 := ih (fun i hi => h i (by omega)) (by omega)
      have h2 := h n (by omega)
      cases u : P n
      · simp; omega
      · rw [h2 u]; simp; omega
theorem D_15 {R C : Nat} {sg : Nat → Nat} {A g : Nat} (h : okD R C) : ∀ n c, c < R * C → isD R C sg A g n c → n ≤ 15 := by
  have h16 := h.n16
  have key : ∀ n, (∃ c, c < R * C ∧ isD R C sg A g n c) → n + 1 ≤ cn (fun i => dc (∃ m, m ≤ n ∧ wk R C sg A g m i)) (R * C) := by
    intro n
    induction n with
    | zero =>
      intro ⟨c, hc, hd⟩
      rcases Nat.eq_zero_or_pos (cn (fun i => dc (∃ m, m ≤ 0 ∧ wk R C sg A g m i)) (R * C)) with z | z
      · have := (cn_0 _ _).mp z c hc
        rw [dc_iff.mpr ⟨0, Nat.le_refl _, hd.1⟩] at this
        exact absurd this (by decide)
      · omega
    | succ n ih =>
      intro ⟨c, hc, hd⟩
      obtain ⟨w, q, h1, h2, h3, h4⟩ := D_next hd
      have hq := (stp_lt h hc (by omega) h2).1
      have i1 := ih ⟨q, hq, h4⟩
      have i2 := cn_lt (P := fun i => dc (∃ m, m ≤ n ∧ wk R C sg A g m i)) (Q := fun i => dc (∃ m, m ≤ n + 1 ∧ wk R C sg A g m i)) (t := c) (dc_no (fun ⟨m, m1, m2⟩ => hd.2 m (by omega) m2)) (dc_iff.mpr ⟨n + 1, Nat.le_refl _, hd.1⟩) (R * C) (fun i _ z => by
        obtain ⟨m, m1, m2⟩ := dc_iff.mp z
        exact dc_iff.mpr ⟨m, by omega, m2⟩) hc
      omega
  intro n c hc hd
  have := key n ⟨c, hc, hd⟩
  have := cn_le (fun i => dc (∃ m, m ≤ n ∧ wk R C sg A g m i)) (R * C)
  omega
/-- a step more at the end -/
theorem wk_snoc {R C : Nat} {sg : Nat → Nat} {A q c w : Nat} (hw : w < 4) (hs : stp R C sg q w = some c) (ha : A.testBit c = true) : ∀ n x, wk R C sg A q n x → wk R C sg A c (n + 1) x := by
  intro n
  induction n with
  | zero =>
    intro x hx
    have e : x = q := hx
    subst e
    exact ⟨w, c, hw, hs, ha, rfl⟩
  | succ n ih =>
    intro x ⟨w', y, h1, h2, h3, h4⟩
    exact ⟨w', y, h1, h2, h3, ih y h4⟩
theorem wk_rev {R C : Nat} {sg : Nat → Nat} {A g : Nat} (h : okD R C) : ∀ n c, c < R * C → sg c ≠ 35 → A.testBit c = true → wk R C sg A g n c → wk R C sg A c n g := by
  intro n
  induction n with
  | zero => intro c _ _ _ hw; exact Eq.symm hw
  | succ n ih =>
    intro c hc hs ha ⟨w, q, h1, h2, h3, h4⟩
    obtain ⟨q1, q2, q3⟩ := stp_lt h hc (by omega) h2
    have n2 := nb_op h hc (show w < 5 by omega) q3
    have ho : opw w < 4 := by
      obtain rfl | rfl | rfl | rfl : w = 0 ∨ w = 1 ∨ w = 2 ∨ w = 3 := by omega
      · show 2 < 4; omega
      · show 3 < 4; omega
      · show 0 < 4; omega
      · show 1 < 4; omega
    exact wk_snoc ho (stp_of n2 hs) ha n g (ih q q1 q2 h3 h4)
theorem D_rev {R C : Nat} {sg : Nat → Nat} {A g n c : Nat} (h : okD R C) (hc : c < R * C) (hs : sg c ≠ 35) (ha : A.testBit c = true) (hg : g < R * C) (hgs : sg g ≠ 35) (hga : A.testBit g = true) (hd : isD R C sg A g n c) : isD R C sg A c n g := ⟨wk_rev h n c hc hs ha hd.1, fun m hm z => hd.2 m hm (wk_rev h m g hg hgs hga z)⟩
/-- what the reference's row holds -/
def FRr (R C : Nat) (sg : Nat → Nat) (A g : Nat) (f : AR) (F : Nat → Nat) : Prop := ∀ c, c < R * C → f c = nI (F c) ∧ F c ≤ 1000 ∧ (F c = 1000 ∨ (wk R C sg A g (F c) c ∧ (sg c ≠ 35 ∨ c = g)))
theorem bitA {A q : Nat} (hA : A < 65536) (hq : q < 16) : ((nI A >>> (nI q &&& 31)) &&& (1 : Int32)) = (if A.testBit q then nI 1 else nI 0) := by
  rw [n_sshr (by omega) (by omega), show (1 : Int32) = nI 1 from rfl, n_bitv (by omega)]
theorem m_ff53 {R C A g c : Nat} {sg : Nat → Nat} {dr th er k : Nat} {wc wl wd : Nat → Nat} {mb : BT} (x1 rr : Int32) (rc32 : AR × Int32 → Option AR) (rc41 : AR × Int32 × Int32 → Option AR) (ho : okS R C sg dr th er k wc wl wd) (hr : rM R C sg dr th er k wc wl wd mb) (hA : A < 65536) (hc : c < R * C) (hs : sg c ≠ 35) : ∀ fu w (f : AR) (F : Nat → Nat), w ≤ 4 → 4 - w < fu → FRr R C sg A g f F → ∃ f' F', M_X9_findFar_53 mb x1 (nI A) rc32 rc41 fu (f, rr, nI c, nI w) = rc41 (f', rr, nI (c + 1)) ∧ FRr R C sg A g f' F' ∧ (∀ i, F' i ≤ F i) ∧ ∀ w' q, w ≤ w' → w' < 4 → stp R C sg c w' = some q → A.testBit q = true → F' c ≤ F q + 1 := by
  have h16 := ho.1.n16
  intro fu
  induction fu with
  | zero => intro w f F _ h; omega
  | succ fu ih =>
    intro w f F hw hfu hF
    show ∃ f' F', M_X9_findFar_53b _ _ _ _ _ _ _ = _ ∧ _
    unfold M_X9_findFar_53b M_X9_findFar_97 M_X9_findFar_98 M_X9_findFar_142 M_X9_findFar_149 M_X9_findFar_156
    dsimp only
    rcases Nat.lt_or_ge w 4 with y | y
    · rw [if_neg (show ¬ (4 : Int32) ≤ nI w from nI_ge (b := 4) y (by omega)), m_isWall ho hr hc, if_neg hs, bx, if_pos k00, m_beyond ho hr hc (by omega), bx, if_pos (nI_in (c := c) (N := 16) (by omega) (by omega))]
      have keep : (∀ q, stp R C sg c w = some q → A.testBit q = true → F c ≤ F q + 1) → ∃ f' F', (if vin (nI c) 16 then M_X9_findFar_53 mb x1 (nI A) rc32 rc41 fu ((upd f (nI c).toNatClampNeg (f (nI c).toNatClampNeg)), rr, nI c, (nI w + (1 : Int32))) else none) = rc41 (f', rr, nI (c + 1)) ∧ FRr R C sg A g f' F' ∧ (∀ i, F' i ≤ F i) ∧ ∀ w' q, w ≤ w' → w' < 4 → stp R C sg c w' = some q → A.testBit q = true → F' c ≤ F q + 1 := by
        intro hk
        rw [if_pos (nI_in (c := c) (N := 16) (by omega) (by omega)), upd_self, ← nI_succ]
        obtain ⟨f', F', a1, a2, a3, a4⟩ := ih (w + 1) f F (by omega) (by omega) hF
        refine ⟨f', F', a1, a2, a3, ?_⟩
        intro w' q h1 h2 h3 h4
        by_cases t : w' = w
        · subst t
          exact Nat.le_trans (a3 c) (hk q h3 h4)
        · exact a4 w' q (by omega) h2 h3 h4
      cases e : stp R C sg c w with
      | none =>
        rw [if_pos (show oI none < 0 by decide +kernel), if_pos k00]
        exact keep (fun q z => by rw [e] at z; exact absurd z (by simp))
      | some q =>
        obtain ⟨q1, q2, q3⟩ := stp_lt ho.1 hc (show w < 5 by omega) e
        rw [show oI (some q) = nI q from rfl, if_neg (nI_pos (by omega)), bitA hA (by omega)]
        cases ea : A.testBit q
        · rw [if_neg (show ¬ false = true by decide), if_neg (show ¬ nI 0 = 1 by decide +kernel), if_pos k00]
          exact keep (fun q' z z2 => by rw [e] at z; injection z with z; rw [← z, ea] at z2; exact absurd z2 (by decide))
        · obtain ⟨b1, b2, b3⟩ := hF q q1
          obtain ⟨c1, c2, c3⟩ := hF c hc
          rw [if_pos (show true = true from rfl), if_pos (show nI 1 = 1 from rfl), if_neg k10, if_pos (nI_in (c := q) (N := 16) (by omega) (by omega))]
          by_cases le : F c ≤ F q + 1
          · rw [if_pos (show f (nI c).toNatClampNeg ≤ f (nI q).toNatClampNeg + 1 by rw [nI_clamp (by omega), nI_clamp (by omega), b1, c1, ← nI_succ]; exact nI_le le (by omega)), if_pos (nI_in (c := c) (N := 16) (by omega) (by omega))]
            exact keep (fun q' z _ => by rw [e] at z; injection z with z; rw [← z]; exact le)
          · rw [if_neg (show ¬ f (nI c).toNatClampNeg ≤ f (nI q).toNatClampNeg + 1 by rw [nI_clamp (by omega), nI_clamp (by omega), b1, c1, ← nI_succ]; exact nI_ge (by omega) (by omega)), if_pos (nI_in (c := q) (N := 16) (by omega) (by omega)), if_pos (nI_in (c := c) (N := 16) (by omega) (by omega)), if_pos (nI_in (c := c) (N := 16) (by omega) (by omega)), nI_clamp (by omega), nI_clamp (by omega), b1, ← nI_succ, ← nI_succ]
            have F2 : FRr R C sg A g (upd f c (nI (F q + 1))) (updN F c (F q + 1)) := by
              intro i hi
              by_cases t : i = c
              · subst t
                rw [upd_at, updN_at]
                refine ⟨rfl, by omega, Or.inr ?_⟩
                rcases b3 with b3 | b3
                · omega
                · exact ⟨⟨w, q, y, e, ea, b3.1⟩, Or.inl hs⟩
              · rw [upd_ne _ _ t, updN_ne _ _ t]; exact hF i hi
            have le2 : ∀ i, updN F c (F q + 1) i ≤ F i := by
              intro i
              by_cases t : i = c
              · subst t; rw [updN_at]; omega
              · rw [updN_ne _ _ t]; exact Nat.le_refl _
            obtain ⟨f', F', a1, a2, a3, a4⟩ := ih (w + 1) _ _ (by omega) (by omega) F2
            refine ⟨f', F', a1, a2, fun i => Nat.le_trans (a3 i) (le2 i), ?_⟩
            intro w' q' h1 h2 h3 h4
            by_cases t : w' = w
            · subst t
              rw [e] at h3; injection h3 with h3; subst h3
              have := a3 c
              rw [updN_at] at this
              exact this
            · have := a4 w' q' (by omega) h2 h3 h4
              have := le2 q'
              omega
    · have e : w = 4 := by omega
      subst e
      rw [if_pos (show (4 : Int32) ≤ nI 4 by decide +kernel), ← nI_succ]
      exact ⟨f, F, rfl, hF, fun i => Nat.le_refl _, fun w' q h1 h2 => absurd h1 (by omega)⟩
theorem m_ff41 {R C A g : Nat} {sg : Nat → Nat} {dr th er k : Nat} {wc wl wd : Nat → Nat} {mb : BT} (x1 : Int32) (rr : Int32) (rc32 : AR × Int32 → Option AR) (ho : okS R C sg dr th er k wc wl wd) (hr : rM R C sg dr th er k wc wl wd mb) (hA : A < 65536) : ∀ fu c (f : AR) (F : Nat → Nat), c ≤ R * C → R * C - c < fu → FRr R C sg A g f F → ∃ f' F', M_X9_findFar_41 mb x1 (nI A) rc32 fu (f, rr, nI c) = rc32 (f', rr + 1) ∧ FRr R C sg A g f' F' ∧ (∀ i, F' i ≤ F i) ∧ ∀ i w' q, c ≤ i → i < R * C → sg i ≠ 35 → w' < 4 → stp R C sg i w' = some q → A.testBit q = true → F' i ≤ F q + 1 := by
  have h16 := ho.1.n16
  intro fu
  induction fu with
  | zero => intro c f F _ h; omega
  | succ fu ih =>
    intro c f F hc hfu hF
    show ∃ f' F', M_X9_findFar_41b _ _ _ _ _ _ = _ ∧ _
    unfold M_X9_findFar_41b M_X9_findFar_162
    dsimp only
    rw [m_cellsM hr, bx]
    rcases Nat.lt_or_ge c (R * C) with y | y
    · rw [if_neg (nI_ge y (by omega))]
      by_cases s : sg c = 35
      · have e : M_X9_findFar_53 mb x1 (nI A) rc32 (M_X9_findFar_41 mb x1 (nI A) rc32 fu) 200 (f, rr, nI c, 0) = M_X9_findFar_41 mb x1 (nI A) rc32 fu (f, rr, nI (c + 1)) := by
          show M_X9_findFar_53b _ _ _ _ _ _ _ = _
          unfold M_X9_findFar_53b M_X9_findFar_156
          dsimp only
          rw [if_neg (show ¬ (4 : Int32) ≤ 0 by decide +kernel), m_isWall ho hr y, if_pos s, bx, if_neg k10, ← nI_succ]
        rw [e]
        obtain ⟨f', F', a1, a2, a3, a4⟩ := ih (c + 1) f F (by omega) (by omega) hF
        refine ⟨f', F', a1, a2, a3, ?_⟩
        intro i w' q h1 h2 h3
        by_cases t : i = c
        · subst t; exact absurd s h3
        · exact a4 i w' q (by omega) h2 h3
      · obtain ⟨f1, F1, b1, b2, b3, b4⟩ := m_ff53 (g := g) x1 rr rc32 (M_X9_findFar_41 mb x1 (nI A) rc32 fu) ho hr hA y s 200 0 f F (by omega) (by omega) hF
        rw [show M_X9_findFar_53 mb x1 (nI A) rc32 (M_X9_findFar_41 mb x1 (nI A) rc32 fu) 200 (f, rr, nI c, 0) = _ from b1]
        obtain ⟨f', F', a1, a2, a3, a4⟩ := ih (c + 1) f1 F1 (by omega) (by omega) b2
        refine ⟨f', F', a1, a2, fun i => Nat.le_trans (a3 i) (b3 i), ?_⟩
        intro i w' q h1 h2 h3 h4 h5 h6
        by_cases t : i = c
        · subst t
          exact Nat.le_trans (a3 i) (b4 w' q (by omega) h4 h5 h6)
        · have := a4 i w' q (by omega) h2 h3 h4 h5 h6
          have := b3 q
          omega
    · have e : c = R * C := by omega
      rw [e, if_pos (nI_le (Nat.le_refl _) (by omega))]
      exact ⟨f, F, rfl, hF, fun i => Nat.le_refl _, fun i w' q h1 h2 => absurd h1 (by omega)⟩
theorem m_ff32 {R C A g : Nat} {sg : Nat → Nat} {dr th er k : Nat} {wc wl wd : Nat → Nat} {mb : BT} (x1 : Int32) (ho : okS R C sg dr th er k wc wl wd) (hr : rM R C sg dr th er k wc wl wd mb) (hA : A < 65536) : ∀ fu r (f : AR) (F : Nat → Nat), r ≤ 16 → 16 - r < fu → FRr R C sg A g f F → (∀ c m, c < R * C → sg c ≠ 35 → m ≤ r → wk R C sg A g m c → F c ≤ m) → ∃ f' F', M_X9_findFar_32 mb x1 (nI A) fu (f, nI r) = some f' ∧ FRr R C sg A g f' F' ∧ ∀ c m, c < R * C → sg c ≠ 35 → m ≤ 16 → wk R C sg A g m c → F' c ≤ m := by
  have h16 := ho.1.n16
  intro fu
  induction fu with
  | zero => intro r f F _ h; omega
  | succ fu ih =>
    intro r f F hr' hfu hF hC
    show ∃ f' F', M_X9_findFar_32b _ _ _ _ _ = _ ∧ _
    unfold M_X9_findFar_32b
    dsimp only
    rcases Nat.lt_or_ge r 16 with y | y
    · rw [if_neg (show ¬ (16 : Int32) ≤ nI r from nI_ge (b := 16) y (by omega))]
      obtain ⟨f1, F1, b1, b2, b3, b4⟩ := m_ff41 (g := g) x1 (nI r) (M_X9_findFar_32 mb x1 (nI A) fu) ho hr hA 200 0 f F (by omega) (by omega) hF
      rw [show M_X9_findFar_41 mb x1 (nI A) (M_X9_findFar_32 mb x1 (nI A) fu) 200 (f, nI r, 0) = _ from b1, ← nI_succ]
      refine ih (r + 1) f1 F1 (by omega) (by omega) b2 ?_
      intro c m h1 h2 h3 h4
      by_cases t : m = r + 1
      · subst t
        obtain ⟨w, q, w1, w2, w3, w4⟩ := h4
        obtain ⟨q1, q2, q3⟩ := stp_lt ho.1 h1 (show w < 5 by omega) w2
        have := b4 c w q (by omega) h1 h2 w1 w2 w3
        have := hC q r q1 q2 (by omega) w4
        omega
      · exact Nat.le_trans (b3 c) (hC c m h1 h2 (by omega) h4)
    · have e : r = 16 := by omega
      subst e
      rw [if_pos (show (16 : Int32) ≤ nI 16 by decide +kernel)]
      exact ⟨f, F, rfl, hF, hC⟩
/-- the reference's distances: what they are -/
theorem m_findFarW {R C A g : Nat} {sg : Nat → Nat} {dr th er k : Nat} {wc wl wd : Nat → Nat} {mb : BT} (mf : AR) (ho : okS R C sg dr th er k wc wl wd) (hr : rM R C sg dr th er k wc wl wd mb) (hA : A < 65536) (hg : g < R * C) : ∃ f, M_X9_findFar mb mf (nI g) (nI A) = some f ∧ (∀ c, c < R * C → sg c ≠ 35 → (∃ n, n ≤ 15 ∧ isD R C sg A g n c ∧ f c = nI n) ∨ ((∀ n, ¬ wk R C sg A g n c) ∧ f c = nI 1000)) ∧ ∀ c, c < R * C → sg c = 35 → c ≠ g → f c = nI 1000 := by
  have h16 := ho.1.n16
  have lp : ∀ fu j (f : AR), j ≤ 16 → 16 - j < fu → (∀ i, i < j → f i = nI 1000) → ∃ f', M_X9_findFar_2 mb (nI g) (nI A) fu (f, nI j) = M_X9_findFar_32 mb (nI g) (nI A) 200 (upd f' g 0, 0) ∧ ∀ i, i < 16 → f' i = nI 1000 := by
    intro fu
    induction fu with
    | zero => intro j f _ h; omega
    | succ fu ih =>
      intro j f hj hfu hf
      show ∃ f', M_X9_findFar_2b _ _ _ _ _ = _ ∧ _
      unfold M_X9_findFar_2b
      dsimp only
      rcases Nat.lt_or_ge j 16 with y | y
      · rw [if_neg (show ¬ (16 : Int32) ≤ nI j from nI_ge (b := 16) y (by omega)), if_pos (nI_in y (by omega)), nI_clamp (by omega), ← nI_succ]
        refine ih (j + 1) _ (by omega) (by omega) ?_
        intro i hi
        by_cases t : i = j
        · subst t; exact upd_at ..
        · rw [upd_ne _ _ t]; exact hf i (by omega)
      · have e : j = 16 := by omega
        subst e
        rw [if_pos (show (16 : Int32) ≤ nI 16 by decide +kernel), if_pos (nI_in (c := g) (N := 16) (by omega) (by omega)), nI_clamp (by omega)]
        exact ⟨f, rfl, hf⟩
  unfold M_X9_findFar
  obtain ⟨f0, l1, l2⟩ := lp 200 0 mf (by omega) (by omega) (fun i hi => absurd hi (by omega))
  rw [show M_X9_findFar_2 mb (nI g) (nI A) 200 (mf, 0) = _ from l1]
  have F0 : FRr R C sg A g (upd f0 g 0) (updN (fun _ => 1000) g 0) := by
    intro i hi
    by_cases t : i = g
    · subst t
      rw [upd_at, updN_at]
      exact ⟨rfl, by omega, Or.inr ⟨rfl, Or.inr rfl⟩⟩
    · rw [upd_ne _ _ t, updN_ne _ _ t]
      exact ⟨l2 i (by omega), Nat.le_refl _, Or.inl rfl⟩
  obtain ⟨f', F', a1, a2, a3⟩ := m_ff32 (g := g) (nI g) ho hr hA 200 0 _ _ (by omega) (by omega) F0 (by
    intro c m _ _ h3 h4
    have e : m = 0 := by omega
    subst e
    have ec : c = g := h4
    subst ec
    rw [updN_at]; exact Nat.le_refl _)
  refine ⟨f', a1, ?_, ?_⟩
  rotate_left
  · intro c hc hs hg'
    obtain ⟨b1, b2, b3⟩ := a2 c hc
    rcases b3 with b3 | ⟨_, b3 | b3⟩
    · rw [b1, b3]
    · exact absurd hs b3
    · exact absurd b3 hg'
  intro c hc hs
  obtain ⟨b1, b2, b3⟩ := a2 c hc
  rcases D_cases R C sg A g c with ⟨n, hn⟩ | hn
  · left
    have h15 := D_15 ho.1 n c hc hn
    have le := a3 c n hc hs (by omega) hn.1
    have eF : F' c = n := by
      rcases b3 with b3 | b3
      · omega
      · rcases Nat.lt_or_ge (F' c) n with y | y
        · exact absurd b3.1 (hn.2 _ y)
        · omega
    exact ⟨n, h15, hn, by rw [b1, eF]⟩
  · right
    refine ⟨hn, ?_⟩
    rcases b3 with b3 | b3
    · rw [b1, b3]
    · exact absurd b3.1 (hn _)
theorem m_findFar {R C A g : Nat} {sg : Nat → Nat} {dr th er k : Nat} {wc wl wd : Nat → Nat} {mb : BT} (mf : AR) (ho : okS R C sg dr th er k wc wl wd) (hr : rM R C sg dr th er k wc wl wd mb) (hA : A < 65536) (hg : g < R * C) : ∃ f, M_X9_findFar mb mf (nI g) (nI A) = some f ∧ ∀ c, c < R * C → sg c ≠ 35 → (∃ n, n ≤ 15 ∧ isD R C sg A g n c ∧ f c = nI n) ∨ ((∀ n, ¬ wk R C sg A g n c) ∧ f c = nI 1000) := by
  obtain ⟨f, a, b, _⟩ := m_findFarW mf ho hr hA hg
  exact ⟨f, a, b⟩
