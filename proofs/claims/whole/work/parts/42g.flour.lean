/-! flour: sets without which there is no way -/
def cutS (R C : Nat) (sg : Nat → Nat) (dr th m : Nat) : Prop := ∀ n, ¬ wk R C sg (andn (opn R C sg) m) dr n th
def frS (R C : Nat) (sg : Nat → Nat) (dr th : Nat) : Nat := andn (andn (opn R C sg) (2 ^ dr)) (2 ^ th)
theorem frS_lt (R C : Nat) (sg : Nat → Nat) (dr th : Nat) : frS R C sg dr th < 2 ^ (R * C) := andn_lt (andn_lt (opn_lt R C sg))
theorem sub_iff {m f : Nat} : andn m f = 0 ↔ ∀ i, m.testBit i = true → f.testBit i = true := by
  constructor
  · intro h i hi
    have e : (andn m f).testBit i = false := by rw [h]; exact Nat.zero_testBit i
    rw [andn_bit, hi] at e
    cases g : f.testBit i
    · rw [g] at e; exact absurd e (by decide)
    · rfl
  · intro h
    apply Nat.eq_of_testBit_eq
    intro i
    rw [andn_bit, Nat.zero_testBit]
    cases g : m.testBit i
    · rfl
    · rw [h i g]; rfl
theorem sub_le {m f : Nat} (h : andn m f = 0) : m ≤ f := by
  have e : m &&& f = m := by
    apply Nat.eq_of_testBit_eq
    intro i
    rw [Nat.testBit_and]
    cases g : m.testBit i
    · rfl
    · rw [sub_iff.mp h i g]; rfl
  rw [← e]
  exact Nat.and_le_right
theorem sub_lt {m f n : Nat} (h : andn m f = 0) (hf : f < 2 ^ n) : m < 2 ^ n := Nat.lt_of_le_of_lt (sub_le h) hf
theorem fr_no {R C dr th m : Nat} {sg : Nat → Nat} (hm : andn m (frS R C sg dr th) = 0) : m.testBit dr = false ∧ m.testBit th = false := by
  have h := sub_iff.mp hm
  constructor
  · cases g : m.testBit dr
    · rfl
    · have e := h dr g
      unfold frS at e
      rw [andn_bit, andn_bit, Nat.testBit_two_pow] at e
      simp at e
  · cases g : m.testBit th
    · rfl
    · have e := h th g
      unfold frS at e
      rw [andn_bit, Nat.testBit_two_pow] at e
      simp at e
/-- a layer more of what is reached -/
theorem RM_sp {R C A g n : Nat} {sg : Nat → Nat} (h : okD R C) (hA : A < 2 ^ (R * C)) (hs : ∀ c, c < R * C → A.testBit c = true → sg c ≠ 35) : sp R C (RMk R C sg A g n) &&& A = RMk R C sg A g (n + 1) := by
  apply bits_eq (n := R * C) (Nat.lt_of_le_of_lt Nat.and_le_right hA) (RM_lt ..)
  intro c hc
  apply b_eq
  rw [RM_on hc, Nat.testBit_and, Bool.and_eq_true, sp_on hc]
  constructor
  · intro ⟨z1, z2⟩
    refine ⟨z2, ?_⟩
    rcases z1 with z1 | ⟨w, q, hw, a, b⟩
    · obtain ⟨_, m, m1, m2⟩ := (RM_on hc).mp z1
      exact ⟨m, by omega, m2⟩
    · have hq := nb_lt h hc (show w < 5 by omega) a
      obtain ⟨b1, m, m1, m2⟩ := (RM_on hq).mp b
      exact ⟨m + 1, by omega, w, q, hw, stp_of a (hs q hq b1), b1, m2⟩
  · intro ⟨z1, m, m1, m2⟩
    refine ⟨?_, z1⟩
    by_cases t : m ≤ n
    · exact Or.inl ((RM_on hc).mpr ⟨z1, m, t, m2⟩)
    · have e : m = n + 1 := by omega
      subst e
      obtain ⟨w, q, hw, a, b, d⟩ := m2
      obtain ⟨q1, q2, q3⟩ := stp_lt h hc (show w < 5 by omega) a
      exact Or.inr ⟨w, q, hw, q3, (RM_on q1).mpr ⟨b, n, Nat.le_refl _, d⟩⟩
theorem RM_closed {R C A g i : Nat} {sg : Nat → Nat} (h : okD R C) (he : RMk R C sg A g (i + 1) = RMk R C sg A g i) : ∀ n c, c < R * C → A.testBit c = true → wk R C sg A g n c → (RMk R C sg A g i).testBit c = true := by
  intro n
  induction n with
  | zero => intro c hc ha hw; exact (RM_on hc).mpr ⟨ha, 0, by omega, hw⟩
  | succ n ih =>
    intro c hc ha ⟨w, q, h1, h2, h3, h4⟩
    have hq := (stp_lt h hc (show w < 5 by omega) h2).1
    obtain ⟨_, m, m1, m2⟩ := (RM_on hq).mp (ih q hq h3 h4)
    rw [← he]
    exact (RM_on hc).mpr ⟨ha, m + 1, by omega, w, q, h1, h2, h3, m2⟩
theorem m_isCut {R C m : Nat} {sg : Nat → Nat} {dr th er k : Nat} {wc wl wd : Nat → Nat} (ho : okS R C sg dr th er k wc wl wd) (hm : andn m (frS R C sg dr th) = 0) : (cutS R C sg dr th m → M_X5_isCut (hOf R C sg dr th er) (nI m) = some 1) ∧ (¬ cutS R C sg dr th m → M_X5_isCut (hOf R C sg dr th er) (nI m) = some 0) := by
  have h16 := ho.1.n16
  obtain ⟨d1, d2⟩ := ho.2.2.1
  obtain ⟨t1, t2⟩ := ho.2.2.2.1
  obtain ⟨m1, m2⟩ := fr_no hm
  have hA : andn (opn R C sg) m < 2 ^ (R * C) := andn_lt (opn_lt R C sg)
  have hAs : ∀ c, c < R * C → (andn (opn R C sg) m).testBit c = true → sg c ≠ 35 := by
    intro c hc z
    rw [andn_bit, Bool.and_eq_true] at z
    exact (opn_s hc).mp z.1
  have ad : (andn (opn R C sg) m).testBit dr = true := by rw [andn_bit, (opn_s d1).mpr d2, m1]; rfl
  have at' : (andn (opn R C sg) m).testBit th = true := by rw [andn_bit, (opn_s t1).mpr t2, m2]; rfl
  have e0 : 2 ^ dr = RMk R C sg (andn (opn R C sg) m) dr 0 := by
    rw [← (LM_0 (sg := sg) (A := andn (opn R C sg) m) d1).2, one_and, if_pos ad]
  have lp : ∀ fu i, i ≤ 16 → 16 - i < fu → (cutS R C sg dr th m → M_X5_isCut_20 (hOf R C sg dr th er) (nI m) fu (nI (andn (opn R C sg) m), nI (RMk R C sg (andn (opn R C sg) m) dr i), nI i) = some 1) ∧ (¬ cutS R C sg dr th m → M_X5_isCut_20 (hOf R C sg dr th er) (nI m) fu (nI (andn (opn R C sg) m), nI (RMk R C sg (andn (opn R C sg) m) dr i), nI i) = some 0) := by
    intro fu
    induction fu with
    | zero => intro i _ h; omega
    | succ fu ih =>
      intro i hi hfu
      have ex : ∀ a, M_X5_isCut_20 (hOf R C sg dr th er) (nI m) (fu + 1) a = M_X5_isCut_20b (hOf R C sg dr th er) (nI m) (M_X5_isCut_20 (hOf R C sg dr th er) (nI m) fu) a := fun a => rfl
      rw [ex]
      unfold M_X5_isCut_20b M_X5_isCut_64
      dsimp only
      have hr16 := lt16 ho.1 (RM_lt R C sg (andn (opn R C sg) m) dr i)
      have hh : M_X8_has (nI (RMk R C sg (andn (opn R C sg) m) dr i)) (hOf R C sg dr th er).2.2.2.2.2.2.2.2.2.2.1 = some (if (RMk R C sg (andn (opn R C sg) m) dr i).testBit th then 1 else 0) := m_has (c := th) (by omega) (by omega)
      rw [hh, bx, bx]
      by_cases z : (RMk R C sg (andn (opn R C sg) m) dr i).testBit th = true
      · obtain ⟨_, n, n1, n2⟩ := (RM_on t1).mp z
        rw [if_pos z, if_neg k10, if_neg k10, ite_self]
        exact ⟨fun c => absurd n2 (c n), fun _ => rfl⟩
      · rw [if_neg z, if_pos k00, if_pos k00]
        rcases Nat.lt_or_ge i 16 with y | y
        · rw [if_neg (show ¬ (16 : Int32) ≤ nI i from nI_ge (b := 16) y (by omega)), m_spread sg dr th er ho.1 (RM_lt ..), bx, n_and, RM_sp ho.1 hA hAs, ← nI_succ]
          have hr17 := lt16 ho.1 (RM_lt R C sg (andn (opn R C sg) m) dr (i + 1))
          by_cases u : RMk R C sg (andn (opn R C sg) m) dr (i + 1) = RMk R C sg (andn (opn R C sg) m) dr i
          · rw [if_pos (show nI (RMk R C sg (andn (opn R C sg) m) dr (i + 1)) = nI (RMk R C sg (andn (opn R C sg) m) dr i) by rw [u])]
            have cu : cutS R C sg dr th m := fun n hn => z (RM_closed ho.1 u n th t1 at' hn)
            exact ⟨fun _ => rfl, fun c => absurd cu c⟩
          · rw [if_neg (w_ne (by omega) (by omega) u)]
            exact ih (i + 1) (by omega) (by omega)
        · have e : i = 16 := by omega
          subst e
          rw [if_pos (show (16 : Int32) ≤ nI 16 by decide +kernel)]
          have cu : cutS R C sg dr th m := by
            rcases D_cases R C sg (andn (opn R C sg) m) dr th with ⟨n, hn⟩ | hn
            · have := D_15 ho.1 n th t1 hn
              exact absurd ((RM_on t1).mpr ⟨at', n, by omega, hn.1⟩) z
            · exact hn
          exact ⟨fun _ => rfl, fun c => absurd cu c⟩
  unfold M_X5_isCut
  rw [m_open, bx, show M_X8_bit (hOf R C sg dr th er).2.2.2.2.2.2.2.2.2.1 = some (nI (2 ^ dr)) from m_bit (by omega), bx, n_andn]
  have key := lp 200 0 (by omega) (by omega)
  rw [← e0] at key
  exact key
theorem pc_zero {m : Nat} (hm : m < 65536) (h : pc16 m 16 = 0) : m = 0 := by
  rw [pc_cn (m := m) 16 (fun i _ => rfl)] at h
  have hz := (cn_0 _ _).mp h
  apply bits_eq (n := 16) hm (Nat.two_pow_pos _)
  intro i hi
  rw [Nat.zero_testBit]
  exact hz i hi
theorem or_hi {c s : Nat} (hs : s < 2 ^ c) : 2 ^ c ||| s = 2 ^ c + s := by
  have h := Nat.two_pow_add_eq_or_of_lt hs 1
  rw [Nat.mul_one] at h
  exact h.symm
theorem pc_add {c s : Nat} (hc : c < 16) (hs : s < 2 ^ c) : pc16 (2 ^ c ||| s) 16 = pc16 s 16 + 1 := by
  rw [pc_cn (m := 2 ^ c ||| s) 16 (fun i _ => rfl), pc_cn (m := s) 16 (fun i _ => rfl)]
  refine (cn_less (t := c) ?_ ?_ ?_ 16 hc).symm
  · rw [Nat.testBit_or, Nat.testBit_two_pow]; simp
  · exact Nat.testBit_lt_two_pow hs
  · intro i hi
    rw [Nat.testBit_or, Nat.testBit_two_pow, decide_eq_false (fun z => hi z.symm), Bool.false_or]
theorem pc_small {s : Nat} : ∀ l, l ≤ 16 → s < 2 ^ l → pc16 s 16 ≤ l := by
  intro l hl hs
  rw [pc_lt (P := fun i => s.testBit i) hl hs (fun i _ => rfl)]
  exact cn_le _ _
/-- what the search for the first set finds -/
def FC (R C : Nat) (sg : Nat → Nat) (dr th ch lim left : Nat) (z : Int32) : Prop :=
  (z = -6 ∧ ∀ s, s < 2 ^ lim → andn s (frS R C sg dr th) = 0 → pc16 s 16 = left → ¬ cutS R C sg dr th (ch ||| s)) ∨
  (∃ s, s < 2 ^ lim ∧ andn s (frS R C sg dr th) = 0 ∧ pc16 s 16 = left ∧ cutS R C sg dr th (ch ||| s) ∧ z = nI (ch ||| s) ∧ ∀ s', s' < s → andn s' (frS R C sg dr th) = 0 → pc16 s' 16 = left → ¬ cutS R C sg dr th (ch ||| s'))
theorem sub_or {a b f : Nat} (ha : andn a f = 0) (hb : andn b f = 0) : andn (a ||| b) f = 0 := by
  rw [sub_iff]
  intro i hi
  rw [Nat.testBit_or, Bool.or_eq_true] at hi
  rcases hi with h | h
  · exact sub_iff.mp ha i h
  · exact sub_iff.mp hb i h
theorem sub_bit {c f : Nat} (h : f.testBit c = true) : andn (2 ^ c) f = 0 := by
  rw [sub_iff]
  intro i hi
  rw [Nat.testBit_two_pow, decide_eq_true_iff] at hi
  rw [← hi]; exact h
theorem m_firstCut {R C : Nat} {sg : Nat → Nat} {dr th er k : Nat} {wc wl wd : Nat → Nat} (ho : okS R C sg dr th er k wc wl wd) : ∀ left fu ch lim, left < fu → left ≤ 4 → lim ≤ 16 → andn ch (frS R C sg dr th) = 0 → ∃ z, M_X5_firstCut fu (hOf R C sg dr th er) (nI ch) (nI lim) (nI left) = some z ∧ FC R C sg dr th ch lim left z := by
  have h16 := ho.1.n16
  obtain ⟨d1, d2⟩ := ho.2.2.1
  obtain ⟨t1, t2⟩ := ho.2.2.2.1
  have hf := frS_lt R C sg dr th
  have hf16 := lt16 ho.1 hf
  have lt65 : ∀ m, andn m (frS R C sg dr th) = 0 → m < 65536 := fun m h => Nat.lt_of_le_of_lt (sub_le h) hf16
  intro left
  induction left with
  | zero =>
    intro fu ch lim hfu _ hlim hch
    obtain ⟨fu, rfl⟩ : ∃ f, fu = f + 1 := ⟨fu - 1, by omega⟩
    show ∃ z, M_X5_firstCutb _ _ _ _ _ = _ ∧ _
    unfold M_X5_firstCutb
    rw [if_neg (show ¬ (0 : Int32) < nI 0 by decide +kernel)]
    obtain ⟨c1, c2⟩ := m_isCut ho hch
    have s0 : andn 0 (frS R C sg dr th) = 0 := sub_iff.mpr (fun i hi => by rw [Nat.zero_testBit] at hi; exact absurd hi (by decide))
    by_cases t : cutS R C sg dr th ch
    · rw [c1 t, bx, if_neg k10]
      refine ⟨_, rfl, Or.inr ⟨0, Nat.two_pow_pos _, s0, rfl, ?_, ?_, fun s' h => absurd h (by omega)⟩⟩
      · rw [Nat.or_zero]; exact t
      · rw [Nat.or_zero]
    · rw [c2 t, bx, if_pos k00]
      refine ⟨_, rfl, Or.inl ⟨rfl, ?_⟩⟩
      intro s _ hs hp
      have e := pc_zero (lt65 s hs) hp
      rw [e, Nat.or_zero]; exact t
  | succ l ih =>
    intro fu ch lim hfu hl hlim hch
    obtain ⟨fu, rfl⟩ : ∃ f, fu = f + 1 := ⟨fu - 1, by omega⟩
    show ∃ z, M_X5_firstCutb (M_X5_firstCut fu) _ _ _ _ = _ ∧ _
    unfold M_X5_firstCutb
    have e1 : nI (l + 1) - (1 : Int32) = nI l := (n_sub (a := l + 1) (b := 1) (by omega)).trans (by rw [Nat.add_sub_cancel])
    rw [if_pos (show (0 : Int32) < nI (l + 1) from nI_lt (a := 0) (by omega) (by omega)), m_open, bx, show M_X8_bit (hOf R C sg dr th er).2.2.2.2.2.2.2.2.2.1 = some (nI (2 ^ dr)) from m_bit (by omega), show M_X8_bit (hOf R C sg dr th er).2.2.2.2.2.2.2.2.2.2.1 = some (nI (2 ^ th)) from m_bit (by omega), bx, bx, n_andn, n_andn, e1]
    have lp : ∀ fv c, c ≤ 16 → lim - c < fv → (∀ s, s < 2 ^ c → andn s (frS R C sg dr th) = 0 → pc16 s 16 = l + 1 → ¬ cutS R C sg dr th (ch ||| s)) → ∃ z, M_X5_firstCut_50 (M_X5_firstCut fu) (hOf R C sg dr th er) (nI ch) (nI lim) (nI (l + 1)) fv (nI (frS R C sg dr th), nI c) = some z ∧ FC R C sg dr th ch lim (l + 1) z := by
      intro fv
      induction fv with
      | zero => intro c _ h; omega
      | succ fv iv =>
        intro c hc16 hfv hno
        show ∃ z, M_X5_firstCut_50b _ _ _ _ _ _ _ = _ ∧ _
        unfold M_X5_firstCut_50b M_X5_firstCut_87
        dsimp only
        rcases Nat.lt_or_ge c lim with y | y
        · have dec : ∀ s, s < 2 ^ (c + 1) → ¬ s < 2 ^ c → ∃ s1, s1 < 2 ^ c ∧ s = 2 ^ c ||| s1 ∧ s1 + 2 ^ c = s := by
            intro s h1 h2
            rw [Nat.pow_succ] at h1
            refine ⟨s - 2 ^ c, by omega, ?_, by omega⟩
            rw [or_hi (by omega)]; omega
          rw [if_neg (nI_ge y (by omega)), m_has (by omega) (by omega), bx, m_bit (by omega), bx, ← nI_succ]
          by_cases u : (frS R C sg dr th).testBit c = true
          · have hb := sub_bit u
            obtain ⟨z', r1, r2⟩ := ih fu (ch ||| 2 ^ c) c (by omega) (by omega) (by omega) (sub_or hch hb)
            rw [if_pos u, if_neg k10, n_or, e1, r1, bx]
            have parts : ∀ s, s < 2 ^ (c + 1) → ¬ s < 2 ^ c → andn s (frS R C sg dr th) = 0 → pc16 s 16 = l + 1 → ∃ s1, s1 < 2 ^ c ∧ s1 + 2 ^ c = s ∧ andn s1 (frS R C sg dr th) = 0 ∧ pc16 s1 16 = l ∧ ch ||| s = (ch ||| 2 ^ c) ||| s1 := by
              intro s h1 h2 h3 h4
              obtain ⟨s1, q1, q2, q3⟩ := dec s h1 h2
              refine ⟨s1, q1, q3, ?_, ?_, ?_⟩
              · rw [sub_iff]
                intro i hi
                exact sub_iff.mp h3 i (by rw [q2, Nat.testBit_or, hi, Bool.or_true])
              · rw [q2, pc_add (by omega) q1] at h4
                omega
              · rw [q2, Nat.or_assoc]
            rcases r2 with ⟨g1, g2⟩ | ⟨s1, g1, g2, g3, g4, g5, g6⟩
            · rw [if_pos g1]
              refine iv (c + 1) (by omega) (by omega) ?_
              intro s h1 h2 h3
              by_cases v : s < 2 ^ c
              · exact hno s v h2 h3
              · obtain ⟨s1, q1, q2, q3, q4, q5⟩ := parts s h1 v h2 h3
                rw [q5]
                exact g2 s1 q1 q3 q4
            · have rl := lt65 _ (sub_or (sub_or hch hb) g2)
              rw [g5, if_neg (m6ne (by omega))]
              have eo : (ch ||| 2 ^ c) ||| s1 = ch ||| (2 ^ c ||| s1) := Nat.or_assoc ..
              have pp : 2 ^ (c + 1) ≤ 2 ^ lim := Nat.pow_le_pow_right (by omega) y
              have sl : 2 ^ c ||| s1 < 2 ^ lim := by
                rw [or_hi g1]
                rw [Nat.pow_succ] at pp
                omega
              refine ⟨_, rfl, Or.inr ⟨2 ^ c ||| s1, sl, sub_or hb g2, by rw [pc_add (by omega) g1, g3], by rw [← eo]; exact g4, by rw [eo], ?_⟩⟩
              intro s' h1 h2 h3
              by_cases v : s' < 2 ^ c
              · exact hno s' v h2 h3
              · rw [or_hi g1] at h1
                obtain ⟨s2, q1, q2, q3, q4, q5⟩ := parts s' (by rw [Nat.pow_succ]; omega) v h2 h3
                rw [q5]
                exact g6 s2 (by omega) q3 q4
          · rw [if_neg u, if_pos k00, if_pos rfl]
            refine iv (c + 1) (by omega) (by omega) ?_
            intro s h1 h2 h3
            by_cases v : s < 2 ^ c
            · exact hno s v h2 h3
            · obtain ⟨s1, q1, q2, q3⟩ := dec s h1 v
              exact absurd (sub_iff.mp h2 c (by rw [q2, Nat.testBit_or, Nat.testBit_two_pow]; simp)) u
        · rw [if_pos (nI_le y (by omega))]
          exact ⟨_, rfl, Or.inl ⟨rfl, fun s h1 h2 h3 => hno s (Nat.lt_of_lt_of_le h1 (Nat.pow_le_pow_right (by omega) y)) h2 h3⟩⟩
    exact lp 200 l (by omega) (by omega) (fun s h1 _ h3 => by have := pc_small l (by omega) h1; omega)
/-- the first of the smallest -/
def LX (R C : Nat) (sg : Nat → Nat) (dr th b : Nat) : Prop := andn b (frS R C sg dr th) = 0 ∧ cutS R C sg dr th b ∧ ∀ s, andn s (frS R C sg dr th) = 0 → cutS R C sg dr th s → (pc16 b 16 < pc16 s 16 ∨ (pc16 b 16 = pc16 s 16 ∧ b ≤ s))
theorem LX_uniq {R C dr th a b : Nat} {sg : Nat → Nat} (h1 : LX R C sg dr th a) (h2 : LX R C sg dr th b) : a = b := by
  have x1 := h1.2.2 b h2.1 h2.2.1
  have x2 := h2.2.2 a h1.1 h1.2.1
  omega
theorem pc_nb : ∀ R, R < 5 → ∀ C, C < 5 → ∀ c, c < 16 → c < R * C → pc16 (andn (sp R C (2 ^ c)) (2 ^ c)) 16 ≤ 4 := by decide +kernel
theorem pc_mono {a b : Nat} (h : ∀ i, a.testBit i = true → b.testBit i = true) : pc16 a 16 ≤ pc16 b 16 := by
  rw [pc_cn (m := a) 16 (fun i _ => rfl), pc_cn (m := b) 16 (fun i _ => rfl)]
  exact cn_mono 16 (fun i _ => h i)
/-- the cells beside the door are such a set -/
theorem nb_cut {R C dr th er k : Nat} {sg wc wl wd : Nat → Nat} (ho : okS R C sg dr th er k wc wl wd) (hn : dr ≠ th) (ha : ∀ w, w < 4 → nb R C th w ≠ some dr) : andn (sp R C (2 ^ dr) &&& frS R C sg dr th) (frS R C sg dr th) = 0 ∧ cutS R C sg dr th (sp R C (2 ^ dr) &&& frS R C sg dr th) ∧ pc16 (sp R C (2 ^ dr) &&& frS R C sg dr th) 16 ≤ 4 := by
  have h16 := ho.1.n16
  obtain ⟨d1, d2⟩ := ho.2.2.1
  obtain ⟨t1, t2⟩ := ho.2.2.2.1
  refine ⟨?_, ?_, ?_⟩
  · rw [sub_iff]
    intro i hi
    rw [Nat.testBit_and, Bool.and_eq_true] at hi
    exact hi.2
  · have key : ∀ n c, c < R * C → c ≠ dr → (∀ w, w < 4 → nb R C c w ≠ some dr) → ¬ wk R C sg (andn (opn R C sg) (sp R C (2 ^ dr) &&& frS R C sg dr th)) dr n c := by
      intro n
      induction n with
      | zero => intro c _ h1 _ h3; exact h1 h3
      | succ n ih =>
        intro c hc h1 h2 ⟨w, q, w1, w2, w3, w4⟩
        obtain ⟨q1, q2, q3⟩ := stp_lt ho.1 hc (show w < 5 by omega) w2
        have nq : q ≠ dr := fun z => h2 w w1 (z ▸ q3)
        by_cases u : ∃ w', w' < 4 ∧ nb R C q w' = some dr
        · obtain ⟨w', u1, u2⟩ := u
          have nt : q ≠ th := fun z => ha w' u1 (z ▸ u2)
          have b1 : (sp R C (2 ^ dr)).testBit q = true := (sp_on q1).mpr (Or.inr ⟨w', dr, u1, u2, by rw [Nat.testBit_two_pow]; simp⟩)
          have b2 : (frS R C sg dr th).testBit q = true := by
            unfold frS
            rw [andn_bit, andn_bit, (opn_s q1).mpr q2, Nat.testBit_two_pow, Nat.testBit_two_pow, decide_eq_false (fun z => nq z.symm), decide_eq_false (fun z => nt z.symm)]
            rfl
          rw [andn_bit, Nat.testBit_and, b1, b2] at w3
          rw [Bool.and_eq_true] at w3
          exact absurd w3.2 (by decide)
        · exact ih q q1 nq (fun w' u1 u2 => u ⟨w', u1, u2⟩) w4
    exact fun n => key n th t1 (fun z => hn z.symm) ha
  · refine Nat.le_trans (pc_mono ?_) (pc_nb R (by have := ho.1.2.1; omega) C (by have := ho.1.2.2.2; omega) dr (by omega) d1)
    intro i hi
    rw [Nat.testBit_and, Bool.and_eq_true] at hi
    rw [andn_bit, hi.1]
    have b2 := hi.2
    unfold frS at b2
    rw [andn_bit, andn_bit, Bool.and_eq_true, Bool.and_eq_true] at b2
    rw [b2.1.2]; rfl
theorem m_fewestCut {R C : Nat} {sg : Nat → Nat} {dr th er k : Nat} {wc wl wd : Nat → Nat} (ho : okS R C sg dr th er k wc wl wd) : ((dr = th ∨ ∃ w, w < 4 ∧ nb R C th w = some dr) ∧ M_X5_fewestCut (hOf R C sg dr th er) = some (-6)) ∨ ((dr ≠ th ∧ ∀ w, w < 4 → nb R C th w ≠ some dr) ∧ ∃ b, M_X5_fewestCut (hOf R C sg dr th er) = some (nI b) ∧ LX R C sg dr th b) := by
  have h16 := ho.1.n16
  obtain ⟨d1, d2⟩ := ho.2.2.1
  obtain ⟨t1, t2⟩ := ho.2.2.2.1
  have hf16 := lt16 ho.1 (frS_lt R C sg dr th)
  have a16 := lt16 ho.1 (arnd_lt (p_lt d1) 1)
  have on : (arnd R C (2 ^ dr) 1).testBit th = true ↔ (dr = th ∨ ∃ w, w < 4 ∧ nb R C th w = some dr) := by
    show (sp R C (2 ^ dr)).testBit th = true ↔ _
    rw [sp_on t1, Nat.testBit_two_pow, decide_eq_true_iff]
    constructor
    · intro z
      rcases z with z | ⟨w, q, w1, w2, w3⟩
      · exact Or.inl z
      · rw [Nat.testBit_two_pow, decide_eq_true_iff] at w3
        exact Or.inr ⟨w, w1, by rw [w3]; exact w2⟩
    · intro z
      rcases z with z | ⟨w, w1, w2⟩
      · exact Or.inl z
      · exact Or.inr ⟨w, dr, w1, w2, by rw [Nat.testBit_two_pow]; simp⟩
  unfold M_X5_fewestCut
  rw [show M_X0_around (hOf R C sg dr th er) (hOf R C sg dr th er).2.2.2.2.2.2.2.2.2.1 1 = some (nI (arnd R C (2 ^ dr) 1)) from m_around (n := 1) sg dr th er ho.1 d1 (by omega), bx, show M_X8_has (nI (arnd R C (2 ^ dr) 1)) (hOf R C sg dr th er).2.2.2.2.2.2.2.2.2.2.1 = _ from m_has (c := th) (by omega) (by omega), bx]
  by_cases z : (arnd R C (2 ^ dr) 1).testBit th = true
  · left
    rw [if_pos z, if_neg k10]
    exact ⟨on.mp z, rfl⟩
  · right
    have nz : dr ≠ th ∧ ∀ w, w < 4 → nb R C th w ≠ some dr := ⟨fun y => z (on.mpr (Or.inl y)), fun w w1 w2 => z (on.mpr (Or.inr ⟨w, w1, w2⟩))⟩
    refine ⟨nz, ?_⟩
    rw [if_neg z, if_pos k00]
    obtain ⟨n1, n2, n3⟩ := nb_cut ho nz.1 nz.2
    have s0 : andn 0 (frS R C sg dr th) = 0 := sub_iff.mpr (fun i hi => by rw [Nat.zero_testBit] at hi; exact absurd hi (by decide))
    have lp : ∀ fu j, j ≤ 5 → 5 - j < fu → (∀ s, andn s (frS R C sg dr th) = 0 → cutS R C sg dr th s → j ≤ pc16 s 16) → ∃ b, M_X5_fewestCut_24 (hOf R C sg dr th er) fu (nI j) = some (nI b) ∧ LX R C sg dr th b := by
      intro fu
      induction fu with
      | zero => intro j _ h; omega
      | succ fu ih =>
        intro j hj hfu hno
        show ∃ b, M_X5_fewestCut_24b _ _ _ = _ ∧ _
        unfold M_X5_fewestCut_24b
        rcases Nat.lt_or_ge j 5 with y | y
        · obtain ⟨zz, f1, f2⟩ := m_firstCut (th := th) ho j 6 0 16 (by omega) (by omega) (by omega) s0
          rw [if_neg (show ¬ (4 : Int32) < nI j from nI_nlt (a := 4) (by omega) (by omega)), show M_X5_firstCut 6 (hOf R C sg dr th er) 0 16 (nI j) = some zz from f1, bx]
          rcases f2 with ⟨g1, g2⟩ | ⟨s, g1, g2, g3, g4, g5, g6⟩
          · rw [if_pos g1, ← nI_succ]
            refine ih (j + 1) (by omega) (by omega) ?_
            intro s h1 h2
            have := hno s h1 h2
            rcases Nat.lt_or_ge j (pc16 s 16) with v | v
            · exact v
            · have e : pc16 s 16 = j := by omega
              have nc := g2 s (Nat.lt_of_le_of_lt (sub_le h1) hf16) h1 e
              rw [Nat.zero_or] at nc
              exact absurd h2 nc
          · rw [Nat.zero_or] at g4 g5
            have sl : s < 65536 := g1
            rw [g5, if_neg (m6ne (by omega))]
            refine ⟨s, rfl, g2, g4, ?_⟩
            intro s' h1 h2
            have h3 := hno s' h1 h2
            rcases Nat.lt_or_ge (pc16 s 16) (pc16 s' 16) with v | v
            · exact Or.inl v
            · have e : pc16 s' 16 = j := by omega
              refine Or.inr ⟨by omega, ?_⟩
              rcases Nat.lt_or_ge s' s with x | x
              · have nc := g6 s' x h1 e
                rw [Nat.zero_or] at nc
                exact absurd h2 nc
              · exact x
        · have h5 := hno _ n1 n2
          exact absurd n3 (by omega)
    exact lp 200 0 (by omega) (by omega) (fun s _ _ => Nat.zero_le _)
/-- the best so far, on the reference's side -/
def BS (R C : Nat) (sg : Nat → Nat) (dr th n : Nat) (z : Int32) : Prop := (z = -6 ∧ ∀ s, s < n → andn s (frS R C sg dr th) = 0 → ¬ cutS R C sg dr th s) ∨ (∃ b, z = nI b ∧ andn b (frS R C sg dr th) = 0 ∧ b < n ∧ cutS R C sg dr th b ∧ ∀ s, s < n → andn s (frS R C sg dr th) = 0 → cutS R C sg dr th s → (pc16 b 16 < pc16 s 16 ∨ (pc16 b 16 = pc16 s 16 ∧ b ≤ s)))
theorem m_f103 {R C m : Nat} {sg : Nat → Nat} {dr th er k : Nat} {wc wl wd : Nat → Nat} {mb : BT} (x1 : Int32) (mf : AR) (bst : Int32) (rc : AR × Int32 × Int32 × Int32 × Int32 → Option (Int32 × AR)) (ho : okS R C sg dr th er k wc wl wd) (hr : rM R C sg dr th er k wc wl wd mb) (hm : andn m (frS R C sg dr th) = 0) : ∃ mf', (cutS R C sg dr th m → M_X9_flour_103 mb x1 rc (mf, nI (opn R C sg), nI (frS R C sg dr th), bst, nI m) = rc (mf', nI (opn R C sg), nI (frS R C sg dr th), nI m, nI (m + 1))) ∧ (¬ cutS R C sg dr th m → M_X9_flour_103 mb x1 rc (mf, nI (opn R C sg), nI (frS R C sg dr th), bst, nI m) = rc (mf', nI (opn R C sg), nI (frS R C sg dr th), bst, nI (m + 1))) := by
  have h16 := ho.1.n16
  obtain ⟨d1, d2⟩ := ho.2.2.1
  obtain ⟨t1, t2⟩ := ho.2.2.2.1
  obtain ⟨m1, m2⟩ := fr_no hm
  have hA : andn (opn R C sg) m < 2 ^ (R * C) := andn_lt (opn_lt R C sg)
  have ad : (andn (opn R C sg) m).testBit dr = true := by rw [andn_bit, (opn_s d1).mpr d2, m1]; rfl
  have at' : (andn (opn R C sg) m).testBit th = true := by rw [andn_bit, (opn_s t1).mpr t2, m2]; rfl
  obtain ⟨f, e1, e2⟩ := m_findFar (g := th) mf ho hr (lt16 ho.1 hA) t1
  refine ⟨f, ?_, ?_⟩
  · intro hc
    have no : ∀ n, ¬ wk R C sg (andn (opn R C sg) m) th n dr := fun n z => hc n (wk_rev ho.1 n dr d1 d2 ad z)
    unfold M_X9_flour_103 M_X9_flour_139 M_X9_flour_141
    dsimp only
    rw [n_andn, hr.2.2.2.1, e1, bx, hr.2.2.1, if_pos (nI_in (c := dr) (N := 16) (by omega) (by omega)), nI_clamp (by omega), FS_no e2 d1 d2 no, if_pos (show nI 1000 = 1000 from rfl), ← nI_succ]
  · intro hc
    have yes : ∃ n, wk R C sg (andn (opn R C sg) m) dr n th := by
      by_cases t : ∃ n, wk R C sg (andn (opn R C sg) m) dr n th
      · exact t
      · exact absurd (fun n z => t ⟨n, z⟩) hc
    obtain ⟨n, hn⟩ := yes
    have hn2 := wk_rev ho.1 n th t1 t2 at' hn
    unfold M_X9_flour_103 M_X9_flour_139 M_X9_flour_141
    dsimp only
    have fne : ¬ f dr = (1000 : Int32) := by
      rcases e2 dr d1 d2 with ⟨j, j1, j2, j3⟩ | ⟨j1, j2⟩
      · rw [j3]; exact w_ne (b := 1000) (by omega) (by omega) (by omega)
      · exact absurd hn2 (j1 n)
    rw [n_andn, hr.2.2.2.1, e1, bx, hr.2.2.1, if_pos (nI_in (c := dr) (N := 16) (by omega) (by omega)), nI_clamp (by omega), if_neg fne, ← nI_succ]
theorem m_f70 {R C : Nat} {sg : Nat → Nat} {dr th er k : Nat} {wc wl wd : Nat → Nat} {mb : BT} (x1 : Int32) (ho : okS R C sg dr th er k wc wl wd) (hr : rM R C sg dr th er k wc wl wd mb) {b0 : Nat} (hb0 : LX R C sg dr th b0) : ∀ fu m bst (mf : AR), m ≤ frS R C sg dr th + 1 → frS R C sg dr th + 1 - m < fu → BS R C sg dr th m bst → ∃ mf', M_X9_flour_70 mb x1 fu (mf, nI (opn R C sg), nI (frS R C sg dr th), bst, nI m) = some (if x1 = 0 then nI (pc16 b0 16) else nI b0, mf') := by
  have hf16 := lt16 ho.1 (frS_lt R C sg dr th)
  intro fu
  induction fu with
  | zero => intro m bst mf _ h; omega
  | succ fu ih =>
    intro m bst mf hm hfu hB
    show ∃ mf', M_X9_flour_70b _ _ _ _ = _
    unfold M_X9_flour_70b
    dsimp only
    rcases Nat.lt_or_ge (frS R C sg dr th) m with y | y
    · have em : m = frS R C sg dr th + 1 := by omega
      have eb : bst = nI b0 ∧ b0 < 65536 := by
        have bl := sub_le hb0.1
        rcases hB with ⟨g1, g2⟩ | ⟨b, g1, g2, g3, g4, g5⟩
        · exact absurd hb0.2.1 (g2 b0 (by omega) hb0.1)
        · have L : LX R C sg dr th b := ⟨g2, g4, fun s h1 h2 => g5 s (by have := sub_le h1; omega) h1 h2⟩
          have e := LX_uniq L hb0
          subst e
          exact ⟨g1, by omega⟩
      rw [if_pos (nI_lt y (by omega)), eb.1, m_ones eb.2, bx]
      by_cases z : x1 = 0
      · rw [if_pos z, if_pos z]; exact ⟨_, rfl⟩
      · rw [if_neg z, if_neg z]; exact ⟨_, rfl⟩
    · rw [if_neg (nI_nlt y (by omega)), n_andn]
      by_cases u : andn m (frS R C sg dr th) = 0
      · rw [u, if_pos n0I]
        obtain ⟨mf', c1, c2⟩ := m_f103 x1 mf bst (M_X9_flour_70 mb x1 fu) ho hr u
        have take : (∀ b, bst = nI b → b < m → andn b (frS R C sg dr th) = 0 → cutS R C sg dr th b → (∀ s, s < m → andn s (frS R C sg dr th) = 0 → cutS R C sg dr th s → (pc16 b 16 < pc16 s 16 ∨ (pc16 b 16 = pc16 s 16 ∧ b ≤ s))) → pc16 m 16 < pc16 b 16) → ∃ mf', M_X9_flour_103 mb x1 (M_X9_flour_70 mb x1 fu) (mf, nI (opn R C sg), nI (frS R C sg dr th), bst, nI m) = some (if x1 = 0 then nI (pc16 b0 16) else nI b0, mf') := by
          intro hlt
          by_cases cu : cutS R C sg dr th m
          · rw [c1 cu]
            refine ih (m + 1) _ mf' (by omega) (by omega) (Or.inr ⟨m, rfl, u, by omega, cu, ?_⟩)
            intro s h1 h2 h3
            by_cases t : s = m
            · subst t; exact Or.inr ⟨rfl, Nat.le_refl _⟩
            · rcases hB with ⟨g1, g2⟩ | ⟨b, g1, g2, g3, g4, g5⟩
              · exact absurd h3 (g2 s (by omega) h2)
              · have a1 := hlt b g1 g3 g2 g4 g5
                have a2 := g5 s (by omega) h2 h3
                omega
          · rw [c2 cu]
            refine ih (m + 1) _ mf' (by omega) (by omega) ?_
            rcases hB with ⟨g1, g2⟩ | ⟨b, g1, g2, g3, g4, g5⟩
            · refine Or.inl ⟨g1, fun s h1 h2 h3 => ?_⟩
              by_cases t : s = m
              · subst t; exact cu h3
              · exact g2 s (by omega) h2 h3
            · refine Or.inr ⟨b, g1, g2, by omega, g4, fun s h1 h2 h3 => ?_⟩
              by_cases t : s = m
              · subst t; exact absurd h3 cu
              · exact g5 s (by omega) h2 h3
        rcases hB with ⟨g1, g2⟩ | ⟨b, g1, g2, g3, g4, g5⟩
        · rw [if_pos (show bst < 0 by rw [g1]; exact m6neg)]
          refine take ?_
          intro b e1 e2 e3 e4 _
          exact absurd e4 (g2 b e2 e3)
        · have bl : b < 65536 := Nat.lt_of_le_of_lt (sub_le g2) hf16
          have p1 := pc_16 m
          have p2 := pc_16 b
          rw [if_neg (show ¬ bst < 0 by rw [g1]; exact nI_pos (by omega)), m_ones (by omega), bx]
          rw [show M_X9_ones bst = some (nI (pc16 b 16)) by rw [g1]; exact m_ones bl, bx]
          by_cases le : pc16 b 16 ≤ pc16 m 16
          · rw [if_pos (nI_le le (by omega))]
            unfold M_X9_flour_141
            dsimp only
            rw [← nI_succ]
            refine ih (m + 1) _ mf (by omega) (by omega) (Or.inr ⟨b, g1, g2, by omega, g4, fun s h1 h2 h3 => ?_⟩)
            by_cases t : s = m
            · subst t
              rcases Nat.lt_or_ge (pc16 b 16) (pc16 s 16) with v | v
              · exact Or.inl v
              · exact Or.inr ⟨by omega, by omega⟩
            · exact g5 s (by omega) h2 h3
          · rw [if_neg (nI_ge (by omega) (by omega))]
            refine take ?_
            intro b' e1 e2 e3 _ _
            have bl' : b' < 65536 := Nat.lt_of_le_of_lt (sub_le e3) hf16
            have eb : b = b' := nI_inj (by omega) (by omega) (g1.symm.trans e1)
            subst eb
            omega
      · have al : andn m (frS R C sg dr th) < 65536 := by
          have : andn m (frS R C sg dr th) < 2 ^ 16 := andn_lt (show m < 2 ^ 16 by omega)
          exact this
        rw [if_neg (nI_ne0 (by omega) (by omega))]
        unfold M_X9_flour_141
        dsimp only
        rw [← nI_succ]
        refine ih (m + 1) _ mf (by omega) (by omega) ?_
        rcases hB with ⟨g1, g2⟩ | ⟨b, g1, g2, g3, g4, g5⟩
        · refine Or.inl ⟨g1, fun s h1 h2 => ?_⟩
          by_cases t : s = m
          · subst t; exact absurd h2 u
          · exact g2 s (by omega) h2
        · refine Or.inr ⟨b, g1, g2, by omega, g4, fun s h1 h2 => ?_⟩
          by_cases t : s = m
          · subst t; exact absurd h2 u
          · exact g5 s (by omega) h2
theorem op_flour {h : HT} {v : VT} {mb : BT} (mf : AR) (x : Int32) (rh : RH h v mb) : ∃ z mf', M_X8_flour h x = some z ∧ M_X9_flour mb mf x = some (z, mf') := by
  obtain ⟨R, C, sg, dr, th, er, k, wc, wl, wd, ho, ⟨hx1, hx2, hx3⟩, hr⟩ := rh
  subst hx1
  have h16 := ho.1.n16
  obtain ⟨d1, d2⟩ := ho.2.2.1
  obtain ⟨t1, t2⟩ := ho.2.2.2.1
  have hA16 := lt16 ho.1 (opn_lt R C sg)
  have hf16 := lt16 ho.1 (frS_lt R C sg dr th)
  have oth := (opn_s t1).mpr t2
  have odr := (opn_s d1).mpr d2
  have e2 : M_X9_in x.toInt64 (0 : Int64) (1 : Int64) = some (if 0 ≤ x ∧ x ≤ 1 then 1 else 0) := m_in x 0 1
  unfold M_X8_flour M_X9_flour
  rw [m_within, e2, bx, bx]
  by_cases q : 0 ≤ x ∧ x ≤ 1
  · rw [if_pos q, if_neg k10, if_neg k10]
    obtain ⟨f1, g1, g2⟩ := m_findFar (g := th) mf ho hr hA16 t1
    rw [m_floor ho hr, bx, hr.2.2.2.1, g1, bx, hr.2.2.1, if_pos (nI_in (c := dr) (N := 16) (by omega) (by omega)), nI_clamp (by omega)]
    rcases m_fewestCut ho with ⟨a, e⟩ | ⟨a, b, e, hb⟩
    · rw [e, bx, if_pos rfl]
      have fl : ¬ (2 : Int32) ≤ f1 dr := by
        rcases a with a | ⟨w, w1, w2⟩
        · have d0 : isD R C sg (opn R C sg) th 0 dr := ⟨a, fun m hm => absurd hm (by omega)⟩
          rw [(FS_at g2 d1 d2 d0).2]
          decide +kernel
        · have nt := nb_op ho.1 t1 (show w < 5 by omega) w2
          have w1' : wk R C sg (opn R C sg) th 1 dr := ⟨opw w, th, opw4 w w1, stp_of nt t2, oth, rfl⟩
          rcases g2 dr d1 d2 with ⟨m, m1, m2, m3⟩ | ⟨m1, m2⟩
          · rw [m3]
            have : m ≤ 1 := by
              rcases Nat.lt_or_ge 1 m with v | v
              · exact absurd w1' (m2.2 1 v)
              · exact v
            exact nI_ge (a := m) (b := 2) (by omega) (by omega)
          · exact absurd w1' (m1 1)
      rw [if_neg fl]
      exact ⟨_, _, rfl, rfl⟩
    · have bl : b < 65536 := Nat.lt_of_le_of_lt (sub_le hb.1) hf16
      have fl : (2 : Int32) ≤ f1 dr := by
        rcases g2 dr d1 d2 with ⟨m, m1, m2, m3⟩ | ⟨m1, m2⟩
        · rw [m3]
          refine nI_le (a := 2) ?_ (by omega)
          match m, m2 with
          | 0, m2 => exact absurd m2.1 a.1
          | 1, m2 =>
            obtain ⟨w, q, q1, q2, q3, q4⟩ := m2.1
            have eq : q = th := q4
            subst eq
            have s := (stp_lt ho.1 d1 (show w < 5 by omega) q2).2.2
            exact absurd (nb_op ho.1 d1 (show w < 5 by omega) s) (a.2 (opw w) (opw4 w q1))
          | m + 2, _ => omega
        · rw [m2]; decide +kernel
      obtain ⟨mf', r1⟩ := m_f70 x ho hr hb 70000 0 (-6) f1 (by omega) (by omega) (Or.inl ⟨rfl, fun s h => absurd h (by omega)⟩)
      rw [e, bx, if_neg (m6ne (by omega)), m_bitCount bl, bx, if_pos fl, n_pow (by omega), n_pow (by omega), n_andn, n_andn, show M_X9_flour_70 mb x 70000 (f1, nI (opn R C sg), nI (andn (andn (opn R C sg) (2 ^ dr)) (2 ^ th)), -6, 0) = _ from r1]
      by_cases z : x = 0
      · rw [if_pos z, if_pos z]; exact ⟨_, _, rfl, rfl⟩
      · rw [if_neg z, if_neg z]; exact ⟨_, _, rfl, rfl⟩
  · rw [if_neg q, if_pos k00, if_pos k00]
    exact ⟨_, _, rfl, rfl⟩
