/-! Counting ones; a night -/
theorem cn_cong {P Q : Nat → Bool} : ∀ n, (∀ i, i < n → P i = Q i) → cn P n = cn Q n := by
  intro n
  induction n with
  | zero => intro _; rfl
  | succ n ih =>
    intro h
    show cn P n + (if P n then 1 else 0) = cn Q n + (if Q n then 1 else 0)
    rw [ih (fun i hi => h i (by omega)), h n (by omega)]
theorem cn_less {P Q : Nat → Bool} {t : Nat} (hp : P t = true) (hq : Q t = false) (h : ∀ i, i ≠ t → Q i = P i) : ∀ n, t < n → cn Q n + 1 = cn P n := by
  intro n
  induction n with
  | zero => intro h; omega
  | succ n ih =>
    intro ht
    show cn Q n + (if Q n then 1 else 0) + 1 = cn P n + (if P n then 1 else 0)
    by_cases e : t = n
    · subst e
      rw [hp, hq, cn_cong (P := Q) (Q := P) t (fun i hi => h i (by omega))]
      rfl
    · rw [h n (by omega), ← ih (by omega)]
      omega
theorem low_clear {m t : Nat} (ht : m.testBit t = true) (hl : ∀ i, i < t → m.testBit i = false) (j : Nat) : (m &&& (m - 1)).testBit j = (m.testBit j && !decide (j = t)) := by
  have hm : m % 2 ^ (t + 1) = 2 ^ t := by
    apply Nat.eq_of_testBit_eq
    intro i
    rw [Nat.testBit_mod_two_pow, Nat.testBit_two_pow]
    rcases Nat.lt_trichotomy i t with y | y | y
    · rw [hl i y]
      have : ¬ t = i := by omega
      simp [this]
    · subst y; rw [ht]; simp
    · have h1 : ¬ i < t + 1 := by omega
      have h2 : ¬ t = i := by omega
      simp [h1, h2]
  have hd := Nat.div_add_mod m (2 ^ (t + 1))
  rw [hm] at hd
  have hp := Nat.two_pow_pos t
  have hpp : 2 ^ t < 2 ^ (t + 1) := Nat.pow_lt_pow_right (by omega) (by omega)
  have b1 := Nat.testBit_two_pow_mul_add (m / 2 ^ (t + 1)) (i := t + 1) (b := 2 ^ t) hpp j
  have b2 := Nat.testBit_two_pow_mul_add (m / 2 ^ (t + 1)) (i := t + 1) (b := 2 ^ t - 1) (by omega) j
  have e2 : 2 ^ (t + 1) * (m / 2 ^ (t + 1)) + (2 ^ t - 1) = m - 1 := by omega
  rw [hd] at b1
  rw [e2] at b2
  rw [Nat.testBit_and, b1, b2, Nat.testBit_two_pow, Nat.testBit_two_pow_sub_one]
  by_cases q : j < t + 1
  · rw [if_pos q, if_pos q]
    by_cases y : j = t
    · simp [y]
    · have : ¬ t = j := fun z => y z.symm
      simp [this]
  · rw [if_neg q, if_neg q]
    have : ¬ j = t := by omega
    simp [this]
theorem m_ones {m : Nat} (hm : m < 65536) : M_X9_ones (nI m) = some (nI (pc16 m 16)) := by
  have st : ∀ fu c m, m < 65536 → pc16 m 16 < fu → ∀ x, M_X9_ones_4 x fu (nI c, nI m) = some (nI (c + pc16 m 16)) := by
    intro fu
    induction fu with
    | zero => intro c m _ h; omega
    | succ fu ih =>
      intro c m hm hf x
      show M_X9_ones_4b _ _ _ = _
      unfold M_X9_ones_4b
      dsimp only
      by_cases z : m = 0
      · subst z
        rw [if_pos n0I]
        rfl
      · rw [if_neg (nI_ne0 (by omega) (by omega))]
        have hex : ∃ i, i < 16 ∧ m.testBit i = true := by
          by_cases h : ∃ i, i < 16 ∧ m.testBit i = true
          · exact h
          · exact absurd (bits_eq (n := 16) hm (Nat.two_pow_pos _) (fun i hi => by
              rw [Nat.zero_testBit]
              cases e : m.testBit i
              · rfl
              · exact absurd ⟨i, hi, e⟩ h)) z
        obtain ⟨t, _, t1, t2, t3⟩ := fs_some (P := fun i => m.testBit i) 16 hex
        have lc := low_clear t2 t3
        have le : m &&& (m - 1) < 65536 := Nat.lt_of_le_of_lt Nat.and_le_left hm
        have cc : pc16 (m &&& (m - 1)) 16 + 1 = pc16 m 16 := by
          rw [pc_cn (m := m &&& (m - 1)) 16 (fun i _ => rfl), pc_cn (m := m) 16 (fun i _ => rfl)]
          apply cn_less (t := t) t2
          · rw [lc]; simp
          · intro i hi; rw [lc]; simp [hi]
          · exact t1
        have e1 : nI m - (1 : Int32) = nI (m - 1) := n_sub (b := 1) (by omega)
        rw [e1, n_and, ← nI_succ, ih (c + 1) _ le (by omega) x]
        congr 2
        omega
  have le : pc16 m 16 ≤ 16 := by
    rw [pc_cn (m := m) 16 (fun i _ => rfl)]
    exact cn_le _ 16
  unfold M_X9_ones
  rw [show (0 : Int32) = nI 0 from rfl, st 200 0 m hm (by omega), Nat.zero_add]
theorem i75 {m : Nat} (hm : m < 65537) : ((75 : Int32) * nI m + 74) - ((75 : Int32) * nI m + 74) / (65537 : Int32) * (65537 : Int32) = nI ((75 * m + 74) % 65537) := by
  have e : (75 : Int32) * nI m + 74 = nI (75 * m + 74) := by
    rw [show (75 : Int32) = nI 75 from rfl, show (74 : Int32) = nI 74 from rfl, pk_mul, nI_add]
  rw [e]
  exact n_rem (d := 65537) (by omega) (by omega) (by omega)
theorem l75 {m : Nat} (hm : m < 65537) : (((75 : Int64) * (nI m).toInt64 + 74) - ((75 : Int64) * (nI m).toInt64 + 74) / (65537 : Int64) * (65537 : Int64)).toInt32 = nI ((75 * m + 74) % 65537) := by
  have e : (75 : Int64) * (nI m).toInt64 + 74 = lN (75 * m + 74) := by
    rw [nI_l (by omega), show (75 : Int64) = lN 75 from rfl, show (74 : Int64) = lN 74 from rfl, lN_mul, lN_add]
  rw [e, show (65537 : Int64) = lN 65537 from rfl, pk_lRem (by omega) (by omega) (by omega), lN_i]
theorem k65 : ¬ (65537 : Int32) = 0 := by decide +kernel
theorem l65 : ¬ (65537 : Int64) = 0 := by decide +kernel
theorem k5 : ¬ (5 : Int32) = 0 := by decide +kernel
theorem op_night {h : HT} {v : VT} {mb : BT} (r : RT) (mn : NT) (x1 x2 x3 : Int32) (rh : RH h v mb) : ∃ z r' mn', M_X8_night h v r x1 x2 x3 = some (z, r') ∧ M_X9_night mb mn x1 x2 x3 = some (z, mn') := by
  obtain ⟨R, C, sg, dr, th, er, k, wc, wl, wd, ho, ⟨hx1, hx2, hx3⟩, hr⟩ := rh
  subst hx1
  have h16 := ho.1.n16
  have e1 : M_X9_in x1.toInt64 (0 : Int64) (9999 : Int64) = some (if 0 ≤ x1 ∧ x1 ≤ 9999 then 1 else 0) := m_in x1 0 9999
  have e2 : M_X9_in x2.toInt64 (0 : Int64) (99 : Int64) = some (if 0 ≤ x2 ∧ x2 ≤ 99 then 1 else 0) := m_in x2 0 99
  have e3 : M_X9_in x3.toInt64 (0 : Int64) (2 : Int64) = some (if 0 ≤ x3 ∧ x3 ≤ 2 then 1 else 0) := m_in x3 0 2
  unfold M_X8_night M_X9_night
  rw [m_within, m_within, m_within, e1, e2, e3]
  simp only [bx]
  by_cases q1 : 0 ≤ x1 ∧ x1 ≤ 9999
  · rw [if_pos q1, if_neg k10, if_neg k10]
    by_cases q2 : 0 ≤ x2 ∧ x2 ≤ 99
    · rw [if_pos q2, if_neg k10, if_neg k10]
      by_cases q3 : 0 ≤ x3 ∧ x3 ≤ 2
      · rw [if_pos q3, if_neg k10, if_neg k10]
        obtain ⟨m, _, m1, rfl⟩ := rng (a := 0) (b := 9999) (by omega) (by omega) q1.1 q1.2
        obtain ⟨n, _, n1, rfl⟩ := rng (a := 0) (b := 99) (by omega) (by omega) q2.1 q2.2
        obtain ⟨w, _, w1, rfl⟩ := rng (a := 0) (b := 2) (by omega) (by omega) q3.1 q3.2
        obtain ⟨r0, mn0, b1, b2, b3⟩ := m_begin r mn ho hx2 hx3 hr
        rw [b1, b2, bx, bx]
        have st : ∀ fu i x a now b s (r : RT) (mn : NT), i ≤ n → n - i < fu → x < 65537 → WR R C sg er k wc wl wd now b s r mn → ∃ z r' mn', M_X8_night_53 (hOf R C sg dr th er) v (nI m) (nI n) (nI w) fu (r, nI x, nI a, nI i) = some (z, r') ∧ M_X9_night_52 mb (nI m) (nI n) (nI w) fu (mn, nI x, nI a, nI i) = some (z, mn') := by
          intro fu
          induction fu with
          | zero => intro i x a now b s r mn _ h; omega
          | succ fu ih =>
            intro i x a now b s r mn hi hfu hx hw
            have ex : ∀ a, M_X8_night_53 (hOf R C sg dr th er) v (nI m) (nI n) (nI w) (fu + 1) a = M_X8_night_53b (hOf R C sg dr th er) v (nI m) (nI n) (nI w) (M_X8_night_53 (hOf R C sg dr th er) v (nI m) (nI n) (nI w) fu) a := fun a => rfl
            have em : ∀ a, M_X9_night_52 mb (nI m) (nI n) (nI w) (fu + 1) a = M_X9_night_52b mb (nI m) (nI n) (nI w) (M_X9_night_52 mb (nI m) (nI n) (nI w) fu) a := fun a => rfl
            rw [ex, em]
            unfold M_X8_night_53b M_X9_night_52b M_X8_night_109 M_X9_night_100
            dsimp only
            rcases Nat.lt_or_ge i n with q | q
            · rw [if_neg (nI_ge q (by omega)), if_neg (nI_ge q (by omega)), if_pos k65, if_pos l65, if_pos k5, if_pos k5, i75 hx, l75 hx]
              have hy : (75 * x + 74) % 65537 < 65537 := Nat.mod_lt _ (by omega)
              generalize (75 * x + 74) % 65537 = y at hy ⊢
              have d2 : nI y - nI y / (5 : Int32) * (5 : Int32) = nI (y % 5) := n_rem (d := 5) (by omega) (by omega) (by omega)
              rw [d2]
              have go : ∀ c now b s (r' : RT) (mn' : NT), WR R C sg er k wc wl wd now b s r' mn' → M_X6_take r (hOf R C sg dr th er) (nI (y % 5)) = some (c, r') → M_X9_step mb mn (nI (y % 5)) = some (c, mn') → ∃ z r' mn', ((M_X6_take r (hOf R C sg dr th er) (nI (y % 5))).bind fun z85 => (M_X6_firstShownTo z85.2 (hOf R C sg dr th er) v (0 : Int32)).bind fun z98 => if z98 = (-6 : Int32) then (M_X8_night_53 (hOf R C sg dr th er) v (nI m) (nI n) (nI w) fu (z85.2, nI y, nI a, (nI i + 1))) else (M_X8_night_53 (hOf R C sg dr th er) v (nI m) (nI n) (nI w) fu (z85.2, nI y, (nI a + 1), (nI i + 1)))) = some (z, r') ∧ ((M_X9_step mb mn (nI (y % 5))).bind fun z81 => (M_X9_shownTo mb z81.2 (1 : Int32)).bind fun z89 => if z89 < 0 then (M_X9_night_52 mb (nI m) (nI n) (nI w) fu (z81.2, nI y, (nI a + 0), (nI i + 1))) else (M_X9_night_52 mb (nI m) (nI n) (nI w) fu (z81.2, nI y, (nI a + 1), (nI i + 1)))) = some (z, mn') := by
                intro c now b s r' mn' t3 t1 t2
                obtain ⟨z, s1, s2, s3⟩ := m_shown true ho hx2 hr t3
                rw [t1, t2, bx, bx]
                dsimp only
                rw [show M_X6_firstShownTo r' (hOf R C sg dr th er) v (0 : Int32) = some z from s1, show M_X9_shownTo mb mn' (1 : Int32) = some z from s2, bx, bx, show nI a + 0 = nI a from nI_add a 0, ← nI_succ, ← nI_succ]
                rcases s3 with s3 | ⟨u, u1, s3⟩
                · rw [s3, if_pos rfl, if_pos m6neg]
                  exact ih (i + 1) _ _ _ _ _ _ _ (by omega) (by omega) hy t3
                · have h4 := ho.2.2.2.2.2.1
                  rw [s3, if_neg (m6ne (by omega)), if_neg (nI_pos (by omega))]
                  exact ih (i + 1) _ _ _ _ _ _ _ (by omega) (by omega) hy t3
              rcases m_take ho hr hw (Nat.mod_lt y (by omega : 0 < 5)) with ⟨e, r', mn', t1, t2, t3⟩ | ⟨qq, r', mn', e, t1, t2, t3⟩
              · exact go 0 _ _ _ r' mn' t3 t1 t2
              · exact go 1 _ _ _ r' mn' t3 t1 t2
            · have e : i = n := by omega
              subst e
              obtain ⟨a1, a2, a3, a4, a5, a6, a7, a8⟩ := id hw
              rw [if_pos (nI_le (Nat.le_refl _) (by omega)), if_pos (nI_le (Nat.le_refl _) (by omega)), a8]
              dsimp only
              obtain rfl | rfl | rfl : w = 0 ∨ w = 1 ∨ w = 2 := by omega
              · rw [if_pos n0I, if_pos n0I]
                exact ⟨_, _, _, rfl, rfl⟩
              · rw [if_neg (show ¬ nI 1 = 0 by decide +kernel), if_neg (show ¬ nI 1 = 0 by decide +kernel), if_pos (show nI 1 = 1 from rfl), if_pos (show nI 1 = 1 from rfl), a4, m_cellOf now (by omega), bx]
                exact ⟨_, _, _, rfl, rfl⟩
              · rw [if_neg (show ¬ nI 2 = 0 by decide +kernel), if_neg (show ¬ nI 2 = 0 by decide +kernel), if_neg (show ¬ nI 2 = 1 by decide +kernel), if_neg (show ¬ nI 2 = 1 by decide +kernel), a5, m_bitCount (lt16 ho.1 a3), m_ones (lt16 ho.1 a3), bx, bx]
                exact ⟨_, _, _, rfl, rfl⟩
        exact st 200 0 m 0 _ _ _ _ _ (by omega) (by omega) (by omega) b3
      · rw [if_neg q3, if_pos k00, if_pos k00]
        exact ⟨_, _, _, rfl, rfl⟩
    · rw [if_neg q2, if_pos k00, if_pos k00]
      exact ⟨_, _, _, rfl, rfl⟩
  · rw [if_neg q1, if_pos k00, if_pos k00]
    exact ⟨_, _, _, rfl, rfl⟩
