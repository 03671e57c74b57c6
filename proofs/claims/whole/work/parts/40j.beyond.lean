theorem m_bey91 (mb : BT) (x1 x2 : Int32) (a : Int32 × Int32) : M_X9_beyond_91 mb x1 x2 a = some (-6) := by
  unfold M_X9_beyond_91 M_X9_beyond_92
  dsimp only
  rw [if_pos rfl]
theorem m_bey51 {R C a b : Nat} {sg : Nat → Nat} {dr th er k : Nat} {wc wl wd : Nat → Nat} {mb : BT} (x1 x2 dc co : Int32) (ho : okS R C sg dr th er k wc wl wd) (hr : rM R C sg dr th er k wc wl wd mb) (ha : a < 2 ^ 31) (hb : b < 2 ^ 31) (e : co + dc = nI b) : M_X9_beyond_51 mb x1 x2 (nI a, dc, co) = some (oI (if a < R ∧ b < C then (if sg (a * C + b) = 35 then none else some (a * C + b)) else none)) := by
  obtain ⟨h1, h2, h3, h4⟩ := ho.1
  unfold M_X9_beyond_51
  dsimp only
  rw [hr.1, hr.2.1, in_n ha (by omega) (by omega), Option.bind_some]
  by_cases q : a < R
  · rw [if_pos q, if_neg (by decide +kernel), e, in_n hb (by omega) (by omega), Option.bind_some]
    by_cases p : b < C
    · rw [if_pos p, if_neg (by decide +kernel), if_pos ⟨q, p⟩]
      exact m_bey92 x1 x2 ho hr (by
        have : (a + 1) * C ≤ R * C := Nat.mul_le_mul_right C q
        rw [Nat.add_mul] at this; omega)
    · rw [if_neg p, if_pos rfl, m_bey91, if_neg (fun z => p z.2)]; rfl
  · rw [if_neg q, if_pos rfl, m_bey91, if_neg (fun z => q z.1)]; rfl
theorem m_bey51c {R C a : Nat} {sg : Nat → Nat} {dr th er k : Nat} {wc wl wd : Nat → Nat} {mb : BT} (x1 x2 dc co : Int32) (ho : okS R C sg dr th er k wc wl wd) (hr : rM R C sg dr th er k wc wl wd mb) (ha : a < 2 ^ 31) (e : co + dc = -1) : M_X9_beyond_51 mb x1 x2 (nI a, dc, co) = some (-6) := by
  obtain ⟨h1, h2, h3, h4⟩ := ho.1
  unfold M_X9_beyond_51
  dsimp only
  rw [hr.1, hr.2.1, in_n ha (by omega) (by omega), Option.bind_some]
  by_cases q : a < R
  · rw [if_pos q, if_neg (by decide +kernel), e, in_m, Option.bind_some, if_pos rfl, m_bey91]
  · rw [if_neg q, if_pos rfl, m_bey91]
theorem m_bey51r {R C : Nat} {sg : Nat → Nat} {dr th er k : Nat} {wc wl wd : Nat → Nat} {mb : BT} (x1 x2 dc co : Int32) (hr : rM R C sg dr th er k wc wl wd mb) : M_X9_beyond_51 mb x1 x2 (-1, dc, co) = some (-6) := by
  unfold M_X9_beyond_51
  dsimp only
  rw [hr.1, in_m, Option.bind_some, if_pos rfl, m_bey91]
theorem n_rem {a d : Nat} (ha : a < 2 ^ 31) (h0 : 0 < d) (hd : d < 2 ^ 31) : nI a - nI a / nI d * nI d = nI (a % d) := by
  rw [pk_div ha h0 hd, show nI (a / d) * nI d = nI (a / d * d) from (Int32.ofNat_mul (a / d) d).symm, n_sub (Nat.div_mul_le_self a d)]
  congr 1
  have := Nat.div_add_mod a d
  have e : a / d * d = d * (a / d) := Nat.mul_comm _ _
  omega
theorem n_m1 (n : Nat) : nI (n + 1) + (-1) = nI n := pk_m1 n
theorem m_beyond {R C c w : Nat} {sg : Nat → Nat} {dr th er k : Nat} {wc wl wd : Nat → Nat} {mb : BT} (ho : okS R C sg dr th er k wc wl wd) (hr : rM R C sg dr th er k wc wl wd mb) (hc : c < R * C) (hw : w < 5) : M_X9_beyond mb (nI c) (nI w) = some (oI (stp R C sg c w)) := by
  obtain ⟨h1, h2, h3, h4⟩ := ho.1
  have h16 := ho.1.n16
  have hC : ¬ nI C = 0 := nI_ne0 (by omega) (by omega)
  have hdm : c / C * C + c % C = c := by rw [Nat.mul_comm]; exact Nat.div_add_mod c C
  have hr1 : c / C < R := Nat.div_lt_of_lt_mul (by rw [Nat.mul_comm]; exact hc)
  have hq1 : c % C < C := Nat.mod_lt _ (by omega)
  have hcc : c / C ≤ c := Nat.div_le_self _ _
  have e4 : ∀ dr' x2, M_X9_beyond_24 mb (nI c) x2 (dr', nI c / nI C) = if x2 = (1 : Int32) then (M_X9_beyond_51 mb (nI c) x2 ((nI (c / C) + dr'), (1 : Int32), nI (c % C))) else (if x2 = (3 : Int32) then (M_X9_beyond_51 mb (nI c) x2 ((nI (c / C) + dr'), (-1 : Int32), nI (c % C))) else (M_X9_beyond_51 mb (nI c) x2 ((nI (c / C) + dr'), (0 : Int32), nI (c % C)))) := by
    intro dr' x2
    unfold M_X9_beyond_24
    dsimp only
    rw [hr.2.1, if_pos hC, n_rem (by omega) (by omega) (by omega), pk_div (by omega) (by omega) (by omega)]
  have z0 : ∀ n, nI n + 0 = nI n := fun n => nI_add n 0
  unfold M_X9_beyond
  rw [hr.2.1, if_pos hC, e4, e4, e4]
  obtain rfl | rfl | rfl | rfl | rfl : w = 0 ∨ w = 1 ∨ w = 2 ∨ w = 3 ∨ w = 4 := by omega
  · rw [if_pos (show nI 0 = 0 from rfl), if_neg (show ¬ nI 0 = 1 by decide +kernel), if_neg (show ¬ nI 0 = 3 by decide +kernel)]
    unfold stp
    show _ = some (oI (match (if C ≤ c then some (c - C) else none) with | some q => if sg q = 35 then none else some q | none => none))
    rcases Nat.eq_zero_or_pos (c / C) with q | q
    · rw [q, show nI 0 + (-1 : Int32) = -1 by decide +kernel, m_bey51r _ _ _ _ hr, if_neg (by
        intro z
        have := Nat.div_pos z (by omega : 0 < C)
        omega)]
      rfl
    · obtain ⟨j, hj⟩ : ∃ j, c / C = j + 1 := ⟨c / C - 1, by omega⟩
      have ec : j * C + c % C = c - C := by rw [hj, Nat.add_mul] at hdm; omega
      have hCc : C ≤ c := by rw [hj, Nat.add_mul] at hdm; omega
      rw [hj, n_m1, m_bey51 _ _ _ _ ho hr (by omega) (by omega) (z0 _), if_pos ⟨by omega, hq1⟩, ec, if_pos hCc]
  · rw [if_neg (show ¬ nI 1 = 0 by decide +kernel), if_neg (show ¬ nI 1 = 2 by decide +kernel), if_pos (show nI 1 = 1 from rfl)]
    unfold stp
    show _ = some (oI (match (if c % C + 1 < C then some (c + 1) else none) with | some q => if sg q = 35 then none else some q | none => none))
    rw [z0, m_bey51 (b := c % C + 1) _ _ _ _ ho hr (by omega) (by omega) (nI_succ _).symm]
    by_cases q : c % C + 1 < C
    · rw [if_pos q, if_pos ⟨hr1, q⟩, ← Nat.add_assoc, hdm]
    · rw [if_neg q, if_neg (fun z => q z.2)]
  · rw [if_neg (show ¬ nI 2 = 0 by decide +kernel), if_pos (show nI 2 = 2 from rfl), if_neg (show ¬ nI 2 = 1 by decide +kernel), if_neg (show ¬ nI 2 = 3 by decide +kernel)]
    unfold stp
    show _ = some (oI (match (if c + C < R * C then some (c + C) else none) with | some q => if sg q = 35 then none else some q | none => none))
    rw [← nI_succ, m_bey51 _ _ _ _ ho hr (by omega) (by omega) (z0 _)]
    have ec : (c / C + 1) * C + c % C = c + C := by rw [Nat.add_mul, Nat.one_mul]; omega
    rw [ec]
    by_cases q : c / C + 1 < R
    · have hl : c + C < R * C := by
        have k2 : (c / C + 1 + 1) * C ≤ R * C := Nat.mul_le_mul_right C q
        rw [Nat.add_mul (c / C + 1), Nat.one_mul] at k2
        omega
      rw [if_pos ⟨q, hq1⟩, if_pos hl]
    · have hl : ¬ c + C < R * C := fun z => q (by
        have k2 : (c / C + 1) * C < R * C := by omega
        exact Nat.lt_of_mul_lt_mul_right k2)
      rw [if_neg (fun z => q z.1), if_neg hl]
  · rw [if_neg (show ¬ nI 3 = 0 by decide +kernel), if_neg (show ¬ nI 3 = 2 by decide +kernel), if_neg (show ¬ nI 3 = 1 by decide +kernel), if_pos (show nI 3 = 3 from rfl)]
    unfold stp
    show _ = some (oI (match (if 0 < c % C then some (c - 1) else none) with | some q => if sg q = 35 then none else some q | none => none))
    rw [z0]
    rcases Nat.eq_zero_or_pos (c % C) with q | q
    · rw [q, m_bey51c _ _ _ _ ho hr (by omega) (by decide +kernel), if_neg (by omega)]
      rfl
    · obtain ⟨j, hj⟩ : ∃ j, c % C = j + 1 := ⟨c % C - 1, by omega⟩
      rw [hj, m_bey51 _ _ _ _ ho hr (by omega) (by omega) (n_m1 j), if_pos ⟨hr1, by omega⟩, if_pos (show 0 < j + 1 by omega), show c / C * C + j = c - 1 by omega]
  · rw [if_neg (show ¬ nI 4 = 0 by decide +kernel), if_neg (show ¬ nI 4 = 2 by decide +kernel), if_neg (show ¬ nI 4 = 1 by decide +kernel), if_neg (show ¬ nI 4 = 3 by decide +kernel)]
    unfold stp
    show _ = some (oI (if sg c = 35 then none else some c))
    rw [z0, m_bey51 _ _ _ _ ho hr (by omega) (by omega) (z0 _), if_pos ⟨hr1, hq1⟩, hdm]
