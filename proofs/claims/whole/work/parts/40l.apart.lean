theorem ab_4 : ∀ p, p < 4 → ∀ q, q < 4 → (if 0 ≤ nI p - nI q then nI p - nI q else -(nI p - nI q)) = nI ((p - q) + (q - p)) := by decide +kernel
theorem m_ap39 (mb : BT) (x1 x2 cd rd : Int32) : M_X9_apart_39 mb x1 x2 (cd, rd) = some (rd + (if 0 ≤ cd then cd else -cd)) := by
  unfold M_X9_apart_39 M_X9_apart_52
  dsimp only
  by_cases q : 0 ≤ cd
  · rw [if_pos q, if_pos q]
  · rw [if_neg q, if_neg q]
theorem m_apart {R C a b : Nat} {sg : Nat → Nat} {dr th er k : Nat} {wc wl wd : Nat → Nat} {mb : BT} (ho : okS R C sg dr th er k wc wl wd) (hr : rM R C sg dr th er k wc wl wd mb) (ha : a < R * C) (hb : b < R * C) : M_X9_apart mb (nI a) (nI b) = some (nI (man C a b)) := by
  obtain ⟨h1, h2, h3, h4⟩ := ho.1
  have h16 := ho.1.n16
  have hC : ¬ nI C = 0 := nI_ne0 (by omega) (by omega)
  have ra : a / C < R := Nat.div_lt_of_lt_mul (by rw [Nat.mul_comm]; exact ha)
  have rb : b / C < R := Nat.div_lt_of_lt_mul (by rw [Nat.mul_comm]; exact hb)
  have qa : a % C < C := Nat.mod_lt _ (by omega)
  have qb : b % C < C := Nat.mod_lt _ (by omega)
  unfold M_X9_apart
  rw [hr.2.1, if_pos hC, if_pos hC, if_pos hC, if_pos hC, n_rem (by omega) (by omega) (by omega), n_rem (by omega) (by omega) (by omega), pk_div (by omega) (by omega) (by omega), pk_div (by omega) (by omega) (by omega), m_ap39, m_ap39]
  have e1 := ab_4 (a / C) (by omega) (b / C) (by omega)
  have e2 := ab_4 (a % C) (by omega) (b % C) (by omega)
  rw [e2]
  by_cases q : 0 ≤ nI (a / C) - nI (b / C)
  · rw [if_pos q] at e1 ⊢
    rw [e1, nI_add]; rfl
  · rw [if_neg q] at e1 ⊢
    rw [e1, nI_add]; rfl
