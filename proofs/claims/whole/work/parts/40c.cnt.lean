theorem n_sub {a b : Nat} (h : b ≤ a) : nI a - nI b = nI (a - b) := by
  have e : nI a = nI (a - b) + nI b := by rw [nI_add]; congr 1; omega
  rw [e, Int32.add_sub_cancel]
theorem ush1 {a : Nat} (h : a < 2 ^ 32) : ((nI a).toUInt32 >>> ((1 : Int32).toUInt32 &&& Int32.toUInt32 31)).toInt32 = nI (a / 2) := n_ushr (k := 1) (by omega) h
theorem ush2 {a : Nat} (h : a < 2 ^ 32) : ((nI a).toUInt32 >>> ((2 : Int32).toUInt32 &&& Int32.toUInt32 31)).toInt32 = nI (a / 4) := n_ushr (k := 2) (by omega) h
theorem ush4 {a : Nat} (h : a < 2 ^ 32) : ((nI a).toUInt32 >>> ((4 : Int32).toUInt32 &&& Int32.toUInt32 31)).toInt32 = nI (a / 16) := n_ushr (k := 4) (by omega) h
theorem ush8 {a : Nat} (h : a < 2 ^ 32) : ((nI a).toUInt32 >>> ((8 : Int32).toUInt32 &&& Int32.toUInt32 31)).toInt32 = nI (a / 256) := n_ushr (k := 8) (by omega) h
theorem ush16 {a : Nat} (h : a < 2 ^ 32) : ((nI a).toUInt32 >>> ((16 : Int32).toUInt32 &&& Int32.toUInt32 31)).toInt32 = nI (a / 65536) := n_ushr (k := 16) (by omega) h
theorem m_bitCount {m : Nat} (h : m < 65536) : M_J6_bitCount_0f7a4 (nI m) = some (nI (pc16 m 16)) := by
  rw [← bc_all h]
  have e0 : (m / 2 &&& 1431655765) ≤ m := Nat.le_trans Nat.and_le_left (Nat.div_le_self _ _)
  have e1 : ∀ x, x &&& 858993459 ≤ 858993459 := fun x => Nat.and_le_right
  have e2 : ∀ x, x &&& 252645135 ≤ 252645135 := fun x => Nat.and_le_right
  have c1 : (1431655765 : Int32) = nI 1431655765 := rfl
  have c2 : (858993459 : Int32) = nI 858993459 := rfl
  have c3 : (252645135 : Int32) = nI 252645135 := rfl
  have c4 : (63 : Int32) = nI 63 := rfl
  unfold M_J6_bitCount_0f7a4 bcN
  simp only []
  generalize hA : m - (m / 2 &&& 1431655765) = A
  have hA' : A < 65536 := by omega
  generalize hB : (A &&& 858993459) + (A / 4 &&& 858993459) = B
  have hB' : B < 2000000000 := by have := e1 A; have := e1 (A / 4); omega
  generalize hD : (B + B / 16) &&& 252645135 = D
  have hD' : D ≤ 252645135 := by have := e2 (B + B / 16); omega
  have k1 : nI m - (((nI m).toUInt32 >>> ((1 : Int32).toUInt32 &&& Int32.toUInt32 31)).toInt32 &&& (1431655765 : Int32)) = nI A := by
    rw [ush1 (by omega), c1, n_and, n_sub e0, hA]
  have k2 : (nI A &&& (858993459 : Int32)) + (((nI A).toUInt32 >>> ((2 : Int32).toUInt32 &&& Int32.toUInt32 31)).toInt32 &&& (858993459 : Int32)) = nI B := by
    rw [ush2 (by omega), c2, n_and, n_and, nI_add, hB]
  have k3 : (nI B + ((nI B).toUInt32 >>> ((4 : Int32).toUInt32 &&& Int32.toUInt32 31)).toInt32) &&& (252645135 : Int32) = nI D := by
    rw [ush4 (by omega), nI_add, c3, n_and, hD]
  rw [k1, k2, k3, ush8 (by omega), nI_add, ush16 (by omega), nI_add, c4, n_and]
