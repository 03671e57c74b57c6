/-! Numbers: small naturals as ints, masks of cells; the small methods of both classes in these words -/
theorem n_and (a b : Nat) : nI a &&& nI b = nI (a &&& b) := by
  apply Int32.toBitVec_inj.1
  show BitVec.ofNat 32 a &&& BitVec.ofNat 32 b = BitVec.ofNat 32 (a &&& b)
  apply BitVec.eq_of_getLsbD_eq
  intro i hi
  simp [hi]
theorem n_or (a b : Nat) : nI a ||| nI b = nI (a ||| b) := by
  apply Int32.toBitVec_inj.1
  show BitVec.ofNat 32 a ||| BitVec.ofNat 32 b = BitVec.ofNat 32 (a ||| b)
  apply BitVec.eq_of_getLsbD_eq
  intro i hi
  simp [hi]
def andn (a b : Nat) : Nat := a ^^^ (a &&& b)
theorem n_andn (a b : Nat) : nI a &&& (nI b ^^^ (-1)) = nI (andn a b) := by
  apply Int32.toBitVec_inj.1
  show BitVec.ofNat 32 a &&& (BitVec.ofNat 32 b ^^^ BitVec.allOnes 32) = BitVec.ofNat 32 (a ^^^ (a &&& b))
  apply BitVec.eq_of_getLsbD_eq
  intro i hi
  simp only [BitVec.getLsbD_and, BitVec.getLsbD_xor, BitVec.getLsbD_allOnes, BitVec.getLsbD_ofNat, hi, Nat.testBit_xor, Nat.testBit_and, decide_true, Bool.true_and]
  cases a.testBit i <;> cases b.testBit i <;> rfl
theorem andn_bit (a b i : Nat) : (andn a b).testBit i = (a.testBit i && !b.testBit i) := by
  unfold andn
  rw [Nat.testBit_xor, Nat.testBit_and]
  cases a.testBit i <;> cases b.testBit i <;> rfl
theorem bits_eq {a b n : Nat} (ha : a < 2 ^ n) (hb : b < 2 ^ n) (h : ∀ i, i < n → a.testBit i = b.testBit i) : a = b := by
  apply Nat.eq_of_testBit_eq
  intro i
  rcases Nat.lt_or_ge i n with q | q
  · exact h i q
  · rw [Nat.testBit_lt_two_pow (Nat.lt_of_lt_of_le ha (Nat.pow_le_pow_right (by omega) q)), Nat.testBit_lt_two_pow (Nat.lt_of_lt_of_le hb (Nat.pow_le_pow_right (by omega) q))]
theorem bits_lt {a n : Nat} (h : ∀ i, n ≤ i → a.testBit i = false) : a < 2 ^ n := Nat.lt_pow_two_of_testBit a (fun i hi => h i hi)
/-- the cells of a kind, as a mask -/
def mk (P : Nat → Bool) : Nat → Nat
  | 0 => 0
  | k + 1 => if P k then mk P k ||| 2 ^ k else mk P k
theorem mk_bit (P : Nat → Bool) : ∀ (n i : Nat), (mk P n).testBit i = (decide (i < n) && P i) := by
  intro n
  induction n with
  | zero => intro i; simp [mk]
  | succ n ih =>
    intro i
    unfold mk
    by_cases hp : P n = true
    · rw [if_pos hp, Nat.testBit_or, ih, Nat.testBit_two_pow]
      by_cases h1 : n = i
      · subst h1; simp [hp]
      · by_cases h2 : i < n
        · simp [h1, h2, Nat.lt_succ_of_lt h2]
        · have h3 : ¬ i < n + 1 := by omega
          simp [h1, h2, h3]
    · rw [if_neg hp, ih]
      by_cases h1 : n = i
      · subst h1
        have : P n = false := by simpa using hp
        simp [this]
      · by_cases h2 : i < n
        · simp [h2, Nat.lt_succ_of_lt h2]
        · have h3 : ¬ i < n + 1 := by omega
          simp [h2, h3]
theorem mk_lt (P : Nat → Bool) (n : Nat) : mk P n < 2 ^ n := bits_lt (fun i hi => by rw [mk_bit]; simp; omega)
theorem mk_eq {P : Nat → Bool} {n a : Nat} (ha : a < 2 ^ n) (h : ∀ i, i < n → a.testBit i = P i) : a = mk P n := bits_eq ha (mk_lt P n) (fun i hi => by rw [mk_bit, h i hi]; simp [hi])
theorem mk_cong {P Q : Nat → Bool} {n : Nat} (h : ∀ i, i < n → P i = Q i) : mk P n = mk Q n := mk_eq (mk_lt P n) (fun i hi => by rw [mk_bit, ← h i hi]; simp [hi])
theorem s_l : ∀ n, n < 32 → ((nI n &&& 31).toBitVec.smod 32).toNat = n := by decide +kernel
theorem s_u : ∀ n, n < 32 → (((nI n).toUInt32 &&& Int32.toUInt32 31).toBitVec % 32).toNat = n := by decide +kernel
theorem n_shl {a k : Nat} (hk : k < 32) (h : a * 2 ^ k < 2 ^ 32) : nI a <<< (nI k &&& 31) = nI (a * 2 ^ k) := pk_shlN (nI k &&& 31) k (s_l k hk) h
theorem n_ushr {a k : Nat} (hk : k < 32) (h : a < 2 ^ 32) : ((nI a).toUInt32 >>> ((nI k).toUInt32 &&& Int32.toUInt32 31)).toInt32 = nI (a / 2 ^ k) := pk_ushrN h (nI k) k (s_u k hk)
theorem n_sshr {a k : Nat} (hk : k < 32) (h : a < 2 ^ 31) : nI a >>> (nI k &&& 31) = nI (a / 2 ^ k) := pk_shrN h (nI k &&& 31) k (s_l k hk)
theorem n_bitv {m c : Nat} (hm : m < 2 ^ 31) : (nI (m / 2 ^ c) &&& nI 1) = (if m.testBit c then nI 1 else nI 0) := by
  rw [n_and, Nat.and_one_is_mod, Nat.testBit_eq_decide_div_mod_eq]
  rcases Nat.mod_two_eq_zero_or_one (m / 2 ^ c) with h | h <;> simp [h]
theorem n0 : (0 : Int32) = nI 0 := rfl
theorem n1 : (1 : Int32) = nI 1 := rfl
theorem nI_inj {a b : Nat} (ha : a < 2 ^ 31) (hb : b < 2 ^ 31) (h : nI a = nI b) : a = b := (nI_eq ha hb).mp h
theorem m_has {m c : Nat} (hm : m < 2 ^ 31) (hc : c < 32) : M_X8_has (nI m) (nI c) = some (if m.testBit c then 1 else 0) := by
  unfold M_X8_has
  rw [n_ushr hc (by omega), n1, n_bitv hm]
  cases m.testBit c
  · rfl
  · rfl
theorem m_bit {c : Nat} (hc : c < 31) : M_X8_bit (nI c) = some (nI (2 ^ c)) := by
  unfold M_X8_bit
  have h : 2 ^ c ≤ 2 ^ 30 := Nat.pow_le_pow_right (by omega) (by omega)
  rw [n1, n_shl (by omega) (by rw [Nat.one_mul]; omega), Nat.one_mul]
theorem m_within (x lo hi : Int32) : M_X8_within x lo hi = some (if lo ≤ x ∧ x ≤ hi then 1 else 0) := by
  unfold M_X8_within
  by_cases h1 : x < lo
  · rw [if_pos h1, if_neg (fun q => absurd (Int32.not_le.mpr h1) (fun z => z q.1))]
  · rw [if_neg h1]
    by_cases h2 : hi < x
    · rw [if_pos h2, if_neg (fun q => absurd (Int32.not_le.mpr h2) (fun z => z q.2))]
    · rw [if_neg h2, if_pos ⟨Int32.not_lt.mp h1, Int32.not_lt.mp h2⟩]
theorem w_lt (a b : Int32) : a.toInt64 < b.toInt64 ↔ a < b := by rw [Int64.lt_iff_toInt_lt, Int32.lt_iff_toInt_lt, Int32.toInt_toInt64, Int32.toInt_toInt64]
theorem m_in (x lo hi : Int32) : M_X9_in x.toInt64 lo.toInt64 hi.toInt64 = some (if lo ≤ x ∧ x ≤ hi then 1 else 0) := by
  unfold M_X9_in
  by_cases h1 : x < lo
  · rw [if_pos ((lg_cmp_lt _ _).mpr ((w_lt _ _).mpr h1)), if_neg (fun q => absurd (Int32.not_le.mpr h1) (fun z => z q.1))]
  · rw [if_neg (fun q => h1 ((w_lt _ _).mp ((lg_cmp_lt _ _).mp q)))]
    by_cases h2 : hi < x
    · rw [if_pos ((lg_cmp_gt _ _).mpr ((w_lt _ _).mpr h2)), if_neg (fun q => absurd (Int32.not_le.mpr h2) (fun z => z q.2))]
    · rw [if_neg (fun q => h2 ((w_lt _ _).mp ((lg_cmp_gt _ _).mp q))), if_pos ⟨Int32.not_lt.mp h1, Int32.not_lt.mp h2⟩]
theorem m_cellOf : ∀ c, c < 16 → M_X8_cellOf (nI (2 ^ c)) = some (nI c) := by decide +kernel
/-- how many bits -/
def pc16 (m : Nat) : Nat → Nat
  | 0 => 0
  | k + 1 => pc16 m k + (if m.testBit k then 1 else 0)
def bcN (m : Nat) : Nat :=
  let a := m - (m / 2 &&& 1431655765)
  let b := (a &&& 858993459) + (a / 4 &&& 858993459)
  let d := (b + b / 16) &&& 252645135
  let e := d + d / 256
  (e + e / 65536) &&& 63
