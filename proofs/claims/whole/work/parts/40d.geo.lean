/-! The house's geometry -/
def nb (R C c : Nat) : Nat → Option Nat
  | 0 => if C ≤ c then some (c - C) else none
  | 1 => if c % C + 1 < C then some (c + 1) else none
  | 2 => if c + C < R * C then some (c + C) else none
  | 3 => if 0 < c % C then some (c - 1) else none
  | _ => some c
def opw : Nat → Nat
  | 0 => 2
  | 1 => 3
  | 2 => 0
  | 3 => 1
  | _ => 4
theorem nb_lt' : ∀ R, R < 5 → ∀ C, C < 5 → ∀ c, c < 16 → c < R * C → ∀ w, w < 5 → (nb R C c w).all (fun q => decide (q < R * C)) = true := by decide +kernel
theorem nb_op' : ∀ R, R < 5 → ∀ C, C < 5 → ∀ c, c < 16 → c < R * C → ∀ w, w < 5 → (nb R C c w).all (fun q => decide (nb R C q (opw w) = some c)) = true := by decide +kernel
/-- rows and columns of a house -/
def okD (R C : Nat) : Prop := 1 ≤ R ∧ R ≤ 4 ∧ 1 ≤ C ∧ C ≤ 4
theorem okD.n16 {R C : Nat} (h : okD R C) : R * C ≤ 16 := by
  obtain ⟨h1, h2, h3, h4⟩ := h
  exact Nat.le_trans (Nat.mul_le_mul h2 h4) (by decide)
theorem okD.pos {R C : Nat} (h : okD R C) : 0 < R * C := Nat.mul_pos h.1 h.2.2.1
theorem nb_lt {R C c w q : Nat} (h : okD R C) (hc : c < R * C) (hw : w < 5) (e : nb R C c w = some q) : q < R * C := by
  have := nb_lt' R (by have := h.2.1; omega) C (by have := h.2.2.2; omega) c (Nat.lt_of_lt_of_le hc h.n16) hc w hw
  rw [e] at this
  simpa using this
theorem nb_op {R C c w q : Nat} (h : okD R C) (hc : c < R * C) (hw : w < 5) (e : nb R C c w = some q) : nb R C q (opw w) = some c := by
  have := nb_op' R (by have := h.2.1; omega) C (by have := h.2.2.2; omega) c (Nat.lt_of_lt_of_le hc h.n16) hc w hw
  rw [e] at this
  simpa using this
/-- the class's house out of rows, columns, signs, door, thing, ears -/
def hOf (R C : Nat) (sg : Nat → Nat) (dr th er : Nat) : HT :=
  (nI R, nI C, nI (2 ^ (R * C) - 1), nI (mk (fun c => c % C == 0) (R * C)), nI (mk (fun c => c % C == C - 1) (R * C)), nI (mk (fun c => sg c == 35) (R * C)), nI (mk (fun c => sg c == 103) (R * C)), nI (mk (fun c => sg c == 99) (R * C)), nI (mk (fun c => sg c == 100) (R * C)), nI dr, nI th, nI er)
/-- a mask, moved by a way: cell i holds what the cell against the way holds -/
def mv (R C m w : Nat) : Nat := mk (fun i => match nb R C i (opw w) with | some c => m.testBit c | none => false) (R * C)
theorem mv_lt (R C m w : Nat) : mv R C m w < 2 ^ (R * C) := mk_lt _ _
theorem lt16 {R C m : Nat} (h : okD R C) (hm : m < 2 ^ (R * C)) : m < 65536 := Nat.lt_of_lt_of_le hm (Nat.pow_le_pow_right (n := 2) (by omega) h.n16)
theorem w_ne {a b : Nat} (ha : a < 2 ^ 31) (hb : b < 2 ^ 31) (h : a ≠ b) : ¬ nI a = nI b := fun q => h ((nI_eq ha hb).mp q)
theorem md_step {C i : Nat} (hC : 0 < C) : (0 < (i + 1) % C) ↔ ¬ i % C = C - 1 := by
  rw [Nat.add_mod]
  rcases Nat.lt_or_ge 1 C with q | q
  · rw [Nat.mod_eq_of_lt q]
    have h := Nat.mod_lt i hC
    rcases Nat.lt_or_ge (i % C + 1) C with k | k
    · rw [Nat.mod_eq_of_lt k]; omega
    · have e : i % C + 1 = C := by omega
      rw [e, Nat.mod_self]; omega
  · have e : C = 1 := by omega
    subst e
    simp [Nat.mod_one]
theorem m_moved {R C m w : Nat} (sg : Nat → Nat) (dr th er : Nat) (h : okD R C) (hm : m < 2 ^ (R * C)) (hw : w < 5) : M_X0_moved (hOf R C sg dr th er) (nI m) (nI w) = some (nI (mv R C m w)) := by
  have hm' := lt16 h hm
  have hC : C ≤ 4 := h.2.2.2
  have hC1 : 0 < C := h.2.2.1
  have hz : ∀ j, R * C ≤ j → m.testBit j = false := fun j hj => Nat.testBit_lt_two_pow (Nat.lt_of_lt_of_le hm (Nat.pow_le_pow_right (by omega) hj))
  have e0 : (0 : Int32) = nI 0 := rfl
  have e1 : (1 : Int32) = nI 1 := rfl
  have e2 : (2 : Int32) = nI 2 := rfl
  have e3 : (3 : Int32) = nI 3 := rfl
  have p4 : 2 ^ C ≤ 16 := Nat.le_trans (Nat.pow_le_pow_right (n := 2) (by omega) hC) (by decide)
  unfold M_X0_moved
  dsimp only [hOf]
  obtain rfl | rfl | rfl | rfl | rfl : w = 0 ∨ w = 1 ∨ w = 2 ∨ w = 3 ∨ w = 4 := by omega
  · rw [if_pos (show nI 0 = 0 from rfl), n_ushr (by omega) (by omega)]
    congr 2
    apply mk_eq (Nat.lt_of_le_of_lt (Nat.div_le_self _ _) hm)
    intro i hi
    rw [Nat.testBit_div_two_pow]
    show _ = (match (if i + C < R * C then some (i + C) else none) with | some c => m.testBit c | none => false)
    by_cases q : i + C < R * C
    · rw [if_pos q]
    · rw [if_neg q, hz _ (by omega)]
  · rw [if_neg (show ¬ nI 1 = 0 from w_ne (a := 1) (b := 0) (by omega) (by omega) (by omega)), if_pos (show nI 1 = 1 from rfl), n_andn]
    have hlt : andn m (mk (fun c => c % C == C - 1) (R * C)) < 2 ^ (R * C) := bits_lt (fun i hi => by rw [andn_bit, hz i hi]; rfl)
    have h16 := lt16 h hlt
    rw [show nI (andn m (mk (fun c => c % C == C - 1) (R * C))) <<< ((1 : Int32) &&& 31) = nI (andn m (mk (fun c => c % C == C - 1) (R * C)) * 2 ^ 1) from n_shl (k := 1) (by omega) (by omega)]
    congr 2
    apply mk_eq
    · apply bits_lt
      intro i hi
      have hp := h.pos
      rw [Nat.testBit_mul_two_pow, andn_bit, mk_bit]
      by_cases q : R * C ≤ i - 1
      · rw [hz _ q]; simp
      · have e : i = R * C := by omega
        have e2 : (R * C - 1) % C = C - 1 := by
          obtain ⟨R', rfl⟩ : ∃ R', R = R' + 1 := ⟨R - 1, by have := h.1; omega⟩
          rw [Nat.add_mul, Nat.one_mul, Nat.add_sub_assoc (by omega), Nat.add_comm, Nat.add_mul_mod_self_right, Nat.mod_eq_of_lt (by omega)]
        rw [e, e2]
        have : R * C - 1 < R * C := by omega
        simp [this]
    · intro i hi
      rw [Nat.testBit_mul_two_pow, andn_bit, mk_bit]
      show _ = (match (if 0 < i % C then some (i - 1) else none) with | some c => m.testBit c | none => false)
      cases i with
      | zero => simp
      | succ j =>
        have hj : j < R * C := by omega
        by_cases q : j % C = C - 1
        · rw [if_neg (fun z => (md_step hC1).mp z q)]
          simp [hj, q]
        · rw [if_pos ((md_step hC1).mpr q)]
          simp [hj, q]
  · rw [if_neg (show ¬ nI 2 = 0 from w_ne (a := 2) (b := 0) (by omega) (by omega) (by omega)), if_neg (show ¬ nI 2 = 1 from w_ne (a := 2) (b := 1) (by omega) (by omega) (by omega)), if_pos (show nI 2 = 2 from rfl)]
    have hx : m * 2 ^ C < 2 ^ 32 := Nat.lt_of_le_of_lt (Nat.mul_le_mul (Nat.le_of_lt hm') p4) (by omega)
    rw [n_shl (by omega) hx, n_and]
    congr 2
    apply mk_eq (Nat.lt_of_le_of_lt Nat.and_le_right (Nat.sub_lt (Nat.two_pow_pos _) (by omega)))
    intro i hi
    rw [Nat.testBit_and, Nat.testBit_mul_two_pow, Nat.testBit_two_pow_sub_one]
    show _ = (match (if C ≤ i then some (i - C) else none) with | some c => m.testBit c | none => false)
    by_cases q : C ≤ i
    · simp [q, hi]
    · simp [q, hi]
  · rw [if_neg (show ¬ nI 3 = 0 from w_ne (a := 3) (b := 0) (by omega) (by omega) (by omega)), if_neg (show ¬ nI 3 = 1 from w_ne (a := 3) (b := 1) (by omega) (by omega) (by omega)), if_neg (show ¬ nI 3 = 2 from w_ne (a := 3) (b := 2) (by omega) (by omega) (by omega)), if_pos (show nI 3 = 3 from rfl), n_andn]
    have hlt : andn m (mk (fun c => c % C == 0) (R * C)) < 2 ^ (R * C) := bits_lt (fun i hi => by rw [andn_bit, hz i hi]; rfl)
    have h16 := lt16 h hlt
    rw [show ((nI (andn m (mk (fun c => c % C == 0) (R * C)))).toUInt32 >>> ((1 : Int32).toUInt32 &&& Int32.toUInt32 31)).toInt32 = nI (andn m (mk (fun c => c % C == 0) (R * C)) / 2 ^ 1) from n_ushr (k := 1) (by omega) (by omega)]
    congr 2
    apply mk_eq (Nat.lt_of_le_of_lt (Nat.div_le_self _ _) hlt)
    intro i hi
    rw [Nat.testBit_div_two_pow, andn_bit, mk_bit]
    show _ = (match (if i % C + 1 < C then some (i + 1) else none) with | some c => m.testBit c | none => false)
    by_cases q : i % C + 1 < C
    · have : ¬ (i + 1) % C = 0 := by have := (md_step (i := i) hC1).mpr (by omega); omega
      rw [if_pos q]
      simp [this]
    · have : (i + 1) % C = 0 := by
        have h2 := Nat.mod_lt i hC1
        rcases Nat.eq_zero_or_pos ((i + 1) % C) with z | z
        · exact z
        · exact absurd ((md_step hC1).mp z) (by omega)
      rw [if_neg q]
      by_cases q2 : i + 1 < R * C
      · simp [this, q2]
      · rw [hz _ (by omega)]; simp
  · rw [if_neg (show ¬ nI 4 = 0 from w_ne (a := 4) (b := 0) (by omega) (by omega) (by omega)), if_neg (show ¬ nI 4 = 1 from w_ne (a := 4) (b := 1) (by omega) (by omega) (by omega)), if_neg (show ¬ nI 4 = 2 from w_ne (a := 4) (b := 2) (by omega) (by omega) (by omega)), if_neg (show ¬ nI 4 = 3 from w_ne (a := 4) (b := 3) (by omega) (by omega) (by omega))]
    congr 2
    apply mk_eq hm
    intro i hi
    rfl
