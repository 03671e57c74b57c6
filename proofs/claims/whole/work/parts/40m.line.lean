def oM (o : Option Nat) : Nat := match o with
  | some q => 2 ^ q
  | none => 0
theorem mv_one' : ∀ R, R < 5 → ∀ C, C < 5 → ∀ c, c < 16 → c < R * C → ∀ w, w < 5 → mv R C (2 ^ c) w = oM (nb R C c w) := by decide +kernel
theorem mv_zero (R C w : Nat) : mv R C 0 w = 0 := by
  unfold mv
  apply (mk_eq (Nat.two_pow_pos _) _).symm
  intro i hi
  rw [Nat.zero_testBit]
  split <;> simp
theorem stp_lt {R C c w q : Nat} {sg : Nat → Nat} (h : okD R C) (hc : c < R * C) (hw : w < 5) (e : stp R C sg c w = some q) : q < R * C ∧ sg q ≠ 35 ∧ nb R C c w = some q := by
  unfold stp at e
  split at e
  · rename_i p hp
    split at e
    · exact absurd e (by simp)
    · rename_i hs
      injection e with e
      subst e
      exact ⟨nb_lt h hc hw hp, hs, hp⟩
  · exact absurd e (by simp)
theorem mv_stp {R C c w : Nat} {sg : Nat → Nat} (h : okD R C) (hc : c < R * C) (hw : w < 5) : andn (mv R C (2 ^ c) w) (sgn R C sg 35) = oM (stp R C sg c w) := by
  rw [mv_one' R (by have := h.2.1; omega) C (by have := h.2.2.2; omega) c (Nat.lt_of_lt_of_le hc h.n16) hc w hw]
  unfold stp
  cases e : nb R C c w with
  | none =>
    show andn 0 _ = 0
    unfold andn; simp
  | some q =>
    have hq := nb_lt h hc hw e
    show andn (2 ^ q) _ = oM (if sg q = 35 then none else some q)
    by_cases z : sg q = 35
    · rw [if_pos z]
      apply Nat.eq_of_testBit_eq
      intro i
      rw [andn_bit, Nat.testBit_two_pow]
      show _ = Nat.testBit 0 i
      rw [Nat.zero_testBit]
      by_cases y : q = i
      · subst y; unfold sgn; rw [mk_bit]; simp [hq, z]
      · simp [y]
    · rw [if_neg z]
      apply Nat.eq_of_testBit_eq
      intro i
      rw [andn_bit]
      show _ = Nat.testBit (2 ^ q) i
      rw [Nat.testBit_two_pow]
      by_cases y : q = i
      · subst y; unfold sgn; rw [mk_bit]; simp [z]
      · simp [y]
/-- the n-th cell of a line -/
def itr (R C : Nat) (sg : Nat → Nat) (w c : Nat) : Nat → Option Nat
  | 0 => some c
  | n + 1 => (itr R C sg w c n).bind fun q => stp R C sg q w
theorem itr_lt {R C c w : Nat} {sg : Nat → Nat} (h : okD R C) (hc : c < R * C) (hw : w < 5) : ∀ n q, itr R C sg w c n = some q → q < R * C := by
  intro n
  induction n with
  | zero => intro q e; injection e with e; omega
  | succ n ih =>
    intro q e
    cases p : itr R C sg w c n with
    | none => rw [show itr R C sg w c (n + 1) = (itr R C sg w c n).bind _ from rfl, p] at e; exact absurd e (by simp)
    | some r =>
      rw [show itr R C sg w c (n + 1) = (itr R C sg w c n).bind _ from rfl, p] at e
      exact (stp_lt h (ih r p) hw e).1
theorem frt_itr {R C c w : Nat} {sg : Nat → Nat} (h : okD R C) (hc : c < R * C) (hw : w < 5) : ∀ n, frt R C sg w (2 ^ c) n = oM (itr R C sg w c n) := by
  intro n
  induction n with
  | zero => rfl
  | succ n ih =>
    show andn (mv R C (frt R C sg w (2 ^ c) n) w) (sgn R C sg 35) = oM ((itr R C sg w c n).bind _)
    rw [ih]
    cases p : itr R C sg w c n with
    | none =>
      show andn (mv R C 0 w) _ = 0
      rw [mv_zero]; unfold andn; simp
    | some r => exact mv_stp h (itr_lt h hc hw n r p) hw
