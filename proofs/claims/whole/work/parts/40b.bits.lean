theorem bit_hi (a b k : Nat) (hb : b < 256) : (a * 256 + b).testBit (k + 8) = a.testBit k := by
  have := Nat.testBit_two_pow_mul_add a (i := 8) (b := b) hb (k + 8)
  rw [show a * 256 = 2 ^ 8 * a by omega, this, if_neg (by omega), Nat.add_sub_cancel]
theorem bit_lo (a b k : Nat) (hb : b < 256) (hk : k < 8) : (a * 256 + b).testBit k = b.testBit k := by
  have := Nat.testBit_two_pow_mul_add a (i := 8) (b := b) hb k
  rw [show a * 256 = 2 ^ 8 * a by omega, this]
  simp [hk]
theorem pc_split (a b : Nat) (hb : b < 256) : pc16 (a * 256 + b) 16 = pc16 a 8 + pc16 b 8 := by
  have h0 := bit_hi a b 0 hb
  have h1 := bit_hi a b 1 hb
  have h2 := bit_hi a b 2 hb
  have h3 := bit_hi a b 3 hb
  have h4 := bit_hi a b 4 hb
  have h5 := bit_hi a b 5 hb
  have h6 := bit_hi a b 6 hb
  have h7 := bit_hi a b 7 hb
  have g0 := bit_lo a b 0 hb (by omega)
  have g1 := bit_lo a b 1 hb (by omega)
  have g2 := bit_lo a b 2 hb (by omega)
  have g3 := bit_lo a b 3 hb (by omega)
  have g4 := bit_lo a b 4 hb (by omega)
  have g5 := bit_lo a b 5 hb (by omega)
  have g6 := bit_lo a b 6 hb (by omega)
  have g7 := bit_lo a b 7 hb (by omega)
  simp only [pc16, h0, h1, h2, h3, h4, h5, h6, h7, g0, g1, g2, g3, g4, g5, g6, g7]
  omega
theorem pc_8 : ∀ b, b < 256 → bcN b = pc16 b 8 := by decide +kernel
/-- all of a row -/
def bcRow (a pa : Nat) : Nat → Bool
  | 0 => true
  | b + 1 => and (Nat.beq (bcN (a * 256 + b)) (pa + bcN b)) (bcRow a pa b)
def bcRows : Nat → Bool
  | 0 => true
  | a + 1 => and (bcRow a (bcN a) 256) (bcRows a)
theorem bc_rows : bcRows 256 = true := by decide +kernel
theorem bcRow_of {a pa : Nat} : ∀ {n b : Nat}, bcRow a pa n = true → b < n → bcN (a * 256 + b) = pa + bcN b := by
  intro n
  induction n with
  | zero => intro b _ h; omega
  | succ n ih =>
    intro b h hb
    unfold bcRow at h
    rw [Bool.and_eq_true] at h
    rcases Nat.lt_or_ge b n with q | q
    · exact ih h.2 q
    · have e : b = n := by omega
      subst e
      exact Nat.eq_of_beq_eq_true h.1
theorem bcRows_of : ∀ {n a : Nat}, bcRows n = true → a < n → bcRow a (bcN a) 256 = true := by
  intro n
  induction n with
  | zero => intro a _ h; omega
  | succ n ih =>
    intro a h ha
    unfold bcRows at h
    rw [Bool.and_eq_true] at h
    rcases Nat.lt_or_ge a n with q | q
    · exact ih h.2 q
    · have e : a = n := by omega
      subst e
      exact h.1
theorem bc_all {m : Nat} (h : m < 65536) : bcN m = pc16 m 16 := by
  have e : m = m / 256 * 256 + m % 256 := by omega
  have ha : m / 256 < 256 := by omega
  have hb : m % 256 < 256 := by omega
  rw [e, bcRow_of (bcRows_of bc_rows ha) hb, pc_split _ _ hb, pc_8 _ ha, pc_8 _ hb]
