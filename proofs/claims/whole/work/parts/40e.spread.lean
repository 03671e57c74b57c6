/-- a mask and all beside it -/
def sp (R C m : Nat) : Nat := (((m ||| mv R C m 0) ||| mv R C m 1) ||| mv R C m 2) ||| mv R C m 3
theorem or_lt {a b n : Nat} (ha : a < 2 ^ n) (hb : b < 2 ^ n) : a ||| b < 2 ^ n := Nat.or_lt_two_pow ha hb
theorem sp_lt {R C m : Nat} (hm : m < 2 ^ (R * C)) : sp R C m < 2 ^ (R * C) := or_lt (or_lt (or_lt (or_lt hm (mv_lt ..)) (mv_lt ..)) (mv_lt ..)) (mv_lt ..)
theorem m_spread {R C m : Nat} (sg : Nat → Nat) (dr th er : Nat) (h : okD R C) (hm : m < 2 ^ (R * C)) : M_X0_spread (hOf R C sg dr th er) (nI m) = some (nI (sp R C m)) := by
  have st : ∀ k a w, w < 4 → M_X0_spread_4 (hOf R C sg dr th er) (nI m) (k + 1) (nI a, nI w) = M_X0_spread_4 (hOf R C sg dr th er) (nI m) k (nI (a ||| mv R C m w), nI (w + 1)) := by
    intro k a w hw
    show M_X0_spread_4b _ _ _ _ = _
    unfold M_X0_spread_4b
    dsimp only
    rw [if_neg (show ¬ (4 : Int32) ≤ nI w from nI_ge (a := w) (b := 4) hw (by omega)), m_moved sg dr th er h hm (by omega), Option.bind_some]
    rw [n_or, nI_succ]
  unfold M_X0_spread
  show M_X0_spread_4 _ _ (199 + 1) (nI m, nI 0) = _
  rw [st 199 m 0 (by omega), st 198 _ 1 (by omega), st 197 _ 2 (by omega), st 196 _ 3 (by omega)]
  rfl
/-- all within n steps -/
def arnd (R C m : Nat) : Nat → Nat
  | 0 => m
  | n + 1 => sp R C (arnd R C m n)
theorem arnd_lt {R C m : Nat} (hm : m < 2 ^ (R * C)) : ∀ n, arnd R C m n < 2 ^ (R * C)
  | 0 => hm
  | n + 1 => sp_lt (arnd_lt hm n)
theorem m_around {R C c n : Nat} (sg : Nat → Nat) (dr th er : Nat) (h : okD R C) (hc : c < R * C) (hn : n < 20) : M_X0_around (hOf R C sg dr th er) (nI c) (nI n) = some (nI (arnd R C (2 ^ c) n)) := by
  have h16 := h.n16
  have hb : 2 ^ c < 2 ^ (R * C) := Nat.pow_lt_pow_right (by omega) hc
  have st : ∀ j k, j ≤ n → n - j < k → M_X0_around_8 (hOf R C sg dr th er) (nI c) (nI n) k (nI (arnd R C (2 ^ c) j), nI j) = some (nI (arnd R C (2 ^ c) n)) := by
    intro j k hj hk
    induction k generalizing j with
    | zero => omega
    | succ k ih =>
      show M_X0_around_8b _ _ _ _ _ = _
      unfold M_X0_around_8b
      dsimp only
      rcases Nat.lt_or_ge j n with q | q
      · rw [if_neg (show ¬ nI n ≤ nI j from nI_ge q (by omega)), m_spread sg dr th er h (arnd_lt hb j), Option.bind_some, ← ih (j + 1) (by omega) (by omega)]
        rw [nI_succ]
        rfl
      · have e : j = n := by omega
        subst e
        rw [if_pos (show nI j ≤ nI j from nI_le (Nat.le_refl _) (by omega))]
  unfold M_X0_around
  rw [m_bit (by omega), Option.bind_some]
  exact st 0 200 (by omega) (by omega)
