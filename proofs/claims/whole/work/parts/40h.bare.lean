theorem m_at {n c : Nat} (f : AR) (h : c < n) (hn : n < 2 ^ 31) : M_X8_at n f (nI c) = some (f c) := by
  unfold M_X8_at
  rw [if_neg (nI_pos (by omega)), if_neg (nI_ge h hn), if_pos (nI_in h hn), nI_clamp (by omega)]
/-- what no watcher of the first n spoils -/
def brs (R C : Nat) (sg : Nat → Nat) (er : Nat) (wc wl wd : Nat → Nat) : Nat → Nat
  | 0 => andn (2 ^ (R * C) - 1) (sgn R C sg 35)
  | n + 1 => andn (brs R C sg er wc wl wd n) (spo R C sg er (wc n) (wl n) (wd n))
theorem brs_lt (R C : Nat) (sg : Nat → Nat) (er : Nat) (wc wl wd : Nat → Nat) : ∀ n, brs R C sg er wc wl wd n < 2 ^ (R * C)
  | 0 => andn_lt (Nat.sub_lt (Nat.two_pow_pos _) (by omega))
  | n + 1 => andn_lt (brs_lt R C sg er wc wl wd n)
theorem m_bare {R C : Nat} {sg : Nat → Nat} {dr th er k : Nat} {wc wl wd : Nat → Nat} {h : HT} {v : VT} (ho : okS R C sg dr th er k wc wl wd) (hx : rX R C sg dr th er k wc wl wd h v) : M_X0_bareCells h v = some (nI (brs R C sg er wc wl wd k)) := by
  obtain ⟨hd, hs, hdr, hth, her, hk, hw⟩ := ho
  obtain ⟨hh, hv, hq⟩ := hx
  subst hh
  have st : ∀ n m, m ≤ k → k - m < n → M_X0_bareCells_7 (hOf R C sg dr th er) v n (nI (brs R C sg er wc wl wd m), nI m) = some (nI (brs R C sg er wc wl wd k)) := by
    intro n
    induction n with
    | zero => intro m hm hn; omega
    | succ n ih =>
      intro m hm hn
      show M_X0_bareCells_7b _ _ _ _ = _
      unfold M_X0_bareCells_7b
      dsimp only
      rw [hv]
      rcases Nat.lt_or_ge m k with q | q
      · obtain ⟨q1, q2, q3⟩ := hq m q
        obtain ⟨w1, w2, w3, w4⟩ := hw m q
        rw [if_neg (nI_ge q (by omega))]
        unfold M_X4_cellOfOne M_X4_lookingOf M_X4_hasDog
        rw [m_at _ (by omega) (by omega), m_at _ (by omega) (by omega), m_at _ (by omega) (by omega)]
        simp only [Option.bind_some]
        rw [q1, q2, q3]
        have e : (if nI (wd m) = (1 : Int32) then (some (1 : Int32)) else (some (0 : Int32))) = some (nI (wd m)) := by
          obtain z | z : wd m = 0 ∨ wd m = 1 := by omega
          · rw [z]; decide +kernel
          · rw [z]; decide +kernel
        rw [e, Option.bind_some, m_spoiled sg dr th er hd w1 (by omega) her w4, Option.bind_some, n_andn, ← nI_succ]
        exact ih (m + 1) (by omega) (by omega)
      · have e : m = k := by omega
        rw [e, if_pos (nI_le (Nat.le_refl _) (by omega))]
  unfold M_X0_bareCells
  rw [m_open, Option.bind_some]
  exact st 200 0 (by omega) (by omega)
