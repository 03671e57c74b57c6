/-- the cells with a sign -/
def sgn (R C : Nat) (sg : Nat → Nat) (q : Nat) : Nat := mk (fun c => sg c == q) (R * C)
theorem sgn_lt (R C : Nat) (sg : Nat → Nat) (q : Nat) : sgn R C sg q < 2 ^ (R * C) := mk_lt _ _
/-- the n-th cell in a line, no wall -/
def frt (R C : Nat) (sg : Nat → Nat) (w m : Nat) : Nat → Nat
  | 0 => m
  | n + 1 => andn (mv R C (frt R C sg w m n) w) (sgn R C sg 35)
theorem andn_lt {a b n : Nat} (h : a < 2 ^ n) : andn a b < 2 ^ n := bits_lt (fun i hi => by rw [andn_bit, Nat.testBit_lt_two_pow (Nat.lt_of_lt_of_le h (Nat.pow_le_pow_right (by omega) hi))]; rfl)
theorem frt_lt {R C m : Nat} {sg : Nat → Nat} {w : Nat} (hm : m < 2 ^ (R * C)) : ∀ n, frt R C sg w m n < 2 ^ (R * C)
  | 0 => hm
  | n + 1 => andn_lt (mv_lt ..)
def sgt (R C : Nat) (sg : Nat → Nat) (w c : Nat) : Nat := ((2 ^ c ||| frt R C sg w (2 ^ c) 1) ||| frt R C sg w (2 ^ c) 2) ||| frt R C sg w (2 ^ c) 3
theorem p_lt {c n : Nat} (h : c < n) : 2 ^ c < 2 ^ n := Nat.pow_lt_pow_right (by omega) h
theorem sgt_lt {R C c : Nat} {sg : Nat → Nat} {w : Nat} (hc : c < R * C) : sgt R C sg w c < 2 ^ (R * C) := or_lt (or_lt (or_lt (p_lt hc) (frt_lt (p_lt hc) 1)) (frt_lt (p_lt hc) 2)) (frt_lt (p_lt hc) 3)
theorem m_sight {R C c w : Nat} (sg : Nat → Nat) (dr th er : Nat) (h : okD R C) (hc : c < R * C) (hw : w < 5) : M_X0_sightFrom (hOf R C sg dr th er) (nI c) (nI w) = some (nI (sgt R C sg w c)) := by
  have h16 := h.n16
  have st : ∀ k a n, n < 3 → M_X0_sightFrom_11 (hOf R C sg dr th er) (nI c) (nI w) (k + 1) (nI (frt R C sg w (2 ^ c) n), nI a, nI (n + 1)) = M_X0_sightFrom_11 (hOf R C sg dr th er) (nI c) (nI w) k (nI (frt R C sg w (2 ^ c) (n + 1)), nI (a ||| frt R C sg w (2 ^ c) (n + 1)), nI (n + 2)) := by
    intro k a n hn
    show M_X0_sightFrom_11b _ _ _ _ _ = _
    unfold M_X0_sightFrom_11b
    dsimp only
    rw [if_neg (show ¬ (4 : Int32) ≤ nI (n + 1) from nI_ge (a := n + 1) (b := 4) (by omega) (by omega)), m_moved sg dr th er h (frt_lt (p_lt hc) n) hw, Option.bind_some]
    show M_X0_sightFrom_11 _ _ _ k (nI (mv R C (frt R C sg w (2 ^ c) n) w) &&& (nI (sgn R C sg 35) ^^^ -1), nI a ||| (nI (mv R C (frt R C sg w (2 ^ c) n) w) &&& (nI (sgn R C sg 35) ^^^ -1)), nI (n + 1) + 1) = _
    rw [n_andn, n_or, ← nI_succ]
    rfl
  unfold M_X0_sightFrom
  rw [m_bit (by omega), Option.bind_some]
  show M_X0_sightFrom_11 _ _ _ (199 + 1) (nI (frt R C sg w (2 ^ c) 0), nI (2 ^ c), nI (0 + 1)) = _
  rw [st 199 _ 0 (by omega), st 198 _ 1 (by omega), st 197 _ 2 (by omega)]
  rfl
/-- what a watcher spoils -/
def spo (R C : Nat) (sg : Nat → Nat) (er c w d : Nat) : Nat :=
  let b := (sgt R C sg w c &&& (sgn R C sg 103 ||| sgn R C sg 100)) ||| (arnd R C (2 ^ c) er &&& sgn R C sg 99)
  if d = 0 then b else b ||| arnd R C (2 ^ c) 1
theorem and_lt {a b n : Nat} (h : a < 2 ^ n) : a &&& b < 2 ^ n := Nat.lt_of_le_of_lt Nat.and_le_left h
theorem spo_lt {R C c w d er : Nat} {sg : Nat → Nat} (hc : c < R * C) : spo R C sg er c w d < 2 ^ (R * C) := by
  have h1 : (sgt R C sg w c &&& (sgn R C sg 103 ||| sgn R C sg 100)) ||| (arnd R C (2 ^ c) er &&& sgn R C sg 99) < 2 ^ (R * C) := or_lt (and_lt (sgt_lt hc)) (and_lt (arnd_lt (p_lt hc) er))
  unfold spo
  dsimp only
  split
  · exact h1
  · exact or_lt h1 (arnd_lt (p_lt hc) 1)
theorem m_spoiled {R C c w d : Nat} (sg : Nat → Nat) (dr th er : Nat) (h : okD R C) (hc : c < R * C) (hw : w < 5) (he : er ≤ 6) (hd : d < 2) : M_X0_spoiledFrom (hOf R C sg dr th er) (nI c) (nI w) (nI d) = some (nI (spo R C sg er c w d)) := by
  unfold M_X0_spoiledFrom
  rw [m_sight sg dr th er h hc hw, Option.bind_some]
  show (M_X0_around (hOf R C sg dr th er) (nI c) (nI er)).bind _ = _
  rw [m_around sg dr th er h hc (by omega), Option.bind_some]
  have e : (nI (sgt R C sg w c) &&& ((hOf R C sg dr th er).2.2.2.2.2.2.1 ||| (hOf R C sg dr th er).2.2.2.2.2.2.2.2.1)) ||| (nI (arnd R C (2 ^ c) er) &&& (hOf R C sg dr th er).2.2.2.2.2.2.2.1) = nI ((sgt R C sg w c &&& (sgn R C sg 103 ||| sgn R C sg 100)) ||| (arnd R C (2 ^ c) er &&& sgn R C sg 99)) := by
    show (nI (sgt R C sg w c) &&& (nI (sgn R C sg 103) ||| nI (sgn R C sg 100))) ||| (nI (arnd R C (2 ^ c) er) &&& nI (sgn R C sg 99)) = _
    rw [n_or, n_and, n_and, n_or]
  rw [e]
  obtain rfl | rfl : d = 0 ∨ d = 1 := by omega
  · rw [if_pos (show nI 0 = 0 from rfl)]
    rfl
  · rw [if_neg (show ¬ nI 1 = 0 from w_ne (a := 1) (b := 0) (by omega) (by omega) (by omega)), show M_X0_around (hOf R C sg dr th er) (nI c) (1 : Int32) = _ from m_around (n := 1) sg dr th er h hc (by omega), Option.bind_some, n_or]
    rfl
theorem m_open {R C : Nat} (sg : Nat → Nat) (dr th er : Nat) : M_X0_open (hOf R C sg dr th er) = some (nI (andn (2 ^ (R * C) - 1) (sgn R C sg 35))) := by
  unfold M_X0_open
  show some (nI (2 ^ (R * C) - 1) &&& (nI (sgn R C sg 35) ^^^ -1)) = _
  rw [n_andn]
