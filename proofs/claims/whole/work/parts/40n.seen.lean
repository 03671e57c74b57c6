theorem line4' : ∀ R, R < 5 → ∀ C, C < 5 → ∀ c, c < 16 → c < R * C → ∀ w, w < 4 → ((((nb R C c w).bind fun q => nb R C q w).bind fun q => nb R C q w).bind fun q => nb R C q w) = none := by decide +kernel
theorem itr4 {R C c w : Nat} {sg : Nat → Nat} (h : okD R C) (hc : c < R * C) (hw : w < 4) : itr R C sg w c 4 = none := by
  have l4 := line4' R (by have := h.2.1; omega) C (by have := h.2.2.2; omega) c (Nat.lt_of_lt_of_le hc h.n16) hc w hw
  cases e1 : itr R C sg w c 1 with
  | none => show ((((itr R C sg w c 1).bind _).bind _).bind _) = none; rw [e1]; rfl
  | some a =>
    have s1 := stp_lt h hc (by omega) (show stp R C sg c w = some a from e1)
    cases e2 : stp R C sg a w with
    | none => show ((((itr R C sg w c 1).bind _).bind _).bind _) = none; rw [e1, Option.bind_some, e2]; rfl
    | some b =>
      have s2 := stp_lt h s1.1 (by omega) e2
      cases e3 : stp R C sg b w with
      | none => show ((((itr R C sg w c 1).bind _).bind _).bind _) = none; rw [e1, Option.bind_some, e2, Option.bind_some, e3]; rfl
      | some d =>
        have s3 := stp_lt h s2.1 (by omega) e3
        cases e4 : stp R C sg d w with
        | none => show ((((itr R C sg w c 1).bind _).bind _).bind _) = none; rw [e1, Option.bind_some, e2, Option.bind_some, e3, Option.bind_some, e4]
        | some f =>
          have s4 := stp_lt h s3.1 (by omega) e4
          rw [s1.2.2, Option.bind_some, s2.2.2, Option.bind_some, s3.2.2, Option.bind_some, s4.2.2] at l4
          exact absurd l4 (by simp)
/-- what a line saw so far -/
def lacc (R C : Nat) (sg : Nat → Nat) (w c : Nat) : Nat → Nat
  | 0 => 0
  | n + 1 => lacc R C sg w c n ||| oM (itr R C sg w c n)
theorem itr_none {R C c w n : Nat} {sg : Nat → Nat} (h : itr R C sg w c n = none) : itr R C sg w c (n + 1) = none := by
  show (itr R C sg w c n).bind _ = none
  rw [h]; rfl
theorem lacc_none {R C c w n : Nat} {sg : Nat → Nat} (h : itr R C sg w c n = none) : lacc R C sg w c (n + 1) = lacc R C sg w c n := by
  show _ ||| oM (itr R C sg w c n) = _
  rw [h]
  exact Nat.or_zero _
theorem lacc_sgt {R C c w : Nat} {sg : Nat → Nat} (h : okD R C) (hc : c < R * C) (hw : w < 5) : lacc R C sg w c 4 = sgt R C sg w c := by
  unfold sgt
  rw [frt_itr h hc hw, frt_itr h hc hw, frt_itr h hc hw]
  show (((0 ||| 2 ^ c) ||| _) ||| _) ||| _ = _
  rw [Nat.zero_or]
theorem m_seenFrom {R C c w : Nat} {sg : Nat → Nat} {dr th er k : Nat} {wc wl wd : Nat → Nat} {mb : BT} (ho : okS R C sg dr th er k wc wl wd) (hr : rM R C sg dr th er k wc wl wd mb) (hc : c < R * C) (hw : w < 4) : M_X9_seenFrom mb (nI c) (nI w) = some (nI (sgt R C sg w c)) := by
  have h16 := ho.1.n16
  have st : ∀ f n, n ≤ 4 → 4 - n < f → M_X9_seenFrom_5 mb (nI c) (nI w) f (nI (lacc R C sg w c n), oI (itr R C sg w c n)) = some (nI (lacc R C sg w c 4)) := by
    intro f
    induction f with
    | zero => intro n hn hf; omega
    | succ f ih =>
      intro n hn hf
      show M_X9_seenFrom_5b _ _ _ _ _ = _
      unfold M_X9_seenFrom_5b
      dsimp only
      cases e : itr R C sg w c n with
      | none =>
        rw [if_pos (show oI none < 0 by decide +kernel)]
        have z : ∀ d, itr R C sg w c (n + d) = none ∧ lacc R C sg w c (n + d) = lacc R C sg w c n := by
          intro d
          induction d with
          | zero => exact ⟨e, rfl⟩
          | succ d id => exact ⟨itr_none id.1, by rw [← id.2]; exact lacc_none id.1⟩
        rw [← (z (4 - n)).2, show n + (4 - n) = 4 by omega]
      | some q =>
        have hq := itr_lt ho.1 hc (by omega) n q e
        have hn4 : n < 4 := by
          rcases Nat.lt_or_ge n 4 with y | y
          · exact y
          · have : n = 4 := by omega
            rw [this, itr4 ho.1 hc hw] at e
            exact absurd e (by simp)
        rw [if_neg (show ¬ oI (some q) < 0 from nI_pos (by omega)), show oI (some q) = nI q from rfl, m_beyond ho hr hq (by omega), Option.bind_some]
        have e2 : (1 : Int32) <<< (nI q &&& 31) = nI (2 ^ q) := by
          have := m_bit (c := q) (by omega)
          unfold M_X8_bit at this
          injection this
        rw [e2, n_or]
        have i1 := ih (n + 1) (by omega) (by omega)
        rw [show lacc R C sg w c (n + 1) = lacc R C sg w c n ||| oM (itr R C sg w c n) from rfl, show itr R C sg w c (n + 1) = (itr R C sg w c n).bind _ from rfl, e, Option.bind_some] at i1
        exact i1
  rw [← lacc_sgt ho.1 hc (by omega)]
  exact st 200 0 (by omega) (by omega)
