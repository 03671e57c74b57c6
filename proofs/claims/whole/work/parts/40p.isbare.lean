theorem n_pow {q : Nat} (h : q < 31) : (1 : Int32) <<< (nI q &&& 31) = nI (2 ^ q) := by
  have := m_bit (c := q) h
  unfold M_X8_bit at this
  injection this
theorem brs_0 {R C i : Nat} {sg : Nat → Nat} {er : Nat} {wc wl wd : Nat → Nat} (hi : i < R * C) : (brs R C sg er wc wl wd 0).testBit i = !(sg i == 35) := by
  show (andn (2 ^ (R * C) - 1) (sgn R C sg 35)).testBit i = _
  unfold sgn
  rw [andn_bit, Nat.testBit_two_pow_sub_one, mk_bit]
  simp [hi]
theorem m_isBare {R C c : Nat} {sg : Nat → Nat} {dr th er k : Nat} {wc wl wd : Nat → Nat} {mb : BT} (ho : okS R C sg dr th er k wc wl wd) (hr : rM R C sg dr th er k wc wl wd mb) (hc : c < R * C) : M_X9_isBare mb (nI c) = some (bI ((brs R C sg er wc wl wd k).testBit c)) := by
  have h16 := ho.1.n16
  have hk := ho.2.2.2.2.2.1
  have st : ∀ f m, m ≤ k → k - m < f → M_X9_isBare_16 mb (nI c) f (bI ((brs R C sg er wc wl wd m).testBit c), nI m) = some (bI ((brs R C sg er wc wl wd k).testBit c)) := by
    intro f
    induction f with
    | zero => intro m hm hf; omega
    | succ f ih =>
      intro m hm hf
      show M_X9_isBare_16b _ _ _ _ = _
      unfold M_X9_isBare_16b
      dsimp only
      rw [hr.2.2.2.2.1]
      rcases Nat.lt_or_ge m k with q | q
      · obtain ⟨w1, w2, w3, w4⟩ := ho.2.2.2.2.2.2 m q
        obtain ⟨q1, q2, q3⟩ := hr.2.2.2.2.2.2.2 m q
        rw [if_neg (nI_ge q (by omega))]
        have es : M_X9_seenBy mb (nI m) = some (nI (sgt R C sg (wl m) (wc m))) := by
          unfold M_X9_seenBy
          rw [if_pos (nI_in (c := m) (N := 4) (by omega) (by omega)), if_pos (nI_in (c := m) (N := 4) (by omega) (by omega)), nI_clamp (n := m) (by omega), q1, q2, m_seenFrom ho hr w1 w3, Option.bind_some]
        have hlt := lt16 ho.1 (sgt_lt (sg := sg) (w := wl m) w1)
        rw [es, Option.bind_some, n_sshr (by omega) (by omega), show (1 : Int32) = nI 1 from rfl, n_bitv (by omega)]
        have key := m_ib42 (M_X9_isBare_16 mb (nI c) f) ((brs R C sg er wc wl wd m).testBit c) _ ho hr hc q rfl
        have eb : (brs R C sg er wc wl wd (m + 1)).testBit c = ((brs R C sg er wc wl wd m).testBit c && !bad R C sg er (wc m) (wl m) (wd m) c) := by
          show (andn _ _).testBit c = _
          rw [andn_bit, spo_bit ho.1 w1 ho.2.2.2.2.1 w4 hc]
        rw [← eb, ih (m + 1) (by omega) (by omega)] at key
        rw [← key]
        cases (sgt R C sg (wl m) (wc m)).testBit c
        · rw [if_neg (by decide +kernel)]; rfl
        · rw [if_pos (by decide +kernel)]; rfl
      · have e : m = k := by omega
        rw [e, if_pos (nI_le (Nat.le_refl _) (by omega))]
        cases (brs R C sg er wc wl wd k).testBit c
        · exact if_pos (by decide +kernel)
        · exact if_pos (by decide +kernel)
  unfold M_X9_isBare M_X9_isBare_13
  rw [m_isWall ho hr hc, Option.bind_some]
  have b0 := brs_0 (er := er) (wc := wc) (wl := wl) (wd := wd) (sg := sg) hc
  have := st 200 0 (by omega) (by omega)
  rw [b0] at this
  rw [← this]
  by_cases z : sg c = 35
  · rw [if_pos z, if_neg (by decide +kernel), z]; rfl
  · rw [if_neg z, if_pos rfl, beq_eq_false_iff_ne.mpr z]; rfl
/-- the reference's row of bare cells -/
theorem m_bareR {R C : Nat} {sg : Nat → Nat} {dr th er k : Nat} {wc wl wd : Nat → Nat} {mb : BT} (ho : okS R C sg dr th er k wc wl wd) (hr : rM R C sg dr th er k wc wl wd mb) : M_X9_bare mb = some (nI (brs R C sg er wc wl wd k)) := by
  have h16 := ho.1.n16
  have hp := ho.1.pos
  have hb := brs_lt R C sg er wc wl wd k
  have hcl : M_X9_cells mb = some (nI (R * C)) := by
    unfold M_X9_cells
    rw [hr.1, hr.2.1]
    exact congrArg some (Int32.ofNat_mul R C).symm
  have st : ∀ f m, m ≤ R * C → R * C - m < f → M_X9_bare_4 mb f (nI (mk (fun i => (brs R C sg er wc wl wd k).testBit i) m), nI m) = some (nI (brs R C sg er wc wl wd k)) := by
    intro f
    induction f with
    | zero => intro m hm hf; omega
    | succ f ih =>
      intro m hm hf
      show M_X9_bare_4b _ _ _ = _
      unfold M_X9_bare_4b M_X9_bare_28
      dsimp only
      rw [hcl, Option.bind_some]
      rcases Nat.lt_or_ge m (R * C) with q | q
      · rw [if_neg (nI_ge q (by omega)), m_isBare ho hr q, Option.bind_some, n_pow (by omega)]
        have key := ih (m + 1) (by omega) (by omega)
        cases e : (brs R C sg er wc wl wd k).testBit m
        · rw [if_pos (show bI false = 0 from rfl), show (0 : Int32) = nI 0 from rfl, n_or, Nat.or_zero, ← nI_succ]
          rw [show mk (fun i => (brs R C sg er wc wl wd k).testBit i) (m + 1) = mk (fun i => (brs R C sg er wc wl wd k).testBit i) m from if_neg (show ¬ (brs R C sg er wc wl wd k).testBit m = true by rw [e]; decide)] at key
          exact key
        · rw [if_neg (show ¬ bI true = 0 by decide +kernel), n_or, ← nI_succ]
          rw [show mk (fun i => (brs R C sg er wc wl wd k).testBit i) (m + 1) = mk (fun i => (brs R C sg er wc wl wd k).testBit i) m ||| 2 ^ m from if_pos e] at key
          exact key
      · have e : m = R * C := by omega
        rw [e, if_pos (nI_le (Nat.le_refl _) (by omega))]
        congr 2
        exact (mk_eq hb (fun i hi => rfl)).symm
  exact st 200 0 (by omega) (by omega)
