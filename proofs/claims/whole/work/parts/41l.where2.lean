/-! where: the minutes, both sides -/
theorem m_om41 {R C bn c : Nat} {sg cw : Nat → Nat} {dr th0 er k : Nat} {wc wl wd : Nat → Nat} {al : Nat → Bool} {sh : Bool} {wk : AR} {mb : BT} (rc30 : LT × Int32 × Int32 → Option LT) (ho : okS R C sg dr th0 er k wc wl wd) (hr : rM R C sg dr th0 er k wc wl wd mb) (hc : c < R * C) (hbn : bn < 65536) (hcw : ∀ i, cw i < 2 ^ 31) (hwk : ∀ i, i < R * C → wk i = nI (cw i)) (hz : ∀ i, i < R * C → sg i = 35 → cw i = 0) (hal : ∀ d, d < R * C → al d = (bn.testBit d == !sh)) : ∀ fu w (th : AR), w ≤ 5 → 5 - w < fu → (∀ d, d < R * C → th d = nI (sC R C sg al cw d c + sW R C sg al cw c d w)) → ∃ th', M_X9_oneMinute_41 mb (bI sh) rc30 fu ((wk, th), nI bn, nI c, nI w) = rc30 ((wk, th'), nI bn, nI (c + 1)) ∧ ∀ d, d < R * C → th' d = nI (sC R C sg al cw d (c + 1)) := by
  have h16 := ho.1.n16
  intro fu
  induction fu with
  | zero => intro w th _ h; omega
  | succ fu ih =>
    intro w th hw hfu hT
    show ∃ th', M_X9_oneMinute_41b _ _ _ _ _ = _ ∧ _
    unfold M_X9_oneMinute_41b M_X9_oneMinute_120
    dsimp only
    rcases Nat.lt_or_ge w 5 with y | y
    · rw [if_neg (show ¬ (5 : Int32) ≤ nI w from nI_ge (b := 5) y (by omega))]
      have go : ∀ o : Option Nat, (∀ d, o = some d → d < R * C) → (∀ d, (if o = some d ∧ al d = true then cw c else 0) = eW R C sg al cw c w d) → ∃ th', M_X9_oneMinute_64 mb (bI sh) rc30 (M_X9_oneMinute_41 mb (bI sh) rc30 fu) ((wk, th), nI bn, nI c, nI w, oI o) = rc30 ((wk, th'), nI bn, nI (c + 1)) ∧ ∀ d, d < R * C → th' d = nI (sC R C sg al cw d (c + 1)) := by
        intro o ho1 ho2
        obtain ⟨th1, e1, e2⟩ := m_om64 (mb := mb) (w := w) rc30 (M_X9_oneMinute_41 mb (bI sh) rc30 fu) o (show c < 16 by omega) hbn (hcw c) (hwk c hc) hal h16 ho1 hT
        rw [e1]
        refine ih (w + 1) th1 (by omega) (by omega) ?_
        intro d hd
        rw [e2 d hd, ho2 d, Nat.add_assoc]
        rfl
      by_cases w4 : w = 4
      · subst w4
        rw [if_pos (show nI 4 = 4 from rfl)]
        refine go (some c) (fun d e => by injection e with e; omega) ?_
        intro d
        unfold eW
        by_cases u : sg c = 35
        · rw [hz c hc u, ite_self, ite_self]
        · rw [stp4 u]
      · rw [if_neg (show ¬ nI w = 4 from w_ne (b := 4) (by omega) (by omega) w4), m_beyond ho hr hc y, bx]
        exact go _ (fun d e => (stp_lt ho.1 hc y e).1) (fun d => rfl)
    · have e : w = 5 := by omega
      subst e
      rw [if_pos (show (5 : Int32) ≤ nI 5 by decide +kernel), ← nI_succ]
      exact ⟨th, rfl, hT⟩
theorem m_om30 {R C bn : Nat} {sg cw : Nat → Nat} {dr th0 er k : Nat} {wc wl wd : Nat → Nat} {al : Nat → Bool} {sh : Bool} {wk : AR} {mb : BT} (ho : okS R C sg dr th0 er k wc wl wd) (hr : rM R C sg dr th0 er k wc wl wd mb) (hbn : bn < 65536) (hcw : ∀ i, cw i < 2 ^ 31) (hwk : ∀ i, i < R * C → wk i = nI (cw i)) (hz : ∀ i, i < R * C → sg i = 35 → cw i = 0) (hal : ∀ d, d < R * C → al d = (bn.testBit d == !sh)) : ∀ fu c (th : AR), c ≤ R * C → R * C - c < fu → (∀ d, d < R * C → th d = nI (sC R C sg al cw d c)) → ∃ th', M_X9_oneMinute_30 mb (bI sh) fu ((wk, th), nI bn, nI c) = M_X9_oneMinute_128 mb (bI sh) 200 ((wk, th'), 0) ∧ ∀ d, d < R * C → th' d = nI (sC R C sg al cw d (R * C)) := by
  have h16 := ho.1.n16
  intro fu
  induction fu with
  | zero => intro c th _ h; omega
  | succ fu ih =>
    intro c th hc hfu hT
    show ∃ th', M_X9_oneMinute_30b _ _ _ _ = _ ∧ _
    unfold M_X9_oneMinute_30b
    dsimp only
    rw [m_cellsM hr, bx]
    rcases Nat.lt_or_ge c (R * C) with y | y
    · rw [if_neg (nI_ge y (by omega))]
      obtain ⟨th1, e1, e2⟩ := m_om41 (M_X9_oneMinute_30 mb (bI sh) fu) ho hr y hbn hcw hwk hz hal 200 0 th (by omega) (by omega) hT
      rw [show M_X9_oneMinute_41 mb (bI sh) (M_X9_oneMinute_30 mb (bI sh) fu) 200 ((wk, th), nI bn, nI c, 0) = _ from e1]
      exact ih (c + 1) th1 (by omega) (by omega) e2
    · have e : c = R * C := by omega
      subst e
      rw [if_pos (nI_le (Nat.le_refl _) (by omega))]
      exact ⟨th, rfl, hT⟩
theorem m_om128 {R C : Nat} {sg : Nat → Nat} {dr th0 er k : Nat} {wc wl wd : Nat → Nat} {mb : BT} (x : Int32) (th : AR) (h16 : R * C ≤ 16) (hr : rM R C sg dr th0 er k wc wl wd mb) : ∀ fu c (wk : AR), c ≤ R * C → R * C - c < fu → (∀ d, d < c → wk d = th d) → ∃ wk', M_X9_oneMinute_128 mb x fu ((wk, th), nI c) = some (wk', th) ∧ ∀ d, d < R * C → wk' d = th d := by
  intro fu
  induction fu with
  | zero => intro c wk _ h; omega
  | succ fu ih =>
    intro c wk hc hfu hT
    show ∃ wk', M_X9_oneMinute_128b _ _ _ _ = _ ∧ _
    unfold M_X9_oneMinute_128b
    dsimp only
    rw [m_cellsM hr, bx]
    rcases Nat.lt_or_ge c (R * C) with y | y
    · rw [if_neg (nI_ge y (by omega)), if_pos (nI_in (c := c) (N := 16) (by omega) (by omega)), if_pos (nI_in (c := c) (N := 16) (by omega) (by omega)), nI_clamp (by omega), ← nI_succ]
      refine ih (c + 1) _ (by omega) (by omega) ?_
      intro d hd
      by_cases t : d = c
      · subst t; exact upd_at ..
      · rw [upd_ne _ _ t]; exact hT d (by omega)
    · have e : c = R * C := by omega
      subst e
      rw [if_pos (nI_le (Nat.le_refl _) (by omega))]
      exact ⟨wk, rfl, hT⟩
theorem m_om7 {R C : Nat} {sg : Nat → Nat} {dr th0 er k : Nat} {wc wl wd : Nat → Nat} {mb : BT} (x bn : Int32) (wk : AR) (h16 : R * C ≤ 16) (hr : rM R C sg dr th0 er k wc wl wd mb) : ∀ fu c (th : AR), c ≤ R * C → R * C - c < fu → (∀ d, d < c → th d = nI 0) → ∃ th', M_X9_oneMinute_7 mb x fu ((wk, th), bn, nI c) = M_X9_oneMinute_30 mb x 200 ((wk, th'), bn, 0) ∧ ∀ d, d < R * C → th' d = nI 0 := by
  intro fu
  induction fu with
  | zero => intro c th _ h; omega
  | succ fu ih =>
    intro c th hc hfu hT
    show ∃ th', M_X9_oneMinute_7b _ _ _ _ = _ ∧ _
    unfold M_X9_oneMinute_7b
    dsimp only
    rw [m_cellsM hr, bx]
    rcases Nat.lt_or_ge c (R * C) with y | y
    · rw [if_neg (nI_ge y (by omega)), if_pos (nI_in (c := c) (N := 16) (by omega) (by omega)), nI_clamp (by omega), ← nI_succ]
      refine ih (c + 1) _ (by omega) (by omega) ?_
      intro d hd
      by_cases t : d = c
      · subst t; exact upd_at ..
      · rw [upd_ne _ _ t]; exact hT d (by omega)
    · have e : c = R * C := by omega
      subst e
      rw [if_pos (nI_le (Nat.le_refl _) (by omega))]
      exact ⟨th, rfl, hT⟩
theorem m_oneMinute {R C bn : Nat} {sg cw : Nat → Nat} {dr th0 er k : Nat} {wc wl wd : Nat → Nat} {al : Nat → Bool} {sh : Bool} {ml : LT} {mb : BT} (ho : okS R C sg dr th0 er k wc wl wd) (hr : rM R C sg dr th0 er k wc wl wd mb) (hbn : brs R C sg er wc wl wd k = bn) (hcw : ∀ i, cw i < 2 ^ 31) (hwk : ∀ i, i < R * C → ml.1 i = nI (cw i)) (hz : ∀ i, i < R * C → sg i = 35 → cw i = 0) (hal : ∀ d, d < R * C → al d = (bn.testBit d == !sh)) : ∃ ml', M_X9_oneMinute mb ml (bI sh) = some ml' ∧ ∀ d, d < R * C → ml'.1 d = nI (nx R C sg al cw d) := by
  have h16 := ho.1.n16
  have hb := lt16 ho.1 (brs_lt R C sg er wc wl wd k)
  rw [hbn] at hb
  unfold M_X9_oneMinute
  rw [m_bareR ho hr, hbn, bx]
  obtain ⟨t1, a1, a2⟩ := m_om7 (bI sh) (nI bn) ml.1 h16 hr 200 0 ml.2 (by omega) (by omega) (fun d hd => absurd hd (by omega))
  rw [show M_X9_oneMinute_7 mb (bI sh) 200 (ml, nI bn, 0) = _ from a1]
  obtain ⟨t2, b1, b2⟩ := m_om30 (wk := ml.1) ho hr hb hcw hwk hz hal 200 0 t1 (by omega) (by omega) a2
  rw [show M_X9_oneMinute_30 mb (bI sh) 200 ((ml.1, t1), nI bn, 0) = _ from b1]
  obtain ⟨w3, c1, c2⟩ := m_om128 (mb := mb) (bI sh) t2 h16 hr 200 0 ml.1 (by omega) (by omega) (fun d hd => absurd hd (by omega))
  refine ⟨_, c1, ?_⟩
  intro d hd
  show w3 d = _
  rw [c2 d hd, b2 d hd]
  congr 1
  unfold nx
  by_cases u : sg d ≠ 35 ∧ al d = true
  · rw [if_pos ⟨hd, u.1, u.2⟩, sC_eq ho.1 hd u.1 u.2 hz]
  · rw [if_neg (fun z => u ⟨z.2.1, z.2.2⟩)]
    apply sC_0 ho.1 _ _ (Nat.le_refl _)
    by_cases t : sg d = 35
    · exact Or.inl t
    · right
      cases e : al d
      · rfl
      · exact absurd ⟨t, e⟩ u
theorem brs_open {R C i : Nat} {sg : Nat → Nat} {er : Nat} {wc wl wd : Nat → Nat} (hi : i < R * C) : ∀ n, (brs R C sg er wc wl wd n).testBit i = true → sg i ≠ 35 := by
  intro n
  induction n with
  | zero =>
    intro h
    rw [brs_0 hi] at h
    simpa using h
  | succ n ih =>
    intro h
    apply ih
    have e : (andn (brs R C sg er wc wl wd n) (spo R C sg er (wc n) (wl n) (wd n))).testBit i = true := h
    rw [andn_bit] at e
    simp at e
    exact e.1
/-- ways so far, on both sides -/
def QW (R C : Nat) (sg : Nat → Nat) (cw : Nat → Nat) (b : Nat) (q : QT) (ml : LT) : Prop := (∀ i, i < 16 → q.1 i = nI (cw i)) ∧ (∀ i, i < R * C → ml.1 i = nI (cw i)) ∧ (∀ i, cw i ≤ b) ∧ (∀ c, c < R * C → sg c = 35 → cw c = 0) ∧ (∀ c, R * C ≤ c → cw c = 0)
theorem m_minute {R C bn b : Nat} {sg cw : Nat → Nat} {dr th0 er k : Nat} {wc wl wd : Nat → Nat} {q : QT} {ml : LT} {mb : BT} (sh : Bool) (ho : okS R C sg dr th0 er k wc wl wd) (hr : rM R C sg dr th0 er k wc wl wd mb) (hbn : brs R C sg er wc wl wd k = bn) (hb : b < 2 ^ 31) (hq : QW R C sg cw b q ml) : ∃ cw' q' ml', M_X7_passMinute q (hOf R C sg dr th0 er) (nI (if sh then andn (opn R C sg) bn else bn)) = some q' ∧ M_X9_oneMinute mb ml (bI sh) = some ml' ∧ QW R C sg cw' (5 * b) q' ml' := by
  obtain ⟨q1, q2, q3, q4, q5⟩ := hq
  have hbl := brs_lt R C sg er wc wl wd k
  rw [hbn] at hbl
  have hm : (if sh then andn (opn R C sg) bn else bn) < 2 ^ (R * C) := by
    cases sh
    · exact hbl
    · exact andn_lt (opn_lt R C sg)
  have hal : ∀ d, d < R * C → (if sh then andn (opn R C sg) bn else bn).testBit d = ((bn.testBit d == !sh) && !(sg d == 35)) := by
    intro d hd
    have bo := brs_open (sg := sg) (er := er) (wc := wc) (wl := wl) (wd := wd) hd k
    rw [hbn] at bo
    cases sh
    · show bn.testBit d = _
      cases e : bn.testBit d
      · rfl
      · rw [beq_eq_false_iff_ne.mpr (bo e)]; rfl
    · show (andn (opn R C sg) bn).testBit d = _
      rw [andn_bit, opn_bit sg hd]
      cases bn.testBit d <;> cases (sg d == 35) <;> rfl
  obtain ⟨q', a1, a2⟩ := m_passMinute (dr := dr) (th := th0) (er := er) (al := fun d => bn.testBit d == !sh) ho.1 hm hal q1
  obtain ⟨ml', b1, b2⟩ := m_oneMinute (al := fun d => bn.testBit d == !sh) (sh := sh) ho hr hbn (fun i => Nat.lt_of_le_of_lt (q3 i) hb) q2 q4 (fun d _ => rfl)
  refine ⟨nx R C sg (fun d => bn.testBit d == !sh) cw, q', ml', a1, b1, a2, b2, fun i => nx_le q3, ?_, ?_⟩
  · intro c _ h
    unfold nx
    exact if_neg (fun z => z.2.1 h)
  · intro c h
    unfold nx
    exact if_neg (fun z => absurd z.1 (by omega))
def tS (cw : Nat → Nat) : Nat → Nat
  | 0 => 0
  | c + 1 => tS cw c + cw c
theorem tS_more {cw : Nat → Nat} {n : Nat} (h : ∀ c, n ≤ c → cw c = 0) : ∀ d, tS cw (n + d) = tS cw n := by
  intro d
  induction d with
  | zero => rfl
  | succ d ih =>
    show tS cw (n + d) + cw (n + d) = _
    rw [ih, h _ (by omega)]; rfl
theorem mk_more {P : Nat → Bool} {n : Nat} (h : ∀ c, n ≤ c → P c = false) : ∀ d, mk P (n + d) = mk P n := by
  intro d
  induction d with
  | zero => rfl
  | succ d ih =>
    show (if P (n + d) then mk P (n + d) ||| 2 ^ (n + d) else mk P (n + d)) = _
    rw [h _ (by omega), if_neg (by decide), ih]
theorem m_possible {cw : Nat → Nat} {q : QT} (hq : ∀ i, i < 16 → q.1 i = nI (cw i)) (hc : ∀ i, cw i < 2 ^ 31) : M_X7_possibleCells q = some (nI (mk (fun c => decide (0 < cw c)) 16)) := by
  have st : ∀ fu j, j ≤ 16 → 16 - j < fu → M_X7_possibleCells_4 q fu (nI (mk (fun c => decide (0 < cw c)) j), nI j) = some (nI (mk (fun c => decide (0 < cw c)) 16)) := by
    intro fu
    induction fu with
    | zero => intro j _ h; omega
    | succ fu ih =>
      intro j hj hfu
      show M_X7_possibleCells_4b _ _ _ = _
      unfold M_X7_possibleCells_4b M_X7_possibleCells_31
      dsimp only
      rcases Nat.lt_or_ge j 16 with y | y
      · have key := ih (j + 1) (by omega) (by omega)
        have e : mk (fun c => decide (0 < cw c)) (j + 1) = if decide (0 < cw j) = true then mk (fun c => decide (0 < cw c)) j ||| 2 ^ j else mk (fun c => decide (0 < cw c)) j := rfl
        rw [if_neg (nI_ge y (by omega)), if_pos (nI_in y (by omega)), nI_clamp (by omega), hq j y, ← nI_succ]
        by_cases z : cw j = 0
        · rw [z, decide_eq_false (by omega), if_neg (by decide)] at e
          rw [e] at key
          rw [z, if_pos (show nI 0 ≤ 0 by decide +kernel), n_or0]
          exact key
        · rw [decide_eq_true (by omega), if_pos rfl] at e
          rw [e] at key
          have := hc j
          rw [if_neg (show ¬ nI (cw j) ≤ 0 from nI_ge (a := 0) (by omega) (by omega)), m_bit (by omega), bx, n_or]
          exact key
      · have e : j = 16 := by omega
        subst e
        rw [if_pos (show nI 16 ≤ nI 16 by decide +kernel)]
  exact st 200 0 (by omega) (by omega)
theorem m_walks {cw : Nat → Nat} {q : QT} (hq : ∀ i, i < 16 → q.1 i = nI (cw i)) : M_X7_walks q = some (nI (tS cw 16)) := by
  have st : ∀ fu j, j ≤ 16 → 16 - j < fu → M_X7_walks_4 q fu (nI (tS cw j), nI j) = some (nI (tS cw 16)) := by
    intro fu
    induction fu with
    | zero => intro j _ h; omega
    | succ fu ih =>
      intro j hj hfu
      show M_X7_walks_4b _ _ _ = _
      unfold M_X7_walks_4b
      dsimp only
      rcases Nat.lt_or_ge j 16 with y | y
      · rw [if_neg (nI_ge y (by omega)), if_pos (nI_in y (by omega)), nI_clamp (by omega), hq j y, ← nI_succ, nI_add]
        exact ih (j + 1) (by omega) (by omega)
      · have e : j = 16 := by omega
        subst e
        rw [if_pos (show nI 16 ≤ nI 16 by decide +kernel)]
  exact st 200 0 (by omega) (by omega)
theorem m_w136 {R C : Nat} {sg cw : Nat → Nat} {dr th0 er k : Nat} {wc wl wd : Nat → Nat} {ml : LT} {mb : BT} (x1 x2 x3 : Int32) (h16 : R * C ≤ 16) (hr : rM R C sg dr th0 er k wc wl wd mb) (hq : ∀ i, i < R * C → ml.1 i = nI (cw i)) (hc : ∀ i, cw i < 2 ^ 31) : M_X9_where_136 mb x1 x2 x3 200 (ml, 0, 0, 0) = some (if x3 = 0 then nI (mk (fun c => decide (0 < cw c)) (R * C)) else nI (tS cw (R * C)), ml) := by
  have st : ∀ fu j, j ≤ R * C → R * C - j < fu → M_X9_where_136 mb x1 x2 x3 fu (ml, nI (mk (fun c => decide (0 < cw c)) j), nI (tS cw j), nI j) = some (if x3 = 0 then nI (mk (fun c => decide (0 < cw c)) (R * C)) else nI (tS cw (R * C)), ml) := by
    intro fu
    induction fu with
    | zero => intro j _ h; omega
    | succ fu ih =>
      intro j hj hfu
      show M_X9_where_136b _ _ _ _ _ _ = _
      unfold M_X9_where_136b M_X9_where_165
      dsimp only
      rw [m_cellsM hr, bx]
      rcases Nat.lt_or_ge j (R * C) with y | y
      · have key := ih (j + 1) (by omega) (by omega)
        have e : mk (fun c => decide (0 < cw c)) (j + 1) = if decide (0 < cw j) = true then mk (fun c => decide (0 < cw c)) j ||| 2 ^ j else mk (fun c => decide (0 < cw c)) j := rfl
        have e2 : tS cw (j + 1) = tS cw j + cw j := rfl
        rw [if_neg (nI_ge y (by omega)), if_pos (nI_in (c := j) (N := 16) (by omega) (by omega))]
        simp only [nI_clamp (n := j) (show j < 2 ^ 31 by omega), hq j y]
        by_cases z : cw j = 0
        · rw [z, decide_eq_false (by omega), if_neg (by decide)] at e
          rw [e, e2, z] at key
          rw [z, if_pos (show nI 0 ≤ 0 by decide +kernel), if_pos (nI_in (c := j) (N := 16) (by omega) (by omega)), n_or0, nI_add, ← nI_succ]
          exact key
        · rw [decide_eq_true (by omega), if_pos rfl] at e
          rw [e, e2] at key
          have := hc j
          rw [if_neg (show ¬ nI (cw j) ≤ 0 from nI_ge (a := 0) (by omega) (by omega)), if_pos (nI_in (c := j) (N := 16) (by omega) (by omega)), n_pow (by omega), n_or, nI_add, ← nI_succ]
          exact key
      · have e : j = R * C := by omega
        rw [e, if_pos (nI_le (Nat.le_refl _) (by omega))]
        by_cases z : x3 = 0
        · rw [if_pos z, if_pos z]
        · rw [if_neg z, if_neg z]
  exact st 200 0 (by omega) (by omega)
theorem pw2 : ∀ n, n < 9 → M_X8_power 2 (nI n) = some (nI (2 ^ n)) ∧ 2 ^ n < 300 := by decide +kernel
theorem m_w59 {R C : Nat} {sg : Nat → Nat} {dr th0 er k : Nat} {wc wl wd : Nat → Nat} {mb : BT} (x1 x2 x3 : Int32) (m : AR) (ho : okS R C sg dr th0 er k wc wl wd) (hr : rM R C sg dr th0 er k wc wl wd mb) : ∀ fu j (wk : AR), j ≤ 16 → 16 - j < fu → (∀ d, d < j → wk d = nI (if d = dr then 1 else 0)) → ∃ wk', M_X9_where_59 mb x1 x2 x3 fu ((wk, m), nI j) = M_X9_where_96 mb x1 x2 x3 200 ((wk', m), 0) ∧ ∀ d, d < 16 → wk' d = nI (if d = dr then 1 else 0) := by
  have h16 := ho.1.n16
  have hd := ho.2.2.1.1
  intro fu
  induction fu with
  | zero => intro j wk _ h; omega
  | succ fu ih =>
    intro j wk hj hfu hw
    show ∃ wk', M_X9_where_59b _ _ _ _ _ _ = _ ∧ _
    unfold M_X9_where_59b M_X9_where_86
    dsimp only
    rw [hr.2.2.1]
    rcases Nat.lt_or_ge j 16 with y | y
    · rw [if_neg (show ¬ (16 : Int32) ≤ nI j from nI_ge (b := 16) y (by omega)), if_pos (nI_in y (by omega)), if_pos (nI_in y (by omega)), nI_clamp (by omega), ← nI_succ]
      have go : ∀ v : Int32, v = nI (if j = dr then 1 else 0) → ∃ wk', M_X9_where_59 mb x1 x2 x3 fu ((upd wk j v, m), nI (j + 1)) = M_X9_where_96 mb x1 x2 x3 200 ((wk', m), 0) ∧ ∀ d, d < 16 → wk' d = nI (if d = dr then 1 else 0) := by
        intro v hv
        refine ih (j + 1) _ (by omega) (by omega) ?_
        intro d hd
        by_cases t : d = j
        · subst t; rw [upd_at]; exact hv
        · rw [upd_ne _ _ t]; exact hw d (by omega)
      by_cases t : j = dr
      · rw [if_pos (show nI j = nI dr by rw [t])]
        exact go 1 (by rw [if_pos t]; rfl)
      · rw [if_neg (w_ne (by omega) (by omega) t)]
        exact go 0 (by rw [if_neg t]; rfl)
    · have e : j = 16 := by omega
      subst e
      rw [if_pos (show (16 : Int32) ≤ nI 16 by decide +kernel)]
      exact ⟨wk, rfl, hw⟩
theorem op_where {h : HT} {v : VT} {mb : BT} (q : QT) (ml : LT) (x1 x2 x3 : Int32) (rh : RH h v mb) : ∃ z q' ml', M_X8_where h v q x1 x2 x3 = some (z, q') ∧ M_X9_where mb ml x1 x2 x3 = some (z, ml') := by
  obtain ⟨R, C, sg, dr, th, er, k, wc, wl, wd, ho, ⟨hx1, hx2, hx3⟩, hr⟩ := rh
  subst hx1
  have h16 := ho.1.n16
  have hdr := ho.2.2.1.1
  have e2 : M_X9_in x2.toInt64 (0 : Int64) (8 : Int64) = some (if 0 ≤ x2 ∧ x2 ≤ 8 then 1 else 0) := m_in x2 0 8
  have e3 : M_X9_in x3.toInt64 (0 : Int64) (1 : Int64) = some (if 0 ≤ x3 ∧ x3 ≤ 1 then 1 else 0) := m_in x3 0 1
  unfold M_X8_where M_X9_where
  rw [m_within x2, m_within x3, e2, e3]
  simp only [bx]
  by_cases c2 : 0 ≤ x2 ∧ x2 ≤ 8
  · rw [if_pos c2, if_neg k10, if_neg k10, if_neg k10]
    obtain ⟨n, _, n1, rfl⟩ := rng (a := 0) (b := 8) (by omega) (by omega) c2.1 c2.2
    obtain ⟨p1, p2⟩ := pw2 n (by omega)
    have p0 := Nat.two_pow_pos n
    rw [p1, bx]
    unfold M_X9_where_43
    dsimp only
    rw [n_pow (by omega)]
    rcases cell_cs (x := x1) (n := 2 ^ n) (by omega) with ⟨s, hs, rfl⟩ | qq
    · rw [within_good hs (by omega), in_good hs (by omega), bx, bx, if_neg k10, if_neg k10]
      by_cases c3 : 0 ≤ x3 ∧ x3 ≤ 1
      · rw [if_pos c3, if_neg k10, if_neg k10]
        obtain ⟨hf, f1, f2⟩ := m_fill (n := 16) q.1 0 (by omega)
        rw [m_bare ho ⟨rfl, hx2, hx3⟩, bx]
        unfold M_X7_begin
        rw [f1, bx, show M_X8_put 16 hf (hOf R C sg dr th er).2.2.2.2.2.2.2.2.2.1 1 = some (upd hf dr 1) from m_put hf 1 (by omega) (by omega), bx, bx]
        obtain ⟨wk, w1, w2⟩ := m_w59 (nI s) (nI n) x3 ml.2 ho hr 200 0 ml.1 (by omega) (by omega) (fun d hd => absurd hd (by omega))
        rw [show M_X9_where_59 mb (nI s) (nI n) x3 200 (ml, 0) = _ from w1]
        generalize hbn : brs R C sg er wc wl wd k = bn
        have lp : ∀ fu t cw (q : QT) (ml : LT), t ≤ n → n - t < fu → QW R C sg cw (5 ^ t) q ml → ∃ z q' ml', M_X8_where_63 (hOf R C sg dr th er) v (nI s) (nI n) x3 fu (q, nI bn, nI t) = some (z, q') ∧ M_X9_where_96 mb (nI s) (nI n) x3 fu (ml, nI t) = some (z, ml') := by
          intro fu
          induction fu with
          | zero => intro t cw q ml _ h; omega
          | succ fu ih =>
            intro t cw q ml ht hfu hq
            have ex : ∀ a, M_X8_where_63 (hOf R C sg dr th er) v (nI s) (nI n) x3 (fu + 1) a = M_X8_where_63b (hOf R C sg dr th er) v (nI s) (nI n) x3 (M_X8_where_63 (hOf R C sg dr th er) v (nI s) (nI n) x3 fu) a := fun a => rfl
            have em : ∀ a, M_X9_where_96 mb (nI s) (nI n) x3 (fu + 1) a = M_X9_where_96b mb (nI s) (nI n) x3 (M_X9_where_96 mb (nI s) (nI n) x3 fu) a := fun a => rfl
            rw [ex, em]
            unfold M_X8_where_63b M_X9_where_96b M_X8_where_103 M_X9_where_118
            dsimp only
            have p5 := fv5lt t (by omega)
            rcases Nat.lt_or_ge t n with y | y
            · have bt : (nI s >>> (nI t &&& 31)) &&& (1 : Int32) = (if s.testBit t then nI 1 else nI 0) := by
                rw [n_sshr (by omega) (by omega), show (1 : Int32) = nI 1 from rfl, n_bitv (by omega)]
              rw [if_neg (nI_ge y (by omega)), if_neg (nI_ge y (by omega)), m_has (by omega) (by omega), bx, bt, m_open, bx, ← nI_succ]
              have e5 : 5 * 5 ^ t = 5 ^ (t + 1) := by rw [Nat.pow_succ, Nat.mul_comm]
              cases es : s.testBit t
              · obtain ⟨cw', q', ml', a1, a2, a3⟩ := m_minute false ho hr hbn (by omega) hq
                rw [e5] at a3
                rw [if_neg (show ¬ false = true by decide), if_pos k00, if_neg (show ¬ false = true by decide), if_neg (show ¬ nI 0 = 1 by decide +kernel), show M_X7_passMinute q (hOf R C sg dr th er) (nI bn) = _ from a1, show M_X9_oneMinute mb ml 0 = _ from a2, bx, bx]
                exact ih (t + 1) cw' q' ml' (by omega) (by omega) a3
              · obtain ⟨cw', q', ml', a1, a2, a3⟩ := m_minute true ho hr hbn (by omega) hq
                rw [e5] at a3
                rw [if_pos (show true = true from rfl), if_neg k10, n_andn, if_pos (show true = true from rfl), if_pos (show nI 1 = 1 from rfl), show M_X7_passMinute q (hOf R C sg dr th er) (nI (andn (andn (2 ^ (R * C) - 1) (sgn R C sg 35)) bn)) = _ from a1, show M_X9_oneMinute mb ml 1 = _ from a2, bx, bx]
                exact ih (t + 1) cw' q' ml' (by omega) (by omega) a3
            · have e : t = n := by omega
              subst e
              obtain ⟨q1, q2, q3, q4, q5⟩ := hq
              have hcl : ∀ i, cw i < 2 ^ 31 := fun i => by have := q3 i; omega
              have m1 := mk_more (P := fun c => decide (0 < cw c)) (n := R * C) (fun c hc => by rw [q5 c hc]; rfl) (16 - R * C)
              have m2 := tS_more (cw := cw) (n := R * C) q5 (16 - R * C)
              rw [show R * C + (16 - R * C) = 16 by omega] at m1 m2
              rw [if_pos (nI_le (Nat.le_refl _) (by omega)), if_pos (nI_le (Nat.le_refl _) (by omega)), m_w136 _ _ _ h16 hr q2 hcl, m_possible q1 hcl, m_walks q1, m1, m2, bx, bx]
              by_cases z : x3 = 0
              · rw [if_pos z, if_pos z]; exact ⟨_, _, _, rfl, rfl⟩
              · rw [if_neg z, if_neg z]; exact ⟨_, _, _, rfl, rfl⟩
        refine lp 200 0 (fun i => if i = dr then 1 else 0) _ _ (by omega) (by omega) ⟨?_, fun i hi => w2 i (by omega), ?_, ?_, ?_⟩
        · intro i hi
          by_cases t : i = dr
          · subst t
            show upd hf i 1 i = nI (if i = i then 1 else 0)
            rw [upd_at, if_pos rfl]; rfl
          · show upd hf dr 1 i = _
            rw [upd_ne _ _ t]
            show hf i = nI (if i = dr then 1 else 0)
            rw [if_neg t]; exact f2 i hi
        · intro i
          show (if i = dr then 1 else 0) ≤ 1
          split <;> omega
        · intro c hc hs
          show (if c = dr then 1 else 0) = 0
          rw [if_neg]
          intro t
          rw [t] at hs
          exact ho.2.2.1.2 hs
        · intro c hc
          show (if c = dr then 1 else 0) = 0
          rw [if_neg (by omega)]
      · rw [if_neg c3, if_pos k00, if_pos k00]
        exact ⟨_, _, _, rfl, rfl⟩
    · rw [within_bad p0 (by omega) qq, in_bad (by omega) qq, bx, bx, if_pos k00, if_pos k00, ite_self]
      exact ⟨_, _, _, rfl, rfl⟩
  · rw [if_neg c2, if_pos k00, if_pos k00]
    exact ⟨_, _, _, rfl, rfl⟩
