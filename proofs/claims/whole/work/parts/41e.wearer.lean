/-! The wearer: both sides -/
def opn (R C : Nat) (sg : Nat → Nat) : Nat := andn (2 ^ (R * C) - 1) (sgn R C sg 35)
theorem opn_lt (R C : Nat) (sg : Nat → Nat) : opn R C sg < 2 ^ (R * C) := andn_lt (Nat.sub_lt (Nat.two_pow_pos _) (by omega))
theorem opn_bit {R C i : Nat} (sg : Nat → Nat) (hi : i < R * C) : (opn R C sg).testBit i = !(sg i == 35) := by
  unfold opn
  rw [andn_bit, Nat.testBit_two_pow_sub_one, sgn_bit 35 hi]
  simp [hi]
theorem and_opn {R C m : Nat} (sg : Nat → Nat) (hm : m < 2 ^ (R * C)) : m &&& opn R C sg = andn m (sgn R C sg 35) := by
  apply bits_eq (n := R * C) (and_lt hm) (andn_lt hm)
  intro i hi
  rw [Nat.testBit_and, opn_bit sg hi, andn_bit, sgn_bit 35 hi]
theorem m_stepTo {R C c w : Nat} (sg : Nat → Nat) (dr th er : Nat) (h : okD R C) (hc : c < R * C) (hw : w < 5) : M_X0_stepTo (hOf R C sg dr th er) (nI (2 ^ c)) (nI w) = some (nI (oM (stp R C sg c w))) := by
  unfold M_X0_stepTo
  rw [m_moved sg dr th er h (p_lt hc) hw, bx, m_open, bx, n_and]
  show some (nI (mv R C (2 ^ c) w &&& opn R C sg)) = _
  rw [and_opn sg (mv_lt ..), mv_stp h hc hw]
theorem oM_0 {R C c w : Nat} {sg : Nat → Nat} (h : okD R C) (hc : c < R * C) (hw : w < 5) : (nI (oM (stp R C sg c w)) = 0) ↔ stp R C sg c w = none := by
  have h16 := h.n16
  cases e : stp R C sg c w with
  | none => exact ⟨fun _ => rfl, fun _ => rfl⟩
  | some q =>
    have hq := (stp_lt h hc hw e).1
    constructor
    · intro z
      have p : 2 ^ q ≤ 2 ^ 15 := Nat.pow_le_pow_right (by omega) (by omega)
      have p1 := Nat.two_pow_pos q
      exact absurd z (nI_ne0 (n := 2 ^ q) p1 (by omega))
    · intro z; exact absurd z (by simp)
theorem m_stepOrStay {R C c w : Nat} (sg : Nat → Nat) (dr th er : Nat) (h : okD R C) (hc : c < R * C) (hw : w < 5) : M_X0_stepOrStay (hOf R C sg dr th er) (nI (2 ^ c)) (nI w) = some (nI (2 ^ ((stp R C sg c w).getD c))) := by
  unfold M_X0_stepOrStay
  rw [m_stepTo sg dr th er h hc hw, bx]
  cases e : stp R C sg c w with
  | none => rw [if_pos (show nI (oM none) = 0 from rfl)]; rfl
  | some q =>
    rw [if_neg (fun z => absurd ((oM_0 (sg := sg) h hc hw).mp (by rw [e]; exact z)) (by rw [e]; simp))]
    rfl
/-- what the wearer's rows hold -/
def WS (R C : Nat) (sg : Nat → Nat) (er k : Nat) (wc wl wd : Nat → Nat) (sa ha ma : AR) (n : Nat) : Prop := ∀ w, w < n → sa w = nI (sgt R C sg (wl w) (wc w)) ∧ ha w = nI (arnd R C (2 ^ wc w) er) ∧ ma w = nI (if wd w = 1 then arnd R C (2 ^ wc w) 1 else 0)
/-- the wearer on both sides -/
def WR (R C : Nat) (sg : Nat → Nat) (er k : Nat) (wc wl wd : Nat → Nat) (now b : Nat) (s : Bool) (r : RT) (mn : NT) : Prop := now < R * C ∧ sg now ≠ 35 ∧ b < 2 ^ (R * C) ∧ r.1 = nI (2 ^ now) ∧ r.2.1 = nI b ∧ r.2.2.1 = bI s ∧ WS R C sg er k wc wl wd r.2.2.2.1 r.2.2.2.2.1 r.2.2.2.2.2 k ∧ mn = (nI now, bI s, nI (b &&& sgn R C sg 100), nI b)
theorem WS_put {R C : Nat} {sg : Nat → Nat} {er k : Nat} {wc wl wd : Nat → Nat} {sa ha ma : AR} {n : Nat} (h : WS R C sg er k wc wl wd sa ha ma n) : WS R C sg er k wc wl wd (upd sa n (nI (sgt R C sg (wl n) (wc n)))) (upd ha n (nI (arnd R C (2 ^ wc n) er))) (upd ma n (nI (if wd n = 1 then arnd R C (2 ^ wc n) 1 else 0))) (n + 1) := by
  intro w hw
  by_cases t : w = n
  · subst t; exact ⟨upd_at .., upd_at .., upd_at ..⟩
  · rw [upd_ne _ _ t, upd_ne _ _ t, upd_ne _ _ t]; exact h w (by omega)
theorem m_begin26 {R C : Nat} {sg : Nat → Nat} {dr th er k : Nat} {wc wl wd : Nat → Nat} {v : VT} (ho : okS R C sg dr th er k wc wl wd) (hx2 : v.1 = nI k) (hx3 : ∀ w, w < k → v.2.1 w = nI (wc w) ∧ v.2.2.1 w = nI (wl w) ∧ v.2.2.2 w = nI (wd w)) (a b c : Int32) : ∀ fu j (sa ha ma : AR), j ≤ k → k - j < fu → WS R C sg er k wc wl wd sa ha ma j → ∃ sa' ha' ma', WS R C sg er k wc wl wd sa' ha' ma' k ∧ M_X6_begin_26 (hOf R C sg dr th er) v fu ((a, b, c, sa, ha, ma), nI j) = some (a, b, c, sa', ha', ma') := by
  have hk := ho.2.2.2.2.2.1
  have her := ho.2.2.2.2.1
  intro fu
  induction fu with
  | zero => intro j sa ha ma _ h; omega
  | succ fu ih =>
    intro j sa ha ma hj hfu hs
    show ∃ sa' ha' ma', _ ∧ M_X6_begin_26b _ _ _ _ = _
    unfold M_X6_begin_26b M_X6_begin_102 M_X4_cellOfOne M_X4_hasDog
    dsimp only
    rw [hx2]
    rcases Nat.lt_or_ge j k with q | q
    · obtain ⟨w1, w2, w3, w4⟩ := ho.2.2.2.2.2.2 j q
      obtain ⟨q1, q2, q3⟩ := hx3 j q
      have e_er : (hOf R C sg dr th er).2.2.2.2.2.2.2.2.2.2.2 = nI er := rfl
      rw [if_neg (nI_ge q (by omega)), m_at _ (by omega) (by omega), m_at _ (by omega) (by omega), bx, bx, m_seenByX ho hx3 q, bx, m_put _ _ (by omega) (by omega), bx, q1, q3, e_er, m_around sg dr th er ho.1 w1 (by omega), bx, m_put _ _ (by omega) (by omega), bx, bx]
      have key := ih (j + 1) _ _ _ (by omega) (by omega) (WS_put hs)
      have e1 : M_X0_around (hOf R C sg dr th er) (nI (wc j)) (1 : Int32) = _ := m_around (n := 1) sg dr th er ho.1 w1 (by omega)
      obtain z | z : wd j = 0 ∨ wd j = 1 := by omega
      · rw [z] at key ⊢
        rw [if_neg (show ¬ nI 0 = 1 by decide +kernel), bx, if_pos k00, m_put _ _ (by omega) (by omega), bx, ← nI_succ]
        rw [if_neg (show ¬ (0 : Nat) = 1 by decide)] at key
        exact key
      · rw [z] at key ⊢
        rw [if_pos (show nI 1 = 1 from rfl), bx, if_neg k10, e1, bx, m_put _ _ (by omega) (by omega), bx, ← nI_succ]
        rw [if_pos rfl] at key
        exact key
    · have e : j = k := by omega
      subst e
      rw [if_pos (nI_le (Nat.le_refl _) (by omega))]
      exact ⟨_, _, _, hs, rfl⟩
theorem one_and {c m : Nat} : 2 ^ c &&& m = if m.testBit c then 2 ^ c else 0 := by
  apply Nat.eq_of_testBit_eq
  intro i
  rw [Nat.testBit_and, Nat.testBit_two_pow]
  by_cases t : c = i
  · subst t
    cases e : m.testBit c
    · simp
    · simp
  · cases e : m.testBit c
    · simp [t]
    · simp [t]
theorem m_arrive {R C c d b : Nat} {sg : Nat → Nat} {dr th er k : Nat} {wc wl wd : Nat → Nat} {mb : BT} (x s : Int32) (ho : okS R C sg dr th er k wc wl wd) (hr : rM R C sg dr th er k wc wl wd mb) (hc : c < R * C) : M_X9_arrive mb (x, s, nI (b &&& sgn R C sg 100), nI b) (nI c) = some (nI c, s, nI ((b ||| 2 ^ c) &&& sgn R C sg 100), nI (b ||| 2 ^ c)) := by
  have h16 := ho.1.n16
  have hs : sg c < 2 ^ 31 := by rcases ho.2.1 c hc with z | z | z | z | z <;> omega
  have e : (b ||| 2 ^ c) &&& sgn R C sg 100 = (b &&& sgn R C sg 100) ||| (2 ^ c &&& sgn R C sg 100) := by
    apply Nat.eq_of_testBit_eq
    intro i
    simp only [Nat.testBit_and, Nat.testBit_or]
    cases b.testBit i <;> cases (2 ^ c).testBit i <;> simp
  unfold M_X9_arrive M_X9_arrive_40
  dsimp only
  rw [if_pos (nI_in (by omega) (by omega)), nI_clamp (by omega), hr.2.2.2.2.2.2.1 c hc, n_pow (by omega), n_or, n_or, e, one_and, sgn_bit 100 hc]
  by_cases z : sg c = 100
  · rw [if_pos (show nI (sg c) = 100 by rw [z]; rfl), z]; rfl
  · rw [if_neg (show ¬ nI (sg c) = 100 from w_ne (b := 100) hs (by omega) z), beq_eq_false_iff_ne.mpr z, n_or0]
    show _ = some (nI c, s, nI ((b &&& sgn R C sg 100) ||| 0), nI (b ||| 2 ^ c))
    rw [Nat.or_zero]
theorem m_begin {R C : Nat} {sg : Nat → Nat} {dr th er k : Nat} {wc wl wd : Nat → Nat} {v : VT} {mb : BT} (r : RT) (mn : NT) (ho : okS R C sg dr th er k wc wl wd) (hx2 : v.1 = nI k) (hx3 : ∀ w, w < k → v.2.1 w = nI (wc w) ∧ v.2.2.1 w = nI (wl w) ∧ v.2.2.2 w = nI (wd w)) (hr : rM R C sg dr th er k wc wl wd mb) : ∃ r' mn', M_X6_begin r (hOf R C sg dr th er) v = some r' ∧ M_X9_begin mb mn = some mn' ∧ WR R C sg er k wc wl wd dr (2 ^ dr) false r' mn' := by
  have h16 := ho.1.n16
  have hd := ho.2.2.1
  have h4 := ho.2.2.2.2.2.1
  obtain ⟨sa, ha, ma, hs, hb⟩ := m_begin26 (dr := dr) (th := th) ho hx2 hx3 (nI (2 ^ dr)) (nI (2 ^ dr)) 0 200 0 r.2.2.2.1 r.2.2.2.2.1 r.2.2.2.2.2 (by omega) (by omega) (fun w hw => absurd hw (by omega))
  unfold M_X6_begin M_X9_begin
  have e1 : M_X8_bit (hOf R C sg dr th er).2.2.2.2.2.2.2.2.2.1 = some (nI (2 ^ dr)) := m_bit (by omega)
  have a := m_arrive (b := 0) (d := 0) mn.1 0 ho hr hd.1
  rw [Nat.zero_or, show nI (0 &&& sgn R C sg 100) = 0 by rw [Nat.zero_and]; rfl] at a
  rw [e1, bx, if_pos (show vp_nar .boolean (0 : Int32) = 0 by decide +kernel), if_pos (show vp_nar .boolean (0 : Int32) = 0 by decide +kernel), hr.2.2.1]
  refine ⟨_, _, hb, by rw [show M_X9_arrive mb (mn.1, 0, 0, 0) (nI dr) = _ from a]; rfl, hd.1, hd.2, p_lt hd.1, rfl, rfl, rfl, hs, rfl⟩
theorem m_take {R C w now b : Nat} {s : Bool} {sg : Nat → Nat} {dr th er k : Nat} {wc wl wd : Nat → Nat} {mb : BT} {r : RT} {mn : NT} (ho : okS R C sg dr th er k wc wl wd) (hr : rM R C sg dr th er k wc wl wd mb) (hw : WR R C sg er k wc wl wd now b s r mn) (h5 : w < 5) : (stp R C sg now w = none ∧ ∃ r' mn', M_X6_take r (hOf R C sg dr th er) (nI w) = some (0, r') ∧ M_X9_step mb mn (nI w) = some (0, mn') ∧ WR R C sg er k wc wl wd now b false r' mn') ∨ (∃ q r' mn', stp R C sg now w = some q ∧ M_X6_take r (hOf R C sg dr th er) (nI w) = some (1, r') ∧ M_X9_step mb mn (nI w) = some (1, mn') ∧ WR R C sg er k wc wl wd q (b ||| 2 ^ q) (decide (w < 4)) r' mn') := by
  have h16 := ho.1.n16
  obtain ⟨a1, a2, a3, a4, a5, a6, a7, a8⟩ := hw
  subst a8
  unfold M_X6_take M_X6_take_24 M_X6_take_25 M_X9_step M_X9_step_21 M_X9_step_36 M_X9_step_37 M_X9_step_49
  dsimp only
  rw [a4, m_stepTo sg dr th er ho.1 a1 h5, bx, a5]
  have b0 : vp_nar .boolean (0 : Int32) = 0 := by decide +kernel
  have b1 : vp_nar .boolean (1 : Int32) = 1 := by decide +kernel
  cases e : stp R C sg now w with
  | none =>
    left
    refine ⟨rfl, ?_⟩
    have w4 : w ≠ 4 := by
      intro z; subst z
      unfold stp at e
      rw [show nb R C now 4 = some now from rfl] at e
      dsimp only at e
      rw [if_neg a2] at e
      exact absurd e (by simp)
    rw [if_pos (show nI (oM none) = 0 from rfl), if_pos b0, if_pos (show nI (oM none) = 0 from rfl), if_neg (show ¬ nI w = 4 from w_ne (b := 4) (by omega) (by omega) w4), m_beyond ho hr a1 h5, e, bx, if_neg (show ¬ (4 : Int32) ≤ nI w from nI_ge (b := 4) (by omega) (by omega)), if_pos (show oI none < 0 by decide +kernel), if_pos b0, if_pos (show oI none < 0 by decide +kernel), if_pos (show oI none < 0 by decide +kernel)]
    exact ⟨_, _, rfl, rfl, a1, a2, a3, rfl, rfl, rfl, a7, rfl⟩
  | some q =>
    right
    have hq := stp_lt ho.1 a1 h5 e
    have ar := m_arrive (b := b) (d := 0) (nI now) (bI (decide (w < 4))) ho hr hq.1
    have nq : ¬ nI (oM (some q)) = 0 := by
      have p : 2 ^ q ≤ 2 ^ 15 := Nat.pow_le_pow_right (by omega) (by omega)
      exact nI_ne0 (n := 2 ^ q) (Nat.two_pow_pos q) (by omega)
    have nq2 : ¬ nI (2 ^ q) = 0 := nq
    have bb : b ||| 2 ^ q < 2 ^ (R * C) := or_lt a3 (p_lt hq.1)
    rw [if_neg nq, show oM (some q) = 2 ^ q from rfl, n_or]
    by_cases w4 : w = 4
    · subst w4
      have eq : q = now := by
        unfold stp at e
        rw [show nb R C now 4 = some now from rfl] at e
        dsimp only at e
        rw [if_neg a2] at e
        injection e with e; exact e.symm
      subst eq
      rw [if_pos (show nI 4 = 4 from rfl), if_pos b0, if_neg nq2, if_pos (show nI 4 = 4 from rfl), if_pos (show (4 : Int32) ≤ nI 4 by decide +kernel), if_pos b0, if_neg (nI_pos (by omega)), show M_X9_arrive mb (nI q, 0, nI (b &&& sgn R C sg 100), nI b) (nI q) = _ from ar, bx, if_neg (nI_pos (by omega))]
      exact ⟨q, _, _, rfl, rfl, rfl, a1, a2, bb, rfl, rfl, rfl, a7, rfl⟩
    · have n4 : ¬ nI w = 4 := w_ne (b := 4) (by omega) (by omega) w4
      have d4 : decide (w < 4) = true := decide_eq_true (by omega)
      rw [d4] at ar ⊢
      rw [if_neg n4, if_pos b1, if_neg nq2, if_neg n4, m_beyond ho hr a1 h5, e, bx, if_neg (show ¬ (4 : Int32) ≤ nI w from nI_ge (b := 4) (by omega) (by omega)), show oI (some q) = nI q from rfl, if_neg (nI_pos (by omega)), if_pos b1, show M_X9_arrive mb (nI now, 1, nI (b &&& sgn R C sg 100), nI b) (nI q) = _ from ar, bx]
      rw [if_neg (nI_pos (by omega)), if_neg (nI_pos (by omega))]
      exact ⟨q, _, _, rfl, rfl, rfl, hq.1, hq.2.1, bb, rfl, rfl, rfl, a7, rfl⟩
/-- the least reason; 0 -/
def rv (R C : Nat) (sg : Nat → Nat) (er : Nat) (cw wl wd now b : Nat) (s g : Bool) : Nat :=
  if g && (s && (sg now == 103 && (sgt R C sg wl cw).testBit now)) then 1 else if s && (sg now == 99 && decide (man C cw now ≤ er)) then 2 else if (b &&& sgn R C sg 100) &&& sgt R C sg wl cw = 0 then (if wd == 1 && decide (man C cw now ≤ 1) then 4 else 0) else 3
theorem one_andI {c m : Nat} : nI (2 ^ c) &&& nI m = nI (if m.testBit c then 2 ^ c else 0) := by rw [n_and, one_and]
theorem p_ne {c : Nat} (h : c < 16) : ¬ nI (2 ^ c) = 0 := by
  have p : 2 ^ c ≤ 2 ^ 15 := Nat.pow_le_pow_right (by omega) (by omega)
  exact nI_ne0 (n := 2 ^ c) (Nat.two_pow_pos c) (by omega)
theorem n0I : nI 0 = (0 : Int32) := rfl
theorem bI0 : ¬ bI true = 0 := by decide +kernel
theorem m_reasonX {R C w now b : Nat} {s : Bool} {sg : Nat → Nat} {dr th er k : Nat} {wc wl wd : Nat → Nat} {r : RT} {mn : NT} (g : Bool) (ho : okS R C sg dr th er k wc wl wd) (hw : WR R C sg er k wc wl wd now b s r mn) (hk : w < k) : M_X6_reasonTo r (hOf R C sg dr th er) (nI w) (bI (!g)) = some (nI (rv R C sg er (wc w) (wl w) (wd w) now b s g)) := by
  have h16 := ho.1.n16
  have h4 := ho.2.2.2.2.2.1
  have her := ho.2.2.2.2.1
  obtain ⟨w1, w2, w3, w4⟩ := ho.2.2.2.2.2.2 w hk
  obtain ⟨a1, a2, a3, a4, a5, a6, a7, a8⟩ := hw
  obtain ⟨s1, s2, s3⟩ := a7 w hk
  have eg : (hOf R C sg dr th er).2.2.2.2.2.2.1 = nI (sgn R C sg 103) := rfl
  have eb : (hOf R C sg dr th er).2.2.2.2.2.2.2.1 = nI (sgn R C sg 99) := rfl
  have ed : (hOf R C sg dr th er).2.2.2.2.2.2.2.2.1 = nI (sgn R C sg 100) := rfl
  have hb16 := lt16 ho.1 a3
  have hd16 : (b &&& sgn R C sg 100) &&& sgt R C sg (wl w) (wc w) < 65536 := Nat.lt_of_le_of_lt Nat.and_le_left (Nat.lt_of_le_of_lt Nat.and_le_left hb16)
  have p64 : M_X6_reasonTo_64 r (hOf R C sg dr th er) (nI w) (bI (!g)) () = some (nI (if (b &&& sgn R C sg 100) &&& sgt R C sg (wl w) (wc w) = 0 then (if wd w == 1 && decide (man C (wc w) now ≤ 1) then 4 else 0) else 3)) := by
    unfold M_X6_reasonTo_64
    rw [m_at _ (by omega) (by omega), bx, a5, ed, s1, n_and, n_and, m_at _ (by omega) (by omega), bx, a4, s3, one_andI]
    by_cases z : (b &&& sgn R C sg 100) &&& sgt R C sg (wl w) (wc w) = 0
    · rw [if_pos z, z, if_pos n0I]
      obtain y | y : wd w = 0 ∨ wd w = 1 := by omega
      · rw [y, if_neg (show ¬ (0 : Nat) = 1 by decide), Nat.zero_testBit]
        rw [if_neg (show ¬ false = true by decide), if_pos n0I]
        rfl
      · rw [y, if_pos rfl, arnd_man ho.1 w1 1 (by omega), mk_bit, decide_eq_true a1]
        by_cases t : man C (wc w) now ≤ 1
        · rw [decide_eq_true t]
          rw [if_pos (show (true && true) = true from rfl), if_neg (p_ne (by omega))]
          rfl
        · rw [decide_eq_false t]
          rw [if_neg (show ¬ (true && false) = true by decide), if_pos n0I]
          rfl
    · rw [if_neg z, if_neg (nI_ne0 (by omega) (by omega))]
      rfl
  have p34 : M_X6_reasonTo_34 r (hOf R C sg dr th er) (nI w) (bI (!g)) () = some (nI (if s && (sg now == 99 && decide (man C (wc w) now ≤ er)) then 2 else if (b &&& sgn R C sg 100) &&& sgt R C sg (wl w) (wc w) = 0 then (if wd w == 1 && decide (man C (wc w) now ≤ 1) then 4 else 0) else 3)) := by
    unfold M_X6_reasonTo_34
    rw [a6, p64]
    cases s
    · rw [if_pos (show bI false = 0 from rfl)]; rfl
    · rw [if_neg bI0, m_at _ (by omega) (by omega), bx, a4, eb, s2, one_andI, sgn_bit 99 a1]
      by_cases t : sg now = 99
      · rw [beq_iff_eq.mpr t, if_pos rfl, one_andI, arnd_man ho.1 w1 er her, mk_bit, decide_eq_true a1]
        by_cases y : man C (wc w) now ≤ er
        · rw [decide_eq_true y, if_pos (show (true && true) = true from rfl), if_neg (p_ne (by omega))]
          rfl
        · rw [decide_eq_false y, if_neg (show ¬ (true && false) = true by decide), if_pos n0I]
          rfl
      · rw [beq_eq_false_iff_ne.mpr t, if_neg (show ¬ false = true by decide), n_and, Nat.zero_and, if_pos n0I]
        rfl
  unfold M_X6_reasonTo rv
  rw [a6, p34]
  cases g
  · rw [if_neg (show ¬ bI (!false) = 0 by decide +kernel)]; rfl
  · rw [if_pos (show bI (!true) = 0 from rfl)]
    cases s
    · rw [if_pos (show bI false = 0 from rfl)]; rfl
    · rw [if_neg bI0, m_at _ (by omega) (by omega), bx, a4, eg, s1, one_andI, sgn_bit 103 a1]
      by_cases t : sg now = 103
      · rw [beq_iff_eq.mpr t, if_pos rfl, one_andI]
        cases (sgt R C sg (wl w) (wc w)).testBit now
        · rw [if_neg (show ¬ false = true by decide), if_pos n0I]; rfl
        · rw [if_pos rfl, if_neg (p_ne (by omega))]; rfl
      · rw [beq_eq_false_iff_ne.mpr t, if_neg (show ¬ false = true by decide), n_and, Nat.zero_and, if_pos n0I]
        rfl
theorem man_lt {R C a b : Nat} (h : okD R C) (ha : a < R * C) (hb : b < R * C) : man C a b < 2 ^ 31 := by
  have h16 := h.n16
  have a1 := Nat.div_le_self a C
  have a2 := Nat.div_le_self b C
  have a3 := Nat.mod_le a C
  have a4 := Nat.mod_le b C
  have gen : ∀ a b c d : Nat, a ≤ 16 → b ≤ 16 → c ≤ 16 → d ≤ 16 → (a - b) + (b - a) + ((c - d) + (d - c)) < 2 ^ 31 := by omega
  exact gen _ _ _ _ (by omega) (by omega) (by omega) (by omega)
theorem m_whyM {R C w now b : Nat} {s : Bool} {sg : Nat → Nat} {dr th er k : Nat} {wc wl wd : Nat → Nat} {r : RT} {mn : NT} {mb : BT} (g : Bool) (ho : okS R C sg dr th er k wc wl wd) (hr : rM R C sg dr th er k wc wl wd mb) (hw : WR R C sg er k wc wl wd now b s r mn) (hk : w < k) : M_X9_why mb mn (nI w) (bI g) = some (if rv R C sg er (wc w) (wl w) (wd w) now b s g = 0 then -6 else nI (rv R C sg er (wc w) (wl w) (wd w) now b s g)) := by
  have h16 := ho.1.n16
  have h4 := ho.2.2.2.2.2.1
  have her := ho.2.2.2.2.1
  obtain ⟨w1, w2, w3, w4⟩ := ho.2.2.2.2.2.2 w hk
  obtain ⟨q1, q2, q3⟩ := hr.2.2.2.2.2.2.2 w hk
  obtain ⟨a1, a2, a3, a4, a5, a6, a7, a8⟩ := hw
  subst a8
  have hs : sg now < 2 ^ 31 := by rcases ho.2.1 now a1 with z | z | z | z | z <;> omega
  have hb16 := lt16 ho.1 a3
  have hd16 : (b &&& sgn R C sg 100) &&& sgt R C sg (wl w) (wc w) < 65536 := Nat.lt_of_le_of_lt Nat.and_le_left (Nat.lt_of_le_of_lt Nat.and_le_left hb16)
  have hman := man_lt ho.1 a1 w1
  have p97 : M_X9_why_97 mb (nI now, bI s, nI (b &&& sgn R C sg 100), nI b) (nI w) (bI g) () = some (if (if (b &&& sgn R C sg 100) &&& sgt R C sg (wl w) (wc w) = 0 then (if wd w == 1 && decide (man C (wc w) now ≤ 1) then 4 else 0) else 3) = 0 then -6 else nI (if (b &&& sgn R C sg 100) &&& sgt R C sg (wl w) (wc w) = 0 then (if wd w == 1 && decide (man C (wc w) now ≤ 1) then 4 else 0) else 3)) := by
    unfold M_X9_why_97
    dsimp only
    rw [m_seenByM ho hr hk, bx, n_and, Nat.and_comm (sgt R C sg (wl w) (wc w))]
    by_cases z : (b &&& sgn R C sg 100) &&& sgt R C sg (wl w) (wc w) = 0
    · rw [if_pos z, z, if_pos n0I, if_pos (nI_in (c := w) (N := 4) (by omega) (by omega)), if_pos (nI_in (c := w) (N := 4) (by omega) (by omega)), nI_clamp (by omega), q3, q1, m_apart ho hr a1 w1, bx]
      obtain y | y : wd w = 0 ∨ wd w = 1 := by omega
      · rw [y, if_neg (show ¬ nI 0 = 1 by decide +kernel)]
        rfl
      · rw [y, if_pos (show nI 1 = 1 from rfl)]
        by_cases t : man C now (wc w) ≤ 1
        · rw [if_neg (show ¬ (1 : Int32) < nI (man C now (wc w)) from nI_nlt (a := 1) (b := man C now (wc w)) t (by omega)), man_comm C (wc w) now, decide_eq_true t]
          rfl
        · rw [if_pos (show (1 : Int32) < nI (man C now (wc w)) from nI_lt (a := 1) (by omega) hman), man_comm C (wc w) now, decide_eq_false t]
          rfl
    · rw [if_neg z, if_neg (nI_ne0 (by omega) (by omega))]
      rfl
  have p53 : M_X9_why_53 mb (nI now, bI s, nI (b &&& sgn R C sg 100), nI b) (nI w) (bI g) () = some (if (if s && (sg now == 99 && decide (man C (wc w) now ≤ er)) then 2 else if (b &&& sgn R C sg 100) &&& sgt R C sg (wl w) (wc w) = 0 then (if wd w == 1 && decide (man C (wc w) now ≤ 1) then 4 else 0) else 3) = 0 then -6 else nI (if s && (sg now == 99 && decide (man C (wc w) now ≤ er)) then 2 else if (b &&& sgn R C sg 100) &&& sgt R C sg (wl w) (wc w) = 0 then (if wd w == 1 && decide (man C (wc w) now ≤ 1) then 4 else 0) else 3)) := by
    unfold M_X9_why_53
    dsimp only
    rw [p97]
    cases s
    · rw [if_pos (show bI false = 0 from rfl)]; rfl
    · rw [if_neg bI0, if_pos (nI_in (by omega) (by omega)), nI_clamp (by omega), hr.2.2.2.2.2.2.1 now a1]
      by_cases t : sg now = 99
      · rw [if_pos (show nI (sg now) = 99 by rw [t]; rfl), if_pos (nI_in (c := w) (N := 4) (by omega) (by omega)), nI_clamp (by omega), q1, m_apart ho hr a1 w1, bx, hr.2.2.2.2.2.1, t]
        by_cases y : man C now (wc w) ≤ er
        · rw [if_neg (nI_nlt y (by omega)), man_comm C (wc w) now, decide_eq_true y]
          rfl
        · rw [if_pos (nI_lt (by omega) hman), man_comm C (wc w) now, decide_eq_false y]
          rfl
      · rw [if_neg (show ¬ nI (sg now) = 99 from w_ne (b := 99) hs (by omega) t), beq_eq_false_iff_ne.mpr t]
        rfl
  have p21 : ∀ S : Bool, S = (sgt R C sg (wl w) (wc w)).testBit now → M_X9_why_21 mb (nI now, bI s, nI (b &&& sgn R C sg 100), nI b) (nI w) (bI g) (bI S) = some (if rv R C sg er (wc w) (wl w) (wd w) now b s g = 0 then -6 else nI (rv R C sg er (wc w) (wl w) (wd w) now b s g)) := by
    intro S hS
    unfold M_X9_why_21 rv
    dsimp only
    rw [p53, ← hS]
    cases g
    · rw [if_pos (show bI false = 0 from rfl)]; rfl
    · rw [if_neg bI0]
      cases s
      · rw [if_pos (show bI false = 0 from rfl)]; rfl
      · rw [if_neg bI0, if_pos (nI_in (by omega) (by omega)), nI_clamp (by omega), hr.2.2.2.2.2.2.1 now a1]
        by_cases t : sg now = 103
        · rw [if_pos (show nI (sg now) = 103 by rw [t]; rfl), t]
          cases S
          · rw [if_pos (show bI false = 0 from rfl)]; rfl
          · rw [if_neg bI0]; rfl
        · rw [if_neg (show ¬ nI (sg now) = 103 from w_ne (b := 103) hs (by omega) t), beq_eq_false_iff_ne.mpr t]
          rfl
  unfold M_X9_why
  have hlt := lt16 ho.1 (sgt_lt (sg := sg) (w := wl w) w1)
  dsimp only
  rw [m_seenByM ho hr hk, bx, n_sshr (by omega) (by omega), show (1 : Int32) = nI 1 from rfl, n_bitv (by omega)]
  have k1 := p21 _ rfl
  cases e : (sgt R C sg (wl w) (wc w)).testBit now
  · rw [e] at k1
    rw [if_neg (show ¬ (if false = true then nI 1 else nI 0) = nI 1 by decide +kernel)]
    exact k1
  · rw [e] at k1
    rw [if_pos (show (if true = true then nI 1 else nI 0) = nI 1 by decide +kernel)]
    exact k1
theorem rv_lt (R C : Nat) (sg : Nat → Nat) (er cw wl wd now b : Nat) (s g : Bool) : rv R C sg er cw wl wd now b s g < 5 := by
  unfold rv
  repeat' split
  all_goals omega
theorem m_shown {R C now b : Nat} {s : Bool} {sg : Nat → Nat} {dr th er k : Nat} {wc wl wd : Nat → Nat} {v : VT} {r : RT} {mn : NT} {mb : BT} (g : Bool) (ho : okS R C sg dr th er k wc wl wd) (hx2 : v.1 = nI k) (hr : rM R C sg dr th er k wc wl wd mb) (hw : WR R C sg er k wc wl wd now b s r mn) : ∃ z, M_X6_firstShownTo r (hOf R C sg dr th er) v (bI (!g)) = some z ∧ M_X9_shownTo mb mn (bI g) = some z ∧ (z = -6 ∨ ∃ w, w < k ∧ z = nI w) := by
  have h4 := ho.2.2.2.2.2.1
  have st : ∀ fu j, j ≤ k → k - j < fu → ∃ z, M_X6_firstShownTo_2 r (hOf R C sg dr th er) v (bI (!g)) fu (nI j) = some z ∧ M_X9_shownTo_2 mb mn (bI g) fu (nI j) = some z ∧ (z = -6 ∨ ∃ w, w < k ∧ z = nI w) := by
    intro fu
    induction fu with
    | zero => intro j _ h; omega
    | succ fu ih =>
      intro j hj hfu
      show ∃ z, M_X6_firstShownTo_2b _ _ _ _ _ _ = _ ∧ M_X9_shownTo_2b _ _ _ _ _ = _ ∧ _
      unfold M_X6_firstShownTo_2b M_X9_shownTo_2b
      rw [hx2, hr.2.2.2.2.1]
      rcases Nat.lt_or_ge j k with q | q
      · rw [if_neg (nI_ge q (by omega)), if_neg (nI_ge q (by omega)), m_reasonX g ho hw q, m_whyM g ho hr hw q, bx, bx]
        have hv := rv_lt R C sg er (wc j) (wl j) (wd j) now b s g
        generalize rv R C sg er (wc j) (wl j) (wd j) now b s g = x at hv ⊢
        by_cases z : x = 0
        · rw [z, if_pos n0I, if_pos (show (if (0 : Nat) = 0 then (-6 : Int32) else nI 0) ≤ 0 by decide +kernel), ← nI_succ]
          exact ih (j + 1) (by omega) (by omega)
        · rw [if_neg (nI_ne0 (by omega) (by omega)), if_neg z, if_neg (show ¬ nI x ≤ 0 from nI_ge (a := 0) (by omega) (by omega))]
          exact ⟨_, rfl, rfl, Or.inr ⟨j, q, rfl⟩⟩
      · have e : j = k := by omega
        rw [e, if_pos (nI_le (Nat.le_refl _) (by omega)), if_pos (nI_le (Nat.le_refl _) (by omega))]
        exact ⟨_, rfl, rfl, Or.inl rfl⟩
  exact st 200 0 (by omega) (by omega)
