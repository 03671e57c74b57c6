/-! safe -/
def FS (R C : Nat) (sg : Nat → Nat) (A g : Nat) (f : AR) : Prop := ∀ c, c < R * C → sg c ≠ 35 → (∃ n, n ≤ 15 ∧ isD R C sg A g n c ∧ f c = nI n) ∨ ((∀ n, ¬ wk R C sg A g n c) ∧ f c = nI 1000)
theorem FS_at {R C A g n c : Nat} {sg : Nat → Nat} {f : AR} (hf : FS R C sg A g f) (hc : c < R * C) (hs : sg c ≠ 35) (hd : isD R C sg A g n c) : n ≤ 15 ∧ f c = nI n := by
  rcases hf c hc hs with ⟨m, m1, m2, m3⟩ | ⟨m1, m2⟩
  · have e := D_uniq m2 hd
    subst e
    exact ⟨m1, m3⟩
  · exact absurd hd.1 (m1 n)
theorem FS_no {R C A g c : Nat} {sg : Nat → Nat} {f : AR} (hf : FS R C sg A g f) (hc : c < R * C) (hs : sg c ≠ 35) (hd : ∀ n, ¬ wk R C sg A g n c) : f c = nI 1000 := by
  rcases hf c hc hs with ⟨m, m1, m2, m3⟩ | ⟨m1, m2⟩
  · exact absurd m2.1 (hd m)
  · exact m2
theorem m_leads {R C A g c n w : Nat} {sg : Nat → Nat} {dr th er k : Nat} {wc wl wd : Nat → Nat} {mb : BT} {f : AR} (ho : okS R C sg dr th er k wc wl wd) (hr : rM R C sg dr th er k wc wl wd mb) (hA : A < 65536) (hf : FS R C sg A g f) (hc : c < R * C) (hs : sg c ≠ 35) (hd : isD R C sg A g (n + 1) c) (hw : w < 4) : M_X9_leads mb f (nI c) (nI w) (nI A) = some (if (match stp R C sg c w with | some q => (LM R C sg A g n).testBit q | none => false) = true then 1 else 0) := by
  have h16 := ho.1.n16
  obtain ⟨c1, c2⟩ := FS_at hf hc hs hd
  unfold M_X9_leads
  rw [m_beyond ho hr hc (by omega), bx]
  cases e : stp R C sg c w with
  | none => rw [if_pos (show oI none < 0 by decide +kernel)]; rfl
  | some q =>
    obtain ⟨q1, q2, q3⟩ := stp_lt ho.1 hc (show w < 5 by omega) e
    rw [show oI (some q) = nI q from rfl, if_neg (nI_pos (by omega)), bitA hA (by omega)]
    dsimp only
    cases ea : A.testBit q
    · have eL : (LM R C sg A g n).testBit q = false := by rw [LM_bit q1, ea]; rfl
      rw [if_neg (show ¬ false = true by decide), if_neg (show ¬ nI 0 = 1 by decide +kernel), if_neg (show ¬ (LM R C sg A g n).testBit q = true by rw [eL]; decide)]
    · have en : nI (n + 1) - (1 : Int32) = nI n := (n_sub (a := n + 1) (b := 1) (by omega)).trans (by rw [Nat.add_sub_cancel])
      rw [if_pos (show true = true from rfl), if_pos (show nI 1 = 1 from rfl), if_pos (nI_in (c := q) (N := 16) (by omega) (by omega)), if_pos (nI_in (c := c) (N := 16) (by omega) (by omega)), nI_clamp (by omega), nI_clamp (by omega), c2, en]
      by_cases u : isD R C sg A g n q
      · rw [(FS_at hf q1 q2 u).2, if_pos rfl, if_pos ((LM_on q1).mpr ⟨ea, u⟩)]
      · rw [if_neg (c := (LM R C sg A g n).testBit q = true) (fun z => u ((LM_on q1).mp z).2)]
        rcases hf q q1 q2 with ⟨m, m1, m2, m3⟩ | ⟨m1, m2⟩
        · rw [m3, if_neg]
          exact w_ne (by omega) (by omega) (fun z => u (z ▸ m2))
        · rw [m2, if_neg]
          exact w_ne (by omega) (by omega) (by omega)
def cd (w : Nat) : Nat := if w = 0 then 110 else if w = 1 then 101 else if w = 2 then 115 else 119
theorem cdM : ∀ w, w < 4 → M_X9_codeOf (nI w) = some (nI (cd w)) := by decide +kernel
theorem cdX : ∀ w, w < 4 → M_X8_signOfStep (nI w) = some (nI (cd w)) := by decide +kernel
theorem pw_4 {R C A g : Nat} {sg : Nat → Nat} (h : okD R C) : ∀ i n c, i < n → c < R * C → isD R C sg A g n c → pw R C sg A g i n c < 4 := by
  intro i
  induction i with
  | zero =>
    intro n c hi hc hd
    obtain ⟨m, rfl⟩ : ∃ m, n = m + 1 := ⟨n - 1, by omega⟩
    exact (ft_is h hc hd).2.1
  | succ i ih =>
    intro n c hi hc hd
    obtain ⟨m, rfl⟩ : ∃ m, n = m + 1 := ⟨n - 1, by omega⟩
    obtain ⟨f1, f2, q, f3, f4, f5, f6, f7⟩ := ft_is h hc hd
    show pw R C sg A g i (m + 1 - 1) (nxc R C sg A g (m + 1 - 1) c) < 4
    rw [Nat.add_sub_cancel, f4]
    exact ih m q (by omega) (stp_lt h hc (show ft R C sg A g m c < 5 by omega) f3).1 f6
theorem m_layWay9 {R C A g : Nat} {sg : Nat → Nat} {dr th er k : Nat} {wc wl wd : Nat → Nat} {mb : BT} {f : AR} (x1 : Int32) (ho : okS R C sg dr th er k wc wl wd) (hr : rM R C sg dr th er k wc wl wd mb) (hA : A < 65536) (hf : FS R C sg A g f) (hg : g < R * C) : ∀ fu n c s (arr : AR), n < fu → s + n ≤ 30 → c < R * C → sg c ≠ 35 → isD R C sg A g n c → ∃ arr', M_X9_layWay_9 mb x1 (nI g) (nI A) fu (f, (nI s, arr), nI c) = some (f, (nI (s + n), arr')) ∧ (∀ i, i < n → arr' (s + i) = nI (cd (pw R C sg A g i n c))) ∧ ∀ i, i < s → arr' i = arr i := by
  have h16 := ho.1.n16
  intro fu
  induction fu with
  | zero => intro n c s arr h; omega
  | succ fu ih =>
    intro n c s arr hfu hsn hc hs hd
    show ∃ arr', M_X9_layWay_9b _ _ _ _ _ _ = _ ∧ _
    unfold M_X9_layWay_9b
    dsimp only
    cases n with
    | zero =>
      have e : c = g := hd.1
      subst e
      rw [if_pos rfl]
      exact ⟨arr, rfl, fun i hi => absurd hi (by omega), fun i _ => rfl⟩
    | succ n =>
      have ne : c ≠ g := fun z => hd.2 0 (by omega) z
      obtain ⟨f1, f2, q, f3, f4, f5, f6, f7⟩ := ft_is ho.1 hc hd
      obtain ⟨q1, q2, q3⟩ := stp_lt ho.1 hc (show ft R C sg A g n c < 5 by omega) f3
      rw [if_neg (w_ne (by omega) (by omega) ne)]
      have lp : ∀ fv w, w ≤ ft R C sg A g n c → ft R C sg A g n c - w < fv → M_X9_layWay_18 mb x1 (nI g) (nI A) (M_X9_layWay_9 mb x1 (nI g) (nI A) fu) fv (f, (nI s, arr), nI c, nI w) = M_X9_layWay_36 mb x1 (nI g) (nI A) (M_X9_layWay_9 mb x1 (nI g) (nI A) fu) (f, (nI s, arr), nI c, nI (ft R C sg A g n c)) := by
        intro fv
        induction fv with
        | zero => intro w _ h; omega
        | succ fv iv =>
          intro w hw hfv
          show M_X9_layWay_18b _ _ _ _ _ _ _ = _
          unfold M_X9_layWay_18b
          dsimp only
          rw [m_leads ho hr hA hf hc hs hd (show w < 4 by omega), bx]
          by_cases t : w = ft R C sg A g n c
          · rw [if_pos (c := (match stp R C sg c w with | some q => (LM R C sg A g n).testBit q | none => false) = true) (by rw [t, f3]; exact (LM_on q1).mpr ⟨f5, f6⟩), if_neg k10, t]
          · rw [if_neg (c := (match stp R C sg c w with | some q => (LM R C sg A g n).testBit q | none => false) = true), if_pos k00, ← nI_succ]
            · exact iv (w + 1) (by omega) (by omega)
            · cases e : stp R C sg c w with
              | none => exact (show ¬ false = true by decide)
              | some q' =>
                intro z
                exact f7 w (by omega) q' e ((LM_on (stp_lt ho.1 hc (show w < 5 by omega) e).1).mp z)
      rw [show M_X9_layWay_18 mb x1 (nI g) (nI A) (M_X9_layWay_9 mb x1 (nI g) (nI A) fu) 200 (f, (nI s, arr), nI c, 0) = _ from lp 200 0 (by omega) (by omega)]
      unfold M_X9_layWay_36
      dsimp only
      rw [cdM _ f2, bx, if_pos (nI_in (c := s) (N := 32) (by omega) (by omega)), m_beyond ho hr hc (by omega), f3, bx, nI_clamp (by omega), ← nI_succ, show oI (some q) = nI q from rfl]
      obtain ⟨arr', a1, a2, a3⟩ := ih n q (s + 1) (upd arr s (nI (cd (ft R C sg A g n c)))) (by omega) (by omega) q1 q2 f6
      refine ⟨arr', ?_, ?_, ?_⟩
      · rw [a1, show s + 1 + n = s + (n + 1) by omega]
      · intro i hi
        cases i with
        | zero =>
          rw [Nat.add_zero, a3 s (by omega), upd_at]
          rfl
        | succ i =>
          have := a2 i (by omega)
          rw [show s + 1 + i = s + (i + 1) by omega] at this
          rw [this]
          show _ = nI (cd (pw R C sg A g i (n + 1 - 1) (nxc R C sg A g (n + 1 - 1) c)))
          rw [Nat.add_sub_cancel, f4]
      · intro i hi
        rw [a3 i (by omega), upd_ne _ _ (by omega)]
theorem m_layWay {R C A g n c s : Nat} {sg : Nat → Nat} {dr th er k : Nat} {wc wl wd : Nat → Nat} {mb : BT} (mf arr : AR) (ho : okS R C sg dr th er k wc wl wd) (hr : rM R C sg dr th er k wc wl wd mb) (hA : A < 65536) (hg : g < R * C) (hc : c < R * C) (hs : sg c ≠ 35) (hd : isD R C sg A g n c) (hsn : s + n ≤ 30) : ∃ f arr', M_X9_layWay mb mf (nI s, arr) (nI c) (nI g) (nI A) = some (f, (nI (s + n), arr')) ∧ (∀ i, i < n → arr' (s + i) = nI (cd (pw R C sg A g i n c))) ∧ ∀ i, i < s → arr' i = arr i := by
  obtain ⟨f, e1, e2⟩ := m_findFar (g := g) mf ho hr hA hg
  unfold M_X9_layWay
  rw [e1, bx]
  obtain ⟨arr', a1, a2, a3⟩ := m_layWay9 (nI c) ho hr hA e2 hg 200 n c s arr (by have := D_15 ho.1 n c hc hd; omega) hsn hc hs hd
  exact ⟨f, arr', a1, a2, a3⟩
/-- over the door or not: no way goes over it twice -/
theorem door_wk {R C A d g L : Nat} {sg : Nat → Nat} (hd : isD R C sg (A ||| 2 ^ d) g L d) : ∀ j c, j < L → (wk R C sg (A ||| 2 ^ d) g j c ↔ wk R C sg A g j c) := by
  have hb : ∀ q, q ≠ d → (A ||| 2 ^ d).testBit q = A.testBit q := by
    intro q hq
    rw [Nat.testBit_or, Nat.testBit_two_pow, decide_eq_false (fun z => hq z.symm), Bool.or_false]
  intro j
  induction j with
  | zero => intro c _; exact Iff.rfl
  | succ j ih =>
    intro c hj
    constructor
    · intro ⟨w, q, h1, h2, h3, h4⟩
      have nq : q ≠ d := by
        intro z
        subst z
        exact hd.2 j (by omega) h4
      exact ⟨w, q, h1, h2, by rw [← hb q nq]; exact h3, (ih q (by omega)).mp h4⟩
    · intro ⟨w, q, h1, h2, h3, h4⟩
      exact ⟨w, q, h1, h2, by rw [Nat.testBit_or, h3]; rfl, (ih q (by omega)).mpr h4⟩
theorem wk_more {R C A d g : Nat} {sg : Nat → Nat} : ∀ j c, wk R C sg A g j c → wk R C sg (A ||| 2 ^ d) g j c := by
  intro j
  induction j with
  | zero => intro c h; exact h
  | succ j ih =>
    intro c ⟨w, q, h1, h2, h3, h4⟩
    exact ⟨w, q, h1, h2, by rw [Nat.testBit_or, h3]; rfl, ih q h4⟩
theorem door_D {R C A d g L : Nat} {sg : Nat → Nat} (hd : isD R C sg (A ||| 2 ^ d) g L d) : isD R C sg A g L d := by
  refine ⟨?_, fun m hm z => hd.2 m hm (wk_more m d z)⟩
  cases L with
  | zero => exact hd.1
  | succ L =>
    obtain ⟨w, q, h1, h2, h3, h4⟩ := hd.1
    have nq : q ≠ d := by
      intro z
      subst z
      exact hd.2 L (by omega) h4
    refine ⟨w, q, h1, h2, ?_, (door_wk hd L q (by omega)).mp h4⟩
    rw [Nat.testBit_or, Nat.testBit_two_pow, decide_eq_false (fun z => nq z.symm), Bool.or_false] at h3
    exact h3
theorem door_LM {R C A d g L : Nat} {sg : Nat → Nat} (hd : isD R C sg (A ||| 2 ^ d) g L d) {j : Nat} (hj : j < L) : LM R C sg (A ||| 2 ^ d) g j = LM R C sg A g j := by
  apply bits_eq (n := R * C) (LM_lt ..) (LM_lt ..)
  intro c hc
  apply b_eq
  rw [LM_on hc, LM_on hc]
  have eD : isD R C sg (A ||| 2 ^ d) g j c ↔ isD R C sg A g j c := ⟨fun z => ⟨(door_wk hd j c hj).mp z.1, fun m hm y => z.2 m hm ((door_wk hd m c (by omega)).mpr y)⟩, fun z => ⟨(door_wk hd j c hj).mpr z.1, fun m hm y => z.2 m hm ((door_wk hd m c (by omega)).mp y)⟩⟩
  rw [eD]
  by_cases t : c = d
  · subst t
    exact ⟨fun z => absurd z.2 (fun y => by have := D_uniq (door_D hd) y; omega), fun z => absurd z.2 (fun y => by have := D_uniq (door_D hd) y; omega)⟩
  · rw [Nat.testBit_or, Nat.testBit_two_pow, decide_eq_false (fun z => t z.symm), Bool.or_false]
theorem door_pw {R C A d g L : Nat} {sg : Nat → Nat} (hd : isD R C sg (A ||| 2 ^ d) g L d) : ∀ i n c, n ≤ L → i < n → pw R C sg (A ||| 2 ^ d) g i n c = pw R C sg A g i n c := by
  have e : ∀ j c, j < L → ft R C sg (A ||| 2 ^ d) g j c = ft R C sg A g j c := by
    intro j c hj
    unfold ft
    rw [door_LM hd hj]
  intro i
  induction i with
  | zero => intro n c hn hi; exact e (n - 1) c (by omega)
  | succ i ih =>
    intro n c hn hi
    show pw R C sg (A ||| 2 ^ d) g i (n - 1) (nxc R C sg (A ||| 2 ^ d) g (n - 1) c) = pw R C sg A g i (n - 1) (nxc R C sg A g (n - 1) c)
    unfold nxc
    rw [e (n - 1) c (by omega)]
    exact ih (n - 1) _ (by omega) (by omega)
theorem wk_goal {R C A g : Nat} {sg : Nat → Nat} : ∀ n c, wk R C sg A g (n + 1) c → A.testBit g = true := by
  intro n
  induction n with
  | zero =>
    intro c ⟨w, q, h1, h2, h3, h4⟩
    have e : q = g := h4
    rw [← e]; exact h3
  | succ n ih =>
    intro c ⟨w, q, h1, h2, h3, h4⟩
    exact ih q h4
theorem op_safe {h : HT} {v : VT} {mb : BT} (y : YT) (mf : AR) (mt : TT) (x : Int32) (rh : RH h v mb) : ∃ z y' mf' mt', M_X8_safe h v y x = some (z, y') ∧ M_X9_safe mb mf mt x = some (z, mf', mt') := by
  obtain ⟨R, C, sg, dr, th, er, k, wc, wl, wd, ho, ⟨hx1, hx2, hx3⟩, hr⟩ := rh
  subst hx1
  have h16 := ho.1.n16
  obtain ⟨d1, d2⟩ := ho.2.2.1
  obtain ⟨t1, t2⟩ := ho.2.2.2.1
  have hb := brs_lt R C sg er wc wl wd k
  have hb16 := lt16 ho.1 hb
  have ha : brs R C sg er wc wl wd k ||| 2 ^ dr < 2 ^ (R * C) := or_lt hb (p_lt d1)
  have ha16 := lt16 ho.1 ha
  have hbs : ∀ c, c < R * C → (brs R C sg er wc wl wd k).testBit c = true → sg c ≠ 35 := fun c hc z => brs_open hc k z
  have has : ∀ c, c < R * C → (brs R C sg er wc wl wd k ||| 2 ^ dr).testBit c = true → sg c ≠ 35 := by
    intro c hc z
    rw [Nat.testBit_or, Bool.or_eq_true, Nat.testBit_two_pow, decide_eq_true_iff] at z
    rcases z with z | z
    · exact hbs c hc z
    · rw [← z]; exact d2
  have had : (brs R C sg er wc wl wd k ||| 2 ^ dr).testBit dr = true := by
    rw [Nat.testBit_or, Nat.testBit_two_pow]; simp
  unfold M_X8_safe M_X9_safe
  rw [show M_X8_bit (hOf R C sg dr th er).2.2.2.2.2.2.2.2.2.1 = some (nI (2 ^ dr)) from m_bit (by omega), show M_X8_bit (hOf R C sg dr th er).2.2.2.2.2.2.2.2.2.2.1 = some (nI (2 ^ th)) from m_bit (by omega), bx, bx, m_bare ho ⟨rfl, hx2, hx3⟩, bx, m_bareR ho hr, bx, hr.2.2.1, hr.2.2.2.1, n_or, n_pow (by omega), n_or]
  generalize hbn : brs R C sg er wc wl wd k = bn at hb hb16 ha ha16 hbs has had ⊢
  obtain ⟨f1, e1, g1⟩ := m_findFar (g := th) mf ho hr hb16 t1
  rw [e1, bx, if_pos (nI_in (c := dr) (N := 16) (by omega) (by omega)), nI_clamp (by omega)]
  rcases m_measure dr th er y ho.1 ha has d1 had t1 with ⟨n, ly, m1, m2, m3, m4⟩ | ⟨m1, ly, m2⟩
  · have dA := door_D m2
    have gt : (bn ||| 2 ^ dr).testBit th = true := by
      cases n with
      | zero =>
        have e : dr = th := m2.1
        rw [← e]; exact had
      | succ n => exact wk_goal n dr m2.1
    have back := D_rev ho.1 d1 d2 had t1 t2 gt m2
    obtain ⟨f2, arr2, l1, l2, l3⟩ := m_layWay (s := 0) f1 mt.2 ho hr hb16 t1 d1 d2 dA (by omega)
    obtain ⟨f3, e3, g3⟩ := m_findFar (g := dr) f2 ho hr ha16 d1
    obtain ⟨f4, arr4, q1, q2, q3⟩ := m_layWay (s := 0 + n) f3 arr2 ho hr ha16 d1 t1 t2 back (by omega)
    rw [m3, bx, (FS_at g1 d1 d2 dA).2, if_neg (show ¬ nI n = 1000 from w_ne (b := 1000) (by omega) (by omega) (by omega)), show M_X9_layWay mb f1 (0, mt.2) (nI dr) (nI th) (nI bn) = _ from l1, bx]
    dsimp only
    rw [e3, bx, if_pos (nI_in (c := th) (N := 16) (by omega) (by omega)), nI_clamp (by omega), (FS_at g3 t1 t2 back).2, if_neg (show ¬ nI n = 1000 from w_ne (b := 1000) (by omega) (by omega) (by omega)), q1, bx]
    dsimp only
    rw [if_neg (show ¬ nI n = -6 from m6ne (by omega)), show (2 : Int32) * nI n = nI (2 * n) from pk_mul 2 n, show 0 + n + n = 2 * n by omega]
    by_cases c0 : x = -1
    · rw [if_pos c0, if_pos c0]
      exact ⟨_, _, _, _, rfl, rfl⟩
    · rw [if_neg c0, if_neg c0]
      rcases cell_cs (x := x) (n := 2 * n) (by omega) with ⟨i, hi, rfl⟩ | qq
      · rw [if_neg (nI_pos (by omega)), if_pos (nI_lt hi (by omega)), in_good hi (by omega), bx, if_neg k10, if_pos (nI_in (c := i) (N := 32) (by omega) (by omega)), nI_clamp (by omega)]
        rcases Nat.lt_or_ge i n with u | u
        · obtain ⟨y', s1⟩ := m_stepOnWay dr th er (ly, y.2) ho.1 ha has d1 had t1 m2 u
          rw [if_neg (nI_ge u (by omega)), s1, bx]
          unfold M_X8_safe_129
          dsimp only
          have w4 := pw_4 (A := bn ||| 2 ^ dr) (g := th) ho.1 i n dr u d1 m2
          have ai : arr2 i = nI (cd (pw R C sg bn th i n dr)) := by
            have a := l2 i u
            rw [Nat.zero_add] at a
            exact a
          rw [cdX _ w4, bx, q3 i (by omega), ai, door_pw m2 i n dr (Nat.le_refl _) u]
          exact ⟨_, _, _, _, rfl, rfl⟩
        · obtain ⟨y', s1⟩ := m_stepOnWay (i := i - n) dr th er (ly, y.2) ho.1 ha has t1 gt d1 back (by omega)
          rw [if_pos (nI_le u (by omega)), n_sub u, s1, bx]
          unfold M_X8_safe_129
          dsimp only
          have w4 := pw_4 (A := bn ||| 2 ^ dr) (g := dr) ho.1 (i - n) n th (by omega) t1 back
          have ai : arr4 i = nI (cd (pw R C sg (bn ||| 2 ^ dr) dr (i - n) n th)) := by
            have a := q2 (i - n) (by omega)
            rw [show 0 + n + (i - n) = i by omega] at a
            exact a
          rw [cdX _ w4, bx, ai]
          exact ⟨_, _, _, _, rfl, rfl⟩
      · rw [in_bad (by omega) qq, bx, if_pos k00]
        by_cases u : x < 0
        · rw [if_pos u]; exact ⟨_, _, _, _, rfl, rfl⟩
        · rw [if_neg u, if_neg (Int32.not_lt.mpr (qq.resolve_left u))]; exact ⟨_, _, _, _, rfl, rfl⟩
  · have no : ∀ n, ¬ wk R C sg bn th n dr := fun n z => m1 n (wk_more n dr z)
    rw [m2, bx, FS_no g1 d1 d2 no, if_pos (show nI 1000 = 1000 from rfl)]
    dsimp only
    rw [if_pos rfl]
    exact ⟨_, _, _, _, rfl, rfl⟩
