/-! The class's layers -/
noncomputable def LM (R C : Nat) (sg : Nat → Nat) (A g n : Nat) : Nat := mk (fun c => A.testBit c && dc (isD R C sg A g n c)) (R * C)
noncomputable def RMk (R C : Nat) (sg : Nat → Nat) (A g n : Nat) : Nat := mk (fun c => A.testBit c && dc (∃ m, m ≤ n ∧ wk R C sg A g m c)) (R * C)
theorem LM_lt (R C : Nat) (sg : Nat → Nat) (A g n : Nat) : LM R C sg A g n < 2 ^ (R * C) := mk_lt _ _
theorem RM_lt (R C : Nat) (sg : Nat → Nat) (A g n : Nat) : RMk R C sg A g n < 2 ^ (R * C) := mk_lt _ _
theorem LM_bit {R C A g n c : Nat} {sg : Nat → Nat} (hc : c < R * C) : (LM R C sg A g n).testBit c = (A.testBit c && dc (isD R C sg A g n c)) := by
  unfold LM; rw [mk_bit]; simp [hc]
theorem RM_bit {R C A g n c : Nat} {sg : Nat → Nat} (hc : c < R * C) : (RMk R C sg A g n).testBit c = (A.testBit c && dc (∃ m, m ≤ n ∧ wk R C sg A g m c)) := by
  unfold RMk; rw [mk_bit]; simp [hc]
theorem LM_on {R C A g n c : Nat} {sg : Nat → Nat} (hc : c < R * C) : (LM R C sg A g n).testBit c = true ↔ A.testBit c = true ∧ isD R C sg A g n c := by
  rw [LM_bit hc, Bool.and_eq_true, dc_iff]
theorem RM_on {R C A g n c : Nat} {sg : Nat → Nat} (hc : c < R * C) : (RMk R C sg A g n).testBit c = true ↔ A.testBit c = true ∧ ∃ m, m ≤ n ∧ wk R C sg A g m c := by
  rw [RM_bit hc, Bool.and_eq_true, dc_iff]
theorem mv_on {R C m w c : Nat} (hc : c < R * C) : (mv R C m w).testBit c = true ↔ ∃ q, nb R C c (opw w) = some q ∧ m.testBit q = true := by
  unfold mv
  rw [mk_bit, decide_eq_true hc, Bool.true_and]
  cases e : nb R C c (opw w) with
  | none => exact ⟨fun z => absurd z (by simp), fun ⟨q, z, _⟩ => absurd z (by simp)⟩
  | some q => exact ⟨fun z => ⟨q, rfl, z⟩, fun ⟨q', z, z2⟩ => by injection z with z; subst z; exact z2⟩
theorem sp_on {R C m c : Nat} (hc : c < R * C) : (sp R C m).testBit c = true ↔ m.testBit c = true ∨ ∃ w q, w < 4 ∧ nb R C c w = some q ∧ m.testBit q = true := by
  unfold sp
  rw [Nat.testBit_or, Nat.testBit_or, Nat.testBit_or, Nat.testBit_or, Bool.or_eq_true, Bool.or_eq_true, Bool.or_eq_true, Bool.or_eq_true, mv_on hc, mv_on hc, mv_on hc, mv_on hc]
  constructor
  · intro z
    rcases z with (((z | ⟨q, a, b⟩) | ⟨q, a, b⟩) | ⟨q, a, b⟩) | ⟨q, a, b⟩
    · exact Or.inl z
    · exact Or.inr ⟨2, q, by omega, a, b⟩
    · exact Or.inr ⟨3, q, by omega, a, b⟩
    · exact Or.inr ⟨0, q, by omega, a, b⟩
    · exact Or.inr ⟨1, q, by omega, a, b⟩
  · intro z
    rcases z with z | ⟨w, q, hw, a, b⟩
    · exact Or.inl (Or.inl (Or.inl (Or.inl z)))
    · obtain rfl | rfl | rfl | rfl : w = 0 ∨ w = 1 ∨ w = 2 ∨ w = 3 := by omega
      · exact Or.inl (Or.inr ⟨q, a, b⟩)
      · exact Or.inr ⟨q, a, b⟩
      · exact Or.inl (Or.inl (Or.inl (Or.inr ⟨q, a, b⟩)))
      · exact Or.inl (Or.inl (Or.inr ⟨q, a, b⟩))
theorem b_eq {a b : Bool} (h : a = true ↔ b = true) : a = b := by
  cases a <;> cases b
  · rfl
  · exact absurd (h.mpr rfl) (by decide)
  · exact absurd (h.mp rfl) (by decide)
  · rfl
theorem LM_0 {R C A g : Nat} {sg : Nat → Nat} (hg : g < R * C) : 2 ^ g &&& A = LM R C sg A g 0 ∧ 2 ^ g &&& A = RMk R C sg A g 0 := by
  constructor
  · apply bits_eq (n := R * C) (and_lt (p_lt hg)) (LM_lt ..)
    intro i hi
    apply b_eq
    rw [LM_on hi, Nat.testBit_and, Nat.testBit_two_pow, Bool.and_eq_true, decide_eq_true_iff]
    exact ⟨fun z => ⟨z.2, z.1.symm, fun m hm => absurd hm (by omega)⟩, fun z => ⟨Eq.symm z.2.1, z.1⟩⟩
  · apply bits_eq (n := R * C) (and_lt (p_lt hg)) (RM_lt ..)
    intro i hi
    apply b_eq
    rw [RM_on hi, Nat.testBit_and, Nat.testBit_two_pow, Bool.and_eq_true, decide_eq_true_iff]
    refine ⟨fun z => ⟨z.2, 0, Nat.le_refl _, z.1.symm⟩, fun ⟨z, m, m1, m2⟩ => ?_⟩
    have e : m = 0 := by omega
    subst e
    exact ⟨Eq.symm m2, z⟩
theorem LM_s {R C A g n : Nat} {sg : Nat → Nat} (h : okD R C) (hA : A < 2 ^ (R * C)) (hs : ∀ c, c < R * C → A.testBit c = true → sg c ≠ 35) : andn (sp R C (LM R C sg A g n) &&& A) (RMk R C sg A g n) = LM R C sg A g (n + 1) := by
  apply bits_eq (n := R * C) (andn_lt (Nat.lt_of_le_of_lt Nat.and_le_right hA)) (LM_lt ..)
  intro c hc
  apply b_eq
  rw [LM_on hc, andn_bit, Bool.and_eq_true, Nat.testBit_and, Bool.and_eq_true, sp_on hc]
  constructor
  · intro ⟨⟨z1, z2⟩, z3⟩
    have nr : ¬ ∃ m, m ≤ n ∧ wk R C sg A g m c := by
      intro z
      rw [(RM_on hc).mpr ⟨z2, z⟩] at z3
      exact absurd z3 (by decide)
    refine ⟨z2, ?_, fun m hm z => nr ⟨m, by omega, z⟩⟩
    rcases z1 with z1 | ⟨w, q, hw, a, b⟩
    · exact absurd ⟨n, Nat.le_refl _, ((LM_on hc).mp z1).2.1⟩ nr
    · have hq := nb_lt h hc (show w < 5 by omega) a
      obtain ⟨b1, b2⟩ := (LM_on hq).mp b
      exact ⟨w, q, hw, stp_of a (hs q hq b1), b1, b2.1⟩
  · intro ⟨z1, z2⟩
    obtain ⟨w, q, hw, a, b, d⟩ := D_next z2
    obtain ⟨q1, q2, q3⟩ := stp_lt h hc (show w < 5 by omega) a
    refine ⟨⟨Or.inr ⟨w, q, hw, q3, (LM_on q1).mpr ⟨b, d⟩⟩, z1⟩, ?_⟩
    cases e : (RMk R C sg A g n).testBit c
    · rfl
    · obtain ⟨_, m, m1, m2⟩ := (RM_on hc).mp e
      exact absurd m2 (z2.2 m (by omega))
theorem RM_s {R C A g n : Nat} {sg : Nat → Nat} : RMk R C sg A g n ||| LM R C sg A g (n + 1) = RMk R C sg A g (n + 1) := by
  apply bits_eq (n := R * C) (or_lt (RM_lt ..) (LM_lt ..)) (RM_lt ..)
  intro c hc
  apply b_eq
  rw [RM_on hc, Nat.testBit_or, Bool.or_eq_true, RM_on hc, LM_on hc]
  constructor
  · intro z
    rcases z with ⟨z, m, m1, m2⟩ | ⟨z, z2⟩
    · exact ⟨z, m, by omega, m2⟩
    · exact ⟨z, n + 1, Nat.le_refl _, z2.1⟩
  · intro ⟨z, m, m1, m2⟩
    by_cases t : ∃ m, m ≤ n ∧ wk R C sg A g m c
    · exact Or.inl ⟨z, t⟩
    · have e : m = n + 1 := by
        rcases Nat.lt_or_ge n m with y | y
        · omega
        · exact absurd ⟨m, y, m2⟩ t
      subst e
      exact Or.inr ⟨z, m2, fun m hm q => t ⟨m, by omega, q⟩⟩
theorem m_measure {R C A g c0 : Nat} {sg : Nat → Nat} (dr th er : Nat) (y : YT) (h : okD R C) (hA : A < 2 ^ (R * C)) (hs : ∀ c, c < R * C → A.testBit c = true → sg c ≠ 35) (hc : c0 < R * C) (hac : A.testBit c0 = true) (hg : g < R * C) : (∃ n ly, n ≤ 15 ∧ isD R C sg A g n c0 ∧ M_X5_measure y (hOf R C sg dr th er) (nI (2 ^ c0)) (nI (2 ^ g)) (nI A) = some (nI n, (ly, y.2)) ∧ ∀ k, k ≤ n → ly k = nI (LM R C sg A g k)) ∨ ((∀ n, ¬ wk R C sg A g n c0) ∧ ∃ ly, M_X5_measure y (hOf R C sg dr th er) (nI (2 ^ c0)) (nI (2 ^ g)) (nI A) = some (-6, (ly, y.2))) := by
  have h16 := h.n16
  have lp : ∀ fu n (ly : AR), n ≤ 16 → 16 - n < fu → (∀ m, m < n → ¬ isD R C sg A g m c0) → (∀ k, k < n → ly k = nI (LM R C sg A g k)) → (∃ n' ly', n' ≤ 15 ∧ isD R C sg A g n' c0 ∧ M_X5_measure_13 (hOf R C sg dr th er) (nI (2 ^ c0)) (nI (2 ^ g)) (nI A) fu ((ly, y.2), nI (LM R C sg A g n), nI (RMk R C sg A g n), nI n) = some (nI n', (ly', y.2)) ∧ ∀ k, k ≤ n' → ly' k = nI (LM R C sg A g k)) ∨ ((∀ n, ¬ wk R C sg A g n c0) ∧ ∃ ly', M_X5_measure_13 (hOf R C sg dr th er) (nI (2 ^ c0)) (nI (2 ^ g)) (nI A) fu ((ly, y.2), nI (LM R C sg A g n), nI (RMk R C sg A g n), nI n) = some (-6, (ly', y.2))) := by
    intro fu
    induction fu with
    | zero => intro n ly _ h; omega
    | succ fu ih =>
      intro n ly hn hfu hno hly
      have ex : ∀ a, M_X5_measure_13 (hOf R C sg dr th er) (nI (2 ^ c0)) (nI (2 ^ g)) (nI A) (fu + 1) a = M_X5_measure_13b (hOf R C sg dr th er) (nI (2 ^ c0)) (nI (2 ^ g)) (nI A) (M_X5_measure_13 (hOf R C sg dr th er) (nI (2 ^ c0)) (nI (2 ^ g)) (nI A) fu) a := fun a => rfl
      rw [ex]
      unfold M_X5_measure_13b
      dsimp only
      rcases Nat.lt_or_ge n 16 with q | q
      · rw [if_neg (nI_ge q (by omega)), if_pos (nI_in q (by omega)), nI_clamp (by omega), n_and, Nat.and_comm, one_and]
        have ly2 : ∀ k, k < n + 1 → upd ly n (nI (LM R C sg A g n)) k = nI (LM R C sg A g k) := by
          intro k hk
          by_cases t : k = n
          · subst t; exact upd_at ..
          · rw [upd_ne _ _ t]; exact hly k (by omega)
        by_cases t : isD R C sg A g n c0
        · rw [if_pos ((LM_on hc).mpr ⟨hac, t⟩), if_neg (p_ne (by omega))]
          left
          exact ⟨n, _, by omega, t, rfl, fun k hk => ly2 k (by omega)⟩
        · rw [if_neg (fun z => t ((LM_on hc).mp z).2), if_pos n0I, m_spread sg dr th er h (LM_lt ..), bx, n_and, n_andn, LM_s h hA hs, n_or, RM_s, ← nI_succ]
          refine ih (n + 1) _ (by omega) (by omega) ?_ ly2
          intro m hm
          by_cases u : m = n
          · subst u; exact t
          · exact hno m (by omega)
      · have e : n = 16 := by omega
        subst e
        rw [if_pos (show nI 16 ≤ nI 16 by decide +kernel)]
        right
        refine ⟨?_, ly, rfl⟩
        rcases D_cases R C sg A g c0 with ⟨n, hn⟩ | z
        · exact absurd hn (hno n (by have := D_15 h n c0 hc hn; omega))
        · exact z
  obtain ⟨l1, l2⟩ := LM_0 (sg := sg) (A := A) hg
  have key := lp 200 0 y.1 (by omega) (by omega) (fun m hm => absurd hm (by omega)) (fun m hm => absurd hm (by omega))
  rw [← l1, ← l2] at key
  unfold M_X5_measure
  rw [n_and]
  exact key
/-- the first step to a set -/
def ftO (R C : Nat) (sg : Nat → Nat) (L c : Nat) : Option Nat := fs (fun w => match stp R C sg c w with | some q => L.testBit q | none => false) 4
theorem m_firstStep {R C L c : Nat} {sg : Nat → Nat} (dr th er : Nat) (h : okD R C) (hc : c < R * C) : M_X5_firstStepInto (hOf R C sg dr th er) (nI (2 ^ c)) (nI L) = some (oI (ftO R C sg L c)) := by
  have h16 := h.n16
  have lp : ∀ fu w, w ≤ 4 → 4 - w < fu → (∀ i, i < w → (match stp R C sg c i with | some q => L.testBit q | none => false) = false) → M_X5_firstStepInto_2 (hOf R C sg dr th er) (nI (2 ^ c)) (nI L) fu (nI w) = some (oI (ftO R C sg L c)) := by
    intro fu
    induction fu with
    | zero => intro w _ h; omega
    | succ fu ih =>
      intro w hw hfu hno
      show M_X5_firstStepInto_2b _ _ _ _ _ = _
      unfold M_X5_firstStepInto_2b
      rcases Nat.lt_or_ge w 4 with y | y
      · rw [if_neg (show ¬ (4 : Int32) ≤ nI w from nI_ge (b := 4) y (by omega)), m_stepTo sg dr th er h hc (by omega), bx]
        have nxt : (match stp R C sg c w with | some q => L.testBit q | none => false) = false → M_X5_firstStepInto_2 (hOf R C sg dr th er) (nI (2 ^ c)) (nI L) fu (nI w + 1) = some (oI (ftO R C sg L c)) := by
          intro z
          rw [← nI_succ]
          refine ih (w + 1) (by omega) (by omega) ?_
          intro i hi
          by_cases t : i = w
          · subst t; exact z
          · exact hno i (by omega)
        cases e : stp R C sg c w with
        | none =>
          rw [e] at nxt
          rw [show oM none = 0 from rfl, n_and, Nat.zero_and, if_pos n0I]
          exact nxt rfl
        | some q =>
          have hq := (stp_lt h hc (show w < 5 by omega) e).1
          rw [e] at nxt
          rw [show oM (some q) = 2 ^ q from rfl, one_andI]
          cases u : L.testBit q
          · rw [if_neg (show ¬ false = true by decide), if_pos n0I]
            exact nxt u
          · rw [if_pos (show true = true from rfl), if_neg (p_ne (by omega))]
            have pw : (match stp R C sg c w with | some q => L.testBit q | none => false) = true := by rw [e]; exact u
            obtain ⟨t, t1, t2, t3, t4⟩ := fs_some (P := fun w => match stp R C sg c w with | some q => L.testBit q | none => false) 4 ⟨w, y, pw⟩
            have et : t = w := by
              rcases Nat.lt_trichotomy t w with z | z | z
              · have := hno t z
                rw [this] at t3; exact absurd t3 (by decide)
              · exact z
              · have := t4 w z
                rw [pw] at this; exact absurd this (by decide)
            unfold ftO
            rw [t1, et]
            rfl
      · have e : w = 4 := by omega
        subst e
        rw [if_pos (show (4 : Int32) ≤ nI 4 by decide +kernel)]
        unfold ftO
        rw [fs_none 4 hno]
        rfl
  exact lp 200 0 (by omega) (by omega) (fun i hi => absurd hi (by omega))
noncomputable def ft (R C : Nat) (sg : Nat → Nat) (A g n c : Nat) : Nat := (ftO R C sg (LM R C sg A g n) c).getD 0
noncomputable def nxc (R C : Nat) (sg : Nat → Nat) (A g n c : Nat) : Nat := (stp R C sg c (ft R C sg A g n c)).getD c
noncomputable def pw (R C : Nat) (sg : Nat → Nat) (A g : Nat) : Nat → Nat → Nat → Nat
  | 0, n, c => ft R C sg A g (n - 1) c
  | i + 1, n, c => pw R C sg A g i (n - 1) (nxc R C sg A g (n - 1) c)
theorem ft_is {R C A g n c : Nat} {sg : Nat → Nat} (h : okD R C) (hc : c < R * C) (hd : isD R C sg A g (n + 1) c) : ftO R C sg (LM R C sg A g n) c = some (ft R C sg A g n c) ∧ ft R C sg A g n c < 4 ∧ ∃ q, stp R C sg c (ft R C sg A g n c) = some q ∧ nxc R C sg A g n c = q ∧ A.testBit q = true ∧ isD R C sg A g n q ∧ ∀ w, w < ft R C sg A g n c → ∀ q', stp R C sg c w = some q' → ¬ (A.testBit q' = true ∧ isD R C sg A g n q') := by
  obtain ⟨w, q, h1, h2, h3, h4⟩ := D_next hd
  have hq := (stp_lt h hc (show w < 5 by omega) h2).1
  have pw : (match stp R C sg c w with | some q => (LM R C sg A g n).testBit q | none => false) = true := by
    rw [h2]; exact (LM_on hq).mpr ⟨h3, h4⟩
  obtain ⟨t, t1, t2, t3, t4⟩ := fs_some (P := fun w => match stp R C sg c w with | some q => (LM R C sg A g n).testBit q | none => false) 4 ⟨w, h1, pw⟩
  have e : ft R C sg A g n c = t := by
    unfold ft ftO
    rw [t1]; rfl
  unfold nxc
  rw [e]
  refine ⟨t1, t2, ?_⟩
  cases es : stp R C sg c t with
  | none =>
    rw [es] at t3
    exact absurd t3 (show ¬ false = true by decide)
  | some q' =>
    rw [es] at t3
    have hq' := (stp_lt h hc (show t < 5 by omega) es).1
    obtain ⟨l1, l2⟩ := (LM_on hq').mp t3
    refine ⟨q', rfl, rfl, l1, l2, ?_⟩
    intro w' hw' q2 e2 z
    have := t4 w' hw'
    rw [e2] at this
    have hq2 := (stp_lt h hc (show w' < 5 by omega) e2).1
    have this2 : (LM R C sg A g n).testBit q2 = false := this
    rw [(LM_on hq2).mpr z] at this2
    exact absurd this2 (by decide)
theorem m_stepOnWay {R C A g c0 n : Nat} {sg : Nat → Nat} (dr th er : Nat) (y : YT) (h : okD R C) (hA : A < 2 ^ (R * C)) (hs : ∀ c, c < R * C → A.testBit c = true → sg c ≠ 35) (hc : c0 < R * C) (hac : A.testBit c0 = true) (hg : g < R * C) (hd : isD R C sg A g n c0) {i : Nat} (hi : i < n) : ∃ y', M_X5_stepOnWay y (hOf R C sg dr th er) (nI (2 ^ c0)) (nI (2 ^ g)) (nI A) (nI i) = some (nI (pw R C sg A g i n c0), y') := by
  have h16 := h.n16
  have n15 := D_15 h n c0 hc hd
  unfold M_X5_stepOnWay
  rcases m_measure dr th er y h hA hs hc hac hg with ⟨n', ly, m1, m2, m3, m4⟩ | ⟨m1, ly, m2⟩
  · have e := D_uniq m2 hd
    subst e
    rw [m3, bx]
    have lp : ∀ fu t c, t ≤ i → i - t < fu → c < R * C → isD R C sg A g (n' - t) c → pw R C sg A g (i - t) (n' - t) c = pw R C sg A g i n' c0 → ∃ y', M_X5_stepOnWay_17 (hOf R C sg dr th er) (nI (2 ^ c0)) (nI (2 ^ g)) (nI A) (nI i) fu ((ly, y.2), nI (2 ^ c), nI n', nI t) = some (nI (pw R C sg A g i n' c0), y') := by
      intro fu
      induction fu with
      | zero => intro t c _ h; omega
      | succ fu ih =>
        intro t c ht hfu hcc hdd hpw
        show ∃ y', M_X5_stepOnWay_17b _ _ _ _ _ _ _ = _
        unfold M_X5_stepOnWay_17b
        dsimp only
        obtain ⟨d, hd1⟩ : ∃ d, n' - t = d + 1 := ⟨n' - t - 1, by omega⟩
        rw [hd1] at hdd hpw
        obtain ⟨f1, f2, q, f3, f4, f5, f6, f7⟩ := ft_is h hcc hdd
        have e1 : (nI n' - nI t) - (1 : Int32) = nI d := by
          rw [n_sub (by omega), hd1]
          exact (n_sub (a := d + 1) (b := 1) (by omega)).trans (by rw [Nat.add_sub_cancel])
        rw [if_neg (nI_ge (by omega) (by omega)), e1, m_at _ (by omega) (by omega), bx, m4 d (by omega), m_firstStep dr th er h hcc, bx, f1]
        by_cases u : t = i
        · subst u
          rw [if_pos rfl]
          refine ⟨(ly, y.2), ?_⟩
          have : pw R C sg A g (t - t) (d + 1) c = ft R C sg A g d c := by rw [Nat.sub_self]; rfl
          rw [this] at hpw
          rw [← hpw]
          rfl
        · rw [if_neg (w_ne (by omega) (by omega) u), show oI (some (ft R C sg A g d c)) = nI (ft R C sg A g d c) from rfl, m_stepOrStay sg dr th er h hcc (by omega), bx, ← nI_succ]
          have en : (stp R C sg c (ft R C sg A g d c)).getD c = q := f4
          rw [en]
          refine ih (t + 1) q (by omega) (by omega) (stp_lt h hcc (show ft R C sg A g d c < 5 by omega) f3).1 ?_ ?_
          · rw [show n' - (t + 1) = d by omega]; exact f6
          · rw [show n' - (t + 1) = d by omega, ← hpw]
            obtain ⟨j, hj⟩ : ∃ j, i - t = j + 1 := ⟨i - t - 1, by omega⟩
            rw [show i - (t + 1) = j by omega, hj]
            show _ = pw R C sg A g j (d + 1 - 1) (nxc R C sg A g (d + 1 - 1) c)
            rw [Nat.add_sub_cancel, f4]
    exact lp 200 0 c0 (by omega) (by omega) hc m2 rfl
  · exact absurd hd.1 (m1 n)
