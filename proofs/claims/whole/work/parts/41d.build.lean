/-! build -/
/-- how many of the first are -/
def cn (P : Nat → Bool) : Nat → Nat
  | 0 => 0
  | j + 1 => cn P j + (if P j then 1 else 0)
/-- the first one, the last one -/
def fs (P : Nat → Bool) : Nat → Option Nat
  | 0 => none
  | j + 1 => match fs P j with
    | some x => some x
    | none => if P j then some j else none
def ls (P : Nat → Bool) : Nat → Option Nat
  | 0 => none
  | j + 1 => if P j then some j else ls P j
theorem cn_le (P : Nat → Bool) : ∀ n, cn P n ≤ n
  | 0 => Nat.le_refl 0
  | n + 1 => by
    have := cn_le P n
    show cn P n + (if P n then 1 else 0) ≤ n + 1
    split <;> omega
theorem cn_0 (P : Nat → Bool) : ∀ n, (cn P n = 0 ↔ ∀ i, i < n → P i = false) := by
  intro n
  induction n with
  | zero => exact ⟨fun _ i hi => absurd hi (by omega), fun _ => rfl⟩
  | succ n ih =>
    show cn P n + (if P n then 1 else 0) = 0 ↔ _
    constructor
    · intro h i hi
      by_cases t : i = n
      · subst t
        cases e : P i
        · rfl
        · rw [e, if_pos rfl] at h; omega
      · exact ih.mp (by omega) i (by omega)
    · intro h
      rw [ih.mpr (fun i hi => h i (by omega)), h n (by omega)]
      rfl
theorem fs_none {P : Nat → Bool} : ∀ n, (∀ i, i < n → P i = false) → fs P n = none := by
  intro n
  induction n with
  | zero => intro _; rfl
  | succ n ih =>
    intro h
    show (match fs P n with | some x => some x | none => if P n then some n else none) = none
    rw [ih (fun i hi => h i (by omega)), h n (by omega)]
    rfl
theorem fs_some {P : Nat → Bool} : ∀ n, (∃ i, i < n ∧ P i = true) → ∃ t, fs P n = some t ∧ t < n ∧ P t = true ∧ ∀ i, i < t → P i = false := by
  intro n
  induction n with
  | zero => intro ⟨i, hi, _⟩; omega
  | succ n ih =>
    intro ⟨i, hi, hp⟩
    by_cases h : ∃ i, i < n ∧ P i = true
    · obtain ⟨t, a, b, c, d⟩ := ih h
      refine ⟨t, ?_, by omega, c, d⟩
      show (match fs P n with | some x => some x | none => if P n then some n else none) = some t
      rw [a]
    · have hno : ∀ i, i < n → P i = false := fun j hj => by
        cases e : P j
        · rfl
        · exact absurd ⟨j, hj, e⟩ h
      have e : i = n := by
        rcases Nat.lt_or_ge i n with y | y
        · exact absurd ⟨i, y, hp⟩ h
        · omega
      subst e
      refine ⟨i, ?_, by omega, hp, hno⟩
      show (match fs P i with | some x => some x | none => if P i then some i else none) = some i
      rw [fs_none i hno, hp]
      rfl
theorem ls_some {P : Nat → Bool} : ∀ n, (∃ i, i < n ∧ P i = true) → ∃ t, ls P n = some t ∧ t < n ∧ P t = true := by
  intro n
  induction n with
  | zero => intro ⟨i, hi, _⟩; omega
  | succ n ih =>
    intro ⟨i, hi, hp⟩
    show ∃ t, (if P n then some n else ls P n) = some t ∧ _
    cases e : P n
    · obtain ⟨t, a, b, c⟩ := ih ⟨i, by
        rcases Nat.lt_or_ge i n with y | y
        · exact y
        · have : i = n := by omega
          subst this; rw [hp] at e; exact absurd e (by decide), hp⟩
      exact ⟨t, a, by omega, c⟩
    · exact ⟨n, rfl, by omega, e⟩
theorem low_bit {m t : Nat} (h32 : t < 32) (ht : m.testBit t = true) (hl : ∀ i, i < t → m.testBit i = false) : nI m &&& (-nI m) = nI (2 ^ t) := by
  apply Int32.toBitVec_inj.1
  show BitVec.ofNat 32 m &&& -(BitVec.ofNat 32 m) = BitVec.ofNat 32 (2 ^ t)
  apply BitVec.eq_of_getLsbD_eq
  intro i hi
  have g : ∀ j, j < 32 → (BitVec.ofNat 32 m).getLsbD j = m.testBit j := fun j hj => by rw [BitVec.getLsbD_ofNat]; simp [hj]
  rw [BitVec.getLsbD_and, BitVec.getLsbD_neg, g i hi, BitVec.getLsbD_ofNat, Nat.testBit_two_pow]
  rcases Nat.lt_trichotomy i t with y | y | y
  · rw [hl i y]
    have : ¬ t = i := by omega
    simp [this]
  · subst y
    have n : ¬ ∃ j, j < i ∧ (BitVec.ofNat 32 m).getLsbD j = true := by
      intro ⟨j, hj, e⟩
      rw [g j (by omega), hl j hj] at e
      exact absurd e (by decide)
    rw [ht, decide_eq_false n]
    simp [hi]
  · have n : ∃ j, j < i ∧ (BitVec.ofNat 32 m).getLsbD j = true := ⟨t, y, by rw [g t h32, ht]⟩
    have : ¬ t = i := by omega
    rw [decide_eq_true n]
    cases m.testBit i <;> simp [hi, this]
theorem pc_cn {m : Nat} {P : Nat → Bool} : ∀ n, (∀ i, i < n → m.testBit i = P i) → pc16 m n = cn P n := by
  intro n
  induction n with
  | zero => intro _; rfl
  | succ n ih =>
    intro h
    show pc16 m n + (if m.testBit n then 1 else 0) = cn P n + (if P n then 1 else 0)
    rw [ih (fun i hi => h i (by omega)), h n (by omega)]
theorem cn_more {P : Nat → Bool} : ∀ d n, (∀ i, n ≤ i → P i = false) → cn P (n + d) = cn P n := by
  intro d
  induction d with
  | zero => intro n _; rfl
  | succ d ih =>
    intro n h
    show cn P (n + d) + (if P (n + d) then 1 else 0) = cn P n
    rw [ih n h, h (n + d) (by omega)]
    rfl
theorem pc_lt {m n : Nat} {P : Nat → Bool} (hn : n ≤ 16) (hm : m < 2 ^ n) (h : ∀ i, i < n → m.testBit i = P i) : pc16 m 16 = cn P n := by
  have e : pc16 m 16 = cn (fun i => m.testBit i) 16 := pc_cn 16 (fun i _ => rfl)
  have e2 := cn_more (P := fun i => m.testBit i) (16 - n) n (fun i hi => Nat.testBit_lt_two_pow (Nat.lt_of_lt_of_le hm (Nat.pow_le_pow_right (by omega) hi)))
  rw [show n + (16 - n) = 16 by omega] at e2
  rw [e, e2, ← pc_cn n h]
  exact (pc_cn n (fun i _ => rfl)).symm
theorem n_or0 (a : Nat) : nI a ||| 0 = nI a := by rw [show (0 : Int32) = nI 0 from rfl, n_or, Nat.or_zero]
theorem m_fc65 {j m c d o : Nat} (x1 x2 x3 x4 x5 x6 x7 x8 e1 e2 e3 : Int32) (hj : j < 16) (hm : m < 127) : M_X0_furnishCell_65 (nI j) (nI m) ((x1, x2, x3, x4, x5, x6, x7, x8, nI d, e1, e2, e3), nI o, nI c) = some (x1, x2, x3, x4, x5, x6, x7, nI (c ||| o), nI (if m = 100 then d ||| 2 ^ j else d), e1, e2, e3) := by
  unfold M_X0_furnishCell_65 M_X0_furnishCell_88
  dsimp only
  by_cases c4 : m = 100
  · rw [if_pos (show nI m = 100 by rw [c4]; rfl), m_bit (by omega), bx, n_or, n_or, if_pos c4]
  · rw [if_neg (show ¬ nI m = 100 from w_ne (b := 100) (by omega) (by omega) c4), n_or, n_or0, if_neg c4]
theorem m_fc42 {j m b c d o : Nat} (x1 x2 x3 x4 x5 x6 x7 e1 e2 e3 : Int32) (hj : j < 16) (hm : m < 127) : M_X0_furnishCell_42 (nI j) (nI m) ((x1, x2, x3, x4, x5, x6, x7, nI c, nI d, e1, e2, e3), nI o, nI b) = some (x1, x2, x3, x4, x5, x6, nI (b ||| o), nI (if m = 99 then c ||| 2 ^ j else c), nI (if m = 100 then d ||| 2 ^ j else d), e1, e2, e3) := by
  unfold M_X0_furnishCell_42
  dsimp only
  by_cases c4 : m = 99
  · rw [if_pos (show nI m = 99 by rw [c4]; rfl), m_bit (by omega), bx, n_or, m_fc65 _ _ _ _ _ _ _ _ _ _ _ hj hm, if_pos c4]
  · rw [if_neg (show ¬ nI m = 99 from w_ne (b := 99) (by omega) (by omega) c4), n_or, show (0 : Int32) = nI 0 from rfl, m_fc65 _ _ _ _ _ _ _ _ _ _ _ hj hm, if_neg c4, Nat.or_zero]
theorem m_fc19 {j m a b c d o : Nat} (x1 x2 x3 x4 x5 x6 e1 e2 e3 : Int32) (hj : j < 16) (hm : m < 127) : M_X0_furnishCell_19 (nI j) (nI m) ((x1, x2, x3, x4, x5, x6, nI b, nI c, nI d, e1, e2, e3), nI o, nI a) = some (x1, x2, x3, x4, x5, nI (a ||| o), nI (if m = 103 then b ||| 2 ^ j else b), nI (if m = 99 then c ||| 2 ^ j else c), nI (if m = 100 then d ||| 2 ^ j else d), e1, e2, e3) := by
  unfold M_X0_furnishCell_19
  dsimp only
  by_cases c4 : m = 103
  · rw [if_pos (show nI m = 103 by rw [c4]; rfl), m_bit (by omega), bx, n_or, m_fc42 _ _ _ _ _ _ _ _ _ _ hj hm, if_pos c4]
  · rw [if_neg (show ¬ nI m = 103 from w_ne (b := 103) (by omega) (by omega) c4), n_or, show (0 : Int32) = nI 0 from rfl, m_fc42 _ _ _ _ _ _ _ _ _ _ hj hm, if_neg c4, Nat.or_zero]
theorem m_furnishCell {j m a b c d : Nat} (x1 x2 x3 x4 x5 e1 e2 e3 : Int32) (hj : j < 16) (hm : m < 127) : M_X0_furnishCell (x1, x2, x3, x4, x5, nI a, nI b, nI c, nI d, e1, e2, e3) (nI j) (nI m) = some (x1, x2, x3, x4, x5, nI (if m = 35 then a ||| 2 ^ j else a), nI (if m = 103 then b ||| 2 ^ j else b), nI (if m = 99 then c ||| 2 ^ j else c), nI (if m = 100 then d ||| 2 ^ j else d), e1, e2, e3) := by
  unfold M_X0_furnishCell
  dsimp only
  by_cases c4 : m = 35
  · rw [if_pos (show nI m = 35 by rw [c4]; rfl), m_bit (by omega), bx, m_fc19 _ _ _ _ _ _ _ _ _ hj hm, if_pos c4]
  · rw [if_neg (show ¬ nI m = 35 from w_ne (b := 35) (by omega) (by omega) c4), show (0 : Int32) = nI 0 from rfl, m_fc19 _ _ _ _ _ _ _ _ _ hj hm, if_neg c4, Nat.or_zero]
theorem mk_step (f : Nat → Nat) (q j : Nat) : (if f j = q then mk (fun c => f c == q) j ||| 2 ^ j else mk (fun c => f c == q) j) = mk (fun c => f c == q) (j + 1) := by
  show _ = (if (f j == q) = true then mk (fun c => f c == q) j ||| 2 ^ j else mk (fun c => f c == q) j)
  by_cases t : f j = q
  · rw [if_pos t, if_pos (beq_iff_eq.mpr t)]
  · rw [if_neg t, if_neg (fun w => t (beq_iff_eq.mp w))]
theorem oI_pos {P : Nat → Bool} {n : Nat} (hn : n < 2 ^ 31) : (0 ≤ oI (fs P n)) ↔ (fs P n ≠ none) := by
  cases e : fs P n with
  | none => exact ⟨fun h => absurd h (by decide +kernel), fun h => absurd rfl h⟩
  | some t =>
    have : t < n := by
      have h : ∃ i, i < n ∧ P i = true := by
        by_cases h : ∃ i, i < n ∧ P i = true
        · exact h
        · rw [fs_none n (fun i hi => by cases g : P i; rfl; exact absurd ⟨i, hi, g⟩ h)] at e
          exact absurd e (by simp)
      obtain ⟨t', a, b, _⟩ := fs_some n h
      rw [a] at e; injection e with e; omega
    exact ⟨fun _ => by simp, fun _ => nI_pos' (by omega)⟩
theorem m_build76 {n : Nat} {f : Nat → Nat} {p : PT} {mo : OT} (hp : PdX n f p mo) (hn : n ≤ 16) (mb : BT) (a b c : Int32) : ∃ s : AR, (∀ i, i < n → s i = nI (f i)) ∧ M_X9_build_76 200 (mb, mo, a, b, c, 0) = some (a, (mb.1, mb.2.1, b, c, 0, mb.2.2.2.2.2.1, s, mb.2.2.2.2.2.2.2.1, mb.2.2.2.2.2.2.2.2.1, mb.2.2.2.2.2.2.2.2.2), (0, mo.2)) := by
  obtain ⟨h40, h1, h2, hf⟩ := id hp
  have st : ∀ fu j (s : AR), j ≤ n → n - j < fu → (∀ i, i < j → s i = nI (f i)) → ∃ s' : AR, (∀ i, i < n → s' i = nI (f i)) ∧ M_X9_build_76 fu ((mb.1, mb.2.1, mb.2.2.1, mb.2.2.2.1, mb.2.2.2.2.1, mb.2.2.2.2.2.1, s, mb.2.2.2.2.2.2.2.1, mb.2.2.2.2.2.2.2.2.1, mb.2.2.2.2.2.2.2.2.2), mo, a, b, c, nI j) = some (a, (mb.1, mb.2.1, b, c, 0, mb.2.2.2.2.2.1, s', mb.2.2.2.2.2.2.2.1, mb.2.2.2.2.2.2.2.2.1, mb.2.2.2.2.2.2.2.2.2), (0, mo.2)) := by
    intro fu
    induction fu with
    | zero => intro j s _ h; omega
    | succ fu ih =>
      intro j s hj hfu hs
      show ∃ s' : AR, _ ∧ M_X9_build_76b _ _ = _
      unfold M_X9_build_76b
      dsimp only
      rw [h2]
      rcases Nat.lt_or_ge j n with q | q
      · rw [if_neg (nI_ge q (by omega)), if_pos (nI_in (c := j) (N := 40) (by omega) (by omega)), if_pos (nI_in (c := j) (N := 16) (by omega) (by omega)), nI_clamp (by omega), ← nI_succ]
        refine ih (j + 1) _ (by omega) (by omega) ?_
        intro i hi
        by_cases t : i = j
        · subst t; rw [upd_at]; exact (hf i q).2.2.2
        · rw [upd_ne _ _ t]; exact hs i (by omega)
      · have e : j = n := by omega
        subst e
        rw [if_pos (nI_le (Nat.le_refl _) (by omega))]
        exact ⟨s, hs, rfl⟩
  exact st 200 0 _ (by omega) (by omega) (fun i h => absurd h (by omega))
theorem m_build22 {n : Nat} {f : Nat → Nat} {p : PT} {mo : OT} (hp : PdX n f p mo) (mb : BT) (P : Nat → Bool) (hP : ∀ i, i < n → P i = !(f i == 35)) : M_X9_build_22 200 (mb, mo, 0, -6, -6, 0) = (if nI (cn P n) = 0 then some (-3, mb, mo) else M_X9_build_76 200 (mb, mo, nI (cn P n), oI (fs P n), oI (ls P n), 0)) := by
  obtain ⟨h40, h1, h2, hf⟩ := id hp
  have st : ∀ fu j, j ≤ n → n - j < fu → M_X9_build_22 fu (mb, mo, nI (cn P j), oI (fs P j), oI (ls P j), nI j) = (if nI (cn P n) = 0 then some (-3, mb, mo) else M_X9_build_76 200 (mb, mo, nI (cn P n), oI (fs P n), oI (ls P n), 0)) := by
    intro fu
    induction fu with
    | zero => intro j _ h; omega
    | succ fu ih =>
      intro j hj hfu
      show M_X9_build_22b _ _ = _
      unfold M_X9_build_22b M_X9_build_56 M_X9_build_60
      dsimp only
      rw [h2]
      rcases Nat.lt_or_ge j n with q | q
      · obtain ⟨f1, f2, f3, f4⟩ := hf j q
        rw [if_neg (nI_ge q (by omega)), if_pos (nI_in (c := j) (N := 40) (by omega) (by omega)), nI_clamp (by omega), f4]
        have key := ih (j + 1) (by omega) (by omega)
        have pj := hP j q
        by_cases t : f j = 35
        · rw [if_pos (show nI (f j) = 35 by rw [t]; rfl), ← nI_succ]
          have pf : P j = false := by rw [pj, t]; rfl
          have c1 : cn P (j + 1) = cn P j := by show cn P j + (if P j then 1 else 0) = _; rw [pf]; rfl
          have c2 : fs P (j + 1) = fs P j := by
            show (match fs P j with | some x => some x | none => if P j then some j else none) = _
            rw [pf]; cases fs P j <;> rfl
          have c3 : ls P (j + 1) = ls P j := by show (if P j then some j else ls P j) = _; rw [pf]; rfl
          rw [c1, c2, c3] at key
          exact key
        · have pt : P j = true := by rw [pj, beq_eq_false_iff_ne.mpr t]; rfl
          have c1 : cn P (j + 1) = cn P j + 1 := by show cn P j + (if P j then 1 else 0) = _; rw [pt]; rfl
          have c3 : ls P (j + 1) = some j := by show (if P j then some j else ls P j) = _; rw [pt]; rfl
          rw [if_neg (show ¬ nI (f j) = 35 from w_ne (b := 35) (by omega) (by omega) t), ← nI_succ, ← nI_succ]
          rw [c1, c3] at key
          by_cases y : fs P j = none
          · have c2 : fs P (j + 1) = some j := by
              show (match fs P j with | some x => some x | none => if P j then some j else none) = _
              rw [y, pt]; rfl
            rw [c2] at key
            rw [if_neg (fun w => (oI_pos (by omega)).mp w y)]
            exact key
          · have c2 : fs P (j + 1) = fs P j := by
              show (match fs P j with | some x => some x | none => if P j then some j else none) = _
              cases e : fs P j
              · exact absurd e y
              · rfl
            rw [c2] at key
            rw [if_pos ((oI_pos (by omega)).mpr y)]
            exact key
      · have e : j = n := by omega
        subst e
        rw [if_pos (nI_le (Nat.le_refl _) (by omega))]
  exact st 200 0 (by omega) (by omega)
theorem m_isAll {n : Nat} {f : Nat → Nat} {p : PT} {mo : OT} (hp : PdX n f p mo) (P : Nat → Bool) (hP : ∀ i, i < n → P i = !(f i == 35)) : M_X2_isAll p 35 = some (if cn P n = 0 then 1 else 0) := by
  obtain ⟨h40, h1, h2, hf⟩ := id hp
  have st : ∀ fu j, j ≤ n → n - j < fu → cn P j = 0 → M_X2_isAll_2 p 35 fu (nI j) = some (if cn P n = 0 then 1 else 0) := by
    intro fu
    induction fu with
    | zero => intro j _ h; omega
    | succ fu ih =>
      intro j hj hfu hc
      show M_X2_isAll_2b _ _ _ _ = _
      unfold M_X2_isAll_2b
      rw [h1]
      rcases Nat.lt_or_ge j n with q | q
      · obtain ⟨f1, f2, f3, f4⟩ := hf j q
        rw [if_neg (nI_ge q (by omega)), m_signAt hp q, bx]
        have pj := hP j q
        by_cases t : f j = 35
        · rw [if_pos (show nI (f j) = 35 by rw [t]; rfl), ← nI_succ]
          have pf : P j = false := by rw [pj, t]; rfl
          exact ih (j + 1) (by omega) (by omega) (by show cn P j + (if P j then 1 else 0) = _; rw [pf, hc]; rfl)
        · have pt : P j = true := by rw [pj, beq_eq_false_iff_ne.mpr t]; rfl
          rw [if_neg (show ¬ nI (f j) = 35 from w_ne (b := 35) (by omega) (by omega) t), if_neg]
          intro z
          have := (cn_0 P n).mp z j q
          rw [pt] at this
          exact absurd this (by decide)
      · have e : j = n := by omega
        subst e
        rw [if_pos (nI_le (Nat.le_refl _) (by omega)), if_pos hc]
  exact st 200 0 (by omega) (by omega) rfl
def oD (o : Option Nat) (d : Int32) : Int32 := match o with
  | some q => nI q
  | none => d
theorem m_furnish49 {R C : Nat} {f : Nat → Nat} {p : PT} (v : VT) (dr er : Nat) (t0 : Int32) (P : Nat → Bool) (h : okD R C) (hP : ∀ i, i < R * C → P i = !(f i == 35)) : M_X0_furnish_49 p 200 ((nI R, nI C, nI (2 ^ (R * C) - 1), nI (mk (fun c => c % C == 0) (R * C)), nI (mk (fun c => c % C == C - 1) (R * C)), nI (sgn R C f 35), nI (sgn R C f 103), nI (sgn R C f 99), nI (sgn R C f 100), nI dr, t0, nI er), v, 0) = some ((nI R, nI C, nI (2 ^ (R * C) - 1), nI (mk (fun c => c % C == 0) (R * C)), nI (mk (fun c => c % C == C - 1) (R * C)), nI (sgn R C f 35), nI (sgn R C f 103), nI (sgn R C f 99), nI (sgn R C f 100), nI dr, oD (ls P (R * C)) t0, nI er), v) := by
  have h16 := h.n16
  have e4 : nI R * nI C = nI (R * C) := (Int32.ofNat_mul R C).symm
  have st : ∀ fu j, j ≤ R * C → R * C - j < fu → M_X0_furnish_49 p fu ((nI R, nI C, nI (2 ^ (R * C) - 1), nI (mk (fun c => c % C == 0) (R * C)), nI (mk (fun c => c % C == C - 1) (R * C)), nI (sgn R C f 35), nI (sgn R C f 103), nI (sgn R C f 99), nI (sgn R C f 100), nI dr, oD (ls P j) t0, nI er), v, nI j) = some ((nI R, nI C, nI (2 ^ (R * C) - 1), nI (mk (fun c => c % C == 0) (R * C)), nI (mk (fun c => c % C == C - 1) (R * C)), nI (sgn R C f 35), nI (sgn R C f 103), nI (sgn R C f 99), nI (sgn R C f 100), nI dr, oD (ls P (R * C)) t0, nI er), v) := by
    intro fu
    induction fu with
    | zero => intro j _ h; omega
    | succ fu ih =>
      intro j hj hfu
      show M_X0_furnish_49b _ _ _ = _
      unfold M_X0_furnish_49b M_X0_furnish_73 M_X0_cells
      dsimp only
      rw [bx, e4]
      rcases Nat.lt_or_ge j (R * C) with q | q
      · rw [if_neg (nI_ge q (by omega)), m_hasS 35 h q, bx]
        have key := ih (j + 1) (by omega) (by omega)
        have pj := hP j q
        by_cases t : f j = 35
        · have pf : P j = false := by rw [pj, t]; rfl
          have c3 : ls P (j + 1) = ls P j := by show (if P j then some j else ls P j) = _; rw [pf]; rfl
          rw [c3] at key
          rw [if_pos t, if_neg k10, ← nI_succ]
          exact key
        · have pt : P j = true := by rw [pj, beq_eq_false_iff_ne.mpr t]; rfl
          have c3 : ls P (j + 1) = some j := by show (if P j then some j else ls P j) = _; rw [pt]; rfl
          rw [c3] at key
          rw [if_neg t, if_pos k00, ← nI_succ]
          exact key
      · have e : j = R * C := by omega
        rw [e, if_pos (nI_le (Nat.le_refl _) (by omega))]
  exact st 200 0 (by omega) (by omega)
theorem m_furnish {R C : Nat} {sg f : Nat → Nat} {p : PT} {mo : OT} (v : VT) (dr th er : Nat) (P : Nat → Bool) (h : okD R C) (hp : PdX (R * C) f p mo) (hP : ∀ i, i < R * C → P i = !(f i == 35)) (hs : ∃ i, i < R * C ∧ P i = true) : ∃ d t, fs P (R * C) = some d ∧ ls P (R * C) = some t ∧ M_X0_furnish (hOf R C sg dr th er) v p = some (hOf R C f d t er, (0, v.2.1, v.2.2.1, v.2.2.2)) := by
  have h16 := h.n16
  obtain ⟨h40, h1, h2, hf⟩ := id hp
  have e4 : nI R * nI C = nI (R * C) := (Int32.ofNat_mul R C).symm
  obtain ⟨d, d1, d2, d3, d4⟩ := fs_some (R * C) hs
  obtain ⟨t, t1, t2, t3⟩ := ls_some (R * C) hs
  refine ⟨d, t, d1, t1, ?_⟩
  have st : ∀ fu j, j ≤ R * C → R * C - j < fu → M_X0_furnish_6 p fu ((nI R, nI C, nI (2 ^ (R * C) - 1), nI (mk (fun c => c % C == 0) (R * C)), nI (mk (fun c => c % C == C - 1) (R * C)), nI (mk (fun c => f c == 35) j), nI (mk (fun c => f c == 103) j), nI (mk (fun c => f c == 99) j), nI (mk (fun c => f c == 100) j), nI dr, nI th, nI er), (0, v.2.1, v.2.2.1, v.2.2.2), nI j) = some (hOf R C f d t er, (0, v.2.1, v.2.2.1, v.2.2.2)) := by
    intro fu
    induction fu with
    | zero => intro j _ h; omega
    | succ fu ih =>
      intro j hj hfu
      show M_X0_furnish_6b _ _ _ = _
      unfold M_X0_furnish_6b M_X0_cells M_X0_open
      dsimp only
      rw [bx, e4]
      rcases Nat.lt_or_ge j (R * C) with q | q
      · obtain ⟨f1, f2, f3, f4⟩ := hf j q
        rw [if_neg (nI_ge q (by omega)), m_signAt hp q, bx, m_furnishCell _ _ _ _ _ _ _ _ (by omega) (by omega), bx, mk_step, mk_step, mk_step, mk_step, ← nI_succ]
        exact ih (j + 1) (by omega) (by omega)
      · have e : j = R * C := by omega
        have bt : ∀ i, i < R * C → (andn (2 ^ (R * C) - 1) (sgn R C f 35)).testBit i = P i := by
          intro i hi
          rw [andn_bit, Nat.testBit_two_pow_sub_one, sgn_bit 35 hi, hP i hi]
          simp [hi]
        have lb := low_bit (t := d) (by omega) ((bt d d2).trans d3) (fun i hi => (bt i (by omega)).trans (d4 i hi))
        rw [e, if_pos (nI_le (Nat.le_refl _) (by omega)), bx, bx]
        show (M_X8_cellOf ((nI (2 ^ (R * C) - 1) &&& (nI (sgn R C f 35) ^^^ -1)) &&& -(nI (2 ^ (R * C) - 1) &&& (nI (sgn R C f 35) ^^^ -1)))).bind _ = _
        rw [n_andn, lb, m_cellOf d (by omega), bx]
        have k := m_furnish49 (p := p) (0, v.2.1, v.2.2.1, v.2.2.2) d er (nI th) P h hP
        rw [t1] at k
        exact k
  unfold M_X0_furnish M_X0_clearCells M_X4_clear
  rw [bx, bx]
  exact st 200 0 (by omega) (by omega)
theorem op_build {p : PT} {mo : OT} {h : HT} {v : VT} {mb : BT} (rp : RPd p mo) (r : RH h v mb) : ∃ z p' h' v' mb' mo', M_X8_build p h v = some (z, p', h', v') ∧ M_X9_build mb mo = some (z, mb', mo') ∧ RPd p' mo' ∧ RH h' v' mb' := by
  have r0 := r
  have rp0 := rp
  obtain ⟨R, C, sg, dr, th, er, k, wc, wl, wd, ho, ⟨hx1, hx2, hx3⟩, hr⟩ := r
  obtain ⟨n, f, hp⟩ := rp
  have hp : PdX n f p mo := hp
  have hn := hp.1
  subst hx1
  have h16 := ho.1.n16
  unfold M_X8_build M_X9_build M_X9_fault
  rw [m_cellsX, bx, m_houseFault hp h16, bx]
  rw [show M_X9_in (0 : Int32).toInt64 (0 : Int64) (1 : Int64) = some 1 by decide +kernel, bx, if_neg k10, fwM hp (m_cellsM hr) h16, bx]
  have bad : ∀ j : Nat, j < 2 ^ 31 → ∃ z p' h' v' mb' mo', (if nI j = -6 then ((M_X2_isAll p (35 : Int32)).bind fun z28 => if z28 = 0 then ((M_X0_furnish (hOf R C sg dr th er) v p).bind fun z45 => (M_X2_clear p).bind fun z52 => (M_X0_open z45.1).bind fun z60 => (M_J6_bitCount_0f7a4 z60).bind fun z63 => some (z63, z52.2, z45.1, z45.2)) else (some ((-3 : Int32), p, hOf R C sg dr th er, v))) else some (-5, p, hOf R C sg dr th er, v)) = some (z, p', h', v') ∧ (if nI j < 0 then M_X9_build_22 200 (mb, mo, 0, -6, -6, 0) else some (-5, mb, mo)) = some (z, mb', mo') ∧ RPd p' mo' ∧ RH h' v' mb' := by
    intro j hj
    have ne : ¬ nI j = (-6 : Int32) := fun w => absurd (show nI j < 0 by rw [w]; decide +kernel) (nI_pos hj)
    rw [if_neg ne, if_neg (nI_pos hj)]
    exact ⟨_, _, _, _, _, _, rfl, rfl, rp0, r0⟩
  rcases fwv_cs (fun i => decide (i < R * C) && isS (f i)) n 0 with ⟨a, b⟩ | ⟨j, j1, j2, j3, j4⟩
  · rw [a, if_pos rfl]
    by_cases y : R * C ≤ n
    · have en : n = R * C := by
        rcases Nat.lt_or_ge (R * C) n with q | q
        · have := b (R * C) (by omega) (by omega)
          simp at this
        · omega
      subst en
      have hsg : ∀ i, i < R * C → OKs (f i) := by
        intro i hi
        have := b i (by omega) (by omega)
        unfold isS at this
        unfold OKs
        simp [hi] at this
        omega
      rw [if_pos (nI_le (Nat.le_refl _) (by omega)), if_pos rfl, if_pos (show (-6 : Int32) < 0 by decide +kernel), m_isAll hp (fun i => !(f i == 35)) (fun i _ => rfl), bx, m_build22 hp mb (fun i => !(f i == 35)) (fun i _ => rfl)]
      have cl := cn_le (fun i => !(f i == 35)) (R * C)
      by_cases c0 : cn (fun i => !(f i == 35)) (R * C) = 0
      · rw [c0, if_pos rfl, if_neg k10, if_pos (show nI 0 = 0 from rfl)]
        exact ⟨_, _, _, _, _, _, rfl, rfl, rp0, r0⟩
      · have hs : ∃ i, i < R * C ∧ (!(f i == 35)) = true := by
          by_cases hs : ∃ i, i < R * C ∧ (!(f i == 35)) = true
          · exact hs
          · exact absurd ((cn_0 _ _).mpr (fun i hi => by cases g : (!(f i == 35)); rfl; exact absurd ⟨i, hi, g⟩ hs)) c0
        obtain ⟨d, t, e1, e2, e3⟩ := m_furnish (sg := sg) v dr th er (fun i => !(f i == 35)) ho.1 hp (fun i _ => rfl) hs
        obtain ⟨d', d1, d2, d3, d4⟩ := fs_some (P := fun i => !(f i == 35)) (R * C) hs
        obtain ⟨t', t1, t2, t3⟩ := ls_some (P := fun i => !(f i == 35)) (R * C) hs
        have ed : d' = d := by rw [e1] at d1; injection d1 with d1; exact d1.symm
        have et : t' = t := by rw [e2] at t1; injection t1 with t1; exact t1.symm
        subst ed et
        obtain ⟨s, s1, s2⟩ := m_build76 hp h16 mb (nI (cn (fun i => !(f i == 35)) (R * C))) (oI (some d')) (oI (some t'))
        have ob : andn (2 ^ (R * C) - 1) (sgn R C f 35) < 2 ^ (R * C) := andn_lt (Nat.sub_lt (Nat.two_pow_pos _) (by omega))
        have bt : ∀ i, i < R * C → (andn (2 ^ (R * C) - 1) (sgn R C f 35)).testBit i = !(f i == 35) := by
          intro i hi
          rw [andn_bit, Nat.testBit_two_pow_sub_one, sgn_bit 35 hi]
          simp [hi]
        rw [if_neg c0, if_pos k00, e3, bx, if_neg (show ¬ nI (cn (fun i => !(f i == 35)) (R * C)) = 0 from w_ne (b := 0) (by omega) (by omega) c0), e1, e2, s2]
        unfold M_X2_clear
        rw [bx]
        dsimp only
        rw [m_open, bx, m_bitCount (lt16 ho.1 ob), bx, pc_lt h16 ob bt]
        refine ⟨_, _, _, _, _, _, rfl, rfl, ⟨0, f, by omega, rfl, rfl, fun i hi => absurd hi (by omega)⟩, R, C, f, d', t', er, 0, wc, wl, wd, ⟨ho.1, hsg, ⟨d2, by simpa using d3⟩, ⟨t2, by simpa using t3⟩, ho.2.2.2.2.1, by omega, fun w hw => absurd hw (by omega)⟩, ⟨rfl, rfl, fun w hw => absurd hw (by omega)⟩, hr.1, hr.2.1, rfl, rfl, rfl, hr.2.2.2.2.2.1, s1, fun w hw => absurd hw (by omega)⟩
    · rw [if_neg (nI_ge (by omega) (by omega))]
      exact bad n (by omega)
  · have nj : ¬ nI j = (-6 : Int32) := fun w => absurd (show nI j < 0 by rw [w]; decide +kernel) (nI_pos (by omega))
    rw [j3]
    rw [if_neg (c := nI j = -6) (t := if nI (R * C) ≤ nI n then (-6 : Int32) else nI n) (e := nI j) nj]
    exact bad j (by omega)
