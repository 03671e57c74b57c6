theorem man_comm (C a b : Nat) : man C a b = man C b a := by unfold man; omega
/-- a watcher spoils a cell -/
def bad (R C : Nat) (sg : Nat → Nat) (er cw w d i : Nat) : Bool := ((sgt R C sg w cw).testBit i && (sg i == 103 || sg i == 100)) || (decide (man C cw i ≤ er) && sg i == 99) || (d == 1 && decide (man C cw i ≤ 1))
theorem spo_bit {R C cw w d er i : Nat} {sg : Nat → Nat} (h : okD R C) (hc : cw < R * C) (he : er ≤ 6) (hd : d < 2) (hi : i < R * C) : (spo R C sg er cw w d).testBit i = bad R C sg er cw w d i := by
  unfold spo bad
  rw [arnd_man h hc er he, arnd_man h hc 1 (by omega)]
  obtain rfl | rfl : d = 0 ∨ d = 1 := by omega
  · dsimp only
    rw [if_pos rfl]
    unfold sgn
    simp only [Nat.testBit_or, Nat.testBit_and, mk_bit, hi, decide_true, Bool.true_and]
    simp
  · dsimp only
    rw [if_neg (by omega)]
    unfold sgn
    simp only [Nat.testBit_or, Nat.testBit_and, mk_bit, hi, decide_true, Bool.true_and]
    simp
def bI (b : Bool) : Int32 := if b then 1 else 0
theorem m_ib130 (mb : BT) (x1 : Int32) (rc : Int32 × Int32 → Option Int32) (B S : Bool) (m : Int32) : M_X9_isBare_130 mb x1 rc (bI B, m, bI S) = rc (bI (B && !S), m + 1) := by
  unfold M_X9_isBare_130 M_X9_isBare_145 M_X9_isBare_146
  dsimp only
  cases B
  · rw [if_pos (show bI false = 0 from rfl)]; rfl
  · rw [if_neg (show ¬ bI true = 0 by decide +kernel)]
    cases S
    · rw [if_pos (show bI false = 0 from rfl)]; rfl
    · rw [if_neg (show ¬ bI true = 0 by decide +kernel)]; rfl
theorem m_ib125 (mb : BT) (x1 : Int32) (rc : Int32 × Int32 → Option Int32) (B : Bool) (m : Int32) : M_X9_isBare_125 mb x1 rc (bI B, m) = rc (bI false, m + 1) := by
  unfold M_X9_isBare_125
  have := m_ib130 mb x1 rc B true m
  rw [Bool.not_true, Bool.and_false] at this
  exact this
theorem m_ib129 (mb : BT) (x1 : Int32) (rc : Int32 × Int32 → Option Int32) (B : Bool) (m : Int32) : M_X9_isBare_129 mb x1 rc (bI B, m) = rc (bI B, m + 1) := by
  unfold M_X9_isBare_129
  have := m_ib130 mb x1 rc B false m
  rw [Bool.not_false, Bool.and_true] at this
  exact this
theorem m_ib42 {R C c m : Nat} {sg : Nat → Nat} {dr th er k : Nat} {wc wl wd : Nat → Nat} {mb : BT} (rc : Int32 × Int32 → Option Int32) (B S : Bool) (ho : okS R C sg dr th er k wc wl wd) (hr : rM R C sg dr th er k wc wl wd mb) (hc : c < R * C) (hm : m < k) (hS : S = (sgt R C sg (wl m) (wc m)).testBit c) : M_X9_isBare_42 mb (nI c) rc (bI B, nI m, bI S) = rc (bI (B && !bad R C sg er (wc m) (wl m) (wd m) c), nI (m + 1)) := by
  have h16 := ho.1.n16
  obtain ⟨w1, w2, w3, w4⟩ := ho.2.2.2.2.2.2 m hm
  have hk := ho.2.2.2.2.2.1
  have her := ho.2.2.2.2.1
  obtain ⟨q1, q2, q3⟩ := hr.2.2.2.2.2.2.2 m hm
  have hs : sg c < 2 ^ 31 := by rcases ho.2.1 c hc with z | z | z | z | z <;> omega
  have e103 : (nI (sg c) = (103 : Int32)) = (sg c = 103) := propext (nI_eq (b := 103) hs (by omega))
  have e100 : (nI (sg c) = (100 : Int32)) = (sg c = 100) := propext (nI_eq (b := 100) hs (by omega))
  have e99 : (nI (sg c) = (99 : Int32)) = (sg c = 99) := propext (nI_eq (b := 99) hs (by omega))
  have hman : man C c (wc m) < 2 ^ 31 := by
    have a1 := Nat.div_le_self c C
    have a2 := Nat.div_le_self (wc m) C
    have a3 := Nat.mod_le c C
    have a4 := Nat.mod_le (wc m) C
    have gen : ∀ a b c d : Nat, a ≤ 16 → b ≤ 16 → c ≤ 16 → d ≤ 16 → (a - b) + (b - a) + ((c - d) + (d - c)) < 2 ^ 31 := by omega
    exact gen _ _ _ _ (by omega) (by omega) (by omega) (by omega)
  have er1 : mb.2.2.2.2.2.1 = nI er := hr.2.2.2.2.2.1
  have p100 : M_X9_isBare_100 mb (nI c) rc (bI B, nI m) = rc (bI (B && !(wd m == 1 && decide (man C (wc m) c ≤ 1))), nI (m + 1)) := by
    unfold M_X9_isBare_100
    dsimp only
    rw [if_pos (nI_in (c := m) (N := 4) (by omega) (by omega)), if_pos (nI_in (c := m) (N := 4) (by omega) (by omega)), nI_clamp (n := m) (by omega), q3, q1, m_apart ho hr hc w1, Option.bind_some, m_ib129, m_ib125, nI_succ]
    obtain z | z : wd m = 0 ∨ wd m = 1 := by omega
    · rw [z, if_neg (show ¬ nI 0 = 1 by decide +kernel)]; simp
    · rw [z, if_pos (show nI 1 = 1 from rfl)]
      by_cases y : man C c (wc m) ≤ 1
      · rw [if_neg (show ¬ (1 : Int32) < nI (man C c (wc m)) from nI_nlt (a := 1) (b := man C c (wc m)) y (by omega)), man_comm C (wc m) c]; simp [y]
      · rw [if_pos (show (1 : Int32) < nI (man C c (wc m)) from nI_lt (a := 1) (by omega) hman), man_comm C (wc m) c]; simp [y]
  have p71 : M_X9_isBare_71 mb (nI c) rc (bI B, nI m) = rc (bI (B && !((decide (man C (wc m) c ≤ er) && sg c == 99) || (wd m == 1 && decide (man C (wc m) c ≤ 1)))), nI (m + 1)) := by
    unfold M_X9_isBare_71
    dsimp only
    rw [if_pos (nI_in (c := c) (N := 16) (by omega) (by omega)), if_pos (nI_in (c := m) (N := 4) (by omega) (by omega)), nI_clamp (n := c) (by omega), nI_clamp (n := m) (by omega), hr.2.2.2.2.2.2.1 c hc, q1, m_apart ho hr hc w1, Option.bind_some, m_ib125, p100, er1]
    simp only [e99]
    by_cases z : sg c = 99
    · rw [if_pos z]
      by_cases y : man C c (wc m) ≤ er
      · rw [if_pos (nI_le (a := man C c (wc m)) (b := er) y (by omega)), man_comm C (wc m) c, nI_succ]; simp [y, z]
      · rw [if_neg (nI_ge (a := er) (b := man C c (wc m)) (by omega) hman), man_comm C (wc m) c]; simp [y]
    · rw [if_neg z]; simp [beq_eq_false_iff_ne.mpr z]
  unfold M_X9_isBare_42
  dsimp only
  rw [p71, if_pos (nI_in (c := c) (N := 16) (by omega) (by omega)), if_pos (nI_in (c := c) (N := 16) (by omega) (by omega)), nI_clamp (n := c) (by omega), hr.2.2.2.2.2.2.1 c hc, m_ib125]
  simp only [e103, e100]
  unfold bad
  rw [← hS]
  cases S
  · rw [if_pos (show bI false = 0 from rfl)]; simp
  · rw [if_neg (show ¬ bI true = 0 by decide +kernel), nI_succ]
    by_cases z : sg c = 103
    · rw [if_pos z]; simp [z]
    · rw [if_neg z]
      by_cases y : sg c = 100
      · rw [if_pos y]; simp [y]
      · rw [if_neg y]; simp [beq_eq_false_iff_ne.mpr z, beq_eq_false_iff_ne.mpr y]
