/-! The walk on the pad, judged on both sides -/
def wv (m : Nat) : Nat := if m = 110 then 0 else if m = 101 then 1 else if m = 115 then 2 else if m = 119 then 3 else 4
theorem wv5 (m : Nat) : wv m < 5 := by unfold wv; repeat' split; all_goals omega
theorem ixw : ∀ m, m < 127 → isW m = true → M_J0_indexOf_0f7a4 1 (nI m) = some (nI (wv m)) := by decide +kernel
theorem wyw : ∀ m, m < 127 → M_X9_wayOf (nI m) = some (nI (wv m)) := by decide +kernel
theorem m_stepAt {n i : Nat} {f : Nat → Nat} {p : PT} {mo : OT} (hp : PdX n f p mo) (hi : i < n) (hw : isW (f i) = true) : M_X2_stepAt p (nI i) = some (nI (wv (f i))) := by
  obtain ⟨f1, f2, f3, f4⟩ := hp.2.2.2 i hi
  unfold M_X2_stepAt
  rw [m_signAt hp hi, bx, ixw _ (by omega) hw, bx]
/-- what is noted so far, on both sides -/
def DR (k i : Nat) (d : DT) (g : GT) : Prop := d.1 = -6 ∧ g.1 = -6 ∧ (d.2.1 = g.2.1 ∧ (d.2.1 = -6 ∨ ∃ j, j < i ∧ d.2.1 = nI j)) ∧ d.2.2.1 = g.2.2.1 ∧ d.2.2.2.1 = g.2.2.2.1 ∧ ∃ a b, a ≤ i ∧ b ≤ i ∧ d.2.2.2.2.1 = nI a ∧ g.2.2.2.2.1 = nI a ∧ d.2.2.2.2.2.1 = nI b ∧ g.2.2.2.2.2 = nI b
theorem m6neg : (-6 : Int32) < 0 := by decide +kernel
theorem m6ne {j : Nat} (hj : j < 2 ^ 31) : ¬ nI j = (-6 : Int32) := fun w => absurd (show nI j < 0 by rw [w]; decide +kernel) (nI_pos hj)
theorem DR_up {k i : Nat} {d : DT} {g : GT} (h : DR k i d g) : DR k (i + 1) d g := by
  obtain ⟨a, b, ⟨c, e⟩, f, g', x, y, h1, h2, h3⟩ := h
  refine ⟨a, b, ⟨c, ?_⟩, f, g', x, y, by omega, by omega, h3⟩
  rcases e with e | ⟨j, j1, j2⟩
  · exact Or.inl e
  · exact Or.inr ⟨j, by omega, j2⟩
/-- the second half of what is noted: counts -/
theorem m_note2 {R C now b i : Nat} {s : Bool} {sg : Nat → Nat} {dr th er k : Nat} {wc wl wd : Nat → Nat} {v : VT} {r : RT} {mn : NT} {mb : BT} {mo : OT} {d : DT} {g : GT} (rc : NT × GT × Int32 → Option (NT × GT)) (x : Int32) (ho : okS R C sg dr th er k wc wl wd) (hx2 : v.1 = nI k) (hr : rM R C sg dr th er k wc wl wd mb) (hw : WR R C sg er k wc wl wd now b s r mn) (hz : ∃ w, w < k ∧ x = nI w) (hi : i < 40) (hd : d.1 = -6 ∧ g.1 = -6 ∧ (d.2.1 = g.2.1 ∧ (d.2.1 = -6 ∨ ∃ j, j < i + 1 ∧ d.2.1 = nI j)) ∧ d.2.2.1 = g.2.2.1 ∧ d.2.2.2.1 = g.2.2.2.1 ∧ ∃ a b, a ≤ i ∧ b ≤ i ∧ d.2.2.2.2.1 = nI a ∧ g.2.2.2.2.1 = nI a ∧ d.2.2.2.2.2.1 = nI b ∧ g.2.2.2.2.2 = nI b) : ∃ d' g', M_X3_note_48 (hOf R C sg dr th er) v r (nI i) d = some d' ∧ M_X9_goWalk_116 mb mo rc (mn, g, nI i, x) = rc (mn, g', nI (i + 1)) ∧ DR k (i + 1) d' g' := by
  obtain ⟨w, w1, rfl⟩ := hz
  have h4 := ho.2.2.2.2.2.1
  obtain ⟨d1, g1, ⟨e1, e2⟩, e3, e4, x, y, x1, y1, x2, x3, y2, y3⟩ := hd
  obtain ⟨z, s1, s2, s3⟩ := m_shown false ho hx2 hr hw
  unfold M_X3_note_48 M_X9_goWalk_116 M_X9_goWalk_130 M_X9_goWalk_155 M_X9_goWalk_156 M_X9_goWalk_160
  dsimp only
  rw [show M_X6_firstShownTo r (hOf R C sg dr th er) v (1 : Int32) = some z from s1, show M_X9_shownTo mb mn (0 : Int32) = some z from s2, bx, bx, if_neg (nI_pos (by omega)), if_neg (nI_pos (by omega)), x2, x3, y2, y3, ← nI_succ, ← nI_succ]
  rcases s3 with s3 | ⟨u, u1, s3⟩
  · subst s3
    rw [if_pos rfl, if_neg (show ¬ (0 : Int32) ≤ -6 by decide +kernel)]
    refine ⟨_, _, rfl, rfl, d1, g1, ⟨e1, e2⟩, e3, e4, x + 1, y + 1, by omega, by omega, rfl, ?_, ?_, ?_⟩
    · exact (nI_succ x).symm
    · exact (nI_succ y).symm
    · exact (nI_succ y).symm
  · subst s3
    rw [if_neg (m6ne (by omega)), if_pos (nI_pos' (by omega))]
    refine ⟨_, _, rfl, rfl, d1, g1, ⟨e1, e2⟩, e3, e4, x + 1, y, by omega, by omega, rfl, ?_, rfl, ?_⟩
    · exact (nI_succ x).symm
    · show nI y + 0 = nI y
      exact nI_add y 0
