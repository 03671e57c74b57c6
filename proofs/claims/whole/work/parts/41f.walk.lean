/-! The walk on the pad, judged on both sides -/
def wv (m : Nat) : Nat := if m = 110 then 0 else if m = 101 then 1 else if m = 115 then 2 else if m = 119 then 3 else 4
theorem wv5 (m : Nat) : wv m < 5 := by
  unfold wv
  repeat' split
  all_goals omega
theorem ixw : ∀ m, m < 127 → isW m = true → M_J0_indexOf_0f7a4 1 (nI m) = some (nI (wv m)) := by decide +kernel
theorem wyw : ∀ m, m < 127 → M_X9_wayOf (nI m) = some (nI (wv m)) := by decide +kernel
theorem m_stepAt {n i : Nat} {f : Nat → Nat} {p : PT} {mo : OT} (hp : PdX n f p mo) (hi : i < n) (hw : isW (f i) = true) : M_X2_stepAt p (nI i) = some (nI (wv (f i))) := by
  obtain ⟨f1, f2, f3, f4⟩ := hp.2.2.2 i hi
  unfold M_X2_stepAt
  rw [m_signAt hp hi, bx, ixw _ (by omega) hw, bx]
/-- what is noted so far, on both sides -/
def DR (k i : Nat) (d : DT) (g : GT) : Prop := d.1 = -6 ∧ g.1 = -6 ∧ (d.2.1 = g.2.1 ∧ (d.2.1 = -6 ∨ ∃ j, j < i ∧ d.2.1 = nI j)) ∧ d.2.2.1 = g.2.2.1 ∧ d.2.2.2.1 = g.2.2.2.1 ∧ ∃ a b, a ≤ i ∧ b ≤ i ∧ d.2.2.2.2.1 = nI a ∧ g.2.2.2.2.1 = nI a ∧ d.2.2.2.2.2.1 = nI b ∧ g.2.2.2.2.2 = nI b
theorem m6neg : (-6 : Int32) < 0 := by decide +kernel
theorem m6ne {j : Nat} (hj : j < 2 ^ 31) : ¬ nI j = (-6 : Int32) := fun w => absurd (show nI j < 0 by rw [w]; decide +kernel) (nI_pos hj)
theorem DR_up {k i : Nat} {d : DT} {g : GT} (h : DR k i d g) : DR k (i + 1) d g := by
  obtain ⟨a, b, ⟨c, e⟩, f, g', x, y, h1, h2, h3⟩ := h
  refine ⟨a, b, ⟨c, ?_⟩, f, g', x, y, by omega, by omega, h3⟩
  rcases e with e | ⟨j, j1, j2⟩
  · exact Or.inl e
  · exact Or.inr ⟨j, by omega, j2⟩
/-- to whom it shows, there is a reason -/
theorem m_shown_ne {R C now b u : Nat} {s : Bool} {sg : Nat → Nat} {dr th er k : Nat} {wc wl wd : Nat → Nat} {v : VT} {r : RT} {mn : NT} {mb : BT} (ho : okS R C sg dr th er k wc wl wd) (hx2 : v.1 = nI k) (hr : rM R C sg dr th er k wc wl wd mb) (hw : WR R C sg er k wc wl wd now b s r mn) (hu : u < k) (h : M_X9_shownTo mb mn (1 : Int32) = some (nI u)) : ∃ q, M_X9_why mb mn (nI u) (1 : Int32) = some q ∧ ¬ q ≤ 0 := by
  have h4 := ho.2.2.2.2.2.1
  have st : ∀ fu j, j ≤ k → k - j < fu → M_X9_shownTo_2 mb mn (1 : Int32) fu (nI j) = some (nI u) → ∃ q, M_X9_why mb mn (nI u) (1 : Int32) = some q ∧ ¬ q ≤ 0 := by
    intro fu
    induction fu with
    | zero => intro j _ h; omega
    | succ fu ih =>
      intro j hj hfu
      show M_X9_shownTo_2b _ _ _ _ _ = _ → _
      unfold M_X9_shownTo_2b
      rw [hr.2.2.2.2.1]
      rcases Nat.lt_or_ge j k with q | q
      · have hwh := m_whyM true ho hr hw q
        rw [if_neg (nI_ge q (by omega)), show M_X9_why mb mn (nI j) (1 : Int32) = _ from hwh, bx]
        generalize (if rv R C sg er (wc j) (wl j) (wd j) now b s true = 0 then (-6 : Int32) else nI (rv R C sg er (wc j) (wl j) (wd j) now b s true)) = x at hwh ⊢
        by_cases z : x ≤ 0
        · rw [if_pos z, ← nI_succ]
          exact ih (j + 1) (by omega) (by omega)
        · rw [if_neg z]
          intro e
          injection e with e
          rw [← e]
          exact ⟨x, hwh, z⟩
      · have e : j = k := by omega
        rw [e, if_pos (nI_le (Nat.le_refl _) (by omega))]
        intro e
        injection e with e
        exact absurd e.symm (m6ne (by omega))
  exact st 200 0 (by omega) (by omega) h
/-- the second half of what is noted: counts -/
theorem m_note2 {R C now b i : Nat} {s : Bool} {sg : Nat → Nat} {dr th er k : Nat} {wc wl wd : Nat → Nat} {v : VT} {r : RT} {mn : NT} {mb : BT} {mo : OT} {d : DT} {g : GT} (rc : NT × GT × Int32 → Option (NT × GT)) (x : Int32) (ho : okS R C sg dr th er k wc wl wd) (hx2 : v.1 = nI k) (hr : rM R C sg dr th er k wc wl wd mb) (hw : WR R C sg er k wc wl wd now b s r mn) (hz : ∃ w, w < k ∧ x = nI w) (hi : i < 40) (hd : d.1 = -6 ∧ g.1 = -6 ∧ (d.2.1 = g.2.1 ∧ (d.2.1 = -6 ∨ ∃ j, j < i + 1 ∧ d.2.1 = nI j)) ∧ d.2.2.1 = g.2.2.1 ∧ d.2.2.2.1 = g.2.2.2.1 ∧ ∃ a b, a ≤ i ∧ b ≤ i ∧ d.2.2.2.2.1 = nI a ∧ g.2.2.2.2.1 = nI a ∧ d.2.2.2.2.2.1 = nI b ∧ g.2.2.2.2.2 = nI b) : ∃ d' g', M_X3_note_48 (hOf R C sg dr th er) v r (nI i) d = some d' ∧ M_X9_goWalk_116 mb mo rc (mn, g, nI i, x) = rc (mn, g', nI (i + 1)) ∧ DR k (i + 1) d' g' := by
  obtain ⟨w, w1, rfl⟩ := hz
  have h4 := ho.2.2.2.2.2.1
  obtain ⟨d1, g1, ⟨e1, e2⟩, e3, e4, x, y, x1, y1, x2, x3, y2, y3⟩ := hd
  obtain ⟨z, s1, s2, s3⟩ := m_shown false ho hx2 hr hw
  unfold M_X3_note_48 M_X9_goWalk_116 M_X9_goWalk_130 M_X9_goWalk_155 M_X9_goWalk_156 M_X9_goWalk_160
  dsimp only
  rw [show M_X6_firstShownTo r (hOf R C sg dr th er) v (1 : Int32) = some z from s1, show M_X9_shownTo mb mn (0 : Int32) = some z from s2]
  simp only [bx]
  rw [if_neg (nI_pos (by omega)), if_neg (nI_pos (by omega)), x2, x3, y2, y3, ← nI_succ, ← nI_succ, ← nI_succ]
  rcases s3 with s3 | ⟨u, u1, s3⟩
  · subst s3
    rw [if_pos rfl, if_neg (show ¬ (0 : Int32) ≤ -6 by decide +kernel)]
    refine ⟨_, _, rfl, rfl, d1, g1, ⟨e1, e2⟩, e3, e4, x + 1, y + 1, by omega, by omega, rfl, rfl, rfl, rfl⟩
  · subst s3
    rw [if_neg (m6ne (by omega)), if_pos (nI_pos' (by omega))]
    refine ⟨_, _, rfl, rfl, d1, g1, ⟨e1, e2⟩, e3, e4, x + 1, y, by omega, by omega, rfl, rfl, rfl, ?_⟩
    · show nI y + 0 = nI y
      exact nI_add y 0
theorem m_note {R C now b i : Nat} {s : Bool} {sg : Nat → Nat} {dr th er k : Nat} {wc wl wd : Nat → Nat} {v : VT} {r : RT} {mn : NT} {mb : BT} {mo : OT} {d : DT} {g : GT} (rc : NT × GT × Int32 → Option (NT × GT)) (ho : okS R C sg dr th er k wc wl wd) (hx2 : v.1 = nI k) (hr : rM R C sg dr th er k wc wl wd mb) (hw : WR R C sg er k wc wl wd now b s r mn) (hi : i < 40) (hd : DR k i d g) : ∃ d' g', M_X3_note d (hOf R C sg dr th er) v r (nI i) = some d' ∧ ((M_X9_shownTo mb mn (1 : Int32)).bind fun z81 => if z81 < 0 then (M_X9_goWalk_116 mb mo rc (mn, g, nI i, z81)) else (if 0 ≤ g.2.1 then (M_X9_goWalk_116 mb mo rc (mn, g, nI i, z81)) else ((M_X9_why mb mn z81 (1 : Int32)).bind fun z110 => M_X9_goWalk_116 mb mo rc (mn, (g.1, nI i, z81, z110, g.2.2.2.2.1, g.2.2.2.2.2), nI i, z81)))) = rc (mn, g', nI (i + 1)) ∧ DR k (i + 1) d' g' := by
  have h4 := ho.2.2.2.2.2.1
  obtain ⟨z, s1, s2, s3⟩ := m_shown true ho hx2 hr hw
  unfold M_X3_note
  rw [show M_X6_firstShownTo r (hOf R C sg dr th er) v (0 : Int32) = some z from s1, show M_X9_shownTo mb mn (1 : Int32) = some z from s2]
  simp only [bx]
  obtain ⟨d1, g1, ⟨e1, e2⟩, e3, e4, x, y, x1, y1, x2, x3, y2, y3⟩ := id hd
  rcases s3 with s3 | ⟨u, u1, s3⟩
  · subst s3
    rw [if_pos rfl, if_pos m6neg]
    unfold M_X9_goWalk_116 M_X9_goWalk_130 M_X9_goWalk_155 M_X9_goWalk_156 M_X9_goWalk_160
    dsimp only
    rw [if_pos m6neg, if_pos m6neg, x3, y3, ← nI_succ]
    refine ⟨_, _, rfl, rfl, d1, g1, ⟨e1, ?_⟩, e3, e4, x, y, by omega, by omega, x2, ?_, y2, ?_⟩
    · rcases e2 with e2 | ⟨j, j1, j2⟩
      · exact Or.inl e2
      · exact Or.inr ⟨j, by omega, j2⟩
    · exact nI_add x 0
    · exact nI_add y 0
  · subst s3
    rw [if_neg (m6ne (by omega)), if_neg (nI_pos (by omega))]
    rcases e2 with e2 | ⟨j, j1, j2⟩
    · have hrs := m_reasonX true ho hw u1
      have hwh := m_whyM true ho hr hw u1
      have hv := rv_lt R C sg er (wc u) (wl u) (wd u) now b s true
      have hne : rv R C sg er (wc u) (wl u) (wd u) now b s true ≠ 0 := by
        intro z0
        obtain ⟨q, q1, q2⟩ := m_shown_ne ho hx2 hr hw u1 s2
        have q3 := hwh.symm.trans q1
        rw [z0, if_pos rfl] at q3
        injection q3 with q3
        rw [← q3] at q2
        exact absurd q2 (by decide +kernel)
      rw [if_neg hne] at hwh
      have k2 := m_note2 (mo := mo) (d := (d.1, nI i, nI u, nI (rv R C sg er (wc u) (wl u) (wd u) now b s true), d.2.2.2.2.1, d.2.2.2.2.2.1, d.2.2.2.2.2.2)) (g := (g.1, nI i, nI u, nI (rv R C sg er (wc u) (wl u) (wd u) now b s true), g.2.2.2.2.1, g.2.2.2.2.2)) rc (nI u) ho hx2 hr hw ⟨u, u1, rfl⟩ hi ⟨d1, g1, ⟨rfl, Or.inr ⟨i, by omega, rfl⟩⟩, rfl, rfl, x, y, x1, y1, x2, x3, y2, y3⟩
      rw [if_pos e2, show M_X6_reasonTo r (hOf R C sg dr th er) (nI u) (0 : Int32) = _ from hrs, bx, ← e1, e2, if_neg (show ¬ (0 : Int32) ≤ -6 by decide +kernel), show M_X9_why mb mn (nI u) (1 : Int32) = _ from hwh, bx]
      exact k2
    · have k2 := m_note2 (mo := mo) (d := d) (g := g) rc (nI u) ho hx2 hr hw ⟨u, u1, rfl⟩ hi ⟨d1, g1, ⟨e1, Or.inr ⟨j, by omega, j2⟩⟩, e3, e4, x, y, x1, y1, x2, x3, y2, y3⟩
      rw [j2, if_neg (m6ne (by omega)), ← e1, j2, if_pos (nI_pos' (by omega))]
      exact k2
theorem m_follow {R C n : Nat} {f : Nat → Nat} {p : PT} {mo : OT} {sg : Nat → Nat} {dr th er k : Nat} {wc wl wd : Nat → Nat} {v : VT} {mb : BT} (ho : okS R C sg dr th er k wc wl wd) (hx2 : v.1 = nI k) (hr : rM R C sg dr th er k wc wl wd mb) (hp : PdX n f p mo) (hW : ∀ i, i < n → isW (f i) = true) : ∀ fu i now b s (r : RT) (mn : NT) (d : DT) (g : GT), i ≤ n → n - i < fu → WR R C sg er k wc wl wd now b s r mn → DR k i d g →
    (∃ d' r' mn' g' j, M_X3_follow_12 (hOf R C sg dr th er) v p fu (d, r, nI i) = some (d', r') ∧ M_X9_goWalk_40 mb mo fu (mn, g, nI i) = some (mn', g') ∧ j < n ∧ d'.1 = nI j ∧ g'.1 = nI j) ∨
    (∃ d' r' mn' g' now' b' s', M_X3_follow_12 (hOf R C sg dr th er) v p fu (d, r, nI i) = some (d', r') ∧ M_X9_goWalk_40 mb mo fu (mn, g, nI i) = some (mn', g') ∧ DR k n d' g' ∧ WR R C sg er k wc wl wd now' b' s' r' mn' ∧ d'.2.2.2.2.2.2 = nI now') := by
  have h16 := ho.1.n16
  obtain ⟨h40, h1, h2, hf⟩ := id hp
  intro fu
  induction fu with
  | zero => intro i now b s r mn d g _ h; omega
  | succ fu ih =>
    intro i now b s r mn d g hi hfu hw hd
    have ex : ∀ a, M_X3_follow_12 (hOf R C sg dr th er) v p (fu + 1) a = M_X3_follow_12b (hOf R C sg dr th er) v p (M_X3_follow_12 (hOf R C sg dr th er) v p fu) a := fun a => rfl
    have em : ∀ a, M_X9_goWalk_40 mb mo (fu + 1) a = M_X9_goWalk_40b mb mo (M_X9_goWalk_40 mb mo fu) a := fun a => rfl
    rw [ex, em]
    unfold M_X3_follow_12b M_X9_goWalk_40b
    dsimp only
    rw [h1, h2]
    rcases Nat.lt_or_ge i n with q | q
    · obtain ⟨f1, f2, f3, f4⟩ := hf i q
      have g6 : ¬ 0 ≤ g.1 := by rw [hd.2.1]; decide +kernel
      rw [if_neg (nI_ge q (by omega)), if_neg (nI_ge q (by omega)), if_neg g6, if_pos (nI_in (c := i) (N := 40) (by omega) (by omega)), nI_clamp (by omega), f4, m_stepAt hp q (hW i q), wyw _ (by omega), bx, bx]
      rcases m_take ho hr hw (wv5 (f i)) with ⟨e, r', mn', t1, t2, t3⟩ | ⟨qq, r', mn', e, t1, t2, t3⟩
      · rw [t1, t2, bx, bx]
        dsimp only
        rw [if_pos k00, if_pos k00]
        left
        have km : M_X9_goWalk_160 mb mo (M_X9_goWalk_40 mb mo fu) (mn', (nI i, g.2.1, g.2.2.1, g.2.2.2.1, g.2.2.2.2.1, g.2.2.2.2.2), nI i) = some (mn', (nI i, g.2.1, g.2.2.1, g.2.2.2.1, g.2.2.2.2.1, g.2.2.2.2.2)) := by
          unfold M_X9_goWalk_160
          dsimp only
          cases fu with
          | zero => omega
          | succ fu =>
            show M_X9_goWalk_40b mb mo _ _ = _
            unfold M_X9_goWalk_40b
            dsimp only
            rw [if_pos (show 0 ≤ nI i from nI_pos' (by omega))]
            exact ite_self _
        exact ⟨_, r', mn', _, i, rfl, km, q, rfl, rfl⟩
      · rw [t1, t2, bx, bx]
        dsimp only
        rw [if_neg k10, if_neg k10]
        obtain ⟨d', g', n1, n2, n3⟩ := m_note (mo := mo) (M_X9_goWalk_40 mb mo fu) ho hx2 hr t3 (by omega) hd
        rw [n1, n2, bx, ← nI_succ]
        exact ih (i + 1) _ _ _ _ _ _ _ (by omega) (by omega) t3 n3
    · have e : i = n := by omega
      subst e
      obtain ⟨a1, a2, a3, a4, a5, a6, a7, a8⟩ := id hw
      rw [if_pos (nI_le (Nat.le_refl _) (by omega)), if_pos (nI_le (Nat.le_refl _) (by omega)), a4, m_cellOf now (by omega), bx]
      right
      exact ⟨_, _, _, _, now, b, s, rfl, rfl, hd, hw, rfl⟩
/-- the walk on the pad, refused or judged, on both sides -/
theorem m_walk {R C n : Nat} {f : Nat → Nat} {p : PT} {mo : OT} {sg : Nat → Nat} {dr th er k : Nat} {wc wl wd : Nat → Nat} {v : VT} {mb : BT} (r : RT) (d : DT) (mn : NT) (mg : GT) (ho : okS R C sg dr th er k wc wl wd) (hx2 : v.1 = nI k) (hx3 : ∀ w, w < k → v.2.1 w = nI (wc w) ∧ v.2.2.1 w = nI (wl w) ∧ v.2.2.2 w = nI (wd w)) (hr : rM R C sg dr th er k wc wl wd mb) (hp : PdX n f p mo) :
    (M_X8_followWalk p (hOf R C sg dr th er) v r d = some (-5, r, d) ∧ M_X9_refusal mb mo mn mg = some (-5, mn, mg)) ∨
    (∃ d' r' mn' g', M_X8_followWalk p (hOf R C sg dr th er) v r d = some (-3, r', d') ∧ M_X9_refusal mb mo mn mg = some (-3, mn', g') ∧ d'.1 = g'.1) ∨
    (∃ d' r' mn' g', M_X8_followWalk p (hOf R C sg dr th er) v r d = some (0, r', d') ∧ M_X9_refusal mb mo mn mg = some (-6, mn', g') ∧ DR k n d' g' ∧ d'.2.2.2.2.2.2 = mn'.1 ∧ ∀ i, i < n → isW (f i) = true) := by
  have h40 := hp.1
  have eM : M_X9_fault mb mo (1 : Int32) = some (fwv (fun i => isW (f i)) n 0) := by
    unfold M_X9_fault
    rw [show M_X9_in (1 : Int32).toInt64 (0 : Int64) (1 : Int64) = some 1 by decide +kernel, bx, if_neg k10]
    exact fwM1 hp
  unfold M_X8_followWalk M_X9_refusal
  rw [m_walkFault hp, eM, bx, bx]
  rcases fwv_cs (fun i => isW (f i)) n 0 with ⟨a, b⟩ | ⟨j, j1, j2, j3, j4⟩
  · rw [a, if_pos rfl, if_pos m6neg]
    have hW : ∀ i, i < n → isW (f i) = true := fun i hi => b i (by omega) (by omega)
    obtain ⟨r0, mn0, b1, b2, b3⟩ := m_begin r mn ho hx2 hx3 hr
    unfold M_X3_follow M_X3_forget M_X9_goWalk
    rw [b1, b2, bx, bx, bx]
    have d0 : DR k 0 (-6, -6, -6, -6, 0, 0, -6) (-6, -6, -6, -6, 0, 0) := ⟨rfl, rfl, ⟨rfl, Or.inl rfl⟩, rfl, rfl, 0, 0, by omega, by omega, rfl, rfl, rfl, rfl⟩
    rcases m_follow ho hx2 hr hp hW 200 0 dr (2 ^ dr) false r0 mn0 _ _ (by omega) (by omega) b3 d0 with ⟨d', r', mn', g', j, t1, t2, t3, t4, t5⟩ | ⟨d', r', mn', g', now', b', s', t1, t2, t3, t4, t5⟩
    · right; left
      rw [show M_X3_follow_12 (hOf R C sg dr th er) v p 200 ((-6, -6, -6, -6, 0, 0, -6), r0, 0) = _ from t1, show M_X9_goWalk_40 mb mo 200 (mn0, (-6, -6, -6, -6, 0, 0), 0) = _ from t2, bx, bx]
      dsimp only
      rw [t4, t5, if_neg (m6ne (by omega)), if_neg (nI_pos (by omega))]
      exact ⟨d', r', mn', g', rfl, rfl, by rw [t4, t5]⟩
    · right; right
      rw [show M_X3_follow_12 (hOf R C sg dr th er) v p 200 ((-6, -6, -6, -6, 0, 0, -6), r0, 0) = _ from t1, show M_X9_goWalk_40 mb mo 200 (mn0, (-6, -6, -6, -6, 0, 0), 0) = _ from t2, bx, bx]
      dsimp only
      rw [t3.1, t3.2.1, if_pos rfl, if_pos m6neg]
      refine ⟨d', r', mn', g', rfl, rfl, t3, ?_, hW⟩
      rw [t5, t4.2.2.2.2.2.2.2]
  · left
    rw [j3, if_neg (m6ne (by omega)), if_neg (nI_pos (by omega))]
    exact ⟨rfl, rfl⟩
theorem op_judge {p : PT} {mo : OT} {h : HT} {v : VT} {mb : BT} (r : RT) (d : DT) (mn : NT) (mg : GT) (x : Int32) (rp : RPd p mo) (rh : RH h v mb) : ∃ z r' d' mn' mg', M_X8_judge p h v r d x = some (z, r', d') ∧ M_X9_judge mb mo mn mg x = some (z, mn', mg') := by
  obtain ⟨R, C, sg, dr, th, er, k, wc, wl, wd, ho, ⟨hx1, hx2, hx3⟩, hr⟩ := rh
  obtain ⟨n, f, hp⟩ := rp
  have hp : PdX n f p mo := hp
  subst hx1
  have e1 := m_within x 0 5
  have e2 : M_X9_in x.toInt64 (0 : Int64) (5 : Int64) = some (if 0 ≤ x ∧ x ≤ 5 then 1 else 0) := m_in x 0 5
  unfold M_X8_judge M_X9_judge
  rw [e1, e2, bx, bx]
  by_cases q : 0 ≤ x ∧ x ≤ 5
  · rw [if_pos q, if_neg k10, if_neg k10]
    obtain ⟨m, m0, m5, rfl⟩ := rng (a := 0) (b := 5) (by omega) (by omega) q.1 q.2
    rcases m_walk r d mn mg ho hx2 hx3 hr hp with ⟨w1, w2⟩ | ⟨d', r', mn', g', w1, w2, w3⟩ | ⟨d', r', mn', g', w1, w2, w3, w4, w5⟩
    · rw [w1, w2, bx, bx]
      dsimp only
      rw [if_pos rfl, if_pos rfl]
      exact ⟨_, _, _, _, _, rfl, rfl⟩
    · rw [w1, w2, bx, bx]
      dsimp only
      rw [if_neg (show ¬ (-3 : Int32) = -5 by decide +kernel), if_neg (show ¬ (-3 : Int32) = -5 by decide +kernel)]
      by_cases z : m = 0
      · subst z
        rw [if_pos n0I, if_pos (show nI 0 ≤ 0 by decide +kernel)]
        unfold M_X9_judge_38
        rw [if_pos n0I, w3]
        exact ⟨_, _, _, _, _, rfl, rfl⟩
      · rw [if_neg (nI_ne0 (by omega) (by omega)), if_neg (show ¬ nI m ≤ 0 from nI_ge (a := 0) (by omega) (by omega)), if_pos rfl, if_neg (show ¬ (-3 : Int32) = -6 by decide +kernel)]
        exact ⟨_, _, _, _, _, rfl, rfl⟩
    · obtain ⟨d1, g1, ⟨c1, c2⟩, e3, e4, a, b, a1, b1, x2, x3, y2, y3⟩ := w3
      rw [w1, w2, bx, bx]
      dsimp only
      rw [if_neg (show ¬ (0 : Int32) = -5 by decide +kernel), if_neg (show ¬ (-6 : Int32) = -5 by decide +kernel), if_neg (show ¬ (0 : Int32) = -3 by decide +kernel), if_pos (show (-6 : Int32) = -6 from rfl)]
      unfold M_X9_judge_38 M_X3_answer
      dsimp only
      obtain rfl | rfl | rfl | rfl | rfl | rfl : m = 0 ∨ m = 1 ∨ m = 2 ∨ m = 3 ∨ m = 4 ∨ m = 5 := by omega
      · rw [if_pos n0I, if_pos (show nI 0 ≤ 0 by decide +kernel), if_pos n0I, d1, g1]
        exact ⟨_, _, _, _, _, rfl, rfl⟩
      · rw [if_neg (show ¬ nI 1 = 0 by decide +kernel), if_neg (show ¬ nI 1 ≤ 0 by decide +kernel), if_pos (show nI 1 = 1 from rfl), bx, if_neg (show ¬ nI 1 = 0 by decide +kernel), if_pos (show nI 1 = 1 from rfl), c1]
        exact ⟨_, _, _, _, _, rfl, rfl⟩
      · rw [if_neg (show ¬ nI 2 = 0 by decide +kernel), if_neg (show ¬ nI 2 ≤ 0 by decide +kernel), if_neg (show ¬ nI 2 = 1 by decide +kernel), if_pos (show nI 2 = 2 from rfl), bx, if_neg (show ¬ nI 2 = 0 by decide +kernel), if_neg (show ¬ nI 2 = 1 by decide +kernel), if_pos (show nI 2 = 2 from rfl), e3]
        exact ⟨_, _, _, _, _, rfl, rfl⟩
      · rw [if_neg (show ¬ nI 3 = 0 by decide +kernel), if_neg (show ¬ nI 3 ≤ 0 by decide +kernel), if_neg (show ¬ nI 3 = 1 by decide +kernel), if_neg (show ¬ nI 3 = 2 by decide +kernel), if_pos (show nI 3 = 3 from rfl), bx, if_neg (show ¬ nI 3 = 0 by decide +kernel), if_neg (show ¬ nI 3 = 1 by decide +kernel), if_neg (show ¬ nI 3 = 2 by decide +kernel), if_pos (show nI 3 = 3 from rfl), e4]
        exact ⟨_, _, _, _, _, rfl, rfl⟩
      · rw [if_neg (show ¬ nI 4 = 0 by decide +kernel), if_neg (show ¬ nI 4 ≤ 0 by decide +kernel), if_neg (show ¬ nI 4 = 1 by decide +kernel), if_neg (show ¬ nI 4 = 2 by decide +kernel), if_neg (show ¬ nI 4 = 3 by decide +kernel), if_pos (show nI 4 = 4 from rfl), bx, if_neg (show ¬ nI 4 = 0 by decide +kernel), if_neg (show ¬ nI 4 = 1 by decide +kernel), if_neg (show ¬ nI 4 = 2 by decide +kernel), if_neg (show ¬ nI 4 = 3 by decide +kernel), if_pos (show nI 4 = 4 from rfl), x2, x3]
        exact ⟨_, _, _, _, _, rfl, rfl⟩
      · rw [if_neg (show ¬ nI 5 = 0 by decide +kernel), if_neg (show ¬ nI 5 ≤ 0 by decide +kernel), if_neg (show ¬ nI 5 = 1 by decide +kernel), if_neg (show ¬ nI 5 = 2 by decide +kernel), if_neg (show ¬ nI 5 = 3 by decide +kernel), if_neg (show ¬ nI 5 = 4 by decide +kernel), bx, if_neg (show ¬ nI 5 = 0 by decide +kernel), if_neg (show ¬ nI 5 = 1 by decide +kernel), if_neg (show ¬ nI 5 = 2 by decide +kernel), if_neg (show ¬ nI 5 = 3 by decide +kernel), if_neg (show ¬ nI 5 = 4 by decide +kernel), w4]
        exact ⟨_, _, _, _, _, rfl, rfl⟩
  · rw [if_neg q, if_pos k00, if_pos k00]
    exact ⟨_, _, _, _, _, rfl, rfl⟩
