/-! Images -/
theorem upd_self (f : AR) (k : Nat) : upd f k (f k) = f := by
  funext j
  unfold upd
  split
  · rename_i h; rw [h]
  · rfl
theorem m_addD {k c w d : Nat} {v : VT} (hk : v.1 = nI k) (h4 : k < 4) (hd : d < 2) : M_X4_add v (nI c) (nI w) (nI d) = some (1, (nI (k + 1), upd v.2.1 k (nI c), upd v.2.2.1 k (nI w), upd v.2.2.2 k (nI d))) := by
  apply m_add hk h4
  obtain rfl | rfl : d = 0 ∨ d = 1 := by omega
  · rfl
  · exact if_neg (by decide +kernel)
theorem m_copyW {k : Nat} {wc wl wd : Nat → Nat} {u : VT} (v : VT) (hk : k ≤ 4) (hx2 : u.1 = nI k) (hx3 : ∀ w, w < k → u.2.1 w = nI (wc w) ∧ u.2.2.1 w = nI (wl w) ∧ u.2.2.2 w = nI (wd w)) (hd : ∀ w, w < k → wd w < 2) : ∃ v', M_X4_copyFrom v u = some v' ∧ v'.1 = nI k ∧ ∀ w, w < k → v'.2.1 w = nI (wc w) ∧ v'.2.2.1 w = nI (wl w) ∧ v'.2.2.2 w = nI (wd w) := by
  have st : ∀ fu j (x : VT), j ≤ k → k - j < fu → x.1 = nI j → (∀ w, w < j → x.2.1 w = nI (wc w) ∧ x.2.2.1 w = nI (wl w) ∧ x.2.2.2 w = nI (wd w)) → ∃ v', M_X4_copyFrom_7 u fu (x, nI j) = some v' ∧ v'.1 = nI k ∧ ∀ w, w < k → v'.2.1 w = nI (wc w) ∧ v'.2.2.1 w = nI (wl w) ∧ v'.2.2.2 w = nI (wd w) := by
    intro fu
    induction fu with
    | zero => intro j x _ h; omega
    | succ fu ih =>
      intro j x hj hfu h1 h2
      show ∃ v', M_X4_copyFrom_7b _ _ _ = _ ∧ _
      unfold M_X4_copyFrom_7b M_X4_cellOfOne M_X4_lookingOf M_X4_hasDog
      dsimp only
      rw [hx2]
      rcases Nat.lt_or_ge j k with q | q
      · obtain ⟨q1, q2, q3⟩ := hx3 j q
        have hd2 := hd j q
        have e : (if nI (wd j) = (1 : Int32) then (some (1 : Int32)) else (some (0 : Int32))) = some (nI (wd j)) := by
          obtain z | z : wd j = 0 ∨ wd j = 1 := by omega
          · rw [z]; decide +kernel
          · rw [z]; decide +kernel
        rw [if_neg (nI_ge q (by omega)), m_at _ (by omega) (by omega), m_at _ (by omega) (by omega), m_at _ (by omega) (by omega)]
        simp only [bx]
        rw [q1, q2, q3, e, bx, m_addD h1 (by omega) hd2, bx, ← nI_succ]
        refine ih (j + 1) _ (by omega) (by omega) rfl ?_
        intro w hw
        by_cases t : w = j
        · subst t; exact ⟨upd_at .., upd_at .., upd_at ..⟩
        · dsimp only
          rw [upd_ne _ _ t, upd_ne _ _ t, upd_ne _ _ t]; exact h2 w (by omega)
      · have e : j = k := by omega
        rw [e, if_pos (nI_le (Nat.le_refl _) (by omega))]
        subst e
        exact ⟨x, rfl, h1, h2⟩
  unfold M_X4_copyFrom M_X4_clear
  rw [bx]
  exact st 200 0 _ (by omega) (by omega) rfl (fun w hw => absurd hw (by omega))
theorem m_copy {R C : Nat} {sg : Nat → Nat} {dr th er k : Nat} {wc wl wd : Nat → Nat} {g : HT} {u : VT} (h : HT) (v : VT) (ho : okS R C sg dr th er k wc wl wd) (hx : rX R C sg dr th er k wc wl wd g u) : ∃ h' v', M_X0_copyFrom h v g u = some (h', v') ∧ rX R C sg dr th er k wc wl wd h' v' := by
  obtain ⟨x1, x2, x3⟩ := hx
  subst x1
  obtain ⟨v', e1, e2, e3⟩ := m_copyW (u := u) (0, v.2.1, v.2.2.1, v.2.2.2) ho.2.2.2.2.2.1 x2 x3 (fun w hw => (ho.2.2.2.2.2.2 w hw).2.2.2)
  refine ⟨hOf R C sg dr th er, v', ?_, rfl, e2, e3⟩
  unfold M_X0_copyFrom
  rw [show M_X0_layOut h v (hOf R C sg dr th er).1 (hOf R C sg dr th er).2.1 = _ from m_layX h v ho.1, bx]
  dsimp only
  rw [e1, bx]
  rfl
theorem m_passW {a : Nat} (x : Int32) (kp ik : AR) (ha : a < 80) : M_X9_pass (nI a, 1, kp, ik) x = some (x, (nI (a + 1), 1, upd kp a x, ik)) := by
  unfold M_X9_pass M_X9_pass_20
  dsimp only
  rw [if_neg k10, if_pos (nI_in ha (by omega)), nI_clamp (by omega), ← nI_succ]
theorem m_passR {a : Nat} (x : Int32) (kp ik : AR) (ha : a < 80) : M_X9_pass (nI a, 0, kp, ik) x = some (kp a, (nI (a + 1), 0, kp, ik)) := by
  unfold M_X9_pass M_X9_pass_20
  dsimp only
  rw [if_pos k00, if_pos (nI_in ha (by omega)), if_pos (nI_in ha (by omega)), nI_clamp (by omega), ← nI_succ, upd_self]
/-- a row put from a place on -/
def putS (kp : AR) (a : Nat) (s : AR) : Nat → AR
  | 0 => kp
  | j + 1 => upd (putS kp a s j) (a + j) (s j)
theorem putS_in (kp : AR) (a : Nat) (s : AR) : ∀ n j, j < n → putS kp a s n (a + j) = s j := by
  intro n
  induction n with
  | zero => intro j h; omega
  | succ n ih =>
    intro j h
    show upd (putS kp a s n) (a + n) (s n) (a + j) = _
    by_cases t : j = n
    · subst t; exact upd_at ..
    · rw [upd_ne _ _ (by omega)]; exact ih j (by omega)
theorem putS_out (kp : AR) (a : Nat) (s : AR) : ∀ n i, i < a ∨ a + n ≤ i → putS kp a s n i = kp i := by
  intro n
  induction n with
  | zero => intro i _; rfl
  | succ n ih =>
    intro i h
    show upd (putS kp a s n) (a + n) (s n) i = _
    rw [upd_ne _ _ (by omega)]; exact ih i (by omega)
def putT (kp : AR) (a : Nat) (s1 s2 s3 : AR) : Nat → AR
  | 0 => kp
  | j + 1 => upd (upd (upd (putT kp a s1 s2 s3 j) (a + 3 * j) (s1 j)) (a + 3 * j + 1) (s2 j)) (a + 3 * j + 2) (s3 j)
theorem putT_in (kp : AR) (a : Nat) (s1 s2 s3 : AR) : ∀ n j, j < n → putT kp a s1 s2 s3 n (a + 3 * j) = s1 j ∧ putT kp a s1 s2 s3 n (a + 3 * j + 1) = s2 j ∧ putT kp a s1 s2 s3 n (a + 3 * j + 2) = s3 j := by
  intro n
  induction n with
  | zero => intro j h; omega
  | succ n ih =>
    intro j h
    have e : ∀ i, putT kp a s1 s2 s3 (n + 1) i = upd (upd (upd (putT kp a s1 s2 s3 n) (a + 3 * n) (s1 n)) (a + 3 * n + 1) (s2 n)) (a + 3 * n + 2) (s3 n) i := fun i => rfl
    rw [e, e, e]
    by_cases t : j = n
    · subst t
      refine ⟨?_, ?_, upd_at ..⟩
      · rw [upd_ne _ _ (by omega), upd_ne _ _ (by omega), upd_at]
      · rw [upd_ne _ _ (by omega), upd_at]
    · rw [upd_ne _ _ (by omega), upd_ne _ _ (by omega), upd_ne _ _ (by omega), upd_ne _ _ (by omega), upd_ne _ _ (by omega), upd_ne _ _ (by omega), upd_ne _ _ (by omega), upd_ne _ _ (by omega), upd_ne _ _ (by omega)]
      exact ih j (by omega)
theorem putT_out (kp : AR) (a : Nat) (s1 s2 s3 : AR) : ∀ n i, i < a ∨ a + 3 * n ≤ i → putT kp a s1 s2 s3 n i = kp i := by
  intro n
  induction n with
  | zero => intro i _; rfl
  | succ n ih =>
    intro i h
    show upd (upd (upd (putT kp a s1 s2 s3 n) (a + 3 * n) (s1 n)) (a + 3 * n + 1) (s2 n)) (a + 3 * n + 2) (s3 n) i = _
    rw [upd_ne _ _ (by omega), upd_ne _ _ (by omega), upd_ne _ _ (by omega)]; exact ih i (by omega)
theorem m_74W (mb : BT) (kp ik : AR) {a : Nat} (ha : a < 60) : ∀ fu j, j ≤ 16 → 16 - j < fu → M_X9_passAll_74 fu (mb, (nI (a + j), 1, putS kp a mb.2.2.2.2.2.2.1 j, ik), nI j) = M_X9_passAll_104 200 (mb, (nI (a + 16), 1, putS kp a mb.2.2.2.2.2.2.1 16, ik), 0) := by
  intro fu
  induction fu with
  | zero => intro j _ h; omega
  | succ fu ih =>
    intro j hj hfu
    show M_X9_passAll_74b _ _ = _
    unfold M_X9_passAll_74b
    dsimp only
    rcases Nat.lt_or_ge j 16 with q | q
    · rw [if_neg (show ¬ (16 : Int32) ≤ nI j from nI_ge (b := 16) q (by omega)), if_pos (nI_in q (by omega)), m_passW _ _ _ (by omega), bx, if_pos (nI_in q (by omega))]
      dsimp only
      rw [nI_clamp (by omega), upd_self, ← nI_succ]
      exact ih (j + 1) (by omega) (by omega)
    · have e : j = 16 := by omega
      subst e
      rw [if_pos (show (16 : Int32) ≤ nI 16 by decide +kernel)]
theorem m_104W (mb : BT) (kp ik : AR) {a : Nat} (ha : a < 68) : ∀ fu j, j ≤ 4 → 4 - j < fu → M_X9_passAll_104 fu (mb, (nI (a + 3 * j), 1, putT kp a mb.2.2.2.2.2.2.2.1 mb.2.2.2.2.2.2.2.2.1 mb.2.2.2.2.2.2.2.2.2 j, ik), nI j) = some (mb, (nI (a + 12), 1, putT kp a mb.2.2.2.2.2.2.2.1 mb.2.2.2.2.2.2.2.2.1 mb.2.2.2.2.2.2.2.2.2 4, ik)) := by
  intro fu
  induction fu with
  | zero => intro j _ h; omega
  | succ fu ih =>
    intro j hj hfu
    show M_X9_passAll_104b _ _ = _
    unfold M_X9_passAll_104b
    dsimp only
    rcases Nat.lt_or_ge j 4 with q | q
    · rw [if_neg (show ¬ (4 : Int32) ≤ nI j from nI_ge (b := 4) q (by omega)), if_pos (nI_in q (by omega)), m_passW _ _ _ (by omega), bx, if_pos (nI_in q (by omega)), if_pos (nI_in q (by omega))]
      dsimp only
      rw [m_passW _ _ _ (by omega), bx, if_pos (nI_in q (by omega)), if_pos (nI_in q (by omega))]
      dsimp only
      rw [m_passW _ _ _ (by omega), bx, if_pos (nI_in q (by omega))]
      dsimp only
      rw [nI_clamp (by omega), upd_self, upd_self, upd_self, ← nI_succ]
      exact ih (j + 1) (by omega) (by omega)
    · have e : j = 4 := by omega
      subst e
      rw [if_pos (show (4 : Int32) ≤ nI 4 by decide +kernel)]
/-- the whole row of an image -/
theorem m_passAllW (mb : BT) (w : Int32) (kp ik : AR) {a : Nat} (ha : a < 46) : ∃ kp', M_X9_passAll mb (nI a, 1, kp, ik) = some (mb, (nI (a + 34), 1, kp', ik)) ∧ (kp' a = mb.1 ∧ kp' (a + 1) = mb.2.1 ∧ kp' (a + 2) = mb.2.2.1 ∧ kp' (a + 3) = mb.2.2.2.1 ∧ kp' (a + 4) = mb.2.2.2.2.1 ∧ kp' (a + 5) = mb.2.2.2.2.2.1) ∧ (∀ c, c < 16 → kp' (a + 6 + c) = mb.2.2.2.2.2.2.1 c) ∧ (∀ j, j < 4 → kp' (a + 22 + 3 * j) = mb.2.2.2.2.2.2.2.1 j ∧ kp' (a + 22 + 3 * j + 1) = mb.2.2.2.2.2.2.2.2.1 j ∧ kp' (a + 22 + 3 * j + 2) = mb.2.2.2.2.2.2.2.2.2 j) ∧ ∀ i, i < a ∨ a + 34 ≤ i → kp' i = kp i := by
  unfold M_X9_passAll
  rw [m_passW _ _ _ (by omega), bx]
  dsimp only
  rw [m_passW _ _ _ (by omega), bx]
  dsimp only
  rw [m_passW _ _ _ (by omega), bx]
  dsimp only
  rw [m_passW _ _ _ (by omega), bx]
  dsimp only
  rw [m_passW _ _ _ (by omega), bx]
  dsimp only
  rw [m_passW _ _ _ (by omega), bx]
  dsimp only
  generalize hk6 : upd (upd (upd (upd (upd (upd kp a mb.1) (a + 1) mb.2.1) (a + 1 + 1) mb.2.2.1) (a + 1 + 1 + 1) mb.2.2.2.1) (a + 1 + 1 + 1 + 1) mb.2.2.2.2.1) (a + 1 + 1 + 1 + 1 + 1) mb.2.2.2.2.2.1 = k6
  have f74 : M_X9_passAll_74 200 (mb, (nI (a + 6), 1, k6, ik), 0) = _ := m_74W mb k6 ik (a := a + 6) (by omega) 200 0 (by omega) (by omega)
  have f104 : M_X9_passAll_104 200 (mb, (nI (a + 6 + 16), 1, putS k6 (a + 6) mb.2.2.2.2.2.2.1 16, ik), 0) = _ := m_104W mb (putS k6 (a + 6) mb.2.2.2.2.2.2.1 16) ik (a := a + 22) (by omega) 200 0 (by omega) (by omega)
  refine ⟨_, f74.trans f104, ?_, ?_, ?_, ?_⟩
  · have o : ∀ i, i < a + 6 → putT (putS k6 (a + 6) mb.2.2.2.2.2.2.1 16) (a + 22) mb.2.2.2.2.2.2.2.1 mb.2.2.2.2.2.2.2.2.1 mb.2.2.2.2.2.2.2.2.2 4 i = k6 i := by
      intro i hi
      rw [putT_out _ _ _ _ _ _ _ (by omega), putS_out _ _ _ _ _ (by omega)]
    rw [o a (by omega), o (a + 1) (by omega), o (a + 2) (by omega), o (a + 3) (by omega), o (a + 4) (by omega), o (a + 5) (by omega), ← hk6]
    refine ⟨?_, ?_, ?_, ?_, ?_, upd_at ..⟩
    · rw [upd_ne _ _ (by omega), upd_ne _ _ (by omega), upd_ne _ _ (by omega), upd_ne _ _ (by omega), upd_ne _ _ (by omega), upd_at]
    · rw [upd_ne _ _ (by omega), upd_ne _ _ (by omega), upd_ne _ _ (by omega), upd_ne _ _ (by omega), upd_at]
    · rw [upd_ne _ _ (by omega), upd_ne _ _ (by omega), upd_ne _ _ (by omega)]; exact upd_at ..
    · rw [upd_ne _ _ (by omega), upd_ne _ _ (by omega)]; exact upd_at ..
    · rw [upd_ne _ _ (by omega)]; exact upd_at ..
  · intro c hc
    rw [putT_out _ _ _ _ _ _ _ (by omega)]
    exact putS_in _ _ _ _ _ hc
  · intro j hj
    exact putT_in _ _ _ _ _ _ _ hj
  · intro i hi
    rw [putT_out _ _ _ _ _ _ _ (by omega), putS_out _ _ _ _ _ (by omega), ← hk6, upd_ne _ _ (by omega), upd_ne _ _ (by omega), upd_ne _ _ (by omega), upd_ne _ _ (by omega), upd_ne _ _ (by omega), upd_ne _ _ (by omega)]
def rdS (kp : AR) (a : Nat) (s : AR) : Nat → AR
  | 0 => s
  | j + 1 => upd (rdS kp a s j) j (kp (a + j))
theorem rdS_in (kp : AR) (a : Nat) (s : AR) : ∀ n j, j < n → rdS kp a s n j = kp (a + j) := by
  intro n
  induction n with
  | zero => intro j h; omega
  | succ n ih =>
    intro j h
    show upd (rdS kp a s n) n (kp (a + n)) j = _
    by_cases t : j = n
    · subst t; exact upd_at ..
    · rw [upd_ne _ _ t]; exact ih j (by omega)
def rdT (kp : AR) (a : Nat) (s : AR) : Nat → AR
  | 0 => s
  | j + 1 => upd (rdT kp a s j) j (kp (a + 3 * j))
theorem rdT_in (kp : AR) (a : Nat) (s : AR) : ∀ n j, j < n → rdT kp a s n j = kp (a + 3 * j) := by
  intro n
  induction n with
  | zero => intro j h; omega
  | succ n ih =>
    intro j h
    show upd (rdT kp a s n) n (kp (a + 3 * n)) j = _
    by_cases t : j = n
    · subst t; exact upd_at ..
    · rw [upd_ne _ _ t]; exact ih j (by omega)
theorem m_74R (b1 b2 b3 b4 b5 b6 : Int32) (s s1 s2 s3 kp ik : AR) {a : Nat} (ha : a < 60) : ∀ fu j, j ≤ 16 → 16 - j < fu → M_X9_passAll_74 fu ((b1, b2, b3, b4, b5, b6, rdS kp a s j, s1, s2, s3), (nI (a + j), 0, kp, ik), nI j) = M_X9_passAll_104 200 ((b1, b2, b3, b4, b5, b6, rdS kp a s 16, s1, s2, s3), (nI (a + 16), 0, kp, ik), 0) := by
  intro fu
  induction fu with
  | zero => intro j _ h; omega
  | succ fu ih =>
    intro j hj hfu
    show M_X9_passAll_74b _ _ = _
    unfold M_X9_passAll_74b
    dsimp only
    rcases Nat.lt_or_ge j 16 with q | q
    · rw [if_neg (show ¬ (16 : Int32) ≤ nI j from nI_ge (b := 16) q (by omega)), if_pos (nI_in q (by omega)), m_passR _ _ _ (by omega), bx, if_pos (nI_in q (by omega))]
      dsimp only
      rw [nI_clamp (by omega), ← nI_succ]
      exact ih (j + 1) (by omega) (by omega)
    · have e : j = 16 := by omega
      subst e
      rw [if_pos (show (16 : Int32) ≤ nI 16 by decide +kernel)]
theorem m_104R (b1 b2 b3 b4 b5 b6 : Int32) (s s1 s2 s3 kp ik : AR) {a : Nat} (ha : a < 68) : ∀ fu j, j ≤ 4 → 4 - j < fu → M_X9_passAll_104 fu ((b1, b2, b3, b4, b5, b6, s, rdT kp a s1 j, rdT kp (a + 1) s2 j, rdT kp (a + 2) s3 j), (nI (a + 3 * j), 0, kp, ik), nI j) = some ((b1, b2, b3, b4, b5, b6, s, rdT kp a s1 4, rdT kp (a + 1) s2 4, rdT kp (a + 2) s3 4), (nI (a + 12), 0, kp, ik)) := by
  intro fu
  induction fu with
  | zero => intro j _ h; omega
  | succ fu ih =>
    intro j hj hfu
    show M_X9_passAll_104b _ _ = _
    unfold M_X9_passAll_104b
    dsimp only
    rcases Nat.lt_or_ge j 4 with q | q
    · have k1 : kp (a + 3 * j + 1) = kp (a + 1 + 3 * j) := by congr 1; omega
      have k2 : kp (a + 3 * j + 1 + 1) = kp (a + 2 + 3 * j) := by congr 1; omega
      rw [if_neg (show ¬ (4 : Int32) ≤ nI j from nI_ge (b := 4) q (by omega)), if_pos (nI_in q (by omega)), m_passR _ _ _ (by omega), bx, if_pos (nI_in q (by omega)), if_pos (nI_in q (by omega))]
      dsimp only
      rw [m_passR _ _ _ (by omega), bx, if_pos (nI_in q (by omega)), if_pos (nI_in q (by omega))]
      dsimp only
      rw [m_passR _ _ _ (by omega), bx, if_pos (nI_in q (by omega))]
      dsimp only
      rw [nI_clamp (by omega), k1, k2, ← nI_succ]
      exact ih (j + 1) (by omega) (by omega)
    · have e : j = 4 := by omega
      subst e
      rw [if_pos (show (4 : Int32) ≤ nI 4 by decide +kernel)]
theorem m_passAllR (mb : BT) (kp ik : AR) {a : Nat} (ha : a < 46) : ∃ mb', M_X9_passAll mb (nI a, 0, kp, ik) = some (mb', (nI (a + 34), 0, kp, ik)) ∧ (mb'.1 = kp a ∧ mb'.2.1 = kp (a + 1) ∧ mb'.2.2.1 = kp (a + 2) ∧ mb'.2.2.2.1 = kp (a + 3) ∧ mb'.2.2.2.2.1 = kp (a + 4) ∧ mb'.2.2.2.2.2.1 = kp (a + 5)) ∧ (∀ c, c < 16 → mb'.2.2.2.2.2.2.1 c = kp (a + 6 + c)) ∧ (∀ j, j < 4 → mb'.2.2.2.2.2.2.2.1 j = kp (a + 22 + 3 * j) ∧ mb'.2.2.2.2.2.2.2.2.1 j = kp (a + 22 + 3 * j + 1) ∧ mb'.2.2.2.2.2.2.2.2.2 j = kp (a + 22 + 3 * j + 2)) := by
  unfold M_X9_passAll
  rw [m_passR _ _ _ (by omega), bx]
  dsimp only
  rw [m_passR _ _ _ (by omega), bx]
  dsimp only
  rw [m_passR _ _ _ (by omega), bx]
  dsimp only
  rw [m_passR _ _ _ (by omega), bx]
  dsimp only
  rw [m_passR _ _ _ (by omega), bx]
  dsimp only
  rw [m_passR _ _ _ (by omega), bx]
  dsimp only
  have f74 : M_X9_passAll_74 200 ((kp a, kp (a + 1), kp (a + 2), kp (a + 3), kp (a + 4), kp (a + 5), mb.2.2.2.2.2.2.1, mb.2.2.2.2.2.2.2.1, mb.2.2.2.2.2.2.2.2.1, mb.2.2.2.2.2.2.2.2.2), (nI (a + 6), 0, kp, ik), 0) = _ := m_74R (kp a) (kp (a + 1)) (kp (a + 2)) (kp (a + 3)) (kp (a + 4)) (kp (a + 5)) mb.2.2.2.2.2.2.1 mb.2.2.2.2.2.2.2.1 mb.2.2.2.2.2.2.2.2.1 mb.2.2.2.2.2.2.2.2.2 kp ik (a := a + 6) (by omega) 200 0 (by omega) (by omega)
  have f104 := m_104R (kp a) (kp (a + 1)) (kp (a + 2)) (kp (a + 3)) (kp (a + 4)) (kp (a + 5)) (rdS kp (a + 6) mb.2.2.2.2.2.2.1 16) mb.2.2.2.2.2.2.2.1 mb.2.2.2.2.2.2.2.2.1 mb.2.2.2.2.2.2.2.2.2 kp ik (a := a + 22) (by omega) 200 0 (by omega) (by omega)
  refine ⟨_, f74.trans f104, ⟨rfl, rfl, rfl, rfl, rfl, rfl⟩, fun c hc => rdS_in _ _ _ _ _ hc, fun j hj => ⟨rdT_in _ _ _ _ _ hj, ?_, ?_⟩⟩
  · refine (rdT_in _ _ _ _ _ hj).trans ?_
    congr 1; omega
  · refine (rdT_in _ _ _ _ _ hj).trans ?_
    congr 1; omega
theorem RIm_frame {j : Nat} {kp : Int32} {h : HT} {v : VT} {mi mi' : IT} (r : RIm j kp h v mi) (h1 : mi'.2.2.2 j = mi.2.2.2 j) (h2 : ∀ i, 40 * j ≤ i → i < 40 * j + 34 → mi'.2.2.1 i = mi.2.2.1 i) : RIm j kp h v mi' := by
  rcases r with ⟨a, b⟩ | ⟨a, b, R, C, sg, dr, th, er, k, wc, wl, wd, ho, hx, ⟨c1, c2, c3, c4, c5, c6⟩, d, e⟩
  · exact Or.inl ⟨a, h1.trans b⟩
  · have h16 := ho.1.n16
    have h4 := ho.2.2.2.2.2.1
    refine Or.inr ⟨a, h1.trans b, R, C, sg, dr, th, er, k, wc, wl, wd, ho, hx, ⟨?_, ?_, ?_, ?_, ?_, ?_⟩, ?_, ?_⟩
    · rw [h2 _ (by omega) (by omega)]; exact c1
    · rw [h2 _ (by omega) (by omega)]; exact c2
    · rw [h2 _ (by omega) (by omega)]; exact c3
    · rw [h2 _ (by omega) (by omega)]; exact c4
    · rw [h2 _ (by omega) (by omega)]; exact c5
    · rw [h2 _ (by omega) (by omega)]; exact c6
    · intro c hc
      rw [h2 _ (by omega) (by omega)]; exact d c hc
    · intro w hw
      rw [h2 _ (by omega) (by omega), h2 _ (by omega) (by omega), h2 _ (by omega) (by omega)]; exact e w hw
theorem m_img {j : Nat} {h : HT} {v : VT} {mb : BT} {mi : IT} (h1 : HT) (v1 : VT) (hj : j < 2) (r : RH h v mb) : ∃ h1' v1' mi', M_X0_copyFrom h1 v1 h v = some (h1', v1') ∧ M_X9_image mb mi (nI j) = some (1, mb, mi') ∧ RIm j 1 h1' v1' mi' ∧ (∀ i, i ≠ j → mi'.2.2.2 i = mi.2.2.2 i) ∧ ∀ i, i < 40 * j ∨ 40 * j + 34 ≤ i → mi'.2.2.1 i = mi.2.2.1 i := by
  obtain ⟨R, C, sg, dr, th, er, k, wc, wl, wd, ho, hx, hr⟩ := r
  have h16 := ho.1.n16
  have h4 := ho.2.2.2.2.2.1
  obtain ⟨h1', v1', c1, c2⟩ := m_copy h1 v1 ho hx
  obtain ⟨kp', p1, ⟨a1, a2, a3, a4, a5, a6⟩, p3, p4, p5⟩ := m_passAllW mb 1 mi.2.2.1 mi.2.2.2 (a := 40 * j) (by omega)
  obtain ⟨r1, r2, r3, r4, r5, r6, r7, r8⟩ := hr
  have e2 : M_X9_in (nI j).toInt64 (0 : Int64) (1 : Int64) = some 1 := in_good (n := 2) hj (by omega)
  have e3 : (40 : Int32) * nI j = nI (40 * j) := pk_mul 40 j
  refine ⟨h1', v1', (nI (40 * j + 34), 1, kp', upd mi.2.2.2 j (vp_nar .boolean 1)), c1, ?_, Or.inr ⟨rfl, ?_, R, C, sg, dr, th, er, k, wc, wl, wd, ho, c2, ⟨a1.trans r1, a2.trans r2, a3.trans r3, a4.trans r4, a5.trans r5, a6.trans r6⟩, fun c hc => (p3 c (by omega)).trans (r7 c hc), fun w hw => ⟨(p4 w (by omega)).1.trans (r8 w hw).1, (p4 w (by omega)).2.1.trans (r8 w hw).2.1, (p4 w (by omega)).2.2.trans (r8 w hw).2.2⟩⟩, ?_, p5⟩
  · unfold M_X9_image
    rw [e2, bx, if_neg k10, if_pos (show vp_nar .boolean (1 : Int32) = 1 by decide +kernel), e3, p1, bx, if_pos (nI_in hj (by omega)), nI_clamp (by omega)]
  · show upd mi.2.2.2 j (vp_nar .boolean 1) j = 1
    rw [upd_at]; decide +kernel
  · intro i hi
    exact upd_ne _ _ hi
theorem op_image {h : HT} {v : VT} {mb : BT} {mi : IT} {k1 k2 : Int32} {h1 h2 : HT} {v1 v2 : VT} (x : Int32) (r : RH h v mb) (i1 : RIm 0 k1 h1 v1 mi) (i2 : RIm 1 k2 h2 v2 mi) : ∃ z k1' h1' v1' k2' h2' v2' mb' mi', M_X8_image h v k1 h1 v1 k2 h2 v2 x = some (z, k1', h1', v1', k2', h2', v2') ∧ M_X9_image mb mi x = some (z, mb', mi') ∧ RH h v mb' ∧ RIm 0 k1' h1' v1' mi' ∧ RIm 1 k2' h2' v2' mi' := by
  have b1 : vp_nar .boolean (1 : Int32) = 1 := by decide +kernel
  rcases cell_cs (x := x) (n := 2) (by omega) with ⟨c, hc, rfl⟩ | q
  · have ew : M_X8_within (nI c) 0 1 = some 1 := within_good (n := 2) hc (by omega)
    obtain rfl | rfl : c = 0 ∨ c = 1 := by omega
    · obtain ⟨h1', v1', mi', c1, c2, c3, c4, c5⟩ := m_img (mi := mi) h1 v1 hc r
      unfold M_X8_image M_X8_image0
      rw [if_pos n0I, ew, bx, if_neg k10, c1, bx, if_pos b1, c2]
      exact ⟨_, _, _, _, _, _, _, _, _, rfl, rfl, r, c3, RIm_frame i2 (c4 1 (by omega)) (fun i a b => c5 i (by omega))⟩
    · obtain ⟨h2', v2', mi', c1, c2, c3, c4, c5⟩ := m_img (mi := mi) h2 v2 hc r
      unfold M_X8_image M_X8_image1
      rw [if_neg (show ¬ nI 1 = 0 by decide +kernel), ew, bx, if_neg k10, c1, bx, if_pos b1, c2]
      exact ⟨_, _, _, _, _, _, _, _, _, rfl, rfl, r, RIm_frame i1 (c4 0 (by omega)) (fun i a b => c5 i (by omega)), c3⟩
  · have ew : M_X8_within x 0 1 = some 0 := within_bad (n := 2) (by omega) (by omega) q
    have em : M_X9_in x.toInt64 (0 : Int64) (1 : Int64) = some 0 := in_bad (n := 2) (by omega) q
    have x0 : ¬ x = 0 := by
      intro z; subst z
      rcases q with q | q
      · exact absurd q (by decide +kernel)
      · exact absurd q (by decide +kernel)
    unfold M_X8_image M_X8_image1 M_X9_image
    rw [if_neg x0, ew, em, bx, bx, if_pos k00, if_pos k00]
    exact ⟨_, _, _, _, _, _, _, _, _, rfl, rfl, r, i1, i2⟩
theorem m_rest {j : Nat} {h h1 : HT} {v v1 : VT} {mb : BT} {mi : IT} {kp : Int32} (hj : j < 2) (hk : ¬ kp = 0) (r : RIm j kp h1 v1 mi) : ∃ h' v' mb' mi', M_X0_copyFrom h v h1 v1 = some (h', v') ∧ M_X9_restore mb mi (nI j) = some (1, mb', mi') ∧ RH h' v' mb' ∧ mi'.2.2 = mi.2.2 := by
  have e2 : M_X9_in (nI j).toInt64 (0 : Int64) (1 : Int64) = some 1 := in_good (n := 2) hj (by omega)
  have e3 : (40 : Int32) * nI j = nI (40 * j) := pk_mul 40 j
  rcases r with ⟨a, b⟩ | ⟨a, b, R, C, sg, dr, th, er, k, wc, wl, wd, ho, hx, ⟨c1, c2, c3, c4, c5, c6⟩, d, e⟩
  · exact absurd a hk
  · have h16 := ho.1.n16
    have h4 := ho.2.2.2.2.2.1
    obtain ⟨h', v', y1, y2⟩ := m_copy h v ho hx
    obtain ⟨mb', p1, ⟨a1, a2, a3, a4, a5, a6⟩, p3, p4⟩ := m_passAllR mb mi.2.2.1 mi.2.2.2 (a := 40 * j) (by omega)
    refine ⟨h', v', mb', (nI (40 * j + 34), 0, mi.2.2.1, mi.2.2.2), y1, ?_, ⟨R, C, sg, dr, th, er, k, wc, wl, wd, ho, y2, a1.trans c1, a2.trans c2, a3.trans c3, a4.trans c4, a5.trans c5, a6.trans c6, fun c hc => (p3 c (by omega)).trans (d c hc), fun w hw => ⟨(p4 w (by omega)).1.trans (e w hw).1, (p4 w (by omega)).2.1.trans (e w hw).2.1, (p4 w (by omega)).2.2.trans (e w hw).2.2⟩⟩, rfl⟩
    unfold M_X9_restore
    rw [e2, bx, if_neg k10, if_pos (nI_in hj (by omega)), nI_clamp (by omega), b, if_neg k10, if_pos (show vp_nar .boolean (0 : Int32) = 0 by decide +kernel), e3, p1, bx]
theorem m_restN {j : Nat} {h1 : HT} {v1 : VT} {mb : BT} {mi : IT} {kp : Int32} (hj : j < 2) (hk : kp = 0) (r : RIm j kp h1 v1 mi) : M_X9_restore mb mi (nI j) = some (-3, mb, mi) := by
  have e2 : M_X9_in (nI j).toInt64 (0 : Int64) (1 : Int64) = some 1 := in_good (n := 2) hj (by omega)
  rcases r with ⟨a, b⟩ | ⟨a, b, _⟩
  · unfold M_X9_restore
    rw [e2, bx, if_neg k10, if_pos (nI_in hj (by omega)), nI_clamp (by omega), b, if_pos k00]
  · rw [a] at hk; exact absurd hk k10
theorem op_restore {h : HT} {v : VT} {mb : BT} {mi : IT} {k1 k2 : Int32} {h1 h2 : HT} {v1 v2 : VT} (x : Int32) (r : RH h v mb) (i1 : RIm 0 k1 h1 v1 mi) (i2 : RIm 1 k2 h2 v2 mi) : ∃ z h' v' mb' mi', M_X8_restore h v k1 h1 v1 k2 h2 v2 x = some (z, h', v') ∧ M_X9_restore mb mi x = some (z, mb', mi') ∧ RH h' v' mb' ∧ RIm 0 k1 h1 v1 mi' ∧ RIm 1 k2 h2 v2 mi' := by
  rcases cell_cs (x := x) (n := 2) (by omega) with ⟨c, hc, rfl⟩ | q
  · have ew : M_X8_within (nI c) 0 1 = some 1 := within_good (n := 2) hc (by omega)
    obtain rfl | rfl : c = 0 ∨ c = 1 := by omega
    · unfold M_X8_restore M_X8_restore0
      rw [if_pos n0I, ew, bx, if_neg k10]
      by_cases z : k1 = 0
      · rw [if_pos z, m_restN hc z i1]
        exact ⟨_, _, _, _, _, rfl, rfl, r, i1, i2⟩
      · obtain ⟨h', v', mb', mi', c1, c2, c3, c4⟩ := m_rest (h := h) (v := v) (mb := mb) hc z i1
        rw [if_neg z, c1, bx, c2]
        exact ⟨_, _, _, _, _, rfl, rfl, c3, RIm_frame i1 (by rw [c4]) (fun i _ _ => by rw [c4]), RIm_frame i2 (by rw [c4]) (fun i _ _ => by rw [c4])⟩
    · unfold M_X8_restore M_X8_restore1
      rw [if_neg (show ¬ nI 1 = 0 by decide +kernel), ew, bx, if_neg k10]
      by_cases z : k2 = 0
      · rw [if_pos z, m_restN hc z i2]
        exact ⟨_, _, _, _, _, rfl, rfl, r, i1, i2⟩
      · obtain ⟨h', v', mb', mi', c1, c2, c3, c4⟩ := m_rest (h := h) (v := v) (mb := mb) hc z i2
        rw [if_neg z, c1, bx, c2]
        exact ⟨_, _, _, _, _, rfl, rfl, c3, RIm_frame i1 (by rw [c4]) (fun i _ _ => by rw [c4]), RIm_frame i2 (by rw [c4]) (fun i _ _ => by rw [c4])⟩
  · have ew : M_X8_within x 0 1 = some 0 := within_bad (n := 2) (by omega) (by omega) q
    have em : M_X9_in x.toInt64 (0 : Int64) (1 : Int64) = some 0 := in_bad (n := 2) (by omega) q
    have x0 : ¬ x = 0 := by
      intro z; subst z
      rcases q with q | q
      · exact absurd q (by decide +kernel)
      · exact absurd q (by decide +kernel)
    unfold M_X8_restore M_X8_restore1 M_X9_restore
    rw [if_neg x0, ew, em, bx, bx, if_pos k00, if_pos k00]
    exact ⟨_, _, _, _, _, rfl, rfl, r, i1, i2⟩
