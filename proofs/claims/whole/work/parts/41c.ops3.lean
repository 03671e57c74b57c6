/-! told, house, fault -/
theorem rng {x : Int32} {a b : Nat} (ha : a < 2 ^ 31) (hb : b < 2 ^ 31) (h1 : nI a ≤ x) (h2 : x ≤ nI b) : ∃ n, a ≤ n ∧ n ≤ b ∧ x = nI n := by
  obtain ⟨n, hn, rfl⟩ := nI_of (x := x) (fun z => absurd (Int32.le_trans (nI_pos' ha) h1) (Int32.not_le.mpr z))
  refine ⟨n, ?_, ?_, rfl⟩
  · rcases Nat.lt_or_ge n a with y | y
    · exact absurd h1 (nI_ge y ha)
    · exact y
  · rcases Nat.lt_or_ge b n with y | y
    · exact absurd h2 (nI_ge y hn)
    · exact y
theorem k1010 : ¬ (10 : Int32) = 0 := by decide +kernel
theorem m_toldW {R C k w kk : Nat} {sg : Nat → Nat} {dr th er : Nat} {wc wl wd : Nat → Nat} {v : VT} (ho : okS R C sg dr th er k wc wl wd) (hx2 : v.1 = nI k) (hx3 : ∀ w, w < k → v.2.1 w = nI (wc w) ∧ v.2.2.1 w = nI (wl w) ∧ v.2.2.2 w = nI (wd w)) (hkk : kk < 10) (hw : w < k) : M_X8_toldOfWatcher v (nI w) (nI kk) = some (if kk = 0 then nI (wc w) else if kk = 1 then nI (wl w) else if kk = 2 then nI (wd w) else -2) := by
  have hk := ho.2.2.2.2.2.1
  obtain ⟨w1, w2, w3, w4⟩ := ho.2.2.2.2.2.2 w hw
  obtain ⟨q1, q2, q3⟩ := hx3 w hw
  unfold M_X8_toldOfWatcher
  rw [isOne_in hx2 hw (by omega), bx, if_neg k10]
  by_cases c0 : kk = 0
  · subst c0
    rw [if_pos (show nI 0 = 0 from rfl), if_pos rfl]
    unfold M_X4_cellOfOne
    rw [m_at _ (by omega) (by omega), bx, bx, q1]
  · rw [if_neg (show ¬ nI kk = 0 from w_ne (b := 0) (by omega) (by omega) c0), if_neg c0]
    by_cases c1 : kk = 1
    · subst c1
      rw [if_pos (show nI 1 = 1 from rfl), if_pos rfl]
      unfold M_X4_lookingOf
      rw [m_at _ (by omega) (by omega), bx, bx, q2]
    · rw [if_neg (show ¬ nI kk = 1 from w_ne (b := 1) (by omega) (by omega) c1), if_neg c1]
      by_cases c2 : kk = 2
      · subst c2
        rw [if_pos (show nI 2 = 2 from rfl), if_pos rfl]
        unfold M_X4_hasDog
        rw [m_at _ (by omega) (by omega), bx, q3]
        obtain z | z : wd w = 0 ∨ wd w = 1 := by omega
        · rw [z]; decide +kernel
        · rw [z]; decide +kernel
      · rw [if_neg (show ¬ nI kk = 2 from w_ne (b := 2) (by omega) (by omega) c2), if_neg c2]
theorem op_told {p : PT} {mo : OT} {h : HT} {v : VT} {mb : BT} (x : Int32) (rp : RPd p mo) (r : RH h v mb) : ∃ z, M_X8_told p h v x = some z ∧ M_X9_told mb mo x = some z := by
  obtain ⟨R, C, sg, dr, th, er, k, wc, wl, wd, ho, ⟨hx1, hx2, hx3⟩, r1, r2, r3, r4, r5, r6, r7, r8⟩ := r
  obtain ⟨n, f, hn, h1, h2, hf⟩ := rp
  subst hx1
  have hk := ho.2.2.2.2.2.1
  have e2 : M_X9_in x.toInt64 (10 : Int64) (49 : Int64) = some (if 10 ≤ x ∧ x ≤ 49 then 1 else 0) := m_in x 10 49
  unfold M_X8_told M_X9_told
  rw [e2, bx, h1, h2, hx2, r1, r2, r3, r4, r5, r6]
  by_cases q : 10 ≤ x ∧ x ≤ 49
  · rw [if_pos q]
    obtain ⟨m, hm10, hm, rfl⟩ := rng (a := 10) (b := 49) (by omega) (by omega) q.1 q.2
    have d1 : nI m / (10 : Int32) = nI (m / 10) := pk_div (d := 10) (by omega) (by omega) (by omega)
    have d2 : nI m - nI m / (10 : Int32) * (10 : Int32) = nI (m % 10) := n_rem (d := 10) (by omega) (by omega) (by omega)
    have d3 : nI (m / 10) - (1 : Int32) = nI (m / 10 - 1) := n_sub (b := 1) (by omega)
    rw [if_neg k10, if_neg (show ¬ nI m = 0 from w_ne (b := 0) (by omega) (by omega) (by omega)), if_neg (show ¬ nI m = 1 from w_ne (b := 1) (by omega) (by omega) (by omega)), if_neg (show ¬ nI m = 2 from w_ne (b := 2) (by omega) (by omega) (by omega)), if_neg (show ¬ nI m = 3 from w_ne (b := 3) (by omega) (by omega) (by omega)), if_neg (show ¬ nI m = 4 from w_ne (b := 4) (by omega) (by omega) (by omega)), if_neg (show ¬ nI m = 5 from w_ne (b := 5) (by omega) (by omega) (by omega)), if_neg (show ¬ nI m = 6 from w_ne (b := 6) (by omega) (by omega) (by omega)), if_pos (show (10 : Int32) ≤ nI m from nI_le (a := 10) hm10 (by omega)), if_pos k1010, if_pos k1010, if_pos k1010, if_pos k1010, d2, d1, d3]
    have hkk : m % 10 < 10 := Nat.mod_lt _ (by omega)
    have hw3 : m / 10 - 1 < 4 := by omega
    generalize m % 10 = kk at hkk ⊢
    generalize m / 10 - 1 = w at hw3 ⊢
    rcases Nat.lt_or_ge w k with y | y
    · obtain ⟨q1, q2, q3⟩ := r8 w y
      rw [m_toldW ho hx2 hx3 hkk y, bx, if_neg (nI_ge y (by omega)), if_pos (nI_in (c := w) (N := 4) hw3 (by omega)), if_pos (nI_in (c := w) (N := 4) hw3 (by omega)), if_pos (nI_in (c := w) (N := 4) hw3 (by omega)), nI_clamp (by omega), q1, q2, q3]
      refine ⟨_, rfl, ?_⟩
      by_cases c0 : kk = 0
      · subst c0
        rw [if_pos (show nI 0 ≤ 2 by decide +kernel), if_pos (show nI 0 = 0 from rfl), if_pos rfl]
      · by_cases c1 : kk = 1
        · subst c1
          rw [if_pos (show nI 1 ≤ 2 by decide +kernel), if_neg (show ¬ nI 1 = 0 by decide +kernel), if_pos (show nI 1 = 1 from rfl), if_neg (by omega), if_pos rfl]
        · by_cases c2 : kk = 2
          · subst c2
            rw [if_pos (show nI 2 ≤ 2 by decide +kernel), if_neg (show ¬ nI 2 = 0 by decide +kernel), if_neg (show ¬ nI 2 = 1 by decide +kernel), if_neg (by omega), if_neg (by omega), if_pos rfl]
          · rw [if_neg (show ¬ nI kk ≤ 2 from nI_ge (a := 2) (by omega) (by omega)), if_neg c0, if_neg c1, if_neg c2]
    · unfold M_X8_toldOfWatcher
      rw [isOne_out hx2 (Or.inr (nI_le y (by omega))), bx, if_pos k00, bx, if_pos (nI_le y (by omega))]
      exact ⟨_, rfl, rfl⟩
  · rw [if_neg q, if_pos k00]
    by_cases c0 : x = 0
    · rw [if_pos c0, if_pos c0]; exact ⟨_, rfl, rfl⟩
    rw [if_neg c0, if_neg c0]
    by_cases c1 : x = 1
    · rw [if_pos c1, if_pos c1]; exact ⟨_, rfl, rfl⟩
    rw [if_neg c1, if_neg c1]
    by_cases c2 : x = 2
    · rw [if_pos c2, if_pos c2]; exact ⟨_, rfl, rfl⟩
    rw [if_neg c2, if_neg c2]
    by_cases c3 : x = 3
    · rw [if_pos c3, if_pos c3]; exact ⟨_, rfl, rfl⟩
    rw [if_neg c3, if_neg c3]
    by_cases c4 : x = 4
    · rw [if_pos c4, if_pos c4]; exact ⟨_, rfl, rfl⟩
    rw [if_neg c4, if_neg c4]
    by_cases c5 : x = 5
    · rw [if_pos c5, if_pos c5]; exact ⟨_, rfl, rfl⟩
    rw [if_neg c5, if_neg c5]
    by_cases c6 : x = 6
    · rw [if_pos c6, if_pos c6]; exact ⟨_, rfl, rfl⟩
    rw [if_neg c6, if_neg c6]
    by_cases t : 10 ≤ x
    · obtain ⟨m, hm, rfl⟩ := nI_of (x := x) (fun z => absurd (Int32.le_trans (show (0 : Int32) ≤ 10 by decide +kernel) t) (Int32.not_le.mpr z))
      have h50 : 50 ≤ m := by
        rcases Nat.lt_or_ge m 50 with y | y
        · exact absurd ⟨t, nI_le (b := 49) (by omega) (by omega)⟩ q
        · exact y
      have d1 : nI m / (10 : Int32) = nI (m / 10) := pk_div (d := 10) (by omega) (by omega) (by omega)
      have d3 : nI (m / 10) - (1 : Int32) = nI (m / 10 - 1) := n_sub (b := 1) (by omega)
      rw [if_pos t, if_pos k1010, if_pos k1010, d1, d3]
      unfold M_X8_toldOfWatcher
      rw [isOne_out hx2 (Or.inr (nI_le (a := k) (b := m / 10 - 1) (by omega) (by omega))), bx, if_pos k00, bx]
      exact ⟨_, rfl, rfl⟩
    · rw [if_neg t]; exact ⟨_, rfl, rfl⟩
def fcol (C : Nat) : Nat → Nat
  | 0 => 0
  | j + 1 => fcol C j ||| 2 ^ (j * C)
theorem fcol_mk : ∀ R, R < 5 → ∀ C, C < 5 → 1 ≤ C → fcol C R = mk (fun c => c % C == 0) (R * C) := by decide +kernel
theorem lcol_mk : ∀ R, R < 5 → ∀ C, C < 5 → 1 ≤ C → mk (fun c => c % C == 0) (R * C) * 2 ^ (C - 1) = mk (fun c => c % C == C - 1) (R * C) := by decide +kernel
theorem m_layX {R C : Nat} (h : HT) (v : VT) (hd : okD R C) : M_X0_layOut h v (nI R) (nI C) = some ((nI R, nI C, nI (2 ^ (R * C) - 1), nI (mk (fun c => c % C == 0) (R * C)), nI (mk (fun c => c % C == C - 1) (R * C)), 0, 0, 0, 0, 0, nI (R * C - 1), h.2.2.2.2.2.2.2.2.2.2.2), (0, v.2.1, v.2.2.1, v.2.2.2)) := by
  obtain ⟨h1, h2, h3, h4⟩ := id hd
  have h16 := hd.n16
  have hp := hd.pos
  have p16 : 2 ^ (R * C) ≤ 65536 := Nat.pow_le_pow_right (n := 2) (by omega) h16
  have p1 : 1 ≤ 2 ^ (R * C) := Nat.two_pow_pos _
  have st : ∀ f j, j ≤ R → R - j < f → M_X0_layOut_30 (nI R) (nI C) f ((nI R, nI C, nI (2 ^ (R * C) - 1), nI (fcol C j), h.2.2.2.2.1, h.2.2.2.2.2.1, h.2.2.2.2.2.2.1, h.2.2.2.2.2.2.2.1, h.2.2.2.2.2.2.2.2.1, h.2.2.2.2.2.2.2.2.2.1, h.2.2.2.2.2.2.2.2.2.2.1, h.2.2.2.2.2.2.2.2.2.2.2), v, nI j) = some ((nI R, nI C, nI (2 ^ (R * C) - 1), nI (mk (fun c => c % C == 0) (R * C)), nI (mk (fun c => c % C == C - 1) (R * C)), 0, 0, 0, 0, 0, nI (R * C - 1), h.2.2.2.2.2.2.2.2.2.2.2), (0, v.2.1, v.2.2.1, v.2.2.2)) := by
    intro f
    induction f with
    | zero => intro j _ h; omega
    | succ f ih =>
      intro j hj hf
      show M_X0_layOut_30b _ _ _ _ = _
      unfold M_X0_layOut_30b
      dsimp only
      rcases Nat.lt_or_ge j R with q | q
      · have e : nI j * nI C = nI (j * C) := (Int32.ofNat_mul j C).symm
        have jc : j * C ≤ 3 * 4 := Nat.mul_le_mul (by omega) h4
        rw [if_neg (nI_ge q (by omega)), e, m_bit (by omega), bx, n_or, ← nI_succ]
        exact ih (j + 1) (by omega) (by omega)
      · have e : j = R := by omega
        have c1 : nI C - (1 : Int32) = nI (C - 1) := n_sub (b := 1) h3
        have fb := mk_lt (fun c => c % C == 0) (R * C)
        have p3 : 2 ^ (C - 1) ≤ 2 ^ 3 := Nat.pow_le_pow_right (n := 2) (by omega) (by omega)
        have fb2 : mk (fun c => c % C == 0) (R * C) * 2 ^ (C - 1) ≤ 65536 * 2 ^ 3 := Nat.mul_le_mul (by omega) p3
        have e3 : nI R * nI C - (1 : Int32) = nI (R * C - 1) := by
          rw [show nI R * nI C = nI (R * C) from (Int32.ofNat_mul R C).symm]
          exact n_sub (b := 1) hp
        rw [e, if_pos (nI_le (Nat.le_refl _) (by omega)), fcol_mk R (by omega) C (by omega) h3, c1, n_shl (by omega) (by omega), lcol_mk R (by omega) C (by omega) h3]
        unfold M_X0_clearCells M_X4_clear M_X0_cells
        rw [bx, bx]
        dsimp only
        rw [bx, e3]
  unfold M_X0_layOut M_X0_cells
  have e4 : nI R * nI C = nI (R * C) := (Int32.ofNat_mul R C).symm
  have e5 : nI (2 ^ (R * C)) - (1 : Int32) = nI (2 ^ (R * C) - 1) := n_sub (b := 1) p1
  dsimp only
  rw [bx, e4, m_bit (by omega), bx, e5]
  exact st 200 0 (by omega) (by omega)
theorem m_layM {R C : Nat} (mb : BT) : ∃ s : AR, (∀ c, c < 16 → s c = nI 46) ∧ M_X9_lay mb (nI R) (nI C) = some (nI R, nI C, 0, nI R * nI C - 1, 0, mb.2.2.2.2.2.1, s, mb.2.2.2.2.2.2.2.1, mb.2.2.2.2.2.2.2.2.1, mb.2.2.2.2.2.2.2.2.2) := by
  have st : ∀ f j (s : AR), j ≤ 16 → 16 - j < f → (∀ c, c < j → s c = nI 46) → ∃ s' : AR, (∀ c, c < 16 → s' c = nI 46) ∧ M_X9_lay_12 (nI R) (nI C) f ((nI R, nI C, mb.2.2.1, mb.2.2.2.1, mb.2.2.2.2.1, mb.2.2.2.2.2.1, s, mb.2.2.2.2.2.2.2.1, mb.2.2.2.2.2.2.2.2.1, mb.2.2.2.2.2.2.2.2.2), nI j) = some (nI R, nI C, 0, nI R * nI C - 1, 0, mb.2.2.2.2.2.1, s', mb.2.2.2.2.2.2.2.1, mb.2.2.2.2.2.2.2.2.1, mb.2.2.2.2.2.2.2.2.2) := by
    intro f
    induction f with
    | zero => intro j s _ h; omega
    | succ f ih =>
      intro j s hj hf hs
      show ∃ s' : AR, _ ∧ M_X9_lay_12b _ _ _ _ = _
      unfold M_X9_lay_12b
      dsimp only
      rcases Nat.lt_or_ge j 16 with q | q
      · rw [if_neg (show ¬ (16 : Int32) ≤ nI j from nI_ge (b := 16) q (by omega)), if_pos (nI_in q (by omega)), nI_clamp (by omega), ← nI_succ]
        refine ih (j + 1) _ (by omega) (by omega) ?_
        intro c hc
        by_cases t : c = j
        · subst t; exact upd_at ..
        · rw [upd_ne _ _ t]; exact hs c (by omega)
      · have e : j = 16 := by omega
        subst e
        rw [if_pos (show (16 : Int32) ≤ nI 16 by decide +kernel)]
        exact ⟨s, hs, rfl⟩
  exact st 200 0 _ (by omega) (by omega) (fun c h => absurd h (by omega))
theorem mk_no {P : Nat → Bool} {n : Nat} (h : ∀ i, i < n → P i = false) : mk P n = 0 := by
  apply (mk_eq (a := 0) (Nat.two_pow_pos _) _).symm
  intro i hi
  rw [Nat.zero_testBit, h i hi]
theorem hOf_46 (R C dr th er : Nat) : hOf R C (fun _ => 46) dr th er = (nI R, nI C, nI (2 ^ (R * C) - 1), nI (mk (fun c => c % C == 0) (R * C)), nI (mk (fun c => c % C == C - 1) (R * C)), 0, 0, 0, 0, nI dr, nI th, nI er) := by
  have z : ∀ q : Nat, q ≠ 46 → nI (mk (fun _ => (46 : Nat) == q) (R * C)) = 0 := by
    intro q hq
    rw [mk_no (fun i _ => beq_eq_false_iff_ne.mpr (fun e => hq e.symm))]; rfl
  unfold hOf
  rw [z 35 (by omega), z 103 (by omega), z 99 (by omega), z 100 (by omega)]
theorem op_house {h : HT} {v : VT} {mb : BT} (x1 x2 : Int32) (r : RH h v mb) : ∃ z h' v' mb', M_X8_house h v x1 x2 = some (z, h', v') ∧ M_X9_house mb x1 x2 = some (z, mb') ∧ RH h' v' mb' := by
  have r0 := r
  obtain ⟨R, C, sg, dr, th, er, k, wc, wl, wd, ho, ⟨hx1, hx2, hx3⟩, hr⟩ := r
  subst hx1
  have e1 : M_X9_in x1.toInt64 (1 : Int64) (4 : Int64) = some (if 1 ≤ x1 ∧ x1 ≤ 4 then 1 else 0) := m_in x1 1 4
  have e2 : M_X9_in x2.toInt64 (1 : Int64) (4 : Int64) = some (if 1 ≤ x2 ∧ x2 ≤ 4 then 1 else 0) := m_in x2 1 4
  unfold M_X8_house M_X9_house
  rw [m_within, e1, m_within, e2]
  simp only [bx]
  by_cases q : 1 ≤ x1 ∧ x1 ≤ 4
  · rw [if_pos q, if_neg k10, if_neg k10]
    by_cases q2 : 1 ≤ x2 ∧ x2 ≤ 4
    · rw [if_pos q2, if_neg k10, if_neg k10]
      obtain ⟨R', a1, a2, rfl⟩ := rng (a := 1) (b := 4) (by omega) (by omega) q.1 q.2
      obtain ⟨C', a3, a4, rfl⟩ := rng (a := 1) (b := 4) (by omega) (by omega) q2.1 q2.2
      have hd : okD R' C' := ⟨a1, a2, a3, a4⟩
      have hp := hd.pos
      have e4 : nI R' * nI C' = nI (R' * C') := (Int32.ofNat_mul R' C').symm
      obtain ⟨s, hs, hl⟩ := m_layM (R := R') (C := C') mb
      rw [m_layX _ _ hd, hl, bx, bx]
      unfold M_X0_cells M_X9_cells
      dsimp only
      rw [bx, bx]
      refine ⟨_, _, _, _, rfl, rfl, R', C', fun _ => 46, 0, R' * C' - 1, er, 0, wc, wl, wd, ⟨hd, fun c hc => Or.inl rfl, ⟨hp, (show (46 : Nat) ≠ 35 by decide)⟩, ⟨by omega, (show (46 : Nat) ≠ 35 by decide)⟩, ho.2.2.2.2.1, by omega, fun w hw => absurd hw (by omega)⟩, ⟨(hOf_46 R' C' 0 (R' * C' - 1) er).symm, rfl, fun w hw => absurd hw (by omega)⟩, rfl, rfl, rfl, ?_, rfl, hr.2.2.2.2.2.1, ?_, fun w hw => absurd hw (by omega)⟩
      · show nI R' * nI C' - 1 = nI (R' * C' - 1)
        rw [e4]
        exact n_sub (b := 1) hp
      · have h16 := hd.n16
        exact fun c hc => hs c (by omega)
    · rw [if_neg q2, if_pos k00, if_pos k00]
      exact ⟨_, _, _, _, rfl, rfl, r0⟩
  · rw [if_neg q, if_pos k00, if_pos k00]
    exact ⟨_, _, _, _, rfl, rfl, r0⟩
/-- the first place from i on, of d places, that is not good; -6 -/
def fwv (G : Nat → Bool) : Nat → Nat → Int32
  | 0, _ => -6
  | d + 1, i => if G i then fwv G d (i + 1) else nI i
theorem fwv_cong {G G' : Nat → Bool} : ∀ d i, (∀ j, i ≤ j → j < i + d → G j = G' j) → fwv G d i = fwv G' d i := by
  intro d
  induction d with
  | zero => intro i _; rfl
  | succ d ih =>
    intro i h
    show (if G i then fwv G d (i + 1) else nI i) = (if G' i then fwv G' d (i + 1) else nI i)
    rw [h i (by omega) (by omega), ih (i + 1) (fun j h1 h2 => h j (by omega) (by omega))]
theorem fwv_cs (G : Nat → Bool) : ∀ d i, (fwv G d i = -6 ∧ ∀ j, i ≤ j → j < i + d → G j = true) ∨ (∃ j, i ≤ j ∧ j < i + d ∧ fwv G d i = nI j ∧ G j = false) := by
  intro d
  induction d with
  | zero => intro i; exact Or.inl ⟨rfl, fun j h1 h2 => absurd h1 (by omega)⟩
  | succ d ih =>
    intro i
    by_cases g : G i = true
    · have e : fwv G (d + 1) i = fwv G d (i + 1) := if_pos g
      rw [e]
      rcases ih (i + 1) with ⟨a, b⟩ | ⟨j, a, b, c, e⟩
      · refine Or.inl ⟨a, fun j h1 h2 => ?_⟩
        by_cases t : j = i
        · subst t; exact g
        · exact b j (by omega) (by omega)
      · exact Or.inr ⟨j, by omega, by omega, c, e⟩
    · exact Or.inr ⟨i, by omega, by omega, if_neg g, by simpa using g⟩
def isS (m : Nat) : Bool := m == 46 || m == 103 || m == 99 || m == 100 || m == 35
def isW (m : Nat) : Bool := m == 110 || m == 101 || m == 115 || m == 119 || m == 45
theorem ixS' : ∀ m, m < 127 → (M_J0_indexOf_0f7a4 0 (nI m)).map (fun z => decide (0 ≤ z)) = some (isS m) := by decide +kernel
theorem ixW' : ∀ m, m < 127 → (M_J0_indexOf_0f7a4 1 (nI m)).map (fun z => decide (0 ≤ z)) = some (isW m) := by decide +kernel
theorem ix_of {o : Option Int32} {b : Bool} (h : o.map (fun z => decide (0 ≤ z)) = some b) : ∃ z, o = some z ∧ (0 ≤ z ↔ b = true) := by
  cases o with
  | none => exact absurd h (by simp)
  | some z =>
    refine ⟨z, rfl, ?_⟩
    simp at h
    rw [← h]; simp
theorem mS' : ∀ m, m < 127 → M_X9_isSort (nI m) = some (if isS m then 1 else 0) := by decide +kernel
theorem mW' : ∀ m, m < 127 → M_X9_isStep (nI m) = some (if isW m then 1 else 0) := by decide +kernel
theorem chr_n : ∀ m, m < 127 → vp_nar .char (nI m) = nI m := by decide +kernel
/-- what the pads hold -/
def PdX (n : Nat) (f : Nat → Nat) (p : PT) (mo : OT) : Prop := n ≤ 40 ∧ p.1 = nI n ∧ mo.1 = nI n ∧ ∀ i, i < n → 33 ≤ f i ∧ f i ≤ 126 ∧ p.2 i = nI (f i) ∧ mo.2 i = nI (f i)
theorem m_signAt {n i : Nat} {f : Nat → Nat} {p : PT} {mo : OT} (hp : PdX n f p mo) (hi : i < n) : M_X2_signAt p (nI i) = some (nI (f i)) := by
  obtain ⟨hn, h1, h2, hf⟩ := hp
  obtain ⟨f1, f2, f3, f4⟩ := hf i hi
  unfold M_X2_signAt
  rw [if_neg (nI_pos (by omega)), h1, if_neg (nI_ge hi (by omega)), if_neg (nI_ge (a := i) (b := 40) (by omega) (by omega)), if_pos (nI_in (by omega) (by omega)), nI_clamp (by omega), f3, if_pos (chr_n _ (by omega))]
theorem fwX {n N ks : Nat} {f : Nat → Nat} {p : PT} {mo : OT} {K : Nat → Bool} (hp : PdX n f p mo) (hks : ks < 2) (hN : N < 2 ^ 31) (hK : ∀ m, m < 127 → (M_J0_indexOf_0f7a4 ks (nI m)).map (fun z => decide (0 ≤ z)) = some (K m)) : M_X2_firstWrong p ks (nI N) = some (fwv (fun i => decide (i < N) && K (f i)) n 0) := by
  obtain ⟨hn, h1, h2, hf⟩ := id hp
  have st : ∀ fu d i, i + d = n → d < fu → M_X2_firstWrong_2 p ks (nI N) fu (nI i) = some (fwv (fun i => decide (i < N) && K (f i)) d i) := by
    intro fu
    induction fu with
    | zero => intro d i _ h; omega
    | succ fu ih =>
      intro d i hd hfu
      show M_X2_firstWrong_2b _ _ _ _ _ = _
      unfold M_X2_firstWrong_2b
      rw [h1]
      cases d with
      | zero =>
        have e : i = n := by omega
        rw [e, if_pos (nI_le (Nat.le_refl _) (by omega))]
        rfl
      | succ d =>
        have hi : i < n := by omega
        obtain ⟨f1, f2, f3, f4⟩ := hf i hi
        obtain ⟨z, hz, hzk⟩ := ix_of (hK (f i) (by omega))
        show _ = some (if (decide (i < N) && K (f i)) = true then fwv (fun i => decide (i < N) && K (f i)) d (i + 1) else nI i)
        rw [if_neg (nI_ge hi (by omega)), m_signAt hp hi, bx, if_pos hks, hz, bx]
        rcases Nat.lt_or_ge i N with y | y
        · rw [if_neg (nI_ge y hN)]
          by_cases g : K (f i) = true
          · rw [if_pos (hzk.mpr g), if_pos (by simp [y, g]), ← nI_succ]
            exact ih d (i + 1) (by omega) (by omega)
          · rw [if_neg (fun w => g (hzk.mp w)), if_neg (by simp [g])]
        · rw [if_pos (nI_le y (by omega)), if_neg (by simp; omega)]
  unfold M_X2_firstWrong
  exact st 200 n 0 (by omega) (by omega)
theorem fwM {n : Nat} {f : Nat → Nat} {p : PT} {mo : OT} {mb : BT} {N : Nat} (hp : PdX n f p mo) (hc : M_X9_cells mb = some (nI N)) (hN : N ≤ 16) : M_X9_fault_15 mb mo 0 200 0 = some (if fwv (fun i => decide (i < N) && isS (f i)) n 0 = -6 then (if nI N ≤ nI n then -6 else nI n) else fwv (fun i => decide (i < N) && isS (f i)) n 0) := by
  obtain ⟨hn, h1, h2, hf⟩ := id hp
  have st : ∀ fu d i, i + d = n → d < fu → M_X9_fault_15 mb mo 0 fu (nI i) = some (if fwv (fun i => decide (i < N) && isS (f i)) d i = -6 then (if nI N ≤ nI n then -6 else nI n) else fwv (fun i => decide (i < N) && isS (f i)) d i) := by
    intro fu
    induction fu with
    | zero => intro d i _ h; omega
    | succ fu ih =>
      intro d i hd hfu
      show M_X9_fault_15b _ _ _ _ _ = _
      unfold M_X9_fault_15b M_X9_fault_51 M_X9_fault_64
      rw [h2]
      cases d with
      | zero =>
        have e : i = n := by omega
        rw [e, if_pos (nI_le (Nat.le_refl _) (by omega)), if_pos k00, hc, bx, if_pos (show fwv _ 0 n = -6 from rfl)]
        by_cases y : nI N ≤ nI n
        · rw [if_pos y, if_pos y]
        · rw [if_neg y, if_neg y]
      | succ d =>
        have hi : i < n := by omega
        obtain ⟨f1, f2, f3, f4⟩ := hf i hi
        have ne : ¬ nI i = (-6 : Int32) := fun w => absurd (show nI i < 0 by rw [w]; decide +kernel) (nI_pos (by omega))
        have ex : fwv (fun i => decide (i < N) && isS (f i)) (d + 1) i = (if (decide (i < N) && isS (f i)) = true then fwv (fun i => decide (i < N) && isS (f i)) d (i + 1) else nI i) := rfl
        rw [if_neg (nI_ge hi (by omega)), if_pos k00, hc, bx, if_pos (nI_in (c := i) (N := 40) (by omega) (by omega)), nI_clamp (by omega), f4, mS' _ (by omega), bx, ex]
        dsimp only
        rw [if_pos k00, if_neg k10, ← nI_succ]
        rcases Nat.lt_or_ge i N with y | y
        · rw [if_neg (nI_ge y (by omega))]
          by_cases g : isS (f i) = true
          · rw [if_pos g, if_neg k10, if_pos (show (decide (i < N) && isS (f i)) = true by simp [y, g])]
            exact ih d (i + 1) (by omega) (by omega)
          · rw [if_neg g, if_pos k00, if_neg (show ¬ (decide (i < N) && isS (f i)) = true by simp [g]), if_neg ne]
        · rw [if_pos (nI_le y (by omega)), if_neg (show ¬ (decide (i < N) && isS (f i)) = true by simp; omega), if_neg ne]
  exact st 200 n 0 (by omega) (by omega)
theorem fwM1 {n : Nat} {f : Nat → Nat} {p : PT} {mo : OT} {mb : BT} (hp : PdX n f p mo) : M_X9_fault_15 mb mo 1 200 0 = some (fwv (fun i => isW (f i)) n 0) := by
  obtain ⟨hn, h1, h2, hf⟩ := id hp
  have st : ∀ fu d i, i + d = n → d < fu → M_X9_fault_15 mb mo 1 fu (nI i) = some (fwv (fun i => isW (f i)) d i) := by
    intro fu
    induction fu with
    | zero => intro d i _ h; omega
    | succ fu ih =>
      intro d i hd hfu
      show M_X9_fault_15b _ _ _ _ _ = _
      unfold M_X9_fault_15b M_X9_fault_64
      rw [h2]
      cases d with
      | zero =>
        have e : i = n := by omega
        rw [e, if_pos (nI_le (Nat.le_refl _) (by omega)), if_neg k10]
        rfl
      | succ d =>
        have hi : i < n := by omega
        obtain ⟨f1, f2, f3, f4⟩ := hf i hi
        have ex : fwv (fun i => isW (f i)) (d + 1) i = (if isW (f i) = true then fwv (fun i => isW (f i)) d (i + 1) else nI i) := rfl
        rw [if_neg (nI_ge hi (by omega)), if_neg k10, if_pos (nI_in (c := i) (N := 40) (by omega) (by omega)), nI_clamp (by omega), f4, mW' _ (by omega), bx, ex]
        dsimp only
        rw [← nI_succ]
        by_cases g : isW (f i) = true
        · rw [if_pos g, if_neg k10, if_pos g]
          exact ih d (i + 1) (by omega) (by omega)
        · rw [if_neg g, if_pos k00, if_neg g]
  exact st 200 n 0 (by omega) (by omega)
theorem m_houseFault {n N : Nat} {f : Nat → Nat} {p : PT} {mo : OT} (hp : PdX n f p mo) (hN : N ≤ 16) : M_X2_houseFault p (nI N) = some (if fwv (fun i => decide (i < N) && isS (f i)) n 0 = -6 then (if nI N ≤ nI n then -6 else nI n) else fwv (fun i => decide (i < N) && isS (f i)) n 0) := by
  unfold M_X2_houseFault
  rw [fwX hp (by omega) (by omega) ixS', bx, hp.2.1]
  by_cases q : fwv (fun i => decide (i < N) && isS (f i)) n 0 = -6
  · rw [if_pos q, if_pos q]
    by_cases y : nI N ≤ nI n
    · rw [if_pos y, if_pos y]
    · rw [if_neg y, if_neg y]
  · rw [if_neg q, if_neg q]
theorem m_walkFault {n : Nat} {f : Nat → Nat} {p : PT} {mo : OT} (hp : PdX n f p mo) : M_X2_walkFault p = some (fwv (fun i => isW (f i)) n 0) := by
  unfold M_X2_walkFault
  have e : M_X2_firstWrong p 1 (40 : Int32) = _ := fwX (N := 40) hp (by omega) (by omega) ixW'
  rw [e, bx]
  congr 1
  apply fwv_cong
  intro j h1 h2
  have := hp.1
  have : j < 40 := by omega
  simp [this]
theorem op_fault {p : PT} {mo : OT} {h : HT} {v : VT} {mb : BT} (x : Int32) (rp : RPd p mo) (r : RH h v mb) : ∃ z, M_X8_fault p h x = some z ∧ M_X9_fault mb mo x = some z := by
  obtain ⟨R, C, sg, dr, th, er, k, wc, wl, wd, ho, ⟨hx1, hx2, hx3⟩, hr⟩ := r
  obtain ⟨n, f, hp⟩ := rp
  have hp : PdX n f p mo := hp
  subst hx1
  have h16 := ho.1.n16
  have e2 : M_X9_in x.toInt64 (0 : Int64) (1 : Int64) = some (if 0 ≤ x ∧ x ≤ 1 then 1 else 0) := m_in x 0 1
  unfold M_X8_fault M_X9_fault
  rw [e2, bx]
  by_cases c0 : x = 0
  · subst c0
    rw [if_pos k00, if_pos (show (0 : Int32) ≤ 0 ∧ (0 : Int32) ≤ 1 by decide +kernel), if_neg k10, m_cellsX, bx, m_houseFault hp h16, bx, fwM hp (m_cellsM hr) h16]
    exact ⟨_, rfl, rfl⟩
  · rw [if_neg c0]
    by_cases c1 : x = 1
    · subst c1
      rw [if_pos rfl, if_pos (show (0 : Int32) ≤ 1 ∧ (1 : Int32) ≤ 1 by decide +kernel), if_neg k10, m_walkFault hp, bx, fwM1 hp]
      exact ⟨_, rfl, rfl⟩
    · have nz : ¬ (0 ≤ x ∧ x ≤ 1) := by
        intro z
        obtain ⟨m, m1, m2, rfl⟩ := rng (a := 0) (b := 1) (by omega) (by omega) z.1 z.2
        obtain rfl | rfl : m = 0 ∨ m = 1 := by omega
        · exact c0 rfl
        · exact c1 rfl
      rw [if_neg c1, if_neg nz, if_pos k00]
      exact ⟨_, rfl, rfl⟩
