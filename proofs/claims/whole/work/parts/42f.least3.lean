/-! least: the class's side, and both -/
/-- costs of a layer: what a shortest way weighs, its last cell too -/
def CL (R C : Nat) (sg : Nat → Nat) (A g : Nat) (s : Nat → Nat) (co : AR) (n : Nat) : Prop := ∀ q, q < R * C → A.testBit q = true → isD R C sg A g n q → ∃ v, isM R C sg A g s n q v ∧ co q = nI (v + s q)
theorem m_cheapest {R C g c n : Nat} {sg s : Nat → Nat} {A : Nat} {y : YT} (dr th er : Nat) (h : okD R C) (hA : A < 2 ^ (R * C)) (hs1 : ∀ q, s q ≤ 1) (hc : c < R * C) (hd : isD R C sg A g (n + 1) c) (hy : CL R C sg A g s y.2 n) : ∃ v, M_X5_cheapestBefore y (hOf R C sg dr th er) (nI c) (nI (LM R C sg A g n)) = some (nI v) ∧ isM R C sg A g s (n + 1) c v := by
  have h16 := h.n16
  have h15 := D_15 h (n + 1) c hc hd
  have hAq : ∀ q, A.testBit q = true → q < R * C := by
    intro q hq
    rcases Nat.lt_or_ge q (R * C) with z | z
    · exact z
    · rw [Nat.testBit_lt_two_pow (Nat.lt_of_lt_of_le hA (Nat.pow_le_pow_right (by omega) z))] at hq
      exact absurd hq (by decide)
  have lp : ∀ fu w x, w ≤ 4 → 4 - w < fu → x ≤ 16 → MN R C sg A g s 16 n c w x → ∃ v, M_X5_cheapestBefore_7 y (hOf R C sg dr th er) (nI c) (nI (LM R C sg A g n)) fu (nI x, nI w) = some (nI v) ∧ MN R C sg A g s 16 n c 4 v := by
    intro fu
    induction fu with
    | zero => intro w x _ h; omega
    | succ fu ih =>
      intro w x hw hfu hx hm
      show ∃ v, M_X5_cheapestBefore_7b _ _ _ _ _ _ = _ ∧ _
      unfold M_X5_cheapestBefore_7b M_X5_cheapestBefore_51
      dsimp only
      rcases Nat.lt_or_ge w 4 with z | z
      · rw [if_neg (show ¬ (4 : Int32) ≤ nI w from nI_ge (b := 4) z (by omega)), m_bit (by omega), bx, m_stepTo sg dr th er h hc (by omega), bx, n_and, ← nI_succ]
        cases e : stp R C sg c w with
        | none =>
          rw [show oM none = 0 from rfl, Nat.zero_and, if_pos n0I]
          exact ih (w + 1) x (by omega) (by omega) hx (MN_skip hm (fun q y => by rw [e] at y; exact absurd y (by simp)) hd)
        | some q =>
          obtain ⟨q1, q2, q3⟩ := stp_lt h hc (show w < 5 by omega) e
          rw [show oM (some q) = 2 ^ q from rfl, one_and]
          by_cases u : (LM R C sg A g n).testBit q = true
          · obtain ⟨a1, a2⟩ := (LM_on q1).mp u
            obtain ⟨v, v1, v2⟩ := hy q q1 a1 a2
            have vle := ew_le hs1 n q v v1.1
            have sle := hs1 q
            have tk := MN_take hm z e a1 v1
            rw [if_pos u, if_neg (p_ne (by omega)), m_cellOf q (by omega), bx, m_at _ (by omega) (by omega), bx, v2]
            have em : (if nI (v + s q) < nI x then nI (v + s q) else nI x) = nI (if x ≤ v + s q then x else v + s q) := by
              by_cases t : x ≤ v + s q
              · rw [if_neg (nI_nlt t (by omega)), if_pos t]
              · rw [if_pos (nI_lt (by omega) (by omega)), if_neg t]
            rw [em]
            exact ih (w + 1) _ (by omega) (by omega) (by split <;> omega) tk
          · rw [if_neg u, if_pos n0I]
            refine ih (w + 1) x (by omega) (by omega) hx (MN_skip hm (fun q' y1 y2 y3 => ?_) hd)
            rw [e] at y1
            injection y1 with y1
            subst y1
            exact u ((LM_on q1).mpr ⟨y2, y3⟩)
      · have e : w = 4 := by omega
        subst e
        rw [if_pos (show (4 : Int32) ≤ nI 4 by decide +kernel)]
        exact ⟨x, rfl, hm⟩
  obtain ⟨v, l1, l2⟩ := lp 200 0 16 (by omega) (by omega) (Nat.le_refl _) (MN_0 ..)
  refine ⟨v, l1, MN_end l2 h hs1 (by omega) hd ?_⟩
  intro q h1 h2
  obtain ⟨v, v1, _⟩ := hy q (hAq q h1) h1 h2
  exact ⟨v, v1⟩
/-- what shows, as a set -/
theorem m_costLayer {R C g n shw : Nat} {sg s : Nat → Nat} {A : Nat} {y : YT} (dr th er : Nat) (h : okD R C) (hA : A < 2 ^ (R * C)) (hs1 : ∀ q, s q ≤ 1) (hn : n + 1 ≤ 15) (hl : ∀ k, k ≤ n + 1 → y.1 k = nI (LM R C sg A g k)) (hsw : shw < 2 ^ (R * C)) (hss : ∀ q, q < R * C → q ≠ g → A.testBit q = true → s q = if shw.testBit q = true then 1 else 0) (hy : ∀ m, m ≤ n → CL R C sg A g s y.2 m) : ∃ y', M_X5_costLayer y (hOf R C sg dr th er) (nI (n + 1)) (nI shw) = some y' ∧ y'.1 = y.1 ∧ ∀ m, m ≤ n + 1 → CL R C sg A g s y'.2 m := by
  have h16 := h.n16
  have hsw16 := lt16 h hsw
  have lp : ∀ fu c (x : YT), c ≤ 16 → 16 - c < fu → x.1 = y.1 → (∀ m, m ≤ n → CL R C sg A g s x.2 m) → (∀ q, q < c → q < R * C → A.testBit q = true → isD R C sg A g (n + 1) q → ∃ v, isM R C sg A g s (n + 1) q v ∧ x.2 q = nI (v + s q)) → ∃ y', M_X5_costLayer_3 (hOf R C sg dr th er) (nI (n + 1)) (nI shw) fu (x, nI c) = some y' ∧ y'.1 = y.1 ∧ ∀ m, m ≤ n + 1 → CL R C sg A g s y'.2 m := by
    intro fu
    induction fu with
    | zero => intro c x _ h; omega
    | succ fu ih =>
      intro c x hc hfu hx1 hx2 hx3
      show ∃ y', M_X5_costLayer_3b _ _ _ _ _ = _ ∧ _
      unfold M_X5_costLayer_3b M_X5_costLayer_66 M_X5_costLayer_68
      dsimp only
      rcases Nat.lt_or_ge c 16 with z | z
      · have hll := lt16 h (LM_lt R C sg A g (n + 1))
        have e1 : nI (n + 1) - (1 : Int32) = nI n := (n_sub (a := n + 1) (b := 1) (by omega)).trans (by rw [Nat.add_sub_cancel])
        rw [if_neg (nI_ge z (by omega)), e1, m_at _ (by omega) (by omega), bx, m_at _ (by omega) (by omega), bx, hx1, hl (n + 1) (Nat.le_refl _), hl n (by omega), m_has (by omega) (by omega), bx]
        by_cases u : (LM R C sg A g (n + 1)).testBit c = true
        · have hcN : c < R * C := by
            rcases Nat.lt_or_ge c (R * C) with t | t
            · exact t
            · rw [Nat.testBit_lt_two_pow (Nat.lt_of_lt_of_le (LM_lt ..) (Nat.pow_le_pow_right (by omega) t))] at u
              exact absurd u (by decide)
          obtain ⟨a1, a2⟩ := (LM_on hcN).mp u
          obtain ⟨v, v1, v2⟩ := m_cheapest dr th er h hA hs1 hcN a2 (hx2 n (Nat.le_refl _))
          have ng : c ≠ g := fun t => a2.2 0 (by omega) t
          have ss := hss c hcN ng a1
          have go : ∀ i : Int32, i = nI (s c) → ∃ y', (if vin (nI c) 16 then M_X5_costLayer_3 (hOf R C sg dr th er) (nI (n + 1)) (nI shw) fu ((y.1, (upd x.2 (nI c).toNatClampNeg (nI v + i))), (nI c + (1 : Int32))) else none) = some y' ∧ y'.1 = y.1 ∧ ∀ m, m ≤ n + 1 → CL R C sg A g s y'.2 m := by
            intro i hi
            rw [if_pos (nI_in z (by omega)), nI_clamp (by omega), hi, nI_add, ← nI_succ]
            refine ih (c + 1) _ (by omega) (by omega) rfl ?_ ?_
            · intro m hm q q1 qa q2
              have nq : q ≠ c := by
                intro t
                subst t
                have := D_uniq q2 a2
                omega
              show ∃ v', _ ∧ upd x.2 c (nI (v + s c)) q = _
              rw [upd_ne _ _ nq]
              exact hx2 m hm q q1 qa q2
            · intro q q0 q1 qa q2
              show ∃ v', _ ∧ upd x.2 c (nI (v + s c)) q = _
              by_cases t : q = c
              · subst t
                rw [upd_at]
                exact ⟨v, v2, rfl⟩
              · rw [upd_ne _ _ t]
                exact hx3 q (by omega) q1 qa q2
          rw [if_pos u, if_neg k10, v1, bx, m_has (by omega) (by omega), bx]
          by_cases t : shw.testBit c = true
          · rw [if_pos t] at ss
            rw [if_pos t, if_neg k10]
            exact go 1 (by rw [ss]; rfl)
          · rw [if_neg t] at ss
            rw [if_neg t, if_pos k00]
            exact go 0 (by rw [ss]; rfl)
        · rw [if_neg u, if_pos k00, ← nI_succ]
          refine ih (c + 1) x (by omega) (by omega) hx1 hx2 ?_
          intro q q0 q1 qa q2
          by_cases t : q = c
          · subst t
            exact absurd ((LM_on q1).mpr ⟨qa, q2⟩) u
          · exact hx3 q (by omega) q1 qa q2
      · have e : c = 16 := by omega
        subst e
        rw [if_pos (show nI 16 ≤ nI 16 by decide +kernel)]
        refine ⟨x, rfl, hx1, fun m hm => ?_⟩
        by_cases t : m = n + 1
        · subst t
          exact fun q q1 qa q2 => hx3 q (by omega) q1 qa q2
        · exact hx2 m (by omega)
  exact lp 200 0 y (by omega) (by omega) rfl hy (fun q h => absurd h (by omega))
theorem op_least {h : HT} {v : VT} {mb : BT} (y : YT) (mf mz : AR) (x : Int32) (rh : RH h v mb) : ∃ z y' mf' mz', M_X8_least h v y x = some (z, y') ∧ M_X9_least mb mf mz x = some (z, mf', mz') := by
  obtain ⟨R, C, sg, dr, th, er, k, wc, wl, wd, ho, ⟨hx1, hx2, hx3⟩, hr⟩ := rh
  subst hx1
  have h16 := ho.1.n16
  obtain ⟨d1, d2⟩ := ho.2.2.1
  obtain ⟨t1, t2⟩ := ho.2.2.2.1
  have hb := brs_lt R C sg er wc wl wd k
  have hA := opn_lt R C sg
  have hA16 := lt16 ho.1 hA
  have hAs : ∀ c, c < R * C → (opn R C sg).testBit c = true → sg c ≠ 35 := fun c hc z => (opn_s hc).mp z
  have oth := (opn_s t1).mpr t2
  have odr := (opn_s d1).mpr d2
  have e2 : M_X9_in x.toInt64 (0 : Int64) (1 : Int64) = some (if 0 ≤ x ∧ x ≤ 1 then 1 else 0) := m_in x 0 1
  unfold M_X8_least M_X9_least
  rw [m_within, e2, bx, bx]
  by_cases q : 0 ≤ x ∧ x ≤ 1
  · rw [if_pos q, if_neg k10, if_neg k10]
    obtain ⟨w, _, hw1, rfl⟩ := rng (a := 0) (b := 1) (by omega) (by omega) q.1 q.2
    obtain ⟨f1, g1, g2⟩ := m_findFar (g := th) mf ho hr hA16 t1
    rw [show M_X8_bit (hOf R C sg dr th er).2.2.2.2.2.2.2.2.2.1 = some (nI (2 ^ dr)) from m_bit (by omega), show M_X8_bit (hOf R C sg dr th er).2.2.2.2.2.2.2.2.2.2.1 = some (nI (2 ^ th)) from m_bit (by omega), bx, bx, m_open, bx, m_floor ho hr, bx, hr.2.2.2.1, g1, bx, hr.2.2.1, if_pos (nI_in (c := dr) (N := 16) (by omega) (by omega)), nI_clamp (by omega)]
    rcases m_measure dr th er y ho.1 hA hAs t1 oth d1 with ⟨n, ly, m1, m2, m3, m4⟩ | ⟨m1, ly, m2⟩
    · have back := D_rev ho.1 t1 t2 oth d1 d2 odr m2
      rw [show M_X5_measure y (hOf R C sg dr th er) (nI (2 ^ th)) (nI (2 ^ dr)) (nI (andn (2 ^ (R * C) - 1) (sgn R C sg 35))) = _ from m3, bx, (FS_at g2 d1 d2 back).2, if_neg (show ¬ nI n = 1000 from w_ne (b := 1000) (by omega) (by omega) (by omega))]
      dsimp only
      rw [if_neg (show ¬ nI n = -6 from m6ne (by omega))]
      by_cases c1 : w = 1
      · subst c1
        rw [if_pos (show nI 1 = 1 from rfl), if_pos (show nI 1 = 1 from rfl)]
        exact ⟨_, _, _, _, rfl, rfl⟩
      · rw [if_neg (show ¬ nI w = 1 from w_ne (b := 1) (by omega) (by omega) c1), if_neg (show ¬ nI w = 1 from w_ne (b := 1) (by omega) (by omega) c1)]
        obtain ⟨v1, f2, s2, a1, a2⟩ := m_fewestShown (last := true) f1 mz ho hr rfl t1 t2 d1 d2 back
        obtain ⟨v2, f3, s3, b1, b2⟩ := m_fewestShown (last := false) f2 s2 ho hr rfl d1 d2 t1 t2 m2
        rw [show M_X9_fewestShown mb f1 mz (nI dr) (nI th) 1 = _ from a1, bx]
        dsimp only
        rw [show M_X9_fewestShown mb f2 s2 (nI th) (nI dr) 0 = _ from b1, bx, nI_add]
        generalize hbn : brs R C sg er wc wl wd k = bn at hb a2 b2
        unfold M_X5_fewestShowingSteps
        cases n with
        | zero =>
          rw [if_pos n0I, bx]
          have z1 := M_uniq a2 (M_0 back)
          have z2 := M_uniq b2 (M_0 m2)
          rw [z1, z2]
          exact ⟨_, _, _, _, rfl, rfl⟩
        | succ n =>
          have ne : th ≠ dr := fun z => m2.2 0 (by omega) z
          obtain ⟨cf, c1, c2⟩ := m_fill (n := 16) y.2 0 (by omega)
          have hs1 := sw_le bn dr false
          have hshw : andn (opn R C sg) bn < 2 ^ (R * C) := andn_lt hA
          have hss : ∀ q, q < R * C → q ≠ dr → (opn R C sg).testBit q = true → sw bn dr false q = if (andn (opn R C sg) bn).testBit q = true then 1 else 0 := by
            intro q _ hq ha
            rw [andn_bit, ha]
            unfold sw
            cases bn.testBit q
            · rw [if_neg (show ¬ false = true by decide), if_neg (fun z => hq z.1)]; rfl
            · rw [if_pos (show true = true from rfl)]; rfl
          rw [if_neg (show ¬ nI (n + 1) = 0 from nI_ne0 (by omega) (by omega)), m_open, bx, m_bare ho ⟨rfl, hx2, hx3⟩, hbn, bx]
          dsimp only
          rw [c1, bx, n_andn]
          have lp : ∀ fu d (yy : YT), 1 ≤ d → d ≤ n + 2 → n + 2 - d < fu → yy.1 = ly → (∀ m, m ≤ d - 1 → CL R C sg (opn R C sg) dr (sw bn dr false) yy.2 m) → ∃ yy', M_X5_fewestShowingSteps_29 (hOf R C sg dr th er) v (nI (n + 1)) fu (yy, nI (andn (opn R C sg) bn), nI d) = some (nI (2 * v2 + (if (andn (opn R C sg) bn).testBit th = true then 1 else 0)), yy') := by
            intro fu
            induction fu with
            | zero => intro d yy _ _ h; omega
            | succ fu ih =>
              intro d yy hd1 hd2 hfu hy1 hy2
              show ∃ yy', M_X5_fewestShowingSteps_29b _ _ _ _ _ = _
              unfold M_X5_fewestShowingSteps_29b M_X5_fewestShowingSteps_90
              dsimp only
              rcases Nat.lt_or_ge (n + 1) d with z | z
              · have ed : d - 1 = n + 1 := by omega
                rw [ed] at hy2
                have e1 : nI (n + 1) - (1 : Int32) = nI n := (n_sub (a := n + 1) (b := 1) (by omega)).trans (by rw [Nat.add_sub_cancel])
                obtain ⟨vv, u1, u2⟩ := m_cheapest (y := yy) dr th er ho.1 hA hs1 t1 m2 (hy2 n (by omega))
                have ev := M_uniq u2 b2
                subst ev
                have hsw16 := lt16 ho.1 hshw
                rw [if_pos (nI_lt z (by omega)), e1, m_at _ (by omega) (by omega), bx, hy1, m4 n (by omega), show M_X5_cheapestBefore yy (hOf R C sg dr th er) (hOf R C sg dr th er).2.2.2.2.2.2.2.2.2.2.1 (nI (LM R C sg (opn R C sg) dr n)) = some (nI vv) from u1, bx, show M_X8_has (nI (andn (opn R C sg) bn)) (hOf R C sg dr th er).2.2.2.2.2.2.2.2.2.2.1 = _ from m_has (c := th) (by omega) (by omega), bx, show (2 : Int32) * nI vv = nI (2 * vv) from pk_mul 2 vv]
                by_cases tt : (andn (opn R C sg) bn).testBit th = true
                · rw [if_pos tt, if_neg k10, if_pos tt, ← nI_succ]
                  exact ⟨_, rfl⟩
                · rw [if_neg tt, if_pos k00, if_neg tt, show nI (2 * vv) + (0 : Int32) = nI (2 * vv + 0) from nI_add _ 0]
                  exact ⟨_, rfl⟩
              · obtain ⟨dd, rfl⟩ : ∃ dd, d = dd + 1 := ⟨d - 1, by omega⟩
                rw [Nat.add_sub_cancel] at hy2
                obtain ⟨y', p1, p2, p3⟩ := m_costLayer (y := yy) dr th er ho.1 hA hs1 (by omega) (fun k hk => by rw [hy1]; exact m4 k (by omega)) hshw hss hy2
                rw [if_neg (nI_nlt z (by omega)), p1, bx, ← nI_succ]
                exact ih (dd + 1 + 1) y' (by omega) (by omega) (by omega) (p2.trans hy1) p3
          obtain ⟨yy', l1⟩ := lp 200 1 (ly, cf) (by omega) (by omega) (by omega) rfl (by
            intro m hm q _ _ h0
            have em : m = 0 := by omega
            subst em
            have eq : q = dr := h0.1
            have s0 : sw bn dr false q = 0 := by
              unfold sw
              split
              · rfl
              · rw [if_pos ⟨eq, rfl⟩]
            refine ⟨0, M_0 h0, ?_⟩
            rw [s0]
            exact c2 q (by omega))
          have key : v1 + v2 = 2 * v2 + (if (andn (opn R C sg) bn).testBit th = true then 1 else 0) := by
            have st := hss th t1 ne oth
            obtain ⟨u', r1, r2⟩ := ew_rev ho.1 (n + 1) th v2 t1 t2 oth b2.1
            have sdr : sw bn dr false dr = 0 := by
              unfold sw
              split
              · rfl
              · rw [if_pos ⟨rfl, rfl⟩]
            have he : ∀ q, q ≠ dr → sw bn dr false q = sw bn th true q := by
              intro q hq
              unfold sw
              split
              · rfl
              · rw [if_neg (fun z => hq z.1), if_neg (fun z => absurd z.2 (by decide))]
            have le1 := a2.2 u' (ew_door back he (n + 1) dr u' (Nat.le_refl _) r1)
            have w1 := ew_door back (fun q hq => (he q hq).symm) (n + 1) dr v1 (Nat.le_refl _) a2.1
            obtain ⟨u2, r3, r4⟩ := ew_rev ho.1 (n + 1) dr v1 d1 d2 odr w1
            have le2 := b2.2 u2 r3
            rw [← st]
            omega
          rw [show M_X5_fewestShowingSteps_29 (hOf R C sg dr th er) v (nI (n + 1)) 200 ((ly, cf), nI (andn (andn (2 ^ (R * C) - 1) (sgn R C sg 35)) bn), 1) = _ from l1, bx, key]
          exact ⟨_, _, _, _, rfl, rfl⟩
    · have no : ∀ n, ¬ wk R C sg (opn R C sg) th n dr := fun n z => m1 n (wk_rev ho.1 n dr d1 d2 odr z)
      rw [show M_X5_measure y (hOf R C sg dr th er) (nI (2 ^ th)) (nI (2 ^ dr)) (nI (andn (2 ^ (R * C) - 1) (sgn R C sg 35))) = _ from m2, bx, FS_no g2 d1 d2 no, if_pos (show nI 1000 = 1000 from rfl)]
      dsimp only
      rw [if_pos rfl]
      exact ⟨_, _, _, _, rfl, rfl⟩
  · rw [if_neg q, if_pos k00, if_pos k00]
    exact ⟨_, _, _, _, rfl, rfl⟩
