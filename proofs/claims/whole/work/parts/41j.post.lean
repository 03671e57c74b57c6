/-! post -/
theorem pc_16 (m : Nat) : pc16 m 16 ≤ 16 := by
  rw [pc_cn (m := m) 16 (fun i _ => rfl)]
  exact cn_le _ 16
theorem k4 : ¬ (4 : Int32) = 0 := by decide +kernel
/-- how many cells are bare with one watcher more -/
def pL (R C : Nat) (sg : Nat → Nat) (er bn kk : Nat) : Nat := pc16 (andn bn (spo R C sg er (kk / 4) (kk % 4) 0)) 16
theorem m_bareWith {R C bn kk : Nat} (sg : Nat → Nat) (dr th er : Nat) (h : okD R C) (her : er ≤ 6) (hb : bn < 2 ^ (R * C)) (hk : kk < 4 * (R * C)) : M_X8_bareWith (hOf R C sg dr th er) (nI bn) (nI kk) = some (nI (pL R C sg er bn kk)) := by
  have h16 := h.n16
  have d1 : nI kk / (4 : Int32) = nI (kk / 4) := pk_div (d := 4) (by omega) (by omega) (by omega)
  have d2 : nI kk - nI kk / (4 : Int32) * (4 : Int32) = nI (kk % 4) := n_rem (d := 4) (by omega) (by omega) (by omega)
  unfold M_X8_bareWith
  rw [if_pos k4, if_pos k4, d2, d1, show (0 : Int32) = nI 0 from rfl, m_spoiled sg dr th er h (by omega) (by omega) her (by omega), bx, n_andn, m_bitCount (lt16 h (andn_lt hb)), bx]
  rfl
theorem brs_upd (R C : Nat) (sg : Nat → Nat) (er : Nat) (wc wl wd : Nat → Nat) (k c l d : Nat) : ∀ n, n ≤ k → brs R C sg er (updN wc k c) (updN wl k l) (updN wd k d) n = brs R C sg er wc wl wd n := by
  intro n
  induction n with
  | zero => intro _; rfl
  | succ n ih =>
    intro h
    show andn (brs R C sg er (updN wc k c) (updN wl k l) (updN wd k d) n) (spo R C sg er (updN wc k c n) (updN wl k l n) (updN wd k d n)) = _
    rw [ih (by omega), updN_ne _ _ (by omega), updN_ne _ _ (by omega), updN_ne _ _ (by omega)]
    rfl
theorem m_bareMore {R C c l : Nat} {sg : Nat → Nat} {dr th er k : Nat} {wc wl wd : Nat → Nat} {mb : BT} {s1 s2 s3 : AR} (ho : okS R C sg dr th er k wc wl wd) (hr : rM R C sg dr th er k wc wl wd mb) (h4 : k < 4) (hs : ∀ w, w < k → s1 w = nI (wc w) ∧ s2 w = nI (wl w) ∧ s3 w = nI (wd w)) (h3 : s3 k = nI 0) (hc : c < R * C) (hw : sg c ≠ 35) (hl : l < 4) : M_X9_bare (mb.1, mb.2.1, mb.2.2.1, mb.2.2.2.1, nI (k + 1), mb.2.2.2.2.2.1, mb.2.2.2.2.2.2.1, upd s1 k (nI c), upd s2 k (nI l), s3) = some (nI (andn (brs R C sg er wc wl wd k) (spo R C sg er c l 0))) := by
  obtain ⟨g1, g2, g3, g4, g5, g6, g7⟩ := ho
  obtain ⟨r1, r2, r3, r4, r5, r6, r7, r8⟩ := hr
  have ho' : okS R C sg dr th er (k + 1) (updN wc k c) (updN wl k l) (updN wd k 0) := by
    refine ⟨g1, g2, g3, g4, g5, by omega, ?_⟩
    intro j hj
    by_cases t : j = k
    · subst t; rw [updN_at, updN_at, updN_at]; exact ⟨hc, hw, hl, by omega⟩
    · rw [updN_ne _ _ t, updN_ne _ _ t, updN_ne _ _ t]; exact g7 j (by omega)
  have hr' : rM R C sg dr th er (k + 1) (updN wc k c) (updN wl k l) (updN wd k 0) (mb.1, mb.2.1, mb.2.2.1, mb.2.2.2.1, nI (k + 1), mb.2.2.2.2.2.1, mb.2.2.2.2.2.2.1, upd s1 k (nI c), upd s2 k (nI l), s3) := by
    refine ⟨r1, r2, r3, r4, rfl, r6, r7, ?_⟩
    intro j hj
    by_cases t : j = k
    · subst t; rw [updN_at, updN_at, updN_at]; exact ⟨upd_at .., upd_at .., h3⟩
    · dsimp only
      rw [updN_ne _ _ t, updN_ne _ _ t, updN_ne _ _ t, upd_ne _ _ t, upd_ne _ _ t]; exact hs j (by omega)
  rw [m_bareR ho' hr']
  show some (nI (andn (brs R C sg er (updN wc k c) (updN wl k l) (updN wd k 0) k) (spo R C sg er (updN wc k c k) (updN wl k l k) (updN wd k 0 k)))) = _
  rw [brs_upd _ _ _ _ _ _ _ _ _ _ _ _ (Nat.le_refl k), updN_at, updN_at, updN_at]
/-- what is best so far: on both sides -/
def BP (R C : Nat) (sg : Nat → Nat) (er bn kk : Nat) (b1 f1 b2 f2 : Int32) : Prop := (b1 = -6 ∧ f1 = 17 ∧ b2 = -6 ∧ f2 = 1000 ∧ ∀ c, 4 * c < kk → sg c = 35) ∨ (∃ q, q < 4 * (R * C) ∧ b1 = nI q ∧ b2 = nI q ∧ f1 = nI (pL R C sg er bn q) ∧ f2 = nI (pL R C sg er bn q))
theorem op_post {h : HT} {v : VT} {mb : BT} (x : Int32) (rh : RH h v mb) : ∃ z mb', M_X8_post h v x = some z ∧ M_X9_post mb x = some (z, mb') ∧ RH h v mb' := by
  have rh0 := rh
  obtain ⟨R, C, sg, dr, th, er, k, wc, wl, wd, ho, ⟨hx1, hx2, hx3⟩, hr⟩ := rh
  subst hx1
  have h16 := ho.1.n16
  have hk := ho.2.2.2.2.2.1
  have her := ho.2.2.2.2.1
  have e2 : M_X9_in x.toInt64 (0 : Int64) (1 : Int64) = some (if 0 ≤ x ∧ x ≤ 1 then 1 else 0) := m_in x 0 1
  unfold M_X8_post M_X9_post M_X4_isFull
  rw [m_within, e2, bx, bx, hx2, hr.2.2.2.2.1]
  by_cases q : 0 ≤ x ∧ x ≤ 1
  · rw [if_pos q, if_neg k10, if_neg k10]
    obtain ⟨w, _, hw1, rfl⟩ := rng (a := 0) (b := 1) (by omega) (by omega) q.1 q.2
    rcases Nat.lt_or_ge k 4 with y | y
    · have ek : nI k + (1 : Int32) - 1 = nI k := by
        rw [← nI_succ]
        exact (n_sub (a := k + 1) (b := 1) (by omega)).trans (by rw [Nat.add_sub_cancel])
      rw [if_pos (show nI k < (4 : Int32) from nI_lt (b := 4) y (by omega)), bx, if_pos k00, if_neg (show ¬ nI k = (4 : Int32) from w_ne (b := 4) (by omega) (by omega) (by omega)), m_bare ho ⟨rfl, hx2, hx3⟩, bx, ek, if_pos (nI_in y (by omega)), nI_clamp (by omega), ← nI_succ]
      have hb := brs_lt R C sg er wc wl wd k
      generalize hbn : brs R C sg er wc wl wd k = bn at hb ⊢
      have ek2 : nI (k + 1) - (1 : Int32) = nI k := (n_sub (a := k + 1) (b := 1) (by omega)).trans (by rw [Nat.add_sub_cancel])
      have lp : ∀ fu kk b1 f1 b2 f2 (s1 s2 s3 : AR), kk ≤ 4 * (R * C) → 4 * (R * C) - kk < fu → (∀ w, w < k → s1 w = nI (wc w) ∧ s2 w = nI (wl w) ∧ s3 w = nI (wd w)) → s3 k = nI 0 → BP R C sg er bn kk b1 f1 b2 f2 → ∃ qq mb', qq < 4 * (R * C) ∧ M_X8_bestPost_9 (hOf R C sg dr th er) (nI bn) fu (b1, f1, nI kk) = some (nI qq) ∧ M_X9_post_56 (nI w) fu ((mb.1, mb.2.1, mb.2.2.1, mb.2.2.2.1, nI (k + 1), mb.2.2.2.2.2.1, mb.2.2.2.2.2.2.1, s1, s2, s3), b2, f2, nI kk) = some (if w = 0 then nI qq else nI (pL R C sg er bn qq), mb') ∧ RH (hOf R C sg dr th er) v mb' := by
        intro fu
        induction fu with
        | zero => intro kk b1 f1 b2 f2 s1 s2 s3 _ h; omega
        | succ fu ih =>
          intro kk b1 f1 b2 f2 s1 s2 s3 hkk hfu hs h3 hB
          have ex : ∀ a, M_X8_bestPost_9 (hOf R C sg dr th er) (nI bn) (fu + 1) a = M_X8_bestPost_9b (hOf R C sg dr th er) (nI bn) (M_X8_bestPost_9 (hOf R C sg dr th er) (nI bn) fu) a := fun a => rfl
          have em : ∀ a, M_X9_post_56 (nI w) (fu + 1) a = M_X9_post_56b (nI w) (M_X9_post_56 (nI w) fu) a := fun a => rfl
          rw [ex, em]
          unfold M_X8_bestPost_9b M_X9_post_56b M_X8_bestPost_51 M_X8_bestPost_65 M_X9_post_129 M_X9_post_142 M_X9_post_143
          dsimp only
          have c4 : (4 : Int32) * nI (R * C) = nI (4 * (R * C)) := pk_mul 4 (R * C)
          rw [m_cellsX, show M_X9_cells (mb.1, mb.2.1, mb.2.2.1, mb.2.2.2.1, nI (k + 1), mb.2.2.2.2.2.1, mb.2.2.2.2.2.2.1, s1, s2, s3) = M_X9_cells mb from rfl, m_cellsM hr, bx, bx, c4]
          rcases Nat.lt_or_ge kk (4 * (R * C)) with z | z
          · have d1 : nI kk / (4 : Int32) = nI (kk / 4) := pk_div (d := 4) (by omega) (by omega) (by omega)
            have d2 : nI kk - nI kk / (4 : Int32) * (4 : Int32) = nI (kk % 4) := n_rem (d := 4) (by omega) (by omega) (by omega)
            have hc : kk / 4 < R * C := by omega
            have hl : kk % 4 < 4 := by omega
            rw [if_neg (nI_ge z (by omega)), if_neg (nI_ge z (by omega)), if_pos k4, if_pos k4, d1, show M_X8_has (hOf R C sg dr th er).2.2.2.2.2.1 (nI (kk / 4)) = _ from m_hasS 35 ho.1 hc, show M_X9_isWall (mb.1, mb.2.1, mb.2.2.1, mb.2.2.2.1, nI (k + 1), mb.2.2.2.2.2.1, mb.2.2.2.2.2.2.1, s1, s2, s3) (nI (kk / 4)) = M_X9_isWall mb (nI (kk / 4)) from rfl, m_isWall ho hr hc, bx, bx, ← nI_succ]
            by_cases t : sg (kk / 4) = 35
            · rw [if_pos t, if_neg k10, if_neg k10, if_pos (Int32.le_refl f1)]
              refine ih (kk + 1) b1 f1 b2 f2 s1 s2 s3 (by omega) (by omega) hs h3 ?_
              rcases hB with ⟨p1, p2, p3, p4, p5⟩ | p
              · refine Or.inl ⟨p1, p2, p3, p4, fun c hcc => ?_⟩
                by_cases u : 4 * c < kk
                · exact p5 c u
                · have : c = kk / 4 := by omega
                  rw [this]; exact t
              · exact Or.inr p
            · have hp16 := pc_16 (andn bn (spo R C sg er (kk / 4) (kk % 4) 0))
              have hL : pL R C sg er bn kk ≤ 16 := hp16
              have bm := m_bareMore (c := kk / 4) (l := kk % 4) ho hr y hs h3 hc t hl
              rw [hbn] at bm
              have d2' : nI kk - nI (kk / 4) * (4 : Int32) = nI (kk % 4) := by rw [← d1]; exact d2
              rw [if_neg t, if_pos k00, if_pos k00, m_bareWith sg dr th er ho.1 her hb z, bx, if_pos k4, ek2, if_pos (nI_in y (by omega)), if_pos k4, if_pos (nI_in y (by omega)), nI_clamp (by omega), d2', bm, bx, m_ones (lt16 ho.1 (andn_lt hb)), bx]
              rw [show pc16 (andn bn (spo R C sg er (kk / 4) (kk % 4) 0)) 16 = pL R C sg er bn kk from rfl]
              have hs' : ∀ w, w < k → upd s1 k (nI (kk / 4)) w = nI (wc w) ∧ upd s2 k (nI (kk % 4)) w = nI (wl w) ∧ s3 w = nI (wd w) := by
                intro w hw
                rw [upd_ne _ _ (by omega), upd_ne _ _ (by omega)]
                exact hs w hw
              rcases hB with ⟨p1, p2, p3, p4, p5⟩ | ⟨qb, q1, q2, q3, q4, q5⟩
              · rw [p2, p4, if_neg (show ¬ (17 : Int32) ≤ nI (pL R C sg er bn kk) from nI_ge (b := 17) (by omega) (by omega)), if_neg (show ¬ (1000 : Int32) ≤ nI (pL R C sg er bn kk) from nI_ge (b := 1000) (by omega) (by omega)), if_neg (show ¬ (1000 : Int32) ≤ nI (pL R C sg er bn kk) from nI_ge (b := 1000) (by omega) (by omega))]
                exact ih (kk + 1) _ _ _ _ _ _ _ (by omega) (by omega) hs' h3 (Or.inr ⟨kk, z, rfl, rfl, rfl, rfl⟩)
              · have hq16 : pL R C sg er bn qb ≤ 16 := pc_16 _
                rw [q4, q5]
                by_cases u : pL R C sg er bn qb ≤ pL R C sg er bn kk
                · rw [if_pos (nI_le u (by omega)), if_pos (nI_le u (by omega)), if_pos (nI_le u (by omega))]
                  exact ih (kk + 1) _ _ _ _ _ _ _ (by omega) (by omega) hs' h3 (Or.inr ⟨qb, q1, q2, q3, rfl, rfl⟩)
                · rw [if_neg (nI_ge (by omega) (by omega)), if_neg (nI_ge (by omega) (by omega)), if_neg (nI_ge (by omega) (by omega))]
                  exact ih (kk + 1) _ _ _ _ _ _ _ (by omega) (by omega) hs' h3 (Or.inr ⟨kk, z, rfl, rfl, rfl, rfl⟩)
          · have e : kk = 4 * (R * C) := by omega
            have rhE : RH (hOf R C sg dr th er) v (mb.1, mb.2.1, mb.2.2.1, mb.2.2.2.1, nI k, mb.2.2.2.2.2.1, mb.2.2.2.2.2.2.1, s1, s2, s3) := ⟨R, C, sg, dr, th, er, k, wc, wl, wd, ho, ⟨rfl, hx2, hx3⟩, hr.1, hr.2.1, hr.2.2.1, hr.2.2.2.1, rfl, hr.2.2.2.2.2.1, hr.2.2.2.2.2.2.1, hs⟩
            rw [e, if_pos (nI_le (Nat.le_refl _) (by omega)), if_pos (nI_le (Nat.le_refl _) (by omega)), ek2]
            rcases hB with ⟨p1, p2, p3, p4, p5⟩ | ⟨qb, q1, q2, q3, q4, q5⟩
            · have := p5 dr (by have := ho.2.2.1.1; omega)
              exact absurd this ho.2.2.1.2
            · refine ⟨qb, _, q1, by rw [q2], ?_, rhE⟩
              by_cases u : w = 0
              · subst u
                rw [if_pos n0I, if_pos rfl, q3]
              · rw [if_neg (nI_ne0 (by omega) (by omega)), if_neg u, q5]
      obtain ⟨qq, mb', l0, l1, l2, l3⟩ := lp 200 0 (-6) 17 (-6) 1000 mb.2.2.2.2.2.2.2.1 mb.2.2.2.2.2.2.2.2.1 (upd mb.2.2.2.2.2.2.2.2.2 k 0) (by omega) (by omega) (fun w hw => by
        rw [upd_ne _ _ (by omega)]
        exact hr.2.2.2.2.2.2.2 w hw) (upd_at ..) (Or.inl ⟨rfl, rfl, rfl, rfl, fun c hc => absurd hc (by omega)⟩)
      unfold M_X8_bestPost
      rw [show M_X8_bestPost_9 (hOf R C sg dr th er) (nI bn) 200 (-6, 17, 0) = some (nI qq) from l1, bx, m_bareWith sg dr th er ho.1 her hb l0, bx]
      refine ⟨_, mb', ?_, l2, l3⟩
      by_cases u : w = 0
      · subst u
        rw [if_pos n0I, if_pos rfl]
      · rw [if_neg (nI_ne0 (by omega) (by omega)), if_neg u]
    · have e : k = 4 := by omega
      subst e
      rw [if_neg (show ¬ nI 4 < 4 by decide +kernel), bx, if_neg k10, if_pos (show nI 4 = 4 from rfl)]
      exact ⟨_, _, rfl, rfl, rh0⟩
  · rw [if_neg q, if_pos k00, if_pos k00]
    exact ⟨_, _, rfl, rfl, rh0⟩
