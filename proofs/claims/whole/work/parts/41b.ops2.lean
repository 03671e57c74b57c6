/-! Cells, places, watchers, signs: op by op -/
theorem k10 : ¬ (1 : Int32) = 0 := by decide +kernel
theorem k00 : (0 : Int32) = 0 := rfl
theorem i10 : ((1 : Int32) = 0) = False := eq_false (by decide +kernel)
theorem i00 : ((0 : Int32) = 0) = True := eq_true rfl
theorem bx {α β : Type} (a : α) (f : α → Option β) : (some a).bind f = f a := rfl
theorem n00 : (nI 0 = (0 : Int32)) = True := eq_true rfl
theorem n10 : (nI 1 = (0 : Int32)) = False := eq_false (by decide +kernel)
theorem n01 : (nI 0 = (1 : Int32)) = False := eq_false (by decide +kernel)
theorem n11 : (nI 1 = (1 : Int32)) = True := eq_true rfl
theorem sgn_bit {R C c : Nat} {sg : Nat → Nat} (q : Nat) (hc : c < R * C) : (sgn R C sg q).testBit c = (sg c == q) := by
  unfold sgn; rw [mk_bit]; simp [hc]
theorem m_cellsX {R C : Nat} (sg : Nat → Nat) (dr th er : Nat) : M_X0_cells (hOf R C sg dr th er) = some (nI (R * C)) := congrArg some (Int32.ofNat_mul R C).symm
theorem m_cellsM {R C : Nat} {sg : Nat → Nat} {dr th er k : Nat} {wc wl wd : Nat → Nat} {mb : BT} (hr : rM R C sg dr th er k wc wl wd mb) : M_X9_cells mb = some (nI (R * C)) := by
  unfold M_X9_cells
  rw [hr.1, hr.2.1]
  exact congrArg some (Int32.ofNat_mul R C).symm
theorem cell_cs {x : Int32} {n : Nat} (hn : n < 2 ^ 31) : (∃ c, c < n ∧ x = nI c) ∨ x < 0 ∨ nI n ≤ x := by
  by_cases h : x < 0
  · exact Or.inr (Or.inl h)
  · obtain ⟨j, hj, e⟩ := nI_of h
    subst e
    rcases Nat.lt_or_ge j n with q | q
    · exact Or.inl ⟨j, q, rfl⟩
    · exact Or.inr (Or.inr (nI_le q hj))
theorem in_bad {x : Int32} {n : Nat} (hn : n < 2 ^ 31) (h : x < 0 ∨ nI n ≤ x) : M_X9_in x.toInt64 (0 : Int64) ((nI n - (1 : Int32)).toInt64) = some 0 := by
  have z : (0 : Int64) = (0 : Int32).toInt64 := by decide +kernel
  rw [z, m_in]
  congr 1
  rw [if_neg]
  intro ab
  rcases h with h | h
  · exact absurd ab.1 (Int32.not_le.mpr h)
  · rcases Nat.eq_zero_or_pos n with y | y
    · subst y
      exact absurd (Int32.le_trans ab.1 ab.2) (by decide +kernel)
    · have e : nI n - 1 = nI (n - 1) := n_sub (a := n) (b := 1) y
      rw [e] at ab
      exact absurd (Int32.le_trans h ab.2) (nI_ge (by omega) hn)
theorem in_good {c n : Nat} (hc : c < n) (hn : n < 2 ^ 31) : M_X9_in (nI c).toInt64 (0 : Int64) ((nI n - (1 : Int32)).toInt64) = some 1 := by
  rw [in_n (by omega) (by omega) hn, if_pos hc]
theorem isCX_in {R C c : Nat} (sg : Nat → Nat) (dr th er : Nat) (h : okD R C) (hc : c < R * C) : M_X0_isCell (hOf R C sg dr th er) (nI c) = some 1 := by
  have h16 := h.n16
  unfold M_X0_isCell
  rw [if_neg (nI_pos (by omega)), m_cellsX, Option.bind_some, if_neg (nI_ge hc (by omega))]
theorem isCX_out {R C : Nat} {x : Int32} (sg : Nat → Nat) (dr th er : Nat) (hx : x < 0 ∨ nI (R * C) ≤ x) : M_X0_isCell (hOf R C sg dr th er) x = some 0 := by
  unfold M_X0_isCell
  by_cases q : x < 0
  · rw [if_pos q]
  · rw [if_neg q, m_cellsX, Option.bind_some, if_pos (hx.resolve_left q)]
theorem isCM_in {R C c : Nat} {sg : Nat → Nat} {dr th er k : Nat} {wc wl wd : Nat → Nat} {mb : BT} (h : okD R C) (hr : rM R C sg dr th er k wc wl wd mb) (hc : c < R * C) : M_X9_isCell mb (nI c) = some 1 := by
  have h16 := h.n16
  unfold M_X9_isCell
  rw [m_cellsM hr, Option.bind_some, in_good hc (by omega), Option.bind_some, if_pos (by decide +kernel)]
theorem isCM_out {R C : Nat} {x : Int32} {sg : Nat → Nat} {dr th er k : Nat} {wc wl wd : Nat → Nat} {mb : BT} (h : okD R C) (hr : rM R C sg dr th er k wc wl wd mb) (hx : x < 0 ∨ nI (R * C) ≤ x) : M_X9_isCell mb x = some 0 := by
  have h16 := h.n16
  unfold M_X9_isCell
  rw [m_cellsM hr, Option.bind_some, in_bad (by omega) hx, Option.bind_some, if_pos (by decide +kernel)]
theorem m_hasS {R C c : Nat} {sg : Nat → Nat} (q : Nat) (h : okD R C) (hc : c < R * C) : M_X8_has (nI (sgn R C sg q)) (nI c) = some (if sg c = q then 1 else 0) := by
  have h16 := h.n16
  have := lt16 h (sgn_lt R C sg q)
  rw [m_has (by omega) (by omega), sgn_bit q hc]
  by_cases y : sg c = q
  · simp [y]
  · simp [y]
theorem m_signOf {R C c : Nat} {sg : Nat → Nat} (dr th er : Nat) (h : okD R C) (hc : c < R * C) (hs : OKs (sg c)) : M_X0_signOf (hOf R C sg dr th er) (nI c) = some (nI (sg c)) := by
  have e : M_X0_signOf (hOf R C sg dr th er) (nI c) = (M_X8_has (nI (sgn R C sg 35)) (nI c)).bind fun z5 => if z5 = 0 then ((M_X8_has (nI (sgn R C sg 103)) (nI c)).bind fun z19 => if z19 = 0 then ((M_X8_has (nI (sgn R C sg 99)) (nI c)).bind fun z33 => if z33 = 0 then ((M_X8_has (nI (sgn R C sg 100)) (nI c)).bind fun z47 => if z47 = 0 then (some (46 : Int32)) else (some (100 : Int32))) else (some (99 : Int32))) else (some (103 : Int32))) else (some (35 : Int32)) := rfl
  rw [e, m_hasS _ h hc, m_hasS _ h hc, m_hasS _ h hc, m_hasS _ h hc]
  simp only [bx]
  rcases hs with z | z | z | z | z <;> rw [z] <;> decide +kernel
theorem op_cell {h : HT} {v : VT} {mb : BT} (x : Int32) (r : RH h v mb) : ∃ z, M_X8_cell h x = some z ∧ M_X9_cell mb x = some z := by
  obtain ⟨R, C, sg, dr, th, er, k, wc, wl, wd, ho, ⟨hx1, hx2, hx3⟩, hr⟩ := r
  subst hx1
  have h16 := ho.1.n16
  unfold M_X8_cell M_X9_cell
  rcases cell_cs (x := x) (n := R * C) (by omega) with ⟨c, hc, rfl⟩ | q
  · rw [isCX_in _ _ _ _ ho.1 hc, isCM_in ho.1 hr hc, bx, bx, if_neg k10, if_neg k10, m_signOf _ _ _ ho.1 hc (ho.2.1 c hc), bx, if_pos (nI_in (by omega) (by omega)), nI_clamp (by omega), hr.2.2.2.2.2.2.1 c hc]
    exact ⟨_, rfl, rfl⟩
  · rw [isCX_out _ _ _ _ q, isCM_out ho.1 hr q, bx, bx, if_pos k00, if_pos k00]
    exact ⟨_, rfl, rfl⟩
theorem op_place {h : HT} {v : VT} {mb : BT} (x1 x2 : Int32) (r : RH h v mb) : ∃ z h' mb', M_X8_place h x1 x2 = some (z, h') ∧ M_X9_place mb x1 x2 = some (z, mb') ∧ RH h' v mb' := by
  have r0 := r
  obtain ⟨R, C, sg, dr, th, er, k, wc, wl, wd, ho, ⟨hx1, hx2, hx3⟩, hr⟩ := r
  subst hx1
  have h16 := ho.1.n16
  have e1 := m_within x1 0 1
  have e2 : M_X9_in x1.toInt64 (0 : Int64) (1 : Int64) = some (if 0 ≤ x1 ∧ x1 ≤ 1 then 1 else 0) := m_in x1 0 1
  unfold M_X8_place M_X9_place
  rcases cell_cs (x := x2) (n := R * C) (by omega) with ⟨c, hc, rfl⟩ | q
  · have a1 := isCX_in sg dr th er ho.1 hc
    have a2 := isCM_in ho.1 hr hc
    have b1 : M_X8_has (hOf R C sg dr th er).2.2.2.2.2.1 (nI c) = some (if sg c = 35 then 1 else 0) := m_hasS 35 ho.1 hc
    have b2 := m_isWall ho hr hc
    rw [a1, a2, bx, bx, if_neg k10, if_neg k10, e1, e2, bx, bx]
    by_cases q : 0 ≤ x1 ∧ x1 ≤ 1
    · rw [if_pos q, if_neg k10, if_neg k10, b1, b2, bx, bx]
      obtain ⟨n, hn, rfl⟩ := nI_of2 (M := 1) (n := 1) rfl (fun z => absurd q.1 (Int32.not_le.mpr z)) q.2
      obtain ⟨g1, g2, g3, g4, g5, g6, g7⟩ := ho
      obtain ⟨r1, r2, r3, r4, r5, r6, r7, r8⟩ := hr
      by_cases w : sg c = 35
      · rw [if_pos w, if_neg k10, if_neg k10]
        exact ⟨_, _, _, rfl, rfl, r0⟩
      · rw [if_neg w, if_pos k00, if_pos k00]
        obtain rfl | rfl : n = 0 ∨ n = 1 := by omega
        · rw [if_pos (show nI 0 = 0 from rfl), if_pos (show nI 0 = 0 from rfl)]
          unfold M_X9_place_49
          rw [if_pos (show nI 0 = 0 from rfl)]
          unfold M_X9_place_63
          rw [if_neg (show ¬ nI 0 = 1 by decide +kernel)]
          refine ⟨nI dr, _, _, rfl, by rw [r3]; rfl, ?_⟩
          exact ⟨R, C, sg, c, th, er, k, wc, wl, wd, ⟨g1, g2, ⟨hc, w⟩, g4, g5, g6, g7⟩, ⟨rfl, hx2, hx3⟩, r1, r2, rfl, r4, r5, r6, r7, r8⟩
        · rw [if_neg (show ¬ nI 1 = 0 by decide +kernel), if_neg (show ¬ nI 1 = 0 by decide +kernel)]
          unfold M_X9_place_49
          rw [if_neg (show ¬ nI 1 = 0 by decide +kernel)]
          unfold M_X9_place_63
          rw [if_pos (show nI 1 = 1 from rfl)]
          refine ⟨nI th, _, _, rfl, by rw [r4]; rfl, ?_⟩
          exact ⟨R, C, sg, dr, c, er, k, wc, wl, wd, ⟨g1, g2, g3, ⟨hc, w⟩, g5, g6, g7⟩, ⟨rfl, hx2, hx3⟩, r1, r2, r3, rfl, r5, r6, r7, r8⟩
    · rw [if_neg q, if_pos k00, if_pos k00]
      exact ⟨_, _, _, rfl, rfl, r0⟩
  · rw [isCX_out _ _ _ _ q, isCM_out ho.1 hr q, bx, bx, if_pos k00, if_pos k00]
    exact ⟨_, _, _, rfl, rfl, r0⟩
theorem m_put {n c : Nat} (f : AR) (x : Int32) (h : c < n) (hn : n < 2 ^ 31) : M_X8_put n f (nI c) x = some (upd f c x) := by
  unfold M_X8_put
  rw [if_neg (nI_pos (by omega)), if_neg (nI_ge h hn), if_pos (nI_in h hn), nI_clamp (by omega)]
theorem upd_at (f : AR) (c : Nat) (x : Int32) : upd f c x c = x := if_pos rfl
theorem upd_ne (f : AR) {c j : Nat} (x : Int32) (h : j ≠ c) : upd f c x j = f j := if_neg h
theorem m_add {k c w : Nat} {d x3 : Int32} {v : VT} (hk : v.1 = nI k) (h4 : k < 4) (e : (if x3 = 0 then (0 : Int32) else 1) = d) : M_X4_add v (nI c) (nI w) x3 = some (1, (nI (k + 1), upd v.2.1 k (nI c), upd v.2.2.1 k (nI w), upd v.2.2.2 k d)) := by
  unfold M_X4_add M_X4_isFull
  rw [hk, if_pos (show nI k < (4 : Int32) from nI_lt (b := 4) h4 (by omega)), bx, if_pos k00, m_put _ _ h4 (by omega), bx, m_put _ _ h4 (by omega), bx, nI_succ]
  by_cases q : x3 = 0
  · rw [if_pos q] at e ⊢
    subst e
    unfold M_X4_add_50
    rw [m_put _ _ h4 (by omega), bx]
  · rw [if_neg q] at e ⊢
    subst e
    unfold M_X4_add_50
    rw [m_put _ _ h4 (by omega), bx]
def updN (f : Nat → Nat) (k c : Nat) : Nat → Nat := fun j => if j = k then c else f j
theorem updN_at (f : Nat → Nat) (k c : Nat) : updN f k c k = c := if_pos rfl
theorem updN_ne (f : Nat → Nat) {k j : Nat} (c : Nat) (h : j ≠ k) : updN f k c j = f j := if_neg h
theorem op_watch {h : HT} {v : VT} {mb : BT} (x1 x2 x3 : Int32) (r : RH h v mb) : ∃ z v' mb', M_X8_watch h v x1 x2 x3 = some (z, v') ∧ M_X9_watch mb x1 x2 x3 = some (z, mb') ∧ RH h v' mb' := by
  have r0 := r
  obtain ⟨R, C, sg, dr, th, er, k, wc, wl, wd, ho, ⟨hx1, hx2, hx3⟩, hr⟩ := r
  subst hx1
  have h16 := ho.1.n16
  have e1 := m_within x2 0 3
  have e2 : M_X9_in x2.toInt64 (0 : Int64) (3 : Int64) = some (if 0 ≤ x2 ∧ x2 ≤ 3 then 1 else 0) := m_in x2 0 3
  unfold M_X8_watch M_X9_watch
  rcases cell_cs (x := x1) (n := R * C) (by omega) with ⟨c, hc, rfl⟩ | q
  · have a1 := isCX_in sg dr th er ho.1 hc
    have a2 := isCM_in ho.1 hr hc
    have b1 : M_X8_has (hOf R C sg dr th er).2.2.2.2.2.1 (nI c) = some (if sg c = 35 then 1 else 0) := m_hasS 35 ho.1 hc
    have b2 := m_isWall ho hr hc
    rw [a1, a2, bx, bx, if_neg k10, if_neg k10, e1, e2, bx, bx]
    by_cases q : 0 ≤ x2 ∧ x2 ≤ 3
    · rw [if_pos q, if_neg k10, if_neg k10, b1, b2, bx, bx]
      obtain ⟨n, hn, rfl⟩ := nI_of2 (M := 3) (n := 3) rfl (fun z => absurd q.1 (Int32.not_le.mpr z)) q.2
      obtain ⟨g1, g2, g3, g4, g5, g6, g7⟩ := ho
      obtain ⟨r1, r2, r3, r4, r5, r6, r7, r8⟩ := hr
      by_cases w : sg c = 35
      · rw [if_pos w, if_neg k10, if_neg k10]
        exact ⟨_, _, _, rfl, rfl, r0⟩
      · rw [if_neg w, if_pos k00, if_pos k00]
        rcases Nat.lt_or_ge k 4 with y | y
        · obtain ⟨d, hd2, hd⟩ : ∃ d : Nat, d < 2 ∧ (if x3 = 0 then (0 : Int32) else 1) = nI d := by
            by_cases t : x3 = 0
            · exact ⟨0, by omega, if_pos t⟩
            · exact ⟨1, by omega, if_neg t⟩
          rw [m_add hx2 y hd, bx]
          dsimp only
          rw [if_neg k10, r5, if_neg (show ¬ nI k = (4 : Int32) from w_ne (b := 4) (by omega) (by omega) (by omega)), if_pos (nI_in y (by omega)), if_pos (nI_in y (by omega)), nI_clamp (by omega)]
          have f : ∀ q : BT × Int32 × Int32, q.2.2 = nI k → q.1.2.2.2.2.1 = nI k → M_X9_watch_84 (nI c) (nI n) x3 q = some (nI (k + 1), (q.1.1, q.1.2.1, q.1.2.2.1, q.1.2.2.2.1, nI (k + 1), q.1.2.2.2.2.2.1, q.1.2.2.2.2.2.2.1, q.1.2.2.2.2.2.2.2.1, q.1.2.2.2.2.2.2.2.2.1, upd q.1.2.2.2.2.2.2.2.2.2 k q.2.1)) := by
            intro q q1 q2
            unfold M_X9_watch_84
            rw [q1, q2, if_pos (nI_in y (by omega)), nI_clamp (by omega), nI_succ]
          have fin : ∀ mb', mb' = (mb.1, mb.2.1, mb.2.2.1, mb.2.2.2.1, nI (k + 1), mb.2.2.2.2.2.1, mb.2.2.2.2.2.2.1, upd mb.2.2.2.2.2.2.2.1 k (nI c), upd mb.2.2.2.2.2.2.2.2.1 k (nI n), upd mb.2.2.2.2.2.2.2.2.2 k (nI d)) → RH (hOf R C sg dr th er) (nI (k + 1), upd v.2.1 k (nI c), upd v.2.2.1 k (nI n), upd v.2.2.2 k (nI d)) mb' := by
            intro mb' em
            subst em
            refine ⟨R, C, sg, dr, th, er, k + 1, updN wc k c, updN wl k n, updN wd k d, ⟨g1, g2, g3, g4, g5, by omega, ?_⟩, ⟨rfl, rfl, ?_⟩, r1, r2, r3, r4, rfl, r6, r7, ?_⟩
            · intro j hj
              by_cases t : j = k
              · subst t; rw [updN_at, updN_at, updN_at]; exact ⟨hc, w, by omega, hd2⟩
              · rw [updN_ne _ _ t, updN_ne _ _ t, updN_ne _ _ t]; exact g7 j (by omega)
            · intro j hj
              by_cases t : j = k
              · subst t; rw [updN_at, updN_at, updN_at]; exact ⟨upd_at .., upd_at .., upd_at ..⟩
              · dsimp only; rw [updN_ne _ _ t, updN_ne _ _ t, updN_ne _ _ t, upd_ne _ _ t, upd_ne _ _ t, upd_ne _ _ t]; exact hx3 j (by omega)
            · intro j hj
              by_cases t : j = k
              · subst t; rw [updN_at, updN_at, updN_at]; exact ⟨upd_at .., upd_at .., upd_at ..⟩
              · dsimp only; rw [updN_ne _ _ t, updN_ne _ _ t, updN_ne _ _ t, upd_ne _ _ t, upd_ne _ _ t, upd_ne _ _ t]; exact r8 j (by omega)
          by_cases t : x3 = 0
          · rw [if_pos t] at hd ⊢
            rw [f _ rfl rfl]
            exact ⟨_, _, _, rfl, rfl, fin _ (by rw [← hd])⟩
          · rw [if_neg t] at hd ⊢
            rw [f _ rfl rfl]
            exact ⟨_, _, _, rfl, rfl, fin _ (by rw [← hd])⟩
        · have e : k = 4 := by omega
          subst e
          unfold M_X4_add M_X4_isFull
          rw [hx2, if_neg (show ¬ nI 4 < 4 by decide +kernel), bx, if_neg k10, bx]
          dsimp only
          rw [if_pos k00, r5, if_pos (show nI 4 = 4 from rfl)]
          exact ⟨_, _, _, rfl, rfl, r0⟩
    · rw [if_neg q, if_pos k00, if_pos k00]
      exact ⟨_, _, _, rfl, rfl, r0⟩
  · rw [isCX_out _ _ _ _ q, isCM_out ho.1 hr q, bx, bx, if_pos k00, if_pos k00]
    exact ⟨_, _, _, rfl, rfl, r0⟩
theorem say_c : ∀ m, m < 127 → vp_nar .char (((nI m).toUInt32 % 65536).toInt32) = nI m := by decide +kernel
theorem op_say {p : PT} {mo : OT} (x : Int32) (r : RPd p mo) : ∃ z p' mo', M_X8_say p x = some (z, p') ∧ M_X9_say mo x = some (z, mo') ∧ RPd p' mo' := by
  have r0 := r
  obtain ⟨n, f, hn, h1, h2, hf⟩ := r
  have e1 := m_within x 33 126
  have e2 : M_X9_in x.toInt64 (33 : Int64) (126 : Int64) = some (if 33 ≤ x ∧ x ≤ 126 then 1 else 0) := m_in x 33 126
  unfold M_X8_say M_X9_say
  rw [e1, e2, bx, bx]
  by_cases q : 33 ≤ x ∧ x ≤ 126
  · rw [if_pos q, if_neg k10, if_neg k10]
    obtain ⟨m, hm, rfl⟩ := nI_of2 (M := 126) (n := 126) rfl (fun z => absurd (Int32.le_trans (show (0 : Int32) ≤ 33 by decide +kernel) q.1) (Int32.not_le.mpr z)) q.2
    have h33 : 33 ≤ m := by
      rcases Nat.lt_or_ge m 33 with y | y
      · exact absurd q.1 (nI_ge (a := m) (b := 33) y (by omega))
      · exact y
    unfold M_X2_add
    rw [h1, h2, if_neg (nI_pos (by omega))]
    rcases Nat.lt_or_ge n 40 with y | y
    · rw [if_pos (nI_lt y (by omega)), if_pos (nI_in y (by omega)), bx]
      dsimp only
      rw [if_neg k10, if_neg (show ¬ nI n = (40 : Int32) from w_ne (b := 40) (by omega) (by omega) (by omega)), if_pos (nI_in y (by omega)), nI_clamp (by omega), say_c m (by omega), ← nI_succ]
      refine ⟨_, _, _, rfl, rfl, n + 1, updN f n m, by omega, rfl, rfl, ?_⟩
      intro j hj
      by_cases t : j = n
      · subst t; rw [updN_at]; exact ⟨h33, hm, upd_at .., upd_at ..⟩
      · rw [updN_ne _ _ t]
        show _ ∧ _ ∧ upd p.2 n (nI m) j = _ ∧ upd mo.2 n (nI m) j = _
        rw [upd_ne _ _ t, upd_ne _ _ t]; exact hf j (by omega)
    · have e : n = 40 := by omega
      subst e
      rw [if_neg (nI_nlt (Nat.le_refl 40) (by omega)), bx]
      dsimp only
      rw [if_pos k00, if_pos (show nI 40 = 40 from rfl)]
      exact ⟨_, _, _, rfl, rfl, r0⟩
  · rw [if_neg q, if_pos k00, if_pos k00]
    exact ⟨_, _, _, rfl, rfl, r0⟩
theorem op_wipe {p : PT} {mo : OT} (r : RPd p mo) : ∃ z p' mo', M_X8_wipe p = some (z, p') ∧ M_X9_wipe mo = some (z, mo') ∧ RPd p' mo' := by
  obtain ⟨n, f, hn, h1, h2, hf⟩ := r
  refine ⟨p.1, (0, p.2), (0, mo.2), rfl, ?_, 0, f, by omega, rfl, rfl, fun i hi => absurd hi (by omega)⟩
  unfold M_X9_wipe
  rw [h1, h2]
theorem m_seenByX {R C w : Nat} {sg : Nat → Nat} {dr th er k : Nat} {wc wl wd : Nat → Nat} {v : VT} (ho : okS R C sg dr th er k wc wl wd) (hx3 : ∀ w, w < k → v.2.1 w = nI (wc w) ∧ v.2.2.1 w = nI (wl w) ∧ v.2.2.2 w = nI (wd w)) (hw : w < k) : M_X0_seenBy (hOf R C sg dr th er) v (nI w) = some (nI (sgt R C sg (wl w) (wc w))) := by
  have hk := ho.2.2.2.2.2.1
  obtain ⟨w1, w2, w3, w4⟩ := ho.2.2.2.2.2.2 w hw
  obtain ⟨q1, q2, q3⟩ := hx3 w hw
  unfold M_X0_seenBy M_X4_cellOfOne M_X4_lookingOf
  rw [m_at _ (by omega) (by omega), m_at _ (by omega) (by omega), bx, bx, bx, bx, q1, q2, m_sight sg dr th er ho.1 w1 (by omega), bx]
theorem m_seenByM {R C w : Nat} {sg : Nat → Nat} {dr th er k : Nat} {wc wl wd : Nat → Nat} {mb : BT} (ho : okS R C sg dr th er k wc wl wd) (hr : rM R C sg dr th er k wc wl wd mb) (hw : w < k) : M_X9_seenBy mb (nI w) = some (nI (sgt R C sg (wl w) (wc w))) := by
  have hk := ho.2.2.2.2.2.1
  obtain ⟨w1, w2, w3, w4⟩ := ho.2.2.2.2.2.2 w hw
  obtain ⟨q1, q2, q3⟩ := hr.2.2.2.2.2.2.2 w hw
  unfold M_X9_seenBy
  rw [if_pos (nI_in (c := w) (N := 4) (by omega) (by omega)), if_pos (nI_in (c := w) (N := 4) (by omega) (by omega)), nI_clamp (n := w) (by omega), q1, q2, m_seenFrom ho hr w1 w3, Option.bind_some]
theorem isOne_in {v : VT} {k w : Nat} (hx2 : v.1 = nI k) (hw : w < k) (hk : k < 2 ^ 31) : M_X4_isOne v (nI w) = some 1 := by
  unfold M_X4_isOne
  rw [if_neg (nI_pos (by omega)), hx2, if_neg (nI_ge hw hk)]
theorem isOne_out {v : VT} {k : Nat} {x : Int32} (hx2 : v.1 = nI k) (h : x < 0 ∨ nI k ≤ x) : M_X4_isOne v x = some 0 := by
  unfold M_X4_isOne
  by_cases q : x < 0
  · rw [if_pos q]
  · rw [if_neg q, hx2, if_pos (h.resolve_left q)]
theorem op_sees {h : HT} {v : VT} {mb : BT} (x : Int32) (r : RH h v mb) : ∃ z, M_X8_sees h v x = some z ∧ M_X9_sees mb x = some z := by
  obtain ⟨R, C, sg, dr, th, er, k, wc, wl, wd, ho, ⟨hx1, hx2, hx3⟩, hr⟩ := r
  subst hx1
  have hk := ho.2.2.2.2.2.1
  unfold M_X8_sees M_X9_sees
  rw [hr.2.2.2.2.1]
  rcases cell_cs (x := x) (n := k) (by omega) with ⟨c, hc, rfl⟩ | q
  · rw [isOne_in hx2 hc (by omega), in_good hc (by omega), bx, bx, if_neg k10, if_neg k10, m_seenByX ho hx3 hc, m_seenByM ho hr hc]
    exact ⟨_, rfl, rfl⟩
  · rw [isOne_out hx2 q, in_bad (by omega) q, bx, bx, if_pos k00, if_pos k00]
    exact ⟨_, rfl, rfl⟩
