/-! Op by op -/
theorem op_bare {h : HT} {v : VT} {mb : BT} (r : RH h v mb) : ∃ z, M_X8_bare h v = some z ∧ M_X9_bare mb = some z := by
  obtain ⟨R, C, sg, dr, th, er, k, wc, wl, wd, ho, hx, hr⟩ := r
  refine ⟨_, ?_, m_bareR ho hr⟩
  unfold M_X8_bare
  rw [m_bare ho hx, Option.bind_some]
theorem op_dismiss {h : HT} {v : VT} {mb : BT} (r : RH h v mb) : ∃ z v' mb', M_X8_dismiss v = some (z, v') ∧ M_X9_dismiss mb = some (z, mb') ∧ RH h v' mb' := by
  obtain ⟨R, C, sg, dr, th, er, k, wc, wl, wd, ho, ⟨x1, x2, x3⟩, r1, r2, r3, r4, r5, r6, r7, r8⟩ := r
  refine ⟨v.1, (0, v.2.1, v.2.2.1, v.2.2.2), (mb.1, mb.2.1, mb.2.2.1, mb.2.2.2.1, 0, mb.2.2.2.2.2.1, mb.2.2.2.2.2.2.1, mb.2.2.2.2.2.2.2.1, mb.2.2.2.2.2.2.2.2.1, mb.2.2.2.2.2.2.2.2.2), rfl, ?_, ?_⟩
  · unfold M_X9_dismiss
    rw [r5, x2]
  · refine ⟨R, C, sg, dr, th, er, 0, wc, wl, wd, ?_, ⟨x1, rfl, fun w hw => absurd hw (by omega)⟩, r1, r2, r3, r4, rfl, r6, r7, fun w hw => absurd hw (by omega)⟩
    obtain ⟨a1, a2, a3, a4, a5, a6, a7⟩ := ho
    exact ⟨a1, a2, a3, a4, a5, by omega, fun w hw => absurd hw (by omega)⟩
theorem op_ears {h : HT} {v : VT} {mb : BT} (x : Int32) (r : RH h v mb) : ∃ z h' mb', M_X8_ears h x = some (z, h') ∧ M_X9_ears mb x = some (z, mb') ∧ RH h' v mb' := by
  obtain ⟨R, C, sg, dr, th, er, k, wc, wl, wd, ho, hx, hr⟩ := r
  have e2 : M_X9_in x.toInt64 (0 : Int64) (6 : Int64) = some (if 0 ≤ x ∧ x ≤ 6 then 1 else 0) := m_in x 0 6
  unfold M_X8_ears M_X9_ears
  rw [m_within, e2, Option.bind_some, Option.bind_some]
  by_cases q : 0 ≤ x ∧ x ≤ 6
  · rw [if_pos q, if_neg (by decide +kernel), if_neg (by decide +kernel)]
    obtain ⟨x1, x2, x3⟩ := hx
    obtain ⟨r1, r2, r3, r4, r5, r6, r7, r8⟩ := hr
    obtain ⟨a1, a2, a3, a4, a5, a6, a7⟩ := ho
    obtain ⟨n, hn, e⟩ := nI_of2 (M := 6) (n := 6) rfl (fun z => absurd q.1 (Int32.not_le.mpr z)) q.2
    subst e
    subst x1
    refine ⟨_, _, _, rfl, by rw [r6]; rfl, ?_⟩
    exact ⟨R, C, sg, dr, th, n, k, wc, wl, wd, ⟨a1, a2, a3, a4, hn, a6, a7⟩, ⟨rfl, x2, x3⟩, r1, r2, r3, r4, r5, rfl, r7, r8⟩
  · rw [if_neg q, if_pos rfl, if_pos rfl]
    exact ⟨_, _, _, rfl, rfl, R, C, sg, dr, th, er, k, wc, wl, wd, ho, hx, hr⟩
