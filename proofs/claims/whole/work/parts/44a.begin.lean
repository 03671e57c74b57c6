/-! The start of both objects -/
theorem lw_begin {L : Nat} (xs : Nat → Int32) (hL : L ≤ 256) : ∃ (r0 : HT × VT) (r1 : BT), M_X0_layOut (0, 0, 0, 0, 0, 0, 0, 0, 0, 0, 0, 1) ((0 : Int32), (fun _ => 0 : AR), (fun _ => 0 : AR), (fun _ => 0 : AR)) 3 3 = some r0 ∧ M_X9_lay (0, 0, 0, 0, 0, 1, (fun _ => 0 : AR), (fun _ => 0 : AR), (fun _ => 0 : AR), (fun _ => 0 : AR)) 3 3 = some r1 ∧ M_L_law_18 L xs 200 (law_in r0 r1) = some () := by
  have hd : okD 3 3 := ⟨by omega, by omega, by omega, by omega⟩
  have e0 := m_layX (R := 3) (C := 3) (0, 0, 0, 0, 0, 0, 0, 0, 0, 0, 0, 1) ((0 : Int32), (fun _ => 0 : AR), (fun _ => 0 : AR), (fun _ => 0 : AR)) hd
  obtain ⟨s, hs, e1⟩ := m_layM (R := 3) (C := 3) (0, 0, 0, 0, 0, 1, (fun _ => 0 : AR), (fun _ => 0 : AR), (fun _ => 0 : AR), (fun _ => 0 : AR))
  refine ⟨_, _, e0, e1, ?_⟩
  have rh : RH (hOf 3 3 (fun _ => 46) 0 8 1) ((0 : Int32), (fun _ => 0 : AR), (fun _ => 0 : AR), (fun _ => 0 : AR)) (nI 3, nI 3, 0, nI 3 * nI 3 - 1, 0, 1, s, (fun _ => 0 : AR), (fun _ => 0 : AR), (fun _ => 0 : AR)) := by
    refine ⟨3, 3, fun _ => 46, 0, 8, 1, 0, fun _ => 0, fun _ => 0, fun _ => 0, ⟨hd, fun c hc => Or.inl rfl, ⟨by omega, (show (46 : Nat) ≠ 35 by decide)⟩, ⟨by omega, (show (46 : Nat) ≠ 35 by decide)⟩, by omega, by omega, fun w hw => absurd hw (by omega)⟩, ⟨rfl, rfl, fun w hw => absurd hw (by omega)⟩, rfl, rfl, rfl, ?_, rfl, rfl, fun c hc => hs c (by omega), fun w hw => absurd hw (by omega)⟩
    show nI 3 * nI 3 - 1 = nI 8
    decide +kernel
  rw [hOf_46] at rh
  have rp : RPd ((0 : Int32), (fun _ => 0 : AR)) ((0 : Int32), (fun _ => 0 : AR)) := ⟨0, fun _ => 0, by omega, rfl, rfl, fun i hi => absurd hi (by omega)⟩
  have i1 : ∀ jj (h : HT) (v : VT), RIm jj 0 h v ((0 : Int32), (0 : Int32), (fun _ => 0 : AR), (fun _ => 0 : AR)) := fun jj h v => Or.inl ⟨rfl, rfl⟩
  exact lw_ops xs hL 200 0 _ _ _ _ _ _ _ _ _ _ _ _ _ _ _ _ _ _ _ _ _ _ (by omega) (by omega) rp rh (i1 0 _ _) (i1 1 _ _)
