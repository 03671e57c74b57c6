/-! Walks, printed by wip/whole/gen.py -/
theorem inX8_build_X8 : ∀ w ∈ wsX80, w ∈ wsX8_build := fun w h => List.mem_cons_of_mem _ (List.mem_append_left _ (List.mem_append_left _ (List.mem_append_left _ (List.mem_append_right _ h))))
set_option maxHeartbeats 4000000 in
set_option maxRecDepth 100000 in
theorem c_X8_build (l : Launch) (dC : Nat → ClassId) (dI : Nat → Nat → Nat) (cI cC cZ : ClassId) (sa : Nat → Nat) (ad : Nat → Nat) (p : PT) (h : HT) (v : VT) (k1 : Int32) (h1 : HT) (v1 : VT) (k2 : Int32) (h2 : HT) (v2 : VT) (r : RT) (d : DT) (y : YT) (q : QT)  {res : Int32 × PT × HT × VT} (hM : M_X8_build p h v = some res) : CTi l (dC, dI) [(cI, .int), (cC, .char), (cZ, .boolean)] sa yX8_build wsX8_build (rmd 7) [.ref (ad 0)] (wX cI cC ad p h v k1 h1 v1 k2 h2 v2 r d y q) (fun (uu : PT × HT × VT) => (wX cI cC ad uu.1 uu.2.1 uu.2.2 k1 h1 v1 k2 h2 v2 r d y q)) res := by
  refine CTi.enter (own := RX8) (cc := cX8_build) (maxL := 1) (ret := (some .int)) (by decide) rfl rfl (Nat.le_of_ble_eq_true rfl) ?_
  intro pr e s m below meth c A F hr hlk hP hS ls hl
  obtain ⟨⟨hx, hb, hml, hown, hts⟩, hK, hDD, hA, hKC⟩ := id F
  have hl : lv_has ls 1 [(0, .ref (ad 0))] := hl
  have hP : va_P (dC, dI) vwCl (wX cI cC ad p h v k1 h1 v1 k2 h2 v2 r d y q) s.heap := hP
  unfold M_X8_build at hM
  refine lv_aload_n hx hb dX8_build_0 rfl (lv_at hl 0 rfl) ?_
  refine g_get (ci := 8) (C := RX8) (T := TX8) (N := 8) (v := .ref (ad 1)) F hP 0 rfl rfl inX8_build_X8 0 (by decide) (List.mem_of_getElem? (i := 1) rfl) rfl dX8_build_1 ?_
  refine lv_aload_n hx hb dX8_build_4 rfl (lv_at hl 0 rfl) ?_
  refine g_get (ci := 8) (C := RX8) (T := TX8) (N := 8) (v := .ref (ad 3)) F hP 0 rfl rfl inX8_build_X8 1 (by decide) (List.mem_of_getElem? (i := 2) rfl) rfl dX8_build_5 ?_
  obtain ⟨z8, hcr, hM⟩ := ob_s hM
  refine res_i0 F hP hS rfl [3, 4, 5, 6, 7] rfl rfl (runV_of (n := 0) (As := []) (rest := [.ref (ad 1)]) F hP hS rfl [3, 4, 5, 6, 7] rfl rfl (c_X0_cells l dC dI cI cC cZ sa (ad 3) (ad 4) (ad 5) (ad 6) (ad 7) h v hcr _) gX8_build_X0_cells rfl (by decide +kernel) ⟨Nat.le_of_ble_eq_true rfl, Nat.le_of_ble_eq_true rfl⟩ 3 0 rfl rfl rfl hl.1 rfl (Nat.le_of_ble_eq_true rfl) dX8_build_8 ⟨Nat.zero_le _, Nat.zero_le _⟩) (fun H locs hP hS => ?_)
  obtain ⟨z11, hcr, hM⟩ := ob_s hM
  refine res_i0 F hP hS rfl [1, 2] rfl rfl (runV_of (n := 1) (As := [.int z8]) (rest := []) F hP hS rfl [1, 2] rfl rfl (c_X2_houseFault l dC dI cI cC cZ sa (ad 1) (ad 2) p z8 hcr _) gX8_build_X2_houseFault rfl (by decide +kernel) ⟨Nat.le_of_ble_eq_true rfl, Nat.le_of_ble_eq_true rfl⟩ 1 2 rfl rfl rfl hl.1 rfl (Nat.le_of_ble_eq_true rfl) dX8_build_11 ⟨Nat.zero_le _, Nat.zero_le _⟩) (fun H locs hP hS => ?_)
  refine lv_bipush (v := -6) hx hb dX8_build_14 (by decide) ?_
  refine lv_icmp_eq (tgt := 22) hx hb dX8_build_16 (by decide) (fun hc => ?_) (fun hc => ?_)
  · have hM := if_pp hc hM
    refine lv_aload_n hx hb dX8_build_22 rfl (lv_at hl 0 rfl) ?_
    refine g_get (ci := 8) (C := RX8) (T := TX8) (N := 8) (v := .ref (ad 1)) F hP 0 rfl rfl inX8_build_X8 0 (by decide) (List.mem_of_getElem? (i := 1) rfl) rfl dX8_build_23 ?_
    refine lv_bipush (v := 35) hx hb dX8_build_26 (by decide) ?_
    obtain ⟨z28, hcr, hM⟩ := ob_s hM
    refine res_i0 F hP hS rfl [1, 2] rfl rfl (runV_of (n := 1) (As := [.int (35 : Int32)]) (rest := []) F hP hS rfl [1, 2] rfl rfl (c_X2_isAll l dC dI cI cC cZ sa (ad 1) (ad 2) p (35 : Int32) hcr _) gX8_build_X2_isAll rfl (by decide +kernel) ⟨Nat.le_of_ble_eq_true rfl, Nat.le_of_ble_eq_true rfl⟩ 1 2 rfl rfl rfl hl.1 rfl (Nat.le_of_ble_eq_true rfl) dX8_build_28 ⟨Nat.zero_le _, Nat.zero_le _⟩) (fun H locs hP hS => ?_)
    refine lv_if_eq (tgt := 37) hx hb dX8_build_31 (by decide) (fun hc => ?_) (fun hc => ?_)
    · have hM := if_pp hc hM
      refine lv_aload_n hx hb dX8_build_37 rfl (lv_at hl 0 rfl) ?_
      refine g_get (ci := 8) (C := RX8) (T := TX8) (N := 8) (v := .ref (ad 3)) F hP 0 rfl rfl inX8_build_X8 1 (by decide) (List.mem_of_getElem? (i := 2) rfl) rfl dX8_build_38 ?_
      refine lv_aload_n hx hb dX8_build_41 rfl (lv_at hl 0 rfl) ?_
      refine g_get (ci := 8) (C := RX8) (T := TX8) (N := 8) (v := .ref (ad 1)) F hP 0 rfl rfl inX8_build_X8 0 (by decide) (List.mem_of_getElem? (i := 1) rfl) rfl dX8_build_42 ?_
      obtain ⟨z45, hcr, hM⟩ := ob_s hM
      refine res_v (ws' := (wX cI cC ad p z45.1 z45.2 k1 h1 v1 k2 h2 v2 r d y q)) F hP hS rfl [3, 4, 5, 6, 7, 1, 2] rfl rfl (runV_of (n := 1) (As := [.ref (ad 1)]) (rest := []) F hP hS rfl [3, 4, 5, 6, 7, 1, 2] rfl rfl (c_X0_furnish l dC dI cI cC cZ sa (ad 3) (ad 4) (ad 5) (ad 6) (ad 7) (ad 1) (ad 2) h v p hcr _) gX8_build_X0_furnish rfl (by decide +kernel) ⟨Nat.le_of_ble_eq_true rfl, Nat.le_of_ble_eq_true rfl⟩ 3 0 rfl rfl rfl hl.1 rfl (Nat.le_of_ble_eq_true rfl) dX8_build_45 ⟨Nat.zero_le _, Nat.zero_le _⟩) (rep_pt rfl rfl rfl) (fun H locs hP hS => ?_)
      refine lv_aload_n hx hb dX8_build_48 rfl (lv_at hl 0 rfl) ?_
      refine g_get (ci := 8) (C := RX8) (T := TX8) (N := 8) (v := .ref (ad 1)) F hP 0 rfl rfl inX8_build_X8 0 (by decide) (List.mem_of_getElem? (i := 1) rfl) rfl dX8_build_49 ?_
      obtain ⟨z52, hcr, hM⟩ := ob_s hM
      refine res_i (ws' := (wX cI cC ad z52.2 z45.1 z45.2 k1 h1 v1 k2 h2 v2 r d y q)) F hP hS rfl [1, 2] rfl rfl (runV_of (n := 0) (As := []) (rest := []) F hP hS rfl [1, 2] rfl rfl (c_X2_clear l dC dI cI cC cZ sa (ad 1) (ad 2) p hcr _) gX8_build_X2_clear rfl (by decide +kernel) ⟨Nat.le_of_ble_eq_true rfl, Nat.le_of_ble_eq_true rfl⟩ 1 2 rfl rfl rfl hl.1 rfl (Nat.le_of_ble_eq_true rfl) dX8_build_52 ⟨Nat.zero_le _, Nat.zero_le _⟩) (rep_pt rfl rfl rfl) (fun H locs hP hS => ?_)
      refine lv_pop hx hb dX8_build_55 rfl ?_
      refine lv_aload_n hx hb dX8_build_56 rfl (lv_at hl 0 rfl) ?_
      refine g_get (ci := 8) (C := RX8) (T := TX8) (N := 8) (v := .ref (ad 3)) F hP 0 rfl rfl inX8_build_X8 1 (by decide) (List.mem_of_getElem? (i := 2) rfl) rfl dX8_build_57 ?_
      obtain ⟨z60, hcr, hM⟩ := ob_s hM
      refine res_i0 F hP hS rfl [3, 4, 5, 6, 7] rfl rfl (runV_of (n := 0) (As := []) (rest := []) F hP hS rfl [3, 4, 5, 6, 7] rfl rfl (c_X0_open l dC dI cI cC cZ sa (ad 3) (ad 4) (ad 5) (ad 6) (ad 7) z45.1 z45.2 hcr _) gX8_build_X0_open rfl (by decide +kernel) ⟨Nat.le_of_ble_eq_true rfl, Nat.le_of_ble_eq_true rfl⟩ 3 0 rfl rfl rfl hl.1 rfl (Nat.le_of_ble_eq_true rfl) dX8_build_60 ⟨Nat.zero_le _, Nat.zero_le _⟩) (fun H locs hP hS => ?_)
      obtain ⟨z63, hcr, hM⟩ := ob_s hM
      refine res_i0 F hP hS rfl [] rfl rfl (runS_of (n := 1) (As := [.int z60]) (rest := []) F hP hS rfl [] rfl rfl (c_J6_bitCount_0f7a4 l dC dI cI cC cZ sa z60 hcr _) gX8_build_J6_bitCount_0f7a4 rfl (by decide +kernel) ⟨Nat.le_of_ble_eq_true rfl, Nat.le_of_ble_eq_true rfl⟩ rfl hl.1 rfl (Nat.le_of_ble_eq_true rfl) dX8_build_63 ⟨Nat.zero_le _, Nat.zero_le _⟩) (fun H locs hP hS => ?_)
      exact ret_i hx hb hr hlk dX8_build_66 hM hP hS
    · have hM := if_nn hc hM
      refine lv_bipush (v := -3) hx hb dX8_build_34 (by decide) ?_
      exact ret_i hx hb hr hlk dX8_build_36 hM hP hS
  · have hM := if_nn hc hM
    refine lv_bipush (v := -5) hx hb dX8_build_19 (by decide) ?_
    exact ret_i hx hb hr hlk dX8_build_21 hM hP hS
