/-! Walks, printed by wip/whole/gen.py -/
theorem inX8_house_X8 : ∀ w ∈ wsX80, w ∈ wsX8_house := fun w h => List.mem_cons_of_mem _ (List.mem_append_left _ (List.mem_append_left _ (List.mem_append_right _ h)))
set_option maxHeartbeats 4000000 in
set_option maxRecDepth 100000 in
theorem c_X8_house (l : Launch) (dC : Nat → ClassId) (dI : Nat → Nat → Nat) (cI cC cZ : ClassId) (sa : Nat → Nat) (ad : Nat → Nat) (p : PT) (h : HT) (v : VT) (k1 : Int32) (h1 : HT) (v1 : VT) (k2 : Int32) (h2 : HT) (v2 : VT) (r : RT) (d : DT) (y : YT) (q : QT) (x1 : Int32) (x2 : Int32) {res : Int32 × HT × VT} (hM : M_X8_house h v x1 x2 = some res) : CTi l (dC, dI) [(cI, .int), (cC, .char), (cZ, .boolean)] sa yX8_house wsX8_house (rmd 4) [.ref (ad 0), .int x1, .int x2] (wX cI cC ad p h v k1 h1 v1 k2 h2 v2 r d y q) (fun (uu : HT × VT) => (wX cI cC ad p uu.1 uu.2 k1 h1 v1 k2 h2 v2 r d y q)) res := by
  refine CTi.enter (own := RX8) (cc := cX8_house) (maxL := 3) (ret := (some .int)) (by decide) rfl rfl (Nat.le_of_ble_eq_true rfl) ?_
  intro pr e s m below meth c A F hr hlk hP hS ls hl
  obtain ⟨⟨hx, hb, hml, hown, hts⟩, hK, hDD, hA, hKC⟩ := id F
  have hl : lv_has ls 3 [(0, .ref (ad 0)), (1, .int x1), (2, .int x2)] := hl
  have hP : va_P (dC, dI) vwCl (wX cI cC ad p h v k1 h1 v1 k2 h2 v2 r d y q) s.heap := hP
  unfold M_X8_house at hM
  refine lv_iload_n hx hb dX8_house_0 rfl (lv_at hl 1 rfl) ?_
  refine lv_iconst (v := 1) hx hb dX8_house_1 (by decide) ?_
  refine lv_iconst (v := 4) hx hb dX8_house_2 (by decide) ?_
  obtain ⟨z3, hcr, hM⟩ := ob_s hM
  refine res_i0 F hP hS rfl [] rfl rfl (runS_of (n := 3) (As := [.int x1, .int (1 : Int32), .int (4 : Int32)]) (rest := []) F hP hS rfl [] rfl rfl (c_X8_within l dC dI cI cC cZ sa x1 (1 : Int32) (4 : Int32) hcr _) gX8_house_X8_within rfl (by decide +kernel) ⟨Nat.le_of_ble_eq_true rfl, Nat.le_of_ble_eq_true rfl⟩ rfl hl.1 rfl (Nat.le_of_ble_eq_true rfl) dX8_house_3 ⟨Nat.zero_le _, Nat.zero_le _⟩) (fun H locs hP hS => ?_)
  refine lv_if_eq (tgt := 18) hx hb dX8_house_6 (by decide) (fun hc => ?_) (fun hc => ?_)
  · have hM := if_pp hc hM
    refine lv_bipush (v := -2) hx hb dX8_house_18 (by decide) ?_
    exact ret_i hx hb hr hlk dX8_house_20 hM hP hS
  · have hM := if_nn hc hM
    refine lv_iload_n hx hb dX8_house_9 rfl (lv_at hl 2 rfl) ?_
    refine lv_iconst (v := 1) hx hb dX8_house_10 (by decide) ?_
    refine lv_iconst (v := 4) hx hb dX8_house_11 (by decide) ?_
    obtain ⟨z12, hcr, hM⟩ := ob_s hM
    refine res_i0 F hP hS rfl [] rfl rfl (runS_of (n := 3) (As := [.int x2, .int (1 : Int32), .int (4 : Int32)]) (rest := []) F hP hS rfl [] rfl rfl (c_X8_within l dC dI cI cC cZ sa x2 (1 : Int32) (4 : Int32) hcr _) gX8_house_X8_within rfl (by decide +kernel) ⟨Nat.le_of_ble_eq_true rfl, Nat.le_of_ble_eq_true rfl⟩ rfl hl.1 rfl (Nat.le_of_ble_eq_true rfl) dX8_house_12 ⟨Nat.zero_le _, Nat.zero_le _⟩) (fun H locs hP hS => ?_)
    refine lv_if_ne (tgt := 21) hx hb dX8_house_15 (by decide) (fun hc => ?_) (fun hc => ?_)
    · have hM := if_nn hc hM
      refine lv_aload_n hx hb dX8_house_21 rfl (lv_at hl 0 rfl) ?_
      refine g_get (ci := 8) (C := RX8) (T := TX8) (N := 8) (v := .ref (ad 3)) F hP 0 rfl rfl inX8_house_X8 1 (by decide) (List.mem_of_getElem? (i := 1) rfl) rfl dX8_house_22 ?_
      refine lv_iload_n hx hb dX8_house_25 rfl (lv_at hl 1 rfl) ?_
      refine lv_iload_n hx hb dX8_house_26 rfl (lv_at hl 2 rfl) ?_
      obtain ⟨z27, hcr, hM⟩ := ob_s hM
      refine res_v (ws' := (wX cI cC ad p z27.1 z27.2 k1 h1 v1 k2 h2 v2 r d y q)) F hP hS rfl [3, 4, 5, 6, 7] rfl rfl (runV_of (n := 2) (As := [.int x1, .int x2]) (rest := []) F hP hS rfl [3, 4, 5, 6, 7] rfl rfl (c_X0_layOut l dC dI cI cC cZ sa (ad 3) (ad 4) (ad 5) (ad 6) (ad 7) h v x1 x2 hcr _) gX8_house_X0_layOut rfl (by decide +kernel) ⟨Nat.le_of_ble_eq_true rfl, Nat.le_of_ble_eq_true rfl⟩ 3 0 rfl rfl rfl hl.1 rfl (Nat.le_of_ble_eq_true rfl) dX8_house_27 ⟨Nat.zero_le _, Nat.zero_le _⟩) (rep_pt rfl rfl rfl) (fun H locs hP hS => ?_)
      refine lv_aload_n hx hb dX8_house_30 rfl (lv_at hl 0 rfl) ?_
      refine g_get (ci := 8) (C := RX8) (T := TX8) (N := 8) (v := .ref (ad 3)) F hP 0 rfl rfl inX8_house_X8 1 (by decide) (List.mem_of_getElem? (i := 1) rfl) rfl dX8_house_31 ?_
      obtain ⟨z34, hcr, hM⟩ := ob_s hM
      refine res_i0 F hP hS rfl [3, 4, 5, 6, 7] rfl rfl (runV_of (n := 0) (As := []) (rest := []) F hP hS rfl [3, 4, 5, 6, 7] rfl rfl (c_X0_cells l dC dI cI cC cZ sa (ad 3) (ad 4) (ad 5) (ad 6) (ad 7) z27.1 z27.2 hcr _) gX8_house_X0_cells rfl (by decide +kernel) ⟨Nat.le_of_ble_eq_true rfl, Nat.le_of_ble_eq_true rfl⟩ 3 0 rfl rfl rfl hl.1 rfl (Nat.le_of_ble_eq_true rfl) dX8_house_34 ⟨Nat.zero_le _, Nat.zero_le _⟩) (fun H locs hP hS => ?_)
      exact ret_i hx hb hr hlk dX8_house_37 hM hP hS
    · have hM := if_pp hc hM
      refine lv_bipush (v := -2) hx hb dX8_house_18 (by decide) ?_
      exact ret_i hx hb hr hlk dX8_house_20 hM hP hS
