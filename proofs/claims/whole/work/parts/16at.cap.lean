/-! Walks, printed by wip/whole/gen.py -/
theorem inX8_place_X0 : ∀ w ∈ wsX00, w ∈ wsX8_place := fun w h => List.mem_cons_of_mem _ (List.mem_append_right _ h)
theorem inX8_place_X8 : ∀ w ∈ wsX80, w ∈ wsX8_place := fun w h => List.mem_cons_of_mem _ (List.mem_append_left _ (List.mem_append_right _ h))
set_option maxHeartbeats 4000000 in
set_option maxRecDepth 100000 in
theorem c_X8_place (l : Launch) (dC : Nat → ClassId) (dI : Nat → Nat → Nat) (cI cC cZ : ClassId) (sa : Nat → Nat) (ad : Nat → Nat) (p : PT) (h : HT) (v : VT) (k1 : Int32) (h1 : HT) (v1 : VT) (k2 : Int32) (h2 : HT) (v2 : VT) (r : RT) (d : DT) (y : YT) (q : QT) (x1 : Int32) (x2 : Int32) {res : Int32 × HT} (hM : M_X8_place h x1 x2 = some res) : CTi l (dC, dI) [(cI, .int), (cC, .char), (cZ, .boolean)] sa yX8_place wsX8_place (rmd 3) [.ref (ad 0), .int x1, .int x2] (wX cI cC ad p h v k1 h1 v1 k2 h2 v2 r d y q) (fun (uu : HT) => (wX cI cC ad p uu v k1 h1 v1 k2 h2 v2 r d y q)) res := by
  refine CTi.enter (own := RX8) (cc := cX8_place) (maxL := 3) (ret := (some .int)) (by decide) rfl rfl (Nat.le_of_ble_eq_true rfl) ?_
  intro pr e s m below meth c A F hr hlk hP hS ls hl
  obtain ⟨⟨hx, hb, hml, hown, hts⟩, hK, hDD, hA, hKC⟩ := id F
  have hl : lv_has ls 3 [(0, .ref (ad 0)), (1, .int x1), (2, .int x2)] := hl
  have hP : va_P (dC, dI) vwCl (wX cI cC ad p h v k1 h1 v1 k2 h2 v2 r d y q) s.heap := hP
  unfold M_X8_place at hM
  refine lv_aload_n hx hb dX8_place_0 rfl (lv_at hl 0 rfl) ?_
  refine g_get (ci := 8) (C := RX8) (T := TX8) (N := 8) (v := .ref (ad 3)) F hP 0 rfl rfl inX8_place_X8 1 (by decide) (List.mem_of_getElem? (i := 1) rfl) rfl dX8_place_1 ?_
  refine lv_iload_n hx hb dX8_place_4 rfl (lv_at hl 2 rfl) ?_
  obtain ⟨z5, hcr, hM⟩ := ob_s hM
  refine res_i0 F hP hS rfl [3, 4, 5, 6, 7] rfl rfl (runV_of (n := 1) (As := [.int x2]) (rest := []) F hP hS rfl [3, 4, 5, 6, 7] rfl rfl (c_X0_isCell l dC dI cI cC cZ sa (ad 3) (ad 4) (ad 5) (ad 6) (ad 7) h v x2 hcr _) gX8_place_X0_isCell rfl (by decide +kernel) ⟨Nat.le_of_ble_eq_true rfl, Nat.le_of_ble_eq_true rfl⟩ 3 0 rfl rfl rfl hl.1 rfl (Nat.le_of_ble_eq_true rfl) dX8_place_5 ⟨Nat.zero_le _, Nat.zero_le _⟩) (fun H locs hP hS => ?_)
  refine lv_if_ne (tgt := 13) hx hb dX8_place_8 (by decide) (fun hc => ?_) (fun hc => ?_)
  · have hM := if_nn hc hM
    refine lv_iload_n hx hb dX8_place_13 rfl (lv_at hl 1 rfl) ?_
    refine lv_iconst (v := 0) hx hb dX8_place_14 (by decide) ?_
    refine lv_iconst (v := 1) hx hb dX8_place_15 (by decide) ?_
    obtain ⟨z16, hcr, hM⟩ := ob_s hM
    refine res_i0 F hP hS rfl [] rfl rfl (runS_of (n := 3) (As := [.int x1, .int (0 : Int32), .int (1 : Int32)]) (rest := []) F hP hS rfl [] rfl rfl (c_X8_within l dC dI cI cC cZ sa x1 (0 : Int32) (1 : Int32) hcr _) gX8_place_X8_within rfl (by decide +kernel) ⟨Nat.le_of_ble_eq_true rfl, Nat.le_of_ble_eq_true rfl⟩ rfl hl.1 rfl (Nat.le_of_ble_eq_true rfl) dX8_place_16 ⟨Nat.zero_le _, Nat.zero_le _⟩) (fun H locs hP hS => ?_)
    refine lv_if_ne (tgt := 25) hx hb dX8_place_19 (by decide) (fun hc => ?_) (fun hc => ?_)
    · have hM := if_nn hc hM
      refine lv_aload_n hx hb dX8_place_25 rfl (lv_at hl 0 rfl) ?_
      refine g_get (ci := 8) (C := RX8) (T := TX8) (N := 8) (v := .ref (ad 3)) F hP 0 rfl rfl inX8_place_X8 1 (by decide) (List.mem_of_getElem? (i := 1) rfl) rfl dX8_place_26 ?_
      refine g_get (ci := 0) (C := RX0) (T := TX0) (N := 13) (v := .int h.2.2.2.2.2.1) F hP 3 rfl rfl inX8_place_X0 5 (by decide) (List.mem_of_getElem? (i := 2) rfl) rfl dX8_place_29 ?_
      refine lv_iload_n hx hb dX8_place_32 rfl (lv_at hl 2 rfl) ?_
      obtain ⟨z33, hcr, hM⟩ := ob_s hM
      refine res_i0 F hP hS rfl [] rfl rfl (runS_of (n := 2) (As := [.int h.2.2.2.2.2.1, .int x2]) (rest := []) F hP hS rfl [] rfl rfl (c_X8_has l dC dI cI cC cZ sa h.2.2.2.2.2.1 x2 hcr _) gX8_place_X8_has rfl (by decide +kernel) ⟨Nat.le_of_ble_eq_true rfl, Nat.le_of_ble_eq_true rfl⟩ rfl hl.1 rfl (Nat.le_of_ble_eq_true rfl) dX8_place_33 ⟨Nat.zero_le _, Nat.zero_le _⟩) (fun H locs hP hS => ?_)
      refine lv_if_eq (tgt := 42) hx hb dX8_place_36 (by decide) (fun hc => ?_) (fun hc => ?_)
      · have hM := if_pp hc hM
        refine lv_iload_n hx hb dX8_place_42 rfl (lv_at hl 1 rfl) ?_
        refine lv_if_ne (tgt := 57) hx hb dX8_place_43 (by decide) (fun hc => ?_) (fun hc => ?_)
        · have hM := if_nn hc hM
          refine lv_aload_n hx hb dX8_place_57 rfl (lv_at hl 0 rfl) ?_
          refine g_get (ci := 8) (C := RX8) (T := TX8) (N := 8) (v := .ref (ad 3)) F hP 0 rfl rfl inX8_place_X8 1 (by decide) (List.mem_of_getElem? (i := 1) rfl) rfl dX8_place_58 ?_
          refine lv_iload_n hx hb dX8_place_61 rfl (lv_at hl 2 rfl) ?_
          obtain ⟨z62, hcr, hM⟩ := ob_s hM
          refine res_i (ws' := (wX cI cC ad p z62.2 v k1 h1 v1 k2 h2 v2 r d y q)) F hP hS rfl [3, 4, 5, 6, 7] rfl rfl (runV_of (n := 1) (As := [.int x2]) (rest := []) F hP hS rfl [3, 4, 5, 6, 7] rfl rfl (c_X0_moveThing l dC dI cI cC cZ sa (ad 3) (ad 4) (ad 5) (ad 6) (ad 7) h v x2 hcr _) gX8_place_X0_moveThing rfl (by decide +kernel) ⟨Nat.le_of_ble_eq_true rfl, Nat.le_of_ble_eq_true rfl⟩ 3 0 rfl rfl rfl hl.1 rfl (Nat.le_of_ble_eq_true rfl) dX8_place_62 ⟨Nat.zero_le _, Nat.zero_le _⟩) (rep_pt rfl rfl rfl) (fun H locs hP hS => ?_)
          exact ret_i hx hb hr hlk dX8_place_65 hM hP hS
        · have hM := if_pp hc hM
          refine lv_aload_n hx hb dX8_place_46 rfl (lv_at hl 0 rfl) ?_
          refine g_get (ci := 8) (C := RX8) (T := TX8) (N := 8) (v := .ref (ad 3)) F hP 0 rfl rfl inX8_place_X8 1 (by decide) (List.mem_of_getElem? (i := 1) rfl) rfl dX8_place_47 ?_
          refine lv_iload_n hx hb dX8_place_50 rfl (lv_at hl 2 rfl) ?_
          obtain ⟨z51, hcr, hM⟩ := ob_s hM
          refine res_i (ws' := (wX cI cC ad p z51.2 v k1 h1 v1 k2 h2 v2 r d y q)) F hP hS rfl [3, 4, 5, 6, 7] rfl rfl (runV_of (n := 1) (As := [.int x2]) (rest := []) F hP hS rfl [3, 4, 5, 6, 7] rfl rfl (c_X0_moveDoor l dC dI cI cC cZ sa (ad 3) (ad 4) (ad 5) (ad 6) (ad 7) h v x2 hcr _) gX8_place_X0_moveDoor rfl (by decide +kernel) ⟨Nat.le_of_ble_eq_true rfl, Nat.le_of_ble_eq_true rfl⟩ 3 0 rfl rfl rfl hl.1 rfl (Nat.le_of_ble_eq_true rfl) dX8_place_51 ⟨Nat.zero_le _, Nat.zero_le _⟩) (rep_pt rfl rfl rfl) (fun H locs hP hS => ?_)
          refine lv_goto (tgt := 65) hx hb dX8_place_54 (by decide) ?_
          exact ret_i hx hb hr hlk dX8_place_65 hM hP hS
      · have hM := if_nn hc hM
        refine lv_bipush (v := -3) hx hb dX8_place_39 (by decide) ?_
        exact ret_i hx hb hr hlk dX8_place_41 hM hP hS
    · have hM := if_pp hc hM
      refine lv_bipush (v := -2) hx hb dX8_place_22 (by decide) ?_
      exact ret_i hx hb hr hlk dX8_place_24 hM hP hS
  · have hM := if_pp hc hM
    refine lv_iconst (v := -1) hx hb dX8_place_11 (by decide) ?_
    exact ret_i hx hb hr hlk dX8_place_12 hM hP hS
