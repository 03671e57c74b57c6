/-! Walks, printed by wip/whole/gen.py -/
set_option maxHeartbeats 4000000 in
set_option maxRecDepth 100000 in
theorem c_X8_meet (l : Launch) (dC : Nat → ClassId) (dI : Nat → Nat → Nat) (cI cC cZ : ClassId) (sa : Nat → Nat) (ad : Nat → Nat) (p : PT) (h : HT) (v : VT) (k1 : Int32) (h1 : HT) (v1 : VT) (k2 : Int32) (h2 : HT) (v2 : VT) (r : RT) (d : DT) (y : YT) (q : QT) (x1 : Int32) (x2 : Int32) {res : Int32 × RT × DT} (hM : M_X8_meet p h v r d x1 x2 = some res) : CTi l (dC, dI) [(cI, .int), (cC, .char), (cZ, .boolean)] sa yX8_meet wsX8_meet (rmd 8) [.ref (ad 0), .int x1, .int x2] (wX cI cC ad p h v k1 h1 v1 k2 h2 v2 r d y q) (fun (uu : RT × DT) => (wX cI cC ad p h v k1 h1 v1 k2 h2 v2 uu.1 uu.2 y q)) res := by
  refine CTi.enter (own := RX8) (cc := cX8_meet) (maxL := 4) (ret := (some .int)) (by decide) rfl rfl (Nat.le_of_ble_eq_true rfl) ?_
  intro pr e s m below meth c A F hr hlk hP hS ls hl
  obtain ⟨⟨hx, hb, hml, hown, hts⟩, hK, hDD, hA, hKC⟩ := id F
  have hl : lv_has ls 4 [(0, .ref (ad 0)), (1, .int x1), (2, .int x2)] := hl
  have hP : va_P (dC, dI) vwCl (wX cI cC ad p h v k1 h1 v1 k2 h2 v2 r d y q) s.heap := hP
  unfold M_X8_meet at hM
  refine lv_iload_n hx hb dX8_meet_0 rfl (lv_at hl 2 rfl) ?_
  refine lv_iconst (v := 0) hx hb dX8_meet_1 (by decide) ?_
  refine lv_bipush (v := 8) hx hb dX8_meet_2 (by decide) ?_
  obtain ⟨z4, hcr, hM⟩ := ob_s hM
  refine res_i0 F hP hS rfl [] rfl rfl (runS_of (n := 3) (As := [.int x2, .int (0 : Int32), .int (8 : Int32)]) (rest := []) F hP hS rfl [] rfl rfl (c_X8_within l dC dI cI cC cZ sa x2 (0 : Int32) (8 : Int32) hcr _) gX8_meet_X8_within rfl (by decide +kernel) ⟨Nat.le_of_ble_eq_true rfl, Nat.le_of_ble_eq_true rfl⟩ rfl hl.1 rfl (Nat.le_of_ble_eq_true rfl) dX8_meet_4 ⟨Nat.zero_le _, Nat.zero_le _⟩) (fun H locs hP hS => ?_)
  refine lv_if_eq (tgt := 25) hx hb dX8_meet_7 (by decide) (fun hc => ?_) (fun hc => ?_)
  · have hM := if_pp hc hM
    refine lv_bipush (v := -2) hx hb dX8_meet_25 (by decide) ?_
    exact ret_i hx hb hr hlk dX8_meet_27 hM hP hS
  · have hM := if_nn hc hM
    refine lv_iload_n hx hb dX8_meet_10 rfl (lv_at hl 1 rfl) ?_
    refine lv_iconst (v := 0) hx hb dX8_meet_11 (by decide) ?_
    refine lv_iconst (v := 5) hx hb dX8_meet_12 (by decide) ?_
    refine lv_iload_n hx hb dX8_meet_13 rfl (lv_at hl 2 rfl) ?_
    obtain ⟨z14, hcr, hM⟩ := ob_s hM
    refine res_i0 F hP hS rfl [] rfl rfl (runS_of (n := 2) (As := [.int (5 : Int32), .int x2]) (rest := [.int (0 : Int32), .int x1]) F hP hS rfl [] rfl rfl (c_X8_power l dC dI cI cC cZ sa (5 : Int32) x2 hcr _) gX8_meet_X8_power rfl (by decide +kernel) ⟨Nat.le_of_ble_eq_true rfl, Nat.le_of_ble_eq_true rfl⟩ rfl hl.1 rfl (Nat.le_of_ble_eq_true rfl) dX8_meet_14 ⟨Nat.zero_le _, Nat.zero_le _⟩) (fun H locs hP hS => ?_)
    refine lv_iconst (v := 1) hx hb dX8_meet_17 (by decide) ?_
    refine lv_isub hx hb dX8_meet_18 ?_
    obtain ⟨z19, hcr, hM⟩ := ob_s hM
    refine res_i0 F hP hS rfl [] rfl rfl (runS_of (n := 3) (As := [.int x1, .int (0 : Int32), .int (z14 - (1 : Int32))]) (rest := []) F hP hS rfl [] rfl rfl (c_X8_within l dC dI cI cC cZ sa x1 (0 : Int32) (z14 - (1 : Int32)) hcr _) gX8_meet_X8_within rfl (by decide +kernel) ⟨Nat.le_of_ble_eq_true rfl, Nat.le_of_ble_eq_true rfl⟩ rfl hl.1 rfl (Nat.le_of_ble_eq_true rfl) dX8_meet_19 ⟨Nat.zero_le _, Nat.zero_le _⟩) (fun H locs hP hS => ?_)
    refine lv_if_ne (tgt := 28) hx hb dX8_meet_22 (by decide) (fun hc => ?_) (fun hc => ?_)
    · have hM := if_nn hc hM
      refine lv_aload_n hx hb dX8_meet_28 rfl (lv_at hl 0 rfl) ?_
      obtain ⟨z29, hcr, hM⟩ := ob_s hM
      refine res_i (ws' := (wX cI cC ad p h v k1 h1 v1 k2 h2 v2 z29.2.1 z29.2.2 y q)) F hP hS rfl [0, 1, 2, 3, 4, 5, 6, 7, 8, 9, 10, 11, 12, 13, 14, 15, 16, 17, 18, 19, 20, 21, 22, 23, 24, 25, 26, 27, 28, 29, 30] rfl rfl (runV_of (n := 0) (As := []) (rest := []) F hP hS rfl [0, 1, 2, 3, 4, 5, 6, 7, 8, 9, 10, 11, 12, 13, 14, 15, 16, 17, 18, 19, 20, 21, 22, 23, 24, 25, 26, 27, 28, 29, 30] rfl rfl (c_X8_followWalk l dC dI cI cC cZ sa ad p h v k1 h1 v1 k2 h2 v2 r d y q hcr _) gX8_meet_X8_followWalk rfl (by decide +kernel) ⟨Nat.le_of_ble_eq_true rfl, Nat.le_of_ble_eq_true rfl⟩ 0 8 rfl rfl rfl hl.1 rfl (Nat.le_of_ble_eq_true rfl) dX8_meet_29 ⟨Nat.zero_le _, Nat.zero_le _⟩) rep_full (fun H locs hP hS => ?_)
      refine lv_istore_n (lv' := [(3, .int z29.1), (0, .ref (ad 0)), (1, .int x1), (2, .int x2)]) hx hb dX8_meet_32 rfl hl (by decide) rfl (fun ls hl => ?_)
      refine lv_iload_n hx hb dX8_meet_33 rfl (lv_at hl 0 rfl) ?_
      refine lv_if_ne (tgt := 46) hx hb dX8_meet_34 (by decide) (fun hc => ?_) (fun hc => ?_)
      · have hM := if_nn hc hM
        refine lv_iload_n hx hb dX8_meet_46 rfl (lv_at hl 0 rfl) ?_
        exact ret_i hx hb hr hlk dX8_meet_47 hM hP hS
      · have hM := if_pp hc hM
        refine lv_aload_n hx hb dX8_meet_37 rfl (lv_at hl 1 rfl) ?_
        refine lv_iload_n hx hb dX8_meet_38 rfl (lv_at hl 2 rfl) ?_
        refine lv_iload_n hx hb dX8_meet_39 rfl (lv_at hl 3 rfl) ?_
        obtain ⟨z40, hcr, hM⟩ := ob_s hM
        refine res_i0 F hP hS rfl [0, 1, 2, 3, 4, 5, 6, 7, 8, 9, 10, 11, 12, 13, 14, 15, 16, 17, 18, 19, 20, 21, 22, 23, 24, 25, 26, 27, 28, 29, 30] rfl rfl (runV_of (n := 2) (As := [.int x1, .int x2]) (rest := []) F hP hS rfl [0, 1, 2, 3, 4, 5, 6, 7, 8, 9, 10, 11, 12, 13, 14, 15, 16, 17, 18, 19, 20, 21, 22, 23, 24, 25, 26, 27, 28, 29, 30] rfl rfl (c_X8_firstMeeting l dC dI cI cC cZ sa ad p h v k1 h1 v1 k2 h2 v2 z29.2.1 z29.2.2 y q x1 x2 hcr _) gX8_meet_X8_firstMeeting rfl (by decide +kernel) ⟨Nat.le_of_ble_eq_true rfl, Nat.le_of_ble_eq_true rfl⟩ 0 8 rfl rfl rfl hl.1 rfl (Nat.le_of_ble_eq_true rfl) dX8_meet_40 ⟨Nat.zero_le _, Nat.zero_le _⟩) (fun H locs hP hS => ?_)
        refine lv_goto (tgt := 47) hx hb dX8_meet_43 (by decide) ?_
        exact ret_i hx hb hr hlk dX8_meet_47 hM hP hS
    · have hM := if_pp hc hM
      refine lv_bipush (v := -2) hx hb dX8_meet_25 (by decide) ?_
      exact ret_i hx hb hr hlk dX8_meet_27 hM hP hS
