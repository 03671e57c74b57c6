/-! Walks, printed by wip/whole/gen.py -/
theorem inX8_restore_X1 : ∀ w ∈ wsX10, w ∈ wsX8_restore := fun w h => List.mem_cons_of_mem _ (List.mem_append_left _ (List.mem_append_left _ (List.mem_append_left _ (List.mem_append_right _ h))))
theorem inX8_restore_X8 : ∀ w ∈ wsX80, w ∈ wsX8_restore := fun w h => List.mem_cons_of_mem _ (List.mem_append_left _ (List.mem_append_left _ (List.mem_append_right _ h)))
set_option maxHeartbeats 4000000 in
set_option maxRecDepth 100000 in
theorem c_X8_restore0 (l : Launch) (dC : Nat → ClassId) (dI : Nat → Nat → Nat) (cI cC cZ : ClassId) (sa : Nat → Nat) (ad : Nat → Nat) (p : PT) (h : HT) (v : VT) (k1 : Int32) (h1 : HT) (v1 : VT) (k2 : Int32) (h2 : HT) (v2 : VT) (r : RT) (d : DT) (y : YT) (q : QT) (x1 : Int32) {res : Int32 × HT × VT} (hv : x1 = 0) (hM : M_X8_restore0 h v k1 h1 v1 k2 h2 v2 x1 = some res) : CTi l (dC, dI) [(cI, .int), (cC, .char), (cZ, .boolean)] sa yX8_restore wsX8_restore (rmd 5) [.ref (ad 0), .int x1] (wX cI cC ad p h v k1 h1 v1 k2 h2 v2 r d y q) (fun (uu : HT × VT) => (wX cI cC ad p uu.1 uu.2 k1 h1 v1 k2 h2 v2 r d y q)) res := by
  refine CTi.enter (own := RX8) (cc := cX8_restore) (maxL := 3) (ret := (some .int)) (by decide) rfl rfl (Nat.le_of_ble_eq_true rfl) ?_
  intro pr e s m below meth c A F hr hlk hP hS ls hl
  obtain ⟨⟨hx, hb, hml, hown, hts⟩, hK, hDD, hA, hKC⟩ := id F
  have hl : lv_has ls 3 [(0, .ref (ad 0)), (1, .int x1)] := hl
  have hP : va_P (dC, dI) vwCl (wX cI cC ad p h v k1 h1 v1 k2 h2 v2 r d y q) s.heap := hP
  unfold M_X8_restore0 at hM
  refine lv_iload_n hx hb dX8_restore_0 rfl (lv_at hl 1 rfl) ?_
  refine lv_iconst (v := 0) hx hb dX8_restore_1 (by decide) ?_
  refine lv_iconst (v := 1) hx hb dX8_restore_2 (by decide) ?_
  obtain ⟨z3, hcr, hM⟩ := ob_s hM
  refine res_i0 F hP hS rfl [] rfl rfl (runS_of (n := 3) (As := [.int x1, .int (0 : Int32), .int (1 : Int32)]) (rest := []) F hP hS rfl [] rfl rfl (c_X8_within l dC dI cI cC cZ sa x1 (0 : Int32) (1 : Int32) hcr _) gX8_restore_X8_within rfl (by decide +kernel) ⟨Nat.le_of_ble_eq_true rfl, Nat.le_of_ble_eq_true rfl⟩ rfl hl.1 rfl (Nat.le_of_ble_eq_true rfl) dX8_restore_3 ⟨Nat.zero_le _, Nat.zero_le _⟩) (fun H locs hP hS => ?_)
  refine lv_if_ne (tgt := 12) hx hb dX8_restore_6 (by decide) (fun hc => ?_) (fun hc => ?_)
  · have hM := if_nn hc hM
    refine lv_aload_n hx hb dX8_restore_12 rfl (lv_at hl 0 rfl) ?_
    refine lv_iload_n hx hb dX8_restore_13 rfl (lv_at hl 1 rfl) ?_
    refine res_r F hP hS rfl [0, 1, 2, 3, 4, 5, 6, 7, 8, 9, 10, 11, 12, 13, 14, 15, 16, 17, 18, 19, 20, 21, 22, 23, 24, 25, 26, 27, 28, 29, 30] rfl rfl (runV_of (n := 1) (As := [.int x1]) (rest := []) F hP hS rfl [0, 1, 2, 3, 4, 5, 6, 7, 8, 9, 10, 11, 12, 13, 14, 15, 16, 17, 18, 19, 20, 21, 22, 23, 24, 25, 26, 27, 28, 29, 30] rfl rfl (c_X8_imageOf0 l dC dI cI cC cZ sa ad p h v k1 h1 v1 k2 h2 v2 r d y q x1 hv _) gX8_restore_X8_imageOf rfl (by decide +kernel) ⟨Nat.le_of_ble_eq_true rfl, Nat.le_of_ble_eq_true rfl⟩ 0 8 rfl rfl rfl hl.1 rfl (Nat.le_of_ble_eq_true rfl) dX8_restore_14 ⟨Nat.zero_le _, Nat.zero_le _⟩) (fun H locs hP hS => ?_)
    refine lv_astore_n (lv' := [(2, .ref (ad 8)), (0, .ref (ad 0)), (1, .int x1)]) hx hb dX8_restore_17 rfl hl (by decide) rfl (fun ls hl => ?_)
    refine lv_aload_n hx hb dX8_restore_18 rfl (lv_at hl 0 rfl) ?_
    refine g_get (ci := 1) (C := RX1) (T := TX1) (N := 2) (v := .int k1) F hP 8 rfl rfl inX8_restore_X1 1 (by decide) (List.mem_of_getElem? (i := 1) rfl) rfl dX8_restore_19 ?_
    refine lv_if_ne (tgt := 28) hx hb dX8_restore_22 (by decide) (fun hc => ?_) (fun hc => ?_)
    · have hM := if_nn hc hM
      refine lv_aload_n hx hb dX8_restore_28 rfl (lv_at hl 1 rfl) ?_
      refine g_get (ci := 8) (C := RX8) (T := TX8) (N := 8) (v := .ref (ad 3)) F hP 0 rfl rfl inX8_restore_X8 1 (by decide) (List.mem_of_getElem? (i := 2) rfl) rfl dX8_restore_29 ?_
      refine lv_aload_n hx hb dX8_restore_32 rfl (lv_at hl 0 rfl) ?_
      refine g_get (ci := 1) (C := RX1) (T := TX1) (N := 2) (v := .ref (ad 9)) F hP 8 rfl rfl inX8_restore_X1 0 (by decide) (List.mem_of_getElem? (i := 3) rfl) rfl dX8_restore_33 ?_
      obtain ⟨z36, hcr, hM⟩ := ob_s hM
      refine res_v (ws' := (wX cI cC ad p z36.1 z36.2 k1 h1 v1 k2 h2 v2 r d y q)) F hP hS rfl [3, 4, 5, 6, 7, 9, 10, 11, 12, 13] rfl rfl (runV_of (n := 1) (As := [.ref (ad 9)]) (rest := []) F hP hS rfl [3, 4, 5, 6, 7, 9, 10, 11, 12, 13] rfl rfl (c_X0_copyFrom l dC dI cI cC cZ sa (ad 3) (ad 4) (ad 5) (ad 6) (ad 7) (ad 9) (ad 10) (ad 11) (ad 12) (ad 13) h v h1 v1 hcr _) gX8_restore_X0_copyFrom rfl (by decide +kernel) ⟨Nat.le_of_ble_eq_true rfl, Nat.le_of_ble_eq_true rfl⟩ 3 0 rfl rfl rfl hl.1 rfl (Nat.le_of_ble_eq_true rfl) dX8_restore_36 ⟨Nat.zero_le _, Nat.zero_le _⟩) (rep_pt rfl rfl rfl) (fun H locs hP hS => ?_)
      refine lv_iconst (v := 1) hx hb dX8_restore_39 (by decide) ?_
      exact ret_i hx hb hr hlk dX8_restore_40 hM hP hS
    · have hM := if_pp hc hM
      refine lv_bipush (v := -3) hx hb dX8_restore_25 (by decide) ?_
      exact ret_i hx hb hr hlk dX8_restore_27 hM hP hS
  · have hM := if_pp hc hM
    refine lv_bipush (v := -2) hx hb dX8_restore_9 (by decide) ?_
    exact ret_i hx hb hr hlk dX8_restore_11 hM hP hS
