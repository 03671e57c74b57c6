/-! Walks, printed by wip/whole/gen.py -/
theorem inX8_post_X0 : ∀ w ∈ wsX00, w ∈ wsX8_post := fun w h => List.mem_cons_of_mem _ (List.mem_append_left _ (List.mem_append_right _ h))
theorem inX8_post_X8 : ∀ w ∈ wsX80, w ∈ wsX8_post := fun w h => List.mem_cons_of_mem _ (List.mem_append_left _ (List.mem_append_left _ (List.mem_append_right _ h)))
set_option maxHeartbeats 4000000 in
set_option maxRecDepth 100000 in
theorem c_X8_post (l : Launch) (dC : Nat → ClassId) (dI : Nat → Nat → Nat) (cI cC cZ : ClassId) (sa : Nat → Nat) (ad : Nat → Nat) (p : PT) (h : HT) (v : VT) (k1 : Int32) (h1 : HT) (v1 : VT) (k2 : Int32) (h2 : HT) (v2 : VT) (r : RT) (d : DT) (y : YT) (q : QT) (x1 : Int32) {res : Int32} (hM : M_X8_post h v x1 = some res) : CTi l (dC, dI) [(cI, .int), (cC, .char), (cZ, .boolean)] sa yX8_post wsX8_post (rmd 7) [.ref (ad 0), .int x1] (wX cI cC ad p h v k1 h1 v1 k2 h2 v2 r d y q) (fun (_ : Unit) => (wX cI cC ad p h v k1 h1 v1 k2 h2 v2 r d y q)) (res, ()) := by
  refine CTi.enter (own := RX8) (cc := cX8_post) (maxL := 4) (ret := (some .int)) (by decide) rfl rfl (Nat.le_of_ble_eq_true rfl) ?_
  intro pr e s m below meth c A F hr hlk hP hS ls hl
  obtain ⟨⟨hx, hb, hml, hown, hts⟩, hK, hDD, hA, hKC⟩ := id F
  have hl : lv_has ls 4 [(0, .ref (ad 0)), (1, .int x1)] := hl
  have hP : va_P (dC, dI) vwCl (wX cI cC ad p h v k1 h1 v1 k2 h2 v2 r d y q) s.heap := hP
  unfold M_X8_post at hM
  refine lv_iload_n hx hb dX8_post_0 rfl (lv_at hl 1 rfl) ?_
  refine lv_iconst (v := 0) hx hb dX8_post_1 (by decide) ?_
  refine lv_iconst (v := 1) hx hb dX8_post_2 (by decide) ?_
  obtain ⟨z3, hcr, hM⟩ := ob_s hM
  refine res_i0 F hP hS rfl [] rfl rfl (runS_of (n := 3) (As := [.int x1, .int (0 : Int32), .int (1 : Int32)]) (rest := []) F hP hS rfl [] rfl rfl (c_X8_within l dC dI cI cC cZ sa x1 (0 : Int32) (1 : Int32) hcr _) gX8_post_X8_within rfl (by decide +kernel) ⟨Nat.le_of_ble_eq_true rfl, Nat.le_of_ble_eq_true rfl⟩ rfl hl.1 rfl (Nat.le_of_ble_eq_true rfl) dX8_post_3 ⟨Nat.zero_le _, Nat.zero_le _⟩) (fun H locs hP hS => ?_)
  refine lv_if_ne (tgt := 12) hx hb dX8_post_6 (by decide) (fun hc => ?_) (fun hc => ?_)
  · have hM := if_nn hc hM
    refine lv_aload_n hx hb dX8_post_12 rfl (lv_at hl 0 rfl) ?_
    refine g_get (ci := 8) (C := RX8) (T := TX8) (N := 8) (v := .ref (ad 3)) F hP 0 rfl rfl inX8_post_X8 1 (by decide) (List.mem_of_getElem? (i := 1) rfl) rfl dX8_post_13 ?_
    refine g_get (ci := 0) (C := RX0) (T := TX0) (N := 13) (v := .ref (ad 4)) F hP 3 rfl rfl inX8_post_X0 12 (by decide) (List.mem_of_getElem? (i := 2) rfl) rfl dX8_post_16 ?_
    obtain ⟨z19, hcr, hM⟩ := ob_s hM
    refine res_i0 F hP hS rfl [4, 5, 6, 7] rfl rfl (runV_of (n := 0) (As := []) (rest := []) F hP hS rfl [4, 5, 6, 7] rfl rfl (c_X4_isFull l dC dI cI cC cZ sa (ad 4) (ad 5) (ad 6) (ad 7) v hcr _) gX8_post_X4_isFull rfl (by decide +kernel) ⟨Nat.le_of_ble_eq_true rfl, Nat.le_of_ble_eq_true rfl⟩ 4 4 rfl rfl rfl hl.1 rfl (Nat.le_of_ble_eq_true rfl) dX8_post_19 ⟨Nat.zero_le _, Nat.zero_le _⟩) (fun H locs hP hS => ?_)
    refine lv_if_eq (tgt := 28) hx hb dX8_post_22 (by decide) (fun hc => ?_) (fun hc => ?_)
    · have hM := if_pp hc hM
      refine lv_aload_n hx hb dX8_post_28 rfl (lv_at hl 0 rfl) ?_
      refine g_get (ci := 8) (C := RX8) (T := TX8) (N := 8) (v := .ref (ad 3)) F hP 0 rfl rfl inX8_post_X8 1 (by decide) (List.mem_of_getElem? (i := 1) rfl) rfl dX8_post_29 ?_
      obtain ⟨z32, hcr, hM⟩ := ob_s hM
      refine res_i0 F hP hS rfl [3, 4, 5, 6, 7] rfl rfl (runV_of (n := 0) (As := []) (rest := []) F hP hS rfl [3, 4, 5, 6, 7] rfl rfl (c_X0_bareCells l dC dI cI cC cZ sa (ad 3) (ad 4) (ad 5) (ad 6) (ad 7) h v hcr _) gX8_post_X0_bareCells rfl (by decide +kernel) ⟨Nat.le_of_ble_eq_true rfl, Nat.le_of_ble_eq_true rfl⟩ 3 0 rfl rfl rfl hl.1 rfl (Nat.le_of_ble_eq_true rfl) dX8_post_32 ⟨Nat.zero_le _, Nat.zero_le _⟩) (fun H locs hP hS => ?_)
      refine lv_istore_n (lv' := [(2, .int z32), (0, .ref (ad 0)), (1, .int x1)]) hx hb dX8_post_35 rfl hl (by decide) rfl (fun ls hl => ?_)
      refine lv_aload_n hx hb dX8_post_36 rfl (lv_at hl 1 rfl) ?_
      refine lv_iload_n hx hb dX8_post_37 rfl (lv_at hl 0 rfl) ?_
      obtain ⟨z38, hcr, hM⟩ := ob_s hM
      refine res_i0 F hP hS rfl [0, 1, 2, 3, 4, 5, 6, 7, 8, 9, 10, 11, 12, 13, 14, 15, 16, 17, 18, 19, 20, 21, 22, 23, 24, 25, 26, 27, 28, 29, 30] rfl rfl (runV_of (n := 1) (As := [.int z32]) (rest := []) F hP hS rfl [0, 1, 2, 3, 4, 5, 6, 7, 8, 9, 10, 11, 12, 13, 14, 15, 16, 17, 18, 19, 20, 21, 22, 23, 24, 25, 26, 27, 28, 29, 30] rfl rfl (c_X8_bestPost l dC dI cI cC cZ sa ad p h v k1 h1 v1 k2 h2 v2 r d y q z32 hcr _) gX8_post_X8_bestPost rfl (by decide +kernel) ⟨Nat.le_of_ble_eq_true rfl, Nat.le_of_ble_eq_true rfl⟩ 0 8 rfl rfl rfl hl.1 rfl (Nat.le_of_ble_eq_true rfl) dX8_post_38 ⟨Nat.zero_le _, Nat.zero_le _⟩) (fun H locs hP hS => ?_)
      refine lv_istore_n (lv' := [(3, .int z38), (2, .int z32), (0, .ref (ad 0)), (1, .int x1)]) hx hb dX8_post_41 rfl hl (by decide) rfl (fun ls hl => ?_)
      refine lv_iload_n hx hb dX8_post_42 rfl (lv_at hl 3 rfl) ?_
      refine lv_if_ne (tgt := 50) hx hb dX8_post_43 (by decide) (fun hc => ?_) (fun hc => ?_)
      · have hM := if_nn hc hM
        refine lv_aload_n hx hb dX8_post_50 rfl (lv_at hl 2 rfl) ?_
        refine lv_iload_n hx hb dX8_post_51 rfl (lv_at hl 1 rfl) ?_
        refine lv_iload_n hx hb dX8_post_52 rfl (lv_at hl 0 rfl) ?_
        obtain ⟨z53, hcr, hM⟩ := ob_s hM
        refine res_i0 F hP hS rfl [0, 1, 2, 3, 4, 5, 6, 7, 8, 9, 10, 11, 12, 13, 14, 15, 16, 17, 18, 19, 20, 21, 22, 23, 24, 25, 26, 27, 28, 29, 30] rfl rfl (runV_of (n := 2) (As := [.int z32, .int z38]) (rest := []) F hP hS rfl [0, 1, 2, 3, 4, 5, 6, 7, 8, 9, 10, 11, 12, 13, 14, 15, 16, 17, 18, 19, 20, 21, 22, 23, 24, 25, 26, 27, 28, 29, 30] rfl rfl (c_X8_bareWith l dC dI cI cC cZ sa ad p h v k1 h1 v1 k2 h2 v2 r d y q z32 z38 hcr _) gX8_post_X8_bareWith rfl (by decide +kernel) ⟨Nat.le_of_ble_eq_true rfl, Nat.le_of_ble_eq_true rfl⟩ 0 8 rfl rfl rfl hl.1 rfl (Nat.le_of_ble_eq_true rfl) dX8_post_53 ⟨Nat.zero_le _, Nat.zero_le _⟩) (fun H locs hP hS => ?_)
        exact ret_i hx hb hr hlk dX8_post_56 (some_u hM) hP hS
      · have hM := if_pp hc hM
        refine lv_iload_n hx hb dX8_post_46 rfl (lv_at hl 0 rfl) ?_
        refine lv_goto (tgt := 56) hx hb dX8_post_47 (by decide) ?_
        exact ret_i hx hb hr hlk dX8_post_56 (some_u hM) hP hS
    · have hM := if_nn hc hM
      refine lv_bipush (v := -4) hx hb dX8_post_25 (by decide) ?_
      exact ret_i hx hb hr hlk dX8_post_27 (some_u hM) hP hS
  · have hM := if_pp hc hM
    refine lv_bipush (v := -2) hx hb dX8_post_9 (by decide) ?_
    exact ret_i hx hb hr hlk dX8_post_11 (some_u hM) hP hS
