/-! Walks, printed by wip/whole/gen.py -/
theorem inX8_watch_X0 : ∀ w ∈ wsX00, w ∈ wsX8_watch := fun w h => List.mem_cons_of_mem _ (List.mem_append_left _ (List.mem_append_right _ h))
theorem inX8_watch_X4 : ∀ w ∈ wsX40, w ∈ wsX8_watch := fun w h => List.mem_cons_of_mem _ (List.mem_append_right _ h)
theorem inX8_watch_X8 : ∀ w ∈ wsX80, w ∈ wsX8_watch := fun w h => List.mem_cons_of_mem _ (List.mem_append_left _ (List.mem_append_left _ (List.mem_append_right _ h)))
set_option maxHeartbeats 4000000 in
set_option maxRecDepth 100000 in
theorem c_X8_watch (l : Launch) (dC : Nat → ClassId) (dI : Nat → Nat → Nat) (cI cC cZ : ClassId) (sa : Nat → Nat) (ad : Nat → Nat) (p : PT) (h : HT) (v : VT) (k1 : Int32) (h1 : HT) (v1 : VT) (k2 : Int32) (h2 : HT) (v2 : VT) (r : RT) (d : DT) (y : YT) (q : QT) (x1 : Int32) (x2 : Int32) (x3 : Int32) {res : Int32 × VT} (hM : M_X8_watch h v x1 x2 x3 = some res) : CTi l (dC, dI) [(cI, .int), (cC, .char), (cZ, .boolean)] sa yX8_watch wsX8_watch (rmd 3) [.ref (ad 0), .int x1, .int x2, .int x3] (wX cI cC ad p h v k1 h1 v1 k2 h2 v2 r d y q) (fun (uu : VT) => (wX cI cC ad p h uu k1 h1 v1 k2 h2 v2 r d y q)) res := by
  refine CTi.enter (own := RX8) (cc := cX8_watch) (maxL := 4) (ret := (some .int)) (by decide) rfl rfl (Nat.le_of_ble_eq_true rfl) ?_
  intro pr e s m below meth c A F hr hlk hP hS ls hl
  obtain ⟨⟨hx, hb, hml, hown, hts⟩, hK, hDD, hA, hKC⟩ := id F
  have hl : lv_has ls 4 [(0, .ref (ad 0)), (1, .int x1), (2, .int x2), (3, .int x3)] := hl
  have hP : va_P (dC, dI) vwCl (wX cI cC ad p h v k1 h1 v1 k2 h2 v2 r d y q) s.heap := hP
  unfold M_X8_watch at hM
  refine lv_aload_n hx hb dX8_watch_0 rfl (lv_at hl 0 rfl) ?_
  refine g_get (ci := 8) (C := RX8) (T := TX8) (N := 8) (v := .ref (ad 3)) F hP 0 rfl rfl inX8_watch_X8 1 (by decide) (List.mem_of_getElem? (i := 1) rfl) rfl dX8_watch_1 ?_
  refine lv_iload_n hx hb dX8_watch_4 rfl (lv_at hl 1 rfl) ?_
  obtain ⟨z5, hcr, hM⟩ := ob_s hM
  refine res_i0 F hP hS rfl [3, 4, 5, 6, 7] rfl rfl (runV_of (n := 1) (As := [.int x1]) (rest := []) F hP hS rfl [3, 4, 5, 6, 7] rfl rfl (c_X0_isCell l dC dI cI cC cZ sa (ad 3) (ad 4) (ad 5) (ad 6) (ad 7) h v x1 hcr _) gX8_watch_X0_isCell rfl (by decide +kernel) ⟨Nat.le_of_ble_eq_true rfl, Nat.le_of_ble_eq_true rfl⟩ 3 0 rfl rfl rfl hl.1 rfl (Nat.le_of_ble_eq_true rfl) dX8_watch_5 ⟨Nat.zero_le _, Nat.zero_le _⟩) (fun H locs hP hS => ?_)
  refine lv_if_ne (tgt := 13) hx hb dX8_watch_8 (by decide) (fun hc => ?_) (fun hc => ?_)
  · have hM := if_nn hc hM
    refine lv_iload_n hx hb dX8_watch_13 rfl (lv_at hl 2 rfl) ?_
    refine lv_iconst (v := 0) hx hb dX8_watch_14 (by decide) ?_
    refine lv_iconst (v := 3) hx hb dX8_watch_15 (by decide) ?_
    obtain ⟨z16, hcr, hM⟩ := ob_s hM
    refine res_i0 F hP hS rfl [] rfl rfl (runS_of (n := 3) (As := [.int x2, .int (0 : Int32), .int (3 : Int32)]) (rest := []) F hP hS rfl [] rfl rfl (c_X8_within l dC dI cI cC cZ sa x2 (0 : Int32) (3 : Int32) hcr _) gX8_watch_X8_within rfl (by decide +kernel) ⟨Nat.le_of_ble_eq_true rfl, Nat.le_of_ble_eq_true rfl⟩ rfl hl.1 rfl (Nat.le_of_ble_eq_true rfl) dX8_watch_16 ⟨Nat.zero_le _, Nat.zero_le _⟩) (fun H locs hP hS => ?_)
    refine lv_if_ne (tgt := 25) hx hb dX8_watch_19 (by decide) (fun hc => ?_) (fun hc => ?_)
    · have hM := if_nn hc hM
      refine lv_aload_n hx hb dX8_watch_25 rfl (lv_at hl 0 rfl) ?_
      refine g_get (ci := 8) (C := RX8) (T := TX8) (N := 8) (v := .ref (ad 3)) F hP 0 rfl rfl inX8_watch_X8 1 (by decide) (List.mem_of_getElem? (i := 1) rfl) rfl dX8_watch_26 ?_
      refine g_get (ci := 0) (C := RX0) (T := TX0) (N := 13) (v := .int h.2.2.2.2.2.1) F hP 3 rfl rfl inX8_watch_X0 5 (by decide) (List.mem_of_getElem? (i := 2) rfl) rfl dX8_watch_29 ?_
      refine lv_iload_n hx hb dX8_watch_32 rfl (lv_at hl 1 rfl) ?_
      obtain ⟨z33, hcr, hM⟩ := ob_s hM
      refine res_i0 F hP hS rfl [] rfl rfl (runS_of (n := 2) (As := [.int h.2.2.2.2.2.1, .int x1]) (rest := []) F hP hS rfl [] rfl rfl (c_X8_has l dC dI cI cC cZ sa h.2.2.2.2.2.1 x1 hcr _) gX8_watch_X8_has rfl (by decide +kernel) ⟨Nat.le_of_ble_eq_true rfl, Nat.le_of_ble_eq_true rfl⟩ rfl hl.1 rfl (Nat.le_of_ble_eq_true rfl) dX8_watch_33 ⟨Nat.zero_le _, Nat.zero_le _⟩) (fun H locs hP hS => ?_)
      refine lv_if_eq (tgt := 42) hx hb dX8_watch_36 (by decide) (fun hc => ?_) (fun hc => ?_)
      · have hM := if_pp hc hM
        refine lv_aload_n hx hb dX8_watch_42 rfl (lv_at hl 0 rfl) ?_
        refine g_get (ci := 8) (C := RX8) (T := TX8) (N := 8) (v := .ref (ad 3)) F hP 0 rfl rfl inX8_watch_X8 1 (by decide) (List.mem_of_getElem? (i := 1) rfl) rfl dX8_watch_43 ?_
        refine g_get (ci := 0) (C := RX0) (T := TX0) (N := 13) (v := .ref (ad 4)) F hP 3 rfl rfl inX8_watch_X0 12 (by decide) (List.mem_of_getElem? (i := 3) rfl) rfl dX8_watch_46 ?_
        refine lv_iload_n hx hb dX8_watch_49 rfl (lv_at hl 1 rfl) ?_
        refine lv_iload_n hx hb dX8_watch_50 rfl (lv_at hl 2 rfl) ?_
        refine lv_iload_n hx hb dX8_watch_51 rfl (lv_at hl 3 rfl) ?_
        obtain ⟨z52, hcr, hM⟩ := ob_s hM
        refine res_i (ws' := (wX cI cC ad p h z52.2 k1 h1 v1 k2 h2 v2 r d y q)) F hP hS rfl [4, 5, 6, 7] rfl rfl (runV_of (n := 3) (As := [.int x1, .int x2, .int x3]) (rest := []) F hP hS rfl [4, 5, 6, 7] rfl rfl (c_X4_add l dC dI cI cC cZ sa (ad 4) (ad 5) (ad 6) (ad 7) v x1 x2 x3 hcr _) gX8_watch_X4_add rfl (by decide +kernel) ⟨Nat.le_of_ble_eq_true rfl, Nat.le_of_ble_eq_true rfl⟩ 4 4 rfl rfl rfl hl.1 rfl (Nat.le_of_ble_eq_true rfl) dX8_watch_52 ⟨Nat.zero_le _, Nat.zero_le _⟩) (rep_pt rfl rfl rfl) (fun H locs hP hS => ?_)
        refine lv_if_eq (tgt := 71) hx hb dX8_watch_55 (by decide) (fun hc => ?_) (fun hc => ?_)
        · have hM := if_pp hc hM
          refine lv_bipush (v := -4) hx hb dX8_watch_71 (by decide) ?_
          exact ret_i hx hb hr hlk dX8_watch_73 hM hP hS
        · have hM := if_nn hc hM
          refine lv_aload_n hx hb dX8_watch_58 rfl (lv_at hl 0 rfl) ?_
          refine g_get (ci := 8) (C := RX8) (T := TX8) (N := 8) (v := .ref (ad 3)) F hP 0 rfl rfl inX8_watch_X8 1 (by decide) (List.mem_of_getElem? (i := 1) rfl) rfl dX8_watch_59 ?_
          refine g_get (ci := 0) (C := RX0) (T := TX0) (N := 13) (v := .ref (ad 4)) F hP 3 rfl rfl inX8_watch_X0 12 (by decide) (List.mem_of_getElem? (i := 3) rfl) rfl dX8_watch_62 ?_
          refine g_get (ci := 4) (C := RX4) (T := TX4) (N := 4) (v := .int z52.2.1) F hP 4 rfl rfl inX8_watch_X4 3 (by decide) (List.mem_of_getElem? (i := 4) rfl) rfl dX8_watch_65 ?_
          refine lv_goto (tgt := 73) hx hb dX8_watch_68 (by decide) ?_
          exact ret_i hx hb hr hlk dX8_watch_73 hM hP hS
      · have hM := if_nn hc hM
        refine lv_bipush (v := -3) hx hb dX8_watch_39 (by decide) ?_
        exact ret_i hx hb hr hlk dX8_watch_41 hM hP hS
    · have hM := if_pp hc hM
      refine lv_bipush (v := -2) hx hb dX8_watch_22 (by decide) ?_
      exact ret_i hx hb hr hlk dX8_watch_24 hM hP hS
  · have hM := if_pp hc hM
    refine lv_iconst (v := -1) hx hb dX8_watch_11 (by decide) ?_
    exact ret_i hx hb hr hlk dX8_watch_12 hM hP hS
