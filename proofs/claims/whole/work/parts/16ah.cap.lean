/-! Walks, printed by wip/whole/gen.py -/
theorem inX8_ears_X0 : ∀ w ∈ wsX00, w ∈ wsX8_ears := fun w h => List.mem_cons_of_mem _ (List.mem_append_right _ h)
theorem inX8_ears_X8 : ∀ w ∈ wsX80, w ∈ wsX8_ears := fun w h => List.mem_cons_of_mem _ (List.mem_append_left _ (List.mem_append_right _ h))
set_option maxHeartbeats 4000000 in
set_option maxRecDepth 100000 in
theorem c_X8_ears (l : Launch) (dC : Nat → ClassId) (dI : Nat → Nat → Nat) (cI cC cZ : ClassId) (sa : Nat → Nat) (ad : Nat → Nat) (p : PT) (h : HT) (v : VT) (k1 : Int32) (h1 : HT) (v1 : VT) (k2 : Int32) (h2 : HT) (v2 : VT) (r : RT) (d : DT) (y : YT) (q : QT) (x1 : Int32) {res : Int32 × HT} (hM : M_X8_ears h x1 = some res) : CTi l (dC, dI) [(cI, .int), (cC, .char), (cZ, .boolean)] sa yX8_ears wsX8_ears (rmd 2) [.ref (ad 0), .int x1] (wX cI cC ad p h v k1 h1 v1 k2 h2 v2 r d y q) (fun (uu : HT) => (wX cI cC ad p uu v k1 h1 v1 k2 h2 v2 r d y q)) res := by
  refine CTi.enter (own := RX8) (cc := cX8_ears) (maxL := 3) (ret := (some .int)) (by decide) rfl rfl (Nat.le_of_ble_eq_true rfl) ?_
  intro pr e s m below meth c A F hr hlk hP hS ls hl
  obtain ⟨⟨hx, hb, hml, hown, hts⟩, hK, hDD, hA, hKC⟩ := id F
  have hl : lv_has ls 3 [(0, .ref (ad 0)), (1, .int x1)] := hl
  have hP : va_P (dC, dI) vwCl (wX cI cC ad p h v k1 h1 v1 k2 h2 v2 r d y q) s.heap := hP
  unfold M_X8_ears at hM
  refine lv_iload_n hx hb dX8_ears_0 rfl (lv_at hl 1 rfl) ?_
  refine lv_iconst (v := 0) hx hb dX8_ears_1 (by decide) ?_
  refine lv_bipush (v := 6) hx hb dX8_ears_2 (by decide) ?_
  obtain ⟨z4, hcr, hM⟩ := ob_s hM
  refine res_i0 F hP hS rfl [] rfl rfl (runS_of (n := 3) (As := [.int x1, .int (0 : Int32), .int (6 : Int32)]) (rest := []) F hP hS rfl [] rfl rfl (c_X8_within l dC dI cI cC cZ sa x1 (0 : Int32) (6 : Int32) hcr _) gX8_ears_X8_within rfl (by decide +kernel) ⟨Nat.le_of_ble_eq_true rfl, Nat.le_of_ble_eq_true rfl⟩ rfl hl.1 rfl (Nat.le_of_ble_eq_true rfl) dX8_ears_4 ⟨Nat.zero_le _, Nat.zero_le _⟩) (fun H locs hP hS => ?_)
  refine lv_if_ne (tgt := 13) hx hb dX8_ears_7 (by decide) (fun hc => ?_) (fun hc => ?_)
  · have hM := if_nn hc hM
    refine lv_aload_n hx hb dX8_ears_13 rfl (lv_at hl 0 rfl) ?_
    refine g_get (ci := 8) (C := RX8) (T := TX8) (N := 8) (v := .ref (ad 3)) F hP 0 rfl rfl inX8_ears_X8 1 (by decide) (List.mem_of_getElem? (i := 1) rfl) rfl dX8_ears_14 ?_
    refine g_get (ci := 0) (C := RX0) (T := TX0) (N := 13) (v := .int h.2.2.2.2.2.2.2.2.2.2.2) F hP 3 rfl rfl inX8_ears_X0 11 (by decide) (List.mem_of_getElem? (i := 2) rfl) rfl dX8_ears_17 ?_
    refine lv_istore_n (lv' := [(2, .int h.2.2.2.2.2.2.2.2.2.2.2), (0, .ref (ad 0)), (1, .int x1)]) hx hb dX8_ears_20 rfl hl (by decide) rfl (fun ls hl => ?_)
    refine lv_aload_n hx hb dX8_ears_21 rfl (lv_at hl 1 rfl) ?_
    refine g_get (ci := 8) (C := RX8) (T := TX8) (N := 8) (v := .ref (ad 3)) F hP 0 rfl rfl inX8_ears_X8 1 (by decide) (List.mem_of_getElem? (i := 1) rfl) rfl dX8_ears_22 ?_
    refine lv_iload_n hx hb dX8_ears_25 rfl (lv_at hl 2 rfl) ?_
    refine g_put (ws' := (wX cI cC ad p (h.1, h.2.1, h.2.2.1, h.2.2.2.1, h.2.2.2.2.1, h.2.2.2.2.2.1, h.2.2.2.2.2.2.1, h.2.2.2.2.2.2.2.1, h.2.2.2.2.2.2.2.2.1, h.2.2.2.2.2.2.2.2.2.1, h.2.2.2.2.2.2.2.2.2.2.1, x1) v k1 h1 v1 k2 h2 v2 r d y q)) (ci := 0) (C := RX0) (T := TX0) (N := 13) (v := .int x1) (ty := .int) F hP hS rfl tyX0 tyX0_ok nmX0 3 rfl rfl inX8_ears_X0 11 (by decide) (List.mem_of_getElem? (i := 2) rfl) rfl (by decide +kernel) rfl rfl (Nat.le_of_ble_eq_true rfl) dX8_ears_26 rfl (fun H locs hP hS => ?_)
    refine lv_iload_n hx hb dX8_ears_29 rfl (lv_at hl 0 rfl) ?_
    exact ret_i hx hb hr hlk dX8_ears_30 hM hP hS
  · have hM := if_pp hc hM
    refine lv_bipush (v := -2) hx hb dX8_ears_10 (by decide) ?_
    exact ret_i hx hb hr hlk dX8_ears_12 hM hP hS
