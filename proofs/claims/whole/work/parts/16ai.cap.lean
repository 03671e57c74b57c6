/-! Walks, printed by wip/whole/gen.py -/
theorem inX8_fault_X8 : ∀ w ∈ wsX80, w ∈ wsX8_fault := fun w h => List.mem_cons_of_mem _ (List.mem_append_left _ (List.mem_append_left _ (List.mem_append_right _ h)))
set_option maxHeartbeats 4000000 in
set_option maxRecDepth 100000 in
theorem c_X8_fault (l : Launch) (dC : Nat → ClassId) (dI : Nat → Nat → Nat) (cI cC cZ : ClassId) (sa : Nat → Nat) (ad : Nat → Nat) (p : PT) (h : HT) (v : VT) (k1 : Int32) (h1 : HT) (v1 : VT) (k2 : Int32) (h2 : HT) (v2 : VT) (r : RT) (d : DT) (y : YT) (q : QT) (x1 : Int32) {res : Int32} (hM : M_X8_fault p h x1 = some res) : CTi l (dC, dI) [(cI, .int), (cC, .char), (cZ, .boolean)] sa yX8_fault wsX8_fault (rmd 7) [.ref (ad 0), .int x1] (wX cI cC ad p h v k1 h1 v1 k2 h2 v2 r d y q) (fun (_ : Unit) => (wX cI cC ad p h v k1 h1 v1 k2 h2 v2 r d y q)) (res, ()) := by
  refine CTi.enter (own := RX8) (cc := cX8_fault) (maxL := 2) (ret := (some .int)) (by decide) rfl rfl (Nat.le_of_ble_eq_true rfl) ?_
  intro pr e s m below meth c A F hr hlk hP hS ls hl
  obtain ⟨⟨hx, hb, hml, hown, hts⟩, hK, hDD, hA, hKC⟩ := id F
  have hl : lv_has ls 2 [(0, .ref (ad 0)), (1, .int x1)] := hl
  have hP : va_P (dC, dI) vwCl (wX cI cC ad p h v k1 h1 v1 k2 h2 v2 r d y q) s.heap := hP
  unfold M_X8_fault at hM
  refine lv_iload_n hx hb dX8_fault_0 rfl (lv_at hl 1 rfl) ?_
  refine lv_if_ne (tgt := 19) hx hb dX8_fault_1 (by decide) (fun hc => ?_) (fun hc => ?_)
  · have hM := if_nn hc hM
    refine lv_iload_n hx hb dX8_fault_19 rfl (lv_at hl 1 rfl) ?_
    refine lv_iconst (v := 1) hx hb dX8_fault_20 (by decide) ?_
    refine lv_icmp_ne (tgt := 34) hx hb dX8_fault_21 (by decide) (fun hc => ?_) (fun hc => ?_)
    · have hM := if_nn hc hM
      refine lv_bipush (v := -2) hx hb dX8_fault_34 (by decide) ?_
      exact ret_i hx hb hr hlk dX8_fault_36 (some_u hM) hP hS
    · have hM := if_pp hc hM
      refine lv_aload_n hx hb dX8_fault_24 rfl (lv_at hl 0 rfl) ?_
      refine g_get (ci := 8) (C := RX8) (T := TX8) (N := 8) (v := .ref (ad 1)) F hP 0 rfl rfl inX8_fault_X8 0 (by decide) (List.mem_of_getElem? (i := 1) rfl) rfl dX8_fault_25 ?_
      obtain ⟨z28, hcr, hM⟩ := ob_s hM
      refine res_i0 F hP hS rfl [1, 2] rfl rfl (runV_of (n := 0) (As := []) (rest := []) F hP hS rfl [1, 2] rfl rfl (c_X2_walkFault l dC dI cI cC cZ sa (ad 1) (ad 2) p hcr _) gX8_fault_X2_walkFault rfl (by decide +kernel) ⟨Nat.le_of_ble_eq_true rfl, Nat.le_of_ble_eq_true rfl⟩ 1 2 rfl rfl rfl hl.1 rfl (Nat.le_of_ble_eq_true rfl) dX8_fault_28 ⟨Nat.zero_le _, Nat.zero_le _⟩) (fun H locs hP hS => ?_)
      refine lv_goto (tgt := 36) hx hb dX8_fault_31 (by decide) ?_
      exact ret_i hx hb hr hlk dX8_fault_36 (some_u hM) hP hS
  · have hM := if_pp hc hM
    refine lv_aload_n hx hb dX8_fault_4 rfl (lv_at hl 0 rfl) ?_
    refine g_get (ci := 8) (C := RX8) (T := TX8) (N := 8) (v := .ref (ad 1)) F hP 0 rfl rfl inX8_fault_X8 0 (by decide) (List.mem_of_getElem? (i := 1) rfl) rfl dX8_fault_5 ?_
    refine lv_aload_n hx hb dX8_fault_8 rfl (lv_at hl 0 rfl) ?_
    refine g_get (ci := 8) (C := RX8) (T := TX8) (N := 8) (v := .ref (ad 3)) F hP 0 rfl rfl inX8_fault_X8 1 (by decide) (List.mem_of_getElem? (i := 2) rfl) rfl dX8_fault_9 ?_
    obtain ⟨z12, hcr, hM⟩ := ob_s hM
    refine res_i0 F hP hS rfl [3, 4, 5, 6, 7] rfl rfl (runV_of (n := 0) (As := []) (rest := [.ref (ad 1)]) F hP hS rfl [3, 4, 5, 6, 7] rfl rfl (c_X0_cells l dC dI cI cC cZ sa (ad 3) (ad 4) (ad 5) (ad 6) (ad 7) h v hcr _) gX8_fault_X0_cells rfl (by decide +kernel) ⟨Nat.le_of_ble_eq_true rfl, Nat.le_of_ble_eq_true rfl⟩ 3 0 rfl rfl rfl hl.1 rfl (Nat.le_of_ble_eq_true rfl) dX8_fault_12 ⟨Nat.zero_le _, Nat.zero_le _⟩) (fun H locs hP hS => ?_)
    obtain ⟨z15, hcr, hM⟩ := ob_s hM
    refine res_i0 F hP hS rfl [1, 2] rfl rfl (runV_of (n := 1) (As := [.int z12]) (rest := []) F hP hS rfl [1, 2] rfl rfl (c_X2_houseFault l dC dI cI cC cZ sa (ad 1) (ad 2) p z12 hcr _) gX8_fault_X2_houseFault rfl (by decide +kernel) ⟨Nat.le_of_ble_eq_true rfl, Nat.le_of_ble_eq_true rfl⟩ 1 2 rfl rfl rfl hl.1 rfl (Nat.le_of_ble_eq_true rfl) dX8_fault_15 ⟨Nat.zero_le _, Nat.zero_le _⟩) (fun H locs hP hS => ?_)
    exact ret_i hx hb hr hlk dX8_fault_18 (some_u hM) hP hS
