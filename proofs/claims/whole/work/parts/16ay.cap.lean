/-! Walks, printed by wip/whole/gen.py -/
theorem inX8_say_X2 : ∀ w ∈ wsX20, w ∈ wsX8_say := fun w h => List.mem_cons_of_mem _ (List.mem_append_right _ h)
theorem inX8_say_X8 : ∀ w ∈ wsX80, w ∈ wsX8_say := fun w h => List.mem_cons_of_mem _ (List.mem_append_left _ (List.mem_append_right _ h))
set_option maxHeartbeats 4000000 in
set_option maxRecDepth 100000 in
theorem c_X8_say (l : Launch) (dC : Nat → ClassId) (dI : Nat → Nat → Nat) (cI cC cZ : ClassId) (sa : Nat → Nat) (ad : Nat → Nat) (p : PT) (h : HT) (v : VT) (k1 : Int32) (h1 : HT) (v1 : VT) (k2 : Int32) (h2 : HT) (v2 : VT) (r : RT) (d : DT) (y : YT) (q : QT) (x1 : Int32) {res : Int32 × PT} (hM : M_X8_say p x1 = some res) : CTi l (dC, dI) [(cI, .int), (cC, .char), (cZ, .boolean)] sa yX8_say wsX8_say (rmd 2) [.ref (ad 0), .int x1] (wX cI cC ad p h v k1 h1 v1 k2 h2 v2 r d y q) (fun (uu : PT) => (wX cI cC ad uu h v k1 h1 v1 k2 h2 v2 r d y q)) res := by
  refine CTi.enter (own := RX8) (cc := cX8_say) (maxL := 2) (ret := (some .int)) (by decide) rfl rfl (Nat.le_of_ble_eq_true rfl) ?_
  intro pr e s m below meth c A F hr hlk hP hS ls hl
  obtain ⟨⟨hx, hb, hml, hown, hts⟩, hK, hDD, hA, hKC⟩ := id F
  have hl : lv_has ls 2 [(0, .ref (ad 0)), (1, .int x1)] := hl
  have hP : va_P (dC, dI) vwCl (wX cI cC ad p h v k1 h1 v1 k2 h2 v2 r d y q) s.heap := hP
  unfold M_X8_say at hM
  refine lv_iload_n hx hb dX8_say_0 rfl (lv_at hl 1 rfl) ?_
  refine lv_bipush (v := 33) hx hb dX8_say_1 (by decide) ?_
  refine lv_bipush (v := 126) hx hb dX8_say_3 (by decide) ?_
  obtain ⟨z5, hcr, hM⟩ := ob_s hM
  refine res_i0 F hP hS rfl [] rfl rfl (runS_of (n := 3) (As := [.int x1, .int (33 : Int32), .int (126 : Int32)]) (rest := []) F hP hS rfl [] rfl rfl (c_X8_within l dC dI cI cC cZ sa x1 (33 : Int32) (126 : Int32) hcr _) gX8_say_X8_within rfl (by decide +kernel) ⟨Nat.le_of_ble_eq_true rfl, Nat.le_of_ble_eq_true rfl⟩ rfl hl.1 rfl (Nat.le_of_ble_eq_true rfl) dX8_say_5 ⟨Nat.zero_le _, Nat.zero_le _⟩) (fun H locs hP hS => ?_)
  refine lv_if_ne (tgt := 14) hx hb dX8_say_8 (by decide) (fun hc => ?_) (fun hc => ?_)
  · have hM := if_nn hc hM
    refine lv_aload_n hx hb dX8_say_14 rfl (lv_at hl 0 rfl) ?_
    refine g_get (ci := 8) (C := RX8) (T := TX8) (N := 8) (v := .ref (ad 1)) F hP 0 rfl rfl inX8_say_X8 0 (by decide) (List.mem_of_getElem? (i := 1) rfl) rfl dX8_say_15 ?_
    refine lv_iload_n hx hb dX8_say_18 rfl (lv_at hl 1 rfl) ?_
    refine lv_i2c (v := (x1.toUInt32 % 65536).toInt32) hx hb dX8_say_19 rfl ?_
    obtain ⟨z20, hcr, hM⟩ := ob_s hM
    refine res_i (ws' := (wX cI cC ad z20.2 h v k1 h1 v1 k2 h2 v2 r d y q)) F hP hS rfl [1, 2] rfl rfl (runV_of (n := 1) (As := [.int ((x1.toUInt32 % 65536).toInt32)]) (rest := []) F hP hS rfl [1, 2] rfl rfl (c_X2_add l dC dI cI cC cZ sa (ad 1) (ad 2) p ((x1.toUInt32 % 65536).toInt32) hcr _) gX8_say_X2_add rfl (by decide +kernel) ⟨Nat.le_of_ble_eq_true rfl, Nat.le_of_ble_eq_true rfl⟩ 1 2 rfl rfl rfl hl.1 rfl (Nat.le_of_ble_eq_true rfl) dX8_say_20 ⟨Nat.zero_le _, Nat.zero_le _⟩) (rep_pt rfl rfl rfl) (fun H locs hP hS => ?_)
    refine lv_if_eq (tgt := 36) hx hb dX8_say_23 (by decide) (fun hc => ?_) (fun hc => ?_)
    · have hM := if_pp hc hM
      refine lv_bipush (v := -4) hx hb dX8_say_36 (by decide) ?_
      exact ret_i hx hb hr hlk dX8_say_38 hM hP hS
    · have hM := if_nn hc hM
      refine lv_aload_n hx hb dX8_say_26 rfl (lv_at hl 0 rfl) ?_
      refine g_get (ci := 8) (C := RX8) (T := TX8) (N := 8) (v := .ref (ad 1)) F hP 0 rfl rfl inX8_say_X8 0 (by decide) (List.mem_of_getElem? (i := 1) rfl) rfl dX8_say_27 ?_
      refine g_get (ci := 2) (C := RX2) (T := TX2) (N := 2) (v := .int z20.2.1) F hP 1 rfl rfl inX8_say_X2 1 (by decide) (List.mem_of_getElem? (i := 2) rfl) rfl dX8_say_30 ?_
      refine lv_goto (tgt := 38) hx hb dX8_say_33 (by decide) ?_
      exact ret_i hx hb hr hlk dX8_say_38 hM hP hS
  · have hM := if_pp hc hM
    refine lv_bipush (v := -2) hx hb dX8_say_11 (by decide) ?_
    exact ret_i hx hb hr hlk dX8_say_13 hM hP hS
