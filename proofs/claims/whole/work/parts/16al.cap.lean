/-! Walks, printed by wip/whole/gen.py -/
theorem inX8_followWalk_X3 : ∀ w ∈ wsX30, w ∈ wsX8_followWalk := fun w h => List.mem_cons_of_mem _ (List.mem_append_left _ (List.mem_append_left _ (List.mem_append_left _ (List.mem_append_left _ (List.mem_append_right _ h)))))
theorem inX8_followWalk_X8 : ∀ w ∈ wsX80, w ∈ wsX8_followWalk := fun w h => List.mem_cons_of_mem _ (List.mem_append_left _ (List.mem_append_left _ (List.mem_append_left _ (List.mem_append_left _ (List.mem_append_left _ (List.mem_append_right _ h))))))
set_option maxHeartbeats 4000000 in
set_option maxRecDepth 100000 in
theorem c_X8_followWalk (l : Launch) (dC : Nat → ClassId) (dI : Nat → Nat → Nat) (cI cC cZ : ClassId) (sa : Nat → Nat) (ad : Nat → Nat) (p : PT) (h : HT) (v : VT) (k1 : Int32) (h1 : HT) (v1 : VT) (k2 : Int32) (h2 : HT) (v2 : VT) (r : RT) (d : DT) (y : YT) (q : QT)  {res : Int32 × RT × DT} (hM : M_X8_followWalk p h v r d = some res) : CTi l (dC, dI) [(cI, .int), (cC, .char), (cZ, .boolean)] sa yX8_followWalk wsX8_followWalk (rmd 7) [.ref (ad 0)] (wX cI cC ad p h v k1 h1 v1 k2 h2 v2 r d y q) (fun (uu : RT × DT) => (wX cI cC ad p h v k1 h1 v1 k2 h2 v2 uu.1 uu.2 y q)) res := by
  refine CTi.enter (own := RX8) (cc := cX8_followWalk) (maxL := 1) (ret := (some .int)) (by decide) rfl rfl (Nat.le_of_ble_eq_true rfl) ?_
  intro pr e s m below meth c A F hr hlk hP hS ls hl
  obtain ⟨⟨hx, hb, hml, hown, hts⟩, hK, hDD, hA, hKC⟩ := id F
  have hl : lv_has ls 1 [(0, .ref (ad 0))] := hl
  have hP : va_P (dC, dI) vwCl (wX cI cC ad p h v k1 h1 v1 k2 h2 v2 r d y q) s.heap := hP
  unfold M_X8_followWalk at hM
  refine lv_aload_n hx hb dX8_followWalk_0 rfl (lv_at hl 0 rfl) ?_
  refine g_get (ci := 8) (C := RX8) (T := TX8) (N := 8) (v := .ref (ad 1)) F hP 0 rfl rfl inX8_followWalk_X8 0 (by decide) (List.mem_of_getElem? (i := 1) rfl) rfl dX8_followWalk_1 ?_
  obtain ⟨z4, hcr, hM⟩ := ob_s hM
  refine res_i0 F hP hS rfl [1, 2] rfl rfl (runV_of (n := 0) (As := []) (rest := []) F hP hS rfl [1, 2] rfl rfl (c_X2_walkFault l dC dI cI cC cZ sa (ad 1) (ad 2) p hcr _) gX8_followWalk_X2_walkFault rfl (by decide +kernel) ⟨Nat.le_of_ble_eq_true rfl, Nat.le_of_ble_eq_true rfl⟩ 1 2 rfl rfl rfl hl.1 rfl (Nat.le_of_ble_eq_true rfl) dX8_followWalk_4 ⟨Nat.zero_le _, Nat.zero_le _⟩) (fun H locs hP hS => ?_)
  refine lv_bipush (v := -6) hx hb dX8_followWalk_7 (by decide) ?_
  refine lv_icmp_eq (tgt := 15) hx hb dX8_followWalk_9 (by decide) (fun hc => ?_) (fun hc => ?_)
  · have hM := if_pp hc hM
    refine lv_aload_n hx hb dX8_followWalk_15 rfl (lv_at hl 0 rfl) ?_
    refine g_get (ci := 8) (C := RX8) (T := TX8) (N := 8) (v := .ref (ad 24)) F hP 0 rfl rfl inX8_followWalk_X8 5 (by decide) (List.mem_of_getElem? (i := 2) rfl) rfl dX8_followWalk_16 ?_
    refine lv_aload_n hx hb dX8_followWalk_19 rfl (lv_at hl 0 rfl) ?_
    refine g_get (ci := 8) (C := RX8) (T := TX8) (N := 8) (v := .ref (ad 3)) F hP 0 rfl rfl inX8_followWalk_X8 1 (by decide) (List.mem_of_getElem? (i := 3) rfl) rfl dX8_followWalk_20 ?_
    refine lv_aload_n hx hb dX8_followWalk_23 rfl (lv_at hl 0 rfl) ?_
    refine g_get (ci := 8) (C := RX8) (T := TX8) (N := 8) (v := .ref (ad 1)) F hP 0 rfl rfl inX8_followWalk_X8 0 (by decide) (List.mem_of_getElem? (i := 1) rfl) rfl dX8_followWalk_24 ?_
    refine lv_aload_n hx hb dX8_followWalk_27 rfl (lv_at hl 0 rfl) ?_
    refine g_get (ci := 8) (C := RX8) (T := TX8) (N := 8) (v := .ref (ad 20)) F hP 0 rfl rfl inX8_followWalk_X8 4 (by decide) (List.mem_of_getElem? (i := 4) rfl) rfl dX8_followWalk_28 ?_
    obtain ⟨z31, hcr, hM⟩ := ob_s hM
    refine res_v (ws' := (wX cI cC ad p h v k1 h1 v1 k2 h2 v2 z31.2 z31.1 y q)) F hP hS rfl [24, 3, 4, 5, 6, 7, 1, 2, 20, 21, 22, 23] rfl rfl (runV_of (n := 3) (As := [.ref (ad 3), .ref (ad 1), .ref (ad 20)]) (rest := []) F hP hS rfl [24, 3, 4, 5, 6, 7, 1, 2, 20, 21, 22, 23] rfl rfl (c_X3_follow l dC dI cI cC cZ sa (ad 24) (ad 3) (ad 4) (ad 5) (ad 6) (ad 7) (ad 1) (ad 2) (ad 20) (ad 21) (ad 22) (ad 23) d h v p r hcr _) gX8_followWalk_X3_follow rfl (by decide +kernel) ⟨Nat.le_of_ble_eq_true rfl, Nat.le_of_ble_eq_true rfl⟩ 24 3 rfl rfl rfl hl.1 rfl (Nat.le_of_ble_eq_true rfl) dX8_followWalk_31 ⟨Nat.zero_le _, Nat.zero_le _⟩) (rep_pt rfl rfl rfl) (fun H locs hP hS => ?_)
    refine lv_aload_n hx hb dX8_followWalk_34 rfl (lv_at hl 0 rfl) ?_
    refine g_get (ci := 8) (C := RX8) (T := TX8) (N := 8) (v := .ref (ad 24)) F hP 0 rfl rfl inX8_followWalk_X8 5 (by decide) (List.mem_of_getElem? (i := 2) rfl) rfl dX8_followWalk_35 ?_
    refine g_get (ci := 3) (C := RX3) (T := TX3) (N := 7) (v := .int z31.1.1) F hP 24 rfl rfl inX8_followWalk_X3 0 (by decide) (List.mem_of_getElem? (i := 5) rfl) rfl dX8_followWalk_38 ?_
    refine lv_bipush (v := -6) hx hb dX8_followWalk_41 (by decide) ?_
    refine lv_icmp_ne (tgt := 50) hx hb dX8_followWalk_43 (by decide) (fun hc => ?_) (fun hc => ?_)
    · have hM := if_nn hc hM
      refine lv_bipush (v := -3) hx hb dX8_followWalk_50 (by decide) ?_
      exact ret_i hx hb hr hlk dX8_followWalk_52 hM hP hS
    · have hM := if_pp hc hM
      refine lv_iconst (v := 0) hx hb dX8_followWalk_46 (by decide) ?_
      refine lv_goto (tgt := 52) hx hb dX8_followWalk_47 (by decide) ?_
      exact ret_i hx hb hr hlk dX8_followWalk_52 hM hP hS
  · have hM := if_nn hc hM
    refine lv_bipush (v := -5) hx hb dX8_followWalk_12 (by decide) ?_
    exact ret_i hx hb hr hlk dX8_followWalk_14 hM hP hS
