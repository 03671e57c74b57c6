/-! Walks, printed by wip/whole/gen.py -/
theorem inX8_judge_X3 : ∀ w ∈ wsX30, w ∈ wsX8_judge := fun w h => List.mem_cons_of_mem _ (List.mem_append_left _ (List.mem_append_left _ (List.mem_append_left _ (List.mem_append_left _ (List.mem_append_right _ h)))))
theorem inX8_judge_X8 : ∀ w ∈ wsX80, w ∈ wsX8_judge := fun w h => List.mem_cons_of_mem _ (List.mem_append_left _ (List.mem_append_left _ (List.mem_append_left _ (List.mem_append_left _ (List.mem_append_left _ (List.mem_append_right _ h))))))
set_option maxHeartbeats 4000000 in
set_option maxRecDepth 100000 in
theorem c_X8_judge (l : Launch) (dC : Nat → ClassId) (dI : Nat → Nat → Nat) (cI cC cZ : ClassId) (sa : Nat → Nat) (ad : Nat → Nat) (p : PT) (h : HT) (v : VT) (k1 : Int32) (h1 : HT) (v1 : VT) (k2 : Int32) (h2 : HT) (v2 : VT) (r : RT) (d : DT) (y : YT) (q : QT) (x1 : Int32) {res : Int32 × RT × DT} (hM : M_X8_judge p h v r d x1 = some res) : CTi l (dC, dI) [(cI, .int), (cC, .char), (cZ, .boolean)] sa yX8_judge wsX8_judge (rmd 8) [.ref (ad 0), .int x1] (wX cI cC ad p h v k1 h1 v1 k2 h2 v2 r d y q) (fun (uu : RT × DT) => (wX cI cC ad p h v k1 h1 v1 k2 h2 v2 uu.1 uu.2 y q)) res := by
  refine CTi.enter (own := RX8) (cc := cX8_judge) (maxL := 3) (ret := (some .int)) (by decide) rfl rfl (Nat.le_of_ble_eq_true rfl) ?_
  intro pr e s m below meth c A F hr hlk hP hS ls hl
  obtain ⟨⟨hx, hb, hml, hown, hts⟩, hK, hDD, hA, hKC⟩ := id F
  have hl : lv_has ls 3 [(0, .ref (ad 0)), (1, .int x1)] := hl
  have hP : va_P (dC, dI) vwCl (wX cI cC ad p h v k1 h1 v1 k2 h2 v2 r d y q) s.heap := hP
  unfold M_X8_judge at hM
  refine lv_iload_n hx hb dX8_judge_0 rfl (lv_at hl 1 rfl) ?_
  refine lv_iconst (v := 0) hx hb dX8_judge_1 (by decide) ?_
  refine lv_iconst (v := 5) hx hb dX8_judge_2 (by decide) ?_
  obtain ⟨z3, hcr, hM⟩ := ob_s hM
  refine res_i0 F hP hS rfl [] rfl rfl (runS_of (n := 3) (As := [.int x1, .int (0 : Int32), .int (5 : Int32)]) (rest := []) F hP hS rfl [] rfl rfl (c_X8_within l dC dI cI cC cZ sa x1 (0 : Int32) (5 : Int32) hcr _) gX8_judge_X8_within rfl (by decide +kernel) ⟨Nat.le_of_ble_eq_true rfl, Nat.le_of_ble_eq_true rfl⟩ rfl hl.1 rfl (Nat.le_of_ble_eq_true rfl) dX8_judge_3 ⟨Nat.zero_le _, Nat.zero_le _⟩) (fun H locs hP hS => ?_)
  refine lv_if_ne (tgt := 12) hx hb dX8_judge_6 (by decide) (fun hc => ?_) (fun hc => ?_)
  · have hM := if_nn hc hM
    refine lv_aload_n hx hb dX8_judge_12 rfl (lv_at hl 0 rfl) ?_
    obtain ⟨z13, hcr, hM⟩ := ob_s hM
    refine res_i (ws' := (wX cI cC ad p h v k1 h1 v1 k2 h2 v2 z13.2.1 z13.2.2 y q)) F hP hS rfl [0, 1, 2, 3, 4, 5, 6, 7, 8, 9, 10, 11, 12, 13, 14, 15, 16, 17, 18, 19, 20, 21, 22, 23, 24, 25, 26, 27, 28, 29, 30] rfl rfl (runV_of (n := 0) (As := []) (rest := []) F hP hS rfl [0, 1, 2, 3, 4, 5, 6, 7, 8, 9, 10, 11, 12, 13, 14, 15, 16, 17, 18, 19, 20, 21, 22, 23, 24, 25, 26, 27, 28, 29, 30] rfl rfl (c_X8_followWalk l dC dI cI cC cZ sa ad p h v k1 h1 v1 k2 h2 v2 r d y q hcr _) gX8_judge_X8_followWalk rfl (by decide +kernel) ⟨Nat.le_of_ble_eq_true rfl, Nat.le_of_ble_eq_true rfl⟩ 0 8 rfl rfl rfl hl.1 rfl (Nat.le_of_ble_eq_true rfl) dX8_judge_13 ⟨Nat.zero_le _, Nat.zero_le _⟩) rep_full (fun H locs hP hS => ?_)
    refine lv_istore_n (lv' := [(2, .int z13.1), (0, .ref (ad 0)), (1, .int x1)]) hx hb dX8_judge_16 rfl hl (by decide) rfl (fun ls hl => ?_)
    refine lv_iload_n hx hb dX8_judge_17 rfl (lv_at hl 0 rfl) ?_
    refine lv_bipush (v := -5) hx hb dX8_judge_18 (by decide) ?_
    refine lv_icmp_ne (tgt := 26) hx hb dX8_judge_20 (by decide) (fun hc => ?_) (fun hc => ?_)
    · have hM := if_nn hc hM
      refine lv_iload_n hx hb dX8_judge_26 rfl (lv_at hl 2 rfl) ?_
      refine lv_if_ne (tgt := 38) hx hb dX8_judge_27 (by decide) (fun hc => ?_) (fun hc => ?_)
      · have hM := if_nn hc hM
        refine lv_iload_n hx hb dX8_judge_38 rfl (lv_at hl 0 rfl) ?_
        refine lv_bipush (v := -3) hx hb dX8_judge_39 (by decide) ?_
        refine lv_icmp_ne (tgt := 49) hx hb dX8_judge_41 (by decide) (fun hc => ?_) (fun hc => ?_)
        · have hM := if_nn hc hM
          refine lv_aload_n hx hb dX8_judge_49 rfl (lv_at hl 1 rfl) ?_
          refine g_get (ci := 8) (C := RX8) (T := TX8) (N := 8) (v := .ref (ad 24)) F hP 0 rfl rfl inX8_judge_X8 5 (by decide) (List.mem_of_getElem? (i := 1) rfl) rfl dX8_judge_50 ?_
          refine lv_iload_n hx hb dX8_judge_53 rfl (lv_at hl 2 rfl) ?_
          obtain ⟨z54, hcr, hM⟩ := ob_s hM
          refine res_i0 F hP hS rfl [24] rfl rfl (runV_of (n := 1) (As := [.int x1]) (rest := []) F hP hS rfl [24] rfl rfl (c_X3_answer l dC dI cI cC cZ sa (ad 24) z13.2.2 x1 hcr _) gX8_judge_X3_answer rfl (by decide +kernel) ⟨Nat.le_of_ble_eq_true rfl, Nat.le_of_ble_eq_true rfl⟩ 24 3 rfl rfl rfl hl.1 rfl (Nat.le_of_ble_eq_true rfl) dX8_judge_54 ⟨Nat.zero_le _, Nat.zero_le _⟩) (fun H locs hP hS => ?_)
          exact ret_i hx hb hr hlk dX8_judge_57 hM hP hS
        · have hM := if_pp hc hM
          refine lv_bipush (v := -3) hx hb dX8_judge_44 (by decide) ?_
          refine lv_goto (tgt := 57) hx hb dX8_judge_46 (by decide) ?_
          exact ret_i hx hb hr hlk dX8_judge_57 hM hP hS
      · have hM := if_pp hc hM
        refine lv_aload_n hx hb dX8_judge_30 rfl (lv_at hl 1 rfl) ?_
        refine g_get (ci := 8) (C := RX8) (T := TX8) (N := 8) (v := .ref (ad 24)) F hP 0 rfl rfl inX8_judge_X8 5 (by decide) (List.mem_of_getElem? (i := 1) rfl) rfl dX8_judge_31 ?_
        refine g_get (ci := 3) (C := RX3) (T := TX3) (N := 7) (v := .int z13.2.2.1) F hP 24 rfl rfl inX8_judge_X3 0 (by decide) (List.mem_of_getElem? (i := 2) rfl) rfl dX8_judge_34 ?_
        exact ret_i hx hb hr hlk dX8_judge_37 hM hP hS
    · have hM := if_pp hc hM
      refine lv_bipush (v := -5) hx hb dX8_judge_23 (by decide) ?_
      exact ret_i hx hb hr hlk dX8_judge_25 hM hP hS
  · have hM := if_pp hc hM
    refine lv_bipush (v := -2) hx hb dX8_judge_9 (by decide) ?_
    exact ret_i hx hb hr hlk dX8_judge_11 hM hP hS
