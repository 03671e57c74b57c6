/-! Walks, printed by wip/whole/gen.py -/
theorem inX8_least_X0 : ∀ w ∈ wsX00, w ∈ wsX8_least := fun w h => List.mem_cons_of_mem _ (List.mem_append_left _ (List.mem_append_left _ (List.mem_append_right _ h)))
theorem inX8_least_X8 : ∀ w ∈ wsX80, w ∈ wsX8_least := fun w h => List.mem_cons_of_mem _ (List.mem_append_left _ (List.mem_append_left _ (List.mem_append_left _ (List.mem_append_right _ h))))
set_option maxHeartbeats 4000000 in
set_option maxRecDepth 100000 in
theorem c_X8_least (l : Launch) (dC : Nat → ClassId) (dI : Nat → Nat → Nat) (cI cC cZ : ClassId) (sa : Nat → Nat) (ad : Nat → Nat) (p : PT) (h : HT) (v : VT) (k1 : Int32) (h1 : HT) (v1 : VT) (k2 : Int32) (h2 : HT) (v2 : VT) (r : RT) (d : DT) (y : YT) (q : QT) (x1 : Int32) {res : Int32 × YT} (hM : M_X8_least h v y x1 = some res) : CTi l (dC, dI) [(cI, .int), (cC, .char), (cZ, .boolean)] sa yX8_least wsX8_least (rmd 7) [.ref (ad 0), .int x1] (wX cI cC ad p h v k1 h1 v1 k2 h2 v2 r d y q) (fun (uu : YT) => (wX cI cC ad p h v k1 h1 v1 k2 h2 v2 r d uu q)) res := by
  refine CTi.enter (own := RX8) (cc := cX8_least) (maxL := 3) (ret := (some .int)) (by decide) rfl rfl (Nat.le_of_ble_eq_true rfl) ?_
  intro pr e s m below meth c A F hr hlk hP hS ls hl
  obtain ⟨⟨hx, hb, hml, hown, hts⟩, hK, hDD, hA, hKC⟩ := id F
  have hl : lv_has ls 3 [(0, .ref (ad 0)), (1, .int x1)] := hl
  have hP : va_P (dC, dI) vwCl (wX cI cC ad p h v k1 h1 v1 k2 h2 v2 r d y q) s.heap := hP
  unfold M_X8_least at hM
  refine lv_iload_n hx hb dX8_least_0 rfl (lv_at hl 1 rfl) ?_
  refine lv_iconst (v := 0) hx hb dX8_least_1 (by decide) ?_
  refine lv_iconst (v := 1) hx hb dX8_least_2 (by decide) ?_
  obtain ⟨z3, hcr, hM⟩ := ob_s hM
  refine res_i0 F hP hS rfl [] rfl rfl (runS_of (n := 3) (As := [.int x1, .int (0 : Int32), .int (1 : Int32)]) (rest := []) F hP hS rfl [] rfl rfl (c_X8_within l dC dI cI cC cZ sa x1 (0 : Int32) (1 : Int32) hcr _) gX8_least_X8_within rfl (by decide +kernel) ⟨Nat.le_of_ble_eq_true rfl, Nat.le_of_ble_eq_true rfl⟩ rfl hl.1 rfl (Nat.le_of_ble_eq_true rfl) dX8_least_3 ⟨Nat.zero_le _, Nat.zero_le _⟩) (fun H locs hP hS => ?_)
  refine lv_if_ne (tgt := 12) hx hb dX8_least_6 (by decide) (fun hc => ?_) (fun hc => ?_)
  · have hM := if_nn hc hM
    refine lv_aload_n hx hb dX8_least_12 rfl (lv_at hl 0 rfl) ?_
    refine g_get (ci := 8) (C := RX8) (T := TX8) (N := 8) (v := .ref (ad 25)) F hP 0 rfl rfl inX8_least_X8 6 (by decide) (List.mem_of_getElem? (i := 1) rfl) rfl dX8_least_13 ?_
    refine lv_aload_n hx hb dX8_least_16 rfl (lv_at hl 0 rfl) ?_
    refine g_get (ci := 8) (C := RX8) (T := TX8) (N := 8) (v := .ref (ad 3)) F hP 0 rfl rfl inX8_least_X8 1 (by decide) (List.mem_of_getElem? (i := 2) rfl) rfl dX8_least_17 ?_
    refine lv_aload_n hx hb dX8_least_20 rfl (lv_at hl 0 rfl) ?_
    refine g_get (ci := 8) (C := RX8) (T := TX8) (N := 8) (v := .ref (ad 3)) F hP 0 rfl rfl inX8_least_X8 1 (by decide) (List.mem_of_getElem? (i := 2) rfl) rfl dX8_least_21 ?_
    refine g_get (ci := 0) (C := RX0) (T := TX0) (N := 13) (v := .int h.2.2.2.2.2.2.2.2.2.2.1) F hP 3 rfl rfl inX8_least_X0 10 (by decide) (List.mem_of_getElem? (i := 3) rfl) rfl dX8_least_24 ?_
    obtain ⟨z27, hcr, hM⟩ := ob_s hM
    refine res_i0 F hP hS rfl [] rfl rfl (runS_of (n := 1) (As := [.int h.2.2.2.2.2.2.2.2.2.2.1]) (rest := [.ref (ad 3), .ref (ad 25)]) F hP hS rfl [] rfl rfl (c_X8_bit l dC dI cI cC cZ sa h.2.2.2.2.2.2.2.2.2.2.1 hcr _) gX8_least_X8_bit rfl (by decide +kernel) ⟨Nat.le_of_ble_eq_true rfl, Nat.le_of_ble_eq_true rfl⟩ rfl hl.1 rfl (Nat.le_of_ble_eq_true rfl) dX8_least_27 ⟨Nat.zero_le _, Nat.zero_le _⟩) (fun H locs hP hS => ?_)
    refine lv_aload_n hx hb dX8_least_30 rfl (lv_at hl 0 rfl) ?_
    refine g_get (ci := 8) (C := RX8) (T := TX8) (N := 8) (v := .ref (ad 3)) F hP 0 rfl rfl inX8_least_X8 1 (by decide) (List.mem_of_getElem? (i := 2) rfl) rfl dX8_least_31 ?_
    refine g_get (ci := 0) (C := RX0) (T := TX0) (N := 13) (v := .int h.2.2.2.2.2.2.2.2.2.1) F hP 3 rfl rfl inX8_least_X0 9 (by decide) (List.mem_of_getElem? (i := 4) rfl) rfl dX8_least_34 ?_
    obtain ⟨z37, hcr, hM⟩ := ob_s hM
    refine res_i0 F hP hS rfl [] rfl rfl (runS_of (n := 1) (As := [.int h.2.2.2.2.2.2.2.2.2.1]) (rest := [.int z27, .ref (ad 3), .ref (ad 25)]) F hP hS rfl [] rfl rfl (c_X8_bit l dC dI cI cC cZ sa h.2.2.2.2.2.2.2.2.2.1 hcr _) gX8_least_X8_bit rfl (by decide +kernel) ⟨Nat.le_of_ble_eq_true rfl, Nat.le_of_ble_eq_true rfl⟩ rfl hl.1 rfl (Nat.le_of_ble_eq_true rfl) dX8_least_37 ⟨Nat.zero_le _, Nat.zero_le _⟩) (fun H locs hP hS => ?_)
    refine lv_aload_n hx hb dX8_least_40 rfl (lv_at hl 0 rfl) ?_
    refine g_get (ci := 8) (C := RX8) (T := TX8) (N := 8) (v := .ref (ad 3)) F hP 0 rfl rfl inX8_least_X8 1 (by decide) (List.mem_of_getElem? (i := 2) rfl) rfl dX8_least_41 ?_
    obtain ⟨z44, hcr, hM⟩ := ob_s hM
    refine res_i0 F hP hS rfl [3, 4, 5, 6, 7] rfl rfl (runV_of (n := 0) (As := []) (rest := [.int z37, .int z27, .ref (ad 3), .ref (ad 25)]) F hP hS rfl [3, 4, 5, 6, 7] rfl rfl (c_X0_open l dC dI cI cC cZ sa (ad 3) (ad 4) (ad 5) (ad 6) (ad 7) h v hcr _) gX8_least_X0_open rfl (by decide +kernel) ⟨Nat.le_of_ble_eq_true rfl, Nat.le_of_ble_eq_true rfl⟩ 3 0 rfl rfl rfl hl.1 rfl (Nat.le_of_ble_eq_true rfl) dX8_least_44 ⟨Nat.zero_le _, Nat.zero_le _⟩) (fun H locs hP hS => ?_)
    obtain ⟨z47, hcr, hM⟩ := ob_s hM
    refine res_i (ws' := (wX cI cC ad p h v k1 h1 v1 k2 h2 v2 r d z47.2 q)) F hP hS rfl [25, 26, 27, 3, 4, 5, 6, 7] rfl rfl (runV_of (n := 4) (As := [.ref (ad 3), .int z27, .int z37, .int z44]) (rest := []) F hP hS rfl [25, 26, 27, 3, 4, 5, 6, 7] rfl rfl (c_X5_measure l dC dI cI cC cZ sa (ad 25) (ad 26) (ad 27) (ad 3) (ad 4) (ad 5) (ad 6) (ad 7) y h v z27 z37 z44 hcr _) gX8_least_X5_measure rfl (by decide +kernel) ⟨Nat.le_of_ble_eq_true rfl, Nat.le_of_ble_eq_true rfl⟩ 25 5 rfl rfl rfl hl.1 rfl (Nat.le_of_ble_eq_true rfl) dX8_least_47 ⟨Nat.zero_le _, Nat.zero_le _⟩) (rep_pt rfl rfl rfl) (fun H locs hP hS => ?_)
    refine lv_istore_n (lv' := [(2, .int z47.1), (0, .ref (ad 0)), (1, .int x1)]) hx hb dX8_least_50 rfl hl (by decide) rfl (fun ls hl => ?_)
    refine lv_iload_n hx hb dX8_least_51 rfl (lv_at hl 0 rfl) ?_
    refine lv_bipush (v := -6) hx hb dX8_least_52 (by decide) ?_
    refine lv_icmp_ne (tgt := 60) hx hb dX8_least_54 (by decide) (fun hc => ?_) (fun hc => ?_)
    · have hM := if_nn hc hM
      refine lv_iload_n hx hb dX8_least_60 rfl (lv_at hl 2 rfl) ?_
      refine lv_iconst (v := 1) hx hb dX8_least_61 (by decide) ?_
      refine lv_icmp_ne (tgt := 71) hx hb dX8_least_62 (by decide) (fun hc => ?_) (fun hc => ?_)
      · have hM := if_nn hc hM
        refine lv_aload_n hx hb dX8_least_71 rfl (lv_at hl 1 rfl) ?_
        refine g_get (ci := 8) (C := RX8) (T := TX8) (N := 8) (v := .ref (ad 25)) F hP 0 rfl rfl inX8_least_X8 6 (by decide) (List.mem_of_getElem? (i := 1) rfl) rfl dX8_least_72 ?_
        refine lv_aload_n hx hb dX8_least_75 rfl (lv_at hl 1 rfl) ?_
        refine g_get (ci := 8) (C := RX8) (T := TX8) (N := 8) (v := .ref (ad 3)) F hP 0 rfl rfl inX8_least_X8 1 (by decide) (List.mem_of_getElem? (i := 2) rfl) rfl dX8_least_76 ?_
        refine lv_iload_n hx hb dX8_least_79 rfl (lv_at hl 0 rfl) ?_
        obtain ⟨z80, hcr, hM⟩ := ob_s hM
        refine res_i (ws' := (wX cI cC ad p h v k1 h1 v1 k2 h2 v2 r d z80.2 q)) F hP hS rfl [25, 26, 27, 3, 4, 5, 6, 7] rfl rfl (runV_of (n := 2) (As := [.ref (ad 3), .int z47.1]) (rest := []) F hP hS rfl [25, 26, 27, 3, 4, 5, 6, 7] rfl rfl (c_X5_fewestShowingSteps l dC dI cI cC cZ sa (ad 25) (ad 26) (ad 27) (ad 3) (ad 4) (ad 5) (ad 6) (ad 7) z47.2 h v z47.1 hcr _) gX8_least_X5_fewestShowingSteps rfl (by decide +kernel) ⟨Nat.le_of_ble_eq_true rfl, Nat.le_of_ble_eq_true rfl⟩ 25 5 rfl rfl rfl hl.1 rfl (Nat.le_of_ble_eq_true rfl) dX8_least_80 ⟨Nat.zero_le _, Nat.zero_le _⟩) (rep_pt rfl rfl rfl) (fun H locs hP hS => ?_)
        exact ret_i hx hb hr hlk dX8_least_83 hM hP hS
      · have hM := if_pp hc hM
        refine lv_iconst (v := 2) hx hb dX8_least_65 (by decide) ?_
        refine lv_iload_n hx hb dX8_least_66 rfl (lv_at hl 0 rfl) ?_
        refine lv_imul hx hb dX8_least_67 ?_
        refine lv_goto (tgt := 83) hx hb dX8_least_68 (by decide) ?_
        exact ret_i hx hb hr hlk dX8_least_83 hM hP hS
    · have hM := if_pp hc hM
      refine lv_bipush (v := -6) hx hb dX8_least_57 (by decide) ?_
      exact ret_i hx hb hr hlk dX8_least_59 hM hP hS
  · have hM := if_pp hc hM
    refine lv_bipush (v := -2) hx hb dX8_least_9 (by decide) ?_
    exact ret_i hx hb hr hlk dX8_least_11 hM hP hS
