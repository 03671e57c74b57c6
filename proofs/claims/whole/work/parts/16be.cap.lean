/-! Walks, printed by wip/whole/gen.py -/
theorem inX8_wind_X3 : ∀ w ∈ wsX30, w ∈ wsX8_wind := fun w h => List.mem_cons_of_mem _ (List.mem_append_left _ (List.mem_append_left _ (List.mem_append_left _ (List.mem_append_left _ (List.mem_append_right _ h)))))
theorem inX8_wind_X8 : ∀ w ∈ wsX80, w ∈ wsX8_wind := fun w h => List.mem_cons_of_mem _ (List.mem_append_left _ (List.mem_append_left _ (List.mem_append_left _ (List.mem_append_left _ (List.mem_append_left _ (List.mem_append_right _ h))))))
set_option maxHeartbeats 4000000 in
set_option maxRecDepth 100000 in
theorem c_X8_wind (l : Launch) (dC : Nat → ClassId) (dI : Nat → Nat → Nat) (cI cC cZ : ClassId) (sa : Nat → Nat) (ad : Nat → Nat) (p : PT) (h : HT) (v : VT) (k1 : Int32) (h1 : HT) (v1 : VT) (k2 : Int32) (h2 : HT) (v2 : VT) (r : RT) (d : DT) (y : YT) (q : QT) (x1 : Int32) (x2 : Int32) {res : Int64 × RT × DT} (hM : M_X8_wind p h v r d x1 x2 = some res) : CTl l (dC, dI) [(cI, .int), (cC, .char), (cZ, .boolean)] sa yX8_wind wsX8_wind (rmd 8) [.ref (ad 0), .int x1, .int x2] (wX cI cC ad p h v k1 h1 v1 k2 h2 v2 r d y q) (fun (uu : RT × DT) => (wX cI cC ad p h v k1 h1 v1 k2 h2 v2 uu.1 uu.2 y q)) res := by
  refine CTl.enter (own := RX8) (cc := cX8_wind) (maxL := 4) (ret := (some .long)) (by decide) rfl rfl (Nat.le_of_ble_eq_true rfl) ?_
  intro pr e s m below meth c A F hr hlk hP hS ls hl
  obtain ⟨⟨hx, hb, hml, hown, hts⟩, hK, hDD, hA, hKC⟩ := id F
  have hl : lv_has ls 4 [(0, .ref (ad 0)), (1, .int x1), (2, .int x2)] := hl
  have hP : va_P (dC, dI) vwCl (wX cI cC ad p h v k1 h1 v1 k2 h2 v2 r d y q) s.heap := hP
  unfold M_X8_wind at hM
  refine kblk (α := RT × DT) (res := res) (fun a => M_X8_wind_19 p h v x1 x2 a) F (fun a => (wX cI cC ad p h v k1 h1 v1 k2 h2 v2 a.1 a.2 y q)) (fun a => [(0, .ref (ad 0))]) (fun a => []) 19 ?_ (fun j19 => ?_)
  · intro a19 H locs ls hP hS hl hM
    unfold M_X8_wind_19 at hM
    refine lv_ldc2 (v := -1000000000000000002) hx hb hown (hts _ (List.mem_of_getElem? (i := 1) rfl)) dX8_wind_19 ?_
    exact ret_l hx hb hr hlk dX8_wind_22 hM hP hS
  refine lv_iload_n hx hb dX8_wind_0 rfl (lv_at hl 1 rfl) ?_
  refine lv_iconst (v := 0) hx hb dX8_wind_1 (by decide) ?_
  refine lv_bipush (v := 10) hx hb dX8_wind_2 (by decide) ?_
  obtain ⟨z4, hcr, hM⟩ := ob_s hM
  refine res_i0 F hP hS rfl [] rfl rfl (runS_of (n := 3) (As := [.int x1, .int (0 : Int32), .int (10 : Int32)]) (rest := []) F hP hS rfl [] rfl rfl (c_X8_within l dC dI cI cC cZ sa x1 (0 : Int32) (10 : Int32) hcr _) gX8_wind_X8_within rfl (by decide +kernel) ⟨Nat.le_of_ble_eq_true rfl, Nat.le_of_ble_eq_true rfl⟩ rfl hl.1 rfl (Nat.le_of_ble_eq_true rfl) dX8_wind_4 ⟨Nat.zero_le _, Nat.zero_le _⟩) (fun H locs hP hS => ?_)
  refine lv_if_eq (tgt := 19) hx hb dX8_wind_7 (by decide) (fun hc => ?_) (fun hc => ?_)
  · have hM := if_pp hc hM
    exact j19 (r, d) _ _ _ hP hS (lv_sub hl [0] rfl) hM
  · have hM := if_nn hc hM
    refine lv_iload_n hx hb dX8_wind_10 rfl (lv_at hl 2 rfl) ?_
    refine lv_iconst (v := 0) hx hb dX8_wind_11 (by decide) ?_
    refine lv_iconst (v := 1) hx hb dX8_wind_12 (by decide) ?_
    obtain ⟨z13, hcr, hM⟩ := ob_s hM
    refine res_i0 F hP hS rfl [] rfl rfl (runS_of (n := 3) (As := [.int x2, .int (0 : Int32), .int (1 : Int32)]) (rest := []) F hP hS rfl [] rfl rfl (c_X8_within l dC dI cI cC cZ sa x2 (0 : Int32) (1 : Int32) hcr _) gX8_wind_X8_within rfl (by decide +kernel) ⟨Nat.le_of_ble_eq_true rfl, Nat.le_of_ble_eq_true rfl⟩ rfl hl.1 rfl (Nat.le_of_ble_eq_true rfl) dX8_wind_13 ⟨Nat.zero_le _, Nat.zero_le _⟩) (fun H locs hP hS => ?_)
    refine lv_if_ne (tgt := 23) hx hb dX8_wind_16 (by decide) (fun hc => ?_) (fun hc => ?_)
    · have hM := if_nn hc hM
      refine lv_aload_n hx hb dX8_wind_23 rfl (lv_at hl 0 rfl) ?_
      obtain ⟨z24, hcr, hM⟩ := ob_s hM
      refine res_i (ws' := (wX cI cC ad p h v k1 h1 v1 k2 h2 v2 z24.2.1 z24.2.2 y q)) F hP hS rfl [0, 1, 2, 3, 4, 5, 6, 7, 8, 9, 10, 11, 12, 13, 14, 15, 16, 17, 18, 19, 20, 21, 22, 23, 24, 25, 26, 27, 28, 29, 30] rfl rfl (runV_of (n := 0) (As := []) (rest := []) F hP hS rfl [0, 1, 2, 3, 4, 5, 6, 7, 8, 9, 10, 11, 12, 13, 14, 15, 16, 17, 18, 19, 20, 21, 22, 23, 24, 25, 26, 27, 28, 29, 30] rfl rfl (c_X8_followWalk l dC dI cI cC cZ sa ad p h v k1 h1 v1 k2 h2 v2 r d y q hcr _) gX8_wind_X8_followWalk rfl (by decide +kernel) ⟨Nat.le_of_ble_eq_true rfl, Nat.le_of_ble_eq_true rfl⟩ 0 8 rfl rfl rfl hl.1 rfl (Nat.le_of_ble_eq_true rfl) dX8_wind_24 ⟨Nat.zero_le _, Nat.zero_le _⟩) rep_full (fun H locs hP hS => ?_)
      refine lv_istore_n (lv' := [(3, .int z24.1), (0, .ref (ad 0)), (1, .int x1), (2, .int x2)]) hx hb dX8_wind_27 rfl hl (by decide) rfl (fun ls hl => ?_)
      refine lv_iload_n hx hb dX8_wind_28 rfl (lv_at hl 0 rfl) ?_
      refine lv_if_eq (tgt := 39) hx hb dX8_wind_29 (by decide) (fun hc => ?_) (fun hc => ?_)
      · have hM := if_pp hc hM
        refine lv_aload_n hx hb dX8_wind_39 rfl (lv_at hl 1 rfl) ?_
        refine g_get (ci := 8) (C := RX8) (T := TX8) (N := 8) (v := .ref (ad 24)) F hP 0 rfl rfl inX8_wind_X8 5 (by decide) (List.mem_of_getElem? (i := 3) rfl) rfl dX8_wind_40 ?_
        refine g_get (ci := 3) (C := RX3) (T := TX3) (N := 7) (v := .int z24.2.2.2.2.2.2.2.1) F hP 24 rfl rfl inX8_wind_X3 5 (by decide) (List.mem_of_getElem? (i := 4) rfl) rfl dX8_wind_43 ?_
        refine lv_bipush (v := 12) hx hb dX8_wind_46 (by decide) ?_
        refine lv_icmp_le (tgt := 55) hx hb dX8_wind_48 (by decide) (fun hc => ?_) (fun hc => ?_)
        · have hM := if_pp hc hM
          refine lv_aload_n hx hb dX8_wind_55 rfl (lv_at hl 1 rfl) ?_
          refine g_get (ci := 8) (C := RX8) (T := TX8) (N := 8) (v := .ref (ad 24)) F hP 0 rfl rfl inX8_wind_X8 5 (by decide) (List.mem_of_getElem? (i := 3) rfl) rfl dX8_wind_56 ?_
          refine g_get (ci := 3) (C := RX3) (T := TX3) (N := 7) (v := .int z24.2.2.2.2.2.2.1) F hP 24 rfl rfl inX8_wind_X3 4 (by decide) (List.mem_of_getElem? (i := 6) rfl) rfl dX8_wind_59 ?_
          refine lv_aload_n hx hb dX8_wind_62 rfl (lv_at hl 1 rfl) ?_
          refine g_get (ci := 8) (C := RX8) (T := TX8) (N := 8) (v := .ref (ad 24)) F hP 0 rfl rfl inX8_wind_X8 5 (by decide) (List.mem_of_getElem? (i := 3) rfl) rfl dX8_wind_63 ?_
          refine g_get (ci := 3) (C := RX3) (T := TX3) (N := 7) (v := .int z24.2.2.2.2.2.2.2.1) F hP 24 rfl rfl inX8_wind_X3 5 (by decide) (List.mem_of_getElem? (i := 4) rfl) rfl dX8_wind_66 ?_
          refine lv_icmp_le (tgt := 82) hx hb dX8_wind_69 (by decide) (fun hc => ?_) (fun hc => ?_)
          · have hM := if_pp hc hM
            refine lv_iload_n hx hb dX8_wind_82 rfl (lv_at hl 2 rfl) ?_
            refine lv_aload_n hx hb dX8_wind_83 rfl (lv_at hl 1 rfl) ?_
            refine g_get (ci := 8) (C := RX8) (T := TX8) (N := 8) (v := .ref (ad 24)) F hP 0 rfl rfl inX8_wind_X8 5 (by decide) (List.mem_of_getElem? (i := 3) rfl) rfl dX8_wind_84 ?_
            refine g_get (ci := 3) (C := RX3) (T := TX3) (N := 7) (v := .int z24.2.2.2.2.2.2.2.1) F hP 24 rfl rfl inX8_wind_X3 5 (by decide) (List.mem_of_getElem? (i := 4) rfl) rfl dX8_wind_87 ?_
            refine lv_iload_n hx hb dX8_wind_90 rfl (lv_at hl 3 rfl) ?_
            obtain ⟨z91, hcr, hM⟩ := ob_s hM
            refine res_l0 F hP hS rfl [] rfl rfl (runS_of (n := 3) (As := [.int x1, .int z24.2.2.2.2.2.2.2.1, .int x2]) (rest := []) F hP hS rfl [] rfl rfl (c_X8_powerOfTenths l dC dI cI cC cZ sa x1 z24.2.2.2.2.2.2.2.1 x2 hcr _) gX8_wind_X8_powerOfTenths rfl (by decide +kernel) ⟨Nat.le_of_ble_eq_true rfl, Nat.le_of_ble_eq_true rfl⟩ rfl hl.1 rfl (Nat.le_of_ble_eq_true rfl) dX8_wind_91 ⟨Nat.zero_le _, Nat.zero_le _⟩) (fun H locs hP hS => ?_)
            exact ret_l hx hb hr hlk dX8_wind_94 hM hP hS
          · have hM := if_nn hc hM
            refine lv_iload_n hx hb dX8_wind_72 rfl (lv_at hl 3 rfl) ?_
            refine lv_if_ne (tgt := 80) hx hb dX8_wind_73 (by decide) (fun hc => ?_) (fun hc => ?_)
            · have hM := if_nn hc hM
              refine lv_lconst (v := 1) hx hb dX8_wind_80 (by decide) ?_
              exact ret_l hx hb hr hlk dX8_wind_81 hM hP hS
            · have hM := if_pp hc hM
              refine lv_lconst (v := 0) hx hb dX8_wind_76 (by decide) ?_
              refine lv_goto (tgt := 81) hx hb dX8_wind_77 (by decide) ?_
              exact ret_l hx hb hr hlk dX8_wind_81 hM hP hS
        · have hM := if_nn hc hM
          refine lv_ldc2 (v := -1000000000000000004) hx hb hown (hts _ (List.mem_of_getElem? (i := 5) rfl)) dX8_wind_51 ?_
          exact ret_l hx hb hr hlk dX8_wind_54 hM hP hS
      · have hM := if_nn hc hM
        refine lv_ldc2 (v := -1000000000000000000) hx hb hown (hts _ (List.mem_of_getElem? (i := 2) rfl)) dX8_wind_32 ?_
        refine lv_iload_n hx hb dX8_wind_35 rfl (lv_at hl 0 rfl) ?_
        refine lv_i2l (v := z24.1.toInt64) hx hb dX8_wind_36 rfl ?_
        refine lv_ladd hx hb dX8_wind_37 ?_
        exact ret_l hx hb hr hlk dX8_wind_38 hM hP hS
    · have hM := if_pp hc hM
      exact j19 (r, d) _ _ _ hP hS (lv_sub hl [0] rfl) hM
