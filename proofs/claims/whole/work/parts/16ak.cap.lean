/-! Walks, printed by wip/whole/gen.py -/
theorem inX8_flour_X8 : ∀ w ∈ wsX80, w ∈ wsX8_flour := fun w h => List.mem_cons_of_mem _ (List.mem_append_left _ (List.mem_append_right _ h))
set_option maxHeartbeats 4000000 in
set_option maxRecDepth 100000 in
theorem c_X8_flour (l : Launch) (dC : Nat → ClassId) (dI : Nat → Nat → Nat) (cI cC cZ : ClassId) (sa : Nat → Nat) (ad : Nat → Nat) (p : PT) (h : HT) (v : VT) (k1 : Int32) (h1 : HT) (v1 : VT) (k2 : Int32) (h2 : HT) (v2 : VT) (r : RT) (d : DT) (y : YT) (q : QT) (x1 : Int32) {res : Int32} (hM : M_X8_flour h x1 = some res) : CTi l (dC, dI) [(cI, .int), (cC, .char), (cZ, .boolean)] sa yX8_flour wsX8_flour (rmd 12) [.ref (ad 0), .int x1] (wX cI cC ad p h v k1 h1 v1 k2 h2 v2 r d y q) (fun (_ : Unit) => (wX cI cC ad p h v k1 h1 v1 k2 h2 v2 r d y q)) (res, ()) := by
  refine CTi.enter (own := RX8) (cc := cX8_flour) (maxL := 3) (ret := (some .int)) (by decide) rfl rfl (Nat.le_of_ble_eq_true rfl) ?_
  intro pr e s m below meth c A F hr hlk hP hS ls hl
  obtain ⟨⟨hx, hb, hml, hown, hts⟩, hK, hDD, hA, hKC⟩ := id F
  have hl : lv_has ls 3 [(0, .ref (ad 0)), (1, .int x1)] := hl
  have hP : va_P (dC, dI) vwCl (wX cI cC ad p h v k1 h1 v1 k2 h2 v2 r d y q) s.heap := hP
  unfold M_X8_flour at hM
  refine lv_iload_n hx hb dX8_flour_0 rfl (lv_at hl 1 rfl) ?_
  refine lv_iconst (v := 0) hx hb dX8_flour_1 (by decide) ?_
  refine lv_iconst (v := 1) hx hb dX8_flour_2 (by decide) ?_
  obtain ⟨z3, hcr, hM⟩ := ob_s hM
  refine res_i0 F hP hS rfl [] rfl rfl (runS_of (n := 3) (As := [.int x1, .int (0 : Int32), .int (1 : Int32)]) (rest := []) F hP hS rfl [] rfl rfl (c_X8_within l dC dI cI cC cZ sa x1 (0 : Int32) (1 : Int32) hcr _) gX8_flour_X8_within rfl (by decide +kernel) ⟨Nat.le_of_ble_eq_true rfl, Nat.le_of_ble_eq_true rfl⟩ rfl hl.1 rfl (Nat.le_of_ble_eq_true rfl) dX8_flour_3 ⟨Nat.zero_le _, Nat.zero_le _⟩) (fun H locs hP hS => ?_)
  refine lv_if_ne (tgt := 12) hx hb dX8_flour_6 (by decide) (fun hc => ?_) (fun hc => ?_)
  · have hM := if_nn hc hM
    refine lv_aload_n hx hb dX8_flour_12 rfl (lv_at hl 0 rfl) ?_
    refine g_get (ci := 8) (C := RX8) (T := TX8) (N := 8) (v := .ref (ad 25)) F hP 0 rfl rfl inX8_flour_X8 6 (by decide) (List.mem_of_getElem? (i := 1) rfl) rfl dX8_flour_13 ?_
    refine lv_aload_n hx hb dX8_flour_16 rfl (lv_at hl 0 rfl) ?_
    refine g_get (ci := 8) (C := RX8) (T := TX8) (N := 8) (v := .ref (ad 3)) F hP 0 rfl rfl inX8_flour_X8 1 (by decide) (List.mem_of_getElem? (i := 2) rfl) rfl dX8_flour_17 ?_
    obtain ⟨z20, hcr, hM⟩ := ob_s hM
    refine res_i0 F hP hS rfl [25, 26, 27, 3, 4, 5, 6, 7] rfl rfl (runV_of (n := 1) (As := [.ref (ad 3)]) (rest := []) F hP hS rfl [25, 26, 27, 3, 4, 5, 6, 7] rfl rfl (c_X5_fewestCut l dC dI cI cC cZ sa (ad 25) (ad 26) (ad 27) (ad 3) (ad 4) (ad 5) (ad 6) (ad 7) y h v hcr _) gX8_flour_X5_fewestCut rfl (by decide +kernel) ⟨Nat.le_of_ble_eq_true rfl, Nat.le_of_ble_eq_true rfl⟩ 25 5 rfl rfl rfl hl.1 rfl (Nat.le_of_ble_eq_true rfl) dX8_flour_20 ⟨Nat.zero_le _, Nat.zero_le _⟩) (fun H locs hP hS => ?_)
    refine lv_istore_n (lv' := [(2, .int z20), (0, .ref (ad 0)), (1, .int x1)]) hx hb dX8_flour_23 rfl hl (by decide) rfl (fun ls hl => ?_)
    refine lv_iload_n hx hb dX8_flour_24 rfl (lv_at hl 0 rfl) ?_
    refine lv_bipush (v := -6) hx hb dX8_flour_25 (by decide) ?_
    refine lv_icmp_ne (tgt := 33) hx hb dX8_flour_27 (by decide) (fun hc => ?_) (fun hc => ?_)
    · have hM := if_nn hc hM
      refine lv_iload_n hx hb dX8_flour_33 rfl (lv_at hl 2 rfl) ?_
      refine lv_if_ne (tgt := 44) hx hb dX8_flour_34 (by decide) (fun hc => ?_) (fun hc => ?_)
      · have hM := if_nn hc hM
        refine lv_iload_n hx hb dX8_flour_44 rfl (lv_at hl 0 rfl) ?_
        exact ret_i hx hb hr hlk dX8_flour_45 (some_u hM) hP hS
      · have hM := if_pp hc hM
        refine lv_iload_n hx hb dX8_flour_37 rfl (lv_at hl 0 rfl) ?_
        obtain ⟨z38, hcr, hM⟩ := ob_s hM
        refine res_i0 F hP hS rfl [] rfl rfl (runS_of (n := 1) (As := [.int z20]) (rest := []) F hP hS rfl [] rfl rfl (c_J6_bitCount_0f7a4 l dC dI cI cC cZ sa z20 hcr _) gX8_flour_J6_bitCount_0f7a4 rfl (by decide +kernel) ⟨Nat.le_of_ble_eq_true rfl, Nat.le_of_ble_eq_true rfl⟩ rfl hl.1 rfl (Nat.le_of_ble_eq_true rfl) dX8_flour_38 ⟨Nat.zero_le _, Nat.zero_le _⟩) (fun H locs hP hS => ?_)
        refine lv_goto (tgt := 45) hx hb dX8_flour_41 (by decide) ?_
        exact ret_i hx hb hr hlk dX8_flour_45 (some_u hM) hP hS
    · have hM := if_pp hc hM
      refine lv_bipush (v := -6) hx hb dX8_flour_30 (by decide) ?_
      exact ret_i hx hb hr hlk dX8_flour_32 (some_u hM) hP hS
  · have hM := if_pp hc hM
    refine lv_bipush (v := -2) hx hb dX8_flour_9 (by decide) ?_
    exact ret_i hx hb hr hlk dX8_flour_11 (some_u hM) hP hS
