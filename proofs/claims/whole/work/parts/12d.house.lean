/-! Walks, printed by wip/whole/gen.py -/
theorem inX0_layOut_X0 : ∀ w ∈ wsX00, w ∈ wsX0_layOut := fun w h => List.mem_cons_of_mem _ (List.mem_append_left _ (List.mem_append_right _ h))
set_option maxHeartbeats 4000000 in
set_option maxRecDepth 100000 in
theorem c_X0_layOut (l : Launch) (dC : Nat → ClassId) (dI : Nat → Nat → Nat) (cI cC cZ : ClassId) (sa : Nat → Nat) (h0 v0 v1 v2 v3 : Nat) (h : HT) (v : VT) (x1 : Int32) (x2 : Int32) {res : HT × VT} (hM : M_X0_layOut h v x1 x2 = some res) : CTv l (dC, dI) [(cI, .int), (cC, .char), (cZ, .boolean)] sa yX0_layOut wsX0_layOut (rmd 3) [.ref h0, .int x1, .int x2] (wHouse cI h0 v0 v1 v2 v3 h v) (fun (uu : HT × VT) => (wHouse cI h0 v0 v1 v2 v3 uu.1 uu.2)) res := by
  refine CTv.enter (own := RX0) (cc := cX0_layOut) (maxL := 4) (ret := none) (by decide) rfl rfl (Nat.le_of_ble_eq_true rfl) ?_
  intro pr e s m below meth c A F hr hlk hP hS ls hl
  obtain ⟨⟨hx, hb, hml, hown, hts⟩, hK, hDD, hA, hKC⟩ := id F
  have hl : lv_has ls 4 [(0, .ref h0), (1, .int x1), (2, .int x2)] := hl
  have hP : va_P (dC, dI) vwCl (wHouse cI h0 v0 v1 v2 v3 h v) s.heap := hP
  unfold M_X0_layOut at hM
  refine kloop (α := HT × VT × Int32) (res := res) (fun k a => M_X0_layOut_30 x1 x2 k a) (fun rec a => M_X0_layOut_30b x1 x2 rec a) (fun _ => rfl) (fun _ _ => rfl) F (fun a => (wHouse cI h0 v0 v1 v2 v3 a.1 a.2.1)) (fun a => [(0, .ref h0), (3, .int a.2.2)]) (fun a => []) 30 ?_ (fun j30 => ?_)
  · intro rc30 ih30 a30 H locs ls hP hS hl hM
    unfold M_X0_layOut_30b at hM
    refine lv_iload_n hx hb dX0_layOut_30 rfl (lv_at hl 1 rfl) ?_
    refine lv_aload_n hx hb dX0_layOut_31 rfl (lv_at hl 0 rfl) ?_
    refine g_get (ci := 0) (C := RX0) (T := TX0) (N := 13) (v := .int a30.1.1) F hP 0 rfl rfl inX0_layOut_X0 0 (by decide) (List.mem_of_getElem? (i := 1) rfl) rfl dX0_layOut_32 ?_
    refine lv_icmp_ge (tgt := 62) hx hb dX0_layOut_35 (by decide) (fun hc => ?_) (fun hc => ?_)
    · have hM := if_pp hc hM
      refine lv_aload_n hx hb dX0_layOut_62 rfl (lv_at hl 0 rfl) ?_
      refine lv_aload_n hx hb dX0_layOut_63 rfl (lv_at hl 0 rfl) ?_
      refine g_get (ci := 0) (C := RX0) (T := TX0) (N := 13) (v := .int a30.1.2.2.2.1) F hP 0 rfl rfl inX0_layOut_X0 3 (by decide) (List.mem_of_getElem? (i := 4) rfl) rfl dX0_layOut_64 ?_
      refine lv_aload_n hx hb dX0_layOut_67 rfl (lv_at hl 0 rfl) ?_
      refine g_get (ci := 0) (C := RX0) (T := TX0) (N := 13) (v := .int a30.1.2.1) F hP 0 rfl rfl inX0_layOut_X0 1 (by decide) (List.mem_of_getElem? (i := 2) rfl) rfl dX0_layOut_68 ?_
      refine lv_iconst (v := 1) hx hb dX0_layOut_71 (by decide) ?_
      refine lv_isub hx hb dX0_layOut_72 ?_
      refine lv_ishl hx hb dX0_layOut_73 ?_
      refine g_put (ws' := (wHouse cI h0 v0 v1 v2 v3 (a30.1.1, a30.1.2.1, a30.1.2.2.1, a30.1.2.2.2.1, (a30.1.2.2.2.1 <<< ((a30.1.2.1 - (1 : Int32)) &&& 31)), a30.1.2.2.2.2.2.1, a30.1.2.2.2.2.2.2.1, a30.1.2.2.2.2.2.2.2.1, a30.1.2.2.2.2.2.2.2.2.1, a30.1.2.2.2.2.2.2.2.2.2.1, a30.1.2.2.2.2.2.2.2.2.2.2.1, a30.1.2.2.2.2.2.2.2.2.2.2.2) a30.2.1)) (ci := 0) (C := RX0) (T := TX0) (N := 13) (v := .int (a30.1.2.2.2.1 <<< ((a30.1.2.1 - (1 : Int32)) &&& 31))) (ty := .int) F hP hS rfl tyX0 tyX0_ok nmX0 0 rfl rfl inX0_layOut_X0 4 (by decide) (List.mem_of_getElem? (i := 5) rfl) rfl (by decide +kernel) rfl rfl (Nat.le_of_ble_eq_true rfl) dX0_layOut_74 rfl (fun H locs hP hS => ?_)
      refine lv_aload_n hx hb dX0_layOut_77 rfl (lv_at hl 0 rfl) ?_
      obtain ⟨z78, hcr, hM⟩ := ob_s hM
      refine res_v (ws' := (wHouse cI h0 v0 v1 v2 v3 z78.1 z78.2)) F hP hS rfl [0, 1, 2, 3, 4] rfl rfl (runV_of (n := 0) (As := []) (rest := []) F hP hS rfl [0, 1, 2, 3, 4] rfl rfl (c_X0_clearCells l dC dI cI cC cZ sa h0 v0 v1 v2 v3 (a30.1.1, a30.1.2.1, a30.1.2.2.1, a30.1.2.2.2.1, (a30.1.2.2.2.1 <<< ((a30.1.2.1 - (1 : Int32)) &&& 31)), a30.1.2.2.2.2.2.1, a30.1.2.2.2.2.2.2.1, a30.1.2.2.2.2.2.2.2.1, a30.1.2.2.2.2.2.2.2.2.1, a30.1.2.2.2.2.2.2.2.2.2.1, a30.1.2.2.2.2.2.2.2.2.2.2.1, a30.1.2.2.2.2.2.2.2.2.2.2.2) a30.2.1 hcr _) gX0_layOut_X0_clearCells rfl (by decide +kernel) ⟨Nat.le_of_ble_eq_true rfl, Nat.le_of_ble_eq_true rfl⟩ 0 0 rfl rfl rfl hl.1 rfl (Nat.le_of_ble_eq_true rfl) dX0_layOut_78 ⟨Nat.zero_le _, Nat.zero_le _⟩) rep_full (fun H locs hP hS => ?_)
      refine lv_aload_n hx hb dX0_layOut_81 rfl (lv_at hl 0 rfl) ?_
      refine lv_iconst (v := 0) hx hb dX0_layOut_82 (by decide) ?_
      refine g_put (ws' := (wHouse cI h0 v0 v1 v2 v3 (z78.1.1, z78.1.2.1, z78.1.2.2.1, z78.1.2.2.2.1, z78.1.2.2.2.2.1, z78.1.2.2.2.2.2.1, z78.1.2.2.2.2.2.2.1, z78.1.2.2.2.2.2.2.2.1, z78.1.2.2.2.2.2.2.2.2.1, (0 : Int32), z78.1.2.2.2.2.2.2.2.2.2.2.1, z78.1.2.2.2.2.2.2.2.2.2.2.2) z78.2)) (ci := 0) (C := RX0) (T := TX0) (N := 13) (v := .int (0 : Int32)) (ty := .int) F hP hS rfl tyX0 tyX0_ok nmX0 0 rfl rfl inX0_layOut_X0 9 (by decide) (List.mem_of_getElem? (i := 6) rfl) rfl (by decide +kernel) rfl rfl (Nat.le_of_ble_eq_true rfl) dX0_layOut_83 rfl (fun H locs hP hS => ?_)
      refine lv_aload_n hx hb dX0_layOut_86 rfl (lv_at hl 0 rfl) ?_
      refine lv_aload_n hx hb dX0_layOut_87 rfl (lv_at hl 0 rfl) ?_
      obtain ⟨z88, hcr, hM⟩ := ob_s hM
      refine res_i0 F hP hS rfl [0, 1, 2, 3, 4] rfl rfl (runV_of (n := 0) (As := []) (rest := [.ref h0]) F hP hS rfl [0, 1, 2, 3, 4] rfl rfl (c_X0_cells l dC dI cI cC cZ sa h0 v0 v1 v2 v3 (z78.1.1, z78.1.2.1, z78.1.2.2.1, z78.1.2.2.2.1, z78.1.2.2.2.2.1, z78.1.2.2.2.2.2.1, z78.1.2.2.2.2.2.2.1, z78.1.2.2.2.2.2.2.2.1, z78.1.2.2.2.2.2.2.2.2.1, (0 : Int32), z78.1.2.2.2.2.2.2.2.2.2.2.1, z78.1.2.2.2.2.2.2.2.2.2.2.2) z78.2 hcr _) gX0_layOut_X0_cells rfl (by decide +kernel) ⟨Nat.le_of_ble_eq_true rfl, Nat.le_of_ble_eq_true rfl⟩ 0 0 rfl rfl rfl hl.1 rfl (Nat.le_of_ble_eq_true rfl) dX0_layOut_88 ⟨Nat.zero_le _, Nat.zero_le _⟩) (fun H locs hP hS => ?_)
      refine lv_iconst (v := 1) hx hb dX0_layOut_91 (by decide) ?_
      refine lv_isub hx hb dX0_layOut_92 ?_
      refine g_put (ws' := (wHouse cI h0 v0 v1 v2 v3 (z78.1.1, z78.1.2.1, z78.1.2.2.1, z78.1.2.2.2.1, z78.1.2.2.2.2.1, z78.1.2.2.2.2.2.1, z78.1.2.2.2.2.2.2.1, z78.1.2.2.2.2.2.2.2.1, z78.1.2.2.2.2.2.2.2.2.1, (0 : Int32), (z88 - (1 : Int32)), z78.1.2.2.2.2.2.2.2.2.2.2.2) z78.2)) (ci := 0) (C := RX0) (T := TX0) (N := 13) (v := .int (z88 - (1 : Int32))) (ty := .int) F hP hS rfl tyX0 tyX0_ok nmX0 0 rfl rfl inX0_layOut_X0 10 (by decide) (List.mem_of_getElem? (i := 7) rfl) rfl (by decide +kernel) rfl rfl (Nat.le_of_ble_eq_true rfl) dX0_layOut_93 rfl (fun H locs hP hS => ?_)
      exact ret_v hx hb hr hlk dX0_layOut_96 hM hP hS
    · have hM := if_nn hc hM
      refine lv_aload_n hx hb dX0_layOut_38 rfl (lv_at hl 0 rfl) ?_
      refine lv_dup hx hb dX0_layOut_39 rfl ?_
      refine g_get (ci := 0) (C := RX0) (T := TX0) (N := 13) (v := .int a30.1.2.2.2.1) F hP 0 rfl rfl inX0_layOut_X0 3 (by decide) (List.mem_of_getElem? (i := 4) rfl) rfl dX0_layOut_40 ?_
      refine lv_iload_n hx hb dX0_layOut_43 rfl (lv_at hl 1 rfl) ?_
      refine lv_aload_n hx hb dX0_layOut_44 rfl (lv_at hl 0 rfl) ?_
      refine g_get (ci := 0) (C := RX0) (T := TX0) (N := 13) (v := .int a30.1.2.1) F hP 0 rfl rfl inX0_layOut_X0 1 (by decide) (List.mem_of_getElem? (i := 2) rfl) rfl dX0_layOut_45 ?_
      refine lv_imul hx hb dX0_layOut_48 ?_
      obtain ⟨z49, hcr, hM⟩ := ob_s hM
      refine res_i0 F hP hS rfl [] rfl rfl (runN_of (n := 1) (As := [.int (a30.2.2 * a30.1.2.1)]) (rest := [.int a30.1.2.2.2.1, .ref h0]) F hP hS rfl [] rfl rfl (c_X8_bit l dC dI cI cC cZ sa (a30.2.2 * a30.1.2.1) hcr _) gX0_layOut_X8_bit_n42 rfl 7 rfl (hts _ (List.mem_of_getElem? (i := 14) rfl)) (hts _ (List.mem_of_getElem? (i := 13) rfl)) (by decide +kernel) ⟨Nat.le_of_ble_eq_true rfl, Nat.le_of_ble_eq_true rfl⟩ rfl hl.1 rfl (Nat.le_of_ble_eq_true rfl) dX0_layOut_49 ⟨Nat.zero_le _, Nat.zero_le _⟩) (fun H locs hP hS => ?_)
      refine lv_ior hx hb dX0_layOut_52 ?_
      refine g_put (ws' := (wHouse cI h0 v0 v1 v2 v3 (a30.1.1, a30.1.2.1, a30.1.2.2.1, (a30.1.2.2.2.1 ||| z49), a30.1.2.2.2.2.1, a30.1.2.2.2.2.2.1, a30.1.2.2.2.2.2.2.1, a30.1.2.2.2.2.2.2.2.1, a30.1.2.2.2.2.2.2.2.2.1, a30.1.2.2.2.2.2.2.2.2.2.1, a30.1.2.2.2.2.2.2.2.2.2.2.1, a30.1.2.2.2.2.2.2.2.2.2.2.2) a30.2.1)) (ci := 0) (C := RX0) (T := TX0) (N := 13) (v := .int (a30.1.2.2.2.1 ||| z49)) (ty := .int) F hP hS rfl tyX0 tyX0_ok nmX0 0 rfl rfl inX0_layOut_X0 3 (by decide) (List.mem_of_getElem? (i := 4) rfl) rfl (by decide +kernel) rfl rfl (Nat.le_of_ble_eq_true rfl) dX0_layOut_53 rfl (fun H locs hP hS => ?_)
      refine lv_iinc (v := (a30.2.2 + (1 : Int32))) (lv' := [(3, .int (a30.2.2 + (1 : Int32))), (0, .ref h0)]) hx hb dX0_layOut_56 hl (k := 1) rfl rfl (by decide) rfl (fun ls hl => ?_)
      refine lv_goto (tgt := 30) hx hb dX0_layOut_59 (by decide) ?_
      exact ih30 ((a30.1.1, a30.1.2.1, a30.1.2.2.1, (a30.1.2.2.2.1 ||| z49), a30.1.2.2.2.2.1, a30.1.2.2.2.2.2.1, a30.1.2.2.2.2.2.2.1, a30.1.2.2.2.2.2.2.2.1, a30.1.2.2.2.2.2.2.2.2.1, a30.1.2.2.2.2.2.2.2.2.2.1, a30.1.2.2.2.2.2.2.2.2.2.2.1, a30.1.2.2.2.2.2.2.2.2.2.2.2), a30.2.1, (a30.2.2 + (1 : Int32))) _ _ _ hP hS (lv_sub hl [1, 0] rfl) hM
  refine lv_aload_n hx hb dX0_layOut_0 rfl (lv_at hl 0 rfl) ?_
  refine lv_iload_n hx hb dX0_layOut_1 rfl (lv_at hl 1 rfl) ?_
  refine g_put (ws' := (wHouse cI h0 v0 v1 v2 v3 (x1, h.2.1, h.2.2.1, h.2.2.2.1, h.2.2.2.2.1, h.2.2.2.2.2.1, h.2.2.2.2.2.2.1, h.2.2.2.2.2.2.2.1, h.2.2.2.2.2.2.2.2.1, h.2.2.2.2.2.2.2.2.2.1, h.2.2.2.2.2.2.2.2.2.2.1, h.2.2.2.2.2.2.2.2.2.2.2) v)) (ci := 0) (C := RX0) (T := TX0) (N := 13) (v := .int x1) (ty := .int) F hP hS rfl tyX0 tyX0_ok nmX0 0 rfl rfl inX0_layOut_X0 0 (by decide) (List.mem_of_getElem? (i := 1) rfl) rfl (by decide +kernel) rfl rfl (Nat.le_of_ble_eq_true rfl) dX0_layOut_2 rfl (fun H locs hP hS => ?_)
  refine lv_aload_n hx hb dX0_layOut_5 rfl (lv_at hl 0 rfl) ?_
  refine lv_iload_n hx hb dX0_layOut_6 rfl (lv_at hl 2 rfl) ?_
  refine g_put (ws' := (wHouse cI h0 v0 v1 v2 v3 (x1, x2, h.2.2.1, h.2.2.2.1, h.2.2.2.2.1, h.2.2.2.2.2.1, h.2.2.2.2.2.2.1, h.2.2.2.2.2.2.2.1, h.2.2.2.2.2.2.2.2.1, h.2.2.2.2.2.2.2.2.2.1, h.2.2.2.2.2.2.2.2.2.2.1, h.2.2.2.2.2.2.2.2.2.2.2) v)) (ci := 0) (C := RX0) (T := TX0) (N := 13) (v := .int x2) (ty := .int) F hP hS rfl tyX0 tyX0_ok nmX0 0 rfl rfl inX0_layOut_X0 1 (by decide) (List.mem_of_getElem? (i := 2) rfl) rfl (by decide +kernel) rfl rfl (Nat.le_of_ble_eq_true rfl) dX0_layOut_7 rfl (fun H locs hP hS => ?_)
  refine lv_aload_n hx hb dX0_layOut_10 rfl (lv_at hl 0 rfl) ?_
  refine lv_aload_n hx hb dX0_layOut_11 rfl (lv_at hl 0 rfl) ?_
  obtain ⟨z12, hcr, hM⟩ := ob_s hM
  refine res_i0 F hP hS rfl [0, 1, 2, 3, 4] rfl rfl (runV_of (n := 0) (As := []) (rest := [.ref h0]) F hP hS rfl [0, 1, 2, 3, 4] rfl rfl (c_X0_cells l dC dI cI cC cZ sa h0 v0 v1 v2 v3 (x1, x2, h.2.2.1, h.2.2.2.1, h.2.2.2.2.1, h.2.2.2.2.2.1, h.2.2.2.2.2.2.1, h.2.2.2.2.2.2.2.1, h.2.2.2.2.2.2.2.2.1, h.2.2.2.2.2.2.2.2.2.1, h.2.2.2.2.2.2.2.2.2.2.1, h.2.2.2.2.2.2.2.2.2.2.2) v hcr _) gX0_layOut_X0_cells rfl (by decide +kernel) ⟨Nat.le_of_ble_eq_true rfl, Nat.le_of_ble_eq_true rfl⟩ 0 0 rfl rfl rfl hl.1 rfl (Nat.le_of_ble_eq_true rfl) dX0_layOut_12 ⟨Nat.zero_le _, Nat.zero_le _⟩) (fun H locs hP hS => ?_)
  obtain ⟨z15, hcr, hM⟩ := ob_s hM
  refine res_i0 F hP hS rfl [] rfl rfl (runN_of (n := 1) (As := [.int z12]) (rest := [.ref h0]) F hP hS rfl [] rfl rfl (c_X8_bit l dC dI cI cC cZ sa z12 hcr _) gX0_layOut_X8_bit_n42 rfl 7 rfl (hts _ (List.mem_of_getElem? (i := 14) rfl)) (hts _ (List.mem_of_getElem? (i := 13) rfl)) (by decide +kernel) ⟨Nat.le_of_ble_eq_true rfl, Nat.le_of_ble_eq_true rfl⟩ rfl hl.1 rfl (Nat.le_of_ble_eq_true rfl) dX0_layOut_15 ⟨Nat.zero_le _, Nat.zero_le _⟩) (fun H locs hP hS => ?_)
  refine lv_iconst (v := 1) hx hb dX0_layOut_18 (by decide) ?_
  refine lv_isub hx hb dX0_layOut_19 ?_
  refine g_put (ws' := (wHouse cI h0 v0 v1 v2 v3 (x1, x2, (z15 - (1 : Int32)), h.2.2.2.1, h.2.2.2.2.1, h.2.2.2.2.2.1, h.2.2.2.2.2.2.1, h.2.2.2.2.2.2.2.1, h.2.2.2.2.2.2.2.2.1, h.2.2.2.2.2.2.2.2.2.1, h.2.2.2.2.2.2.2.2.2.2.1, h.2.2.2.2.2.2.2.2.2.2.2) v)) (ci := 0) (C := RX0) (T := TX0) (N := 13) (v := .int (z15 - (1 : Int32))) (ty := .int) F hP hS rfl tyX0 tyX0_ok nmX0 0 rfl rfl inX0_layOut_X0 2 (by decide) (List.mem_of_getElem? (i := 3) rfl) rfl (by decide +kernel) rfl rfl (Nat.le_of_ble_eq_true rfl) dX0_layOut_20 rfl (fun H locs hP hS => ?_)
  refine lv_aload_n hx hb dX0_layOut_23 rfl (lv_at hl 0 rfl) ?_
  refine lv_iconst (v := 0) hx hb dX0_layOut_24 (by decide) ?_
  refine g_put (ws' := (wHouse cI h0 v0 v1 v2 v3 (x1, x2, (z15 - (1 : Int32)), (0 : Int32), h.2.2.2.2.1, h.2.2.2.2.2.1, h.2.2.2.2.2.2.1, h.2.2.2.2.2.2.2.1, h.2.2.2.2.2.2.2.2.1, h.2.2.2.2.2.2.2.2.2.1, h.2.2.2.2.2.2.2.2.2.2.1, h.2.2.2.2.2.2.2.2.2.2.2) v)) (ci := 0) (C := RX0) (T := TX0) (N := 13) (v := .int (0 : Int32)) (ty := .int) F hP hS rfl tyX0 tyX0_ok nmX0 0 rfl rfl inX0_layOut_X0 3 (by decide) (List.mem_of_getElem? (i := 4) rfl) rfl (by decide +kernel) rfl rfl (Nat.le_of_ble_eq_true rfl) dX0_layOut_25 rfl (fun H locs hP hS => ?_)
  refine lv_iconst (v := 0) hx hb dX0_layOut_28 (by decide) ?_
  refine lv_istore_n (lv' := [(3, .int (0 : Int32)), (0, .ref h0), (1, .int x1), (2, .int x2)]) hx hb dX0_layOut_29 rfl hl (by decide) rfl (fun ls hl => ?_)
  exact j30 200 ((x1, x2, (z15 - (1 : Int32)), (0 : Int32), h.2.2.2.2.1, h.2.2.2.2.2.1, h.2.2.2.2.2.2.1, h.2.2.2.2.2.2.2.1, h.2.2.2.2.2.2.2.2.1, h.2.2.2.2.2.2.2.2.2.1, h.2.2.2.2.2.2.2.2.2.2.1, h.2.2.2.2.2.2.2.2.2.2.2), v, (0 : Int32)) _ _ _ hP hS (lv_sub hl [1, 0] rfl) hM
