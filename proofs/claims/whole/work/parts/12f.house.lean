/-! Walks, printed by wip/whole/gen.py -/
theorem inX0_furnish_X0 : ∀ w ∈ wsX00, w ∈ wsX0_furnish := fun w h => List.mem_cons_of_mem _ (List.mem_append_left _ (List.mem_append_left _ (List.mem_append_right _ h)))
set_option maxHeartbeats 4000000 in
set_option maxRecDepth 100000 in
theorem c_X0_furnish (l : Launch) (dC : Nat → ClassId) (dI : Nat → Nat → Nat) (cI cC cZ : ClassId) (sa : Nat → Nat) (h0 v0 v1 v2 v3 p0 p1 : Nat) (h : HT) (v : VT) (p : PT)  {res : HT × VT} (hM : M_X0_furnish h v p = some res) : CTv l (dC, dI) [(cI, .int), (cC, .char), (cZ, .boolean)] sa yX0_furnish wsX0_furnish (rmd 3) [.ref h0, .ref p0] (wHouse cI h0 v0 v1 v2 v3 h v ++ wPad cC p0 p1 p) (fun (uu : HT × VT) => (wHouse cI h0 v0 v1 v2 v3 uu.1 uu.2 ++ wPad cC p0 p1 p)) res := by
  refine CTv.enter (own := RX0) (cc := cX0_furnish) (maxL := 3) (ret := none) (by decide) rfl rfl (Nat.le_of_ble_eq_true rfl) ?_
  intro pr e s m below meth c A F hr hlk hP hS ls hl
  obtain ⟨⟨hx, hb, hml, hown, hts⟩, hK, hDD, hA, hKC⟩ := id F
  have hl : lv_has ls 3 [(0, .ref h0), (1, .ref p0)] := hl
  have hP : va_P (dC, dI) vwCl (wHouse cI h0 v0 v1 v2 v3 h v ++ wPad cC p0 p1 p) s.heap := hP
  unfold M_X0_furnish at hM
  refine kloop (α := HT × VT × Int32) (res := res) (fun k a => M_X0_furnish_49 p k a) (fun rec a => M_X0_furnish_49b p rec a) (fun _ => rfl) (fun _ _ => rfl) F (fun a => (wHouse cI h0 v0 v1 v2 v3 a.1 a.2.1 ++ wPad cC p0 p1 p)) (fun a => [(0, .ref h0), (1, .ref p0), (2, .int a.2.2)]) (fun a => []) 49 ?_ (fun j49 => ?_)
  · intro rc49 ih49 a49 H locs ls hP hS hl hM
    unfold M_X0_furnish_49b at hM
    refine kblk (α := HT × VT × Int32) (res := res) (fun a => M_X0_furnish_73 p rc49 a) F (fun a => (wHouse cI h0 v0 v1 v2 v3 a.1 a.2.1 ++ wPad cC p0 p1 p)) (fun a => [(0, .ref h0), (1, .ref p0), (2, .int a.2.2)]) (fun a => []) 73 ?_ (fun j73 => ?_)
    · intro a73 H locs ls hP hS hl hM
      unfold M_X0_furnish_73 at hM
      refine lv_iinc (v := (a73.2.2 + (1 : Int32))) (lv' := [(2, .int (a73.2.2 + (1 : Int32))), (0, .ref h0), (1, .ref p0)]) hx hb dX0_furnish_73 hl (k := 2) rfl rfl (by decide) rfl (fun ls hl => ?_)
      refine lv_goto (tgt := 49) hx hb dX0_furnish_76 (by decide) ?_
      exact ih49 (a73.1, a73.2.1, (a73.2.2 + (1 : Int32))) _ _ _ hP hS (lv_sub hl [1, 2, 0] rfl) hM
    refine lv_iload_n hx hb dX0_furnish_49 rfl (lv_at hl 2 rfl) ?_
    refine lv_aload_n hx hb dX0_furnish_50 rfl (lv_at hl 0 rfl) ?_
    obtain ⟨z51, hcr, hM⟩ := ob_s hM
    refine res_i0 F hP hS rfl [0, 1, 2, 3, 4] rfl rfl (runV_of (n := 0) (As := []) (rest := [.int a49.2.2]) F hP hS rfl [0, 1, 2, 3, 4] rfl rfl (c_X0_cells l dC dI cI cC cZ sa h0 v0 v1 v2 v3 a49.1 a49.2.1 hcr _) gX0_furnish_X0_cells rfl (by decide +kernel) ⟨Nat.le_of_ble_eq_true rfl, Nat.le_of_ble_eq_true rfl⟩ 0 0 rfl rfl rfl hl.1 rfl (Nat.le_of_ble_eq_true rfl) dX0_furnish_51 ⟨Nat.zero_le _, Nat.zero_le _⟩) (fun H locs hP hS => ?_)
    refine lv_icmp_ge (tgt := 79) hx hb dX0_furnish_54 (by decide) (fun hc => ?_) (fun hc => ?_)
    · have hM := if_pp hc hM
      exact ret_v hx hb hr hlk dX0_furnish_79 hM hP hS
    · have hM := if_nn hc hM
      refine lv_aload_n hx hb dX0_furnish_57 rfl (lv_at hl 0 rfl) ?_
      refine g_get (ci := 0) (C := RX0) (T := TX0) (N := 13) (v := .int a49.1.2.2.2.2.2.1) F hP 0 rfl rfl inX0_furnish_X0 5 (by decide) (List.mem_of_getElem? (i := 2) rfl) rfl dX0_furnish_58 ?_
      refine lv_iload_n hx hb dX0_furnish_61 rfl (lv_at hl 2 rfl) ?_
      obtain ⟨z62, hcr, hM⟩ := ob_s hM
      refine res_i0 F hP hS rfl [] rfl rfl (runN_of (n := 2) (As := [.int a49.1.2.2.2.2.2.1, .int a49.2.2]) (rest := []) F hP hS rfl [] rfl rfl (c_X8_has l dC dI cI cC cZ sa a49.1.2.2.2.2.2.1 a49.2.2 hcr _) gX0_furnish_X8_has_n89 rfl 9 rfl (hts _ (List.mem_of_getElem? (i := 37) rfl)) (hts _ (List.mem_of_getElem? (i := 53) rfl)) (by decide +kernel) ⟨Nat.le_of_ble_eq_true rfl, Nat.le_of_ble_eq_true rfl⟩ rfl hl.1 rfl (Nat.le_of_ble_eq_true rfl) dX0_furnish_62 ⟨Nat.zero_le _, Nat.zero_le _⟩) (fun H locs hP hS => ?_)
      refine lv_if_ne (tgt := 73) hx hb dX0_furnish_65 (by decide) (fun hc => ?_) (fun hc => ?_)
      · have hM := if_nn hc hM
        exact j73 (a49.1, a49.2.1, a49.2.2) _ _ _ hP hS (lv_sub hl [0, 1, 2] rfl) hM
      · have hM := if_pp hc hM
        refine lv_aload_n hx hb dX0_furnish_68 rfl (lv_at hl 0 rfl) ?_
        refine lv_iload_n hx hb dX0_furnish_69 rfl (lv_at hl 2 rfl) ?_
        refine g_put (ws' := (wHouse cI h0 v0 v1 v2 v3 (a49.1.1, a49.1.2.1, a49.1.2.2.1, a49.1.2.2.2.1, a49.1.2.2.2.2.1, a49.1.2.2.2.2.2.1, a49.1.2.2.2.2.2.2.1, a49.1.2.2.2.2.2.2.2.1, a49.1.2.2.2.2.2.2.2.2.1, a49.1.2.2.2.2.2.2.2.2.2.1, a49.2.2, a49.1.2.2.2.2.2.2.2.2.2.2.2) a49.2.1 ++ wPad cC p0 p1 p)) (ci := 0) (C := RX0) (T := TX0) (N := 13) (v := .int a49.2.2) (ty := .int) F hP hS rfl tyX0 tyX0_ok nmX0 0 rfl rfl inX0_furnish_X0 10 (by decide) (List.mem_of_getElem? (i := 3) rfl) rfl (by decide +kernel) rfl rfl (Nat.le_of_ble_eq_true rfl) dX0_furnish_70 rfl (fun H locs hP hS => ?_)
        exact j73 ((a49.1.1, a49.1.2.1, a49.1.2.2.1, a49.1.2.2.2.1, a49.1.2.2.2.2.1, a49.1.2.2.2.2.2.1, a49.1.2.2.2.2.2.2.1, a49.1.2.2.2.2.2.2.2.1, a49.1.2.2.2.2.2.2.2.2.1, a49.1.2.2.2.2.2.2.2.2.2.1, a49.2.2, a49.1.2.2.2.2.2.2.2.2.2.2.2), a49.2.1, a49.2.2) _ _ _ hP hS (lv_sub hl [0, 1, 2] rfl) hM
  refine kloop (α := HT × VT × Int32) (res := res) (fun k a => M_X0_furnish_6 p k a) (fun rec a => M_X0_furnish_6b p rec a) (fun _ => rfl) (fun _ _ => rfl) F (fun a => (wHouse cI h0 v0 v1 v2 v3 a.1 a.2.1 ++ wPad cC p0 p1 p)) (fun a => [(0, .ref h0), (1, .ref p0), (2, .int a.2.2)]) (fun a => []) 6 ?_ (fun j6 => ?_)
  · intro rc6 ih6 a6 H locs ls hP hS hl hM
    unfold M_X0_furnish_6b at hM
    refine lv_iload_n hx hb dX0_furnish_6 rfl (lv_at hl 2 rfl) ?_
    refine lv_aload_n hx hb dX0_furnish_7 rfl (lv_at hl 0 rfl) ?_
    obtain ⟨z8, hcr, hM⟩ := ob_s hM
    refine res_i0 F hP hS rfl [0, 1, 2, 3, 4] rfl rfl (runV_of (n := 0) (As := []) (rest := [.int a6.2.2]) F hP hS rfl [0, 1, 2, 3, 4] rfl rfl (c_X0_cells l dC dI cI cC cZ sa h0 v0 v1 v2 v3 a6.1 a6.2.1 hcr _) gX0_furnish_X0_cells rfl (by decide +kernel) ⟨Nat.le_of_ble_eq_true rfl, Nat.le_of_ble_eq_true rfl⟩ 0 0 rfl rfl rfl hl.1 rfl (Nat.le_of_ble_eq_true rfl) dX0_furnish_8 ⟨Nat.zero_le _, Nat.zero_le _⟩) (fun H locs hP hS => ?_)
    refine lv_icmp_ge (tgt := 30) hx hb dX0_furnish_11 (by decide) (fun hc => ?_) (fun hc => ?_)
    · have hM := if_pp hc hM
      refine lv_aload_n hx hb dX0_furnish_30 rfl (lv_at hl 0 rfl) ?_
      refine lv_aload_n hx hb dX0_furnish_31 rfl (lv_at hl 0 rfl) ?_
      obtain ⟨z32, hcr, hM⟩ := ob_s hM
      refine res_i0 F hP hS rfl [0, 1, 2, 3, 4] rfl rfl (runV_of (n := 0) (As := []) (rest := [.ref h0]) F hP hS rfl [0, 1, 2, 3, 4] rfl rfl (c_X0_open l dC dI cI cC cZ sa h0 v0 v1 v2 v3 a6.1 a6.2.1 hcr _) gX0_furnish_X0_open rfl (by decide +kernel) ⟨Nat.le_of_ble_eq_true rfl, Nat.le_of_ble_eq_true rfl⟩ 0 0 rfl rfl rfl hl.1 rfl (Nat.le_of_ble_eq_true rfl) dX0_furnish_32 ⟨Nat.zero_le _, Nat.zero_le _⟩) (fun H locs hP hS => ?_)
      refine lv_aload_n hx hb dX0_furnish_35 rfl (lv_at hl 0 rfl) ?_
      obtain ⟨z36, hcr, hM⟩ := ob_s hM
      refine res_i0 F hP hS rfl [0, 1, 2, 3, 4] rfl rfl (runV_of (n := 0) (As := []) (rest := [.int z32, .ref h0]) F hP hS rfl [0, 1, 2, 3, 4] rfl rfl (c_X0_open l dC dI cI cC cZ sa h0 v0 v1 v2 v3 a6.1 a6.2.1 hcr _) gX0_furnish_X0_open rfl (by decide +kernel) ⟨Nat.le_of_ble_eq_true rfl, Nat.le_of_ble_eq_true rfl⟩ 0 0 rfl rfl rfl hl.1 rfl (Nat.le_of_ble_eq_true rfl) dX0_furnish_36 ⟨Nat.zero_le _, Nat.zero_le _⟩) (fun H locs hP hS => ?_)
      refine lv_ineg hx hb dX0_furnish_39 ?_
      refine lv_iand hx hb dX0_furnish_40 ?_
      obtain ⟨z41, hcr, hM⟩ := ob_s hM
      refine res_i0 F hP hS rfl [] rfl rfl (runN_of (n := 1) (As := [.int (z32 &&& (-z36))]) (rest := [.ref h0]) F hP hS rfl [] rfl rfl (c_X8_cellOf l dC dI cI cC cZ sa (z32 &&& (-z36)) hcr _) gX0_furnish_X8_cellOf_n86 rfl 8 rfl (hts _ (List.mem_of_getElem? (i := 37) rfl)) (hts _ (List.mem_of_getElem? (i := 44) rfl)) (by decide +kernel) ⟨Nat.le_of_ble_eq_true rfl, Nat.le_of_ble_eq_true rfl⟩ rfl hl.1 rfl (Nat.le_of_ble_eq_true rfl) dX0_furnish_41 ⟨Nat.zero_le _, Nat.zero_le _⟩) (fun H locs hP hS => ?_)
      refine g_put (ws' := (wHouse cI h0 v0 v1 v2 v3 (a6.1.1, a6.1.2.1, a6.1.2.2.1, a6.1.2.2.2.1, a6.1.2.2.2.2.1, a6.1.2.2.2.2.2.1, a6.1.2.2.2.2.2.2.1, a6.1.2.2.2.2.2.2.2.1, a6.1.2.2.2.2.2.2.2.2.1, z41, a6.1.2.2.2.2.2.2.2.2.2.2.1, a6.1.2.2.2.2.2.2.2.2.2.2.2) a6.2.1 ++ wPad cC p0 p1 p)) (ci := 0) (C := RX0) (T := TX0) (N := 13) (v := .int z41) (ty := .int) F hP hS rfl tyX0 tyX0_ok nmX0 0 rfl rfl inX0_furnish_X0 9 (by decide) (List.mem_of_getElem? (i := 1) rfl) rfl (by decide +kernel) rfl rfl (Nat.le_of_ble_eq_true rfl) dX0_furnish_44 rfl (fun H locs hP hS => ?_)
      refine lv_iconst (v := 0) hx hb dX0_furnish_47 (by decide) ?_
      refine lv_istore_n (lv' := [(2, .int (0 : Int32)), (0, .ref h0), (1, .ref p0)]) hx hb dX0_furnish_48 rfl hl (by decide) rfl (fun ls hl => ?_)
      exact j49 200 ((a6.1.1, a6.1.2.1, a6.1.2.2.1, a6.1.2.2.2.1, a6.1.2.2.2.2.1, a6.1.2.2.2.2.2.1, a6.1.2.2.2.2.2.2.1, a6.1.2.2.2.2.2.2.2.1, a6.1.2.2.2.2.2.2.2.2.1, z41, a6.1.2.2.2.2.2.2.2.2.2.2.1, a6.1.2.2.2.2.2.2.2.2.2.2.2), a6.2.1, (0 : Int32)) _ _ _ hP hS (lv_sub hl [1, 2, 0] rfl) hM
    · have hM := if_nn hc hM
      refine lv_aload_n hx hb dX0_furnish_14 rfl (lv_at hl 0 rfl) ?_
      refine lv_iload_n hx hb dX0_furnish_15 rfl (lv_at hl 2 rfl) ?_
      refine lv_aload_n hx hb dX0_furnish_16 rfl (lv_at hl 1 rfl) ?_
      refine lv_iload_n hx hb dX0_furnish_17 rfl (lv_at hl 2 rfl) ?_
      obtain ⟨z18, hcr, hM⟩ := ob_s hM
      refine res_i0 F hP hS rfl [5, 6] rfl rfl (runV_of (n := 1) (As := [.int a6.2.2]) (rest := [.int a6.2.2, .ref h0]) F hP hS rfl [5, 6] rfl rfl (c_X2_signAt l dC dI cI cC cZ sa p0 p1 p a6.2.2 hcr _) gX0_furnish_X2_signAt rfl (by decide +kernel) ⟨Nat.le_of_ble_eq_true rfl, Nat.le_of_ble_eq_true rfl⟩ 5 2 rfl rfl rfl hl.1 rfl (Nat.le_of_ble_eq_true rfl) dX0_furnish_18 ⟨Nat.zero_le _, Nat.zero_le _⟩) (fun H locs hP hS => ?_)
      obtain ⟨z21, hcr, hM⟩ := ob_s hM
      refine res_v (ws' := (wHouse cI h0 v0 v1 v2 v3 z21 a6.2.1 ++ wPad cC p0 p1 p)) F hP hS rfl [0, 1, 2, 3, 4] rfl rfl (runV_of (n := 2) (As := [.int a6.2.2, .int z18]) (rest := []) F hP hS rfl [0, 1, 2, 3, 4] rfl rfl (c_X0_furnishCell l dC dI cI cC cZ sa h0 v0 v1 v2 v3 a6.1 a6.2.1 a6.2.2 z18 hcr _) gX0_furnish_X0_furnishCell rfl (by decide +kernel) ⟨Nat.le_of_ble_eq_true rfl, Nat.le_of_ble_eq_true rfl⟩ 0 0 rfl rfl rfl hl.1 rfl (Nat.le_of_ble_eq_true rfl) dX0_furnish_21 ⟨Nat.zero_le _, Nat.zero_le _⟩) (rep_pt rfl rfl rfl) (fun H locs hP hS => ?_)
      refine lv_iinc (v := (a6.2.2 + (1 : Int32))) (lv' := [(2, .int (a6.2.2 + (1 : Int32))), (0, .ref h0), (1, .ref p0)]) hx hb dX0_furnish_24 hl (k := 2) rfl rfl (by decide) rfl (fun ls hl => ?_)
      refine lv_goto (tgt := 6) hx hb dX0_furnish_27 (by decide) ?_
      exact ih6 (z21, a6.2.1, (a6.2.2 + (1 : Int32))) _ _ _ hP hS (lv_sub hl [1, 2, 0] rfl) hM
  refine lv_aload_n hx hb dX0_furnish_0 rfl (lv_at hl 0 rfl) ?_
  obtain ⟨z1, hcr, hM⟩ := ob_s hM
  refine res_v (ws' := (wHouse cI h0 v0 v1 v2 v3 z1.1 z1.2 ++ wPad cC p0 p1 p)) F hP hS rfl [0, 1, 2, 3, 4] rfl rfl (runV_of (n := 0) (As := []) (rest := []) F hP hS rfl [0, 1, 2, 3, 4] rfl rfl (c_X0_clearCells l dC dI cI cC cZ sa h0 v0 v1 v2 v3 h v hcr _) gX0_furnish_X0_clearCells rfl (by decide +kernel) ⟨Nat.le_of_ble_eq_true rfl, Nat.le_of_ble_eq_true rfl⟩ 0 0 rfl rfl rfl hl.1 rfl (Nat.le_of_ble_eq_true rfl) dX0_furnish_1 ⟨Nat.zero_le _, Nat.zero_le _⟩) (rep_pt rfl rfl rfl) (fun H locs hP hS => ?_)
  refine lv_iconst (v := 0) hx hb dX0_furnish_4 (by decide) ?_
  refine lv_istore_n (lv' := [(2, .int (0 : Int32)), (0, .ref h0), (1, .ref p0)]) hx hb dX0_furnish_5 rfl hl (by decide) rfl (fun ls hl => ?_)
  exact j6 200 (z1.1, z1.2, (0 : Int32)) _ _ _ hP hS (lv_sub hl [1, 2, 0] rfl) hM
