/-! Walks, printed by wip/whole/gen.py -/
theorem inX0_clearCells_X0 : ∀ w ∈ wsX00, w ∈ wsX0_clearCells := fun w h => List.mem_cons_of_mem _ (List.mem_append_left _ (List.mem_append_right _ h))
set_option maxHeartbeats 4000000 in
set_option maxRecDepth 100000 in
theorem c_X0_clearCells (l : Launch) (dC : Nat → ClassId) (dI : Nat → Nat → Nat) (cI cC cZ : ClassId) (sa : Nat → Nat) (h0 v0 v1 v2 v3 : Nat) (h : HT) (v : VT)  {res : HT × VT} (hM : M_X0_clearCells h v = some res) : CTv l (dC, dI) [(cI, .int), (cC, .char), (cZ, .boolean)] sa yX0_clearCells wsX0_clearCells (rmd 2) [.ref h0] (wHouse cI h0 v0 v1 v2 v3 h v) (fun (uu : HT × VT) => (wHouse cI h0 v0 v1 v2 v3 uu.1 uu.2)) res := by
  refine CTv.enter (own := RX0) (cc := cX0_clearCells) (maxL := 1) (ret := none) (by decide) rfl rfl (Nat.le_of_ble_eq_true rfl) ?_
  intro pr e s m below meth c A F hr hlk hP hS ls hl
  obtain ⟨⟨hx, hb, hml, hown, hts⟩, hK, hDD, hA, hKC⟩ := id F
  have hl : lv_has ls 1 [(0, .ref h0)] := hl
  have hP : va_P (dC, dI) vwCl (wHouse cI h0 v0 v1 v2 v3 h v) s.heap := hP
  unfold M_X0_clearCells at hM
  refine lv_aload_n hx hb dX0_clearCells_0 rfl (lv_at hl 0 rfl) ?_
  refine lv_iconst (v := 0) hx hb dX0_clearCells_1 (by decide) ?_
  refine g_put (ws' := (wHouse cI h0 v0 v1 v2 v3 (h.1, h.2.1, h.2.2.1, h.2.2.2.1, h.2.2.2.2.1, (0 : Int32), h.2.2.2.2.2.2.1, h.2.2.2.2.2.2.2.1, h.2.2.2.2.2.2.2.2.1, h.2.2.2.2.2.2.2.2.2.1, h.2.2.2.2.2.2.2.2.2.2.1, h.2.2.2.2.2.2.2.2.2.2.2) v)) (ci := 0) (C := RX0) (T := TX0) (N := 13) (v := .int (0 : Int32)) (ty := .int) F hP hS rfl tyX0 tyX0_ok nmX0 0 rfl rfl inX0_clearCells_X0 5 (by decide) (List.mem_of_getElem? (i := 1) rfl) rfl (by decide +kernel) rfl rfl (Nat.le_of_ble_eq_true rfl) dX0_clearCells_2 rfl (fun H locs hP hS => ?_)
  refine lv_aload_n hx hb dX0_clearCells_5 rfl (lv_at hl 0 rfl) ?_
  refine lv_iconst (v := 0) hx hb dX0_clearCells_6 (by decide) ?_
  refine g_put (ws' := (wHouse cI h0 v0 v1 v2 v3 (h.1, h.2.1, h.2.2.1, h.2.2.2.1, h.2.2.2.2.1, (0 : Int32), (0 : Int32), h.2.2.2.2.2.2.2.1, h.2.2.2.2.2.2.2.2.1, h.2.2.2.2.2.2.2.2.2.1, h.2.2.2.2.2.2.2.2.2.2.1, h.2.2.2.2.2.2.2.2.2.2.2) v)) (ci := 0) (C := RX0) (T := TX0) (N := 13) (v := .int (0 : Int32)) (ty := .int) F hP hS rfl tyX0 tyX0_ok nmX0 0 rfl rfl inX0_clearCells_X0 6 (by decide) (List.mem_of_getElem? (i := 2) rfl) rfl (by decide +kernel) rfl rfl (Nat.le_of_ble_eq_true rfl) dX0_clearCells_7 rfl (fun H locs hP hS => ?_)
  refine lv_aload_n hx hb dX0_clearCells_10 rfl (lv_at hl 0 rfl) ?_
  refine lv_iconst (v := 0) hx hb dX0_clearCells_11 (by decide) ?_
  refine g_put (ws' := (wHouse cI h0 v0 v1 v2 v3 (h.1, h.2.1, h.2.2.1, h.2.2.2.1, h.2.2.2.2.1, (0 : Int32), (0 : Int32), (0 : Int32), h.2.2.2.2.2.2.2.2.1, h.2.2.2.2.2.2.2.2.2.1, h.2.2.2.2.2.2.2.2.2.2.1, h.2.2.2.2.2.2.2.2.2.2.2) v)) (ci := 0) (C := RX0) (T := TX0) (N := 13) (v := .int (0 : Int32)) (ty := .int) F hP hS rfl tyX0 tyX0_ok nmX0 0 rfl rfl inX0_clearCells_X0 7 (by decide) (List.mem_of_getElem? (i := 3) rfl) rfl (by decide +kernel) rfl rfl (Nat.le_of_ble_eq_true rfl) dX0_clearCells_12 rfl (fun H locs hP hS => ?_)
  refine lv_aload_n hx hb dX0_clearCells_15 rfl (lv_at hl 0 rfl) ?_
  refine lv_iconst (v := 0) hx hb dX0_clearCells_16 (by decide) ?_
  refine g_put (ws' := (wHouse cI h0 v0 v1 v2 v3 (h.1, h.2.1, h.2.2.1, h.2.2.2.1, h.2.2.2.2.1, (0 : Int32), (0 : Int32), (0 : Int32), (0 : Int32), h.2.2.2.2.2.2.2.2.2.1, h.2.2.2.2.2.2.2.2.2.2.1, h.2.2.2.2.2.2.2.2.2.2.2) v)) (ci := 0) (C := RX0) (T := TX0) (N := 13) (v := .int (0 : Int32)) (ty := .int) F hP hS rfl tyX0 tyX0_ok nmX0 0 rfl rfl inX0_clearCells_X0 8 (by decide) (List.mem_of_getElem? (i := 4) rfl) rfl (by decide +kernel) rfl rfl (Nat.le_of_ble_eq_true rfl) dX0_clearCells_17 rfl (fun H locs hP hS => ?_)
  refine lv_aload_n hx hb dX0_clearCells_20 rfl (lv_at hl 0 rfl) ?_
  refine g_get (ci := 0) (C := RX0) (T := TX0) (N := 13) (v := .ref v0) F hP 0 rfl rfl inX0_clearCells_X0 12 (by decide) (List.mem_of_getElem? (i := 5) rfl) rfl dX0_clearCells_21 ?_
  obtain ⟨z24, hcr, hM⟩ := ob_s hM
  refine res_i (ws' := (wHouse cI h0 v0 v1 v2 v3 (h.1, h.2.1, h.2.2.1, h.2.2.2.1, h.2.2.2.2.1, (0 : Int32), (0 : Int32), (0 : Int32), (0 : Int32), h.2.2.2.2.2.2.2.2.2.1, h.2.2.2.2.2.2.2.2.2.2.1, h.2.2.2.2.2.2.2.2.2.2.2) z24.2)) F hP hS rfl [1, 2, 3, 4] rfl rfl (runV_of (n := 0) (As := []) (rest := []) F hP hS rfl [1, 2, 3, 4] rfl rfl (c_X4_clear l dC dI cI cC cZ sa v0 v1 v2 v3 v hcr _) gX0_clearCells_X4_clear rfl (by decide +kernel) ⟨Nat.le_of_ble_eq_true rfl, Nat.le_of_ble_eq_true rfl⟩ 1 4 rfl rfl rfl hl.1 rfl (Nat.le_of_ble_eq_true rfl) dX0_clearCells_24 ⟨Nat.zero_le _, Nat.zero_le _⟩) (rep_pt rfl rfl rfl) (fun H locs hP hS => ?_)
  refine lv_pop hx hb dX0_clearCells_27 rfl ?_
  exact ret_v hx hb hr hlk dX0_clearCells_28 hM hP hS
