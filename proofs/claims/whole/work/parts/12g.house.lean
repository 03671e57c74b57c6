/-! Walks, printed by wip/whole/gen.py -/
theorem inX0_copyFrom_X0 : ∀ w ∈ wsX00, w ∈ wsX0_copyFrom := fun w h => List.mem_cons_of_mem _ (List.mem_append_left _ (List.mem_append_right _ h))
set_option maxHeartbeats 4000000 in
set_option maxRecDepth 100000 in
theorem c_X0_copyFrom (l : Launch) (dC : Nat → ClassId) (dI : Nat → Nat → Nat) (cI cC cZ : ClassId) (sa : Nat → Nat) (h0 v0 v1 v2 v3 g0 u0 u1 u2 u3 : Nat) (h : HT) (v : VT) (g : HT) (u : VT)  {res : HT × VT} (hM : M_X0_copyFrom h v g u = some res) : CTv l (dC, dI) [(cI, .int), (cC, .char), (cZ, .boolean)] sa yX0_copyFrom wsX0_copyFrom (rmd 4) [.ref h0, .ref g0] (wHouse cI h0 v0 v1 v2 v3 h v ++ wHouse cI g0 u0 u1 u2 u3 g u) (fun (uu : HT × VT) => (wHouse cI h0 v0 v1 v2 v3 uu.1 uu.2 ++ wHouse cI g0 u0 u1 u2 u3 g u)) res := by
  refine CTv.enter (own := RX0) (cc := cX0_copyFrom) (maxL := 2) (ret := none) (by decide) rfl rfl (Nat.le_of_ble_eq_true rfl) ?_
  intro pr e s m below meth c A F hr hlk hP hS ls hl
  obtain ⟨⟨hx, hb, hml, hown, hts⟩, hK, hDD, hA, hKC⟩ := id F
  have hl : lv_has ls 2 [(0, .ref h0), (1, .ref g0)] := hl
  have hP : va_P (dC, dI) vwCl (wHouse cI h0 v0 v1 v2 v3 h v ++ wHouse cI g0 u0 u1 u2 u3 g u) s.heap := hP
  unfold M_X0_copyFrom at hM
  refine lv_aload_n hx hb dX0_copyFrom_0 rfl (lv_at hl 0 rfl) ?_
  refine lv_aload_n hx hb dX0_copyFrom_1 rfl (lv_at hl 1 rfl) ?_
  refine g_get (ci := 0) (C := RX0) (T := TX0) (N := 13) (v := .int g.1) F hP 5 rfl rfl inX0_copyFrom_X0 0 (by decide) (List.mem_of_getElem? (i := 1) rfl) rfl dX0_copyFrom_2 ?_
  refine lv_aload_n hx hb dX0_copyFrom_5 rfl (lv_at hl 1 rfl) ?_
  refine g_get (ci := 0) (C := RX0) (T := TX0) (N := 13) (v := .int g.2.1) F hP 5 rfl rfl inX0_copyFrom_X0 1 (by decide) (List.mem_of_getElem? (i := 2) rfl) rfl dX0_copyFrom_6 ?_
  obtain ⟨z9, hcr, hM⟩ := ob_s hM
  refine res_v (ws' := (wHouse cI h0 v0 v1 v2 v3 z9.1 z9.2 ++ wHouse cI g0 u0 u1 u2 u3 g u)) F hP hS rfl [0, 1, 2, 3, 4] rfl rfl (runV_of (n := 2) (As := [.int g.1, .int g.2.1]) (rest := []) F hP hS rfl [0, 1, 2, 3, 4] rfl rfl (c_X0_layOut l dC dI cI cC cZ sa h0 v0 v1 v2 v3 h v g.1 g.2.1 hcr _) gX0_copyFrom_X0_layOut rfl (by decide +kernel) ⟨Nat.le_of_ble_eq_true rfl, Nat.le_of_ble_eq_true rfl⟩ 0 0 rfl rfl rfl hl.1 rfl (Nat.le_of_ble_eq_true rfl) dX0_copyFrom_9 ⟨Nat.zero_le _, Nat.zero_le _⟩) (rep_pt rfl rfl rfl) (fun H locs hP hS => ?_)
  refine lv_aload_n hx hb dX0_copyFrom_12 rfl (lv_at hl 0 rfl) ?_
  refine lv_aload_n hx hb dX0_copyFrom_13 rfl (lv_at hl 1 rfl) ?_
  refine g_get (ci := 0) (C := RX0) (T := TX0) (N := 13) (v := .int g.2.2.2.2.2.1) F hP 5 rfl rfl inX0_copyFrom_X0 5 (by decide) (List.mem_of_getElem? (i := 3) rfl) rfl dX0_copyFrom_14 ?_
  refine g_put (ws' := (wHouse cI h0 v0 v1 v2 v3 (z9.1.1, z9.1.2.1, z9.1.2.2.1, z9.1.2.2.2.1, z9.1.2.2.2.2.1, g.2.2.2.2.2.1, z9.1.2.2.2.2.2.2.1, z9.1.2.2.2.2.2.2.2.1, z9.1.2.2.2.2.2.2.2.2.1, z9.1.2.2.2.2.2.2.2.2.2.1, z9.1.2.2.2.2.2.2.2.2.2.2.1, z9.1.2.2.2.2.2.2.2.2.2.2.2) z9.2 ++ wHouse cI g0 u0 u1 u2 u3 g u)) (ci := 0) (C := RX0) (T := TX0) (N := 13) (v := .int g.2.2.2.2.2.1) (ty := .int) F hP hS rfl tyX0 tyX0_ok nmX0 0 rfl rfl inX0_copyFrom_X0 5 (by decide) (List.mem_of_getElem? (i := 3) rfl) rfl (by decide +kernel) rfl rfl (Nat.le_of_ble_eq_true rfl) dX0_copyFrom_17 rfl (fun H locs hP hS => ?_)
  refine lv_aload_n hx hb dX0_copyFrom_20 rfl (lv_at hl 0 rfl) ?_
  refine lv_aload_n hx hb dX0_copyFrom_21 rfl (lv_at hl 1 rfl) ?_
  refine g_get (ci := 0) (C := RX0) (T := TX0) (N := 13) (v := .int g.2.2.2.2.2.2.1) F hP 5 rfl rfl inX0_copyFrom_X0 6 (by decide) (List.mem_of_getElem? (i := 4) rfl) rfl dX0_copyFrom_22 ?_
  refine g_put (ws' := (wHouse cI h0 v0 v1 v2 v3 (z9.1.1, z9.1.2.1, z9.1.2.2.1, z9.1.2.2.2.1, z9.1.2.2.2.2.1, g.2.2.2.2.2.1, g.2.2.2.2.2.2.1, z9.1.2.2.2.2.2.2.2.1, z9.1.2.2.2.2.2.2.2.2.1, z9.1.2.2.2.2.2.2.2.2.2.1, z9.1.2.2.2.2.2.2.2.2.2.2.1, z9.1.2.2.2.2.2.2.2.2.2.2.2) z9.2 ++ wHouse cI g0 u0 u1 u2 u3 g u)) (ci := 0) (C := RX0) (T := TX0) (N := 13) (v := .int g.2.2.2.2.2.2.1) (ty := .int) F hP hS rfl tyX0 tyX0_ok nmX0 0 rfl rfl inX0_copyFrom_X0 6 (by decide) (List.mem_of_getElem? (i := 4) rfl) rfl (by decide +kernel) rfl rfl (Nat.le_of_ble_eq_true rfl) dX0_copyFrom_25 rfl (fun H locs hP hS => ?_)
  refine lv_aload_n hx hb dX0_copyFrom_28 rfl (lv_at hl 0 rfl) ?_
  refine lv_aload_n hx hb dX0_copyFrom_29 rfl (lv_at hl 1 rfl) ?_
  refine g_get (ci := 0) (C := RX0) (T := TX0) (N := 13) (v := .int g.2.2.2.2.2.2.2.1) F hP 5 rfl rfl inX0_copyFrom_X0 7 (by decide) (List.mem_of_getElem? (i := 5) rfl) rfl dX0_copyFrom_30 ?_
  refine g_put (ws' := (wHouse cI h0 v0 v1 v2 v3 (z9.1.1, z9.1.2.1, z9.1.2.2.1, z9.1.2.2.2.1, z9.1.2.2.2.2.1, g.2.2.2.2.2.1, g.2.2.2.2.2.2.1, g.2.2.2.2.2.2.2.1, z9.1.2.2.2.2.2.2.2.2.1, z9.1.2.2.2.2.2.2.2.2.2.1, z9.1.2.2.2.2.2.2.2.2.2.2.1, z9.1.2.2.2.2.2.2.2.2.2.2.2) z9.2 ++ wHouse cI g0 u0 u1 u2 u3 g u)) (ci := 0) (C := RX0) (T := TX0) (N := 13) (v := .int g.2.2.2.2.2.2.2.1) (ty := .int) F hP hS rfl tyX0 tyX0_ok nmX0 0 rfl rfl inX0_copyFrom_X0 7 (by decide) (List.mem_of_getElem? (i := 5) rfl) rfl (by decide +kernel) rfl rfl (Nat.le_of_ble_eq_true rfl) dX0_copyFrom_33 rfl (fun H locs hP hS => ?_)
  refine lv_aload_n hx hb dX0_copyFrom_36 rfl (lv_at hl 0 rfl) ?_
  refine lv_aload_n hx hb dX0_copyFrom_37 rfl (lv_at hl 1 rfl) ?_
  refine g_get (ci := 0) (C := RX0) (T := TX0) (N := 13) (v := .int g.2.2.2.2.2.2.2.2.1) F hP 5 rfl rfl inX0_copyFrom_X0 8 (by decide) (List.mem_of_getElem? (i := 6) rfl) rfl dX0_copyFrom_38 ?_
  refine g_put (ws' := (wHouse cI h0 v0 v1 v2 v3 (z9.1.1, z9.1.2.1, z9.1.2.2.1, z9.1.2.2.2.1, z9.1.2.2.2.2.1, g.2.2.2.2.2.1, g.2.2.2.2.2.2.1, g.2.2.2.2.2.2.2.1, g.2.2.2.2.2.2.2.2.1, z9.1.2.2.2.2.2.2.2.2.2.1, z9.1.2.2.2.2.2.2.2.2.2.2.1, z9.1.2.2.2.2.2.2.2.2.2.2.2) z9.2 ++ wHouse cI g0 u0 u1 u2 u3 g u)) (ci := 0) (C := RX0) (T := TX0) (N := 13) (v := .int g.2.2.2.2.2.2.2.2.1) (ty := .int) F hP hS rfl tyX0 tyX0_ok nmX0 0 rfl rfl inX0_copyFrom_X0 8 (by decide) (List.mem_of_getElem? (i := 6) rfl) rfl (by decide +kernel) rfl rfl (Nat.le_of_ble_eq_true rfl) dX0_copyFrom_41 rfl (fun H locs hP hS => ?_)
  refine lv_aload_n hx hb dX0_copyFrom_44 rfl (lv_at hl 0 rfl) ?_
  refine lv_aload_n hx hb dX0_copyFrom_45 rfl (lv_at hl 1 rfl) ?_
  refine g_get (ci := 0) (C := RX0) (T := TX0) (N := 13) (v := .int g.2.2.2.2.2.2.2.2.2.1) F hP 5 rfl rfl inX0_copyFrom_X0 9 (by decide) (List.mem_of_getElem? (i := 7) rfl) rfl dX0_copyFrom_46 ?_
  refine g_put (ws' := (wHouse cI h0 v0 v1 v2 v3 (z9.1.1, z9.1.2.1, z9.1.2.2.1, z9.1.2.2.2.1, z9.1.2.2.2.2.1, g.2.2.2.2.2.1, g.2.2.2.2.2.2.1, g.2.2.2.2.2.2.2.1, g.2.2.2.2.2.2.2.2.1, g.2.2.2.2.2.2.2.2.2.1, z9.1.2.2.2.2.2.2.2.2.2.2.1, z9.1.2.2.2.2.2.2.2.2.2.2.2) z9.2 ++ wHouse cI g0 u0 u1 u2 u3 g u)) (ci := 0) (C := RX0) (T := TX0) (N := 13) (v := .int g.2.2.2.2.2.2.2.2.2.1) (ty := .int) F hP hS rfl tyX0 tyX0_ok nmX0 0 rfl rfl inX0_copyFrom_X0 9 (by decide) (List.mem_of_getElem? (i := 7) rfl) rfl (by decide +kernel) rfl rfl (Nat.le_of_ble_eq_true rfl) dX0_copyFrom_49 rfl (fun H locs hP hS => ?_)
  refine lv_aload_n hx hb dX0_copyFrom_52 rfl (lv_at hl 0 rfl) ?_
  refine lv_aload_n hx hb dX0_copyFrom_53 rfl (lv_at hl 1 rfl) ?_
  refine g_get (ci := 0) (C := RX0) (T := TX0) (N := 13) (v := .int g.2.2.2.2.2.2.2.2.2.2.1) F hP 5 rfl rfl inX0_copyFrom_X0 10 (by decide) (List.mem_of_getElem? (i := 8) rfl) rfl dX0_copyFrom_54 ?_
  refine g_put (ws' := (wHouse cI h0 v0 v1 v2 v3 (z9.1.1, z9.1.2.1, z9.1.2.2.1, z9.1.2.2.2.1, z9.1.2.2.2.2.1, g.2.2.2.2.2.1, g.2.2.2.2.2.2.1, g.2.2.2.2.2.2.2.1, g.2.2.2.2.2.2.2.2.1, g.2.2.2.2.2.2.2.2.2.1, g.2.2.2.2.2.2.2.2.2.2.1, z9.1.2.2.2.2.2.2.2.2.2.2.2) z9.2 ++ wHouse cI g0 u0 u1 u2 u3 g u)) (ci := 0) (C := RX0) (T := TX0) (N := 13) (v := .int g.2.2.2.2.2.2.2.2.2.2.1) (ty := .int) F hP hS rfl tyX0 tyX0_ok nmX0 0 rfl rfl inX0_copyFrom_X0 10 (by decide) (List.mem_of_getElem? (i := 8) rfl) rfl (by decide +kernel) rfl rfl (Nat.le_of_ble_eq_true rfl) dX0_copyFrom_57 rfl (fun H locs hP hS => ?_)
  refine lv_aload_n hx hb dX0_copyFrom_60 rfl (lv_at hl 0 rfl) ?_
  refine lv_aload_n hx hb dX0_copyFrom_61 rfl (lv_at hl 1 rfl) ?_
  refine g_get (ci := 0) (C := RX0) (T := TX0) (N := 13) (v := .int g.2.2.2.2.2.2.2.2.2.2.2) F hP 5 rfl rfl inX0_copyFrom_X0 11 (by decide) (List.mem_of_getElem? (i := 9) rfl) rfl dX0_copyFrom_62 ?_
  refine g_put (ws' := (wHouse cI h0 v0 v1 v2 v3 (z9.1.1, z9.1.2.1, z9.1.2.2.1, z9.1.2.2.2.1, z9.1.2.2.2.2.1, g.2.2.2.2.2.1, g.2.2.2.2.2.2.1, g.2.2.2.2.2.2.2.1, g.2.2.2.2.2.2.2.2.1, g.2.2.2.2.2.2.2.2.2.1, g.2.2.2.2.2.2.2.2.2.2.1, g.2.2.2.2.2.2.2.2.2.2.2) z9.2 ++ wHouse cI g0 u0 u1 u2 u3 g u)) (ci := 0) (C := RX0) (T := TX0) (N := 13) (v := .int g.2.2.2.2.2.2.2.2.2.2.2) (ty := .int) F hP hS rfl tyX0 tyX0_ok nmX0 0 rfl rfl inX0_copyFrom_X0 11 (by decide) (List.mem_of_getElem? (i := 9) rfl) rfl (by decide +kernel) rfl rfl (Nat.le_of_ble_eq_true rfl) dX0_copyFrom_65 rfl (fun H locs hP hS => ?_)
  refine lv_aload_n hx hb dX0_copyFrom_68 rfl (lv_at hl 0 rfl) ?_
  refine g_get (ci := 0) (C := RX0) (T := TX0) (N := 13) (v := .ref v0) F hP 0 rfl rfl inX0_copyFrom_X0 12 (by decide) (List.mem_of_getElem? (i := 10) rfl) rfl dX0_copyFrom_69 ?_
  refine lv_aload_n hx hb dX0_copyFrom_72 rfl (lv_at hl 1 rfl) ?_
  refine g_get (ci := 0) (C := RX0) (T := TX0) (N := 13) (v := .ref u0) F hP 5 rfl rfl inX0_copyFrom_X0 12 (by decide) (List.mem_of_getElem? (i := 10) rfl) rfl dX0_copyFrom_73 ?_
  obtain ⟨z76, hcr, hM⟩ := ob_s hM
  refine res_v (ws' := (wHouse cI h0 v0 v1 v2 v3 (z9.1.1, z9.1.2.1, z9.1.2.2.1, z9.1.2.2.2.1, z9.1.2.2.2.2.1, g.2.2.2.2.2.1, g.2.2.2.2.2.2.1, g.2.2.2.2.2.2.2.1, g.2.2.2.2.2.2.2.2.1, g.2.2.2.2.2.2.2.2.2.1, g.2.2.2.2.2.2.2.2.2.2.1, g.2.2.2.2.2.2.2.2.2.2.2) z76 ++ wHouse cI g0 u0 u1 u2 u3 g u)) F hP hS rfl [1, 2, 3, 4, 6, 7, 8, 9] rfl rfl (runV_of (n := 1) (As := [.ref u0]) (rest := []) F hP hS rfl [1, 2, 3, 4, 6, 7, 8, 9] rfl rfl (c_X4_copyFrom l dC dI cI cC cZ sa v0 v1 v2 v3 u0 u1 u2 u3 z9.2 u hcr _) gX0_copyFrom_X4_copyFrom rfl (by decide +kernel) ⟨Nat.le_of_ble_eq_true rfl, Nat.le_of_ble_eq_true rfl⟩ 1 4 rfl rfl rfl hl.1 rfl (Nat.le_of_ble_eq_true rfl) dX0_copyFrom_76 ⟨Nat.zero_le _, Nat.zero_le _⟩) (rep_pt rfl rfl rfl) (fun H locs hP hS => ?_)
  exact ret_v hx hb hr hlk dX0_copyFrom_79 hM hP hS
