/-! Walks, printed by wip/whole/gen.py -/
theorem inX0_moveDoor_X0 : ∀ w ∈ wsX00, w ∈ wsX0_moveDoor := fun w h => List.mem_cons_of_mem _ (List.mem_append_right _ h)
set_option maxHeartbeats 4000000 in
set_option maxRecDepth 100000 in
theorem c_X0_moveDoor (l : Launch) (dC : Nat → ClassId) (dI : Nat → Nat → Nat) (cI cC cZ : ClassId) (sa : Nat → Nat) (h0 v0 v1 v2 v3 : Nat) (h : HT) (v : VT) (x1 : Int32) {res : Int32 × HT} (hM : M_X0_moveDoor h x1 = some res) : CTi l (dC, dI) [(cI, .int), (cC, .char), (cZ, .boolean)] sa yX0_moveDoor wsX0_moveDoor (rmd 1) [.ref h0, .int x1] (wHouse cI h0 v0 v1 v2 v3 h v) (fun (uu : HT) => (wHouse cI h0 v0 v1 v2 v3 uu v)) res := by
  refine CTi.enter (own := RX0) (cc := cX0_moveDoor) (maxL := 3) (ret := (some .int)) (by decide) rfl rfl (Nat.le_of_ble_eq_true rfl) ?_
  intro pr e s m below meth c A F hr hlk hP hS ls hl
  obtain ⟨⟨hx, hb, hml, hown, hts⟩, hK, hDD, hA, hKC⟩ := id F
  have hl : lv_has ls 3 [(0, .ref h0), (1, .int x1)] := hl
  have hP : va_P (dC, dI) vwCl (wHouse cI h0 v0 v1 v2 v3 h v) s.heap := hP
  unfold M_X0_moveDoor at hM
  refine lv_aload_n hx hb dX0_moveDoor_0 rfl (lv_at hl 0 rfl) ?_
  refine g_get (ci := 0) (C := RX0) (T := TX0) (N := 13) (v := .int h.2.2.2.2.2.2.2.2.2.1) F hP 0 rfl rfl inX0_moveDoor_X0 9 (by decide) (List.mem_of_getElem? (i := 1) rfl) rfl dX0_moveDoor_1 ?_
  refine lv_istore_n (lv' := [(2, .int h.2.2.2.2.2.2.2.2.2.1), (0, .ref h0), (1, .int x1)]) hx hb dX0_moveDoor_4 rfl hl (by decide) rfl (fun ls hl => ?_)
  refine lv_aload_n hx hb dX0_moveDoor_5 rfl (lv_at hl 1 rfl) ?_
  refine lv_iload_n hx hb dX0_moveDoor_6 rfl (lv_at hl 2 rfl) ?_
  refine g_put (ws' := (wHouse cI h0 v0 v1 v2 v3 (h.1, h.2.1, h.2.2.1, h.2.2.2.1, h.2.2.2.2.1, h.2.2.2.2.2.1, h.2.2.2.2.2.2.1, h.2.2.2.2.2.2.2.1, h.2.2.2.2.2.2.2.2.1, x1, h.2.2.2.2.2.2.2.2.2.2.1, h.2.2.2.2.2.2.2.2.2.2.2) v)) (ci := 0) (C := RX0) (T := TX0) (N := 13) (v := .int x1) (ty := .int) F hP hS rfl tyX0 tyX0_ok nmX0 0 rfl rfl inX0_moveDoor_X0 9 (by decide) (List.mem_of_getElem? (i := 1) rfl) rfl (by decide +kernel) rfl rfl (Nat.le_of_ble_eq_true rfl) dX0_moveDoor_7 rfl (fun H locs hP hS => ?_)
  refine lv_iload_n hx hb dX0_moveDoor_10 rfl (lv_at hl 0 rfl) ?_
  exact ret_i hx hb hr hlk dX0_moveDoor_11 hM hP hS
theorem inX0_moveThing_X0 : ∀ w ∈ wsX00, w ∈ wsX0_moveThing := fun w h => List.mem_cons_of_mem _ (List.mem_append_right _ h)
set_option maxHeartbeats 4000000 in
set_option maxRecDepth 100000 in
theorem c_X0_moveThing (l : Launch) (dC : Nat → ClassId) (dI : Nat → Nat → Nat) (cI cC cZ : ClassId) (sa : Nat → Nat) (h0 v0 v1 v2 v3 : Nat) (h : HT) (v : VT) (x1 : Int32) {res : Int32 × HT} (hM : M_X0_moveThing h x1 = some res) : CTi l (dC, dI) [(cI, .int), (cC, .char), (cZ, .boolean)] sa yX0_moveThing wsX0_moveThing (rmd 1) [.ref h0, .int x1] (wHouse cI h0 v0 v1 v2 v3 h v) (fun (uu : HT) => (wHouse cI h0 v0 v1 v2 v3 uu v)) res := by
  refine CTi.enter (own := RX0) (cc := cX0_moveThing) (maxL := 3) (ret := (some .int)) (by decide) rfl rfl (Nat.le_of_ble_eq_true rfl) ?_
  intro pr e s m below meth c A F hr hlk hP hS ls hl
  obtain ⟨⟨hx, hb, hml, hown, hts⟩, hK, hDD, hA, hKC⟩ := id F
  have hl : lv_has ls 3 [(0, .ref h0), (1, .int x1)] := hl
  have hP : va_P (dC, dI) vwCl (wHouse cI h0 v0 v1 v2 v3 h v) s.heap := hP
  unfold M_X0_moveThing at hM
  refine lv_aload_n hx hb dX0_moveThing_0 rfl (lv_at hl 0 rfl) ?_
  refine g_get (ci := 0) (C := RX0) (T := TX0) (N := 13) (v := .int h.2.2.2.2.2.2.2.2.2.2.1) F hP 0 rfl rfl inX0_moveThing_X0 10 (by decide) (List.mem_of_getElem? (i := 1) rfl) rfl dX0_moveThing_1 ?_
  refine lv_istore_n (lv' := [(2, .int h.2.2.2.2.2.2.2.2.2.2.1), (0, .ref h0), (1, .int x1)]) hx hb dX0_moveThing_4 rfl hl (by decide) rfl (fun ls hl => ?_)
  refine lv_aload_n hx hb dX0_moveThing_5 rfl (lv_at hl 1 rfl) ?_
  refine lv_iload_n hx hb dX0_moveThing_6 rfl (lv_at hl 2 rfl) ?_
  refine g_put (ws' := (wHouse cI h0 v0 v1 v2 v3 (h.1, h.2.1, h.2.2.1, h.2.2.2.1, h.2.2.2.2.1, h.2.2.2.2.2.1, h.2.2.2.2.2.2.1, h.2.2.2.2.2.2.2.1, h.2.2.2.2.2.2.2.2.1, h.2.2.2.2.2.2.2.2.2.1, x1, h.2.2.2.2.2.2.2.2.2.2.2) v)) (ci := 0) (C := RX0) (T := TX0) (N := 13) (v := .int x1) (ty := .int) F hP hS rfl tyX0 tyX0_ok nmX0 0 rfl rfl inX0_moveThing_X0 10 (by decide) (List.mem_of_getElem? (i := 1) rfl) rfl (by decide +kernel) rfl rfl (Nat.le_of_ble_eq_true rfl) dX0_moveThing_7 rfl (fun H locs hP hS => ?_)
  refine lv_iload_n hx hb dX0_moveThing_10 rfl (lv_at hl 0 rfl) ?_
  exact ret_i hx hb hr hlk dX0_moveThing_11 hM hP hS
