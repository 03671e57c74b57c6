/-! Walks, printed by wip/whole/gen.py -/
theorem inX8_imageOf_X8 : ∀ w ∈ wsX80, w ∈ wsX8_imageOf := fun w h => List.mem_cons_of_mem _ (List.mem_append_right _ h)
set_option maxHeartbeats 4000000 in
set_option maxRecDepth 100000 in
theorem c_X8_imageOf0 (l : Launch) (dC : Nat → ClassId) (dI : Nat → Nat → Nat) (cI cC cZ : ClassId) (sa : Nat → Nat) (ad : Nat → Nat) (p : PT) (h : HT) (v : VT) (k1 : Int32) (h1 : HT) (v1 : VT) (k2 : Int32) (h2 : HT) (v2 : VT) (r : RT) (d : DT) (y : YT) (q : QT) (x1 : Int32) (hv : x1 = 0) : CTr l (dC, dI) [(cI, .int), (cC, .char), (cZ, .boolean)] sa yX8_imageOf wsX8_imageOf (rmd 1) [.ref (ad 0), .int x1] (wX cI cC ad p h v k1 h1 v1 k2 h2 v2 r d y q) (ad 8) := by
  refine CTr.enter (own := RX8) (cc := cX8_imageOf) (maxL := 2) (ret := (some (.object "CapHouse$Image"))) (by decide) rfl rfl (Nat.le_of_ble_eq_true rfl) ?_
  intro pr e s m below meth c A F hr hlk hP hS ls hl
  obtain ⟨⟨hx, hb, hml, hown, hts⟩, hK, hDD, hA, hKC⟩ := id F
  have hl : lv_has ls 2 [(0, .ref (ad 0)), (1, .int x1)] := hl
  refine lv_iload_n hx hb dX8_imageOf_0 rfl (lv_at hl 1 rfl) ?_
  refine lv_if_ne (tgt := 11) hx hb dX8_imageOf_1 (by decide) (fun hc => ?_) (fun hc => ?_)
  · exact absurd hv hc
  · refine lv_aload_n hx hb dX8_imageOf_4 rfl (lv_at hl 0 rfl) ?_
    refine g_get (ci := 8) (C := RX8) (T := TX8) (N := 8) (v := .ref (ad 8)) F hP 0 rfl rfl inX8_imageOf_X8 2 (by decide) (List.mem_of_getElem? (i := 1) rfl) rfl dX8_imageOf_5 ?_
    refine lv_goto (tgt := 15) hx hb dX8_imageOf_8 (by decide) ?_
    exact ret_r hx hb hr hlk dX8_imageOf_15 hP hS
set_option maxHeartbeats 4000000 in
set_option maxRecDepth 100000 in
theorem c_X8_imageOf1 (l : Launch) (dC : Nat → ClassId) (dI : Nat → Nat → Nat) (cI cC cZ : ClassId) (sa : Nat → Nat) (ad : Nat → Nat) (p : PT) (h : HT) (v : VT) (k1 : Int32) (h1 : HT) (v1 : VT) (k2 : Int32) (h2 : HT) (v2 : VT) (r : RT) (d : DT) (y : YT) (q : QT) (x1 : Int32) (hv : ¬ x1 = 0) : CTr l (dC, dI) [(cI, .int), (cC, .char), (cZ, .boolean)] sa yX8_imageOf wsX8_imageOf (rmd 1) [.ref (ad 0), .int x1] (wX cI cC ad p h v k1 h1 v1 k2 h2 v2 r d y q) (ad 14) := by
  refine CTr.enter (own := RX8) (cc := cX8_imageOf) (maxL := 2) (ret := (some (.object "CapHouse$Image"))) (by decide) rfl rfl (Nat.le_of_ble_eq_true rfl) ?_
  intro pr e s m below meth c A F hr hlk hP hS ls hl
  obtain ⟨⟨hx, hb, hml, hown, hts⟩, hK, hDD, hA, hKC⟩ := id F
  have hl : lv_has ls 2 [(0, .ref (ad 0)), (1, .int x1)] := hl
  refine lv_iload_n hx hb dX8_imageOf_0 rfl (lv_at hl 1 rfl) ?_
  refine lv_if_ne (tgt := 11) hx hb dX8_imageOf_1 (by decide) (fun hc => ?_) (fun hc => ?_)
  · refine lv_aload_n hx hb dX8_imageOf_11 rfl (lv_at hl 0 rfl) ?_
    refine g_get (ci := 8) (C := RX8) (T := TX8) (N := 8) (v := .ref (ad 14)) F hP 0 rfl rfl inX8_imageOf_X8 3 (by decide) (List.mem_of_getElem? (i := 2) rfl) rfl dX8_imageOf_12 ?_
    exact ret_r hx hb hr hlk dX8_imageOf_15 hP hS
  · exact absurd hc hv
