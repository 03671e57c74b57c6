/-! Walks, printed by wip/whole/gen.py -/
theorem inX8_toldOfWatcher_X0 : ∀ w ∈ wsX00, w ∈ wsX8_toldOfWatcher := fun w h => List.mem_cons_of_mem _ (List.mem_append_left _ (List.mem_append_right _ h))
theorem inX8_toldOfWatcher_X8 : ∀ w ∈ wsX80, w ∈ wsX8_toldOfWatcher := fun w h => List.mem_cons_of_mem _ (List.mem_append_left _ (List.mem_append_left _ (List.mem_append_right _ h)))
set_option maxHeartbeats 4000000 in
set_option maxRecDepth 100000 in
theorem c_X8_toldOfWatcher (l : Launch) (dC : Nat → ClassId) (dI : Nat → Nat → Nat) (cI cC cZ : ClassId) (sa : Nat → Nat) (ad : Nat → Nat) (p : PT) (h : HT) (v : VT) (k1 : Int32) (h1 : HT) (v1 : VT) (k2 : Int32) (h2 : HT) (v2 : VT) (r : RT) (d : DT) (y : YT) (q : QT) (x1 : Int32) (x2 : Int32) {res : Int32} (hM : M_X8_toldOfWatcher v x1 x2 = some res) : CTi l (dC, dI) [(cI, .int), (cC, .char), (cZ, .boolean)] sa yX8_toldOfWatcher wsX8_toldOfWatcher (rmd 3) [.ref (ad 0), .int x1, .int x2] (wX cI cC ad p h v k1 h1 v1 k2 h2 v2 r d y q) (fun (_ : Unit) => (wX cI cC ad p h v k1 h1 v1 k2 h2 v2 r d y q)) (res, ()) := by
  refine CTi.enter (own := RX8) (cc := cX8_toldOfWatcher) (maxL := 3) (ret := (some .int)) (by decide) rfl rfl (Nat.le_of_ble_eq_true rfl) ?_
  intro pr e s m below meth c A F hr hlk hP hS ls hl
  obtain ⟨⟨hx, hb, hml, hown, hts⟩, hK, hDD, hA, hKC⟩ := id F
  have hl : lv_has ls 3 [(0, .ref (ad 0)), (1, .int x1), (2, .int x2)] := hl
  have hP : va_P (dC, dI) vwCl (wX cI cC ad p h v k1 h1 v1 k2 h2 v2 r d y q) s.heap := hP
  unfold M_X8_toldOfWatcher at hM
  refine lv_aload_n hx hb dX8_toldOfWatcher_0 rfl (lv_at hl 0 rfl) ?_
  refine g_get (ci := 8) (C := RX8) (T := TX8) (N := 8) (v := .ref (ad 3)) F hP 0 rfl rfl inX8_toldOfWatcher_X8 1 (by decide) (List.mem_of_getElem? (i := 1) rfl) rfl dX8_toldOfWatcher_1 ?_
  refine g_get (ci := 0) (C := RX0) (T := TX0) (N := 13) (v := .ref (ad 4)) F hP 3 rfl rfl inX8_toldOfWatcher_X0 12 (by decide) (List.mem_of_getElem? (i := 2) rfl) rfl dX8_toldOfWatcher_4 ?_
  refine lv_iload_n hx hb dX8_toldOfWatcher_7 rfl (lv_at hl 1 rfl) ?_
  obtain ⟨z8, hcr, hM⟩ := ob_s hM
  refine res_i0 F hP hS rfl [4, 5, 6, 7] rfl rfl (runV_of (n := 1) (As := [.int x1]) (rest := []) F hP hS rfl [4, 5, 6, 7] rfl rfl (c_X4_isOne l dC dI cI cC cZ sa (ad 4) (ad 5) (ad 6) (ad 7) v x1 hcr _) gX8_toldOfWatcher_X4_isOne rfl (by decide +kernel) ⟨Nat.le_of_ble_eq_true rfl, Nat.le_of_ble_eq_true rfl⟩ 4 4 rfl rfl rfl hl.1 rfl (Nat.le_of_ble_eq_true rfl) dX8_toldOfWatcher_8 ⟨Nat.zero_le _, Nat.zero_le _⟩) (fun H locs hP hS => ?_)
  refine lv_if_ne (tgt := 17) hx hb dX8_toldOfWatcher_11 (by decide) (fun hc => ?_) (fun hc => ?_)
  · have hM := if_nn hc hM
    refine lv_iload_n hx hb dX8_toldOfWatcher_17 rfl (lv_at hl 2 rfl) ?_
    by_cases hc0 : x2 = (0 : Int32)
    · have hM := if_pp hc0 hM
      refine lv_tableIn (off := 26) (tgt := 44) hx hb dX8_toldOfWatcher_18 (by rw [hc0]; decide) (by rw [hc0]; decide) (by rw [hc0]; rfl) (by decide) ?_
      refine lv_aload_n hx hb dX8_toldOfWatcher_44 rfl (lv_at hl 0 rfl) ?_
      refine g_get (ci := 8) (C := RX8) (T := TX8) (N := 8) (v := .ref (ad 3)) F hP 0 rfl rfl inX8_toldOfWatcher_X8 1 (by decide) (List.mem_of_getElem? (i := 1) rfl) rfl dX8_toldOfWatcher_45 ?_
      refine g_get (ci := 0) (C := RX0) (T := TX0) (N := 13) (v := .ref (ad 4)) F hP 3 rfl rfl inX8_toldOfWatcher_X0 12 (by decide) (List.mem_of_getElem? (i := 2) rfl) rfl dX8_toldOfWatcher_48 ?_
      refine lv_iload_n hx hb dX8_toldOfWatcher_51 rfl (lv_at hl 1 rfl) ?_
      obtain ⟨z52, hcr, hM⟩ := ob_s hM
      refine res_i0 F hP hS rfl [4, 5, 6, 7] rfl rfl (runV_of (n := 1) (As := [.int x1]) (rest := []) F hP hS rfl [4, 5, 6, 7] rfl rfl (c_X4_cellOfOne l dC dI cI cC cZ sa (ad 4) (ad 5) (ad 6) (ad 7) v x1 hcr _) gX8_toldOfWatcher_X4_cellOfOne rfl (by decide +kernel) ⟨Nat.le_of_ble_eq_true rfl, Nat.le_of_ble_eq_true rfl⟩ 4 4 rfl rfl rfl hl.1 rfl (Nat.le_of_ble_eq_true rfl) dX8_toldOfWatcher_52 ⟨Nat.zero_le _, Nat.zero_le _⟩) (fun H locs hP hS => ?_)
      exact ret_i hx hb hr hlk dX8_toldOfWatcher_55 (some_u hM) hP hS
    · have hM := if_nn hc0 hM
      by_cases hc1 : x2 = (1 : Int32)
      · have hM := if_pp hc1 hM
        refine lv_tableIn (off := 38) (tgt := 56) hx hb dX8_toldOfWatcher_18 (by rw [hc1]; decide) (by rw [hc1]; decide) (by rw [hc1]; rfl) (by decide) ?_
        refine lv_aload_n hx hb dX8_toldOfWatcher_56 rfl (lv_at hl 0 rfl) ?_
        refine g_get (ci := 8) (C := RX8) (T := TX8) (N := 8) (v := .ref (ad 3)) F hP 0 rfl rfl inX8_toldOfWatcher_X8 1 (by decide) (List.mem_of_getElem? (i := 1) rfl) rfl dX8_toldOfWatcher_57 ?_
        refine g_get (ci := 0) (C := RX0) (T := TX0) (N := 13) (v := .ref (ad 4)) F hP 3 rfl rfl inX8_toldOfWatcher_X0 12 (by decide) (List.mem_of_getElem? (i := 2) rfl) rfl dX8_toldOfWatcher_60 ?_
        refine lv_iload_n hx hb dX8_toldOfWatcher_63 rfl (lv_at hl 1 rfl) ?_
        obtain ⟨z64, hcr, hM⟩ := ob_s hM
        refine res_i0 F hP hS rfl [4, 5, 6, 7] rfl rfl (runV_of (n := 1) (As := [.int x1]) (rest := []) F hP hS rfl [4, 5, 6, 7] rfl rfl (c_X4_lookingOf l dC dI cI cC cZ sa (ad 4) (ad 5) (ad 6) (ad 7) v x1 hcr _) gX8_toldOfWatcher_X4_lookingOf rfl (by decide +kernel) ⟨Nat.le_of_ble_eq_true rfl, Nat.le_of_ble_eq_true rfl⟩ 4 4 rfl rfl rfl hl.1 rfl (Nat.le_of_ble_eq_true rfl) dX8_toldOfWatcher_64 ⟨Nat.zero_le _, Nat.zero_le _⟩) (fun H locs hP hS => ?_)
        exact ret_i hx hb hr hlk dX8_toldOfWatcher_67 (some_u hM) hP hS
      · have hM := if_nn hc1 hM
        by_cases hc2 : x2 = (2 : Int32)
        · have hM := if_pp hc2 hM
          refine lv_tableIn (off := 50) (tgt := 68) hx hb dX8_toldOfWatcher_18 (by rw [hc2]; decide) (by rw [hc2]; decide) (by rw [hc2]; rfl) (by decide) ?_
          refine lv_aload_n hx hb dX8_toldOfWatcher_68 rfl (lv_at hl 0 rfl) ?_
          refine g_get (ci := 8) (C := RX8) (T := TX8) (N := 8) (v := .ref (ad 3)) F hP 0 rfl rfl inX8_toldOfWatcher_X8 1 (by decide) (List.mem_of_getElem? (i := 1) rfl) rfl dX8_toldOfWatcher_69 ?_
          refine g_get (ci := 0) (C := RX0) (T := TX0) (N := 13) (v := .ref (ad 4)) F hP 3 rfl rfl inX8_toldOfWatcher_X0 12 (by decide) (List.mem_of_getElem? (i := 2) rfl) rfl dX8_toldOfWatcher_72 ?_
          refine lv_iload_n hx hb dX8_toldOfWatcher_75 rfl (lv_at hl 1 rfl) ?_
          obtain ⟨z76, hcr, hM⟩ := ob_s hM
          refine res_i0 F hP hS rfl [4, 5, 6, 7] rfl rfl (runV_of (n := 1) (As := [.int x1]) (rest := []) F hP hS rfl [4, 5, 6, 7] rfl rfl (c_X4_hasDog l dC dI cI cC cZ sa (ad 4) (ad 5) (ad 6) (ad 7) v x1 hcr _) gX8_toldOfWatcher_X4_hasDog rfl (by decide +kernel) ⟨Nat.le_of_ble_eq_true rfl, Nat.le_of_ble_eq_true rfl⟩ 4 4 rfl rfl rfl hl.1 rfl (Nat.le_of_ble_eq_true rfl) dX8_toldOfWatcher_76 ⟨Nat.zero_le _, Nat.zero_le _⟩) (fun H locs hP hS => ?_)
          refine lv_if_eq (tgt := 86) hx hb dX8_toldOfWatcher_79 (by decide) (fun hc => ?_) (fun hc => ?_)
          · have hM := if_pp hc hM
            refine lv_iconst (v := 0) hx hb dX8_toldOfWatcher_86 (by decide) ?_
            exact ret_i hx hb hr hlk dX8_toldOfWatcher_87 (some_u hM) hP hS
          · have hM := if_nn hc hM
            refine lv_iconst (v := 1) hx hb dX8_toldOfWatcher_82 (by decide) ?_
            refine lv_goto (tgt := 87) hx hb dX8_toldOfWatcher_83 (by decide) ?_
            exact ret_i hx hb hr hlk dX8_toldOfWatcher_87 (some_u hM) hP hS
        · have hM := if_nn hc2 hM
          have hn0 := lv_neT hc0 (a := 0) (by decide)
          have hn1 := lv_neT hc1 (a := 1) (by decide)
          have hn2 := lv_neT hc2 (a := 2) (by decide)
          refine lv_tableOut (tgt := 88) hx hb dX8_toldOfWatcher_18 (by omega) (by decide) ?_
          refine lv_bipush (v := -2) hx hb dX8_toldOfWatcher_88 (by decide) ?_
          exact ret_i hx hb hr hlk dX8_toldOfWatcher_90 (some_u hM) hP hS
  · have hM := if_pp hc hM
    refine lv_bipush (v := -2) hx hb dX8_toldOfWatcher_14 (by decide) ?_
    exact ret_i hx hb hr hlk dX8_toldOfWatcher_16 (some_u hM) hP hS
