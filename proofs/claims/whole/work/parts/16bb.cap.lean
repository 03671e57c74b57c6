/-! Walks, printed by wip/whole/gen.py -/
theorem inX8_told_X0 : ∀ w ∈ wsX00, w ∈ wsX8_told := fun w h => List.mem_cons_of_mem _ (List.mem_append_left _ (List.mem_append_right _ h))
theorem inX8_told_X2 : ∀ w ∈ wsX20, w ∈ wsX8_told := fun w h => List.mem_cons_of_mem _ (List.mem_append_left _ (List.mem_append_left _ (List.mem_append_right _ h)))
theorem inX8_told_X4 : ∀ w ∈ wsX40, w ∈ wsX8_told := fun w h => List.mem_cons_of_mem _ (List.mem_append_right _ h)
theorem inX8_told_X8 : ∀ w ∈ wsX80, w ∈ wsX8_told := fun w h => List.mem_cons_of_mem _ (List.mem_append_left _ (List.mem_append_left _ (List.mem_append_left _ (List.mem_append_right _ h))))
set_option maxHeartbeats 4000000 in
set_option maxRecDepth 100000 in
theorem c_X8_told (l : Launch) (dC : Nat → ClassId) (dI : Nat → Nat → Nat) (cI cC cZ : ClassId) (sa : Nat → Nat) (ad : Nat → Nat) (p : PT) (h : HT) (v : VT) (k1 : Int32) (h1 : HT) (v1 : VT) (k2 : Int32) (h2 : HT) (v2 : VT) (r : RT) (d : DT) (y : YT) (q : QT) (x1 : Int32) {res : Int32} (hM : M_X8_told p h v x1 = some res) : CTi l (dC, dI) [(cI, .int), (cC, .char), (cZ, .boolean)] sa yX8_told wsX8_told (rmd 4) [.ref (ad 0), .int x1] (wX cI cC ad p h v k1 h1 v1 k2 h2 v2 r d y q) (fun (_ : Unit) => (wX cI cC ad p h v k1 h1 v1 k2 h2 v2 r d y q)) (res, ()) := by
  refine CTi.enter (own := RX8) (cc := cX8_told) (maxL := 2) (ret := (some .int)) (by decide) rfl rfl (Nat.le_of_ble_eq_true rfl) ?_
  intro pr e s m below meth c A F hr hlk hP hS ls hl
  obtain ⟨⟨hx, hb, hml, hown, hts⟩, hK, hDD, hA, hKC⟩ := id F
  have hl : lv_has ls 2 [(0, .ref (ad 0)), (1, .int x1)] := hl
  have hP : va_P (dC, dI) vwCl (wX cI cC ad p h v k1 h1 v1 k2 h2 v2 r d y q) s.heap := hP
  unfold M_X8_told at hM
  refine lv_iload_n hx hb dX8_told_0 rfl (lv_at hl 1 rfl) ?_
  by_cases hc0 : x1 = (0 : Int32)
  · have hM := if_pp hc0 hM
    refine lv_tableIn (off := 43) (tgt := 44) hx hb dX8_told_1 (by rw [hc0]; decide) (by rw [hc0]; decide) (by rw [hc0]; rfl) (by decide) ?_
    refine lv_aload_n hx hb dX8_told_44 rfl (lv_at hl 0 rfl) ?_
    refine g_get (ci := 8) (C := RX8) (T := TX8) (N := 8) (v := .ref (ad 1)) F hP 0 rfl rfl inX8_told_X8 0 (by decide) (List.mem_of_getElem? (i := 1) rfl) rfl dX8_told_45 ?_
    refine g_get (ci := 2) (C := RX2) (T := TX2) (N := 2) (v := .int p.1) F hP 1 rfl rfl inX8_told_X2 1 (by decide) (List.mem_of_getElem? (i := 2) rfl) rfl dX8_told_48 ?_
    exact ret_i hx hb hr hlk dX8_told_51 (some_u hM) hP hS
  · have hM := if_nn hc0 hM
    by_cases hc1 : x1 = (1 : Int32)
    · have hM := if_pp hc1 hM
      refine lv_tableIn (off := 51) (tgt := 52) hx hb dX8_told_1 (by rw [hc1]; decide) (by rw [hc1]; decide) (by rw [hc1]; rfl) (by decide) ?_
      refine lv_aload_n hx hb dX8_told_52 rfl (lv_at hl 0 rfl) ?_
      refine g_get (ci := 8) (C := RX8) (T := TX8) (N := 8) (v := .ref (ad 3)) F hP 0 rfl rfl inX8_told_X8 1 (by decide) (List.mem_of_getElem? (i := 3) rfl) rfl dX8_told_53 ?_
      refine g_get (ci := 0) (C := RX0) (T := TX0) (N := 13) (v := .int h.1) F hP 3 rfl rfl inX8_told_X0 0 (by decide) (List.mem_of_getElem? (i := 4) rfl) rfl dX8_told_56 ?_
      exact ret_i hx hb hr hlk dX8_told_59 (some_u hM) hP hS
    · have hM := if_nn hc1 hM
      by_cases hc2 : x1 = (2 : Int32)
      · have hM := if_pp hc2 hM
        refine lv_tableIn (off := 59) (tgt := 60) hx hb dX8_told_1 (by rw [hc2]; decide) (by rw [hc2]; decide) (by rw [hc2]; rfl) (by decide) ?_
        refine lv_aload_n hx hb dX8_told_60 rfl (lv_at hl 0 rfl) ?_
        refine g_get (ci := 8) (C := RX8) (T := TX8) (N := 8) (v := .ref (ad 3)) F hP 0 rfl rfl inX8_told_X8 1 (by decide) (List.mem_of_getElem? (i := 3) rfl) rfl dX8_told_61 ?_
        refine g_get (ci := 0) (C := RX0) (T := TX0) (N := 13) (v := .int h.2.1) F hP 3 rfl rfl inX8_told_X0 1 (by decide) (List.mem_of_getElem? (i := 5) rfl) rfl dX8_told_64 ?_
        exact ret_i hx hb hr hlk dX8_told_67 (some_u hM) hP hS
      · have hM := if_nn hc2 hM
        by_cases hc3 : x1 = (3 : Int32)
        · have hM := if_pp hc3 hM
          refine lv_tableIn (off := 67) (tgt := 68) hx hb dX8_told_1 (by rw [hc3]; decide) (by rw [hc3]; decide) (by rw [hc3]; rfl) (by decide) ?_
          refine lv_aload_n hx hb dX8_told_68 rfl (lv_at hl 0 rfl) ?_
          refine g_get (ci := 8) (C := RX8) (T := TX8) (N := 8) (v := .ref (ad 3)) F hP 0 rfl rfl inX8_told_X8 1 (by decide) (List.mem_of_getElem? (i := 3) rfl) rfl dX8_told_69 ?_
          refine g_get (ci := 0) (C := RX0) (T := TX0) (N := 13) (v := .int h.2.2.2.2.2.2.2.2.2.1) F hP 3 rfl rfl inX8_told_X0 9 (by decide) (List.mem_of_getElem? (i := 6) rfl) rfl dX8_told_72 ?_
          exact ret_i hx hb hr hlk dX8_told_75 (some_u hM) hP hS
        · have hM := if_nn hc3 hM
          by_cases hc4 : x1 = (4 : Int32)
          · have hM := if_pp hc4 hM
            refine lv_tableIn (off := 75) (tgt := 76) hx hb dX8_told_1 (by rw [hc4]; decide) (by rw [hc4]; decide) (by rw [hc4]; rfl) (by decide) ?_
            refine lv_aload_n hx hb dX8_told_76 rfl (lv_at hl 0 rfl) ?_
            refine g_get (ci := 8) (C := RX8) (T := TX8) (N := 8) (v := .ref (ad 3)) F hP 0 rfl rfl inX8_told_X8 1 (by decide) (List.mem_of_getElem? (i := 3) rfl) rfl dX8_told_77 ?_
            refine g_get (ci := 0) (C := RX0) (T := TX0) (N := 13) (v := .int h.2.2.2.2.2.2.2.2.2.2.1) F hP 3 rfl rfl inX8_told_X0 10 (by decide) (List.mem_of_getElem? (i := 7) rfl) rfl dX8_told_80 ?_
            exact ret_i hx hb hr hlk dX8_told_83 (some_u hM) hP hS
          · have hM := if_nn hc4 hM
            by_cases hc5 : x1 = (5 : Int32)
            · have hM := if_pp hc5 hM
              refine lv_tableIn (off := 83) (tgt := 84) hx hb dX8_told_1 (by rw [hc5]; decide) (by rw [hc5]; decide) (by rw [hc5]; rfl) (by decide) ?_
              refine lv_aload_n hx hb dX8_told_84 rfl (lv_at hl 0 rfl) ?_
              refine g_get (ci := 8) (C := RX8) (T := TX8) (N := 8) (v := .ref (ad 3)) F hP 0 rfl rfl inX8_told_X8 1 (by decide) (List.mem_of_getElem? (i := 3) rfl) rfl dX8_told_85 ?_
              refine g_get (ci := 0) (C := RX0) (T := TX0) (N := 13) (v := .ref (ad 4)) F hP 3 rfl rfl inX8_told_X0 12 (by decide) (List.mem_of_getElem? (i := 8) rfl) rfl dX8_told_88 ?_
              refine g_get (ci := 4) (C := RX4) (T := TX4) (N := 4) (v := .int v.1) F hP 4 rfl rfl inX8_told_X4 3 (by decide) (List.mem_of_getElem? (i := 9) rfl) rfl dX8_told_91 ?_
              exact ret_i hx hb hr hlk dX8_told_94 (some_u hM) hP hS
            · have hM := if_nn hc5 hM
              by_cases hc6 : x1 = (6 : Int32)
              · have hM := if_pp hc6 hM
                refine lv_tableIn (off := 94) (tgt := 95) hx hb dX8_told_1 (by rw [hc6]; decide) (by rw [hc6]; decide) (by rw [hc6]; rfl) (by decide) ?_
                refine lv_aload_n hx hb dX8_told_95 rfl (lv_at hl 0 rfl) ?_
                refine g_get (ci := 8) (C := RX8) (T := TX8) (N := 8) (v := .ref (ad 3)) F hP 0 rfl rfl inX8_told_X8 1 (by decide) (List.mem_of_getElem? (i := 3) rfl) rfl dX8_told_96 ?_
                refine g_get (ci := 0) (C := RX0) (T := TX0) (N := 13) (v := .int h.2.2.2.2.2.2.2.2.2.2.2) F hP 3 rfl rfl inX8_told_X0 11 (by decide) (List.mem_of_getElem? (i := 10) rfl) rfl dX8_told_99 ?_
                exact ret_i hx hb hr hlk dX8_told_102 (some_u hM) hP hS
              · have hM := if_nn hc6 hM
                have hn0 := lv_neT hc0 (a := 0) (by decide)
                have hn1 := lv_neT hc1 (a := 1) (by decide)
                have hn2 := lv_neT hc2 (a := 2) (by decide)
                have hn3 := lv_neT hc3 (a := 3) (by decide)
                have hn4 := lv_neT hc4 (a := 4) (by decide)
                have hn5 := lv_neT hc5 (a := 5) (by decide)
                have hn6 := lv_neT hc6 (a := 6) (by decide)
                refine lv_tableOut (tgt := 103) hx hb dX8_told_1 (by omega) (by decide) ?_
                refine lv_iload_n hx hb dX8_told_103 rfl (lv_at hl 1 rfl) ?_
                refine lv_bipush (v := 10) hx hb dX8_told_104 (by decide) ?_
                refine lv_icmp_ge (tgt := 114) hx hb dX8_told_106 (by decide) (fun hc => ?_) (fun hc => ?_)
                · have hM := if_pp hc hM
                  refine lv_aload_n hx hb dX8_told_114 rfl (lv_at hl 0 rfl) ?_
                  refine lv_iload_n hx hb dX8_told_115 rfl (lv_at hl 1 rfl) ?_
                  refine lv_bipush (v := 10) hx hb dX8_told_116 (by decide) ?_
                  obtain ⟨hne, hM⟩ := if_ok hM
                  refine lv_idiv hx hb dX8_told_118 hne ?_
                  refine lv_iconst (v := 1) hx hb dX8_told_119 (by decide) ?_
                  refine lv_isub hx hb dX8_told_120 ?_
                  refine lv_iload_n hx hb dX8_told_121 rfl (lv_at hl 1 rfl) ?_
                  refine lv_bipush (v := 10) hx hb dX8_told_122 (by decide) ?_
                  obtain ⟨hne, hM⟩ := if_ok hM
                  refine lv_irem hx hb dX8_told_124 hne ?_
                  obtain ⟨z125, hcr, hM⟩ := ob_s hM
                  refine res_i0 F hP hS rfl [0, 1, 2, 3, 4, 5, 6, 7, 8, 9, 10, 11, 12, 13, 14, 15, 16, 17, 18, 19, 20, 21, 22, 23, 24, 25, 26, 27, 28, 29, 30] rfl rfl (runV_of (n := 2) (As := [.int ((x1 / (10 : Int32)) - (1 : Int32)), .int (x1 - x1 / (10 : Int32) * (10 : Int32))]) (rest := []) F hP hS rfl [0, 1, 2, 3, 4, 5, 6, 7, 8, 9, 10, 11, 12, 13, 14, 15, 16, 17, 18, 19, 20, 21, 22, 23, 24, 25, 26, 27, 28, 29, 30] rfl rfl (c_X8_toldOfWatcher l dC dI cI cC cZ sa ad p h v k1 h1 v1 k2 h2 v2 r d y q ((x1 / (10 : Int32)) - (1 : Int32)) (x1 - x1 / (10 : Int32) * (10 : Int32)) hcr _) gX8_told_X8_toldOfWatcher rfl (by decide +kernel) ⟨Nat.le_of_ble_eq_true rfl, Nat.le_of_ble_eq_true rfl⟩ 0 8 rfl rfl rfl hl.1 rfl (Nat.le_of_ble_eq_true rfl) dX8_told_125 ⟨Nat.zero_le _, Nat.zero_le _⟩) (fun H locs hP hS => ?_)
                  exact ret_i hx hb hr hlk dX8_told_128 (some_u hM) hP hS
                · have hM := if_nn hc hM
                  refine lv_bipush (v := -2) hx hb dX8_told_109 (by decide) ?_
                  refine lv_goto (tgt := 128) hx hb dX8_told_111 (by decide) ?_
                  exact ret_i hx hb hr hlk dX8_told_128 (some_u hM) hP hS
