/-! Walks, printed by wip/whole/gen.py -/
theorem inX3_answer_X3 : ∀ w ∈ wsX30, w ∈ wsX3_answer := fun w h => List.mem_cons_of_mem _ (List.mem_append_right _ h)
set_option maxHeartbeats 4000000 in
set_option maxRecDepth 100000 in
theorem c_X3_answer (l : Launch) (dC : Nat → ClassId) (dI : Nat → Nat → Nat) (cI cC cZ : ClassId) (sa : Nat → Nat) (d0 : Nat) (d : DT) (x1 : Int32) {res : Int32} (hM : M_X3_answer d x1 = some res) : CTi l (dC, dI) [(cI, .int), (cC, .char), (cZ, .boolean)] sa yX3_answer wsX3_answer (rmd 1) [.ref d0, .int x1] (wVer d0 d) (fun (_ : Unit) => (wVer d0 d)) (res, ()) := by
  refine CTi.enter (own := RX3) (cc := cX3_answer) (maxL := 2) (ret := (some .int)) (by decide) rfl rfl (Nat.le_of_ble_eq_true rfl) ?_
  intro pr e s m below meth c A F hr hlk hP hS ls hl
  obtain ⟨⟨hx, hb, hml, hown, hts⟩, hK, hDD, hA, hKC⟩ := id F
  have hl : lv_has ls 2 [(0, .ref d0), (1, .int x1)] := hl
  have hP : va_P (dC, dI) vwCl (wVer d0 d) s.heap := hP
  unfold M_X3_answer at hM
  refine lv_iload_n hx hb dX3_answer_0 rfl (lv_at hl 1 rfl) ?_
  by_cases hc1 : x1 = (1 : Int32)
  · have hM := if_pp hc1 hM
    refine lv_tableIn (off := 31) (tgt := 32) hx hb dX3_answer_1 (by rw [hc1]; decide) (by rw [hc1]; decide) (by rw [hc1]; rfl) (by decide) ?_
    refine lv_aload_n hx hb dX3_answer_32 rfl (lv_at hl 0 rfl) ?_
    refine g_get (ci := 3) (C := RX3) (T := TX3) (N := 7) (v := .int d.2.1) F hP 0 rfl rfl inX3_answer_X3 1 (by decide) (List.mem_of_getElem? (i := 1) rfl) rfl dX3_answer_33 ?_
    exact ret_i hx hb hr hlk dX3_answer_36 (some_u hM) hP hS
  · have hM := if_nn hc1 hM
    by_cases hc2 : x1 = (2 : Int32)
    · have hM := if_pp hc2 hM
      refine lv_tableIn (off := 36) (tgt := 37) hx hb dX3_answer_1 (by rw [hc2]; decide) (by rw [hc2]; decide) (by rw [hc2]; rfl) (by decide) ?_
      refine lv_aload_n hx hb dX3_answer_37 rfl (lv_at hl 0 rfl) ?_
      refine g_get (ci := 3) (C := RX3) (T := TX3) (N := 7) (v := .int d.2.2.1) F hP 0 rfl rfl inX3_answer_X3 2 (by decide) (List.mem_of_getElem? (i := 2) rfl) rfl dX3_answer_38 ?_
      exact ret_i hx hb hr hlk dX3_answer_41 (some_u hM) hP hS
    · have hM := if_nn hc2 hM
      by_cases hc3 : x1 = (3 : Int32)
      · have hM := if_pp hc3 hM
        refine lv_tableIn (off := 41) (tgt := 42) hx hb dX3_answer_1 (by rw [hc3]; decide) (by rw [hc3]; decide) (by rw [hc3]; rfl) (by decide) ?_
        refine lv_aload_n hx hb dX3_answer_42 rfl (lv_at hl 0 rfl) ?_
        refine g_get (ci := 3) (C := RX3) (T := TX3) (N := 7) (v := .int d.2.2.2.1) F hP 0 rfl rfl inX3_answer_X3 3 (by decide) (List.mem_of_getElem? (i := 3) rfl) rfl dX3_answer_43 ?_
        exact ret_i hx hb hr hlk dX3_answer_46 (some_u hM) hP hS
      · have hM := if_nn hc3 hM
        by_cases hc4 : x1 = (4 : Int32)
        · have hM := if_pp hc4 hM
          refine lv_tableIn (off := 46) (tgt := 47) hx hb dX3_answer_1 (by rw [hc4]; decide) (by rw [hc4]; decide) (by rw [hc4]; rfl) (by decide) ?_
          refine lv_aload_n hx hb dX3_answer_47 rfl (lv_at hl 0 rfl) ?_
          refine g_get (ci := 3) (C := RX3) (T := TX3) (N := 7) (v := .int d.2.2.2.2.1) F hP 0 rfl rfl inX3_answer_X3 4 (by decide) (List.mem_of_getElem? (i := 4) rfl) rfl dX3_answer_48 ?_
          exact ret_i hx hb hr hlk dX3_answer_51 (some_u hM) hP hS
        · have hM := if_nn hc4 hM
          have hn1 := lv_neT hc1 (a := 1) (by decide)
          have hn2 := lv_neT hc2 (a := 2) (by decide)
          have hn3 := lv_neT hc3 (a := 3) (by decide)
          have hn4 := lv_neT hc4 (a := 4) (by decide)
          refine lv_tableOut (tgt := 52) hx hb dX3_answer_1 (by omega) (by decide) ?_
          refine lv_aload_n hx hb dX3_answer_52 rfl (lv_at hl 0 rfl) ?_
          refine g_get (ci := 3) (C := RX3) (T := TX3) (N := 7) (v := .int d.2.2.2.2.2.2) F hP 0 rfl rfl inX3_answer_X3 6 (by decide) (List.mem_of_getElem? (i := 5) rfl) rfl dX3_answer_53 ?_
          exact ret_i hx hb hr hlk dX3_answer_56 (some_u hM) hP hS
theorem inX3_forget_X3 : ∀ w ∈ wsX30, w ∈ wsX3_forget := fun w h => List.mem_cons_of_mem _ (List.mem_append_right _ h)
set_option maxHeartbeats 4000000 in
set_option maxRecDepth 100000 in
theorem c_X3_forget (l : Launch) (dC : Nat → ClassId) (dI : Nat → Nat → Nat) (cI cC cZ : ClassId) (sa : Nat → Nat) (d0 : Nat) (d : DT)  {res : DT} (hM : M_X3_forget d = some res) : CTv l (dC, dI) [(cI, .int), (cC, .char), (cZ, .boolean)] sa yX3_forget wsX3_forget (rmd 1) [.ref d0] (wVer d0 d) (fun (uu : DT) => (wVer d0 uu)) res := by
  refine CTv.enter (own := RX3) (cc := cX3_forget) (maxL := 1) (ret := none) (by decide) rfl rfl (Nat.le_of_ble_eq_true rfl) ?_
  intro pr e s m below meth c A F hr hlk hP hS ls hl
  obtain ⟨⟨hx, hb, hml, hown, hts⟩, hK, hDD, hA, hKC⟩ := id F
  have hl : lv_has ls 1 [(0, .ref d0)] := hl
  have hP : va_P (dC, dI) vwCl (wVer d0 d) s.heap := hP
  unfold M_X3_forget at hM
  refine lv_aload_n hx hb dX3_forget_0 rfl (lv_at hl 0 rfl) ?_
  refine lv_bipush (v := -6) hx hb dX3_forget_1 (by decide) ?_
  refine g_put (ws' := (wVer d0 ((-6 : Int32), d.2.1, d.2.2.1, d.2.2.2.1, d.2.2.2.2.1, d.2.2.2.2.2.1, d.2.2.2.2.2.2))) (ci := 3) (C := RX3) (T := TX3) (N := 7) (v := .int (-6 : Int32)) (ty := .int) F hP hS rfl tyX3 tyX3_ok nmX3 0 rfl rfl inX3_forget_X3 0 (by decide) (List.mem_of_getElem? (i := 1) rfl) rfl (by decide +kernel) rfl rfl (Nat.le_of_ble_eq_true rfl) dX3_forget_3 rfl (fun H locs hP hS => ?_)
  refine lv_aload_n hx hb dX3_forget_6 rfl (lv_at hl 0 rfl) ?_
  refine lv_bipush (v := -6) hx hb dX3_forget_7 (by decide) ?_
  refine g_put (ws' := (wVer d0 ((-6 : Int32), (-6 : Int32), d.2.2.1, d.2.2.2.1, d.2.2.2.2.1, d.2.2.2.2.2.1, d.2.2.2.2.2.2))) (ci := 3) (C := RX3) (T := TX3) (N := 7) (v := .int (-6 : Int32)) (ty := .int) F hP hS rfl tyX3 tyX3_ok nmX3 0 rfl rfl inX3_forget_X3 1 (by decide) (List.mem_of_getElem? (i := 2) rfl) rfl (by decide +kernel) rfl rfl (Nat.le_of_ble_eq_true rfl) dX3_forget_9 rfl (fun H locs hP hS => ?_)
  refine lv_aload_n hx hb dX3_forget_12 rfl (lv_at hl 0 rfl) ?_
  refine lv_bipush (v := -6) hx hb dX3_forget_13 (by decide) ?_
  refine g_put (ws' := (wVer d0 ((-6 : Int32), (-6 : Int32), (-6 : Int32), d.2.2.2.1, d.2.2.2.2.1, d.2.2.2.2.2.1, d.2.2.2.2.2.2))) (ci := 3) (C := RX3) (T := TX3) (N := 7) (v := .int (-6 : Int32)) (ty := .int) F hP hS rfl tyX3 tyX3_ok nmX3 0 rfl rfl inX3_forget_X3 2 (by decide) (List.mem_of_getElem? (i := 3) rfl) rfl (by decide +kernel) rfl rfl (Nat.le_of_ble_eq_true rfl) dX3_forget_15 rfl (fun H locs hP hS => ?_)
  refine lv_aload_n hx hb dX3_forget_18 rfl (lv_at hl 0 rfl) ?_
  refine lv_bipush (v := -6) hx hb dX3_forget_19 (by decide) ?_
  refine g_put (ws' := (wVer d0 ((-6 : Int32), (-6 : Int32), (-6 : Int32), (-6 : Int32), d.2.2.2.2.1, d.2.2.2.2.2.1, d.2.2.2.2.2.2))) (ci := 3) (C := RX3) (T := TX3) (N := 7) (v := .int (-6 : Int32)) (ty := .int) F hP hS rfl tyX3 tyX3_ok nmX3 0 rfl rfl inX3_forget_X3 3 (by decide) (List.mem_of_getElem? (i := 4) rfl) rfl (by decide +kernel) rfl rfl (Nat.le_of_ble_eq_true rfl) dX3_forget_21 rfl (fun H locs hP hS => ?_)
  refine lv_aload_n hx hb dX3_forget_24 rfl (lv_at hl 0 rfl) ?_
  refine lv_iconst (v := 0) hx hb dX3_forget_25 (by decide) ?_
  refine g_put (ws' := (wVer d0 ((-6 : Int32), (-6 : Int32), (-6 : Int32), (-6 : Int32), (0 : Int32), d.2.2.2.2.2.1, d.2.2.2.2.2.2))) (ci := 3) (C := RX3) (T := TX3) (N := 7) (v := .int (0 : Int32)) (ty := .int) F hP hS rfl tyX3 tyX3_ok nmX3 0 rfl rfl inX3_forget_X3 4 (by decide) (List.mem_of_getElem? (i := 5) rfl) rfl (by decide +kernel) rfl rfl (Nat.le_of_ble_eq_true rfl) dX3_forget_26 rfl (fun H locs hP hS => ?_)
  refine lv_aload_n hx hb dX3_forget_29 rfl (lv_at hl 0 rfl) ?_
  refine lv_iconst (v := 0) hx hb dX3_forget_30 (by decide) ?_
  refine g_put (ws' := (wVer d0 ((-6 : Int32), (-6 : Int32), (-6 : Int32), (-6 : Int32), (0 : Int32), (0 : Int32), d.2.2.2.2.2.2))) (ci := 3) (C := RX3) (T := TX3) (N := 7) (v := .int (0 : Int32)) (ty := .int) F hP hS rfl tyX3 tyX3_ok nmX3 0 rfl rfl inX3_forget_X3 5 (by decide) (List.mem_of_getElem? (i := 6) rfl) rfl (by decide +kernel) rfl rfl (Nat.le_of_ble_eq_true rfl) dX3_forget_31 rfl (fun H locs hP hS => ?_)
  refine lv_aload_n hx hb dX3_forget_34 rfl (lv_at hl 0 rfl) ?_
  refine lv_bipush (v := -6) hx hb dX3_forget_35 (by decide) ?_
  refine g_put (ws' := (wVer d0 ((-6 : Int32), (-6 : Int32), (-6 : Int32), (-6 : Int32), (0 : Int32), (0 : Int32), (-6 : Int32)))) (ci := 3) (C := RX3) (T := TX3) (N := 7) (v := .int (-6 : Int32)) (ty := .int) F hP hS rfl tyX3 tyX3_ok nmX3 0 rfl rfl inX3_forget_X3 6 (by decide) (List.mem_of_getElem? (i := 7) rfl) rfl (by decide +kernel) rfl rfl (Nat.le_of_ble_eq_true rfl) dX3_forget_37 rfl (fun H locs hP hS => ?_)
  exact ret_v hx hb hr hlk dX3_forget_40 hM hP hS
theorem inX6_begin_X0 : ∀ w ∈ wsX00, w ∈ wsX6_begin := fun w h => List.mem_cons_of_mem _ (List.mem_append_left _ (List.mem_append_left _ (List.mem_append_right _ h)))
theorem inX6_begin_X4 : ∀ w ∈ wsX40, w ∈ wsX6_begin := fun w h => List.mem_cons_of_mem _ (List.mem_append_right _ h)
theorem inX6_begin_X6 : ∀ w ∈ wsX60, w ∈ wsX6_begin := fun w h => List.mem_cons_of_mem _ (List.mem_append_left _ (List.mem_append_right _ h))
set_option maxHeartbeats 4000000 in
set_option maxRecDepth 100000 in
theorem c_X6_begin (l : Launch) (dC : Nat → ClassId) (dI : Nat → Nat → Nat) (cI cC cZ : ClassId) (sa : Nat → Nat) (r0 r1 r2 r3 h0 v0 v1 v2 v3 : Nat) (r : RT) (h : HT) (v : VT)  {res : RT} (hM : M_X6_begin r h v = some res) : CTv l (dC, dI) [(cI, .int), (cC, .char), (cZ, .boolean)] sa yX6_begin wsX6_begin (rmd 4) [.ref r0, .ref h0] (wWea cI r0 r1 r2 r3 r ++ wHouse cI h0 v0 v1 v2 v3 h v) (fun (uu : RT) => (wWea cI r0 r1 r2 r3 uu ++ wHouse cI h0 v0 v1 v2 v3 h v)) res := by
  refine CTv.enter (own := RX6) (cc := cX6_begin) (maxL := 4) (ret := none) (by decide) rfl rfl (Nat.le_of_ble_eq_true rfl) ?_
  intro pr e s m below meth c A F hr hlk hP hS ls hl
  obtain ⟨⟨hx, hb, hml, hown, hts⟩, hK, hDD, hA, hKC⟩ := id F
  have hl : lv_has ls 4 [(0, .ref r0), (1, .ref h0)] := hl
  have hP : va_P (dC, dI) vwCl (wWea cI r0 r1 r2 r3 r ++ wHouse cI h0 v0 v1 v2 v3 h v) s.heap := hP
  unfold M_X6_begin at hM
  refine kloop (α := RT × Int32) (res := res) (fun k a => M_X6_begin_26 h v k a) (fun rec a => M_X6_begin_26b h v rec a) (fun _ => rfl) (fun _ _ => rfl) F (fun a => (wWea cI r0 r1 r2 r3 a.1 ++ wHouse cI h0 v0 v1 v2 v3 h v)) (fun a => [(0, .ref r0), (1, .ref h0), (2, .int a.2)]) (fun a => []) 26 ?_ (fun j26 => ?_)
  · intro rc26 ih26 a26 H locs ls hP hS hl hM
    unfold M_X6_begin_26b at hM
    refine kblk (α := RT × Int32 × Int32 × Int32) (res := res) (fun a => M_X6_begin_102 h v rc26 a) F (fun a => (wWea cI r0 r1 r2 r3 a.1 ++ wHouse cI h0 v0 v1 v2 v3 h v)) (fun a => [(0, .ref r0), (1, .ref h0), (2, .int a.2.1)]) (fun a => [.int a.2.2.1, .int a.2.2.2, .ref r3]) 102 ?_ (fun j102 => ?_)
    · intro a102 H locs ls hP hS hl hM
      unfold M_X6_begin_102 at hM
      obtain ⟨z102, hcr, hM⟩ := ob_s hM
      refine res_v (ws' := (wWea cI r0 r1 r2 r3 (a102.1.1, a102.1.2.1, a102.1.2.2.1, a102.1.2.2.2.1, a102.1.2.2.2.2.1, z102) ++ wHouse cI h0 v0 v1 v2 v3 h v)) F hP hS rfl [3] rfl rfl (runN_of (n := 3) (As := [.ref r3, .int a102.2.2.2, .int a102.2.2.1]) (rest := []) F hP hS rfl [3] rfl rfl (c_X8_put l dC dI cI cC cZ sa r3 4 a102.1.2.2.2.2.2 a102.2.2.2 a102.2.2.1 hcr _) gX6_begin_X8_put_n56 rfl 18 rfl (hts _ (List.mem_of_getElem? (i := 12) rfl)) (hts _ (List.mem_of_getElem? (i := 47) rfl)) (by decide +kernel) ⟨Nat.le_of_ble_eq_true rfl, Nat.le_of_ble_eq_true rfl⟩ rfl hl.1 rfl (Nat.le_of_ble_eq_true rfl) dX6_begin_102 ⟨Nat.zero_le _, Nat.zero_le _⟩) (rep_pt rfl rfl rfl) (fun H locs hP hS => ?_)
      refine lv_iinc (v := (a102.2.1 + (1 : Int32))) (lv' := [(2, .int (a102.2.1 + (1 : Int32))), (0, .ref r0), (1, .ref h0)]) hx hb dX6_begin_105 hl (k := 2) rfl rfl (by decide) rfl (fun ls hl => ?_)
      refine lv_goto (tgt := 26) hx hb dX6_begin_108 (by decide) ?_
      exact ih26 ((a102.1.1, a102.1.2.1, a102.1.2.2.1, a102.1.2.2.2.1, a102.1.2.2.2.2.1, z102), (a102.2.1 + (1 : Int32))) _ _ _ hP hS (lv_sub hl [1, 2, 0] rfl) hM
    refine lv_iload_n hx hb dX6_begin_26 rfl (lv_at hl 2 rfl) ?_
    refine lv_aload_n hx hb dX6_begin_27 rfl (lv_at hl 1 rfl) ?_
    refine g_get (ci := 0) (C := RX0) (T := TX0) (N := 13) (v := .ref v0) F hP 4 rfl rfl inX6_begin_X0 12 (by decide) (List.mem_of_getElem? (i := 5) rfl) rfl dX6_begin_28 ?_
    refine g_get (ci := 4) (C := RX4) (T := TX4) (N := 4) (v := .int v.1) F hP 5 rfl rfl inX6_begin_X4 3 (by decide) (List.mem_of_getElem? (i := 6) rfl) rfl dX6_begin_31 ?_
    refine lv_icmp_ge (tgt := 111) hx hb dX6_begin_34 (by decide) (fun hc => ?_) (fun hc => ?_)
    · have hM := if_pp hc hM
      exact ret_v hx hb hr hlk dX6_begin_111 hM hP hS
    · have hM := if_nn hc hM
      refine lv_aload_n hx hb dX6_begin_37 rfl (lv_at hl 1 rfl) ?_
      refine g_get (ci := 0) (C := RX0) (T := TX0) (N := 13) (v := .ref v0) F hP 4 rfl rfl inX6_begin_X0 12 (by decide) (List.mem_of_getElem? (i := 5) rfl) rfl dX6_begin_38 ?_
      refine lv_iload_n hx hb dX6_begin_41 rfl (lv_at hl 2 rfl) ?_
      obtain ⟨z42, hcr, hM⟩ := ob_s hM
      refine res_i0 F hP hS rfl [5, 6, 7, 8] rfl rfl (runV_of (n := 1) (As := [.int a26.2]) (rest := []) F hP hS rfl [5, 6, 7, 8] rfl rfl (c_X4_cellOfOne l dC dI cI cC cZ sa v0 v1 v2 v3 v a26.2 hcr _) gX6_begin_X4_cellOfOne rfl (by decide +kernel) ⟨Nat.le_of_ble_eq_true rfl, Nat.le_of_ble_eq_true rfl⟩ 5 4 rfl rfl rfl hl.1 rfl (Nat.le_of_ble_eq_true rfl) dX6_begin_42 ⟨Nat.zero_le _, Nat.zero_le _⟩) (fun H locs hP hS => ?_)
      refine lv_istore_n (lv' := [(3, .int z42), (0, .ref r0), (1, .ref h0), (2, .int a26.2)]) hx hb dX6_begin_45 rfl hl (by decide) rfl (fun ls hl => ?_)
      refine lv_aload_n hx hb dX6_begin_46 rfl (lv_at hl 1 rfl) ?_
      refine g_get (ci := 6) (C := RX6) (T := TX6) (N := 6) (v := .ref r1) F hP 0 rfl rfl inX6_begin_X6 0 (by decide) (List.mem_of_getElem? (i := 7) rfl) rfl dX6_begin_47 ?_
      refine lv_iload_n hx hb dX6_begin_50 rfl (lv_at hl 3 rfl) ?_
      refine lv_aload_n hx hb dX6_begin_51 rfl (lv_at hl 2 rfl) ?_
      refine lv_iload_n hx hb dX6_begin_52 rfl (lv_at hl 3 rfl) ?_
      obtain ⟨z53, hcr, hM⟩ := ob_s hM
      refine res_i0 F hP hS rfl [4, 5, 6, 7, 8] rfl rfl (runV_of (n := 1) (As := [.int a26.2]) (rest := [.int a26.2, .ref r1]) F hP hS rfl [4, 5, 6, 7, 8] rfl rfl (c_X0_seenBy l dC dI cI cC cZ sa h0 v0 v1 v2 v3 h v a26.2 hcr _) gX6_begin_X0_seenBy rfl (by decide +kernel) ⟨Nat.le_of_ble_eq_true rfl, Nat.le_of_ble_eq_true rfl⟩ 4 0 rfl rfl rfl hl.1 rfl (Nat.le_of_ble_eq_true rfl) dX6_begin_53 ⟨Nat.zero_le _, Nat.zero_le _⟩) (fun H locs hP hS => ?_)
      obtain ⟨z56, hcr, hM⟩ := ob_s hM
      refine res_v (ws' := (wWea cI r0 r1 r2 r3 (a26.1.1, a26.1.2.1, a26.1.2.2.1, z56, a26.1.2.2.2.2.1, a26.1.2.2.2.2.2) ++ wHouse cI h0 v0 v1 v2 v3 h v)) F hP hS rfl [1] rfl rfl (runN_of (n := 3) (As := [.ref r1, .int a26.2, .int z53]) (rest := []) F hP hS rfl [1] rfl rfl (c_X8_put l dC dI cI cC cZ sa r1 4 a26.1.2.2.2.1 a26.2 z53 hcr _) gX6_begin_X8_put_n56 rfl 18 rfl (hts _ (List.mem_of_getElem? (i := 12) rfl)) (hts _ (List.mem_of_getElem? (i := 47) rfl)) (by decide +kernel) ⟨Nat.le_of_ble_eq_true rfl, Nat.le_of_ble_eq_true rfl⟩ rfl hl.1 rfl (Nat.le_of_ble_eq_true rfl) dX6_begin_56 ⟨Nat.zero_le _, Nat.zero_le _⟩) (rep_pt rfl rfl rfl) (fun H locs hP hS => ?_)
      refine lv_aload_n hx hb dX6_begin_59 rfl (lv_at hl 1 rfl) ?_
      refine g_get (ci := 6) (C := RX6) (T := TX6) (N := 6) (v := .ref r2) F hP 0 rfl rfl inX6_begin_X6 1 (by decide) (List.mem_of_getElem? (i := 8) rfl) rfl dX6_begin_60 ?_
      refine lv_iload_n hx hb dX6_begin_63 rfl (lv_at hl 3 rfl) ?_
      refine lv_aload_n hx hb dX6_begin_64 rfl (lv_at hl 2 rfl) ?_
      refine lv_iload_n hx hb dX6_begin_65 rfl (lv_at hl 0 rfl) ?_
      refine lv_aload_n hx hb dX6_begin_66 rfl (lv_at hl 2 rfl) ?_
      refine g_get (ci := 0) (C := RX0) (T := TX0) (N := 13) (v := .int h.2.2.2.2.2.2.2.2.2.2.2) F hP 4 rfl rfl inX6_begin_X0 11 (by decide) (List.mem_of_getElem? (i := 9) rfl) rfl dX6_begin_67 ?_
      obtain ⟨z70, hcr, hM⟩ := ob_s hM
      refine res_i0 F hP hS rfl [4, 5, 6, 7, 8] rfl rfl (runV_of (n := 2) (As := [.int z42, .int h.2.2.2.2.2.2.2.2.2.2.2]) (rest := [.int a26.2, .ref r2]) F hP hS rfl [4, 5, 6, 7, 8] rfl rfl (c_X0_around l dC dI cI cC cZ sa h0 v0 v1 v2 v3 h v z42 h.2.2.2.2.2.2.2.2.2.2.2 hcr _) gX6_begin_X0_around rfl (by decide +kernel) ⟨Nat.le_of_ble_eq_true rfl, Nat.le_of_ble_eq_true rfl⟩ 4 0 rfl rfl rfl hl.1 rfl (Nat.le_of_ble_eq_true rfl) dX6_begin_70 ⟨Nat.zero_le _, Nat.zero_le _⟩) (fun H locs hP hS => ?_)
      obtain ⟨z73, hcr, hM⟩ := ob_s hM
      refine res_v (ws' := (wWea cI r0 r1 r2 r3 (a26.1.1, a26.1.2.1, a26.1.2.2.1, z56, z73, a26.1.2.2.2.2.2) ++ wHouse cI h0 v0 v1 v2 v3 h v)) F hP hS rfl [2] rfl rfl (runN_of (n := 3) (As := [.ref r2, .int a26.2, .int z70]) (rest := []) F hP hS rfl [2] rfl rfl (c_X8_put l dC dI cI cC cZ sa r2 4 a26.1.2.2.2.2.1 a26.2 z70 hcr _) gX6_begin_X8_put_n56 rfl 18 rfl (hts _ (List.mem_of_getElem? (i := 12) rfl)) (hts _ (List.mem_of_getElem? (i := 47) rfl)) (by decide +kernel) ⟨Nat.le_of_ble_eq_true rfl, Nat.le_of_ble_eq_true rfl⟩ rfl hl.1 rfl (Nat.le_of_ble_eq_true rfl) dX6_begin_73 ⟨Nat.zero_le _, Nat.zero_le _⟩) (rep_pt rfl rfl rfl) (fun H locs hP hS => ?_)
      refine lv_aload_n hx hb dX6_begin_76 rfl (lv_at hl 1 rfl) ?_
      refine g_get (ci := 6) (C := RX6) (T := TX6) (N := 6) (v := .ref r3) F hP 0 rfl rfl inX6_begin_X6 2 (by decide) (List.mem_of_getElem? (i := 10) rfl) rfl dX6_begin_77 ?_
      refine lv_iload_n hx hb dX6_begin_80 rfl (lv_at hl 3 rfl) ?_
      refine lv_aload_n hx hb dX6_begin_81 rfl (lv_at hl 2 rfl) ?_
      refine g_get (ci := 0) (C := RX0) (T := TX0) (N := 13) (v := .ref v0) F hP 4 rfl rfl inX6_begin_X0 12 (by decide) (List.mem_of_getElem? (i := 5) rfl) rfl dX6_begin_82 ?_
      refine lv_iload_n hx hb dX6_begin_85 rfl (lv_at hl 3 rfl) ?_
      obtain ⟨z86, hcr, hM⟩ := ob_s hM
      refine res_i0 F hP hS rfl [5, 6, 7, 8] rfl rfl (runV_of (n := 1) (As := [.int a26.2]) (rest := [.int a26.2, .ref r3]) F hP hS rfl [5, 6, 7, 8] rfl rfl (c_X4_hasDog l dC dI cI cC cZ sa v0 v1 v2 v3 v a26.2 hcr _) gX6_begin_X4_hasDog rfl (by decide +kernel) ⟨Nat.le_of_ble_eq_true rfl, Nat.le_of_ble_eq_true rfl⟩ 5 4 rfl rfl rfl hl.1 rfl (Nat.le_of_ble_eq_true rfl) dX6_begin_86 ⟨Nat.zero_le _, Nat.zero_le _⟩) (fun H locs hP hS => ?_)
      refine lv_if_eq (tgt := 101) hx hb dX6_begin_89 (by decide) (fun hc => ?_) (fun hc => ?_)
      · have hM := if_pp hc hM
        refine lv_iconst (v := 0) hx hb dX6_begin_101 (by decide) ?_
        exact j102 ((a26.1.1, a26.1.2.1, a26.1.2.2.1, z56, z73, a26.1.2.2.2.2.2), a26.2, (0 : Int32), a26.2) _ _ _ hP hS (lv_sub hl [1, 2, 3] rfl) hM
      · have hM := if_nn hc hM
        refine lv_aload_n hx hb dX6_begin_92 rfl (lv_at hl 2 rfl) ?_
        refine lv_iload_n hx hb dX6_begin_93 rfl (lv_at hl 0 rfl) ?_
        refine lv_iconst (v := 1) hx hb dX6_begin_94 (by decide) ?_
        obtain ⟨z95, hcr, hM⟩ := ob_s hM
        refine res_i0 F hP hS rfl [4, 5, 6, 7, 8] rfl rfl (runV_of (n := 2) (As := [.int z42, .int (1 : Int32)]) (rest := [.int a26.2, .ref r3]) F hP hS rfl [4, 5, 6, 7, 8] rfl rfl (c_X0_around l dC dI cI cC cZ sa h0 v0 v1 v2 v3 h v z42 (1 : Int32) hcr _) gX6_begin_X0_around rfl (by decide +kernel) ⟨Nat.le_of_ble_eq_true rfl, Nat.le_of_ble_eq_true rfl⟩ 4 0 rfl rfl rfl hl.1 rfl (Nat.le_of_ble_eq_true rfl) dX6_begin_95 ⟨Nat.zero_le _, Nat.zero_le _⟩) (fun H locs hP hS => ?_)
        refine lv_goto (tgt := 102) hx hb dX6_begin_98 (by decide) ?_
        exact j102 ((a26.1.1, a26.1.2.1, a26.1.2.2.1, z56, z73, a26.1.2.2.2.2.2), a26.2, z95, a26.2) _ _ _ hP hS (lv_sub hl [1, 2, 3] rfl) hM
  refine lv_aload_n hx hb dX6_begin_0 rfl (lv_at hl 0 rfl) ?_
  refine lv_aload_n hx hb dX6_begin_1 rfl (lv_at hl 1 rfl) ?_
  refine g_get (ci := 0) (C := RX0) (T := TX0) (N := 13) (v := .int h.2.2.2.2.2.2.2.2.2.1) F hP 4 rfl rfl inX6_begin_X0 9 (by decide) (List.mem_of_getElem? (i := 1) rfl) rfl dX6_begin_2 ?_
  obtain ⟨z5, hcr, hM⟩ := ob_s hM
  refine res_i0 F hP hS rfl [] rfl rfl (runN_of (n := 1) (As := [.int h.2.2.2.2.2.2.2.2.2.1]) (rest := [.ref r0]) F hP hS rfl [] rfl rfl (c_X8_bit l dC dI cI cC cZ sa h.2.2.2.2.2.2.2.2.2.1 hcr _) gX6_begin_X8_bit_n27 rfl 17 rfl (hts _ (List.mem_of_getElem? (i := 12) rfl)) (hts _ (List.mem_of_getElem? (i := 11) rfl)) (by decide +kernel) ⟨Nat.le_of_ble_eq_true rfl, Nat.le_of_ble_eq_true rfl⟩ rfl hl.1 rfl (Nat.le_of_ble_eq_true rfl) dX6_begin_5 ⟨Nat.zero_le _, Nat.zero_le _⟩) (fun H locs hP hS => ?_)
  refine g_put (ws' := (wWea cI r0 r1 r2 r3 (z5, r.2.1, r.2.2.1, r.2.2.2.1, r.2.2.2.2.1, r.2.2.2.2.2) ++ wHouse cI h0 v0 v1 v2 v3 h v)) (ci := 6) (C := RX6) (T := TX6) (N := 6) (v := .int z5) (ty := .int) F hP hS rfl tyX6 tyX6_ok nmX6 0 rfl rfl inX6_begin_X6 3 (by decide) (List.mem_of_getElem? (i := 2) rfl) rfl (by decide +kernel) rfl rfl (Nat.le_of_ble_eq_true rfl) dX6_begin_8 rfl (fun H locs hP hS => ?_)
  refine lv_aload_n hx hb dX6_begin_11 rfl (lv_at hl 0 rfl) ?_
  refine lv_aload_n hx hb dX6_begin_12 rfl (lv_at hl 0 rfl) ?_
  refine g_get (ci := 6) (C := RX6) (T := TX6) (N := 6) (v := .int z5) F hP 0 rfl rfl inX6_begin_X6 3 (by decide) (List.mem_of_getElem? (i := 2) rfl) rfl dX6_begin_13 ?_
  refine g_put (ws' := (wWea cI r0 r1 r2 r3 (z5, z5, r.2.2.1, r.2.2.2.1, r.2.2.2.2.1, r.2.2.2.2.2) ++ wHouse cI h0 v0 v1 v2 v3 h v)) (ci := 6) (C := RX6) (T := TX6) (N := 6) (v := .int z5) (ty := .int) F hP hS rfl tyX6 tyX6_ok nmX6 0 rfl rfl inX6_begin_X6 4 (by decide) (List.mem_of_getElem? (i := 3) rfl) rfl (by decide +kernel) rfl rfl (Nat.le_of_ble_eq_true rfl) dX6_begin_16 rfl (fun H locs hP hS => ?_)
  refine lv_aload_n hx hb dX6_begin_19 rfl (lv_at hl 0 rfl) ?_
  refine lv_iconst (v := 0) hx hb dX6_begin_20 (by decide) ?_
  obtain ⟨hnz, hM⟩ := if_ok hM
  refine g_put (ws' := (wWea cI r0 r1 r2 r3 (z5, z5, (0 : Int32), r.2.2.2.1, r.2.2.2.2.1, r.2.2.2.2.2) ++ wHouse cI h0 v0 v1 v2 v3 h v)) (ci := 6) (C := RX6) (T := TX6) (N := 6) (v := .int (0 : Int32)) (ty := .boolean) F hP hS rfl tyX6 tyX6_ok nmX6 0 rfl rfl inX6_begin_X6 5 (by decide) (List.mem_of_getElem? (i := 4) rfl) rfl (by decide +kernel) (nar_z hnz) (fit_z hnz) (Nat.le_of_ble_eq_true rfl) dX6_begin_21 rfl (fun H locs hP hS => ?_)
  refine lv_iconst (v := 0) hx hb dX6_begin_24 (by decide) ?_
  refine lv_istore_n (lv' := [(2, .int (0 : Int32)), (0, .ref r0), (1, .ref h0)]) hx hb dX6_begin_25 rfl hl (by decide) rfl (fun ls hl => ?_)
  exact j26 200 ((z5, z5, (0 : Int32), r.2.2.2.1, r.2.2.2.2.1, r.2.2.2.2.2), (0 : Int32)) _ _ _ hP hS (lv_sub hl [1, 2, 0] rfl) hM
theorem inX6_take_X6 : ∀ w ∈ wsX60, w ∈ wsX6_take := fun w h => List.mem_cons_of_mem _ (List.mem_append_left _ (List.mem_append_right _ h))
set_option maxHeartbeats 4000000 in
set_option maxRecDepth 100000 in
theorem c_X6_take (l : Launch) (dC : Nat → ClassId) (dI : Nat → Nat → Nat) (cI cC cZ : ClassId) (sa : Nat → Nat) (r0 r1 r2 r3 h0 v0 v1 v2 v3 : Nat) (r : RT) (h : HT) (v : VT) (x2 : Int32) {res : Int32 × RT} (hM : M_X6_take r h x2 = some res) : CTi l (dC, dI) [(cI, .int), (cC, .char), (cZ, .boolean)] sa yX6_take wsX6_take (rmd 3) [.ref r0, .ref h0, .int x2] (wWea cI r0 r1 r2 r3 r ++ wHouse cI h0 v0 v1 v2 v3 h v) (fun (uu : RT) => (wWea cI r0 r1 r2 r3 uu ++ wHouse cI h0 v0 v1 v2 v3 h v)) res := by
  refine CTi.enter (own := RX6) (cc := cX6_take) (maxL := 4) (ret := (some .boolean)) (by decide) rfl rfl (Nat.le_of_ble_eq_true rfl) ?_
  intro pr e s m below meth c A F hr hlk hP hS ls hl
  obtain ⟨⟨hx, hb, hml, hown, hts⟩, hK, hDD, hA, hKC⟩ := id F
  have hl : lv_has ls 4 [(0, .ref r0), (1, .ref h0), (2, .int x2)] := hl
  have hP : va_P (dC, dI) vwCl (wWea cI r0 r1 r2 r3 r ++ wHouse cI h0 v0 v1 v2 v3 h v) s.heap := hP
  unfold M_X6_take at hM
  refine kblk (α := RT × Int32 × Int32) (res := res) (fun a => M_X6_take_25 h x2 a) F (fun a => (wWea cI r0 r1 r2 r3 a.1 ++ wHouse cI h0 v0 v1 v2 v3 h v)) (fun a => [(0, .ref r0), (1, .ref h0), (3, .int a.2.1)]) (fun a => [.int a.2.2, .ref r0]) 25 ?_ (fun j25 => ?_)
  · intro a25 H locs ls hP hS hl hM
    unfold M_X6_take_25 at hM
    obtain ⟨hnz, hM⟩ := if_ok hM
    refine g_put (ws' := (wWea cI r0 r1 r2 r3 (a25.1.1, a25.1.2.1, a25.2.2, a25.1.2.2.2.1, a25.1.2.2.2.2.1, a25.1.2.2.2.2.2) ++ wHouse cI h0 v0 v1 v2 v3 h v)) (ci := 6) (C := RX6) (T := TX6) (N := 6) (v := .int a25.2.2) (ty := .boolean) F hP hS rfl tyX6 tyX6_ok nmX6 0 rfl rfl inX6_take_X6 5 (by decide) (List.mem_of_getElem? (i := 2) rfl) rfl (by decide +kernel) (nar_z hnz) (fit_z hnz) (Nat.le_of_ble_eq_true rfl) dX6_take_25 rfl (fun H locs hP hS => ?_)
    refine lv_iload_n hx hb dX6_take_28 rfl (lv_at hl 2 rfl) ?_
    refine lv_if_ne (tgt := 34) hx hb dX6_take_29 (by decide) (fun hc => ?_) (fun hc => ?_)
    · have hM := if_nn hc hM
      refine lv_aload_n hx hb dX6_take_34 rfl (lv_at hl 0 rfl) ?_
      refine lv_iload_n hx hb dX6_take_35 rfl (lv_at hl 2 rfl) ?_
      refine g_put (ws' := (wWea cI r0 r1 r2 r3 (a25.2.1, a25.1.2.1, a25.2.2, a25.1.2.2.2.1, a25.1.2.2.2.2.1, a25.1.2.2.2.2.2) ++ wHouse cI h0 v0 v1 v2 v3 h v)) (ci := 6) (C := RX6) (T := TX6) (N := 6) (v := .int a25.2.1) (ty := .int) F hP hS rfl tyX6 tyX6_ok nmX6 0 rfl rfl inX6_take_X6 3 (by decide) (List.mem_of_getElem? (i := 1) rfl) rfl (by decide +kernel) rfl rfl (Nat.le_of_ble_eq_true rfl) dX6_take_36 rfl (fun H locs hP hS => ?_)
      refine lv_aload_n hx hb dX6_take_39 rfl (lv_at hl 0 rfl) ?_
      refine lv_dup hx hb dX6_take_40 rfl ?_
      refine g_get (ci := 6) (C := RX6) (T := TX6) (N := 6) (v := .int a25.1.2.1) F hP 0 rfl rfl inX6_take_X6 4 (by decide) (List.mem_of_getElem? (i := 3) rfl) rfl dX6_take_41 ?_
      refine lv_iload_n hx hb dX6_take_44 rfl (lv_at hl 2 rfl) ?_
      refine lv_ior hx hb dX6_take_45 ?_
      refine g_put (ws' := (wWea cI r0 r1 r2 r3 (a25.2.1, (a25.1.2.1 ||| a25.2.1), a25.2.2, a25.1.2.2.2.1, a25.1.2.2.2.2.1, a25.1.2.2.2.2.2) ++ wHouse cI h0 v0 v1 v2 v3 h v)) (ci := 6) (C := RX6) (T := TX6) (N := 6) (v := .int (a25.1.2.1 ||| a25.2.1)) (ty := .int) F hP hS rfl tyX6 tyX6_ok nmX6 0 rfl rfl inX6_take_X6 4 (by decide) (List.mem_of_getElem? (i := 3) rfl) rfl (by decide +kernel) rfl rfl (Nat.le_of_ble_eq_true rfl) dX6_take_46 rfl (fun H locs hP hS => ?_)
      refine lv_iconst (v := 1) hx hb dX6_take_49 (by decide) ?_
      exact ret_z hx hb hr hlk dX6_take_50 (by decide) hM hP hS
    · have hM := if_pp hc hM
      refine lv_iconst (v := 0) hx hb dX6_take_32 (by decide) ?_
      exact ret_z hx hb hr hlk dX6_take_33 (by decide) hM hP hS
  refine kblk (α := RT × Int32) (res := res) (fun a => M_X6_take_24 h x2 a) F (fun a => (wWea cI r0 r1 r2 r3 a.1 ++ wHouse cI h0 v0 v1 v2 v3 h v)) (fun a => [(0, .ref r0), (1, .ref h0), (3, .int a.2)]) (fun a => [.ref r0]) 24 ?_ (fun j24 => ?_)
  · intro a24 H locs ls hP hS hl hM
    unfold M_X6_take_24 at hM
    refine lv_iconst (v := 0) hx hb dX6_take_24 (by decide) ?_
    exact j25 (a24.1, a24.2, (0 : Int32)) _ _ _ hP hS (lv_sub hl [0, 1, 2] rfl) hM
  refine lv_aload_n hx hb dX6_take_0 rfl (lv_at hl 1 rfl) ?_
  refine lv_aload_n hx hb dX6_take_1 rfl (lv_at hl 0 rfl) ?_
  refine g_get (ci := 6) (C := RX6) (T := TX6) (N := 6) (v := .int r.1) F hP 0 rfl rfl inX6_take_X6 3 (by decide) (List.mem_of_getElem? (i := 1) rfl) rfl dX6_take_2 ?_
  refine lv_iload_n hx hb dX6_take_5 rfl (lv_at hl 2 rfl) ?_
  obtain ⟨z6, hcr, hM⟩ := ob_s hM
  refine res_i0 F hP hS rfl [4, 5, 6, 7, 8] rfl rfl (runV_of (n := 2) (As := [.int r.1, .int x2]) (rest := []) F hP hS rfl [4, 5, 6, 7, 8] rfl rfl (c_X0_stepTo l dC dI cI cC cZ sa h0 v0 v1 v2 v3 h v r.1 x2 hcr _) gX6_take_X0_stepTo rfl (by decide +kernel) ⟨Nat.le_of_ble_eq_true rfl, Nat.le_of_ble_eq_true rfl⟩ 4 0 rfl rfl rfl hl.1 rfl (Nat.le_of_ble_eq_true rfl) dX6_take_6 ⟨Nat.zero_le _, Nat.zero_le _⟩) (fun H locs hP hS => ?_)
  refine lv_istore_n (lv' := [(3, .int z6), (0, .ref r0), (1, .ref h0), (2, .int x2)]) hx hb dX6_take_9 rfl hl (by decide) rfl (fun ls hl => ?_)
  refine lv_aload_n hx hb dX6_take_10 rfl (lv_at hl 1 rfl) ?_
  refine lv_iload_n hx hb dX6_take_11 rfl (lv_at hl 0 rfl) ?_
  refine lv_if_eq (tgt := 24) hx hb dX6_take_12 (by decide) (fun hc => ?_) (fun hc => ?_)
  · have hM := if_pp hc hM
    exact j24 (r, z6) _ _ _ hP hS (lv_sub hl [1, 2, 0] rfl) hM
  · have hM := if_nn hc hM
    refine lv_iload_n hx hb dX6_take_15 rfl (lv_at hl 3 rfl) ?_
    refine lv_iconst (v := 4) hx hb dX6_take_16 (by decide) ?_
    refine lv_icmp_eq (tgt := 24) hx hb dX6_take_17 (by decide) (fun hc => ?_) (fun hc => ?_)
    · have hM := if_pp hc hM
      exact j24 (r, z6) _ _ _ hP hS (lv_sub hl [1, 2, 0] rfl) hM
    · have hM := if_nn hc hM
      refine lv_iconst (v := 1) hx hb dX6_take_20 (by decide) ?_
      refine lv_goto (tgt := 25) hx hb dX6_take_21 (by decide) ?_
      exact j25 (r, z6, (1 : Int32)) _ _ _ hP hS (lv_sub hl [1, 2, 0] rfl) hM
theorem inX6_reasonTo_X0 : ∀ w ∈ wsX00, w ∈ wsX6_reasonTo := fun w h => List.mem_cons_of_mem _ (List.mem_append_right _ h)
theorem inX6_reasonTo_X6 : ∀ w ∈ wsX60, w ∈ wsX6_reasonTo := fun w h => List.mem_cons_of_mem _ (List.mem_append_left _ (List.mem_append_right _ h))
set_option maxHeartbeats 4000000 in
set_option maxRecDepth 100000 in
theorem c_X6_reasonTo (l : Launch) (dC : Nat → ClassId) (dI : Nat → Nat → Nat) (cI cC cZ : ClassId) (sa : Nat → Nat) (r0 r1 r2 r3 h0 v0 v1 v2 v3 : Nat) (r : RT) (h : HT) (v : VT) (x2 : Int32) (x3 : Int32) {res : Int32} (hM : M_X6_reasonTo r h x2 x3 = some res) : CTi l (dC, dI) [(cI, .int), (cC, .char), (cZ, .boolean)] sa yX6_reasonTo wsX6_reasonTo (rmd 2) [.ref r0, .ref h0, .int x2, .int x3] (wWea cI r0 r1 r2 r3 r ++ wHouse cI h0 v0 v1 v2 v3 h v) (fun (_ : Unit) => (wWea cI r0 r1 r2 r3 r ++ wHouse cI h0 v0 v1 v2 v3 h v)) (res, ()) := by
  refine CTi.enter (own := RX6) (cc := cX6_reasonTo) (maxL := 4) (ret := (some .int)) (by decide) rfl rfl (Nat.le_of_ble_eq_true rfl) ?_
  intro pr e s m below meth c A F hr hlk hP hS ls hl
  obtain ⟨⟨hx, hb, hml, hown, hts⟩, hK, hDD, hA, hKC⟩ := id F
  have hl : lv_has ls 4 [(0, .ref r0), (1, .ref h0), (2, .int x2), (3, .int x3)] := hl
  have hP : va_P (dC, dI) vwCl (wWea cI r0 r1 r2 r3 r ++ wHouse cI h0 v0 v1 v2 v3 h v) s.heap := hP
  unfold M_X6_reasonTo at hM
  refine kblk (α := Unit) (res := res) (fun a => M_X6_reasonTo_64 r h x2 x3 a) F (fun a => (wWea cI r0 r1 r2 r3 r ++ wHouse cI h0 v0 v1 v2 v3 h v)) (fun a => [(0, .ref r0), (1, .ref h0), (2, .int x2)]) (fun a => []) 64 ?_ (fun j64 => ?_)
  · intro a64 H locs ls hP hS hl hM
    unfold M_X6_reasonTo_64 at hM
    refine lv_aload_n hx hb dX6_reasonTo_64 rfl (lv_at hl 0 rfl) ?_
    refine g_get (ci := 6) (C := RX6) (T := TX6) (N := 6) (v := .int r.2.1) F hP 0 rfl rfl inX6_reasonTo_X6 4 (by decide) (List.mem_of_getElem? (i := 7) rfl) rfl dX6_reasonTo_65 ?_
    refine lv_aload_n hx hb dX6_reasonTo_68 rfl (lv_at hl 1 rfl) ?_
    refine g_get (ci := 0) (C := RX0) (T := TX0) (N := 13) (v := .int h.2.2.2.2.2.2.2.2.1) F hP 4 rfl rfl inX6_reasonTo_X0 8 (by decide) (List.mem_of_getElem? (i := 8) rfl) rfl dX6_reasonTo_69 ?_
    refine lv_iand hx hb dX6_reasonTo_72 ?_
    refine lv_aload_n hx hb dX6_reasonTo_73 rfl (lv_at hl 0 rfl) ?_
    refine g_get (ci := 6) (C := RX6) (T := TX6) (N := 6) (v := .ref r1) F hP 0 rfl rfl inX6_reasonTo_X6 0 (by decide) (List.mem_of_getElem? (i := 4) rfl) rfl dX6_reasonTo_74 ?_
    refine lv_iload_n hx hb dX6_reasonTo_77 rfl (lv_at hl 2 rfl) ?_
    obtain ⟨z78, hcr, hM⟩ := ob_s hM
    refine res_i0 F hP hS rfl [1] rfl rfl (runN_of (n := 2) (As := [.ref r1, .int x2]) (rest := [.int (r.2.1 &&& h.2.2.2.2.2.2.2.2.1)]) F hP hS rfl [1] rfl rfl (c_X8_at l dC dI cI cC cZ sa r1 4 r.2.2.2.1 x2 hcr _) gX6_reasonTo_X8_at_n81 rfl 19 rfl (hts _ (List.mem_of_getElem? (i := 11) rfl)) (hts _ (List.mem_of_getElem? (i := 10) rfl)) (by decide +kernel) ⟨Nat.le_of_ble_eq_true rfl, Nat.le_of_ble_eq_true rfl⟩ rfl hl.1 rfl (Nat.le_of_ble_eq_true rfl) dX6_reasonTo_78 ⟨Nat.zero_le _, Nat.zero_le _⟩) (fun H locs hP hS => ?_)
    refine lv_iand hx hb dX6_reasonTo_81 ?_
    refine lv_if_eq (tgt := 87) hx hb dX6_reasonTo_82 (by decide) (fun hc => ?_) (fun hc => ?_)
    · have hM := if_pp hc hM
      refine lv_aload_n hx hb dX6_reasonTo_87 rfl (lv_at hl 0 rfl) ?_
      refine g_get (ci := 6) (C := RX6) (T := TX6) (N := 6) (v := .int r.1) F hP 0 rfl rfl inX6_reasonTo_X6 3 (by decide) (List.mem_of_getElem? (i := 2) rfl) rfl dX6_reasonTo_88 ?_
      refine lv_aload_n hx hb dX6_reasonTo_91 rfl (lv_at hl 0 rfl) ?_
      refine g_get (ci := 6) (C := RX6) (T := TX6) (N := 6) (v := .ref r3) F hP 0 rfl rfl inX6_reasonTo_X6 2 (by decide) (List.mem_of_getElem? (i := 9) rfl) rfl dX6_reasonTo_92 ?_
      refine lv_iload_n hx hb dX6_reasonTo_95 rfl (lv_at hl 2 rfl) ?_
      obtain ⟨z96, hcr, hM⟩ := ob_s hM
      refine res_i0 F hP hS rfl [3] rfl rfl (runN_of (n := 2) (As := [.ref r3, .int x2]) (rest := [.int r.1]) F hP hS rfl [3] rfl rfl (c_X8_at l dC dI cI cC cZ sa r3 4 r.2.2.2.2.2 x2 hcr _) gX6_reasonTo_X8_at_n81 rfl 19 rfl (hts _ (List.mem_of_getElem? (i := 11) rfl)) (hts _ (List.mem_of_getElem? (i := 10) rfl)) (by decide +kernel) ⟨Nat.le_of_ble_eq_true rfl, Nat.le_of_ble_eq_true rfl⟩ rfl hl.1 rfl (Nat.le_of_ble_eq_true rfl) dX6_reasonTo_96 ⟨Nat.zero_le _, Nat.zero_le _⟩) (fun H locs hP hS => ?_)
      refine lv_iand hx hb dX6_reasonTo_99 ?_
      refine lv_if_eq (tgt := 107) hx hb dX6_reasonTo_100 (by decide) (fun hc => ?_) (fun hc => ?_)
      · have hM := if_pp hc hM
        refine lv_iconst (v := 0) hx hb dX6_reasonTo_107 (by decide) ?_
        exact ret_i hx hb hr hlk dX6_reasonTo_108 (some_u hM) hP hS
      · have hM := if_nn hc hM
        refine lv_iconst (v := 4) hx hb dX6_reasonTo_103 (by decide) ?_
        refine lv_goto (tgt := 108) hx hb dX6_reasonTo_104 (by decide) ?_
        exact ret_i hx hb hr hlk dX6_reasonTo_108 (some_u hM) hP hS
    · have hM := if_nn hc hM
      refine lv_iconst (v := 3) hx hb dX6_reasonTo_85 (by decide) ?_
      exact ret_i hx hb hr hlk dX6_reasonTo_86 (some_u hM) hP hS
  refine kblk (α := Unit) (res := res) (fun a => M_X6_reasonTo_34 r h x2 x3 a) F (fun a => (wWea cI r0 r1 r2 r3 r ++ wHouse cI h0 v0 v1 v2 v3 h v)) (fun a => [(0, .ref r0), (1, .ref h0), (2, .int x2)]) (fun a => []) 34 ?_ (fun j34 => ?_)
  · intro a34 H locs ls hP hS hl hM
    unfold M_X6_reasonTo_34 at hM
    refine lv_aload_n hx hb dX6_reasonTo_34 rfl (lv_at hl 0 rfl) ?_
    refine g_get (ci := 6) (C := RX6) (T := TX6) (N := 6) (v := .int r.2.2.1) F hP 0 rfl rfl inX6_reasonTo_X6 5 (by decide) (List.mem_of_getElem? (i := 1) rfl) rfl dX6_reasonTo_35 ?_
    refine lv_if_eq (tgt := 64) hx hb dX6_reasonTo_38 (by decide) (fun hc => ?_) (fun hc => ?_)
    · have hM := if_pp hc hM
      exact j64 () _ _ _ hP hS (lv_sub hl [0, 1, 2] rfl) hM
    · have hM := if_nn hc hM
      refine lv_aload_n hx hb dX6_reasonTo_41 rfl (lv_at hl 0 rfl) ?_
      refine g_get (ci := 6) (C := RX6) (T := TX6) (N := 6) (v := .int r.1) F hP 0 rfl rfl inX6_reasonTo_X6 3 (by decide) (List.mem_of_getElem? (i := 2) rfl) rfl dX6_reasonTo_42 ?_
      refine lv_aload_n hx hb dX6_reasonTo_45 rfl (lv_at hl 1 rfl) ?_
      refine g_get (ci := 0) (C := RX0) (T := TX0) (N := 13) (v := .int h.2.2.2.2.2.2.2.1) F hP 4 rfl rfl inX6_reasonTo_X0 7 (by decide) (List.mem_of_getElem? (i := 5) rfl) rfl dX6_reasonTo_46 ?_
      refine lv_iand hx hb dX6_reasonTo_49 ?_
      refine lv_aload_n hx hb dX6_reasonTo_50 rfl (lv_at hl 0 rfl) ?_
      refine g_get (ci := 6) (C := RX6) (T := TX6) (N := 6) (v := .ref r2) F hP 0 rfl rfl inX6_reasonTo_X6 1 (by decide) (List.mem_of_getElem? (i := 6) rfl) rfl dX6_reasonTo_51 ?_
      refine lv_iload_n hx hb dX6_reasonTo_54 rfl (lv_at hl 2 rfl) ?_
      obtain ⟨z55, hcr, hM⟩ := ob_s hM
      refine res_i0 F hP hS rfl [2] rfl rfl (runN_of (n := 2) (As := [.ref r2, .int x2]) (rest := [.int (r.1 &&& h.2.2.2.2.2.2.2.1)]) F hP hS rfl [2] rfl rfl (c_X8_at l dC dI cI cC cZ sa r2 4 r.2.2.2.2.1 x2 hcr _) gX6_reasonTo_X8_at_n81 rfl 19 rfl (hts _ (List.mem_of_getElem? (i := 11) rfl)) (hts _ (List.mem_of_getElem? (i := 10) rfl)) (by decide +kernel) ⟨Nat.le_of_ble_eq_true rfl, Nat.le_of_ble_eq_true rfl⟩ rfl hl.1 rfl (Nat.le_of_ble_eq_true rfl) dX6_reasonTo_55 ⟨Nat.zero_le _, Nat.zero_le _⟩) (fun H locs hP hS => ?_)
      refine lv_iand hx hb dX6_reasonTo_58 ?_
      refine lv_if_eq (tgt := 64) hx hb dX6_reasonTo_59 (by decide) (fun hc => ?_) (fun hc => ?_)
      · have hM := if_pp hc hM
        exact j64 () _ _ _ hP hS (lv_sub hl [0, 1, 2] rfl) hM
      · have hM := if_nn hc hM
        refine lv_iconst (v := 2) hx hb dX6_reasonTo_62 (by decide) ?_
        exact ret_i hx hb hr hlk dX6_reasonTo_63 (some_u hM) hP hS
  refine lv_iload_n hx hb dX6_reasonTo_0 rfl (lv_at hl 3 rfl) ?_
  refine lv_if_ne (tgt := 34) hx hb dX6_reasonTo_1 (by decide) (fun hc => ?_) (fun hc => ?_)
  · have hM := if_nn hc hM
    exact j34 () _ _ _ hP hS (lv_sub hl [0, 1, 2] rfl) hM
  · have hM := if_pp hc hM
    refine lv_aload_n hx hb dX6_reasonTo_4 rfl (lv_at hl 0 rfl) ?_
    refine g_get (ci := 6) (C := RX6) (T := TX6) (N := 6) (v := .int r.2.2.1) F hP 0 rfl rfl inX6_reasonTo_X6 5 (by decide) (List.mem_of_getElem? (i := 1) rfl) rfl dX6_reasonTo_5 ?_
    refine lv_if_eq (tgt := 34) hx hb dX6_reasonTo_8 (by decide) (fun hc => ?_) (fun hc => ?_)
    · have hM := if_pp hc hM
      exact j34 () _ _ _ hP hS (lv_sub hl [0, 1, 2] rfl) hM
    · have hM := if_nn hc hM
      refine lv_aload_n hx hb dX6_reasonTo_11 rfl (lv_at hl 0 rfl) ?_
      refine g_get (ci := 6) (C := RX6) (T := TX6) (N := 6) (v := .int r.1) F hP 0 rfl rfl inX6_reasonTo_X6 3 (by decide) (List.mem_of_getElem? (i := 2) rfl) rfl dX6_reasonTo_12 ?_
      refine lv_aload_n hx hb dX6_reasonTo_15 rfl (lv_at hl 1 rfl) ?_
      refine g_get (ci := 0) (C := RX0) (T := TX0) (N := 13) (v := .int h.2.2.2.2.2.2.1) F hP 4 rfl rfl inX6_reasonTo_X0 6 (by decide) (List.mem_of_getElem? (i := 3) rfl) rfl dX6_reasonTo_16 ?_
      refine lv_iand hx hb dX6_reasonTo_19 ?_
      refine lv_aload_n hx hb dX6_reasonTo_20 rfl (lv_at hl 0 rfl) ?_
      refine g_get (ci := 6) (C := RX6) (T := TX6) (N := 6) (v := .ref r1) F hP 0 rfl rfl inX6_reasonTo_X6 0 (by decide) (List.mem_of_getElem? (i := 4) rfl) rfl dX6_reasonTo_21 ?_
      refine lv_iload_n hx hb dX6_reasonTo_24 rfl (lv_at hl 2 rfl) ?_
      obtain ⟨z25, hcr, hM⟩ := ob_s hM
      refine res_i0 F hP hS rfl [1] rfl rfl (runN_of (n := 2) (As := [.ref r1, .int x2]) (rest := [.int (r.1 &&& h.2.2.2.2.2.2.1)]) F hP hS rfl [1] rfl rfl (c_X8_at l dC dI cI cC cZ sa r1 4 r.2.2.2.1 x2 hcr _) gX6_reasonTo_X8_at_n81 rfl 19 rfl (hts _ (List.mem_of_getElem? (i := 11) rfl)) (hts _ (List.mem_of_getElem? (i := 10) rfl)) (by decide +kernel) ⟨Nat.le_of_ble_eq_true rfl, Nat.le_of_ble_eq_true rfl⟩ rfl hl.1 rfl (Nat.le_of_ble_eq_true rfl) dX6_reasonTo_25 ⟨Nat.zero_le _, Nat.zero_le _⟩) (fun H locs hP hS => ?_)
      refine lv_iand hx hb dX6_reasonTo_28 ?_
      refine lv_if_eq (tgt := 34) hx hb dX6_reasonTo_29 (by decide) (fun hc => ?_) (fun hc => ?_)
      · have hM := if_pp hc hM
        exact j34 () _ _ _ hP hS (lv_sub hl [0, 1, 2] rfl) hM
      · have hM := if_nn hc hM
        refine lv_iconst (v := 1) hx hb dX6_reasonTo_32 (by decide) ?_
        exact ret_i hx hb hr hlk dX6_reasonTo_33 (some_u hM) hP hS
theorem inX6_firstShownTo_X0 : ∀ w ∈ wsX00, w ∈ wsX6_firstShownTo := fun w h => List.mem_cons_of_mem _ (List.mem_append_left _ (List.mem_append_left _ (List.mem_append_right _ h)))
theorem inX6_firstShownTo_X4 : ∀ w ∈ wsX40, w ∈ wsX6_firstShownTo := fun w h => List.mem_cons_of_mem _ (List.mem_append_left _ (List.mem_append_right _ h))
set_option maxHeartbeats 4000000 in
set_option maxRecDepth 100000 in
theorem c_X6_firstShownTo (l : Launch) (dC : Nat → ClassId) (dI : Nat → Nat → Nat) (cI cC cZ : ClassId) (sa : Nat → Nat) (r0 r1 r2 r3 h0 v0 v1 v2 v3 : Nat) (r : RT) (h : HT) (v : VT) (x2 : Int32) {res : Int32} (hM : M_X6_firstShownTo r h v x2 = some res) : CTi l (dC, dI) [(cI, .int), (cC, .char), (cZ, .boolean)] sa yX6_firstShownTo wsX6_firstShownTo (rmd 3) [.ref r0, .ref h0, .int x2] (wWea cI r0 r1 r2 r3 r ++ wHouse cI h0 v0 v1 v2 v3 h v) (fun (_ : Unit) => (wWea cI r0 r1 r2 r3 r ++ wHouse cI h0 v0 v1 v2 v3 h v)) (res, ()) := by
  refine CTi.enter (own := RX6) (cc := cX6_firstShownTo) (maxL := 4) (ret := (some .int)) (by decide) rfl rfl (Nat.le_of_ble_eq_true rfl) ?_
  intro pr e s m below meth c A F hr hlk hP hS ls hl
  obtain ⟨⟨hx, hb, hml, hown, hts⟩, hK, hDD, hA, hKC⟩ := id F
  have hl : lv_has ls 4 [(0, .ref r0), (1, .ref h0), (2, .int x2)] := hl
  have hP : va_P (dC, dI) vwCl (wWea cI r0 r1 r2 r3 r ++ wHouse cI h0 v0 v1 v2 v3 h v) s.heap := hP
  unfold M_X6_firstShownTo at hM
  refine kloop (α := Int32) (res := res) (fun k a => M_X6_firstShownTo_2 r h v x2 k a) (fun rec a => M_X6_firstShownTo_2b r h v x2 rec a) (fun _ => rfl) (fun _ _ => rfl) F (fun a => (wWea cI r0 r1 r2 r3 r ++ wHouse cI h0 v0 v1 v2 v3 h v)) (fun a => [(0, .ref r0), (1, .ref h0), (2, .int x2), (3, .int a)]) (fun a => []) 2 ?_ (fun j2 => ?_)
  · intro rc2 ih2 a2 H locs ls hP hS hl hM
    unfold M_X6_firstShownTo_2b at hM
    refine lv_iload_n hx hb dX6_firstShownTo_2 rfl (lv_at hl 3 rfl) ?_
    refine lv_aload_n hx hb dX6_firstShownTo_3 rfl (lv_at hl 1 rfl) ?_
    refine g_get (ci := 0) (C := RX0) (T := TX0) (N := 13) (v := .ref v0) F hP 4 rfl rfl inX6_firstShownTo_X0 12 (by decide) (List.mem_of_getElem? (i := 1) rfl) rfl dX6_firstShownTo_4 ?_
    refine g_get (ci := 4) (C := RX4) (T := TX4) (N := 4) (v := .int v.1) F hP 5 rfl rfl inX6_firstShownTo_X4 3 (by decide) (List.mem_of_getElem? (i := 2) rfl) rfl dX6_firstShownTo_7 ?_
    refine lv_icmp_ge (tgt := 31) hx hb dX6_firstShownTo_10 (by decide) (fun hc => ?_) (fun hc => ?_)
    · have hM := if_pp hc hM
      refine lv_bipush (v := -6) hx hb dX6_firstShownTo_31 (by decide) ?_
      exact ret_i hx hb hr hlk dX6_firstShownTo_33 (some_u hM) hP hS
    · have hM := if_nn hc hM
      refine lv_aload_n hx hb dX6_firstShownTo_13 rfl (lv_at hl 0 rfl) ?_
      refine lv_aload_n hx hb dX6_firstShownTo_14 rfl (lv_at hl 1 rfl) ?_
      refine lv_iload_n hx hb dX6_firstShownTo_15 rfl (lv_at hl 3 rfl) ?_
      refine lv_iload_n hx hb dX6_firstShownTo_16 rfl (lv_at hl 2 rfl) ?_
      obtain ⟨z17, hcr, hM⟩ := ob_s hM
      refine res_i0 F hP hS rfl [0, 1, 2, 3, 4, 5, 6, 7, 8] rfl rfl (runV_of (n := 3) (As := [.ref h0, .int a2, .int x2]) (rest := []) F hP hS rfl [0, 1, 2, 3, 4, 5, 6, 7, 8] rfl rfl (c_X6_reasonTo l dC dI cI cC cZ sa r0 r1 r2 r3 h0 v0 v1 v2 v3 r h v a2 x2 hcr _) gX6_firstShownTo_X6_reasonTo rfl (by decide +kernel) ⟨Nat.le_of_ble_eq_true rfl, Nat.le_of_ble_eq_true rfl⟩ 0 6 rfl rfl rfl hl.1 rfl (Nat.le_of_ble_eq_true rfl) dX6_firstShownTo_17 ⟨Nat.zero_le _, Nat.zero_le _⟩) (fun H locs hP hS => ?_)
      refine lv_if_eq (tgt := 25) hx hb dX6_firstShownTo_20 (by decide) (fun hc => ?_) (fun hc => ?_)
      · have hM := if_pp hc hM
        refine lv_iinc (v := (a2 + (1 : Int32))) (lv' := [(3, .int (a2 + (1 : Int32))), (0, .ref r0), (1, .ref h0), (2, .int x2)]) hx hb dX6_firstShownTo_25 hl (k := 3) rfl rfl (by decide) rfl (fun ls hl => ?_)
        refine lv_goto (tgt := 2) hx hb dX6_firstShownTo_28 (by decide) ?_
        exact ih2 (a2 + (1 : Int32)) _ _ _ hP hS (lv_sub hl [1, 2, 3, 0] rfl) hM
      · have hM := if_nn hc hM
        refine lv_iload_n hx hb dX6_firstShownTo_23 rfl (lv_at hl 3 rfl) ?_
        exact ret_i hx hb hr hlk dX6_firstShownTo_24 (some_u hM) hP hS
  refine lv_iconst (v := 0) hx hb dX6_firstShownTo_0 (by decide) ?_
  refine lv_istore_n (lv' := [(3, .int (0 : Int32)), (0, .ref r0), (1, .ref h0), (2, .int x2)]) hx hb dX6_firstShownTo_1 rfl hl (by decide) rfl (fun ls hl => ?_)
  exact j2 200 (0 : Int32) _ _ _ hP hS (lv_sub hl [1, 2, 3, 0] rfl) hM
theorem inX3_note_X3 : ∀ w ∈ wsX30, w ∈ wsX3_note := fun w h => List.mem_cons_of_mem _ (List.mem_append_left _ (List.mem_append_left _ (List.mem_append_left _ (List.mem_append_right _ h))))
set_option maxHeartbeats 4000000 in
set_option maxRecDepth 100000 in
theorem c_X3_note (l : Launch) (dC : Nat → ClassId) (dI : Nat → Nat → Nat) (cI cC cZ : ClassId) (sa : Nat → Nat) (d0 h0 v0 v1 v2 v3 r0 r1 r2 r3 : Nat) (d : DT) (h : HT) (v : VT) (r : RT) (x3 : Int32) {res : DT} (hM : M_X3_note d h v r x3 = some res) : CTv l (dC, dI) [(cI, .int), (cC, .char), (cZ, .boolean)] sa yX3_note wsX3_note (rmd 4) [.ref d0, .ref h0, .ref r0, .int x3] (wVer d0 d ++ wHouse cI h0 v0 v1 v2 v3 h v ++ wWea cI r0 r1 r2 r3 r) (fun (uu : DT) => (wVer d0 uu ++ wHouse cI h0 v0 v1 v2 v3 h v ++ wWea cI r0 r1 r2 r3 r)) res := by
  refine CTv.enter (own := RX3) (cc := cX3_note) (maxL := 5) (ret := none) (by decide) rfl rfl (Nat.le_of_ble_eq_true rfl) ?_
  intro pr e s m below meth c A F hr hlk hP hS ls hl
  obtain ⟨⟨hx, hb, hml, hown, hts⟩, hK, hDD, hA, hKC⟩ := id F
  have hl : lv_has ls 5 [(0, .ref d0), (1, .ref h0), (2, .ref r0), (3, .int x3)] := hl
  have hP : va_P (dC, dI) vwCl (wVer d0 d ++ wHouse cI h0 v0 v1 v2 v3 h v ++ wWea cI r0 r1 r2 r3 r) s.heap := hP
  unfold M_X3_note at hM
  refine kblk (α := DT) (res := res) (fun a => M_X3_note_48 h v r x3 a) F (fun a => (wVer d0 a ++ wHouse cI h0 v0 v1 v2 v3 h v ++ wWea cI r0 r1 r2 r3 r)) (fun a => [(0, .ref d0), (1, .ref h0), (2, .ref r0)]) (fun a => []) 48 ?_ (fun j48 => ?_)
  · intro a48 H locs ls hP hS hl hM
    unfold M_X3_note_48 at hM
    refine lv_aload_n hx hb dX3_note_48 rfl (lv_at hl 0 rfl) ?_
    refine lv_dup hx hb dX3_note_49 rfl ?_
    refine g_get (ci := 3) (C := RX3) (T := TX3) (N := 7) (v := .int a48.2.2.2.2.1) F hP 0 rfl rfl inX3_note_X3 4 (by decide) (List.mem_of_getElem? (i := 4) rfl) rfl dX3_note_50 ?_
    refine lv_iconst (v := 1) hx hb dX3_note_53 (by decide) ?_
    refine lv_iadd hx hb dX3_note_54 ?_
    refine g_put (ws' := (wVer d0 (a48.1, a48.2.1, a48.2.2.1, a48.2.2.2.1, (a48.2.2.2.2.1 + (1 : Int32)), a48.2.2.2.2.2.1, a48.2.2.2.2.2.2) ++ wHouse cI h0 v0 v1 v2 v3 h v ++ wWea cI r0 r1 r2 r3 r)) (ci := 3) (C := RX3) (T := TX3) (N := 7) (v := .int (a48.2.2.2.2.1 + (1 : Int32))) (ty := .int) F hP hS rfl tyX3 tyX3_ok nmX3 0 rfl rfl inX3_note_X3 4 (by decide) (List.mem_of_getElem? (i := 4) rfl) rfl (by decide +kernel) rfl rfl (Nat.le_of_ble_eq_true rfl) dX3_note_55 rfl (fun H locs hP hS => ?_)
    refine lv_aload_n hx hb dX3_note_58 rfl (lv_at hl 2 rfl) ?_
    refine lv_aload_n hx hb dX3_note_59 rfl (lv_at hl 1 rfl) ?_
    refine lv_iconst (v := 1) hx hb dX3_note_60 (by decide) ?_
    obtain ⟨z61, hcr, hM⟩ := ob_s hM
    refine res_i0 F hP hS rfl [6, 7, 8, 9, 1, 2, 3, 4, 5] rfl rfl (runV_of (n := 2) (As := [.ref h0, .int (1 : Int32)]) (rest := []) F hP hS rfl [6, 7, 8, 9, 1, 2, 3, 4, 5] rfl rfl (c_X6_firstShownTo l dC dI cI cC cZ sa r0 r1 r2 r3 h0 v0 v1 v2 v3 r h v (1 : Int32) hcr _) gX3_note_X6_firstShownTo rfl (by decide +kernel) ⟨Nat.le_of_ble_eq_true rfl, Nat.le_of_ble_eq_true rfl⟩ 6 6 rfl rfl rfl hl.1 rfl (Nat.le_of_ble_eq_true rfl) dX3_note_61 ⟨Nat.zero_le _, Nat.zero_le _⟩) (fun H locs hP hS => ?_)
    refine lv_bipush (v := -6) hx hb dX3_note_64 (by decide) ?_
    refine lv_icmp_ne (tgt := 79) hx hb dX3_note_66 (by decide) (fun hc => ?_) (fun hc => ?_)
    · have hM := if_nn hc hM
      exact ret_v hx hb hr hlk dX3_note_79 hM hP hS
    · have hM := if_pp hc hM
      refine lv_aload_n hx hb dX3_note_69 rfl (lv_at hl 0 rfl) ?_
      refine lv_dup hx hb dX3_note_70 rfl ?_
      refine g_get (ci := 3) (C := RX3) (T := TX3) (N := 7) (v := .int a48.2.2.2.2.2.1) F hP 0 rfl rfl inX3_note_X3 5 (by decide) (List.mem_of_getElem? (i := 5) rfl) rfl dX3_note_71 ?_
      refine lv_iconst (v := 1) hx hb dX3_note_74 (by decide) ?_
      refine lv_iadd hx hb dX3_note_75 ?_
      refine g_put (ws' := (wVer d0 (a48.1, a48.2.1, a48.2.2.1, a48.2.2.2.1, (a48.2.2.2.2.1 + (1 : Int32)), (a48.2.2.2.2.2.1 + (1 : Int32)), a48.2.2.2.2.2.2) ++ wHouse cI h0 v0 v1 v2 v3 h v ++ wWea cI r0 r1 r2 r3 r)) (ci := 3) (C := RX3) (T := TX3) (N := 7) (v := .int (a48.2.2.2.2.2.1 + (1 : Int32))) (ty := .int) F hP hS rfl tyX3 tyX3_ok nmX3 0 rfl rfl inX3_note_X3 5 (by decide) (List.mem_of_getElem? (i := 5) rfl) rfl (by decide +kernel) rfl rfl (Nat.le_of_ble_eq_true rfl) dX3_note_76 rfl (fun H locs hP hS => ?_)
      exact ret_v hx hb hr hlk dX3_note_79 hM hP hS
  refine lv_aload_n hx hb dX3_note_0 rfl (lv_at hl 2 rfl) ?_
  refine lv_aload_n hx hb dX3_note_1 rfl (lv_at hl 1 rfl) ?_
  refine lv_iconst (v := 0) hx hb dX3_note_2 (by decide) ?_
  obtain ⟨z3, hcr, hM⟩ := ob_s hM
  refine res_i0 F hP hS rfl [6, 7, 8, 9, 1, 2, 3, 4, 5] rfl rfl (runV_of (n := 2) (As := [.ref h0, .int (0 : Int32)]) (rest := []) F hP hS rfl [6, 7, 8, 9, 1, 2, 3, 4, 5] rfl rfl (c_X6_firstShownTo l dC dI cI cC cZ sa r0 r1 r2 r3 h0 v0 v1 v2 v3 r h v (0 : Int32) hcr _) gX3_note_X6_firstShownTo rfl (by decide +kernel) ⟨Nat.le_of_ble_eq_true rfl, Nat.le_of_ble_eq_true rfl⟩ 6 6 rfl rfl rfl hl.1 rfl (Nat.le_of_ble_eq_true rfl) dX3_note_3 ⟨Nat.zero_le _, Nat.zero_le _⟩) (fun H locs hP hS => ?_)
  refine lv_istore (lv' := [(4, .int z3), (0, .ref d0), (1, .ref h0), (2, .ref r0), (3, .int x3)]) hx hb dX3_note_6 hl (by decide) rfl (fun ls hl => ?_)
  refine lv_iload hx hb dX3_note_8 (lv_at hl 0 rfl) ?_
  refine lv_bipush (v := -6) hx hb dX3_note_10 (by decide) ?_
  refine lv_icmp_ne (tgt := 16) hx hb dX3_note_12 (by decide) (fun hc => ?_) (fun hc => ?_)
  · have hM := if_nn hc hM
    refine lv_aload_n hx hb dX3_note_16 rfl (lv_at hl 1 rfl) ?_
    refine g_get (ci := 3) (C := RX3) (T := TX3) (N := 7) (v := .int d.2.1) F hP 0 rfl rfl inX3_note_X3 1 (by decide) (List.mem_of_getElem? (i := 1) rfl) rfl dX3_note_17 ?_
    refine lv_bipush (v := -6) hx hb dX3_note_20 (by decide) ?_
    refine lv_icmp_ne (tgt := 48) hx hb dX3_note_22 (by decide) (fun hc => ?_) (fun hc => ?_)
    · have hM := if_nn hc hM
      exact j48 d _ _ _ hP hS (lv_sub hl [1, 2, 3] rfl) hM
    · have hM := if_pp hc hM
      refine lv_aload_n hx hb dX3_note_25 rfl (lv_at hl 1 rfl) ?_
      refine lv_iload_n hx hb dX3_note_26 rfl (lv_at hl 4 rfl) ?_
      refine g_put (ws' := (wVer d0 (d.1, x3, d.2.2.1, d.2.2.2.1, d.2.2.2.2.1, d.2.2.2.2.2.1, d.2.2.2.2.2.2) ++ wHouse cI h0 v0 v1 v2 v3 h v ++ wWea cI r0 r1 r2 r3 r)) (ci := 3) (C := RX3) (T := TX3) (N := 7) (v := .int x3) (ty := .int) F hP hS rfl tyX3 tyX3_ok nmX3 0 rfl rfl inX3_note_X3 1 (by decide) (List.mem_of_getElem? (i := 1) rfl) rfl (by decide +kernel) rfl rfl (Nat.le_of_ble_eq_true rfl) dX3_note_27 rfl (fun H locs hP hS => ?_)
      refine lv_aload_n hx hb dX3_note_30 rfl (lv_at hl 1 rfl) ?_
      refine lv_iload hx hb dX3_note_31 (lv_at hl 0 rfl) ?_
      refine g_put (ws' := (wVer d0 (d.1, x3, z3, d.2.2.2.1, d.2.2.2.2.1, d.2.2.2.2.2.1, d.2.2.2.2.2.2) ++ wHouse cI h0 v0 v1 v2 v3 h v ++ wWea cI r0 r1 r2 r3 r)) (ci := 3) (C := RX3) (T := TX3) (N := 7) (v := .int z3) (ty := .int) F hP hS rfl tyX3 tyX3_ok nmX3 0 rfl rfl inX3_note_X3 2 (by decide) (List.mem_of_getElem? (i := 2) rfl) rfl (by decide +kernel) rfl rfl (Nat.le_of_ble_eq_true rfl) dX3_note_33 rfl (fun H locs hP hS => ?_)
      refine lv_aload_n hx hb dX3_note_36 rfl (lv_at hl 1 rfl) ?_
      refine lv_aload_n hx hb dX3_note_37 rfl (lv_at hl 3 rfl) ?_
      refine lv_aload_n hx hb dX3_note_38 rfl (lv_at hl 2 rfl) ?_
      refine lv_iload hx hb dX3_note_39 (lv_at hl 0 rfl) ?_
      refine lv_iconst (v := 0) hx hb dX3_note_41 (by decide) ?_
      obtain ⟨z42, hcr, hM⟩ := ob_s hM
      refine res_i0 F hP hS rfl [6, 7, 8, 9, 1, 2, 3, 4, 5] rfl rfl (runV_of (n := 3) (As := [.ref h0, .int z3, .int (0 : Int32)]) (rest := [.ref d0]) F hP hS rfl [6, 7, 8, 9, 1, 2, 3, 4, 5] rfl rfl (c_X6_reasonTo l dC dI cI cC cZ sa r0 r1 r2 r3 h0 v0 v1 v2 v3 r h v z3 (0 : Int32) hcr _) gX3_note_X6_reasonTo rfl (by decide +kernel) ⟨Nat.le_of_ble_eq_true rfl, Nat.le_of_ble_eq_true rfl⟩ 6 6 rfl rfl rfl hl.1 rfl (Nat.le_of_ble_eq_true rfl) dX3_note_42 ⟨Nat.zero_le _, Nat.zero_le _⟩) (fun H locs hP hS => ?_)
      refine g_put (ws' := (wVer d0 (d.1, x3, z3, z42, d.2.2.2.2.1, d.2.2.2.2.2.1, d.2.2.2.2.2.2) ++ wHouse cI h0 v0 v1 v2 v3 h v ++ wWea cI r0 r1 r2 r3 r)) (ci := 3) (C := RX3) (T := TX3) (N := 7) (v := .int z42) (ty := .int) F hP hS rfl tyX3 tyX3_ok nmX3 0 rfl rfl inX3_note_X3 3 (by decide) (List.mem_of_getElem? (i := 3) rfl) rfl (by decide +kernel) rfl rfl (Nat.le_of_ble_eq_true rfl) dX3_note_45 rfl (fun H locs hP hS => ?_)
      exact j48 (d.1, x3, z3, z42, d.2.2.2.2.1, d.2.2.2.2.2.1, d.2.2.2.2.2.2) _ _ _ hP hS (lv_sub hl [1, 2, 3] rfl) hM
  · have hM := if_pp hc hM
    exact ret_v hx hb hr hlk dX3_note_15 hM hP hS
theorem inX3_follow_X2 : ∀ w ∈ wsX20, w ∈ wsX3_follow := fun w h => List.mem_cons_of_mem _ (List.mem_append_left _ (List.mem_append_left _ (List.mem_append_left _ (List.mem_append_left _ (List.mem_append_right _ h)))))
theorem inX3_follow_X3 : ∀ w ∈ wsX30, w ∈ wsX3_follow := fun w h => List.mem_cons_of_mem _ (List.mem_append_left _ (List.mem_append_left _ (List.mem_append_left _ (List.mem_append_right _ h))))
theorem inX3_follow_X6 : ∀ w ∈ wsX60, w ∈ wsX3_follow := fun w h => List.mem_cons_of_mem _ (List.mem_append_left _ (List.mem_append_left _ (List.mem_append_right _ h)))
set_option maxHeartbeats 4000000 in
set_option maxRecDepth 100000 in
theorem c_X3_follow (l : Launch) (dC : Nat → ClassId) (dI : Nat → Nat → Nat) (cI cC cZ : ClassId) (sa : Nat → Nat) (d0 h0 v0 v1 v2 v3 p0 p1 r0 r1 r2 r3 : Nat) (d : DT) (h : HT) (v : VT) (p : PT) (r : RT)  {res : DT × RT} (hM : M_X3_follow d h v p r = some res) : CTv l (dC, dI) [(cI, .int), (cC, .char), (cZ, .boolean)] sa yX3_follow wsX3_follow (rmd 6) [.ref d0, .ref h0, .ref p0, .ref r0] (wVer d0 d ++ wHouse cI h0 v0 v1 v2 v3 h v ++ wPad cC p0 p1 p ++ wWea cI r0 r1 r2 r3 r) (fun (uu : DT × RT) => (wVer d0 uu.1 ++ wHouse cI h0 v0 v1 v2 v3 h v ++ wPad cC p0 p1 p ++ wWea cI r0 r1 r2 r3 uu.2)) res := by
  refine CTv.enter (own := RX3) (cc := cX3_follow) (maxL := 5) (ret := none) (by decide) rfl rfl (Nat.le_of_ble_eq_true rfl) ?_
  intro pr e s m below meth c A F hr hlk hP hS ls hl
  obtain ⟨⟨hx, hb, hml, hown, hts⟩, hK, hDD, hA, hKC⟩ := id F
  have hl : lv_has ls 5 [(0, .ref d0), (1, .ref h0), (2, .ref p0), (3, .ref r0)] := hl
  have hP : va_P (dC, dI) vwCl (wVer d0 d ++ wHouse cI h0 v0 v1 v2 v3 h v ++ wPad cC p0 p1 p ++ wWea cI r0 r1 r2 r3 r) s.heap := hP
  unfold M_X3_follow at hM
  refine kloop (α := DT × RT × Int32) (res := res) (fun k a => M_X3_follow_12 h v p k a) (fun rec a => M_X3_follow_12b h v p rec a) (fun _ => rfl) (fun _ _ => rfl) F (fun a => (wVer d0 a.1 ++ wHouse cI h0 v0 v1 v2 v3 h v ++ wPad cC p0 p1 p ++ wWea cI r0 r1 r2 r3 a.2.1)) (fun a => [(0, .ref d0), (1, .ref h0), (2, .ref p0), (3, .ref r0), (4, .int a.2.2)]) (fun a => []) 12 ?_ (fun j12 => ?_)
  · intro rc12 ih12 a12 H locs ls hP hS hl hM
    unfold M_X3_follow_12b at hM
    refine lv_iload hx hb dX3_follow_12 (lv_at hl 4 rfl) ?_
    refine lv_aload_n hx hb dX3_follow_14 rfl (lv_at hl 2 rfl) ?_
    refine g_get (ci := 2) (C := RX2) (T := TX2) (N := 2) (v := .int p.1) F hP 6 rfl rfl inX3_follow_X2 1 (by decide) (List.mem_of_getElem? (i := 1) rfl) rfl dX3_follow_15 ?_
    refine lv_icmp_ge (tgt := 56) hx hb dX3_follow_18 (by decide) (fun hc => ?_) (fun hc => ?_)
    · have hM := if_pp hc hM
      refine lv_aload_n hx hb dX3_follow_56 rfl (lv_at hl 0 rfl) ?_
      refine lv_aload_n hx hb dX3_follow_57 rfl (lv_at hl 3 rfl) ?_
      refine g_get (ci := 6) (C := RX6) (T := TX6) (N := 6) (v := .int a12.2.1.1) F hP 8 rfl rfl inX3_follow_X6 3 (by decide) (List.mem_of_getElem? (i := 3) rfl) rfl dX3_follow_58 ?_
      obtain ⟨z61, hcr, hM⟩ := ob_s hM
      refine res_i0 F hP hS rfl [] rfl rfl (runN_of (n := 1) (As := [.int a12.2.1.1]) (rest := [.ref d0]) F hP hS rfl [] rfl rfl (c_X8_cellOf l dC dI cI cC cZ sa a12.2.1.1 hcr _) gX3_follow_X8_cellOf_n44 rfl 10 rfl (hts _ (List.mem_of_getElem? (i := 31) rfl)) (hts _ (List.mem_of_getElem? (i := 209) rfl)) (by decide +kernel) ⟨Nat.le_of_ble_eq_true rfl, Nat.le_of_ble_eq_true rfl⟩ rfl hl.1 rfl (Nat.le_of_ble_eq_true rfl) dX3_follow_61 ⟨Nat.zero_le _, Nat.zero_le _⟩) (fun H locs hP hS => ?_)
      refine g_put (ws' := (wVer d0 (a12.1.1, a12.1.2.1, a12.1.2.2.1, a12.1.2.2.2.1, a12.1.2.2.2.2.1, a12.1.2.2.2.2.2.1, z61) ++ wHouse cI h0 v0 v1 v2 v3 h v ++ wPad cC p0 p1 p ++ wWea cI r0 r1 r2 r3 a12.2.1)) (ci := 3) (C := RX3) (T := TX3) (N := 7) (v := .int z61) (ty := .int) F hP hS rfl tyX3 tyX3_ok nmX3 0 rfl rfl inX3_follow_X3 6 (by decide) (List.mem_of_getElem? (i := 4) rfl) rfl (by decide +kernel) rfl rfl (Nat.le_of_ble_eq_true rfl) dX3_follow_64 rfl (fun H locs hP hS => ?_)
      exact ret_v hx hb hr hlk dX3_follow_67 hM hP hS
    · have hM := if_nn hc hM
      refine lv_aload_n hx hb dX3_follow_21 rfl (lv_at hl 3 rfl) ?_
      refine lv_aload_n hx hb dX3_follow_22 rfl (lv_at hl 1 rfl) ?_
      refine lv_aload_n hx hb dX3_follow_23 rfl (lv_at hl 2 rfl) ?_
      refine lv_iload hx hb dX3_follow_24 (lv_at hl 4 rfl) ?_
      obtain ⟨z26, hcr, hM⟩ := ob_s hM
      refine res_i0 F hP hS rfl [6, 7] rfl rfl (runV_of (n := 1) (As := [.int a12.2.2]) (rest := [.ref h0, .ref r0]) F hP hS rfl [6, 7] rfl rfl (c_X2_stepAt l dC dI cI cC cZ sa p0 p1 p a12.2.2 hcr _) gX3_follow_X2_stepAt rfl (by decide +kernel) ⟨Nat.le_of_ble_eq_true rfl, Nat.le_of_ble_eq_true rfl⟩ 6 2 rfl rfl rfl hl.1 rfl (Nat.le_of_ble_eq_true rfl) dX3_follow_26 ⟨Nat.zero_le _, Nat.zero_le _⟩) (fun H locs hP hS => ?_)
      obtain ⟨z29, hcr, hM⟩ := ob_s hM
      refine res_i (ws' := (wVer d0 a12.1 ++ wHouse cI h0 v0 v1 v2 v3 h v ++ wPad cC p0 p1 p ++ wWea cI r0 r1 r2 r3 z29.2)) F hP hS rfl [8, 9, 10, 11, 1, 2, 3, 4, 5] rfl rfl (runV_of (n := 2) (As := [.ref h0, .int z26]) (rest := []) F hP hS rfl [8, 9, 10, 11, 1, 2, 3, 4, 5] rfl rfl (c_X6_take l dC dI cI cC cZ sa r0 r1 r2 r3 h0 v0 v1 v2 v3 a12.2.1 h v z26 hcr _) gX3_follow_X6_take rfl (by decide +kernel) ⟨Nat.le_of_ble_eq_true rfl, Nat.le_of_ble_eq_true rfl⟩ 8 6 rfl rfl rfl hl.1 rfl (Nat.le_of_ble_eq_true rfl) dX3_follow_29 ⟨Nat.zero_le _, Nat.zero_le _⟩) (rep_pt rfl rfl rfl) (fun H locs hP hS => ?_)
      refine lv_if_ne (tgt := 42) hx hb dX3_follow_32 (by decide) (fun hc => ?_) (fun hc => ?_)
      · have hM := if_nn hc hM
        refine lv_aload_n hx hb dX3_follow_42 rfl (lv_at hl 0 rfl) ?_
        refine lv_aload_n hx hb dX3_follow_43 rfl (lv_at hl 1 rfl) ?_
        refine lv_aload_n hx hb dX3_follow_44 rfl (lv_at hl 3 rfl) ?_
        refine lv_iload hx hb dX3_follow_45 (lv_at hl 4 rfl) ?_
        obtain ⟨z47, hcr, hM⟩ := ob_s hM
        refine res_v (ws' := (wVer d0 z47 ++ wHouse cI h0 v0 v1 v2 v3 h v ++ wPad cC p0 p1 p ++ wWea cI r0 r1 r2 r3 z29.2)) F hP hS rfl [0, 1, 2, 3, 4, 5, 8, 9, 10, 11] rfl rfl (runV_of (n := 3) (As := [.ref h0, .ref r0, .int a12.2.2]) (rest := []) F hP hS rfl [0, 1, 2, 3, 4, 5, 8, 9, 10, 11] rfl rfl (c_X3_note l dC dI cI cC cZ sa d0 h0 v0 v1 v2 v3 r0 r1 r2 r3 a12.1 h v z29.2 a12.2.2 hcr _) gX3_follow_X3_note rfl (by decide +kernel) ⟨Nat.le_of_ble_eq_true rfl, Nat.le_of_ble_eq_true rfl⟩ 0 3 rfl rfl rfl hl.1 rfl (Nat.le_of_ble_eq_true rfl) dX3_follow_47 ⟨Nat.zero_le _, Nat.zero_le _⟩) (rep_pt rfl rfl rfl) (fun H locs hP hS => ?_)
        refine lv_iinc (v := (a12.2.2 + (1 : Int32))) (lv' := [(4, .int (a12.2.2 + (1 : Int32))), (0, .ref d0), (1, .ref h0), (2, .ref p0), (3, .ref r0)]) hx hb dX3_follow_50 hl (k := 4) rfl rfl (by decide) rfl (fun ls hl => ?_)
        refine lv_goto (tgt := 12) hx hb dX3_follow_53 (by decide) ?_
        exact ih12 (z47, z29.2, (a12.2.2 + (1 : Int32))) _ _ _ hP hS (lv_sub hl [1, 2, 3, 4, 0] rfl) hM
      · have hM := if_pp hc hM
        refine lv_aload_n hx hb dX3_follow_35 rfl (lv_at hl 0 rfl) ?_
        refine lv_iload hx hb dX3_follow_36 (lv_at hl 4 rfl) ?_
        refine g_put (ws' := (wVer d0 (a12.2.2, a12.1.2.1, a12.1.2.2.1, a12.1.2.2.2.1, a12.1.2.2.2.2.1, a12.1.2.2.2.2.2.1, a12.1.2.2.2.2.2.2) ++ wHouse cI h0 v0 v1 v2 v3 h v ++ wPad cC p0 p1 p ++ wWea cI r0 r1 r2 r3 z29.2)) (ci := 3) (C := RX3) (T := TX3) (N := 7) (v := .int a12.2.2) (ty := .int) F hP hS rfl tyX3 tyX3_ok nmX3 0 rfl rfl inX3_follow_X3 0 (by decide) (List.mem_of_getElem? (i := 2) rfl) rfl (by decide +kernel) rfl rfl (Nat.le_of_ble_eq_true rfl) dX3_follow_38 rfl (fun H locs hP hS => ?_)
        exact ret_v hx hb hr hlk dX3_follow_41 hM hP hS
  refine lv_aload_n hx hb dX3_follow_0 rfl (lv_at hl 0 rfl) ?_
  obtain ⟨z1, hcr, hM⟩ := ob_s hM
  refine res_v (ws' := (wVer d0 z1 ++ wHouse cI h0 v0 v1 v2 v3 h v ++ wPad cC p0 p1 p ++ wWea cI r0 r1 r2 r3 r)) F hP hS rfl [0] rfl rfl (runV_of (n := 0) (As := []) (rest := []) F hP hS rfl [0] rfl rfl (c_X3_forget l dC dI cI cC cZ sa d0 d hcr _) gX3_follow_X3_forget rfl (by decide +kernel) ⟨Nat.le_of_ble_eq_true rfl, Nat.le_of_ble_eq_true rfl⟩ 0 3 rfl rfl rfl hl.1 rfl (Nat.le_of_ble_eq_true rfl) dX3_follow_1 ⟨Nat.zero_le _, Nat.zero_le _⟩) (rep_pt rfl rfl rfl) (fun H locs hP hS => ?_)
  refine lv_aload_n hx hb dX3_follow_4 rfl (lv_at hl 3 rfl) ?_
  refine lv_aload_n hx hb dX3_follow_5 rfl (lv_at hl 1 rfl) ?_
  obtain ⟨z6, hcr, hM⟩ := ob_s hM
  refine res_v (ws' := (wVer d0 z1 ++ wHouse cI h0 v0 v1 v2 v3 h v ++ wPad cC p0 p1 p ++ wWea cI r0 r1 r2 r3 z6)) F hP hS rfl [8, 9, 10, 11, 1, 2, 3, 4, 5] rfl rfl (runV_of (n := 1) (As := [.ref h0]) (rest := []) F hP hS rfl [8, 9, 10, 11, 1, 2, 3, 4, 5] rfl rfl (c_X6_begin l dC dI cI cC cZ sa r0 r1 r2 r3 h0 v0 v1 v2 v3 r h v hcr _) gX3_follow_X6_begin rfl (by decide +kernel) ⟨Nat.le_of_ble_eq_true rfl, Nat.le_of_ble_eq_true rfl⟩ 8 6 rfl rfl rfl hl.1 rfl (Nat.le_of_ble_eq_true rfl) dX3_follow_6 ⟨Nat.zero_le _, Nat.zero_le _⟩) (rep_pt rfl rfl rfl) (fun H locs hP hS => ?_)
  refine lv_iconst (v := 0) hx hb dX3_follow_9 (by decide) ?_
  refine lv_istore (lv' := [(4, .int (0 : Int32)), (0, .ref d0), (1, .ref h0), (2, .ref p0), (3, .ref r0)]) hx hb dX3_follow_10 hl (by decide) rfl (fun ls hl => ?_)
  exact j12 200 (z1, z6, (0 : Int32)) _ _ _ hP hS (lv_sub hl [1, 2, 3, 4, 0] rfl) hM
