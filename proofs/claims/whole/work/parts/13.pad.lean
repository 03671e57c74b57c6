/-! Walks, printed by wip/whole/gen.py -/
theorem inX2_add_X2 : ∀ w ∈ wsX20, w ∈ wsX2_add := fun w h => List.mem_cons_of_mem _ (List.mem_append_right _ h)
set_option maxHeartbeats 4000000 in
set_option maxRecDepth 100000 in
theorem c_X2_add (l : Launch) (dC : Nat → ClassId) (dI : Nat → Nat → Nat) (cI cC cZ : ClassId) (sa : Nat → Nat) (p0 p1 : Nat) (p : PT) (x1 : Int32) {res : Int32 × PT} (hM : M_X2_add p x1 = some res) : CTi l (dC, dI) [(cI, .int), (cC, .char), (cZ, .boolean)] sa yX2_add wsX2_add (rmd 1) [.ref p0, .int x1] (wPad cC p0 p1 p) (fun (uu : PT) => (wPad cC p0 p1 uu)) res := by
  refine CTi.enter (own := RX2) (cc := cX2_add) (maxL := 2) (ret := (some .boolean)) (by decide) rfl rfl (Nat.le_of_ble_eq_true rfl) ?_
  intro pr e s m below meth c A F hr hlk hP hS ls hl
  obtain ⟨⟨hx, hb, hml, hown, hts⟩, hK, hDD, hA, hKC⟩ := id F
  have hl : lv_has ls 2 [(0, .ref p0), (1, .int x1)] := hl
  have hP : va_P (dC, dI) vwCl (wPad cC p0 p1 p) s.heap := hP
  unfold M_X2_add at hM
  refine lv_aload_n hx hb dX2_add_0 rfl (lv_at hl 0 rfl) ?_
  refine g_get (ci := 2) (C := RX2) (T := TX2) (N := 2) (v := .int p.1) F hP 0 rfl rfl inX2_add_X2 1 (by decide) (List.mem_of_getElem? (i := 1) rfl) rfl dX2_add_1 ?_
  refine lv_if_lt (tgt := 19) hx hb dX2_add_4 (by decide) (fun hc => ?_) (fun hc => ?_)
  · have hM := if_pp hc hM
    refine lv_iconst (v := 0) hx hb dX2_add_19 (by decide) ?_
    exact ret_z hx hb hr hlk dX2_add_20 (by decide) hM hP hS
  · have hM := if_nn hc hM
    refine lv_aload_n hx hb dX2_add_7 rfl (lv_at hl 0 rfl) ?_
    refine g_get (ci := 2) (C := RX2) (T := TX2) (N := 2) (v := .int p.1) F hP 0 rfl rfl inX2_add_X2 1 (by decide) (List.mem_of_getElem? (i := 1) rfl) rfl dX2_add_8 ?_
    refine lv_aload_n hx hb dX2_add_11 rfl (lv_at hl 0 rfl) ?_
    refine g_get (ci := 2) (C := RX2) (T := TX2) (N := 2) (v := .ref p1) F hP 0 rfl rfl inX2_add_X2 0 (by decide) (List.mem_of_getElem? (i := 2) rfl) rfl dX2_add_12 ?_
    refine va_alen (v := (nI 40)) hx hb hK hP 1 1 rfl rfl rfl dX2_add_15 ?_
    refine lv_icmp_lt (tgt := 21) hx hb dX2_add_16 (by decide) (fun hc => ?_) (fun hc => ?_)
    · have hM := if_pp hc hM
      refine lv_aload_n hx hb dX2_add_21 rfl (lv_at hl 0 rfl) ?_
      refine g_get (ci := 2) (C := RX2) (T := TX2) (N := 2) (v := .ref p1) F hP 0 rfl rfl inX2_add_X2 0 (by decide) (List.mem_of_getElem? (i := 2) rfl) rfl dX2_add_22 ?_
      refine lv_aload_n hx hb dX2_add_25 rfl (lv_at hl 0 rfl) ?_
      refine g_get (ci := 2) (C := RX2) (T := TX2) (N := 2) (v := .int p.1) F hP 0 rfl rfl inX2_add_X2 1 (by decide) (List.mem_of_getElem? (i := 1) rfl) rfl dX2_add_26 ?_
      refine lv_iload_n hx hb dX2_add_29 rfl (lv_at hl 1 rfl) ?_
      obtain ⟨hin, hM⟩ := if_ok hM
      refine g_cast (ws' := (wPad cC p0 p1 (p.1, (upd p.2 p.1.toNatClampNeg (vp_nar .char x1))))) F hP hS rfl 1 1 rfl rfl hin dX2_add_30 rfl (fun H locs hP hS => ?_)
      refine lv_aload_n hx hb dX2_add_31 rfl (lv_at hl 0 rfl) ?_
      refine lv_dup hx hb dX2_add_32 rfl ?_
      refine g_get (ci := 2) (C := RX2) (T := TX2) (N := 2) (v := .int p.1) F hP 0 rfl rfl inX2_add_X2 1 (by decide) (List.mem_of_getElem? (i := 1) rfl) rfl dX2_add_33 ?_
      refine lv_iconst (v := 1) hx hb dX2_add_36 (by decide) ?_
      refine lv_iadd hx hb dX2_add_37 ?_
      refine g_put (ws' := (wPad cC p0 p1 ((p.1 + (1 : Int32)), (upd p.2 p.1.toNatClampNeg (vp_nar .char x1))))) (ci := 2) (C := RX2) (T := TX2) (N := 2) (v := .int (p.1 + (1 : Int32))) (ty := .int) F hP hS rfl tyX2 tyX2_ok nmX2 0 rfl rfl inX2_add_X2 1 (by decide) (List.mem_of_getElem? (i := 1) rfl) rfl (by decide +kernel) rfl rfl (Nat.le_of_ble_eq_true rfl) dX2_add_38 rfl (fun H locs hP hS => ?_)
      refine lv_iconst (v := 1) hx hb dX2_add_41 (by decide) ?_
      exact ret_z hx hb hr hlk dX2_add_42 (by decide) hM hP hS
    · have hM := if_nn hc hM
      refine lv_iconst (v := 0) hx hb dX2_add_19 (by decide) ?_
      exact ret_z hx hb hr hlk dX2_add_20 (by decide) hM hP hS
theorem inX2_clear_X2 : ∀ w ∈ wsX20, w ∈ wsX2_clear := fun w h => List.mem_cons_of_mem _ (List.mem_append_right _ h)
set_option maxHeartbeats 4000000 in
set_option maxRecDepth 100000 in
theorem c_X2_clear (l : Launch) (dC : Nat → ClassId) (dI : Nat → Nat → Nat) (cI cC cZ : ClassId) (sa : Nat → Nat) (p0 p1 : Nat) (p : PT)  {res : Int32 × PT} (hM : M_X2_clear p = some res) : CTi l (dC, dI) [(cI, .int), (cC, .char), (cZ, .boolean)] sa yX2_clear wsX2_clear (rmd 1) [.ref p0] (wPad cC p0 p1 p) (fun (uu : PT) => (wPad cC p0 p1 uu)) res := by
  refine CTi.enter (own := RX2) (cc := cX2_clear) (maxL := 2) (ret := (some .int)) (by decide) rfl rfl (Nat.le_of_ble_eq_true rfl) ?_
  intro pr e s m below meth c A F hr hlk hP hS ls hl
  obtain ⟨⟨hx, hb, hml, hown, hts⟩, hK, hDD, hA, hKC⟩ := id F
  have hl : lv_has ls 2 [(0, .ref p0)] := hl
  have hP : va_P (dC, dI) vwCl (wPad cC p0 p1 p) s.heap := hP
  unfold M_X2_clear at hM
  refine lv_aload_n hx hb dX2_clear_0 rfl (lv_at hl 0 rfl) ?_
  refine g_get (ci := 2) (C := RX2) (T := TX2) (N := 2) (v := .int p.1) F hP 0 rfl rfl inX2_clear_X2 1 (by decide) (List.mem_of_getElem? (i := 1) rfl) rfl dX2_clear_1 ?_
  refine lv_istore_n (lv' := [(1, .int p.1), (0, .ref p0)]) hx hb dX2_clear_4 rfl hl (by decide) rfl (fun ls hl => ?_)
  refine lv_aload_n hx hb dX2_clear_5 rfl (lv_at hl 1 rfl) ?_
  refine lv_iconst (v := 0) hx hb dX2_clear_6 (by decide) ?_
  refine g_put (ws' := (wPad cC p0 p1 ((0 : Int32), p.2))) (ci := 2) (C := RX2) (T := TX2) (N := 2) (v := .int (0 : Int32)) (ty := .int) F hP hS rfl tyX2 tyX2_ok nmX2 0 rfl rfl inX2_clear_X2 1 (by decide) (List.mem_of_getElem? (i := 1) rfl) rfl (by decide +kernel) rfl rfl (Nat.le_of_ble_eq_true rfl) dX2_clear_7 rfl (fun H locs hP hS => ?_)
  refine lv_iload_n hx hb dX2_clear_10 rfl (lv_at hl 0 rfl) ?_
  exact ret_i hx hb hr hlk dX2_clear_11 hM hP hS
theorem inX2_firstWrong_X2 : ∀ w ∈ wsX20, w ∈ wsX2_firstWrong := fun w h => List.mem_cons_of_mem _ (List.mem_append_right _ h)
set_option maxHeartbeats 4000000 in
set_option maxRecDepth 100000 in
theorem c_X2_firstWrong (l : Launch) (dC : Nat → ClassId) (dI : Nat → Nat → Nat) (cI cC cZ : ClassId) (sa : Nat → Nat) (p0 p1 : Nat) (p : PT) (ks : Nat) (x2 : Int32) {res : Int32} (hM : M_X2_firstWrong p ks x2 = some res) : CTi l (dC, dI) [(cI, .int), (cC, .char), (cZ, .boolean)] sa yX2_firstWrong wsX2_firstWrong (rmd 5) [.ref p0, .ref (sa ks), .int x2] (wPad cC p0 p1 p) (fun (_ : Unit) => (wPad cC p0 p1 p)) (res, ()) := by
  refine CTi.enter (own := RX2) (cc := cX2_firstWrong) (maxL := 4) (ret := (some .int)) (by decide) rfl rfl (Nat.le_of_ble_eq_true rfl) ?_
  intro pr e s m below meth c A F hr hlk hP hS ls hl
  obtain ⟨⟨hx, hb, hml, hown, hts⟩, hK, hDD, hA, hKC⟩ := id F
  have hl : lv_has ls 4 [(0, .ref p0), (1, .ref (sa ks)), (2, .int x2)] := hl
  have hP : va_P (dC, dI) vwCl (wPad cC p0 p1 p) s.heap := hP
  unfold M_X2_firstWrong at hM
  refine kloop (α := Int32) (res := res) (fun k a => M_X2_firstWrong_2 p ks x2 k a) (fun rec a => M_X2_firstWrong_2b p ks x2 rec a) (fun _ => rfl) (fun _ _ => rfl) F (fun a => (wPad cC p0 p1 p)) (fun a => [(0, .ref p0), (1, .ref (sa ks)), (2, .int x2), (3, .int a)]) (fun a => []) 2 ?_ (fun j2 => ?_)
  · intro rc2 ih2 a2 H locs ls hP hS hl hM
    unfold M_X2_firstWrong_2b at hM
    refine lv_iload_n hx hb dX2_firstWrong_2 rfl (lv_at hl 3 rfl) ?_
    refine lv_aload_n hx hb dX2_firstWrong_3 rfl (lv_at hl 0 rfl) ?_
    refine g_get (ci := 2) (C := RX2) (T := TX2) (N := 2) (v := .int p.1) F hP 0 rfl rfl inX2_firstWrong_X2 1 (by decide) (List.mem_of_getElem? (i := 1) rfl) rfl dX2_firstWrong_4 ?_
    refine lv_icmp_ge (tgt := 35) hx hb dX2_firstWrong_7 (by decide) (fun hc => ?_) (fun hc => ?_)
    · have hM := if_pp hc hM
      refine lv_bipush (v := -6) hx hb dX2_firstWrong_35 (by decide) ?_
      exact ret_i hx hb hr hlk dX2_firstWrong_37 (some_u hM) hP hS
    · have hM := if_nn hc hM
      refine lv_iload_n hx hb dX2_firstWrong_10 rfl (lv_at hl 3 rfl) ?_
      refine lv_iload_n hx hb dX2_firstWrong_11 rfl (lv_at hl 2 rfl) ?_
      refine lv_icmp_ge (tgt := 27) hx hb dX2_firstWrong_12 (by decide) (fun hc => ?_) (fun hc => ?_)
      · have hM := if_pp hc hM
        refine lv_iload_n hx hb dX2_firstWrong_27 rfl (lv_at hl 3 rfl) ?_
        exact ret_i hx hb hr hlk dX2_firstWrong_28 (some_u hM) hP hS
      · have hM := if_nn hc hM
        refine lv_aload_n hx hb dX2_firstWrong_15 rfl (lv_at hl 1 rfl) ?_
        refine lv_aload_n hx hb dX2_firstWrong_16 rfl (lv_at hl 0 rfl) ?_
        refine lv_iload_n hx hb dX2_firstWrong_17 rfl (lv_at hl 3 rfl) ?_
        obtain ⟨z18, hcr, hM⟩ := ob_s hM
        refine res_i0 F hP hS rfl [0, 1] rfl rfl (runV_of (n := 1) (As := [.int a2]) (rest := [.ref (sa ks)]) F hP hS rfl [0, 1] rfl rfl (c_X2_signAt l dC dI cI cC cZ sa p0 p1 p a2 hcr _) gX2_firstWrong_X2_signAt rfl (by decide +kernel) ⟨Nat.le_of_ble_eq_true rfl, Nat.le_of_ble_eq_true rfl⟩ 0 2 rfl rfl rfl hl.1 rfl (Nat.le_of_ble_eq_true rfl) dX2_firstWrong_18 ⟨Nat.zero_le _, Nat.zero_le _⟩) (fun H locs hP hS => ?_)
        obtain ⟨hks, hM⟩ := if_ok hM
        obtain ⟨z21, hcr, hM⟩ := ob_s hM
        refine res_i0 F hP hS rfl [] rfl rfl (runO_of (n := 1) (As := [.int z18]) (rest := []) F hP hS rfl [] rfl rfl (c_J0_indexOf_0f7a4 l dC dI cI cC cZ sa ks z18 hcr _) gX2_firstWrong_J0_indexOf_0f7a4 rfl (by decide +kernel) ⟨Nat.le_of_ble_eq_true rfl, Nat.le_of_ble_eq_true rfl⟩ (hKC.2.2.2 ks hks).1 rfl hl.1 rfl (Nat.le_of_ble_eq_true rfl) dX2_firstWrong_21 ⟨Nat.zero_le _, Nat.zero_le _⟩) (fun H locs hP hS => ?_)
        refine lv_if_ge (tgt := 29) hx hb dX2_firstWrong_24 (by decide) (fun hc => ?_) (fun hc => ?_)
        · have hM := if_pp hc hM
          refine lv_iinc (v := (a2 + (1 : Int32))) (lv' := [(3, .int (a2 + (1 : Int32))), (0, .ref p0), (1, .ref (sa ks)), (2, .int x2)]) hx hb dX2_firstWrong_29 hl (k := 3) rfl rfl (by decide) rfl (fun ls hl => ?_)
          refine lv_goto (tgt := 2) hx hb dX2_firstWrong_32 (by decide) ?_
          exact ih2 (a2 + (1 : Int32)) _ _ _ hP hS (lv_sub hl [1, 2, 3, 0] rfl) hM
        · have hM := if_nn hc hM
          refine lv_iload_n hx hb dX2_firstWrong_27 rfl (lv_at hl 3 rfl) ?_
          exact ret_i hx hb hr hlk dX2_firstWrong_28 (some_u hM) hP hS
  refine lv_iconst (v := 0) hx hb dX2_firstWrong_0 (by decide) ?_
  refine lv_istore_n (lv' := [(3, .int (0 : Int32)), (0, .ref p0), (1, .ref (sa ks)), (2, .int x2)]) hx hb dX2_firstWrong_1 rfl hl (by decide) rfl (fun ls hl => ?_)
  exact j2 200 (0 : Int32) _ _ _ hP hS (lv_sub hl [1, 2, 3, 0] rfl) hM
theorem inX2_houseFault_X2 : ∀ w ∈ wsX20, w ∈ wsX2_houseFault := fun w h => List.mem_cons_of_mem _ (List.mem_append_right _ h)
set_option maxHeartbeats 4000000 in
set_option maxRecDepth 100000 in
theorem c_X2_houseFault (l : Launch) (dC : Nat → ClassId) (dI : Nat → Nat → Nat) (cI cC cZ : ClassId) (sa : Nat → Nat) (p0 p1 : Nat) (p : PT) (x1 : Int32) {res : Int32} (hM : M_X2_houseFault p x1 = some res) : CTi l (dC, dI) [(cI, .int), (cC, .char), (cZ, .boolean)] sa yX2_houseFault wsX2_houseFault (rmd 6) [.ref p0, .int x1] (wPad cC p0 p1 p) (fun (_ : Unit) => (wPad cC p0 p1 p)) (res, ()) := by
  refine CTi.enter (own := RX2) (cc := cX2_houseFault) (maxL := 3) (ret := (some .int)) (by decide) rfl rfl (Nat.le_of_ble_eq_true rfl) ?_
  intro pr e s m below meth c A F hr hlk hP hS ls hl
  obtain ⟨⟨hx, hb, hml, hown, hts⟩, hK, hDD, hA, hKC⟩ := id F
  have hl : lv_has ls 3 [(0, .ref p0), (1, .int x1)] := hl
  have hP : va_P (dC, dI) vwCl (wPad cC p0 p1 p) s.heap := hP
  unfold M_X2_houseFault at hM
  refine lv_aload_n hx hb dX2_houseFault_0 rfl (lv_at hl 0 rfl) ?_
  refine va_ldcS hx hb hown hKC.2.1.1 dX2_houseFault_1 ?_
  refine lv_iload_n hx hb dX2_houseFault_3 rfl (lv_at hl 1 rfl) ?_
  obtain ⟨z4, hcr, hM⟩ := ob_s hM
  refine res_i0 F hP hS rfl [0, 1] rfl rfl (runV_of (n := 2) (As := [.ref (sa 0), .int x1]) (rest := []) F hP hS rfl [0, 1] rfl rfl (c_X2_firstWrong l dC dI cI cC cZ sa p0 p1 p 0 x1 hcr _) gX2_houseFault_X2_firstWrong rfl (by decide +kernel) ⟨Nat.le_of_ble_eq_true rfl, Nat.le_of_ble_eq_true rfl⟩ 0 2 rfl rfl rfl hl.1 rfl (Nat.le_of_ble_eq_true rfl) dX2_houseFault_4 ⟨Nat.zero_le _, Nat.zero_le _⟩) (fun H locs hP hS => ?_)
  refine lv_istore_n (lv' := [(2, .int z4), (0, .ref p0), (1, .int x1)]) hx hb dX2_houseFault_7 rfl hl (by decide) rfl (fun ls hl => ?_)
  refine lv_iload_n hx hb dX2_houseFault_8 rfl (lv_at hl 0 rfl) ?_
  refine lv_bipush (v := -6) hx hb dX2_houseFault_9 (by decide) ?_
  refine lv_icmp_eq (tgt := 16) hx hb dX2_houseFault_11 (by decide) (fun hc => ?_) (fun hc => ?_)
  · have hM := if_pp hc hM
    refine lv_aload_n hx hb dX2_houseFault_16 rfl (lv_at hl 1 rfl) ?_
    refine g_get (ci := 2) (C := RX2) (T := TX2) (N := 2) (v := .int p.1) F hP 0 rfl rfl inX2_houseFault_X2 1 (by decide) (List.mem_of_getElem? (i := 1) rfl) rfl dX2_houseFault_17 ?_
    refine lv_iload_n hx hb dX2_houseFault_20 rfl (lv_at hl 2 rfl) ?_
    refine lv_icmp_ge (tgt := 31) hx hb dX2_houseFault_21 (by decide) (fun hc => ?_) (fun hc => ?_)
    · have hM := if_pp hc hM
      refine lv_bipush (v := -6) hx hb dX2_houseFault_31 (by decide) ?_
      exact ret_i hx hb hr hlk dX2_houseFault_33 (some_u hM) hP hS
    · have hM := if_nn hc hM
      refine lv_aload_n hx hb dX2_houseFault_24 rfl (lv_at hl 1 rfl) ?_
      refine g_get (ci := 2) (C := RX2) (T := TX2) (N := 2) (v := .int p.1) F hP 0 rfl rfl inX2_houseFault_X2 1 (by decide) (List.mem_of_getElem? (i := 1) rfl) rfl dX2_houseFault_25 ?_
      refine lv_goto (tgt := 33) hx hb dX2_houseFault_28 (by decide) ?_
      exact ret_i hx hb hr hlk dX2_houseFault_33 (some_u hM) hP hS
  · have hM := if_nn hc hM
    refine lv_iload_n hx hb dX2_houseFault_14 rfl (lv_at hl 0 rfl) ?_
    exact ret_i hx hb hr hlk dX2_houseFault_15 (some_u hM) hP hS
theorem inX2_isAll_X2 : ∀ w ∈ wsX20, w ∈ wsX2_isAll := fun w h => List.mem_cons_of_mem _ (List.mem_append_right _ h)
set_option maxHeartbeats 4000000 in
set_option maxRecDepth 100000 in
theorem c_X2_isAll (l : Launch) (dC : Nat → ClassId) (dI : Nat → Nat → Nat) (cI cC cZ : ClassId) (sa : Nat → Nat) (p0 p1 : Nat) (p : PT) (x1 : Int32) {res : Int32} (hM : M_X2_isAll p x1 = some res) : CTi l (dC, dI) [(cI, .int), (cC, .char), (cZ, .boolean)] sa yX2_isAll wsX2_isAll (rmd 2) [.ref p0, .int x1] (wPad cC p0 p1 p) (fun (_ : Unit) => (wPad cC p0 p1 p)) (res, ()) := by
  refine CTi.enter (own := RX2) (cc := cX2_isAll) (maxL := 3) (ret := (some .boolean)) (by decide) rfl rfl (Nat.le_of_ble_eq_true rfl) ?_
  intro pr e s m below meth c A F hr hlk hP hS ls hl
  obtain ⟨⟨hx, hb, hml, hown, hts⟩, hK, hDD, hA, hKC⟩ := id F
  have hl : lv_has ls 3 [(0, .ref p0), (1, .int x1)] := hl
  have hP : va_P (dC, dI) vwCl (wPad cC p0 p1 p) s.heap := hP
  unfold M_X2_isAll at hM
  refine kloop (α := Int32) (res := res) (fun k a => M_X2_isAll_2 p x1 k a) (fun rec a => M_X2_isAll_2b p x1 rec a) (fun _ => rfl) (fun _ _ => rfl) F (fun a => (wPad cC p0 p1 p)) (fun a => [(0, .ref p0), (1, .int x1), (2, .int a)]) (fun a => []) 2 ?_ (fun j2 => ?_)
  · intro rc2 ih2 a2 H locs ls hP hS hl hM
    unfold M_X2_isAll_2b at hM
    refine lv_iload_n hx hb dX2_isAll_2 rfl (lv_at hl 2 rfl) ?_
    refine lv_aload_n hx hb dX2_isAll_3 rfl (lv_at hl 0 rfl) ?_
    refine g_get (ci := 2) (C := RX2) (T := TX2) (N := 2) (v := .int p.1) F hP 0 rfl rfl inX2_isAll_X2 1 (by decide) (List.mem_of_getElem? (i := 1) rfl) rfl dX2_isAll_4 ?_
    refine lv_icmp_ge (tgt := 27) hx hb dX2_isAll_7 (by decide) (fun hc => ?_) (fun hc => ?_)
    · have hM := if_pp hc hM
      refine lv_iconst (v := 1) hx hb dX2_isAll_27 (by decide) ?_
      exact ret_z hx hb hr hlk dX2_isAll_28 (by decide) (some_u hM) hP hS
    · have hM := if_nn hc hM
      refine lv_aload_n hx hb dX2_isAll_10 rfl (lv_at hl 0 rfl) ?_
      refine lv_iload_n hx hb dX2_isAll_11 rfl (lv_at hl 2 rfl) ?_
      obtain ⟨z12, hcr, hM⟩ := ob_s hM
      refine res_i0 F hP hS rfl [0, 1] rfl rfl (runV_of (n := 1) (As := [.int a2]) (rest := []) F hP hS rfl [0, 1] rfl rfl (c_X2_signAt l dC dI cI cC cZ sa p0 p1 p a2 hcr _) gX2_isAll_X2_signAt rfl (by decide +kernel) ⟨Nat.le_of_ble_eq_true rfl, Nat.le_of_ble_eq_true rfl⟩ 0 2 rfl rfl rfl hl.1 rfl (Nat.le_of_ble_eq_true rfl) dX2_isAll_12 ⟨Nat.zero_le _, Nat.zero_le _⟩) (fun H locs hP hS => ?_)
      refine lv_iload_n hx hb dX2_isAll_15 rfl (lv_at hl 1 rfl) ?_
      refine lv_icmp_eq (tgt := 21) hx hb dX2_isAll_16 (by decide) (fun hc => ?_) (fun hc => ?_)
      · have hM := if_pp hc hM
        refine lv_iinc (v := (a2 + (1 : Int32))) (lv' := [(2, .int (a2 + (1 : Int32))), (0, .ref p0), (1, .int x1)]) hx hb dX2_isAll_21 hl (k := 2) rfl rfl (by decide) rfl (fun ls hl => ?_)
        refine lv_goto (tgt := 2) hx hb dX2_isAll_24 (by decide) ?_
        exact ih2 (a2 + (1 : Int32)) _ _ _ hP hS (lv_sub hl [1, 2, 0] rfl) hM
      · have hM := if_nn hc hM
        refine lv_iconst (v := 0) hx hb dX2_isAll_19 (by decide) ?_
        exact ret_z hx hb hr hlk dX2_isAll_20 (by decide) (some_u hM) hP hS
  refine lv_iconst (v := 0) hx hb dX2_isAll_0 (by decide) ?_
  refine lv_istore_n (lv' := [(2, .int (0 : Int32)), (0, .ref p0), (1, .int x1)]) hx hb dX2_isAll_1 rfl hl (by decide) rfl (fun ls hl => ?_)
  exact j2 200 (0 : Int32) _ _ _ hP hS (lv_sub hl [1, 2, 0] rfl) hM
set_option maxHeartbeats 4000000 in
set_option maxRecDepth 100000 in
theorem c_X2_stepAt (l : Launch) (dC : Nat → ClassId) (dI : Nat → Nat → Nat) (cI cC cZ : ClassId) (sa : Nat → Nat) (p0 p1 : Nat) (p : PT) (x1 : Int32) {res : Int32} (hM : M_X2_stepAt p x1 = some res) : CTi l (dC, dI) [(cI, .int), (cC, .char), (cZ, .boolean)] sa yX2_stepAt wsX2_stepAt (rmd 5) [.ref p0, .int x1] (wPad cC p0 p1 p) (fun (_ : Unit) => (wPad cC p0 p1 p)) (res, ()) := by
  refine CTi.enter (own := RX2) (cc := cX2_stepAt) (maxL := 2) (ret := (some .int)) (by decide) rfl rfl (Nat.le_of_ble_eq_true rfl) ?_
  intro pr e s m below meth c A F hr hlk hP hS ls hl
  obtain ⟨⟨hx, hb, hml, hown, hts⟩, hK, hDD, hA, hKC⟩ := id F
  have hl : lv_has ls 2 [(0, .ref p0), (1, .int x1)] := hl
  have hP : va_P (dC, dI) vwCl (wPad cC p0 p1 p) s.heap := hP
  unfold M_X2_stepAt at hM
  refine va_ldcS hx hb hown hKC.2.1.2.1 dX2_stepAt_0 ?_
  refine lv_aload_n hx hb dX2_stepAt_2 rfl (lv_at hl 0 rfl) ?_
  refine lv_iload_n hx hb dX2_stepAt_3 rfl (lv_at hl 1 rfl) ?_
  obtain ⟨z4, hcr, hM⟩ := ob_s hM
  refine res_i0 F hP hS rfl [0, 1] rfl rfl (runV_of (n := 1) (As := [.int x1]) (rest := [.ref (sa 1)]) F hP hS rfl [0, 1] rfl rfl (c_X2_signAt l dC dI cI cC cZ sa p0 p1 p x1 hcr _) gX2_stepAt_X2_signAt rfl (by decide +kernel) ⟨Nat.le_of_ble_eq_true rfl, Nat.le_of_ble_eq_true rfl⟩ 0 2 rfl rfl rfl hl.1 rfl (Nat.le_of_ble_eq_true rfl) dX2_stepAt_4 ⟨Nat.zero_le _, Nat.zero_le _⟩) (fun H locs hP hS => ?_)
  obtain ⟨z7, hcr, hM⟩ := ob_s hM
  refine res_i0 F hP hS rfl [] rfl rfl (runO_of (n := 1) (As := [.int z4]) (rest := []) F hP hS rfl [] rfl rfl (c_J0_indexOf_0f7a4 l dC dI cI cC cZ sa 1 z4 hcr _) gX2_stepAt_J0_indexOf_0f7a4 rfl (by decide +kernel) ⟨Nat.le_of_ble_eq_true rfl, Nat.le_of_ble_eq_true rfl⟩ (hKC.2.2.2 1 (by decide)).1 rfl hl.1 rfl (Nat.le_of_ble_eq_true rfl) dX2_stepAt_7 ⟨Nat.zero_le _, Nat.zero_le _⟩) (fun H locs hP hS => ?_)
  exact ret_i hx hb hr hlk dX2_stepAt_10 (some_u hM) hP hS
set_option maxHeartbeats 4000000 in
set_option maxRecDepth 100000 in
theorem c_X2_walkFault (l : Launch) (dC : Nat → ClassId) (dI : Nat → Nat → Nat) (cI cC cZ : ClassId) (sa : Nat → Nat) (p0 p1 : Nat) (p : PT)  {res : Int32} (hM : M_X2_walkFault p = some res) : CTi l (dC, dI) [(cI, .int), (cC, .char), (cZ, .boolean)] sa yX2_walkFault wsX2_walkFault (rmd 6) [.ref p0] (wPad cC p0 p1 p) (fun (_ : Unit) => (wPad cC p0 p1 p)) (res, ()) := by
  refine CTi.enter (own := RX2) (cc := cX2_walkFault) (maxL := 1) (ret := (some .int)) (by decide) rfl rfl (Nat.le_of_ble_eq_true rfl) ?_
  intro pr e s m below meth c A F hr hlk hP hS ls hl
  obtain ⟨⟨hx, hb, hml, hown, hts⟩, hK, hDD, hA, hKC⟩ := id F
  have hl : lv_has ls 1 [(0, .ref p0)] := hl
  have hP : va_P (dC, dI) vwCl (wPad cC p0 p1 p) s.heap := hP
  unfold M_X2_walkFault at hM
  refine lv_aload_n hx hb dX2_walkFault_0 rfl (lv_at hl 0 rfl) ?_
  refine va_ldcS hx hb hown hKC.2.1.2.1 dX2_walkFault_1 ?_
  refine lv_bipush (v := 40) hx hb dX2_walkFault_3 (by decide) ?_
  obtain ⟨z5, hcr, hM⟩ := ob_s hM
  refine res_i0 F hP hS rfl [0, 1] rfl rfl (runV_of (n := 2) (As := [.ref (sa 1), .int (40 : Int32)]) (rest := []) F hP hS rfl [0, 1] rfl rfl (c_X2_firstWrong l dC dI cI cC cZ sa p0 p1 p 1 (40 : Int32) hcr _) gX2_walkFault_X2_firstWrong rfl (by decide +kernel) ⟨Nat.le_of_ble_eq_true rfl, Nat.le_of_ble_eq_true rfl⟩ 0 2 rfl rfl rfl hl.1 rfl (Nat.le_of_ble_eq_true rfl) dX2_walkFault_5 ⟨Nat.zero_le _, Nat.zero_le _⟩) (fun H locs hP hS => ?_)
  exact ret_i hx hb hr hlk dX2_walkFault_8 (some_u hM) hP hS
set_option maxHeartbeats 4000000 in
set_option maxRecDepth 100000 in
theorem c_X8_signOfStep (l : Launch) (dC : Nat → ClassId) (dI : Nat → Nat → Nat) (cI cC cZ : ClassId) (sa : Nat → Nat)  (x1 : Int32) {res : Int32} (hM : M_X8_signOfStep x1 = some res) : CTi l (dC, dI) [(cI, .int), (cC, .char), (cZ, .boolean)] sa yX8_signOfStep wsX8_signOfStep (rmd 5) [.int x1] ([] : va_W) (fun (_ : Unit) => ([] : va_W)) (res, ()) := by
  refine CTi.enter (own := RX8) (cc := cX8_signOfStep) (maxL := 1) (ret := (some .int)) (by decide) rfl rfl (Nat.le_of_ble_eq_true rfl) ?_
  intro pr e s m below meth c A F hr hlk hP hS ls hl
  obtain ⟨⟨hx, hb, hml, hown, hts⟩, hK, hDD, hA, hKC⟩ := id F
  have hl : lv_has ls 1 [(0, .int x1)] := hl
  have hP : va_P (dC, dI) vwCl ([] : va_W) s.heap := hP
  unfold M_X8_signOfStep at hM
  refine lv_iload_n hx hb dX8_signOfStep_0 rfl (lv_at hl 0 rfl) ?_
  refine lv_iconst (v := 0) hx hb dX8_signOfStep_1 (by decide) ?_
  refine va_ldcwS hx hb hown hKC.2.1.2.2 dX8_signOfStep_2 ?_
  obtain ⟨z5, hcr, hM⟩ := ob_s hM
  refine res_i0 F hP hS rfl [] rfl rfl (runO_of (n := 0) (As := []) (rest := [.int (0 : Int32), .int x1]) F hP hS rfl [] rfl rfl (c_J0_length_8abf5 l dC dI cI cC cZ sa 1 hcr _) gX8_signOfStep_J0_length_8abf5 rfl (by decide +kernel) ⟨Nat.le_of_ble_eq_true rfl, Nat.le_of_ble_eq_true rfl⟩ (hKC.2.2.2 1 (by decide)).1 rfl hl.1 rfl (Nat.le_of_ble_eq_true rfl) dX8_signOfStep_5 ⟨Nat.zero_le _, Nat.zero_le _⟩) (fun H locs hP hS => ?_)
  refine lv_iconst (v := 1) hx hb dX8_signOfStep_8 (by decide) ?_
  refine lv_isub hx hb dX8_signOfStep_9 ?_
  obtain ⟨z10, hcr, hM⟩ := ob_s hM
  refine res_i0 F hP hS rfl [] rfl rfl (runS_of (n := 3) (As := [.int x1, .int (0 : Int32), .int (z5 - (1 : Int32))]) (rest := []) F hP hS rfl [] rfl rfl (c_X8_within l dC dI cI cC cZ sa x1 (0 : Int32) (z5 - (1 : Int32)) hcr _) gX8_signOfStep_X8_within rfl (by decide +kernel) ⟨Nat.le_of_ble_eq_true rfl, Nat.le_of_ble_eq_true rfl⟩ rfl hl.1 rfl (Nat.le_of_ble_eq_true rfl) dX8_signOfStep_10 ⟨Nat.zero_le _, Nat.zero_le _⟩) (fun H locs hP hS => ?_)
  refine lv_if_eq (tgt := 26) hx hb dX8_signOfStep_13 (by decide) (fun hc => ?_) (fun hc => ?_)
  · have hM := if_pp hc hM
    refine lv_bipush (v := -6) hx hb dX8_signOfStep_26 (by decide) ?_
    exact ret_i hx hb hr hlk dX8_signOfStep_28 (some_u hM) hP hS
  · have hM := if_nn hc hM
    refine va_ldcwS hx hb hown hKC.2.1.2.2 dX8_signOfStep_16 ?_
    refine lv_iload_n hx hb dX8_signOfStep_19 rfl (lv_at hl 0 rfl) ?_
    obtain ⟨z20, hcr, hM⟩ := ob_s hM
    refine res_i0 F hP hS rfl [] rfl rfl (runO_of (n := 1) (As := [.int x1]) (rest := []) F hP hS rfl [] rfl rfl (c_J0_charAt_5068e l dC dI cI cC cZ sa 1 x1 hcr _) gX8_signOfStep_J0_charAt_5068e rfl (by decide +kernel) ⟨Nat.le_of_ble_eq_true rfl, Nat.le_of_ble_eq_true rfl⟩ (hKC.2.2.2 1 (by decide)).1 rfl hl.1 rfl (Nat.le_of_ble_eq_true rfl) dX8_signOfStep_20 ⟨Nat.zero_le _, Nat.zero_le _⟩) (fun H locs hP hS => ?_)
    refine lv_goto (tgt := 28) hx hb dX8_signOfStep_23 (by decide) ?_
    exact ret_i hx hb hr hlk dX8_signOfStep_28 (some_u hM) hP hS
