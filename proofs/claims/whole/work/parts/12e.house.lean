/-! Walks, printed by wip/whole/gen.py -/
theorem inX2_signAt_X2 : ∀ w ∈ wsX20, w ∈ wsX2_signAt := fun w h => List.mem_cons_of_mem _ (List.mem_append_right _ h)
set_option maxHeartbeats 4000000 in
set_option maxRecDepth 100000 in
theorem c_X2_signAt (l : Launch) (dC : Nat → ClassId) (dI : Nat → Nat → Nat) (cI cC cZ : ClassId) (sa : Nat → Nat) (p0 p1 : Nat) (p : PT) (x1 : Int32) {res : Int32} (hM : M_X2_signAt p x1 = some res) : CTi l (dC, dI) [(cI, .int), (cC, .char), (cZ, .boolean)] sa yX2_signAt wsX2_signAt (rmd 1) [.ref p0, .int x1] (wPad cC p0 p1 p) (fun (_ : Unit) => (wPad cC p0 p1 p)) (res, ()) := by
  refine CTi.enter (own := RX2) (cc := cX2_signAt) (maxL := 2) (ret := (some .char)) (by decide) rfl rfl (Nat.le_of_ble_eq_true rfl) ?_
  intro pr e s m below meth c A F hr hlk hP hS ls hl
  obtain ⟨⟨hx, hb, hml, hown, hts⟩, hK, hDD, hA, hKC⟩ := id F
  have hl : lv_has ls 2 [(0, .ref p0), (1, .int x1)] := hl
  have hP : va_P (dC, dI) vwCl (wPad cC p0 p1 p) s.heap := hP
  unfold M_X2_signAt at hM
  refine lv_iload_n hx hb dX2_signAt_0 rfl (lv_at hl 1 rfl) ?_
  refine lv_if_lt (tgt := 30) hx hb dX2_signAt_1 (by decide) (fun hc => ?_) (fun hc => ?_)
  · have hM := if_pp hc hM
    refine lv_bipush (v := 32) hx hb dX2_signAt_30 (by decide) ?_
    exact ret_z hx hb hr hlk dX2_signAt_32 (by decide) (some_u hM) hP hS
  · have hM := if_nn hc hM
    refine lv_iload_n hx hb dX2_signAt_4 rfl (lv_at hl 1 rfl) ?_
    refine lv_aload_n hx hb dX2_signAt_5 rfl (lv_at hl 0 rfl) ?_
    refine g_get (ci := 2) (C := RX2) (T := TX2) (N := 2) (v := .int p.1) F hP 0 rfl rfl inX2_signAt_X2 1 (by decide) (List.mem_of_getElem? (i := 1) rfl) rfl dX2_signAt_6 ?_
    refine lv_icmp_ge (tgt := 30) hx hb dX2_signAt_9 (by decide) (fun hc => ?_) (fun hc => ?_)
    · have hM := if_pp hc hM
      refine lv_bipush (v := 32) hx hb dX2_signAt_30 (by decide) ?_
      exact ret_z hx hb hr hlk dX2_signAt_32 (by decide) (some_u hM) hP hS
    · have hM := if_nn hc hM
      refine lv_iload_n hx hb dX2_signAt_12 rfl (lv_at hl 1 rfl) ?_
      refine lv_aload_n hx hb dX2_signAt_13 rfl (lv_at hl 0 rfl) ?_
      refine g_get (ci := 2) (C := RX2) (T := TX2) (N := 2) (v := .ref p1) F hP 0 rfl rfl inX2_signAt_X2 0 (by decide) (List.mem_of_getElem? (i := 2) rfl) rfl dX2_signAt_14 ?_
      refine va_alen (v := (nI 40)) hx hb hK hP 1 1 rfl rfl rfl dX2_signAt_17 ?_
      refine lv_icmp_ge (tgt := 30) hx hb dX2_signAt_18 (by decide) (fun hc => ?_) (fun hc => ?_)
      · have hM := if_pp hc hM
        refine lv_bipush (v := 32) hx hb dX2_signAt_30 (by decide) ?_
        exact ret_z hx hb hr hlk dX2_signAt_32 (by decide) (some_u hM) hP hS
      · have hM := if_nn hc hM
        refine lv_aload_n hx hb dX2_signAt_21 rfl (lv_at hl 0 rfl) ?_
        refine g_get (ci := 2) (C := RX2) (T := TX2) (N := 2) (v := .ref p1) F hP 0 rfl rfl inX2_signAt_X2 0 (by decide) (List.mem_of_getElem? (i := 2) rfl) rfl dX2_signAt_22 ?_
        refine lv_iload_n hx hb dX2_signAt_25 rfl (lv_at hl 1 rfl) ?_
        obtain ⟨hin, hM⟩ := if_ok hM
        refine va_cald hx hb hK hP 1 1 rfl rfl hin dX2_signAt_26 ?_
        refine lv_goto (tgt := 32) hx hb dX2_signAt_27 (by decide) ?_
        obtain ⟨hnz, hM⟩ := if_ok hM
        exact ret_z hx hb hr hlk dX2_signAt_32 (nar_c hnz) (some_u hM) hP hS
theorem inX0_furnishCell_X0 : ∀ w ∈ wsX00, w ∈ wsX0_furnishCell := fun w h => List.mem_cons_of_mem _ (List.mem_append_right _ h)
set_option maxHeartbeats 4000000 in
set_option maxRecDepth 100000 in
theorem c_X0_furnishCell (l : Launch) (dC : Nat → ClassId) (dI : Nat → Nat → Nat) (cI cC cZ : ClassId) (sa : Nat → Nat) (h0 v0 v1 v2 v3 : Nat) (h : HT) (v : VT) (x1 : Int32) (x2 : Int32) {res : HT} (hM : M_X0_furnishCell h x1 x2 = some res) : CTv l (dC, dI) [(cI, .int), (cC, .char), (cZ, .boolean)] sa yX0_furnishCell wsX0_furnishCell (rmd 2) [.ref h0, .int x1, .int x2] (wHouse cI h0 v0 v1 v2 v3 h v) (fun (uu : HT) => (wHouse cI h0 v0 v1 v2 v3 uu v)) res := by
  refine CTv.enter (own := RX0) (cc := cX0_furnishCell) (maxL := 3) (ret := none) (by decide) rfl rfl (Nat.le_of_ble_eq_true rfl) ?_
  intro pr e s m below meth c A F hr hlk hP hS ls hl
  obtain ⟨⟨hx, hb, hml, hown, hts⟩, hK, hDD, hA, hKC⟩ := id F
  have hl : lv_has ls 3 [(0, .ref h0), (1, .int x1), (2, .int x2)] := hl
  have hP : va_P (dC, dI) vwCl (wHouse cI h0 v0 v1 v2 v3 h v) s.heap := hP
  unfold M_X0_furnishCell at hM
  refine kblk (α := HT × Int32 × Int32) (res := res) (fun a => M_X0_furnishCell_88 x1 x2 a) F (fun a => (wHouse cI h0 v0 v1 v2 v3 a.1 v)) (fun a => [(0, .ref h0)]) (fun a => [.int a.2.1, .int a.2.2, .ref h0]) 88 ?_ (fun j88 => ?_)
  · intro a88 H locs ls hP hS hl hM
    unfold M_X0_furnishCell_88 at hM
    refine lv_ior hx hb dX0_furnishCell_88 ?_
    refine g_put (ws' := (wHouse cI h0 v0 v1 v2 v3 (a88.1.1, a88.1.2.1, a88.1.2.2.1, a88.1.2.2.2.1, a88.1.2.2.2.2.1, a88.1.2.2.2.2.2.1, a88.1.2.2.2.2.2.2.1, a88.1.2.2.2.2.2.2.2.1, (a88.2.2 ||| a88.2.1), a88.1.2.2.2.2.2.2.2.2.2.1, a88.1.2.2.2.2.2.2.2.2.2.2.1, a88.1.2.2.2.2.2.2.2.2.2.2.2) v)) (ci := 0) (C := RX0) (T := TX0) (N := 13) (v := .int (a88.2.2 ||| a88.2.1)) (ty := .int) F hP hS rfl tyX0 tyX0_ok nmX0 0 rfl rfl inX0_furnishCell_X0 8 (by decide) (List.mem_of_getElem? (i := 4) rfl) rfl (by decide +kernel) rfl rfl (Nat.le_of_ble_eq_true rfl) dX0_furnishCell_89 rfl (fun H locs hP hS => ?_)
    exact ret_v hx hb hr hlk dX0_furnishCell_92 hM hP hS
  refine kblk (α := HT × Int32 × Int32) (res := res) (fun a => M_X0_furnishCell_65 x1 x2 a) F (fun a => (wHouse cI h0 v0 v1 v2 v3 a.1 v)) (fun a => [(0, .ref h0), (1, .int x1), (2, .int x2)]) (fun a => [.int a.2.1, .int a.2.2, .ref h0]) 65 ?_ (fun j65 => ?_)
  · intro a65 H locs ls hP hS hl hM
    unfold M_X0_furnishCell_65 at hM
    refine lv_ior hx hb dX0_furnishCell_65 ?_
    refine g_put (ws' := (wHouse cI h0 v0 v1 v2 v3 (a65.1.1, a65.1.2.1, a65.1.2.2.1, a65.1.2.2.2.1, a65.1.2.2.2.2.1, a65.1.2.2.2.2.2.1, a65.1.2.2.2.2.2.2.1, (a65.2.2 ||| a65.2.1), a65.1.2.2.2.2.2.2.2.2.1, a65.1.2.2.2.2.2.2.2.2.2.1, a65.1.2.2.2.2.2.2.2.2.2.2.1, a65.1.2.2.2.2.2.2.2.2.2.2.2) v)) (ci := 0) (C := RX0) (T := TX0) (N := 13) (v := .int (a65.2.2 ||| a65.2.1)) (ty := .int) F hP hS rfl tyX0 tyX0_ok nmX0 0 rfl rfl inX0_furnishCell_X0 7 (by decide) (List.mem_of_getElem? (i := 3) rfl) rfl (by decide +kernel) rfl rfl (Nat.le_of_ble_eq_true rfl) dX0_furnishCell_66 rfl (fun H locs hP hS => ?_)
    refine lv_aload_n hx hb dX0_furnishCell_69 rfl (lv_at hl 0 rfl) ?_
    refine lv_dup hx hb dX0_furnishCell_70 rfl ?_
    refine g_get (ci := 0) (C := RX0) (T := TX0) (N := 13) (v := .int a65.1.2.2.2.2.2.2.2.2.1) F hP 0 rfl rfl inX0_furnishCell_X0 8 (by decide) (List.mem_of_getElem? (i := 4) rfl) rfl dX0_furnishCell_71 ?_
    refine lv_iload_n hx hb dX0_furnishCell_74 rfl (lv_at hl 2 rfl) ?_
    refine lv_bipush (v := 100) hx hb dX0_furnishCell_75 (by decide) ?_
    refine lv_icmp_ne (tgt := 87) hx hb dX0_furnishCell_77 (by decide) (fun hc => ?_) (fun hc => ?_)
    · have hM := if_nn hc hM
      refine lv_iconst (v := 0) hx hb dX0_furnishCell_87 (by decide) ?_
      exact j88 ((a65.1.1, a65.1.2.1, a65.1.2.2.1, a65.1.2.2.2.1, a65.1.2.2.2.2.1, a65.1.2.2.2.2.2.1, a65.1.2.2.2.2.2.2.1, (a65.2.2 ||| a65.2.1), a65.1.2.2.2.2.2.2.2.2.1, a65.1.2.2.2.2.2.2.2.2.2.1, a65.1.2.2.2.2.2.2.2.2.2.2.1, a65.1.2.2.2.2.2.2.2.2.2.2.2), (0 : Int32), a65.1.2.2.2.2.2.2.2.2.1) _ _ _ hP hS (lv_sub hl [0] rfl) hM
    · have hM := if_pp hc hM
      refine lv_iload_n hx hb dX0_furnishCell_80 rfl (lv_at hl 1 rfl) ?_
      obtain ⟨z81, hcr, hM⟩ := ob_s hM
      refine res_i0 F hP hS rfl [] rfl rfl (runN_of (n := 1) (As := [.int x1]) (rest := [.int a65.1.2.2.2.2.2.2.2.2.1, .ref h0]) F hP hS rfl [] rfl rfl (c_X8_bit l dC dI cI cC cZ sa x1 hcr _) gX0_furnishCell_X8_bit_n42 rfl 7 rfl (hts _ (List.mem_of_getElem? (i := 6) rfl)) (hts _ (List.mem_of_getElem? (i := 5) rfl)) (by decide +kernel) ⟨Nat.le_of_ble_eq_true rfl, Nat.le_of_ble_eq_true rfl⟩ rfl hl.1 rfl (Nat.le_of_ble_eq_true rfl) dX0_furnishCell_81 ⟨Nat.zero_le _, Nat.zero_le _⟩) (fun H locs hP hS => ?_)
      refine lv_goto (tgt := 88) hx hb dX0_furnishCell_84 (by decide) ?_
      exact j88 ((a65.1.1, a65.1.2.1, a65.1.2.2.1, a65.1.2.2.2.1, a65.1.2.2.2.2.1, a65.1.2.2.2.2.2.1, a65.1.2.2.2.2.2.2.1, (a65.2.2 ||| a65.2.1), a65.1.2.2.2.2.2.2.2.2.1, a65.1.2.2.2.2.2.2.2.2.2.1, a65.1.2.2.2.2.2.2.2.2.2.2.1, a65.1.2.2.2.2.2.2.2.2.2.2.2), z81, a65.1.2.2.2.2.2.2.2.2.1) _ _ _ hP hS (lv_sub hl [0] rfl) hM
  refine kblk (α := HT × Int32 × Int32) (res := res) (fun a => M_X0_furnishCell_42 x1 x2 a) F (fun a => (wHouse cI h0 v0 v1 v2 v3 a.1 v)) (fun a => [(0, .ref h0), (1, .int x1), (2, .int x2)]) (fun a => [.int a.2.1, .int a.2.2, .ref h0]) 42 ?_ (fun j42 => ?_)
  · intro a42 H locs ls hP hS hl hM
    unfold M_X0_furnishCell_42 at hM
    refine lv_ior hx hb dX0_furnishCell_42 ?_
    refine g_put (ws' := (wHouse cI h0 v0 v1 v2 v3 (a42.1.1, a42.1.2.1, a42.1.2.2.1, a42.1.2.2.2.1, a42.1.2.2.2.2.1, a42.1.2.2.2.2.2.1, (a42.2.2 ||| a42.2.1), a42.1.2.2.2.2.2.2.2.1, a42.1.2.2.2.2.2.2.2.2.1, a42.1.2.2.2.2.2.2.2.2.2.1, a42.1.2.2.2.2.2.2.2.2.2.2.1, a42.1.2.2.2.2.2.2.2.2.2.2.2) v)) (ci := 0) (C := RX0) (T := TX0) (N := 13) (v := .int (a42.2.2 ||| a42.2.1)) (ty := .int) F hP hS rfl tyX0 tyX0_ok nmX0 0 rfl rfl inX0_furnishCell_X0 6 (by decide) (List.mem_of_getElem? (i := 2) rfl) rfl (by decide +kernel) rfl rfl (Nat.le_of_ble_eq_true rfl) dX0_furnishCell_43 rfl (fun H locs hP hS => ?_)
    refine lv_aload_n hx hb dX0_furnishCell_46 rfl (lv_at hl 0 rfl) ?_
    refine lv_dup hx hb dX0_furnishCell_47 rfl ?_
    refine g_get (ci := 0) (C := RX0) (T := TX0) (N := 13) (v := .int a42.1.2.2.2.2.2.2.2.1) F hP 0 rfl rfl inX0_furnishCell_X0 7 (by decide) (List.mem_of_getElem? (i := 3) rfl) rfl dX0_furnishCell_48 ?_
    refine lv_iload_n hx hb dX0_furnishCell_51 rfl (lv_at hl 2 rfl) ?_
    refine lv_bipush (v := 99) hx hb dX0_furnishCell_52 (by decide) ?_
    refine lv_icmp_ne (tgt := 64) hx hb dX0_furnishCell_54 (by decide) (fun hc => ?_) (fun hc => ?_)
    · have hM := if_nn hc hM
      refine lv_iconst (v := 0) hx hb dX0_furnishCell_64 (by decide) ?_
      exact j65 ((a42.1.1, a42.1.2.1, a42.1.2.2.1, a42.1.2.2.2.1, a42.1.2.2.2.2.1, a42.1.2.2.2.2.2.1, (a42.2.2 ||| a42.2.1), a42.1.2.2.2.2.2.2.2.1, a42.1.2.2.2.2.2.2.2.2.1, a42.1.2.2.2.2.2.2.2.2.2.1, a42.1.2.2.2.2.2.2.2.2.2.2.1, a42.1.2.2.2.2.2.2.2.2.2.2.2), (0 : Int32), a42.1.2.2.2.2.2.2.2.1) _ _ _ hP hS (lv_sub hl [0, 1, 2] rfl) hM
    · have hM := if_pp hc hM
      refine lv_iload_n hx hb dX0_furnishCell_57 rfl (lv_at hl 1 rfl) ?_
      obtain ⟨z58, hcr, hM⟩ := ob_s hM
      refine res_i0 F hP hS rfl [] rfl rfl (runN_of (n := 1) (As := [.int x1]) (rest := [.int a42.1.2.2.2.2.2.2.2.1, .ref h0]) F hP hS rfl [] rfl rfl (c_X8_bit l dC dI cI cC cZ sa x1 hcr _) gX0_furnishCell_X8_bit_n42 rfl 7 rfl (hts _ (List.mem_of_getElem? (i := 6) rfl)) (hts _ (List.mem_of_getElem? (i := 5) rfl)) (by decide +kernel) ⟨Nat.le_of_ble_eq_true rfl, Nat.le_of_ble_eq_true rfl⟩ rfl hl.1 rfl (Nat.le_of_ble_eq_true rfl) dX0_furnishCell_58 ⟨Nat.zero_le _, Nat.zero_le _⟩) (fun H locs hP hS => ?_)
      refine lv_goto (tgt := 65) hx hb dX0_furnishCell_61 (by decide) ?_
      exact j65 ((a42.1.1, a42.1.2.1, a42.1.2.2.1, a42.1.2.2.2.1, a42.1.2.2.2.2.1, a42.1.2.2.2.2.2.1, (a42.2.2 ||| a42.2.1), a42.1.2.2.2.2.2.2.2.1, a42.1.2.2.2.2.2.2.2.2.1, a42.1.2.2.2.2.2.2.2.2.2.1, a42.1.2.2.2.2.2.2.2.2.2.2.1, a42.1.2.2.2.2.2.2.2.2.2.2.2), z58, a42.1.2.2.2.2.2.2.2.1) _ _ _ hP hS (lv_sub hl [0, 1, 2] rfl) hM
  refine kblk (α := HT × Int32 × Int32) (res := res) (fun a => M_X0_furnishCell_19 x1 x2 a) F (fun a => (wHouse cI h0 v0 v1 v2 v3 a.1 v)) (fun a => [(0, .ref h0), (1, .int x1), (2, .int x2)]) (fun a => [.int a.2.1, .int a.2.2, .ref h0]) 19 ?_ (fun j19 => ?_)
  · intro a19 H locs ls hP hS hl hM
    unfold M_X0_furnishCell_19 at hM
    refine lv_ior hx hb dX0_furnishCell_19 ?_
    refine g_put (ws' := (wHouse cI h0 v0 v1 v2 v3 (a19.1.1, a19.1.2.1, a19.1.2.2.1, a19.1.2.2.2.1, a19.1.2.2.2.2.1, (a19.2.2 ||| a19.2.1), a19.1.2.2.2.2.2.2.1, a19.1.2.2.2.2.2.2.2.1, a19.1.2.2.2.2.2.2.2.2.1, a19.1.2.2.2.2.2.2.2.2.2.1, a19.1.2.2.2.2.2.2.2.2.2.2.1, a19.1.2.2.2.2.2.2.2.2.2.2.2) v)) (ci := 0) (C := RX0) (T := TX0) (N := 13) (v := .int (a19.2.2 ||| a19.2.1)) (ty := .int) F hP hS rfl tyX0 tyX0_ok nmX0 0 rfl rfl inX0_furnishCell_X0 5 (by decide) (List.mem_of_getElem? (i := 1) rfl) rfl (by decide +kernel) rfl rfl (Nat.le_of_ble_eq_true rfl) dX0_furnishCell_20 rfl (fun H locs hP hS => ?_)
    refine lv_aload_n hx hb dX0_furnishCell_23 rfl (lv_at hl 0 rfl) ?_
    refine lv_dup hx hb dX0_furnishCell_24 rfl ?_
    refine g_get (ci := 0) (C := RX0) (T := TX0) (N := 13) (v := .int a19.1.2.2.2.2.2.2.1) F hP 0 rfl rfl inX0_furnishCell_X0 6 (by decide) (List.mem_of_getElem? (i := 2) rfl) rfl dX0_furnishCell_25 ?_
    refine lv_iload_n hx hb dX0_furnishCell_28 rfl (lv_at hl 2 rfl) ?_
    refine lv_bipush (v := 103) hx hb dX0_furnishCell_29 (by decide) ?_
    refine lv_icmp_ne (tgt := 41) hx hb dX0_furnishCell_31 (by decide) (fun hc => ?_) (fun hc => ?_)
    · have hM := if_nn hc hM
      refine lv_iconst (v := 0) hx hb dX0_furnishCell_41 (by decide) ?_
      exact j42 ((a19.1.1, a19.1.2.1, a19.1.2.2.1, a19.1.2.2.2.1, a19.1.2.2.2.2.1, (a19.2.2 ||| a19.2.1), a19.1.2.2.2.2.2.2.1, a19.1.2.2.2.2.2.2.2.1, a19.1.2.2.2.2.2.2.2.2.1, a19.1.2.2.2.2.2.2.2.2.2.1, a19.1.2.2.2.2.2.2.2.2.2.2.1, a19.1.2.2.2.2.2.2.2.2.2.2.2), (0 : Int32), a19.1.2.2.2.2.2.2.1) _ _ _ hP hS (lv_sub hl [0, 1, 2] rfl) hM
    · have hM := if_pp hc hM
      refine lv_iload_n hx hb dX0_furnishCell_34 rfl (lv_at hl 1 rfl) ?_
      obtain ⟨z35, hcr, hM⟩ := ob_s hM
      refine res_i0 F hP hS rfl [] rfl rfl (runN_of (n := 1) (As := [.int x1]) (rest := [.int a19.1.2.2.2.2.2.2.1, .ref h0]) F hP hS rfl [] rfl rfl (c_X8_bit l dC dI cI cC cZ sa x1 hcr _) gX0_furnishCell_X8_bit_n42 rfl 7 rfl (hts _ (List.mem_of_getElem? (i := 6) rfl)) (hts _ (List.mem_of_getElem? (i := 5) rfl)) (by decide +kernel) ⟨Nat.le_of_ble_eq_true rfl, Nat.le_of_ble_eq_true rfl⟩ rfl hl.1 rfl (Nat.le_of_ble_eq_true rfl) dX0_furnishCell_35 ⟨Nat.zero_le _, Nat.zero_le _⟩) (fun H locs hP hS => ?_)
      refine lv_goto (tgt := 42) hx hb dX0_furnishCell_38 (by decide) ?_
      exact j42 ((a19.1.1, a19.1.2.1, a19.1.2.2.1, a19.1.2.2.2.1, a19.1.2.2.2.2.1, (a19.2.2 ||| a19.2.1), a19.1.2.2.2.2.2.2.1, a19.1.2.2.2.2.2.2.2.1, a19.1.2.2.2.2.2.2.2.2.1, a19.1.2.2.2.2.2.2.2.2.2.1, a19.1.2.2.2.2.2.2.2.2.2.2.1, a19.1.2.2.2.2.2.2.2.2.2.2.2), z35, a19.1.2.2.2.2.2.2.1) _ _ _ hP hS (lv_sub hl [0, 1, 2] rfl) hM
  refine lv_aload_n hx hb dX0_furnishCell_0 rfl (lv_at hl 0 rfl) ?_
  refine lv_dup hx hb dX0_furnishCell_1 rfl ?_
  refine g_get (ci := 0) (C := RX0) (T := TX0) (N := 13) (v := .int h.2.2.2.2.2.1) F hP 0 rfl rfl inX0_furnishCell_X0 5 (by decide) (List.mem_of_getElem? (i := 1) rfl) rfl dX0_furnishCell_2 ?_
  refine lv_iload_n hx hb dX0_furnishCell_5 rfl (lv_at hl 2 rfl) ?_
  refine lv_bipush (v := 35) hx hb dX0_furnishCell_6 (by decide) ?_
  refine lv_icmp_ne (tgt := 18) hx hb dX0_furnishCell_8 (by decide) (fun hc => ?_) (fun hc => ?_)
  · have hM := if_nn hc hM
    refine lv_iconst (v := 0) hx hb dX0_furnishCell_18 (by decide) ?_
    exact j19 (h, (0 : Int32), h.2.2.2.2.2.1) _ _ _ hP hS (lv_sub hl [0, 1, 2] rfl) hM
  · have hM := if_pp hc hM
    refine lv_iload_n hx hb dX0_furnishCell_11 rfl (lv_at hl 1 rfl) ?_
    obtain ⟨z12, hcr, hM⟩ := ob_s hM
    refine res_i0 F hP hS rfl [] rfl rfl (runN_of (n := 1) (As := [.int x1]) (rest := [.int h.2.2.2.2.2.1, .ref h0]) F hP hS rfl [] rfl rfl (c_X8_bit l dC dI cI cC cZ sa x1 hcr _) gX0_furnishCell_X8_bit_n42 rfl 7 rfl (hts _ (List.mem_of_getElem? (i := 6) rfl)) (hts _ (List.mem_of_getElem? (i := 5) rfl)) (by decide +kernel) ⟨Nat.le_of_ble_eq_true rfl, Nat.le_of_ble_eq_true rfl⟩ rfl hl.1 rfl (Nat.le_of_ble_eq_true rfl) dX0_furnishCell_12 ⟨Nat.zero_le _, Nat.zero_le _⟩) (fun H locs hP hS => ?_)
    refine lv_goto (tgt := 19) hx hb dX0_furnishCell_15 (by decide) ?_
    exact j19 (h, z12, h.2.2.2.2.2.1) _ _ _ hP hS (lv_sub hl [0, 1, 2] rfl) hM
