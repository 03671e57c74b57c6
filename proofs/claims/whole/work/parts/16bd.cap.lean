/-! Walks, printed by wip/whole/gen.py -/
theorem inX8_where_X0 : ∀ w ∈ wsX00, w ∈ wsX8_where := fun w h => List.mem_cons_of_mem _ (List.mem_append_left _ (List.mem_append_left _ (List.mem_append_right _ h)))
theorem inX8_where_X8 : ∀ w ∈ wsX80, w ∈ wsX8_where := fun w h => List.mem_cons_of_mem _ (List.mem_append_left _ (List.mem_append_left _ (List.mem_append_left _ (List.mem_append_right _ h))))
set_option maxHeartbeats 4000000 in
set_option maxRecDepth 100000 in
theorem c_X8_where (l : Launch) (dC : Nat → ClassId) (dI : Nat → Nat → Nat) (cI cC cZ : ClassId) (sa : Nat → Nat) (ad : Nat → Nat) (p : PT) (h : HT) (v : VT) (k1 : Int32) (h1 : HT) (v1 : VT) (k2 : Int32) (h2 : HT) (v2 : VT) (r : RT) (d : DT) (y : YT) (q : QT) (x1 : Int32) (x2 : Int32) (x3 : Int32) {res : Int32 × QT} (hM : M_X8_where h v q x1 x2 x3 = some res) : CTi l (dC, dI) [(cI, .int), (cC, .char), (cZ, .boolean)] sa yX8_where wsX8_where (rmd 6) [.ref (ad 0), .int x1, .int x2, .int x3] (wX cI cC ad p h v k1 h1 v1 k2 h2 v2 r d y q) (fun (uu : QT) => (wX cI cC ad p h v k1 h1 v1 k2 h2 v2 r d y uu)) res := by
  refine CTi.enter (own := RX8) (cc := cX8_where) (maxL := 6) (ret := (some .int)) (by decide) rfl rfl (Nat.le_of_ble_eq_true rfl) ?_
  intro pr e s m below meth c A F hr hlk hP hS ls hl
  obtain ⟨⟨hx, hb, hml, hown, hts⟩, hK, hDD, hA, hKC⟩ := id F
  have hl : lv_has ls 6 [(0, .ref (ad 0)), (1, .int x1), (2, .int x2), (3, .int x3)] := hl
  have hP : va_P (dC, dI) vwCl (wX cI cC ad p h v k1 h1 v1 k2 h2 v2 r d y q) s.heap := hP
  unfold M_X8_where at hM
  refine kloop (α := QT × Int32 × Int32) (res := res) (fun k a => M_X8_where_63 h v x1 x2 x3 k a) (fun rec a => M_X8_where_63b h v x1 x2 x3 rec a) (fun _ => rfl) (fun _ _ => rfl) F (fun a => (wX cI cC ad p h v k1 h1 v1 k2 h2 v2 r d y a.1)) (fun a => [(0, .ref (ad 0)), (1, .int x1), (2, .int x2), (3, .int x3), (4, .int a.2.1), (5, .int a.2.2)]) (fun a => []) 63 ?_ (fun j63 => ?_)
  · intro rc63 ih63 a63 H locs ls hP hS hl hM
    unfold M_X8_where_63b at hM
    refine kblk (α := QT × Int32 × Int32 × Int32) (res := res) (fun a => M_X8_where_103 h v x1 x2 x3 rc63 a) F (fun a => (wX cI cC ad p h v k1 h1 v1 k2 h2 v2 r d y a.1)) (fun a => [(0, .ref (ad 0)), (1, .int x1), (2, .int x2), (3, .int x3), (4, .int a.2.1), (5, .int a.2.2.1)]) (fun a => [.int a.2.2.2, .ref (ad 3), .ref (ad 28)]) 103 ?_ (fun j103 => ?_)
    · intro a103 H locs ls hP hS hl hM
      unfold M_X8_where_103 at hM
      obtain ⟨z103, hcr, hM⟩ := ob_s hM
      refine res_v (ws' := (wX cI cC ad p h v k1 h1 v1 k2 h2 v2 r d y z103)) F hP hS rfl [28, 29, 30, 3, 4, 5, 6, 7] rfl rfl (runV_of (n := 2) (As := [.ref (ad 3), .int a103.2.2.2]) (rest := []) F hP hS rfl [28, 29, 30, 3, 4, 5, 6, 7] rfl rfl (c_X7_passMinute l dC dI cI cC cZ sa (ad 28) (ad 29) (ad 30) (ad 3) (ad 4) (ad 5) (ad 6) (ad 7) a103.1 h v a103.2.2.2 hcr _) gX8_where_X7_passMinute rfl (by decide +kernel) ⟨Nat.le_of_ble_eq_true rfl, Nat.le_of_ble_eq_true rfl⟩ 28 7 rfl rfl rfl hl.1 rfl (Nat.le_of_ble_eq_true rfl) dX8_where_103 ⟨Nat.zero_le _, Nat.zero_le _⟩) (rep_pt rfl rfl rfl) (fun H locs hP hS => ?_)
      refine lv_iinc (v := (a103.2.2.1 + (1 : Int32))) (lv' := [(5, .int (a103.2.2.1 + (1 : Int32))), (0, .ref (ad 0)), (1, .int x1), (2, .int x2), (3, .int x3), (4, .int a103.2.1)]) hx hb dX8_where_106 hl (k := 5) rfl rfl (by decide) rfl (fun ls hl => ?_)
      refine lv_goto (tgt := 63) hx hb dX8_where_109 (by decide) ?_
      exact ih63 (z103, a103.2.1, (a103.2.2.1 + (1 : Int32))) _ _ _ hP hS (lv_sub hl [1, 2, 3, 4, 5, 0] rfl) hM
    refine lv_iload hx hb dX8_where_63 (lv_at hl 5 rfl) ?_
    refine lv_iload_n hx hb dX8_where_65 rfl (lv_at hl 2 rfl) ?_
    refine lv_icmp_ge (tgt := 112) hx hb dX8_where_66 (by decide) (fun hc => ?_) (fun hc => ?_)
    · have hM := if_pp hc hM
      refine lv_iload_n hx hb dX8_where_112 rfl (lv_at hl 3 rfl) ?_
      refine lv_if_ne (tgt := 126) hx hb dX8_where_113 (by decide) (fun hc => ?_) (fun hc => ?_)
      · have hM := if_nn hc hM
        refine lv_aload_n hx hb dX8_where_126 rfl (lv_at hl 0 rfl) ?_
        refine g_get (ci := 8) (C := RX8) (T := TX8) (N := 8) (v := .ref (ad 28)) F hP 0 rfl rfl inX8_where_X8 7 (by decide) (List.mem_of_getElem? (i := 2) rfl) rfl dX8_where_127 ?_
        obtain ⟨z130, hcr, hM⟩ := ob_s hM
        refine res_i0 F hP hS rfl [28, 29, 30] rfl rfl (runV_of (n := 0) (As := []) (rest := []) F hP hS rfl [28, 29, 30] rfl rfl (c_X7_walks l dC dI cI cC cZ sa (ad 28) (ad 29) (ad 30) a63.1 hcr _) gX8_where_X7_walks rfl (by decide +kernel) ⟨Nat.le_of_ble_eq_true rfl, Nat.le_of_ble_eq_true rfl⟩ 28 7 rfl rfl rfl hl.1 rfl (Nat.le_of_ble_eq_true rfl) dX8_where_130 ⟨Nat.zero_le _, Nat.zero_le _⟩) (fun H locs hP hS => ?_)
        exact ret_i hx hb hr hlk dX8_where_133 hM hP hS
      · have hM := if_pp hc hM
        refine lv_aload_n hx hb dX8_where_116 rfl (lv_at hl 0 rfl) ?_
        refine g_get (ci := 8) (C := RX8) (T := TX8) (N := 8) (v := .ref (ad 28)) F hP 0 rfl rfl inX8_where_X8 7 (by decide) (List.mem_of_getElem? (i := 2) rfl) rfl dX8_where_117 ?_
        obtain ⟨z120, hcr, hM⟩ := ob_s hM
        refine res_i0 F hP hS rfl [28, 29, 30] rfl rfl (runV_of (n := 0) (As := []) (rest := []) F hP hS rfl [28, 29, 30] rfl rfl (c_X7_possibleCells l dC dI cI cC cZ sa (ad 28) (ad 29) (ad 30) a63.1 hcr _) gX8_where_X7_possibleCells rfl (by decide +kernel) ⟨Nat.le_of_ble_eq_true rfl, Nat.le_of_ble_eq_true rfl⟩ 28 7 rfl rfl rfl hl.1 rfl (Nat.le_of_ble_eq_true rfl) dX8_where_120 ⟨Nat.zero_le _, Nat.zero_le _⟩) (fun H locs hP hS => ?_)
        refine lv_goto (tgt := 133) hx hb dX8_where_123 (by decide) ?_
        exact ret_i hx hb hr hlk dX8_where_133 hM hP hS
    · have hM := if_nn hc hM
      refine lv_aload_n hx hb dX8_where_69 rfl (lv_at hl 0 rfl) ?_
      refine g_get (ci := 8) (C := RX8) (T := TX8) (N := 8) (v := .ref (ad 28)) F hP 0 rfl rfl inX8_where_X8 7 (by decide) (List.mem_of_getElem? (i := 2) rfl) rfl dX8_where_70 ?_
      refine lv_aload_n hx hb dX8_where_73 rfl (lv_at hl 0 rfl) ?_
      refine g_get (ci := 8) (C := RX8) (T := TX8) (N := 8) (v := .ref (ad 3)) F hP 0 rfl rfl inX8_where_X8 1 (by decide) (List.mem_of_getElem? (i := 1) rfl) rfl dX8_where_74 ?_
      refine lv_iload_n hx hb dX8_where_77 rfl (lv_at hl 1 rfl) ?_
      refine lv_iload hx hb dX8_where_78 (lv_at hl 5 rfl) ?_
      obtain ⟨z80, hcr, hM⟩ := ob_s hM
      refine res_i0 F hP hS rfl [] rfl rfl (runS_of (n := 2) (As := [.int x1, .int a63.2.2]) (rest := [.ref (ad 3), .ref (ad 28)]) F hP hS rfl [] rfl rfl (c_X8_has l dC dI cI cC cZ sa x1 a63.2.2 hcr _) gX8_where_X8_has rfl (by decide +kernel) ⟨Nat.le_of_ble_eq_true rfl, Nat.le_of_ble_eq_true rfl⟩ rfl hl.1 rfl (Nat.le_of_ble_eq_true rfl) dX8_where_80 ⟨Nat.zero_le _, Nat.zero_le _⟩) (fun H locs hP hS => ?_)
      refine lv_if_eq (tgt := 101) hx hb dX8_where_83 (by decide) (fun hc => ?_) (fun hc => ?_)
      · have hM := if_pp hc hM
        refine lv_iload hx hb dX8_where_101 (lv_at hl 4 rfl) ?_
        exact j103 (a63.1, a63.2.1, a63.2.2, a63.2.1) _ _ _ hP hS (lv_sub hl [0, 1, 2, 3, 4, 5] rfl) hM
      · have hM := if_nn hc hM
        refine lv_aload_n hx hb dX8_where_86 rfl (lv_at hl 0 rfl) ?_
        refine g_get (ci := 8) (C := RX8) (T := TX8) (N := 8) (v := .ref (ad 3)) F hP 0 rfl rfl inX8_where_X8 1 (by decide) (List.mem_of_getElem? (i := 1) rfl) rfl dX8_where_87 ?_
        obtain ⟨z90, hcr, hM⟩ := ob_s hM
        refine res_i0 F hP hS rfl [3, 4, 5, 6, 7] rfl rfl (runV_of (n := 0) (As := []) (rest := [.ref (ad 3), .ref (ad 28)]) F hP hS rfl [3, 4, 5, 6, 7] rfl rfl (c_X0_open l dC dI cI cC cZ sa (ad 3) (ad 4) (ad 5) (ad 6) (ad 7) h v hcr _) gX8_where_X0_open rfl (by decide +kernel) ⟨Nat.le_of_ble_eq_true rfl, Nat.le_of_ble_eq_true rfl⟩ 3 0 rfl rfl rfl hl.1 rfl (Nat.le_of_ble_eq_true rfl) dX8_where_90 ⟨Nat.zero_le _, Nat.zero_le _⟩) (fun H locs hP hS => ?_)
        refine lv_iload hx hb dX8_where_93 (lv_at hl 4 rfl) ?_
        refine lv_iconst (v := -1) hx hb dX8_where_95 (by decide) ?_
        refine lv_ixor hx hb dX8_where_96 ?_
        refine lv_iand hx hb dX8_where_97 ?_
        refine lv_goto (tgt := 103) hx hb dX8_where_98 (by decide) ?_
        exact j103 (a63.1, a63.2.1, a63.2.2, (z90 &&& (a63.2.1 ^^^ (-1 : Int32)))) _ _ _ hP hS (lv_sub hl [0, 1, 2, 3, 4, 5] rfl) hM
  refine lv_iload_n hx hb dX8_where_0 rfl (lv_at hl 2 rfl) ?_
  refine lv_iconst (v := 0) hx hb dX8_where_1 (by decide) ?_
  refine lv_bipush (v := 8) hx hb dX8_where_2 (by decide) ?_
  obtain ⟨z4, hcr, hM⟩ := ob_s hM
  refine res_i0 F hP hS rfl [] rfl rfl (runS_of (n := 3) (As := [.int x2, .int (0 : Int32), .int (8 : Int32)]) (rest := []) F hP hS rfl [] rfl rfl (c_X8_within l dC dI cI cC cZ sa x2 (0 : Int32) (8 : Int32) hcr _) gX8_where_X8_within rfl (by decide +kernel) ⟨Nat.le_of_ble_eq_true rfl, Nat.le_of_ble_eq_true rfl⟩ rfl hl.1 rfl (Nat.le_of_ble_eq_true rfl) dX8_where_4 ⟨Nat.zero_le _, Nat.zero_le _⟩) (fun H locs hP hS => ?_)
  refine lv_if_eq (tgt := 34) hx hb dX8_where_7 (by decide) (fun hc => ?_) (fun hc => ?_)
  · have hM := if_pp hc hM
    refine lv_bipush (v := -2) hx hb dX8_where_34 (by decide) ?_
    exact ret_i hx hb hr hlk dX8_where_36 hM hP hS
  · have hM := if_nn hc hM
    refine lv_iload_n hx hb dX8_where_10 rfl (lv_at hl 1 rfl) ?_
    refine lv_iconst (v := 0) hx hb dX8_where_11 (by decide) ?_
    refine lv_iconst (v := 2) hx hb dX8_where_12 (by decide) ?_
    refine lv_iload_n hx hb dX8_where_13 rfl (lv_at hl 2 rfl) ?_
    obtain ⟨z14, hcr, hM⟩ := ob_s hM
    refine res_i0 F hP hS rfl [] rfl rfl (runS_of (n := 2) (As := [.int (2 : Int32), .int x2]) (rest := [.int (0 : Int32), .int x1]) F hP hS rfl [] rfl rfl (c_X8_power l dC dI cI cC cZ sa (2 : Int32) x2 hcr _) gX8_where_X8_power rfl (by decide +kernel) ⟨Nat.le_of_ble_eq_true rfl, Nat.le_of_ble_eq_true rfl⟩ rfl hl.1 rfl (Nat.le_of_ble_eq_true rfl) dX8_where_14 ⟨Nat.zero_le _, Nat.zero_le _⟩) (fun H locs hP hS => ?_)
    refine lv_iconst (v := 1) hx hb dX8_where_17 (by decide) ?_
    refine lv_isub hx hb dX8_where_18 ?_
    obtain ⟨z19, hcr, hM⟩ := ob_s hM
    refine res_i0 F hP hS rfl [] rfl rfl (runS_of (n := 3) (As := [.int x1, .int (0 : Int32), .int (z14 - (1 : Int32))]) (rest := []) F hP hS rfl [] rfl rfl (c_X8_within l dC dI cI cC cZ sa x1 (0 : Int32) (z14 - (1 : Int32)) hcr _) gX8_where_X8_within rfl (by decide +kernel) ⟨Nat.le_of_ble_eq_true rfl, Nat.le_of_ble_eq_true rfl⟩ rfl hl.1 rfl (Nat.le_of_ble_eq_true rfl) dX8_where_19 ⟨Nat.zero_le _, Nat.zero_le _⟩) (fun H locs hP hS => ?_)
    refine lv_if_eq (tgt := 34) hx hb dX8_where_22 (by decide) (fun hc => ?_) (fun hc => ?_)
    · have hM := if_pp hc hM
      refine lv_bipush (v := -2) hx hb dX8_where_34 (by decide) ?_
      exact ret_i hx hb hr hlk dX8_where_36 hM hP hS
    · have hM := if_nn hc hM
      refine lv_iload_n hx hb dX8_where_25 rfl (lv_at hl 3 rfl) ?_
      refine lv_iconst (v := 0) hx hb dX8_where_26 (by decide) ?_
      refine lv_iconst (v := 1) hx hb dX8_where_27 (by decide) ?_
      obtain ⟨z28, hcr, hM⟩ := ob_s hM
      refine res_i0 F hP hS rfl [] rfl rfl (runS_of (n := 3) (As := [.int x3, .int (0 : Int32), .int (1 : Int32)]) (rest := []) F hP hS rfl [] rfl rfl (c_X8_within l dC dI cI cC cZ sa x3 (0 : Int32) (1 : Int32) hcr _) gX8_where_X8_within rfl (by decide +kernel) ⟨Nat.le_of_ble_eq_true rfl, Nat.le_of_ble_eq_true rfl⟩ rfl hl.1 rfl (Nat.le_of_ble_eq_true rfl) dX8_where_28 ⟨Nat.zero_le _, Nat.zero_le _⟩) (fun H locs hP hS => ?_)
      refine lv_if_ne (tgt := 37) hx hb dX8_where_31 (by decide) (fun hc => ?_) (fun hc => ?_)
      · have hM := if_nn hc hM
        refine lv_aload_n hx hb dX8_where_37 rfl (lv_at hl 0 rfl) ?_
        refine g_get (ci := 8) (C := RX8) (T := TX8) (N := 8) (v := .ref (ad 3)) F hP 0 rfl rfl inX8_where_X8 1 (by decide) (List.mem_of_getElem? (i := 1) rfl) rfl dX8_where_38 ?_
        obtain ⟨z41, hcr, hM⟩ := ob_s hM
        refine res_i0 F hP hS rfl [3, 4, 5, 6, 7] rfl rfl (runV_of (n := 0) (As := []) (rest := []) F hP hS rfl [3, 4, 5, 6, 7] rfl rfl (c_X0_bareCells l dC dI cI cC cZ sa (ad 3) (ad 4) (ad 5) (ad 6) (ad 7) h v hcr _) gX8_where_X0_bareCells rfl (by decide +kernel) ⟨Nat.le_of_ble_eq_true rfl, Nat.le_of_ble_eq_true rfl⟩ 3 0 rfl rfl rfl hl.1 rfl (Nat.le_of_ble_eq_true rfl) dX8_where_41 ⟨Nat.zero_le _, Nat.zero_le _⟩) (fun H locs hP hS => ?_)
        refine lv_istore (lv' := [(4, .int z41), (0, .ref (ad 0)), (1, .int x1), (2, .int x2), (3, .int x3)]) hx hb dX8_where_44 hl (by decide) rfl (fun ls hl => ?_)
        refine lv_aload_n hx hb dX8_where_46 rfl (lv_at hl 1 rfl) ?_
        refine g_get (ci := 8) (C := RX8) (T := TX8) (N := 8) (v := .ref (ad 28)) F hP 0 rfl rfl inX8_where_X8 7 (by decide) (List.mem_of_getElem? (i := 2) rfl) rfl dX8_where_47 ?_
        refine lv_aload_n hx hb dX8_where_50 rfl (lv_at hl 1 rfl) ?_
        refine g_get (ci := 8) (C := RX8) (T := TX8) (N := 8) (v := .ref (ad 3)) F hP 0 rfl rfl inX8_where_X8 1 (by decide) (List.mem_of_getElem? (i := 1) rfl) rfl dX8_where_51 ?_
        refine g_get (ci := 0) (C := RX0) (T := TX0) (N := 13) (v := .int h.2.2.2.2.2.2.2.2.2.1) F hP 3 rfl rfl inX8_where_X0 9 (by decide) (List.mem_of_getElem? (i := 3) rfl) rfl dX8_where_54 ?_
        obtain ⟨z57, hcr, hM⟩ := ob_s hM
        refine res_v (ws' := (wX cI cC ad p h v k1 h1 v1 k2 h2 v2 r d y z57)) F hP hS rfl [28, 29, 30] rfl rfl (runV_of (n := 1) (As := [.int h.2.2.2.2.2.2.2.2.2.1]) (rest := []) F hP hS rfl [28, 29, 30] rfl rfl (c_X7_begin l dC dI cI cC cZ sa (ad 28) (ad 29) (ad 30) q h.2.2.2.2.2.2.2.2.2.1 hcr _) gX8_where_X7_begin rfl (by decide +kernel) ⟨Nat.le_of_ble_eq_true rfl, Nat.le_of_ble_eq_true rfl⟩ 28 7 rfl rfl rfl hl.1 rfl (Nat.le_of_ble_eq_true rfl) dX8_where_57 ⟨Nat.zero_le _, Nat.zero_le _⟩) (rep_pt rfl rfl rfl) (fun H locs hP hS => ?_)
        refine lv_iconst (v := 0) hx hb dX8_where_60 (by decide) ?_
        refine lv_istore (lv' := [(5, .int (0 : Int32)), (4, .int z41), (0, .ref (ad 0)), (1, .int x1), (2, .int x2), (3, .int x3)]) hx hb dX8_where_61 hl (by decide) rfl (fun ls hl => ?_)
        exact j63 200 (z57, z41, (0 : Int32)) _ _ _ hP hS (lv_sub hl [2, 3, 4, 5, 1, 0] rfl) hM
      · have hM := if_pp hc hM
        refine lv_bipush (v := -2) hx hb dX8_where_34 (by decide) ?_
        exact ret_i hx hb hr hlk dX8_where_36 hM hP hS
