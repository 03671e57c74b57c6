/-! Walks, printed by wip/whole/gen.py -/
theorem inX8_safe_X0 : ∀ w ∈ wsX00, w ∈ wsX8_safe := fun w h => List.mem_cons_of_mem _ (List.mem_append_left _ (List.mem_append_left _ (List.mem_append_right _ h)))
theorem inX8_safe_X8 : ∀ w ∈ wsX80, w ∈ wsX8_safe := fun w h => List.mem_cons_of_mem _ (List.mem_append_left _ (List.mem_append_left _ (List.mem_append_left _ (List.mem_append_right _ h))))
set_option maxHeartbeats 4000000 in
set_option maxRecDepth 100000 in
theorem c_X8_safe (l : Launch) (dC : Nat → ClassId) (dI : Nat → Nat → Nat) (cI cC cZ : ClassId) (sa : Nat → Nat) (ad : Nat → Nat) (p : PT) (h : HT) (v : VT) (k1 : Int32) (h1 : HT) (v1 : VT) (k2 : Int32) (h2 : HT) (v2 : VT) (r : RT) (d : DT) (y : YT) (q : QT) (x1 : Int32) {res : Int32 × YT} (hM : M_X8_safe h v y x1 = some res) : CTi l (dC, dI) [(cI, .int), (cC, .char), (cZ, .boolean)] sa yX8_safe wsX8_safe (rmd 6) [.ref (ad 0), .int x1] (wX cI cC ad p h v k1 h1 v1 k2 h2 v2 r d y q) (fun (uu : YT) => (wX cI cC ad p h v k1 h1 v1 k2 h2 v2 r d uu q)) res := by
  refine CTi.enter (own := RX8) (cc := cX8_safe) (maxL := 7) (ret := (some .int)) (by decide) rfl rfl (Nat.le_of_ble_eq_true rfl) ?_
  intro pr e s m below meth c A F hr hlk hP hS ls hl
  obtain ⟨⟨hx, hb, hml, hown, hts⟩, hK, hDD, hA, hKC⟩ := id F
  have hl : lv_has ls 7 [(0, .ref (ad 0)), (1, .int x1)] := hl
  have hP : va_P (dC, dI) vwCl (wX cI cC ad p h v k1 h1 v1 k2 h2 v2 r d y q) s.heap := hP
  unfold M_X8_safe at hM
  refine kblk (α := YT × Int32) (res := res) (fun a => M_X8_safe_129 h v x1 a) F (fun a => (wX cI cC ad p h v k1 h1 v1 k2 h2 v2 r d a.1 q)) (fun a => [(0, .ref (ad 0))]) (fun a => [.int a.2]) 129 ?_ (fun j129 => ?_)
  · intro a129 H locs ls hP hS hl hM
    unfold M_X8_safe_129 at hM
    refine lv_istore (lv' := [(6, .int a129.2), (0, .ref (ad 0))]) hx hb dX8_safe_129 hl (by decide) rfl (fun ls hl => ?_)
    refine lv_iload hx hb dX8_safe_131 (lv_at hl 0 rfl) ?_
    obtain ⟨z133, hcr, hM⟩ := ob_s hM
    refine res_i0 F hP hS rfl [] rfl rfl (runS_of (n := 1) (As := [.int a129.2]) (rest := []) F hP hS rfl [] rfl rfl (c_X8_signOfStep l dC dI cI cC cZ sa a129.2 hcr _) gX8_safe_X8_signOfStep rfl (by decide +kernel) ⟨Nat.le_of_ble_eq_true rfl, Nat.le_of_ble_eq_true rfl⟩ rfl hl.1 rfl (Nat.le_of_ble_eq_true rfl) dX8_safe_133 ⟨Nat.zero_le _, Nat.zero_le _⟩) (fun H locs hP hS => ?_)
    exact ret_i hx hb hr hlk dX8_safe_136 hM hP hS
  refine lv_aload_n hx hb dX8_safe_0 rfl (lv_at hl 0 rfl) ?_
  refine g_get (ci := 8) (C := RX8) (T := TX8) (N := 8) (v := .ref (ad 3)) F hP 0 rfl rfl inX8_safe_X8 1 (by decide) (List.mem_of_getElem? (i := 1) rfl) rfl dX8_safe_1 ?_
  refine g_get (ci := 0) (C := RX0) (T := TX0) (N := 13) (v := .int h.2.2.2.2.2.2.2.2.2.1) F hP 3 rfl rfl inX8_safe_X0 9 (by decide) (List.mem_of_getElem? (i := 2) rfl) rfl dX8_safe_4 ?_
  obtain ⟨z7, hcr, hM⟩ := ob_s hM
  refine res_i0 F hP hS rfl [] rfl rfl (runS_of (n := 1) (As := [.int h.2.2.2.2.2.2.2.2.2.1]) (rest := []) F hP hS rfl [] rfl rfl (c_X8_bit l dC dI cI cC cZ sa h.2.2.2.2.2.2.2.2.2.1 hcr _) gX8_safe_X8_bit rfl (by decide +kernel) ⟨Nat.le_of_ble_eq_true rfl, Nat.le_of_ble_eq_true rfl⟩ rfl hl.1 rfl (Nat.le_of_ble_eq_true rfl) dX8_safe_7 ⟨Nat.zero_le _, Nat.zero_le _⟩) (fun H locs hP hS => ?_)
  refine lv_istore_n (lv' := [(2, .int z7), (0, .ref (ad 0)), (1, .int x1)]) hx hb dX8_safe_10 rfl hl (by decide) rfl (fun ls hl => ?_)
  refine lv_aload_n hx hb dX8_safe_11 rfl (lv_at hl 1 rfl) ?_
  refine g_get (ci := 8) (C := RX8) (T := TX8) (N := 8) (v := .ref (ad 3)) F hP 0 rfl rfl inX8_safe_X8 1 (by decide) (List.mem_of_getElem? (i := 1) rfl) rfl dX8_safe_12 ?_
  refine g_get (ci := 0) (C := RX0) (T := TX0) (N := 13) (v := .int h.2.2.2.2.2.2.2.2.2.2.1) F hP 3 rfl rfl inX8_safe_X0 10 (by decide) (List.mem_of_getElem? (i := 3) rfl) rfl dX8_safe_15 ?_
  obtain ⟨z18, hcr, hM⟩ := ob_s hM
  refine res_i0 F hP hS rfl [] rfl rfl (runS_of (n := 1) (As := [.int h.2.2.2.2.2.2.2.2.2.2.1]) (rest := []) F hP hS rfl [] rfl rfl (c_X8_bit l dC dI cI cC cZ sa h.2.2.2.2.2.2.2.2.2.2.1 hcr _) gX8_safe_X8_bit rfl (by decide +kernel) ⟨Nat.le_of_ble_eq_true rfl, Nat.le_of_ble_eq_true rfl⟩ rfl hl.1 rfl (Nat.le_of_ble_eq_true rfl) dX8_safe_18 ⟨Nat.zero_le _, Nat.zero_le _⟩) (fun H locs hP hS => ?_)
  refine lv_istore_n (lv' := [(3, .int z18), (2, .int z7), (0, .ref (ad 0)), (1, .int x1)]) hx hb dX8_safe_21 rfl hl (by decide) rfl (fun ls hl => ?_)
  refine lv_aload_n hx hb dX8_safe_22 rfl (lv_at hl 2 rfl) ?_
  refine g_get (ci := 8) (C := RX8) (T := TX8) (N := 8) (v := .ref (ad 3)) F hP 0 rfl rfl inX8_safe_X8 1 (by decide) (List.mem_of_getElem? (i := 1) rfl) rfl dX8_safe_23 ?_
  obtain ⟨z26, hcr, hM⟩ := ob_s hM
  refine res_i0 F hP hS rfl [3, 4, 5, 6, 7] rfl rfl (runV_of (n := 0) (As := []) (rest := []) F hP hS rfl [3, 4, 5, 6, 7] rfl rfl (c_X0_bareCells l dC dI cI cC cZ sa (ad 3) (ad 4) (ad 5) (ad 6) (ad 7) h v hcr _) gX8_safe_X0_bareCells rfl (by decide +kernel) ⟨Nat.le_of_ble_eq_true rfl, Nat.le_of_ble_eq_true rfl⟩ 3 0 rfl rfl rfl hl.1 rfl (Nat.le_of_ble_eq_true rfl) dX8_safe_26 ⟨Nat.zero_le _, Nat.zero_le _⟩) (fun H locs hP hS => ?_)
  refine lv_iload_n hx hb dX8_safe_29 rfl (lv_at hl 1 rfl) ?_
  refine lv_ior hx hb dX8_safe_30 ?_
  refine lv_istore (lv' := [(4, .int (z26 ||| z7)), (3, .int z18), (2, .int z7), (0, .ref (ad 0)), (1, .int x1)]) hx hb dX8_safe_31 hl (by decide) rfl (fun ls hl => ?_)
  refine lv_aload_n hx hb dX8_safe_33 rfl (lv_at hl 3 rfl) ?_
  refine g_get (ci := 8) (C := RX8) (T := TX8) (N := 8) (v := .ref (ad 25)) F hP 0 rfl rfl inX8_safe_X8 6 (by decide) (List.mem_of_getElem? (i := 4) rfl) rfl dX8_safe_34 ?_
  refine lv_aload_n hx hb dX8_safe_37 rfl (lv_at hl 3 rfl) ?_
  refine g_get (ci := 8) (C := RX8) (T := TX8) (N := 8) (v := .ref (ad 3)) F hP 0 rfl rfl inX8_safe_X8 1 (by decide) (List.mem_of_getElem? (i := 1) rfl) rfl dX8_safe_38 ?_
  refine lv_iload_n hx hb dX8_safe_41 rfl (lv_at hl 2 rfl) ?_
  refine lv_iload_n hx hb dX8_safe_42 rfl (lv_at hl 1 rfl) ?_
  refine lv_iload hx hb dX8_safe_43 (lv_at hl 0 rfl) ?_
  obtain ⟨z45, hcr, hM⟩ := ob_s hM
  refine res_i (ws' := (wX cI cC ad p h v k1 h1 v1 k2 h2 v2 r d z45.2 q)) F hP hS rfl [25, 26, 27, 3, 4, 5, 6, 7] rfl rfl (runV_of (n := 4) (As := [.ref (ad 3), .int z7, .int z18, .int (z26 ||| z7)]) (rest := []) F hP hS rfl [25, 26, 27, 3, 4, 5, 6, 7] rfl rfl (c_X5_measure l dC dI cI cC cZ sa (ad 25) (ad 26) (ad 27) (ad 3) (ad 4) (ad 5) (ad 6) (ad 7) y h v z7 z18 (z26 ||| z7) hcr _) gX8_safe_X5_measure rfl (by decide +kernel) ⟨Nat.le_of_ble_eq_true rfl, Nat.le_of_ble_eq_true rfl⟩ 25 5 rfl rfl rfl hl.1 rfl (Nat.le_of_ble_eq_true rfl) dX8_safe_45 ⟨Nat.zero_le _, Nat.zero_le _⟩) (rep_pt rfl rfl rfl) (fun H locs hP hS => ?_)
  refine lv_istore (lv' := [(5, .int z45.1), (4, .int (z26 ||| z7)), (3, .int z18), (2, .int z7), (0, .ref (ad 0)), (1, .int x1)]) hx hb dX8_safe_48 hl (by decide) rfl (fun ls hl => ?_)
  refine lv_iload hx hb dX8_safe_50 (lv_at hl 0 rfl) ?_
  refine lv_bipush (v := -6) hx hb dX8_safe_52 (by decide) ?_
  refine lv_icmp_ne (tgt := 60) hx hb dX8_safe_54 (by decide) (fun hc => ?_) (fun hc => ?_)
  · have hM := if_nn hc hM
    refine lv_iload_n hx hb dX8_safe_60 rfl (lv_at hl 5 rfl) ?_
    refine lv_iconst (v := -1) hx hb dX8_safe_61 (by decide) ?_
    refine lv_icmp_ne (tgt := 70) hx hb dX8_safe_62 (by decide) (fun hc => ?_) (fun hc => ?_)
    · have hM := if_nn hc hM
      refine lv_iload_n hx hb dX8_safe_70 rfl (lv_at hl 5 rfl) ?_
      refine lv_if_lt (tgt := 82) hx hb dX8_safe_71 (by decide) (fun hc => ?_) (fun hc => ?_)
      · have hM := if_pp hc hM
        refine lv_bipush (v := -6) hx hb dX8_safe_82 (by decide) ?_
        exact ret_i hx hb hr hlk dX8_safe_84 hM hP hS
      · have hM := if_nn hc hM
        refine lv_iload_n hx hb dX8_safe_74 rfl (lv_at hl 5 rfl) ?_
        refine lv_iconst (v := 2) hx hb dX8_safe_75 (by decide) ?_
        refine lv_iload hx hb dX8_safe_76 (lv_at hl 0 rfl) ?_
        refine lv_imul hx hb dX8_safe_78 ?_
        refine lv_icmp_lt (tgt := 85) hx hb dX8_safe_79 (by decide) (fun hc => ?_) (fun hc => ?_)
        · have hM := if_pp hc hM
          refine lv_iload_n hx hb dX8_safe_85 rfl (lv_at hl 5 rfl) ?_
          refine lv_iload hx hb dX8_safe_86 (lv_at hl 0 rfl) ?_
          refine lv_icmp_ge (tgt := 110) hx hb dX8_safe_88 (by decide) (fun hc => ?_) (fun hc => ?_)
          · have hM := if_pp hc hM
            refine lv_aload_n hx hb dX8_safe_110 rfl (lv_at hl 4 rfl) ?_
            refine g_get (ci := 8) (C := RX8) (T := TX8) (N := 8) (v := .ref (ad 25)) F hP 0 rfl rfl inX8_safe_X8 6 (by decide) (List.mem_of_getElem? (i := 4) rfl) rfl dX8_safe_111 ?_
            refine lv_aload_n hx hb dX8_safe_114 rfl (lv_at hl 4 rfl) ?_
            refine g_get (ci := 8) (C := RX8) (T := TX8) (N := 8) (v := .ref (ad 3)) F hP 0 rfl rfl inX8_safe_X8 1 (by decide) (List.mem_of_getElem? (i := 1) rfl) rfl dX8_safe_115 ?_
            refine lv_iload_n hx hb dX8_safe_118 rfl (lv_at hl 2 rfl) ?_
            refine lv_iload_n hx hb dX8_safe_119 rfl (lv_at hl 3 rfl) ?_
            refine lv_iload hx hb dX8_safe_120 (lv_at hl 1 rfl) ?_
            refine lv_iload_n hx hb dX8_safe_122 rfl (lv_at hl 5 rfl) ?_
            refine lv_iload hx hb dX8_safe_123 (lv_at hl 0 rfl) ?_
            refine lv_isub hx hb dX8_safe_125 ?_
            obtain ⟨z126, hcr, hM⟩ := ob_s hM
            refine res_i (ws' := (wX cI cC ad p h v k1 h1 v1 k2 h2 v2 r d z126.2 q)) F hP hS rfl [25, 26, 27, 3, 4, 5, 6, 7] rfl rfl (runV_of (n := 5) (As := [.ref (ad 3), .int z18, .int z7, .int (z26 ||| z7), .int (x1 - z45.1)]) (rest := []) F hP hS rfl [25, 26, 27, 3, 4, 5, 6, 7] rfl rfl (c_X5_stepOnWay l dC dI cI cC cZ sa (ad 25) (ad 26) (ad 27) (ad 3) (ad 4) (ad 5) (ad 6) (ad 7) z45.2 h v z18 z7 (z26 ||| z7) (x1 - z45.1) hcr _) gX8_safe_X5_stepOnWay rfl (by decide +kernel) ⟨Nat.le_of_ble_eq_true rfl, Nat.le_of_ble_eq_true rfl⟩ 25 5 rfl rfl rfl hl.1 rfl (Nat.le_of_ble_eq_true rfl) dX8_safe_126 ⟨Nat.zero_le _, Nat.zero_le _⟩) (rep_pt rfl rfl rfl) (fun H locs hP hS => ?_)
            exact j129 (z126.2, z126.1) _ _ _ hP hS (lv_sub hl [4] rfl) hM
          · have hM := if_nn hc hM
            refine lv_aload_n hx hb dX8_safe_91 rfl (lv_at hl 4 rfl) ?_
            refine g_get (ci := 8) (C := RX8) (T := TX8) (N := 8) (v := .ref (ad 25)) F hP 0 rfl rfl inX8_safe_X8 6 (by decide) (List.mem_of_getElem? (i := 4) rfl) rfl dX8_safe_92 ?_
            refine lv_aload_n hx hb dX8_safe_95 rfl (lv_at hl 4 rfl) ?_
            refine g_get (ci := 8) (C := RX8) (T := TX8) (N := 8) (v := .ref (ad 3)) F hP 0 rfl rfl inX8_safe_X8 1 (by decide) (List.mem_of_getElem? (i := 1) rfl) rfl dX8_safe_96 ?_
            refine lv_iload_n hx hb dX8_safe_99 rfl (lv_at hl 3 rfl) ?_
            refine lv_iload_n hx hb dX8_safe_100 rfl (lv_at hl 2 rfl) ?_
            refine lv_iload hx hb dX8_safe_101 (lv_at hl 1 rfl) ?_
            refine lv_iload_n hx hb dX8_safe_103 rfl (lv_at hl 5 rfl) ?_
            obtain ⟨z104, hcr, hM⟩ := ob_s hM
            refine res_i (ws' := (wX cI cC ad p h v k1 h1 v1 k2 h2 v2 r d z104.2 q)) F hP hS rfl [25, 26, 27, 3, 4, 5, 6, 7] rfl rfl (runV_of (n := 5) (As := [.ref (ad 3), .int z7, .int z18, .int (z26 ||| z7), .int x1]) (rest := []) F hP hS rfl [25, 26, 27, 3, 4, 5, 6, 7] rfl rfl (c_X5_stepOnWay l dC dI cI cC cZ sa (ad 25) (ad 26) (ad 27) (ad 3) (ad 4) (ad 5) (ad 6) (ad 7) z45.2 h v z7 z18 (z26 ||| z7) x1 hcr _) gX8_safe_X5_stepOnWay rfl (by decide +kernel) ⟨Nat.le_of_ble_eq_true rfl, Nat.le_of_ble_eq_true rfl⟩ 25 5 rfl rfl rfl hl.1 rfl (Nat.le_of_ble_eq_true rfl) dX8_safe_104 ⟨Nat.zero_le _, Nat.zero_le _⟩) (rep_pt rfl rfl rfl) (fun H locs hP hS => ?_)
            refine lv_goto (tgt := 129) hx hb dX8_safe_107 (by decide) ?_
            exact j129 (z104.2, z104.1) _ _ _ hP hS (lv_sub hl [4] rfl) hM
        · have hM := if_nn hc hM
          refine lv_bipush (v := -6) hx hb dX8_safe_82 (by decide) ?_
          exact ret_i hx hb hr hlk dX8_safe_84 hM hP hS
    · have hM := if_pp hc hM
      refine lv_iconst (v := 2) hx hb dX8_safe_65 (by decide) ?_
      refine lv_iload hx hb dX8_safe_66 (lv_at hl 0 rfl) ?_
      refine lv_imul hx hb dX8_safe_68 ?_
      exact ret_i hx hb hr hlk dX8_safe_69 hM hP hS
  · have hM := if_pp hc hM
    refine lv_bipush (v := -6) hx hb dX8_safe_57 (by decide) ?_
    exact ret_i hx hb hr hlk dX8_safe_59 hM hP hS
