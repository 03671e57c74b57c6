/-! Walks, printed by wip/whole/gen.py -/
theorem inX8_night_X6 : ∀ w ∈ wsX60, w ∈ wsX8_night := fun w h => List.mem_cons_of_mem _ (List.mem_append_left _ (List.mem_append_left _ (List.mem_append_right _ h)))
theorem inX8_night_X8 : ∀ w ∈ wsX80, w ∈ wsX8_night := fun w h => List.mem_cons_of_mem _ (List.mem_append_left _ (List.mem_append_left _ (List.mem_append_left _ (List.mem_append_right _ h))))
set_option maxHeartbeats 4000000 in
set_option maxRecDepth 100000 in
theorem c_X8_night (l : Launch) (dC : Nat → ClassId) (dI : Nat → Nat → Nat) (cI cC cZ : ClassId) (sa : Nat → Nat) (ad : Nat → Nat) (p : PT) (h : HT) (v : VT) (k1 : Int32) (h1 : HT) (v1 : VT) (k2 : Int32) (h2 : HT) (v2 : VT) (r : RT) (d : DT) (y : YT) (q : QT) (x1 : Int32) (x2 : Int32) (x3 : Int32) {res : Int32 × RT} (hM : M_X8_night h v r x1 x2 x3 = some res) : CTi l (dC, dI) [(cI, .int), (cC, .char), (cZ, .boolean)] sa yX8_night wsX8_night (rmd 5) [.ref (ad 0), .int x1, .int x2, .int x3] (wX cI cC ad p h v k1 h1 v1 k2 h2 v2 r d y q) (fun (uu : RT) => (wX cI cC ad p h v k1 h1 v1 k2 h2 v2 uu d y q)) res := by
  refine CTi.enter (own := RX8) (cc := cX8_night) (maxL := 7) (ret := (some .int)) (by decide) rfl rfl (Nat.le_of_ble_eq_true rfl) ?_
  intro pr e s m below meth c A F hr hlk hP hS ls hl
  obtain ⟨⟨hx, hb, hml, hown, hts⟩, hK, hDD, hA, hKC⟩ := id F
  have hl : lv_has ls 7 [(0, .ref (ad 0)), (1, .int x1), (2, .int x2), (3, .int x3)] := hl
  have hP : va_P (dC, dI) vwCl (wX cI cC ad p h v k1 h1 v1 k2 h2 v2 r d y q) s.heap := hP
  unfold M_X8_night at hM
  refine kloop (α := RT × Int32 × Int32 × Int32) (res := res) (fun k a => M_X8_night_53 h v x1 x2 x3 k a) (fun rec a => M_X8_night_53b h v x1 x2 x3 rec a) (fun _ => rfl) (fun _ _ => rfl) F (fun a => (wX cI cC ad p h v k1 h1 v1 k2 h2 v2 a.1 d y q)) (fun a => [(0, .ref (ad 0)), (2, .int x2), (3, .int x3), (4, .int a.2.1), (5, .int a.2.2.1), (6, .int a.2.2.2)]) (fun a => []) 53 ?_ (fun j53 => ?_)
  · intro rc53 ih53 a53 H locs ls hP hS hl hM
    unfold M_X8_night_53b at hM
    refine kblk (α := RT × Int32 × Int32 × Int32) (res := res) (fun a => M_X8_night_109 h v x1 x2 x3 rc53 a) F (fun a => (wX cI cC ad p h v k1 h1 v1 k2 h2 v2 a.1 d y q)) (fun a => [(0, .ref (ad 0)), (2, .int x2), (3, .int x3), (4, .int a.2.1), (5, .int a.2.2.1), (6, .int a.2.2.2)]) (fun a => []) 109 ?_ (fun j109 => ?_)
    · intro a109 H locs ls hP hS hl hM
      unfold M_X8_night_109 at hM
      refine lv_iinc (v := (a109.2.2.2 + (1 : Int32))) (lv' := [(6, .int (a109.2.2.2 + (1 : Int32))), (0, .ref (ad 0)), (2, .int x2), (3, .int x3), (4, .int a109.2.1), (5, .int a109.2.2.1)]) hx hb dX8_night_109 hl (k := 5) rfl rfl (by decide) rfl (fun ls hl => ?_)
      refine lv_goto (tgt := 53) hx hb dX8_night_112 (by decide) ?_
      exact ih53 (a109.1, a109.2.1, a109.2.2.1, (a109.2.2.2 + (1 : Int32))) _ _ _ hP hS (lv_sub hl [1, 2, 3, 4, 5, 0] rfl) hM
    refine lv_iload hx hb dX8_night_53 (lv_at hl 5 rfl) ?_
    refine lv_iload_n hx hb dX8_night_55 rfl (lv_at hl 1 rfl) ?_
    refine lv_icmp_ge (tgt := 115) hx hb dX8_night_56 (by decide) (fun hc => ?_) (fun hc => ?_)
    · have hM := if_pp hc hM
      refine lv_iload_n hx hb dX8_night_115 rfl (lv_at hl 2 rfl) ?_
      refine lv_if_ne (tgt := 122) hx hb dX8_night_116 (by decide) (fun hc => ?_) (fun hc => ?_)
      · have hM := if_nn hc hM
        refine lv_iload_n hx hb dX8_night_122 rfl (lv_at hl 2 rfl) ?_
        refine lv_iconst (v := 1) hx hb dX8_night_123 (by decide) ?_
        refine lv_icmp_ne (tgt := 140) hx hb dX8_night_124 (by decide) (fun hc => ?_) (fun hc => ?_)
        · have hM := if_nn hc hM
          refine lv_aload_n hx hb dX8_night_140 rfl (lv_at hl 0 rfl) ?_
          refine g_get (ci := 8) (C := RX8) (T := TX8) (N := 8) (v := .ref (ad 20)) F hP 0 rfl rfl inX8_night_X8 4 (by decide) (List.mem_of_getElem? (i := 1) rfl) rfl dX8_night_141 ?_
          refine g_get (ci := 6) (C := RX6) (T := TX6) (N := 6) (v := .int a53.1.2.1) F hP 20 rfl rfl inX8_night_X6 4 (by decide) (List.mem_of_getElem? (i := 5) rfl) rfl dX8_night_144 ?_
          obtain ⟨z147, hcr, hM⟩ := ob_s hM
          refine res_i0 F hP hS rfl [] rfl rfl (runS_of (n := 1) (As := [.int a53.1.2.1]) (rest := []) F hP hS rfl [] rfl rfl (c_J6_bitCount_0f7a4 l dC dI cI cC cZ sa a53.1.2.1 hcr _) gX8_night_J6_bitCount_0f7a4 rfl (by decide +kernel) ⟨Nat.le_of_ble_eq_true rfl, Nat.le_of_ble_eq_true rfl⟩ rfl hl.1 rfl (Nat.le_of_ble_eq_true rfl) dX8_night_147 ⟨Nat.zero_le _, Nat.zero_le _⟩) (fun H locs hP hS => ?_)
          exact ret_i hx hb hr hlk dX8_night_150 hM hP hS
        · have hM := if_pp hc hM
          refine lv_aload_n hx hb dX8_night_127 rfl (lv_at hl 0 rfl) ?_
          refine g_get (ci := 8) (C := RX8) (T := TX8) (N := 8) (v := .ref (ad 20)) F hP 0 rfl rfl inX8_night_X8 4 (by decide) (List.mem_of_getElem? (i := 1) rfl) rfl dX8_night_128 ?_
          refine g_get (ci := 6) (C := RX6) (T := TX6) (N := 6) (v := .int a53.1.1) F hP 20 rfl rfl inX8_night_X6 3 (by decide) (List.mem_of_getElem? (i := 4) rfl) rfl dX8_night_131 ?_
          obtain ⟨z134, hcr, hM⟩ := ob_s hM
          refine res_i0 F hP hS rfl [] rfl rfl (runS_of (n := 1) (As := [.int a53.1.1]) (rest := []) F hP hS rfl [] rfl rfl (c_X8_cellOf l dC dI cI cC cZ sa a53.1.1 hcr _) gX8_night_X8_cellOf rfl (by decide +kernel) ⟨Nat.le_of_ble_eq_true rfl, Nat.le_of_ble_eq_true rfl⟩ rfl hl.1 rfl (Nat.le_of_ble_eq_true rfl) dX8_night_134 ⟨Nat.zero_le _, Nat.zero_le _⟩) (fun H locs hP hS => ?_)
          refine lv_goto (tgt := 150) hx hb dX8_night_137 (by decide) ?_
          exact ret_i hx hb hr hlk dX8_night_150 hM hP hS
      · have hM := if_pp hc hM
        refine lv_iload hx hb dX8_night_119 (lv_at hl 4 rfl) ?_
        exact ret_i hx hb hr hlk dX8_night_121 hM hP hS
    · have hM := if_nn hc hM
      refine lv_bipush (v := 75) hx hb dX8_night_59 (by decide) ?_
      refine lv_iload hx hb dX8_night_61 (lv_at hl 3 rfl) ?_
      refine lv_imul hx hb dX8_night_63 ?_
      refine lv_bipush (v := 74) hx hb dX8_night_64 (by decide) ?_
      refine lv_iadd hx hb dX8_night_66 ?_
      refine lv_ldcw (v := 65537) hx hb hown (hts _ (List.mem_of_getElem? (i := 3) rfl)) dX8_night_67 ?_
      obtain ⟨hne, hM⟩ := if_ok hM
      refine lv_irem hx hb dX8_night_70 hne ?_
      refine lv_istore (lv' := [(4, .int ((((75 : Int32) * a53.2.1) + (74 : Int32)) - (((75 : Int32) * a53.2.1) + (74 : Int32)) / (65537 : Int32) * (65537 : Int32))), (0, .ref (ad 0)), (2, .int x2), (3, .int x3), (5, .int a53.2.2.1), (6, .int a53.2.2.2)]) hx hb dX8_night_71 hl (by decide) rfl (fun ls hl => ?_)
      refine lv_aload_n hx hb dX8_night_73 rfl (lv_at hl 1 rfl) ?_
      refine g_get (ci := 8) (C := RX8) (T := TX8) (N := 8) (v := .ref (ad 20)) F hP 0 rfl rfl inX8_night_X8 4 (by decide) (List.mem_of_getElem? (i := 1) rfl) rfl dX8_night_74 ?_
      refine lv_aload_n hx hb dX8_night_77 rfl (lv_at hl 1 rfl) ?_
      refine g_get (ci := 8) (C := RX8) (T := TX8) (N := 8) (v := .ref (ad 3)) F hP 0 rfl rfl inX8_night_X8 1 (by decide) (List.mem_of_getElem? (i := 2) rfl) rfl dX8_night_78 ?_
      refine lv_iload hx hb dX8_night_81 (lv_at hl 0 rfl) ?_
      refine lv_iconst (v := 5) hx hb dX8_night_83 (by decide) ?_
      obtain ⟨hne, hM⟩ := if_ok hM
      refine lv_irem hx hb dX8_night_84 hne ?_
      obtain ⟨z85, hcr, hM⟩ := ob_s hM
      refine res_i (ws' := (wX cI cC ad p h v k1 h1 v1 k2 h2 v2 z85.2 d y q)) F hP hS rfl [20, 21, 22, 23, 3, 4, 5, 6, 7] rfl rfl (runV_of (n := 2) (As := [.ref (ad 3), .int (((((75 : Int32) * a53.2.1) + (74 : Int32)) - (((75 : Int32) * a53.2.1) + (74 : Int32)) / (65537 : Int32) * (65537 : Int32)) - ((((75 : Int32) * a53.2.1) + (74 : Int32)) - (((75 : Int32) * a53.2.1) + (74 : Int32)) / (65537 : Int32) * (65537 : Int32)) / (5 : Int32) * (5 : Int32))]) (rest := []) F hP hS rfl [20, 21, 22, 23, 3, 4, 5, 6, 7] rfl rfl (c_X6_take l dC dI cI cC cZ sa (ad 20) (ad 21) (ad 22) (ad 23) (ad 3) (ad 4) (ad 5) (ad 6) (ad 7) a53.1 h v (((((75 : Int32) * a53.2.1) + (74 : Int32)) - (((75 : Int32) * a53.2.1) + (74 : Int32)) / (65537 : Int32) * (65537 : Int32)) - ((((75 : Int32) * a53.2.1) + (74 : Int32)) - (((75 : Int32) * a53.2.1) + (74 : Int32)) / (65537 : Int32) * (65537 : Int32)) / (5 : Int32) * (5 : Int32)) hcr _) gX8_night_X6_take rfl (by decide +kernel) ⟨Nat.le_of_ble_eq_true rfl, Nat.le_of_ble_eq_true rfl⟩ 20 6 rfl rfl rfl hl.1 rfl (Nat.le_of_ble_eq_true rfl) dX8_night_85 ⟨Nat.zero_le _, Nat.zero_le _⟩) (rep_pt rfl rfl rfl) (fun H locs hP hS => ?_)
      refine lv_pop hx hb dX8_night_88 rfl ?_
      refine lv_aload_n hx hb dX8_night_89 rfl (lv_at hl 1 rfl) ?_
      refine g_get (ci := 8) (C := RX8) (T := TX8) (N := 8) (v := .ref (ad 20)) F hP 0 rfl rfl inX8_night_X8 4 (by decide) (List.mem_of_getElem? (i := 1) rfl) rfl dX8_night_90 ?_
      refine lv_aload_n hx hb dX8_night_93 rfl (lv_at hl 1 rfl) ?_
      refine g_get (ci := 8) (C := RX8) (T := TX8) (N := 8) (v := .ref (ad 3)) F hP 0 rfl rfl inX8_night_X8 1 (by decide) (List.mem_of_getElem? (i := 2) rfl) rfl dX8_night_94 ?_
      refine lv_iconst (v := 0) hx hb dX8_night_97 (by decide) ?_
      obtain ⟨z98, hcr, hM⟩ := ob_s hM
      refine res_i0 F hP hS rfl [20, 21, 22, 23, 3, 4, 5, 6, 7] rfl rfl (runV_of (n := 2) (As := [.ref (ad 3), .int (0 : Int32)]) (rest := []) F hP hS rfl [20, 21, 22, 23, 3, 4, 5, 6, 7] rfl rfl (c_X6_firstShownTo l dC dI cI cC cZ sa (ad 20) (ad 21) (ad 22) (ad 23) (ad 3) (ad 4) (ad 5) (ad 6) (ad 7) z85.2 h v (0 : Int32) hcr _) gX8_night_X6_firstShownTo rfl (by decide +kernel) ⟨Nat.le_of_ble_eq_true rfl, Nat.le_of_ble_eq_true rfl⟩ 20 6 rfl rfl rfl hl.1 rfl (Nat.le_of_ble_eq_true rfl) dX8_night_98 ⟨Nat.zero_le _, Nat.zero_le _⟩) (fun H locs hP hS => ?_)
      refine lv_bipush (v := -6) hx hb dX8_night_101 (by decide) ?_
      refine lv_icmp_eq (tgt := 109) hx hb dX8_night_103 (by decide) (fun hc => ?_) (fun hc => ?_)
      · have hM := if_pp hc hM
        exact j109 (z85.2, ((((75 : Int32) * a53.2.1) + (74 : Int32)) - (((75 : Int32) * a53.2.1) + (74 : Int32)) / (65537 : Int32) * (65537 : Int32)), a53.2.2.1, a53.2.2.2) _ _ _ hP hS (lv_sub hl [1, 2, 3, 0, 4, 5] rfl) hM
      · have hM := if_nn hc hM
        refine lv_iinc (v := (a53.2.2.1 + (1 : Int32))) (lv' := [(5, .int (a53.2.2.1 + (1 : Int32))), (4, .int ((((75 : Int32) * a53.2.1) + (74 : Int32)) - (((75 : Int32) * a53.2.1) + (74 : Int32)) / (65537 : Int32) * (65537 : Int32))), (0, .ref (ad 0)), (2, .int x2), (3, .int x3), (6, .int a53.2.2.2)]) hx hb dX8_night_106 hl (k := 4) rfl rfl (by decide) rfl (fun ls hl => ?_)
        exact j109 (z85.2, ((((75 : Int32) * a53.2.1) + (74 : Int32)) - (((75 : Int32) * a53.2.1) + (74 : Int32)) / (65537 : Int32) * (65537 : Int32)), (a53.2.2.1 + (1 : Int32)), a53.2.2.2) _ _ _ hP hS (lv_sub hl [2, 3, 4, 1, 0, 5] rfl) hM
  refine lv_iload_n hx hb dX8_night_0 rfl (lv_at hl 1 rfl) ?_
  refine lv_iconst (v := 0) hx hb dX8_night_1 (by decide) ?_
  refine lv_sipush (v := 9999) hx hb dX8_night_2 (by decide) ?_
  obtain ⟨z5, hcr, hM⟩ := ob_s hM
  refine res_i0 F hP hS rfl [] rfl rfl (runS_of (n := 3) (As := [.int x1, .int (0 : Int32), .int (9999 : Int32)]) (rest := []) F hP hS rfl [] rfl rfl (c_X8_within l dC dI cI cC cZ sa x1 (0 : Int32) (9999 : Int32) hcr _) gX8_night_X8_within rfl (by decide +kernel) ⟨Nat.le_of_ble_eq_true rfl, Nat.le_of_ble_eq_true rfl⟩ rfl hl.1 rfl (Nat.le_of_ble_eq_true rfl) dX8_night_5 ⟨Nat.zero_le _, Nat.zero_le _⟩) (fun H locs hP hS => ?_)
  refine lv_if_eq (tgt := 30) hx hb dX8_night_8 (by decide) (fun hc => ?_) (fun hc => ?_)
  · have hM := if_pp hc hM
    refine lv_bipush (v := -2) hx hb dX8_night_30 (by decide) ?_
    exact ret_i hx hb hr hlk dX8_night_32 hM hP hS
  · have hM := if_nn hc hM
    refine lv_iload_n hx hb dX8_night_11 rfl (lv_at hl 2 rfl) ?_
    refine lv_iconst (v := 0) hx hb dX8_night_12 (by decide) ?_
    refine lv_bipush (v := 99) hx hb dX8_night_13 (by decide) ?_
    obtain ⟨z15, hcr, hM⟩ := ob_s hM
    refine res_i0 F hP hS rfl [] rfl rfl (runS_of (n := 3) (As := [.int x2, .int (0 : Int32), .int (99 : Int32)]) (rest := []) F hP hS rfl [] rfl rfl (c_X8_within l dC dI cI cC cZ sa x2 (0 : Int32) (99 : Int32) hcr _) gX8_night_X8_within rfl (by decide +kernel) ⟨Nat.le_of_ble_eq_true rfl, Nat.le_of_ble_eq_true rfl⟩ rfl hl.1 rfl (Nat.le_of_ble_eq_true rfl) dX8_night_15 ⟨Nat.zero_le _, Nat.zero_le _⟩) (fun H locs hP hS => ?_)
    refine lv_if_eq (tgt := 30) hx hb dX8_night_18 (by decide) (fun hc => ?_) (fun hc => ?_)
    · have hM := if_pp hc hM
      refine lv_bipush (v := -2) hx hb dX8_night_30 (by decide) ?_
      exact ret_i hx hb hr hlk dX8_night_32 hM hP hS
    · have hM := if_nn hc hM
      refine lv_iload_n hx hb dX8_night_21 rfl (lv_at hl 3 rfl) ?_
      refine lv_iconst (v := 0) hx hb dX8_night_22 (by decide) ?_
      refine lv_iconst (v := 2) hx hb dX8_night_23 (by decide) ?_
      obtain ⟨z24, hcr, hM⟩ := ob_s hM
      refine res_i0 F hP hS rfl [] rfl rfl (runS_of (n := 3) (As := [.int x3, .int (0 : Int32), .int (2 : Int32)]) (rest := []) F hP hS rfl [] rfl rfl (c_X8_within l dC dI cI cC cZ sa x3 (0 : Int32) (2 : Int32) hcr _) gX8_night_X8_within rfl (by decide +kernel) ⟨Nat.le_of_ble_eq_true rfl, Nat.le_of_ble_eq_true rfl⟩ rfl hl.1 rfl (Nat.le_of_ble_eq_true rfl) dX8_night_24 ⟨Nat.zero_le _, Nat.zero_le _⟩) (fun H locs hP hS => ?_)
      refine lv_if_ne (tgt := 33) hx hb dX8_night_27 (by decide) (fun hc => ?_) (fun hc => ?_)
      · have hM := if_nn hc hM
        refine lv_iload_n hx hb dX8_night_33 rfl (lv_at hl 1 rfl) ?_
        refine lv_istore (lv' := [(4, .int x1), (0, .ref (ad 0)), (1, .int x1), (2, .int x2), (3, .int x3)]) hx hb dX8_night_34 hl (by decide) rfl (fun ls hl => ?_)
        refine lv_iconst (v := 0) hx hb dX8_night_36 (by decide) ?_
        refine lv_istore (lv' := [(5, .int (0 : Int32)), (4, .int x1), (0, .ref (ad 0)), (1, .int x1), (2, .int x2), (3, .int x3)]) hx hb dX8_night_37 hl (by decide) rfl (fun ls hl => ?_)
        refine lv_aload_n hx hb dX8_night_39 rfl (lv_at hl 2 rfl) ?_
        refine g_get (ci := 8) (C := RX8) (T := TX8) (N := 8) (v := .ref (ad 20)) F hP 0 rfl rfl inX8_night_X8 4 (by decide) (List.mem_of_getElem? (i := 1) rfl) rfl dX8_night_40 ?_
        refine lv_aload_n hx hb dX8_night_43 rfl (lv_at hl 2 rfl) ?_
        refine g_get (ci := 8) (C := RX8) (T := TX8) (N := 8) (v := .ref (ad 3)) F hP 0 rfl rfl inX8_night_X8 1 (by decide) (List.mem_of_getElem? (i := 2) rfl) rfl dX8_night_44 ?_
        obtain ⟨z47, hcr, hM⟩ := ob_s hM
        refine res_v (ws' := (wX cI cC ad p h v k1 h1 v1 k2 h2 v2 z47 d y q)) F hP hS rfl [20, 21, 22, 23, 3, 4, 5, 6, 7] rfl rfl (runV_of (n := 1) (As := [.ref (ad 3)]) (rest := []) F hP hS rfl [20, 21, 22, 23, 3, 4, 5, 6, 7] rfl rfl (c_X6_begin l dC dI cI cC cZ sa (ad 20) (ad 21) (ad 22) (ad 23) (ad 3) (ad 4) (ad 5) (ad 6) (ad 7) r h v hcr _) gX8_night_X6_begin rfl (by decide +kernel) ⟨Nat.le_of_ble_eq_true rfl, Nat.le_of_ble_eq_true rfl⟩ 20 6 rfl rfl rfl hl.1 rfl (Nat.le_of_ble_eq_true rfl) dX8_night_47 ⟨Nat.zero_le _, Nat.zero_le _⟩) (rep_pt rfl rfl rfl) (fun H locs hP hS => ?_)
        refine lv_iconst (v := 0) hx hb dX8_night_50 (by decide) ?_
        refine lv_istore (lv' := [(6, .int (0 : Int32)), (5, .int (0 : Int32)), (4, .int x1), (0, .ref (ad 0)), (1, .int x1), (2, .int x2), (3, .int x3)]) hx hb dX8_night_51 hl (by decide) rfl (fun ls hl => ?_)
        exact j53 200 (z47, x1, (0 : Int32), (0 : Int32)) _ _ _ hP hS (lv_sub hl [3, 5, 6, 2, 1, 0] rfl) hM
      · have hM := if_pp hc hM
        refine lv_bipush (v := -2) hx hb dX8_night_30 (by decide) ?_
        exact ret_i hx hb hr hlk dX8_night_32 hM hP hS
