/-! Walks, printed by wip/whole/gen.py -/
theorem inX8_firstMeeting_X0 : ∀ w ∈ wsX00, w ∈ wsX8_firstMeeting := fun w h => List.mem_cons_of_mem _ (List.mem_append_left _ (List.mem_append_right _ h))
theorem inX8_firstMeeting_X2 : ∀ w ∈ wsX20, w ∈ wsX8_firstMeeting := fun w h => List.mem_cons_of_mem _ (List.mem_append_right _ h)
theorem inX8_firstMeeting_X8 : ∀ w ∈ wsX80, w ∈ wsX8_firstMeeting := fun w h => List.mem_cons_of_mem _ (List.mem_append_left _ (List.mem_append_left _ (List.mem_append_right _ h)))
set_option maxHeartbeats 4000000 in
set_option maxRecDepth 100000 in
theorem c_X8_firstMeeting (l : Launch) (dC : Nat → ClassId) (dI : Nat → Nat → Nat) (cI cC cZ : ClassId) (sa : Nat → Nat) (ad : Nat → Nat) (p : PT) (h : HT) (v : VT) (k1 : Int32) (h1 : HT) (v1 : VT) (k2 : Int32) (h2 : HT) (v2 : VT) (r : RT) (d : DT) (y : YT) (q : QT) (x1 : Int32) (x2 : Int32) {res : Int32} (hM : M_X8_firstMeeting p h x1 x2 = some res) : CTi l (dC, dI) [(cI, .int), (cC, .char), (cZ, .boolean)] sa yX8_firstMeeting wsX8_firstMeeting (rmd 6) [.ref (ad 0), .int x1, .int x2] (wX cI cC ad p h v k1 h1 v1 k2 h2 v2 r d y q) (fun (_ : Unit) => (wX cI cC ad p h v k1 h1 v1 k2 h2 v2 r d y q)) (res, ()) := by
  refine CTi.enter (own := RX8) (cc := cX8_firstMeeting) (maxL := 9) (ret := (some .int)) (by decide) rfl rfl (Nat.le_of_ble_eq_true rfl) ?_
  intro pr e s m below meth c A F hr hlk hP hS ls hl
  obtain ⟨⟨hx, hb, hml, hown, hts⟩, hK, hDD, hA, hKC⟩ := id F
  have hl : lv_has ls 9 [(0, .ref (ad 0)), (1, .int x1), (2, .int x2)] := hl
  have hP : va_P (dC, dI) vwCl (wX cI cC ad p h v k1 h1 v1 k2 h2 v2 r d y q) s.heap := hP
  unfold M_X8_firstMeeting at hM
  refine kloop (α := Int32 × Int32 × Int32 × Int32) (res := res) (fun k a => M_X8_firstMeeting_39 p h x1 x2 k a) (fun rec a => M_X8_firstMeeting_39b p h x1 x2 rec a) (fun _ => rfl) (fun _ _ => rfl) F (fun a => (wX cI cC ad p h v k1 h1 v1 k2 h2 v2 r d y q)) (fun a => [(0, .ref (ad 0)), (1, .int x1), (2, .int x2), (3, .int a.1), (4, .int a.2.1), (5, .int a.2.2.1), (6, .int a.2.2.2)]) (fun a => []) 39 ?_ (fun j39 => ?_)
  · intro rc39 ih39 a39 H locs ls hP hS hl hM
    unfold M_X8_firstMeeting_39b at hM
    refine kblk (α := Int32 × Int32 × Int32 × Int32) (res := res) (fun a => M_X8_firstMeeting_106 p h x1 x2 rc39 a) F (fun a => (wX cI cC ad p h v k1 h1 v1 k2 h2 v2 r d y q)) (fun a => [(0, .ref (ad 0)), (1, .int x1), (2, .int x2), (5, .int a.1), (6, .int a.2.1), (7, .int a.2.2.1), (8, .int a.2.2.2)]) (fun a => []) 106 ?_ (fun j106 => ?_)
    · intro a106 H locs ls hP hS hl hM
      unfold M_X8_firstMeeting_106 at hM
      refine lv_iload hx hb dX8_firstMeeting_106 (lv_at hl 5 rfl) ?_
      refine lv_istore_n (lv' := [(3, .int a106.2.2.1), (0, .ref (ad 0)), (1, .int x1), (2, .int x2), (5, .int a106.1), (6, .int a106.2.1), (7, .int a106.2.2.1), (8, .int a106.2.2.2)]) hx hb dX8_firstMeeting_108 rfl hl (by decide) rfl (fun ls hl => ?_)
      refine lv_iload hx hb dX8_firstMeeting_109 (lv_at hl 7 rfl) ?_
      refine lv_istore (lv' := [(4, .int a106.2.2.2), (3, .int a106.2.2.1), (0, .ref (ad 0)), (1, .int x1), (2, .int x2), (5, .int a106.1), (6, .int a106.2.1), (7, .int a106.2.2.1), (8, .int a106.2.2.2)]) hx hb dX8_firstMeeting_111 hl (by decide) rfl (fun ls hl => ?_)
      refine lv_iinc (v := (a106.2.1 + (1 : Int32))) (lv' := [(6, .int (a106.2.1 + (1 : Int32))), (4, .int a106.2.2.2), (3, .int a106.2.2.1), (0, .ref (ad 0)), (1, .int x1), (2, .int x2), (5, .int a106.1), (7, .int a106.2.2.1), (8, .int a106.2.2.2)]) hx hb dX8_firstMeeting_113 hl (k := 6) rfl rfl (by decide) rfl (fun ls hl => ?_)
      refine lv_goto (tgt := 39) hx hb dX8_firstMeeting_116 (by decide) ?_
      exact ih39 (a106.2.2.1, a106.2.2.2, a106.1, (a106.2.1 + (1 : Int32))) _ _ _ hP hS (lv_sub hl [3, 4, 5, 2, 1, 6, 0] rfl) hM
    refine lv_iload hx hb dX8_firstMeeting_39 (lv_at hl 6 rfl) ?_
    refine lv_iload hx hb dX8_firstMeeting_41 (lv_at hl 5 rfl) ?_
    refine lv_icmp_ge (tgt := 119) hx hb dX8_firstMeeting_43 (by decide) (fun hc => ?_) (fun hc => ?_)
    · have hM := if_pp hc hM
      refine lv_bipush (v := -6) hx hb dX8_firstMeeting_119 (by decide) ?_
      exact ret_i hx hb hr hlk dX8_firstMeeting_121 (some_u hM) hP hS
    · have hM := if_nn hc hM
      refine lv_aload_n hx hb dX8_firstMeeting_46 rfl (lv_at hl 0 rfl) ?_
      refine g_get (ci := 8) (C := RX8) (T := TX8) (N := 8) (v := .ref (ad 3)) F hP 0 rfl rfl inX8_firstMeeting_X8 1 (by decide) (List.mem_of_getElem? (i := 1) rfl) rfl dX8_firstMeeting_47 ?_
      refine lv_iload_n hx hb dX8_firstMeeting_50 rfl (lv_at hl 3 rfl) ?_
      refine lv_aload_n hx hb dX8_firstMeeting_51 rfl (lv_at hl 0 rfl) ?_
      refine g_get (ci := 8) (C := RX8) (T := TX8) (N := 8) (v := .ref (ad 1)) F hP 0 rfl rfl inX8_firstMeeting_X8 0 (by decide) (List.mem_of_getElem? (i := 4) rfl) rfl dX8_firstMeeting_52 ?_
      refine lv_iload hx hb dX8_firstMeeting_55 (lv_at hl 6 rfl) ?_
      obtain ⟨z57, hcr, hM⟩ := ob_s hM
      refine res_i0 F hP hS rfl [1, 2] rfl rfl (runV_of (n := 1) (As := [.int a39.2.2.2]) (rest := [.int a39.1, .ref (ad 3)]) F hP hS rfl [1, 2] rfl rfl (c_X2_stepAt l dC dI cI cC cZ sa (ad 1) (ad 2) p a39.2.2.2 hcr _) gX8_firstMeeting_X2_stepAt rfl (by decide +kernel) ⟨Nat.le_of_ble_eq_true rfl, Nat.le_of_ble_eq_true rfl⟩ 1 2 rfl rfl rfl hl.1 rfl (Nat.le_of_ble_eq_true rfl) dX8_firstMeeting_57 ⟨Nat.zero_le _, Nat.zero_le _⟩) (fun H locs hP hS => ?_)
      obtain ⟨z60, hcr, hM⟩ := ob_s hM
      refine res_i0 F hP hS rfl [3, 4, 5, 6, 7] rfl rfl (runV_of (n := 2) (As := [.int a39.1, .int z57]) (rest := []) F hP hS rfl [3, 4, 5, 6, 7] rfl rfl (c_X0_stepOrStay l dC dI cI cC cZ sa (ad 3) (ad 4) (ad 5) (ad 6) (ad 7) h v a39.1 z57 hcr _) gX8_firstMeeting_X0_stepOrStay rfl (by decide +kernel) ⟨Nat.le_of_ble_eq_true rfl, Nat.le_of_ble_eq_true rfl⟩ 3 0 rfl rfl rfl hl.1 rfl (Nat.le_of_ble_eq_true rfl) dX8_firstMeeting_60 ⟨Nat.zero_le _, Nat.zero_le _⟩) (fun H locs hP hS => ?_)
      refine lv_istore (lv' := [(7, .int z60), (0, .ref (ad 0)), (1, .int x1), (2, .int x2), (3, .int a39.1), (4, .int a39.2.1), (5, .int a39.2.2.1), (6, .int a39.2.2.2)]) hx hb dX8_firstMeeting_63 hl (by decide) rfl (fun ls hl => ?_)
      refine lv_aload_n hx hb dX8_firstMeeting_65 rfl (lv_at hl 1 rfl) ?_
      refine g_get (ci := 8) (C := RX8) (T := TX8) (N := 8) (v := .ref (ad 3)) F hP 0 rfl rfl inX8_firstMeeting_X8 1 (by decide) (List.mem_of_getElem? (i := 1) rfl) rfl dX8_firstMeeting_66 ?_
      refine lv_iload hx hb dX8_firstMeeting_69 (lv_at hl 5 rfl) ?_
      refine lv_iload_n hx hb dX8_firstMeeting_71 rfl (lv_at hl 2 rfl) ?_
      refine lv_iload_n hx hb dX8_firstMeeting_72 rfl (lv_at hl 3 rfl) ?_
      refine lv_iload hx hb dX8_firstMeeting_73 (lv_at hl 7 rfl) ?_
      obtain ⟨z75, hcr, hM⟩ := ob_s hM
      refine res_i0 F hP hS rfl [] rfl rfl (runS_of (n := 3) (As := [.int x1, .int x2, .int a39.2.2.2]) (rest := [.int a39.2.1, .ref (ad 3)]) F hP hS rfl [] rfl rfl (c_X8_stepTold l dC dI cI cC cZ sa x1 x2 a39.2.2.2 hcr _) gX8_firstMeeting_X8_stepTold rfl (by decide +kernel) ⟨Nat.le_of_ble_eq_true rfl, Nat.le_of_ble_eq_true rfl⟩ rfl hl.1 rfl (Nat.le_of_ble_eq_true rfl) dX8_firstMeeting_75 ⟨Nat.zero_le _, Nat.zero_le _⟩) (fun H locs hP hS => ?_)
      obtain ⟨z78, hcr, hM⟩ := ob_s hM
      refine res_i0 F hP hS rfl [3, 4, 5, 6, 7] rfl rfl (runV_of (n := 2) (As := [.int a39.2.1, .int z75]) (rest := []) F hP hS rfl [3, 4, 5, 6, 7] rfl rfl (c_X0_stepOrStay l dC dI cI cC cZ sa (ad 3) (ad 4) (ad 5) (ad 6) (ad 7) h v a39.2.1 z75 hcr _) gX8_firstMeeting_X0_stepOrStay rfl (by decide +kernel) ⟨Nat.le_of_ble_eq_true rfl, Nat.le_of_ble_eq_true rfl⟩ 3 0 rfl rfl rfl hl.1 rfl (Nat.le_of_ble_eq_true rfl) dX8_firstMeeting_78 ⟨Nat.zero_le _, Nat.zero_le _⟩) (fun H locs hP hS => ?_)
      refine lv_istore (lv' := [(8, .int z78), (7, .int z60), (0, .ref (ad 0)), (1, .int x1), (2, .int x2), (3, .int a39.1), (4, .int a39.2.1), (5, .int a39.2.2.1), (6, .int a39.2.2.2)]) hx hb dX8_firstMeeting_81 hl (by decide) rfl (fun ls hl => ?_)
      refine lv_iload hx hb dX8_firstMeeting_83 (lv_at hl 1 rfl) ?_
      refine lv_iload hx hb dX8_firstMeeting_85 (lv_at hl 0 rfl) ?_
      refine lv_icmp_eq (tgt := 103) hx hb dX8_firstMeeting_87 (by decide) (fun hc => ?_) (fun hc => ?_)
      · have hM := if_pp hc hM
        refine lv_iload hx hb dX8_firstMeeting_103 (lv_at hl 8 rfl) ?_
        exact ret_i hx hb hr hlk dX8_firstMeeting_105 (some_u hM) hP hS
      · have hM := if_nn hc hM
        refine lv_iload hx hb dX8_firstMeeting_90 (lv_at hl 1 rfl) ?_
        refine lv_iload hx hb dX8_firstMeeting_92 (lv_at hl 6 rfl) ?_
        refine lv_icmp_ne (tgt := 106) hx hb dX8_firstMeeting_94 (by decide) (fun hc => ?_) (fun hc => ?_)
        · have hM := if_nn hc hM
          exact j106 (a39.2.2.1, a39.2.2.2, z60, z78) _ _ _ hP hS (lv_sub hl [2, 3, 4, 7, 8, 1, 0] rfl) hM
        · have hM := if_pp hc hM
          refine lv_iload hx hb dX8_firstMeeting_97 (lv_at hl 0 rfl) ?_
          refine lv_iload_n hx hb dX8_firstMeeting_99 rfl (lv_at hl 5 rfl) ?_
          refine lv_icmp_ne (tgt := 106) hx hb dX8_firstMeeting_100 (by decide) (fun hc => ?_) (fun hc => ?_)
          · have hM := if_nn hc hM
            exact j106 (a39.2.2.1, a39.2.2.2, z60, z78) _ _ _ hP hS (lv_sub hl [2, 3, 4, 7, 8, 1, 0] rfl) hM
          · have hM := if_pp hc hM
            refine lv_iload hx hb dX8_firstMeeting_103 (lv_at hl 8 rfl) ?_
            exact ret_i hx hb hr hlk dX8_firstMeeting_105 (some_u hM) hP hS
  refine lv_aload_n hx hb dX8_firstMeeting_0 rfl (lv_at hl 0 rfl) ?_
  refine g_get (ci := 8) (C := RX8) (T := TX8) (N := 8) (v := .ref (ad 3)) F hP 0 rfl rfl inX8_firstMeeting_X8 1 (by decide) (List.mem_of_getElem? (i := 1) rfl) rfl dX8_firstMeeting_1 ?_
  refine g_get (ci := 0) (C := RX0) (T := TX0) (N := 13) (v := .int h.2.2.2.2.2.2.2.2.2.1) F hP 3 rfl rfl inX8_firstMeeting_X0 9 (by decide) (List.mem_of_getElem? (i := 2) rfl) rfl dX8_firstMeeting_4 ?_
  obtain ⟨z7, hcr, hM⟩ := ob_s hM
  refine res_i0 F hP hS rfl [] rfl rfl (runS_of (n := 1) (As := [.int h.2.2.2.2.2.2.2.2.2.1]) (rest := []) F hP hS rfl [] rfl rfl (c_X8_bit l dC dI cI cC cZ sa h.2.2.2.2.2.2.2.2.2.1 hcr _) gX8_firstMeeting_X8_bit rfl (by decide +kernel) ⟨Nat.le_of_ble_eq_true rfl, Nat.le_of_ble_eq_true rfl⟩ rfl hl.1 rfl (Nat.le_of_ble_eq_true rfl) dX8_firstMeeting_7 ⟨Nat.zero_le _, Nat.zero_le _⟩) (fun H locs hP hS => ?_)
  refine lv_istore_n (lv' := [(3, .int z7), (0, .ref (ad 0)), (1, .int x1), (2, .int x2)]) hx hb dX8_firstMeeting_10 rfl hl (by decide) rfl (fun ls hl => ?_)
  refine lv_aload_n hx hb dX8_firstMeeting_11 rfl (lv_at hl 1 rfl) ?_
  refine g_get (ci := 8) (C := RX8) (T := TX8) (N := 8) (v := .ref (ad 3)) F hP 0 rfl rfl inX8_firstMeeting_X8 1 (by decide) (List.mem_of_getElem? (i := 1) rfl) rfl dX8_firstMeeting_12 ?_
  refine g_get (ci := 0) (C := RX0) (T := TX0) (N := 13) (v := .int h.2.2.2.2.2.2.2.2.2.2.1) F hP 3 rfl rfl inX8_firstMeeting_X0 10 (by decide) (List.mem_of_getElem? (i := 3) rfl) rfl dX8_firstMeeting_15 ?_
  obtain ⟨z18, hcr, hM⟩ := ob_s hM
  refine res_i0 F hP hS rfl [] rfl rfl (runS_of (n := 1) (As := [.int h.2.2.2.2.2.2.2.2.2.2.1]) (rest := []) F hP hS rfl [] rfl rfl (c_X8_bit l dC dI cI cC cZ sa h.2.2.2.2.2.2.2.2.2.2.1 hcr _) gX8_firstMeeting_X8_bit rfl (by decide +kernel) ⟨Nat.le_of_ble_eq_true rfl, Nat.le_of_ble_eq_true rfl⟩ rfl hl.1 rfl (Nat.le_of_ble_eq_true rfl) dX8_firstMeeting_18 ⟨Nat.zero_le _, Nat.zero_le _⟩) (fun H locs hP hS => ?_)
  refine lv_istore (lv' := [(4, .int z18), (3, .int z7), (0, .ref (ad 0)), (1, .int x1), (2, .int x2)]) hx hb dX8_firstMeeting_21 hl (by decide) rfl (fun ls hl => ?_)
  refine lv_iload_n hx hb dX8_firstMeeting_23 rfl (lv_at hl 4 rfl) ?_
  refine lv_aload_n hx hb dX8_firstMeeting_24 rfl (lv_at hl 2 rfl) ?_
  refine g_get (ci := 8) (C := RX8) (T := TX8) (N := 8) (v := .ref (ad 1)) F hP 0 rfl rfl inX8_firstMeeting_X8 0 (by decide) (List.mem_of_getElem? (i := 4) rfl) rfl dX8_firstMeeting_25 ?_
  refine g_get (ci := 2) (C := RX2) (T := TX2) (N := 2) (v := .int p.1) F hP 1 rfl rfl inX8_firstMeeting_X2 1 (by decide) (List.mem_of_getElem? (i := 5) rfl) rfl dX8_firstMeeting_28 ?_
  refine va_mmin hx hb (hml.trans hl.1.symm) hown (hts _ (List.mem_of_getElem? (i := 6) rfl)) (hts _ (List.mem_of_getElem? (i := 7) rfl)) (hts _ (List.mem_of_getElem? (i := 8) rfl)) (hts _ (List.mem_of_getElem? (i := 9) rfl)) (Nat.le_of_ble_eq_true rfl) (Nat.le_of_ble_eq_true rfl) (Nat.zero_le _) (Nat.zero_le _) dX8_firstMeeting_31 ?_
  refine lv_istore (lv' := [(5, .int (if p.1 < x2 then p.1 else x2)), (4, .int z18), (3, .int z7), (0, .ref (ad 0)), (1, .int x1), (2, .int x2)]) hx hb dX8_firstMeeting_34 hl (by decide) rfl (fun ls hl => ?_)
  refine lv_iconst (v := 0) hx hb dX8_firstMeeting_36 (by decide) ?_
  refine lv_istore (lv' := [(6, .int (0 : Int32)), (5, .int (if p.1 < x2 then p.1 else x2)), (4, .int z18), (3, .int z7), (0, .ref (ad 0)), (1, .int x1), (2, .int x2)]) hx hb dX8_firstMeeting_37 hl (by decide) rfl (fun ls hl => ?_)
  exact j39 200 (z7, z18, (if p.1 < x2 then p.1 else x2), (0 : Int32)) _ _ _ hP hS (lv_sub hl [4, 5, 6, 3, 2, 1, 0] rfl) hM
