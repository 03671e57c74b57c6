/-! Walks, printed by wip/whole/gen.py -/
theorem inX8_bestPost_X0 : ∀ w ∈ wsX00, w ∈ wsX8_bestPost := fun w h => List.mem_cons_of_mem _ (List.mem_append_right _ h)
theorem inX8_bestPost_X8 : ∀ w ∈ wsX80, w ∈ wsX8_bestPost := fun w h => List.mem_cons_of_mem _ (List.mem_append_left _ (List.mem_append_right _ h))
set_option maxHeartbeats 4000000 in
set_option maxRecDepth 100000 in
theorem c_X8_bestPost (l : Launch) (dC : Nat → ClassId) (dI : Nat → Nat → Nat) (cI cC cZ : ClassId) (sa : Nat → Nat) (ad : Nat → Nat) (p : PT) (h : HT) (v : VT) (k1 : Int32) (h1 : HT) (v1 : VT) (k2 : Int32) (h2 : HT) (v2 : VT) (r : RT) (d : DT) (y : YT) (q : QT) (x1 : Int32) {res : Int32} (hM : M_X8_bestPost h x1 = some res) : CTi l (dC, dI) [(cI, .int), (cC, .char), (cZ, .boolean)] sa yX8_bestPost wsX8_bestPost (rmd 6) [.ref (ad 0), .int x1] (wX cI cC ad p h v k1 h1 v1 k2 h2 v2 r d y q) (fun (_ : Unit) => (wX cI cC ad p h v k1 h1 v1 k2 h2 v2 r d y q)) (res, ()) := by
  refine CTi.enter (own := RX8) (cc := cX8_bestPost) (maxL := 6) (ret := (some .int)) (by decide) rfl rfl (Nat.le_of_ble_eq_true rfl) ?_
  intro pr e s m below meth c A F hr hlk hP hS ls hl
  obtain ⟨⟨hx, hb, hml, hown, hts⟩, hK, hDD, hA, hKC⟩ := id F
  have hl : lv_has ls 6 [(0, .ref (ad 0)), (1, .int x1)] := hl
  have hP : va_P (dC, dI) vwCl (wX cI cC ad p h v k1 h1 v1 k2 h2 v2 r d y q) s.heap := hP
  unfold M_X8_bestPost at hM
  refine kloop (α := Int32 × Int32 × Int32) (res := res) (fun k a => M_X8_bestPost_9 h x1 k a) (fun rec a => M_X8_bestPost_9b h x1 rec a) (fun _ => rfl) (fun _ _ => rfl) F (fun a => (wX cI cC ad p h v k1 h1 v1 k2 h2 v2 r d y q)) (fun a => [(0, .ref (ad 0)), (1, .int x1), (2, .int a.1), (3, .int a.2.1), (4, .int a.2.2)]) (fun a => []) 9 ?_ (fun j9 => ?_)
  · intro rc9 ih9 a9 H locs ls hP hS hl hM
    unfold M_X8_bestPost_9b at hM
    refine kblk (α := Int32 × Int32 × Int32) (res := res) (fun a => M_X8_bestPost_65 h x1 rc9 a) F (fun a => (wX cI cC ad p h v k1 h1 v1 k2 h2 v2 r d y q)) (fun a => [(0, .ref (ad 0)), (1, .int x1), (2, .int a.1), (3, .int a.2.1), (4, .int a.2.2)]) (fun a => []) 65 ?_ (fun j65 => ?_)
    · intro a65 H locs ls hP hS hl hM
      unfold M_X8_bestPost_65 at hM
      refine lv_iinc (v := (a65.2.2 + (1 : Int32))) (lv' := [(4, .int (a65.2.2 + (1 : Int32))), (0, .ref (ad 0)), (1, .int x1), (2, .int a65.1), (3, .int a65.2.1)]) hx hb dX8_bestPost_65 hl (k := 4) rfl rfl (by decide) rfl (fun ls hl => ?_)
      refine lv_goto (tgt := 9) hx hb dX8_bestPost_68 (by decide) ?_
      exact ih9 (a65.1, a65.2.1, (a65.2.2 + (1 : Int32))) _ _ _ hP hS (lv_sub hl [1, 2, 3, 4, 0] rfl) hM
    refine kblk (α := Int32 × Int32 × Int32 × Int32) (res := res) (fun a => M_X8_bestPost_51 h x1 rc9 a) F (fun a => (wX cI cC ad p h v k1 h1 v1 k2 h2 v2 r d y q)) (fun a => [(0, .ref (ad 0)), (1, .int x1), (2, .int a.1), (3, .int a.2.1), (4, .int a.2.2.1)]) (fun a => [.int a.2.2.2]) 51 ?_ (fun j51 => ?_)
    · intro a51 H locs ls hP hS hl hM
      unfold M_X8_bestPost_51 at hM
      refine lv_istore (lv' := [(5, .int a51.2.2.2), (0, .ref (ad 0)), (1, .int x1), (2, .int a51.1), (3, .int a51.2.1), (4, .int a51.2.2.1)]) hx hb dX8_bestPost_51 hl (by decide) rfl (fun ls hl => ?_)
      refine lv_iload hx hb dX8_bestPost_53 (lv_at hl 0 rfl) ?_
      refine lv_iload_n hx hb dX8_bestPost_55 rfl (lv_at hl 4 rfl) ?_
      refine lv_icmp_ge (tgt := 65) hx hb dX8_bestPost_56 (by decide) (fun hc => ?_) (fun hc => ?_)
      · have hM := if_pp hc hM
        exact j65 (a51.1, a51.2.1, a51.2.2.1) _ _ _ hP hS (lv_sub hl [1, 2, 3, 4, 5] rfl) hM
      · have hM := if_nn hc hM
        refine lv_iload hx hb dX8_bestPost_59 (lv_at hl 0 rfl) ?_
        refine lv_istore_n (lv' := [(3, .int a51.2.2.2), (5, .int a51.2.2.2), (0, .ref (ad 0)), (1, .int x1), (2, .int a51.1), (4, .int a51.2.2.1)]) hx hb dX8_bestPost_61 rfl hl (by decide) rfl (fun ls hl => ?_)
        refine lv_iload hx hb dX8_bestPost_62 (lv_at hl 5 rfl) ?_
        refine lv_istore_n (lv' := [(2, .int a51.2.2.1), (3, .int a51.2.2.2), (5, .int a51.2.2.2), (0, .ref (ad 0)), (1, .int x1), (4, .int a51.2.2.1)]) hx hb dX8_bestPost_64 rfl hl (by decide) rfl (fun ls hl => ?_)
        exact j65 (a51.2.2.1, a51.2.2.2, a51.2.2.1) _ _ _ hP hS (lv_sub hl [3, 4, 0, 1, 5] rfl) hM
    refine lv_iload hx hb dX8_bestPost_9 (lv_at hl 4 rfl) ?_
    refine lv_iconst (v := 4) hx hb dX8_bestPost_11 (by decide) ?_
    refine lv_aload_n hx hb dX8_bestPost_12 rfl (lv_at hl 0 rfl) ?_
    refine g_get (ci := 8) (C := RX8) (T := TX8) (N := 8) (v := .ref (ad 3)) F hP 0 rfl rfl inX8_bestPost_X8 1 (by decide) (List.mem_of_getElem? (i := 1) rfl) rfl dX8_bestPost_13 ?_
    obtain ⟨z16, hcr, hM⟩ := ob_s hM
    refine res_i0 F hP hS rfl [3, 4, 5, 6, 7] rfl rfl (runV_of (n := 0) (As := []) (rest := [.int (4 : Int32), .int a9.2.2]) F hP hS rfl [3, 4, 5, 6, 7] rfl rfl (c_X0_cells l dC dI cI cC cZ sa (ad 3) (ad 4) (ad 5) (ad 6) (ad 7) h v hcr _) gX8_bestPost_X0_cells rfl (by decide +kernel) ⟨Nat.le_of_ble_eq_true rfl, Nat.le_of_ble_eq_true rfl⟩ 3 0 rfl rfl rfl hl.1 rfl (Nat.le_of_ble_eq_true rfl) dX8_bestPost_16 ⟨Nat.zero_le _, Nat.zero_le _⟩) (fun H locs hP hS => ?_)
    refine lv_imul hx hb dX8_bestPost_19 ?_
    refine lv_icmp_ge (tgt := 71) hx hb dX8_bestPost_20 (by decide) (fun hc => ?_) (fun hc => ?_)
    · have hM := if_pp hc hM
      refine lv_iload_n hx hb dX8_bestPost_71 rfl (lv_at hl 2 rfl) ?_
      exact ret_i hx hb hr hlk dX8_bestPost_72 (some_u hM) hP hS
    · have hM := if_nn hc hM
      refine lv_aload_n hx hb dX8_bestPost_23 rfl (lv_at hl 0 rfl) ?_
      refine g_get (ci := 8) (C := RX8) (T := TX8) (N := 8) (v := .ref (ad 3)) F hP 0 rfl rfl inX8_bestPost_X8 1 (by decide) (List.mem_of_getElem? (i := 1) rfl) rfl dX8_bestPost_24 ?_
      refine g_get (ci := 0) (C := RX0) (T := TX0) (N := 13) (v := .int h.2.2.2.2.2.1) F hP 3 rfl rfl inX8_bestPost_X0 5 (by decide) (List.mem_of_getElem? (i := 2) rfl) rfl dX8_bestPost_27 ?_
      refine lv_iload hx hb dX8_bestPost_30 (lv_at hl 4 rfl) ?_
      refine lv_iconst (v := 4) hx hb dX8_bestPost_32 (by decide) ?_
      obtain ⟨hne, hM⟩ := if_ok hM
      refine lv_idiv hx hb dX8_bestPost_33 hne ?_
      obtain ⟨z34, hcr, hM⟩ := ob_s hM
      refine res_i0 F hP hS rfl [] rfl rfl (runS_of (n := 2) (As := [.int h.2.2.2.2.2.1, .int (a9.2.2 / (4 : Int32))]) (rest := []) F hP hS rfl [] rfl rfl (c_X8_has l dC dI cI cC cZ sa h.2.2.2.2.2.1 (a9.2.2 / (4 : Int32)) hcr _) gX8_bestPost_X8_has rfl (by decide +kernel) ⟨Nat.le_of_ble_eq_true rfl, Nat.le_of_ble_eq_true rfl⟩ rfl hl.1 rfl (Nat.le_of_ble_eq_true rfl) dX8_bestPost_34 ⟨Nat.zero_le _, Nat.zero_le _⟩) (fun H locs hP hS => ?_)
      refine lv_if_eq (tgt := 44) hx hb dX8_bestPost_37 (by decide) (fun hc => ?_) (fun hc => ?_)
      · have hM := if_pp hc hM
        refine lv_aload_n hx hb dX8_bestPost_44 rfl (lv_at hl 0 rfl) ?_
        refine lv_iload_n hx hb dX8_bestPost_45 rfl (lv_at hl 1 rfl) ?_
        refine lv_iload hx hb dX8_bestPost_46 (lv_at hl 4 rfl) ?_
        obtain ⟨z48, hcr, hM⟩ := ob_s hM
        refine res_i0 F hP hS rfl [0, 1, 2, 3, 4, 5, 6, 7, 8, 9, 10, 11, 12, 13, 14, 15, 16, 17, 18, 19, 20, 21, 22, 23, 24, 25, 26, 27, 28, 29, 30] rfl rfl (runV_of (n := 2) (As := [.int x1, .int a9.2.2]) (rest := []) F hP hS rfl [0, 1, 2, 3, 4, 5, 6, 7, 8, 9, 10, 11, 12, 13, 14, 15, 16, 17, 18, 19, 20, 21, 22, 23, 24, 25, 26, 27, 28, 29, 30] rfl rfl (c_X8_bareWith l dC dI cI cC cZ sa ad p h v k1 h1 v1 k2 h2 v2 r d y q x1 a9.2.2 hcr _) gX8_bestPost_X8_bareWith rfl (by decide +kernel) ⟨Nat.le_of_ble_eq_true rfl, Nat.le_of_ble_eq_true rfl⟩ 0 8 rfl rfl rfl hl.1 rfl (Nat.le_of_ble_eq_true rfl) dX8_bestPost_48 ⟨Nat.zero_le _, Nat.zero_le _⟩) (fun H locs hP hS => ?_)
        exact j51 (a9.1, a9.2.1, a9.2.2, z48) _ _ _ hP hS (lv_sub hl [0, 1, 2, 3, 4] rfl) hM
      · have hM := if_nn hc hM
        refine lv_iload_n hx hb dX8_bestPost_40 rfl (lv_at hl 3 rfl) ?_
        refine lv_goto (tgt := 51) hx hb dX8_bestPost_41 (by decide) ?_
        exact j51 (a9.1, a9.2.1, a9.2.2, a9.2.1) _ _ _ hP hS (lv_sub hl [0, 1, 2, 3, 4] rfl) hM
  refine lv_bipush (v := -6) hx hb dX8_bestPost_0 (by decide) ?_
  refine lv_istore_n (lv' := [(2, .int (-6 : Int32)), (0, .ref (ad 0)), (1, .int x1)]) hx hb dX8_bestPost_2 rfl hl (by decide) rfl (fun ls hl => ?_)
  refine lv_bipush (v := 17) hx hb dX8_bestPost_3 (by decide) ?_
  refine lv_istore_n (lv' := [(3, .int (17 : Int32)), (2, .int (-6 : Int32)), (0, .ref (ad 0)), (1, .int x1)]) hx hb dX8_bestPost_5 rfl hl (by decide) rfl (fun ls hl => ?_)
  refine lv_iconst (v := 0) hx hb dX8_bestPost_6 (by decide) ?_
  refine lv_istore (lv' := [(4, .int (0 : Int32)), (3, .int (17 : Int32)), (2, .int (-6 : Int32)), (0, .ref (ad 0)), (1, .int x1)]) hx hb dX8_bestPost_7 hl (by decide) rfl (fun ls hl => ?_)
  exact j9 200 ((-6 : Int32), (17 : Int32), (0 : Int32)) _ _ _ hP hS (lv_sub hl [3, 4, 2, 1, 0] rfl) hM
