/-! Walks, printed by wip/whole/gen.py -/
theorem inX8_bare_X8 : ∀ w ∈ wsX80, w ∈ wsX8_bare := fun w h => List.mem_cons_of_mem _ (List.mem_append_left _ (List.mem_append_left _ (List.mem_append_right _ h)))
set_option maxHeartbeats 4000000 in
set_option maxRecDepth 100000 in
theorem c_X8_bare (l : Launch) (dC : Nat → ClassId) (dI : Nat → Nat → Nat) (cI cC cZ : ClassId) (sa : Nat → Nat) (ad : Nat → Nat) (p : PT) (h : HT) (v : VT) (k1 : Int32) (h1 : HT) (v1 : VT) (k2 : Int32) (h2 : HT) (v2 : VT) (r : RT) (d : DT) (y : YT) (q : QT)  {res : Int32} (hM : M_X8_bare h v = some res) : CTi l (dC, dI) [(cI, .int), (cC, .char), (cZ, .boolean)] sa yX8_bare wsX8_bare (rmd 6) [.ref (ad 0)] (wX cI cC ad p h v k1 h1 v1 k2 h2 v2 r d y q) (fun (_ : Unit) => (wX cI cC ad p h v k1 h1 v1 k2 h2 v2 r d y q)) (res, ()) := by
  refine CTi.enter (own := RX8) (cc := cX8_bare) (maxL := 1) (ret := (some .int)) (by decide) rfl rfl (Nat.le_of_ble_eq_true rfl) ?_
  intro pr e s m below meth c A F hr hlk hP hS ls hl
  obtain ⟨⟨hx, hb, hml, hown, hts⟩, hK, hDD, hA, hKC⟩ := id F
  have hl : lv_has ls 1 [(0, .ref (ad 0))] := hl
  have hP : va_P (dC, dI) vwCl (wX cI cC ad p h v k1 h1 v1 k2 h2 v2 r d y q) s.heap := hP
  unfold M_X8_bare at hM
  refine lv_aload_n hx hb dX8_bare_0 rfl (lv_at hl 0 rfl) ?_
  refine g_get (ci := 8) (C := RX8) (T := TX8) (N := 8) (v := .ref (ad 3)) F hP 0 rfl rfl inX8_bare_X8 1 (by decide) (List.mem_of_getElem? (i := 1) rfl) rfl dX8_bare_1 ?_
  obtain ⟨z4, hcr, hM⟩ := ob_s hM
  refine res_i0 F hP hS rfl [3, 4, 5, 6, 7] rfl rfl (runV_of (n := 0) (As := []) (rest := []) F hP hS rfl [3, 4, 5, 6, 7] rfl rfl (c_X0_bareCells l dC dI cI cC cZ sa (ad 3) (ad 4) (ad 5) (ad 6) (ad 7) h v hcr _) gX8_bare_X0_bareCells rfl (by decide +kernel) ⟨Nat.le_of_ble_eq_true rfl, Nat.le_of_ble_eq_true rfl⟩ 3 0 rfl rfl rfl hl.1 rfl (Nat.le_of_ble_eq_true rfl) dX8_bare_4 ⟨Nat.zero_le _, Nat.zero_le _⟩) (fun H locs hP hS => ?_)
  exact ret_i hx hb hr hlk dX8_bare_7 (some_u hM) hP hS
theorem inX8_bareWith_X8 : ∀ w ∈ wsX80, w ∈ wsX8_bareWith := fun w h => List.mem_cons_of_mem _ (List.mem_append_left _ (List.mem_append_right _ h))
set_option maxHeartbeats 4000000 in
set_option maxRecDepth 100000 in
theorem c_X8_bareWith (l : Launch) (dC : Nat → ClassId) (dI : Nat → Nat → Nat) (cI cC cZ : ClassId) (sa : Nat → Nat) (ad : Nat → Nat) (p : PT) (h : HT) (v : VT) (k1 : Int32) (h1 : HT) (v1 : VT) (k2 : Int32) (h2 : HT) (v2 : VT) (r : RT) (d : DT) (y : YT) (q : QT) (x1 : Int32) (x2 : Int32) {res : Int32} (hM : M_X8_bareWith h x1 x2 = some res) : CTi l (dC, dI) [(cI, .int), (cC, .char), (cZ, .boolean)] sa yX8_bareWith wsX8_bareWith (rmd 5) [.ref (ad 0), .int x1, .int x2] (wX cI cC ad p h v k1 h1 v1 k2 h2 v2 r d y q) (fun (_ : Unit) => (wX cI cC ad p h v k1 h1 v1 k2 h2 v2 r d y q)) (res, ()) := by
  refine CTi.enter (own := RX8) (cc := cX8_bareWith) (maxL := 3) (ret := (some .int)) (by decide) rfl rfl (Nat.le_of_ble_eq_true rfl) ?_
  intro pr e s m below meth c A F hr hlk hP hS ls hl
  obtain ⟨⟨hx, hb, hml, hown, hts⟩, hK, hDD, hA, hKC⟩ := id F
  have hl : lv_has ls 3 [(0, .ref (ad 0)), (1, .int x1), (2, .int x2)] := hl
  have hP : va_P (dC, dI) vwCl (wX cI cC ad p h v k1 h1 v1 k2 h2 v2 r d y q) s.heap := hP
  unfold M_X8_bareWith at hM
  refine lv_iload_n hx hb dX8_bareWith_0 rfl (lv_at hl 1 rfl) ?_
  refine lv_aload_n hx hb dX8_bareWith_1 rfl (lv_at hl 0 rfl) ?_
  refine g_get (ci := 8) (C := RX8) (T := TX8) (N := 8) (v := .ref (ad 3)) F hP 0 rfl rfl inX8_bareWith_X8 1 (by decide) (List.mem_of_getElem? (i := 1) rfl) rfl dX8_bareWith_2 ?_
  refine lv_iload_n hx hb dX8_bareWith_5 rfl (lv_at hl 2 rfl) ?_
  refine lv_iconst (v := 4) hx hb dX8_bareWith_6 (by decide) ?_
  obtain ⟨hne, hM⟩ := if_ok hM
  refine lv_idiv hx hb dX8_bareWith_7 hne ?_
  refine lv_iload_n hx hb dX8_bareWith_8 rfl (lv_at hl 2 rfl) ?_
  refine lv_iconst (v := 4) hx hb dX8_bareWith_9 (by decide) ?_
  obtain ⟨hne, hM⟩ := if_ok hM
  refine lv_irem hx hb dX8_bareWith_10 hne ?_
  refine lv_iconst (v := 0) hx hb dX8_bareWith_11 (by decide) ?_
  obtain ⟨z12, hcr, hM⟩ := ob_s hM
  refine res_i0 F hP hS rfl [3, 4, 5, 6, 7] rfl rfl (runV_of (n := 3) (As := [.int (x2 / (4 : Int32)), .int (x2 - x2 / (4 : Int32) * (4 : Int32)), .int (0 : Int32)]) (rest := [.int x1]) F hP hS rfl [3, 4, 5, 6, 7] rfl rfl (c_X0_spoiledFrom l dC dI cI cC cZ sa (ad 3) (ad 4) (ad 5) (ad 6) (ad 7) h v (x2 / (4 : Int32)) (x2 - x2 / (4 : Int32) * (4 : Int32)) (0 : Int32) hcr _) gX8_bareWith_X0_spoiledFrom rfl (by decide +kernel) ⟨Nat.le_of_ble_eq_true rfl, Nat.le_of_ble_eq_true rfl⟩ 3 0 rfl rfl rfl hl.1 rfl (Nat.le_of_ble_eq_true rfl) dX8_bareWith_12 ⟨Nat.zero_le _, Nat.zero_le _⟩) (fun H locs hP hS => ?_)
  refine lv_iconst (v := -1) hx hb dX8_bareWith_15 (by decide) ?_
  refine lv_ixor hx hb dX8_bareWith_16 ?_
  refine lv_iand hx hb dX8_bareWith_17 ?_
  obtain ⟨z18, hcr, hM⟩ := ob_s hM
  refine res_i0 F hP hS rfl [] rfl rfl (runS_of (n := 1) (As := [.int (x1 &&& (z12 ^^^ (-1 : Int32)))]) (rest := []) F hP hS rfl [] rfl rfl (c_J6_bitCount_0f7a4 l dC dI cI cC cZ sa (x1 &&& (z12 ^^^ (-1 : Int32))) hcr _) gX8_bareWith_J6_bitCount_0f7a4 rfl (by decide +kernel) ⟨Nat.le_of_ble_eq_true rfl, Nat.le_of_ble_eq_true rfl⟩ rfl hl.1 rfl (Nat.le_of_ble_eq_true rfl) dX8_bareWith_18 ⟨Nat.zero_le _, Nat.zero_le _⟩) (fun H locs hP hS => ?_)
  exact ret_i hx hb hr hlk dX8_bareWith_21 (some_u hM) hP hS
theorem inX8_bestPost_X0 : ∀ w ∈ wsX00, w ∈ wsX8_bestPost := fun w h => List.mem_cons_of_mem _ (List.mem_append_right _ h)
theorem inX8_bestPost_X8 : ∀ w ∈ wsX80, w ∈ wsX8_bestPost := fun w h => List.mem_cons_of_mem _ (List.mem_append_left _ (List.mem_append_right _ h))
set_option maxHeartbeats 4000000 in
set_option maxRecDepth 100000 in
theorem c_X8_bestPost (l : Launch) (dC : Nat → ClassId) (dI : Nat → Nat → Nat) (cI cC cZ : ClassId) (sa : Nat → Nat) (ad : Nat → Nat) (p : PT) (h : HT) (v : VT) (k1 : Int32) (h1 : HT) (v1 : VT) (k2 : Int32) (h2 : HT) (v2 : VT) (r : RT) (d : DT) (y : YT) (q : QT) (x1 : Int32) {res : Int32} (hM : M_X8_bestPost h x1 = some res) : CTi l (dC, dI) [(cI, .int), (cC, .char), (cZ, .boolean)] sa yX8_bestPost wsX8_bestPost (rmd 6) [.ref (ad 0), .int x1] (wX cI cC ad p h v k1 h1 v1 k2 h2 v2 r d y q) (fun (_ : Unit) => (wX cI cC ad p h v k1 h1 v1 k2 h2 v2 r d y q)) (res, ()) := by
  refine CTi.enter (own := RX8) (cc := cX8_bestPost) (maxL := 6) (ret := (some .int)) (by decide) rfl rfl (Nat.le_of_ble_eq_true rfl) ?_
  intro pr e s m below meth c A F hr hlk hP hS ls hl
  obtain ⟨⟨hx, hb, hml, hown, hts⟩, hK, hDD, hA, hKC⟩ := id F
  have hl : lv_has ls 6 [(0, .ref (ad 0)), (1, .int x1)] := hl
  have hP : va_P (dC, dI) vwCl (wX cI cC ad p h v k1 h1 v1 k2 h2 v2 r d y q) s.heap := hP
  unfold M_X8_bestPost at hM
  refine kloop (α := Int32 × Int32 × Int32) (res := res) (fun k a => M_X8_bestPost_9 h x1 k a) (fun rec a => M_X8_bestPost_9b h x1 rec a) (fun _ => rfl) (fun _ _ => rfl) F (fun a => (wX cI cC ad p h v k1 h1 v1 k2 h2 v2 r d y q)) (fun a => [(0, .ref (ad 0)), (1, .int x1), (2, .int a.1), (3, .int a.2.1), (4, .int a.2.2)]) (fun a => []) 9 ?_ (fun j9 => ?_)
  · intro rc9 ih9 a9 H locs ls hP hS hl hM
    unfold M_X8_bestPost_9b at hM
    refine kblk (α := Int32 × Int32 × Int32) (res := res) (fun a => M_X8_bestPost_65 h x1 rc9 a) F (fun a => (wX cI cC ad p h v k1 h1 v1 k2 h2 v2 r d y q)) (fun a => [(0, .ref (ad 0)), (1, .int x1), (2, .int a.1), (3, .int a.2.1), (4, .int a.2.2)]) (fun a => []) 65 ?_ (fun j65 => ?_)
    · intro a65 H locs ls hP hS hl hM
      unfold M_X8_bestPost_65 at hM
      refine lv_iinc (v := (a65.2.2 + (1 : Int32))) (lv' := [(4, .int (a65.2.2 + (1 : Int32))), (0, .ref (ad 0)), (1, .int x1), (2, .int a65.1), (3, .int a65.2.1)]) hx hb dX8_bestPost_65 hl (k := 4) rfl rfl (by decide) rfl (fun ls hl => ?_)
      refine lv_goto (tgt := 9) hx hb dX8_bestPost_68 (by decide) ?_
      exact ih9 (a65.1, a65.2.1, (a65.2.2 + (1 : Int32))) _ _ _ hP hS (lv_sub hl [1, 2, 3, 4, 0] rfl) hM
    refine kblk (α := Int32 × Int32 × Int32 × Int32) (res := res) (fun a => M_X8_bestPost_51 h x1 rc9 a) F (fun a => (wX cI cC ad p h v k1 h1 v1 k2 h2 v2 r d y q)) (fun a => [(0, .ref (ad 0)), (1, .int x1), (2, .int a.1), (3, .int a.2.1), (4, .int a.2.2.1)]) (fun a => [.int a.2.2.2]) 51 ?_ (fun j51 => ?_)
    · intro a51 H locs ls hP hS hl hM
      unfold M_X8_bestPost_51 at hM
      refine lv_istore (lv' := [(5, .int a51.2.2.2), (0, .ref (ad 0)), (1, .int x1), (2, .int a51.1), (3, .int a51.2.1), (4, .int a51.2.2.1)]) hx hb dX8_bestPost_51 hl (by decide) rfl (fun ls hl => ?_)
      refine lv_iload hx hb dX8_bestPost_53 (lv_at hl 0 rfl) ?_
      refine lv_iload_n hx hb dX8_bestPost_55 rfl (lv_at hl 4 rfl) ?_
      refine lv_icmp_ge (tgt := 65) hx hb dX8_bestPost_56 (by decide) (fun hc => ?_) (fun hc => ?_)
      · have hM := if_pp hc hM
        exact j65 (a51.1, a51.2.1, a51.2.2.1) _ _ _ hP hS (lv_sub hl [1, 2, 3, 4, 5] rfl) hM
      · have hM := if_nn hc hM
        refine lv_iload hx hb dX8_bestPost_59 (lv_at hl 0 rfl) ?_
        refine lv_istore_n (lv' := [(3, .int a51.2.2.2), (5, .int a51.2.2.2), (0, .ref (ad 0)), (1, .int x1), (2, .int a51.1), (4, .int a51.2.2.1)]) hx hb dX8_bestPost_61 rfl hl (by decide) rfl (fun ls hl => ?_)
        refine lv_iload hx hb dX8_bestPost_62 (lv_at hl 5 rfl) ?_
        refine lv_istore_n (lv' := [(2, .int a51.2.2.1), (3, .int a51.2.2.2), (5, .int a51.2.2.2), (0, .ref (ad 0)), (1, .int x1), (4, .int a51.2.2.1)]) hx hb dX8_bestPost_64 rfl hl (by decide) rfl (fun ls hl => ?_)
        exact j65 (a51.2.2.1, a51.2.2.2, a51.2.2.1) _ _ _ hP hS (lv_sub hl [3, 4, 0, 1, 5] rfl) hM
    refine lv_iload hx hb dX8_bestPost_9 (lv_at hl 4 rfl) ?_
    refine lv_iconst (v := 4) hx hb dX8_bestPost_11 (by decide) ?_
    refine lv_aload_n hx hb dX8_bestPost_12 rfl (lv_at hl 0 rfl) ?_
    refine g_get (ci := 8) (C := RX8) (T := TX8) (N := 8) (v := .ref (ad 3)) F hP 0 rfl rfl inX8_bestPost_X8 1 (by decide) (List.mem_of_getElem? (i := 1) rfl) rfl dX8_bestPost_13 ?_
    obtain ⟨z16, hcr, hM⟩ := ob_s hM
    refine res_i0 F hP hS rfl [3, 4, 5, 6, 7] rfl rfl (runV_of (n := 0) (As := []) (rest := [.int (4 : Int32), .int a9.2.2]) F hP hS rfl [3, 4, 5, 6, 7] rfl rfl (c_X0_cells l dC dI cI cC cZ sa (ad 3) (ad 4) (ad 5) (ad 6) (ad 7) h v hcr _) gX8_bestPost_X0_cells rfl (by decide +kernel) ⟨Nat.le_of_ble_eq_true rfl, Nat.le_of_ble_eq_true rfl⟩ 3 0 rfl rfl rfl hl.1 rfl (Nat.le_of_ble_eq_true rfl) dX8_bestPost_16 ⟨Nat.zero_le _, Nat.zero_le _⟩) (fun H locs hP hS => ?_)
    refine lv_imul hx hb dX8_bestPost_19 ?_
    refine lv_icmp_ge (tgt := 71) hx hb dX8_bestPost_20 (by decide) (fun hc => ?_) (fun hc => ?_)
    · have hM := if_pp hc hM
      refine lv_iload_n hx hb dX8_bestPost_71 rfl (lv_at hl 2 rfl) ?_
      exact ret_i hx hb hr hlk dX8_bestPost_72 (some_u hM) hP hS
    · have hM := if_nn hc hM
      refine lv_aload_n hx hb dX8_bestPost_23 rfl (lv_at hl 0 rfl) ?_
      refine g_get (ci := 8) (C := RX8) (T := TX8) (N := 8) (v := .ref (ad 3)) F hP 0 rfl rfl inX8_bestPost_X8 1 (by decide) (List.mem_of_getElem? (i := 1) rfl) rfl dX8_bestPost_24 ?_
      refine g_get (ci := 0) (C := RX0) (T := TX0) (N := 13) (v := .int h.2.2.2.2.2.1) F hP 3 rfl rfl inX8_bestPost_X0 5 (by decide) (List.mem_of_getElem? (i := 2) rfl) rfl dX8_bestPost_27 ?_
      refine lv_iload hx hb dX8_bestPost_30 (lv_at hl 4 rfl) ?_
      refine lv_iconst (v := 4) hx hb dX8_bestPost_32 (by decide) ?_
      obtain ⟨hne, hM⟩ := if_ok hM
      refine lv_idiv hx hb dX8_bestPost_33 hne ?_
      obtain ⟨z34, hcr, hM⟩ := ob_s hM
      refine res_i0 F hP hS rfl [] rfl rfl (runS_of (n := 2) (As := [.int h.2.2.2.2.2.1, .int (a9.2.2 / (4 : Int32))]) (rest := []) F hP hS rfl [] rfl rfl (c_X8_has l dC dI cI cC cZ sa h.2.2.2.2.2.1 (a9.2.2 / (4 : Int32)) hcr _) gX8_bestPost_X8_has rfl (by decide +kernel) ⟨Nat.le_of_ble_eq_true rfl, Nat.le_of_ble_eq_true rfl⟩ rfl hl.1 rfl (Nat.le_of_ble_eq_true rfl) dX8_bestPost_34 ⟨Nat.zero_le _, Nat.zero_le _⟩) (fun H locs hP hS => ?_)
      refine lv_if_eq (tgt := 44) hx hb dX8_bestPost_37 (by decide) (fun hc => ?_) (fun hc => ?_)
      · have hM := if_pp hc hM
        refine lv_aload_n hx hb dX8_bestPost_44 rfl (lv_at hl 0 rfl) ?_
        refine lv_iload_n hx hb dX8_bestPost_45 rfl (lv_at hl 1 rfl) ?_
        refine lv_iload hx hb dX8_bestPost_46 (lv_at hl 4 rfl) ?_
        obtain ⟨z48, hcr, hM⟩ := ob_s hM
        refine res_i0 F hP hS rfl [0, 1, 2, 3, 4, 5, 6, 7, 8, 9, 10, 11, 12, 13, 14, 15, 16, 17, 18, 19, 20, 21, 22, 23, 24, 25, 26, 27, 28, 29, 30] rfl rfl (runV_of (n := 2) (As := [.int x1, .int a9.2.2]) (rest := []) F hP hS rfl [0, 1, 2, 3, 4, 5, 6, 7, 8, 9, 10, 11, 12, 13, 14, 15, 16, 17, 18, 19, 20, 21, 22, 23, 24, 25, 26, 27, 28, 29, 30] rfl rfl (c_X8_bareWith l dC dI cI cC cZ sa ad p h v k1 h1 v1 k2 h2 v2 r d y q x1 a9.2.2 hcr _) gX8_bestPost_X8_bareWith rfl (by decide +kernel) ⟨Nat.le_of_ble_eq_true rfl, Nat.le_of_ble_eq_true rfl⟩ 0 8 rfl rfl rfl hl.1 rfl (Nat.le_of_ble_eq_true rfl) dX8_bestPost_48 ⟨Nat.zero_le _, Nat.zero_le _⟩) (fun H locs hP hS => ?_)
        exact j51 (a9.1, a9.2.1, a9.2.2, z48) _ _ _ hP hS (lv_sub hl [0, 1, 2, 3, 4] rfl) hM
      · have hM := if_nn hc hM
        refine lv_iload_n hx hb dX8_bestPost_40 rfl (lv_at hl 3 rfl) ?_
        refine lv_goto (tgt := 51) hx hb dX8_bestPost_41 (by decide) ?_
        exact j51 (a9.1, a9.2.1, a9.2.2, a9.2.1) _ _ _ hP hS (lv_sub hl [0, 1, 2, 3, 4] rfl) hM
  refine lv_bipush (v := -6) hx hb dX8_bestPost_0 (by decide) ?_
  refine lv_istore_n (lv' := [(2, .int (-6 : Int32)), (0, .ref (ad 0)), (1, .int x1)]) hx hb dX8_bestPost_2 rfl hl (by decide) rfl (fun ls hl => ?_)
  refine lv_bipush (v := 17) hx hb dX8_bestPost_3 (by decide) ?_
  refine lv_istore_n (lv' := [(3, .int (17 : Int32)), (2, .int (-6 : Int32)), (0, .ref (ad 0)), (1, .int x1)]) hx hb dX8_bestPost_5 rfl hl (by decide) rfl (fun ls hl => ?_)
  refine lv_iconst (v := 0) hx hb dX8_bestPost_6 (by decide) ?_
  refine lv_istore (lv' := [(4, .int (0 : Int32)), (3, .int (17 : Int32)), (2, .int (-6 : Int32)), (0, .ref (ad 0)), (1, .int x1)]) hx hb dX8_bestPost_7 hl (by decide) rfl (fun ls hl => ?_)
  exact j9 200 ((-6 : Int32), (17 : Int32), (0 : Int32)) _ _ _ hP hS (lv_sub hl [3, 4, 2, 1, 0] rfl) hM
theorem inX8_build_X8 : ∀ w ∈ wsX80, w ∈ wsX8_build := fun w h => List.mem_cons_of_mem _ (List.mem_append_left _ (List.mem_append_left _ (List.mem_append_left _ (List.mem_append_right _ h))))
set_option maxHeartbeats 4000000 in
set_option maxRecDepth 100000 in
theorem c_X8_build (l : Launch) (dC : Nat → ClassId) (dI : Nat → Nat → Nat) (cI cC cZ : ClassId) (sa : Nat → Nat) (ad : Nat → Nat) (p : PT) (h : HT) (v : VT) (k1 : Int32) (h1 : HT) (v1 : VT) (k2 : Int32) (h2 : HT) (v2 : VT) (r : RT) (d : DT) (y : YT) (q : QT)  {res : Int32 × PT × HT × VT} (hM : M_X8_build p h v = some res) : CTi l (dC, dI) [(cI, .int), (cC, .char), (cZ, .boolean)] sa yX8_build wsX8_build (rmd 7) [.ref (ad 0)] (wX cI cC ad p h v k1 h1 v1 k2 h2 v2 r d y q) (fun (uu : PT × HT × VT) => (wX cI cC ad uu.1 uu.2.1 uu.2.2 k1 h1 v1 k2 h2 v2 r d y q)) res := by
  refine CTi.enter (own := RX8) (cc := cX8_build) (maxL := 1) (ret := (some .int)) (by decide) rfl rfl (Nat.le_of_ble_eq_true rfl) ?_
  intro pr e s m below meth c A F hr hlk hP hS ls hl
  obtain ⟨⟨hx, hb, hml, hown, hts⟩, hK, hDD, hA, hKC⟩ := id F
  have hl : lv_has ls 1 [(0, .ref (ad 0))] := hl
  have hP : va_P (dC, dI) vwCl (wX cI cC ad p h v k1 h1 v1 k2 h2 v2 r d y q) s.heap := hP
  unfold M_X8_build at hM
  refine lv_aload_n hx hb dX8_build_0 rfl (lv_at hl 0 rfl) ?_
  refine g_get (ci := 8) (C := RX8) (T := TX8) (N := 8) (v := .ref (ad 1)) F hP 0 rfl rfl inX8_build_X8 0 (by decide) (List.mem_of_getElem? (i := 1) rfl) rfl dX8_build_1 ?_
  refine lv_aload_n hx hb dX8_build_4 rfl (lv_at hl 0 rfl) ?_
  refine g_get (ci := 8) (C := RX8) (T := TX8) (N := 8) (v := .ref (ad 3)) F hP 0 rfl rfl inX8_build_X8 1 (by decide) (List.mem_of_getElem? (i := 2) rfl) rfl dX8_build_5 ?_
  obtain ⟨z8, hcr, hM⟩ := ob_s hM
  refine res_i0 F hP hS rfl [3, 4, 5, 6, 7] rfl rfl (runV_of (n := 0) (As := []) (rest := [.ref (ad 1)]) F hP hS rfl [3, 4, 5, 6, 7] rfl rfl (c_X0_cells l dC dI cI cC cZ sa (ad 3) (ad 4) (ad 5) (ad 6) (ad 7) h v hcr _) gX8_build_X0_cells rfl (by decide +kernel) ⟨Nat.le_of_ble_eq_true rfl, Nat.le_of_ble_eq_true rfl⟩ 3 0 rfl rfl rfl hl.1 rfl (Nat.le_of_ble_eq_true rfl) dX8_build_8 ⟨Nat.zero_le _, Nat.zero_le _⟩) (fun H locs hP hS => ?_)
  obtain ⟨z11, hcr, hM⟩ := ob_s hM
  refine res_i0 F hP hS rfl [1, 2] rfl rfl (runV_of (n := 1) (As := [.int z8]) (rest := []) F hP hS rfl [1, 2] rfl rfl (c_X2_houseFault l dC dI cI cC cZ sa (ad 1) (ad 2) p z8 hcr _) gX8_build_X2_houseFault rfl (by decide +kernel) ⟨Nat.le_of_ble_eq_true rfl, Nat.le_of_ble_eq_true rfl⟩ 1 2 rfl rfl rfl hl.1 rfl (Nat.le_of_ble_eq_true rfl) dX8_build_11 ⟨Nat.zero_le _, Nat.zero_le _⟩) (fun H locs hP hS => ?_)
  refine lv_bipush (v := -6) hx hb dX8_build_14 (by decide) ?_
  refine lv_icmp_eq (tgt := 22) hx hb dX8_build_16 (by decide) (fun hc => ?_) (fun hc => ?_)
  · have hM := if_pp hc hM
    refine lv_aload_n hx hb dX8_build_22 rfl (lv_at hl 0 rfl) ?_
    refine g_get (ci := 8) (C := RX8) (T := TX8) (N := 8) (v := .ref (ad 1)) F hP 0 rfl rfl inX8_build_X8 0 (by decide) (List.mem_of_getElem? (i := 1) rfl) rfl dX8_build_23 ?_
    refine lv_bipush (v := 35) hx hb dX8_build_26 (by decide) ?_
    obtain ⟨z28, hcr, hM⟩ := ob_s hM
    refine res_i0 F hP hS rfl [1, 2] rfl rfl (runV_of (n := 1) (As := [.int (35 : Int32)]) (rest := []) F hP hS rfl [1, 2] rfl rfl (c_X2_isAll l dC dI cI cC cZ sa (ad 1) (ad 2) p (35 : Int32) hcr _) gX8_build_X2_isAll rfl (by decide +kernel) ⟨Nat.le_of_ble_eq_true rfl, Nat.le_of_ble_eq_true rfl⟩ 1 2 rfl rfl rfl hl.1 rfl (Nat.le_of_ble_eq_true rfl) dX8_build_28 ⟨Nat.zero_le _, Nat.zero_le _⟩) (fun H locs hP hS => ?_)
    refine lv_if_eq (tgt := 37) hx hb dX8_build_31 (by decide) (fun hc => ?_) (fun hc => ?_)
    · have hM := if_pp hc hM
      refine lv_aload_n hx hb dX8_build_37 rfl (lv_at hl 0 rfl) ?_
      refine g_get (ci := 8) (C := RX8) (T := TX8) (N := 8) (v := .ref (ad 3)) F hP 0 rfl rfl inX8_build_X8 1 (by decide) (List.mem_of_getElem? (i := 2) rfl) rfl dX8_build_38 ?_
      refine lv_aload_n hx hb dX8_build_41 rfl (lv_at hl 0 rfl) ?_
      refine g_get (ci := 8) (C := RX8) (T := TX8) (N := 8) (v := .ref (ad 1)) F hP 0 rfl rfl inX8_build_X8 0 (by decide) (List.mem_of_getElem? (i := 1) rfl) rfl dX8_build_42 ?_
      obtain ⟨z45, hcr, hM⟩ := ob_s hM
      refine res_v (ws' := (wX cI cC ad p z45.1 z45.2 k1 h1 v1 k2 h2 v2 r d y q)) F hP hS rfl [3, 4, 5, 6, 7, 1, 2] rfl rfl rfl (runV_of (n := 1) (As := [.ref (ad 1)]) (rest := []) F hP hS rfl [3, 4, 5, 6, 7, 1, 2] rfl rfl (c_X0_furnish l dC dI cI cC cZ sa (ad 3) (ad 4) (ad 5) (ad 6) (ad 7) (ad 1) (ad 2) h v p hcr _) gX8_build_X0_furnish rfl (by decide +kernel) ⟨Nat.le_of_ble_eq_true rfl, Nat.le_of_ble_eq_true rfl⟩ 3 0 rfl rfl rfl hl.1 rfl (Nat.le_of_ble_eq_true rfl) dX8_build_45 ⟨Nat.zero_le _, Nat.zero_le _⟩) rfl (fun H locs hP hS => ?_)
      refine lv_aload_n hx hb dX8_build_48 rfl (lv_at hl 0 rfl) ?_
      refine g_get (ci := 8) (C := RX8) (T := TX8) (N := 8) (v := .ref (ad 1)) F hP 0 rfl rfl inX8_build_X8 0 (by decide) (List.mem_of_getElem? (i := 1) rfl) rfl dX8_build_49 ?_
      obtain ⟨z52, hcr, hM⟩ := ob_s hM
      refine res_i (ws' := (wX cI cC ad z52.2 z45.1 z45.2 k1 h1 v1 k2 h2 v2 r d y q)) F hP hS rfl [1, 2] rfl rfl rfl (runV_of (n := 0) (As := []) (rest := []) F hP hS rfl [1, 2] rfl rfl (c_X2_clear l dC dI cI cC cZ sa (ad 1) (ad 2) p hcr _) gX8_build_X2_clear rfl (by decide +kernel) ⟨Nat.le_of_ble_eq_true rfl, Nat.le_of_ble_eq_true rfl⟩ 1 2 rfl rfl rfl hl.1 rfl (Nat.le_of_ble_eq_true rfl) dX8_build_52 ⟨Nat.zero_le _, Nat.zero_le _⟩) rfl (fun H locs hP hS => ?_)
      refine lv_pop hx hb dX8_build_55 rfl ?_
      refine lv_aload_n hx hb dX8_build_56 rfl (lv_at hl 0 rfl) ?_
      refine g_get (ci := 8) (C := RX8) (T := TX8) (N := 8) (v := .ref (ad 3)) F hP 0 rfl rfl inX8_build_X8 1 (by decide) (List.mem_of_getElem? (i := 2) rfl) rfl dX8_build_57 ?_
      obtain ⟨z60, hcr, hM⟩ := ob_s hM
      refine res_i0 F hP hS rfl [3, 4, 5, 6, 7] rfl rfl (runV_of (n := 0) (As := []) (rest := []) F hP hS rfl [3, 4, 5, 6, 7] rfl rfl (c_X0_open l dC dI cI cC cZ sa (ad 3) (ad 4) (ad 5) (ad 6) (ad 7) z45.1 z45.2 hcr _) gX8_build_X0_open rfl (by decide +kernel) ⟨Nat.le_of_ble_eq_true rfl, Nat.le_of_ble_eq_true rfl⟩ 3 0 rfl rfl rfl hl.1 rfl (Nat.le_of_ble_eq_true rfl) dX8_build_60 ⟨Nat.zero_le _, Nat.zero_le _⟩) (fun H locs hP hS => ?_)
      obtain ⟨z63, hcr, hM⟩ := ob_s hM
      refine res_i0 F hP hS rfl [] rfl rfl (runS_of (n := 1) (As := [.int z60]) (rest := []) F hP hS rfl [] rfl rfl (c_J6_bitCount_0f7a4 l dC dI cI cC cZ sa z60 hcr _) gX8_build_J6_bitCount_0f7a4 rfl (by decide +kernel) ⟨Nat.le_of_ble_eq_true rfl, Nat.le_of_ble_eq_true rfl⟩ rfl hl.1 rfl (Nat.le_of_ble_eq_true rfl) dX8_build_63 ⟨Nat.zero_le _, Nat.zero_le _⟩) (fun H locs hP hS => ?_)
      exact ret_i hx hb hr hlk dX8_build_66 hM hP hS
    · have hM := if_nn hc hM
      refine lv_bipush (v := -3) hx hb dX8_build_34 (by decide) ?_
      exact ret_i hx hb hr hlk dX8_build_36 hM hP hS
  · have hM := if_nn hc hM
    refine lv_bipush (v := -5) hx hb dX8_build_19 (by decide) ?_
    exact ret_i hx hb hr hlk dX8_build_21 hM hP hS
theorem inX8_cell_X8 : ∀ w ∈ wsX80, w ∈ wsX8_cell := fun w h => List.mem_cons_of_mem _ (List.mem_append_left _ (List.mem_append_right _ h))
set_option maxHeartbeats 4000000 in
set_option maxRecDepth 100000 in
theorem c_X8_cell (l : Launch) (dC : Nat → ClassId) (dI : Nat → Nat → Nat) (cI cC cZ : ClassId) (sa : Nat → Nat) (ad : Nat → Nat) (p : PT) (h : HT) (v : VT) (k1 : Int32) (h1 : HT) (v1 : VT) (k2 : Int32) (h2 : HT) (v2 : VT) (r : RT) (d : DT) (y : YT) (q : QT) (x1 : Int32) {res : Int32} (hM : M_X8_cell h x1 = some res) : CTi l (dC, dI) [(cI, .int), (cC, .char), (cZ, .boolean)] sa yX8_cell wsX8_cell (rmd 3) [.ref (ad 0), .int x1] (wX cI cC ad p h v k1 h1 v1 k2 h2 v2 r d y q) (fun (_ : Unit) => (wX cI cC ad p h v k1 h1 v1 k2 h2 v2 r d y q)) (res, ()) := by
  refine CTi.enter (own := RX8) (cc := cX8_cell) (maxL := 2) (ret := (some .int)) (by decide) rfl rfl (Nat.le_of_ble_eq_true rfl) ?_
  intro pr e s m below meth c A F hr hlk hP hS ls hl
  obtain ⟨⟨hx, hb, hml, hown, hts⟩, hK, hDD, hA, hKC⟩ := id F
  have hl : lv_has ls 2 [(0, .ref (ad 0)), (1, .int x1)] := hl
  have hP : va_P (dC, dI) vwCl (wX cI cC ad p h v k1 h1 v1 k2 h2 v2 r d y q) s.heap := hP
  unfold M_X8_cell at hM
  refine lv_aload_n hx hb dX8_cell_0 rfl (lv_at hl 0 rfl) ?_
  refine g_get (ci := 8) (C := RX8) (T := TX8) (N := 8) (v := .ref (ad 3)) F hP 0 rfl rfl inX8_cell_X8 1 (by decide) (List.mem_of_getElem? (i := 1) rfl) rfl dX8_cell_1 ?_
  refine lv_iload_n hx hb dX8_cell_4 rfl (lv_at hl 1 rfl) ?_
  obtain ⟨z5, hcr, hM⟩ := ob_s hM
  refine res_i0 F hP hS rfl [3, 4, 5, 6, 7] rfl rfl (runV_of (n := 1) (As := [.int x1]) (rest := []) F hP hS rfl [3, 4, 5, 6, 7] rfl rfl (c_X0_isCell l dC dI cI cC cZ sa (ad 3) (ad 4) (ad 5) (ad 6) (ad 7) h v x1 hcr _) gX8_cell_X0_isCell rfl (by decide +kernel) ⟨Nat.le_of_ble_eq_true rfl, Nat.le_of_ble_eq_true rfl⟩ 3 0 rfl rfl rfl hl.1 rfl (Nat.le_of_ble_eq_true rfl) dX8_cell_5 ⟨Nat.zero_le _, Nat.zero_le _⟩) (fun H locs hP hS => ?_)
  refine lv_if_eq (tgt := 22) hx hb dX8_cell_8 (by decide) (fun hc => ?_) (fun hc => ?_)
  · have hM := if_pp hc hM
    refine lv_iconst (v := -1) hx hb dX8_cell_22 (by decide) ?_
    exact ret_i hx hb hr hlk dX8_cell_23 (some_u hM) hP hS
  · have hM := if_nn hc hM
    refine lv_aload_n hx hb dX8_cell_11 rfl (lv_at hl 0 rfl) ?_
    refine g_get (ci := 8) (C := RX8) (T := TX8) (N := 8) (v := .ref (ad 3)) F hP 0 rfl rfl inX8_cell_X8 1 (by decide) (List.mem_of_getElem? (i := 1) rfl) rfl dX8_cell_12 ?_
    refine lv_iload_n hx hb dX8_cell_15 rfl (lv_at hl 1 rfl) ?_
    obtain ⟨z16, hcr, hM⟩ := ob_s hM
    refine res_i0 F hP hS rfl [3, 4, 5, 6, 7] rfl rfl (runV_of (n := 1) (As := [.int x1]) (rest := []) F hP hS rfl [3, 4, 5, 6, 7] rfl rfl (c_X0_signOf l dC dI cI cC cZ sa (ad 3) (ad 4) (ad 5) (ad 6) (ad 7) h v x1 hcr _) gX8_cell_X0_signOf rfl (by decide +kernel) ⟨Nat.le_of_ble_eq_true rfl, Nat.le_of_ble_eq_true rfl⟩ 3 0 rfl rfl rfl hl.1 rfl (Nat.le_of_ble_eq_true rfl) dX8_cell_16 ⟨Nat.zero_le _, Nat.zero_le _⟩) (fun H locs hP hS => ?_)
    refine lv_goto (tgt := 23) hx hb dX8_cell_19 (by decide) ?_
    exact ret_i hx hb hr hlk dX8_cell_23 (some_u hM) hP hS
theorem inX8_dismiss_X0 : ∀ w ∈ wsX00, w ∈ wsX8_dismiss := fun w h => List.mem_cons_of_mem _ (List.mem_append_left _ (List.mem_append_right _ h))
theorem inX8_dismiss_X8 : ∀ w ∈ wsX80, w ∈ wsX8_dismiss := fun w h => List.mem_cons_of_mem _ (List.mem_append_left _ (List.mem_append_left _ (List.mem_append_right _ h)))
set_option maxHeartbeats 4000000 in
set_option maxRecDepth 100000 in
theorem c_X8_dismiss (l : Launch) (dC : Nat → ClassId) (dI : Nat → Nat → Nat) (cI cC cZ : ClassId) (sa : Nat → Nat) (ad : Nat → Nat) (p : PT) (h : HT) (v : VT) (k1 : Int32) (h1 : HT) (v1 : VT) (k2 : Int32) (h2 : HT) (v2 : VT) (r : RT) (d : DT) (y : YT) (q : QT)  {res : Int32 × VT} (hM : M_X8_dismiss v = some res) : CTi l (dC, dI) [(cI, .int), (cC, .char), (cZ, .boolean)] sa yX8_dismiss wsX8_dismiss (rmd 2) [.ref (ad 0)] (wX cI cC ad p h v k1 h1 v1 k2 h2 v2 r d y q) (fun (uu : VT) => (wX cI cC ad p h uu k1 h1 v1 k2 h2 v2 r d y q)) res := by
  refine CTi.enter (own := RX8) (cc := cX8_dismiss) (maxL := 1) (ret := (some .int)) (by decide) rfl rfl (Nat.le_of_ble_eq_true rfl) ?_
  intro pr e s m below meth c A F hr hlk hP hS ls hl
  obtain ⟨⟨hx, hb, hml, hown, hts⟩, hK, hDD, hA, hKC⟩ := id F
  have hl : lv_has ls 1 [(0, .ref (ad 0))] := hl
  have hP : va_P (dC, dI) vwCl (wX cI cC ad p h v k1 h1 v1 k2 h2 v2 r d y q) s.heap := hP
  unfold M_X8_dismiss at hM
  refine lv_aload_n hx hb dX8_dismiss_0 rfl (lv_at hl 0 rfl) ?_
  refine g_get (ci := 8) (C := RX8) (T := TX8) (N := 8) (v := .ref (ad 3)) F hP 0 rfl rfl inX8_dismiss_X8 1 (by decide) (List.mem_of_getElem? (i := 1) rfl) rfl dX8_dismiss_1 ?_
  refine g_get (ci := 0) (C := RX0) (T := TX0) (N := 13) (v := .ref (ad 4)) F hP 3 rfl rfl inX8_dismiss_X0 12 (by decide) (List.mem_of_getElem? (i := 2) rfl) rfl dX8_dismiss_4 ?_
  obtain ⟨z7, hcr, hM⟩ := ob_s hM
  refine res_i (ws' := (wX cI cC ad p h z7.2 k1 h1 v1 k2 h2 v2 r d y q)) F hP hS rfl [4, 5, 6, 7] rfl rfl rfl (runV_of (n := 0) (As := []) (rest := []) F hP hS rfl [4, 5, 6, 7] rfl rfl (c_X4_clear l dC dI cI cC cZ sa (ad 4) (ad 5) (ad 6) (ad 7) v hcr _) gX8_dismiss_X4_clear rfl (by decide +kernel) ⟨Nat.le_of_ble_eq_true rfl, Nat.le_of_ble_eq_true rfl⟩ 4 4 rfl rfl rfl hl.1 rfl (Nat.le_of_ble_eq_true rfl) dX8_dismiss_7 ⟨Nat.zero_le _, Nat.zero_le _⟩) rfl (fun H locs hP hS => ?_)
  exact ret_i hx hb hr hlk dX8_dismiss_10 hM hP hS
theorem inX8_ears_X0 : ∀ w ∈ wsX00, w ∈ wsX8_ears := fun w h => List.mem_cons_of_mem _ (List.mem_append_right _ h)
theorem inX8_ears_X8 : ∀ w ∈ wsX80, w ∈ wsX8_ears := fun w h => List.mem_cons_of_mem _ (List.mem_append_left _ (List.mem_append_right _ h))
set_option maxHeartbeats 4000000 in
set_option maxRecDepth 100000 in
theorem c_X8_ears (l : Launch) (dC : Nat → ClassId) (dI : Nat → Nat → Nat) (cI cC cZ : ClassId) (sa : Nat → Nat) (ad : Nat → Nat) (p : PT) (h : HT) (v : VT) (k1 : Int32) (h1 : HT) (v1 : VT) (k2 : Int32) (h2 : HT) (v2 : VT) (r : RT) (d : DT) (y : YT) (q : QT) (x1 : Int32) {res : Int32 × HT} (hM : M_X8_ears h x1 = some res) : CTi l (dC, dI) [(cI, .int), (cC, .char), (cZ, .boolean)] sa yX8_ears wsX8_ears (rmd 2) [.ref (ad 0), .int x1] (wX cI cC ad p h v k1 h1 v1 k2 h2 v2 r d y q) (fun (uu : HT) => (wX cI cC ad p uu v k1 h1 v1 k2 h2 v2 r d y q)) res := by
  refine CTi.enter (own := RX8) (cc := cX8_ears) (maxL := 3) (ret := (some .int)) (by decide) rfl rfl (Nat.le_of_ble_eq_true rfl) ?_
  intro pr e s m below meth c A F hr hlk hP hS ls hl
  obtain ⟨⟨hx, hb, hml, hown, hts⟩, hK, hDD, hA, hKC⟩ := id F
  have hl : lv_has ls 3 [(0, .ref (ad 0)), (1, .int x1)] := hl
  have hP : va_P (dC, dI) vwCl (wX cI cC ad p h v k1 h1 v1 k2 h2 v2 r d y q) s.heap := hP
  unfold M_X8_ears at hM
  refine lv_iload_n hx hb dX8_ears_0 rfl (lv_at hl 1 rfl) ?_
  refine lv_iconst (v := 0) hx hb dX8_ears_1 (by decide) ?_
  refine lv_bipush (v := 6) hx hb dX8_ears_2 (by decide) ?_
  obtain ⟨z4, hcr, hM⟩ := ob_s hM
  refine res_i0 F hP hS rfl [] rfl rfl (runS_of (n := 3) (As := [.int x1, .int (0 : Int32), .int (6 : Int32)]) (rest := []) F hP hS rfl [] rfl rfl (c_X8_within l dC dI cI cC cZ sa x1 (0 : Int32) (6 : Int32) hcr _) gX8_ears_X8_within rfl (by decide +kernel) ⟨Nat.le_of_ble_eq_true rfl, Nat.le_of_ble_eq_true rfl⟩ rfl hl.1 rfl (Nat.le_of_ble_eq_true rfl) dX8_ears_4 ⟨Nat.zero_le _, Nat.zero_le _⟩) (fun H locs hP hS => ?_)
  refine lv_if_ne (tgt := 13) hx hb dX8_ears_7 (by decide) (fun hc => ?_) (fun hc => ?_)
  · have hM := if_nn hc hM
    refine lv_aload_n hx hb dX8_ears_13 rfl (lv_at hl 0 rfl) ?_
    refine g_get (ci := 8) (C := RX8) (T := TX8) (N := 8) (v := .ref (ad 3)) F hP 0 rfl rfl inX8_ears_X8 1 (by decide) (List.mem_of_getElem? (i := 1) rfl) rfl dX8_ears_14 ?_
    refine g_get (ci := 0) (C := RX0) (T := TX0) (N := 13) (v := .int h.2.2.2.2.2.2.2.2.2.2.2) F hP 3 rfl rfl inX8_ears_X0 11 (by decide) (List.mem_of_getElem? (i := 2) rfl) rfl dX8_ears_17 ?_
    refine lv_istore_n (lv' := [(2, .int h.2.2.2.2.2.2.2.2.2.2.2), (0, .ref (ad 0)), (1, .int x1)]) hx hb dX8_ears_20 rfl hl (by decide) rfl (fun ls hl => ?_)
    refine lv_aload_n hx hb dX8_ears_21 rfl (lv_at hl 1 rfl) ?_
    refine g_get (ci := 8) (C := RX8) (T := TX8) (N := 8) (v := .ref (ad 3)) F hP 0 rfl rfl inX8_ears_X8 1 (by decide) (List.mem_of_getElem? (i := 1) rfl) rfl dX8_ears_22 ?_
    refine lv_iload_n hx hb dX8_ears_25 rfl (lv_at hl 2 rfl) ?_
    refine g_put (ws' := (wX cI cC ad p (h.1, h.2.1, h.2.2.1, h.2.2.2.1, h.2.2.2.2.1, h.2.2.2.2.2.1, h.2.2.2.2.2.2.1, h.2.2.2.2.2.2.2.1, h.2.2.2.2.2.2.2.2.1, h.2.2.2.2.2.2.2.2.2.1, h.2.2.2.2.2.2.2.2.2.2.1, x1) v k1 h1 v1 k2 h2 v2 r d y q)) (ci := 0) (C := RX0) (T := TX0) (N := 13) (v := .int x1) (ty := .int) F hP hS rfl tyX0 tyX0_ok nmX0 3 rfl rfl inX8_ears_X0 11 (by decide) (List.mem_of_getElem? (i := 2) rfl) rfl (by decide +kernel) rfl rfl (Nat.le_of_ble_eq_true rfl) dX8_ears_26 rfl (fun H locs hP hS => ?_)
    refine lv_iload_n hx hb dX8_ears_29 rfl (lv_at hl 0 rfl) ?_
    exact ret_i hx hb hr hlk dX8_ears_30 hM hP hS
  · have hM := if_pp hc hM
    refine lv_bipush (v := -2) hx hb dX8_ears_10 (by decide) ?_
    exact ret_i hx hb hr hlk dX8_ears_12 hM hP hS
theorem inX8_fault_X8 : ∀ w ∈ wsX80, w ∈ wsX8_fault := fun w h => List.mem_cons_of_mem _ (List.mem_append_left _ (List.mem_append_left _ (List.mem_append_right _ h)))
set_option maxHeartbeats 4000000 in
set_option maxRecDepth 100000 in
theorem c_X8_fault (l : Launch) (dC : Nat → ClassId) (dI : Nat → Nat → Nat) (cI cC cZ : ClassId) (sa : Nat → Nat) (ad : Nat → Nat) (p : PT) (h : HT) (v : VT) (k1 : Int32) (h1 : HT) (v1 : VT) (k2 : Int32) (h2 : HT) (v2 : VT) (r : RT) (d : DT) (y : YT) (q : QT) (x1 : Int32) {res : Int32} (hM : M_X8_fault p h x1 = some res) : CTi l (dC, dI) [(cI, .int), (cC, .char), (cZ, .boolean)] sa yX8_fault wsX8_fault (rmd 7) [.ref (ad 0), .int x1] (wX cI cC ad p h v k1 h1 v1 k2 h2 v2 r d y q) (fun (_ : Unit) => (wX cI cC ad p h v k1 h1 v1 k2 h2 v2 r d y q)) (res, ()) := by
  refine CTi.enter (own := RX8) (cc := cX8_fault) (maxL := 2) (ret := (some .int)) (by decide) rfl rfl (Nat.le_of_ble_eq_true rfl) ?_
  intro pr e s m below meth c A F hr hlk hP hS ls hl
  obtain ⟨⟨hx, hb, hml, hown, hts⟩, hK, hDD, hA, hKC⟩ := id F
  have hl : lv_has ls 2 [(0, .ref (ad 0)), (1, .int x1)] := hl
  have hP : va_P (dC, dI) vwCl (wX cI cC ad p h v k1 h1 v1 k2 h2 v2 r d y q) s.heap := hP
  unfold M_X8_fault at hM
  refine lv_iload_n hx hb dX8_fault_0 rfl (lv_at hl 1 rfl) ?_
  refine lv_if_ne (tgt := 19) hx hb dX8_fault_1 (by decide) (fun hc => ?_) (fun hc => ?_)
  · have hM := if_nn hc hM
    refine lv_iload_n hx hb dX8_fault_19 rfl (lv_at hl 1 rfl) ?_
    refine lv_iconst (v := 1) hx hb dX8_fault_20 (by decide) ?_
    refine lv_icmp_ne (tgt := 34) hx hb dX8_fault_21 (by decide) (fun hc => ?_) (fun hc => ?_)
    · have hM := if_nn hc hM
      refine lv_bipush (v := -2) hx hb dX8_fault_34 (by decide) ?_
      exact ret_i hx hb hr hlk dX8_fault_36 (some_u hM) hP hS
    · have hM := if_pp hc hM
      refine lv_aload_n hx hb dX8_fault_24 rfl (lv_at hl 0 rfl) ?_
      refine g_get (ci := 8) (C := RX8) (T := TX8) (N := 8) (v := .ref (ad 1)) F hP 0 rfl rfl inX8_fault_X8 0 (by decide) (List.mem_of_getElem? (i := 1) rfl) rfl dX8_fault_25 ?_
      obtain ⟨z28, hcr, hM⟩ := ob_s hM
      refine res_i0 F hP hS rfl [1, 2] rfl rfl (runV_of (n := 0) (As := []) (rest := []) F hP hS rfl [1, 2] rfl rfl (c_X2_walkFault l dC dI cI cC cZ sa (ad 1) (ad 2) p hcr _) gX8_fault_X2_walkFault rfl (by decide +kernel) ⟨Nat.le_of_ble_eq_true rfl, Nat.le_of_ble_eq_true rfl⟩ 1 2 rfl rfl rfl hl.1 rfl (Nat.le_of_ble_eq_true rfl) dX8_fault_28 ⟨Nat.zero_le _, Nat.zero_le _⟩) (fun H locs hP hS => ?_)
      refine lv_goto (tgt := 36) hx hb dX8_fault_31 (by decide) ?_
      exact ret_i hx hb hr hlk dX8_fault_36 (some_u hM) hP hS
  · have hM := if_pp hc hM
    refine lv_aload_n hx hb dX8_fault_4 rfl (lv_at hl 0 rfl) ?_
    refine g_get (ci := 8) (C := RX8) (T := TX8) (N := 8) (v := .ref (ad 1)) F hP 0 rfl rfl inX8_fault_X8 0 (by decide) (List.mem_of_getElem? (i := 1) rfl) rfl dX8_fault_5 ?_
    refine lv_aload_n hx hb dX8_fault_8 rfl (lv_at hl 0 rfl) ?_
    refine g_get (ci := 8) (C := RX8) (T := TX8) (N := 8) (v := .ref (ad 3)) F hP 0 rfl rfl inX8_fault_X8 1 (by decide) (List.mem_of_getElem? (i := 2) rfl) rfl dX8_fault_9 ?_
    obtain ⟨z12, hcr, hM⟩ := ob_s hM
    refine res_i0 F hP hS rfl [3, 4, 5, 6, 7] rfl rfl (runV_of (n := 0) (As := []) (rest := [.ref (ad 1)]) F hP hS rfl [3, 4, 5, 6, 7] rfl rfl (c_X0_cells l dC dI cI cC cZ sa (ad 3) (ad 4) (ad 5) (ad 6) (ad 7) h v hcr _) gX8_fault_X0_cells rfl (by decide +kernel) ⟨Nat.le_of_ble_eq_true rfl, Nat.le_of_ble_eq_true rfl⟩ 3 0 rfl rfl rfl hl.1 rfl (Nat.le_of_ble_eq_true rfl) dX8_fault_12 ⟨Nat.zero_le _, Nat.zero_le _⟩) (fun H locs hP hS => ?_)
    obtain ⟨z15, hcr, hM⟩ := ob_s hM
    refine res_i0 F hP hS rfl [1, 2] rfl rfl (runV_of (n := 1) (As := [.int z12]) (rest := []) F hP hS rfl [1, 2] rfl rfl (c_X2_houseFault l dC dI cI cC cZ sa (ad 1) (ad 2) p z12 hcr _) gX8_fault_X2_houseFault rfl (by decide +kernel) ⟨Nat.le_of_ble_eq_true rfl, Nat.le_of_ble_eq_true rfl⟩ 1 2 rfl rfl rfl hl.1 rfl (Nat.le_of_ble_eq_true rfl) dX8_fault_15 ⟨Nat.zero_le _, Nat.zero_le _⟩) (fun H locs hP hS => ?_)
    exact ret_i hx hb hr hlk dX8_fault_18 (some_u hM) hP hS
theorem inX8_firstMeeting_X0 : ∀ w ∈ wsX00, w ∈ wsX8_firstMeeting := fun w h => List.mem_cons_of_mem _ (List.mem_append_left _ (List.mem_append_right _ h))
theorem inX8_firstMeeting_X2 : ∀ w ∈ wsX20, w ∈ wsX8_firstMeeting := fun w h => List.mem_cons_of_mem _ (List.mem_append_right _ h)
theorem inX8_firstMeeting_X8 : ∀ w ∈ wsX80, w ∈ wsX8_firstMeeting := fun w h => List.mem_cons_of_mem _ (List.mem_append_left _ (List.mem_append_left _ (List.mem_append_right _ h)))
set_option maxHeartbeats 4000000 in
set_option maxRecDepth 100000 in
theorem c_X8_firstMeeting (l : Launch) (dC : Nat → ClassId) (dI : Nat → Nat → Nat) (cI cC cZ : ClassId) (sa : Nat → Nat) (ad : Nat → Nat) (p : PT) (h : HT) (v : VT) (k1 : Int32) (h1 : HT) (v1 : VT) (k2 : Int32) (h2 : HT) (v2 : VT) (r : RT) (d : DT) (y : YT) (q : QT) (x1 : Int32) (x2 : Int32) {res : Int32} (hM : M_X8_firstMeeting p h x1 x2 = some res) : CTi l (dC, dI) [(cI, .int), (cC, .char), (cZ, .boolean)] sa yX8_firstMeeting wsX8_firstMeeting (rmd 6) [.ref (ad 0), .int x1, .int x2] (wX cI cC ad p h v k1 h1 v1 k2 h2 v2 r d y q) (fun (_ : Unit) => (wX cI cC ad p h v k1 h1 v1 k2 h2 v2 r d y q)) (res, ()) := by
  refine CTi.enter (own := RX8) (cc := cX8_firstMeeting) (maxL := 9) (ret := (some .int)) (by decide) rfl rfl (Nat.le_of_ble_eq_true rfl) ?_
  intro pr e s m below meth c A F hr hlk hP hS ls hl
  obtain ⟨⟨hx, hb, hml, hown, hts⟩, hK, hDD, hA, hKC⟩ := id F
  have hl : lv_has ls 9 [(0, .ref (ad 0)), (1, .int x1), (2, .int x2)] := hl
  have hP : va_P (dC, dI) vwCl (wX cI cC ad p h v k1 h1 v1 k2 h2 v2 r d y q) s.heap := hP
  unfold M_X8_firstMeeting at hM
  refine kloop (α := Int32 × Int32 × Int32 × Int32) (res := res) (fun k a => M_X8_firstMeeting_39 p h x1 x2 k a) (fun rec a => M_X8_firstMeeting_39b p h x1 x2 rec a) (fun _ => rfl) (fun _ _ => rfl) F (fun a => (wX cI cC ad p h v k1 h1 v1 k2 h2 v2 r d y q)) (fun a => [(0, .ref (ad 0)), (1, .int x1), (2, .int x2), (3, .int a.1), (4, .int a.2.1), (5, .int a.2.2.1), (6, .int a.2.2.2)]) (fun a => []) 39 ?_ (fun j39 => ?_)
  · intro rc39 ih39 a39 H locs ls hP hS hl hM
    unfold M_X8_firstMeeting_39b at hM
    refine kblk (α := Int32 × Int32 × Int32 × Int32) (res := res) (fun a => M_X8_firstMeeting_106 p h x1 x2 rc39 a) F (fun a => (wX cI cC ad p h v k1 h1 v1 k2 h2 v2 r d y q)) (fun a => [(0, .ref (ad 0)), (1, .int x1), (2, .int x2), (5, .int a.1), (6, .int a.2.1), (7, .int a.2.2.1), (8, .int a.2.2.2)]) (fun a => []) 106 ?_ (fun j106 => ?_)
    · intro a106 H locs ls hP hS hl hM
      unfold M_X8_firstMeeting_106 at hM
      refine lv_iload hx hb dX8_firstMeeting_106 (lv_at hl 5 rfl) ?_
      refine lv_istore_n (lv' := [(3, .int a106.2.2.1), (0, .ref (ad 0)), (1, .int x1), (2, .int x2), (5, .int a106.1), (6, .int a106.2.1), (7, .int a106.2.2.1), (8, .int a106.2.2.2)]) hx hb dX8_firstMeeting_108 rfl hl (by decide) rfl (fun ls hl => ?_)
      refine lv_iload hx hb dX8_firstMeeting_109 (lv_at hl 7 rfl) ?_
      refine lv_istore (lv' := [(4, .int a106.2.2.2), (3, .int a106.2.2.1), (0, .ref (ad 0)), (1, .int x1), (2, .int x2), (5, .int a106.1), (6, .int a106.2.1), (7, .int a106.2.2.1), (8, .int a106.2.2.2)]) hx hb dX8_firstMeeting_111 hl (by decide) rfl (fun ls hl => ?_)
      refine lv_iinc (v := (a106.2.1 + (1 : Int32))) (lv' := [(6, .int (a106.2.1 + (1 : Int32))), (4, .int a106.2.2.2), (3, .int a106.2.2.1), (0, .ref (ad 0)), (1, .int x1), (2, .int x2), (5, .int a106.1), (7, .int a106.2.2.1), (8, .int a106.2.2.2)]) hx hb dX8_firstMeeting_113 hl (k := 6) rfl rfl (by decide) rfl (fun ls hl => ?_)
      refine lv_goto (tgt := 39) hx hb dX8_firstMeeting_116 (by decide) ?_
      exact ih39 (a106.2.2.1, a106.2.2.2, a106.1, (a106.2.1 + (1 : Int32))) _ _ _ hP hS (lv_sub hl [3, 4, 5, 2, 1, 6, 0] rfl) hM
    refine lv_iload hx hb dX8_firstMeeting_39 (lv_at hl 6 rfl) ?_
    refine lv_iload hx hb dX8_firstMeeting_41 (lv_at hl 5 rfl) ?_
    refine lv_icmp_ge (tgt := 119) hx hb dX8_firstMeeting_43 (by decide) (fun hc => ?_) (fun hc => ?_)
    · have hM := if_pp hc hM
      refine lv_bipush (v := -6) hx hb dX8_firstMeeting_119 (by decide) ?_
      exact ret_i hx hb hr hlk dX8_firstMeeting_121 (some_u hM) hP hS
    · have hM := if_nn hc hM
      refine lv_aload_n hx hb dX8_firstMeeting_46 rfl (lv_at hl 0 rfl) ?_
      refine g_get (ci := 8) (C := RX8) (T := TX8) (N := 8) (v := .ref (ad 3)) F hP 0 rfl rfl inX8_firstMeeting_X8 1 (by decide) (List.mem_of_getElem? (i := 1) rfl) rfl dX8_firstMeeting_47 ?_
      refine lv_iload_n hx hb dX8_firstMeeting_50 rfl (lv_at hl 3 rfl) ?_
      refine lv_aload_n hx hb dX8_firstMeeting_51 rfl (lv_at hl 0 rfl) ?_
      refine g_get (ci := 8) (C := RX8) (T := TX8) (N := 8) (v := .ref (ad 1)) F hP 0 rfl rfl inX8_firstMeeting_X8 0 (by decide) (List.mem_of_getElem? (i := 4) rfl) rfl dX8_firstMeeting_52 ?_
      refine lv_iload hx hb dX8_firstMeeting_55 (lv_at hl 6 rfl) ?_
      obtain ⟨z57, hcr, hM⟩ := ob_s hM
      refine res_i0 F hP hS rfl [1, 2] rfl rfl (runV_of (n := 1) (As := [.int a39.2.2.2]) (rest := [.int a39.1, .ref (ad 3)]) F hP hS rfl [1, 2] rfl rfl (c_X2_stepAt l dC dI cI cC cZ sa (ad 1) (ad 2) p a39.2.2.2 hcr _) gX8_firstMeeting_X2_stepAt rfl (by decide +kernel) ⟨Nat.le_of_ble_eq_true rfl, Nat.le_of_ble_eq_true rfl⟩ 1 2 rfl rfl rfl hl.1 rfl (Nat.le_of_ble_eq_true rfl) dX8_firstMeeting_57 ⟨Nat.zero_le _, Nat.zero_le _⟩) (fun H locs hP hS => ?_)
      obtain ⟨z60, hcr, hM⟩ := ob_s hM
      refine res_i0 F hP hS rfl [3, 4, 5, 6, 7] rfl rfl (runV_of (n := 2) (As := [.int a39.1, .int z57]) (rest := []) F hP hS rfl [3, 4, 5, 6, 7] rfl rfl (c_X0_stepOrStay l dC dI cI cC cZ sa (ad 3) (ad 4) (ad 5) (ad 6) (ad 7) h v a39.1 z57 hcr _) gX8_firstMeeting_X0_stepOrStay rfl (by decide +kernel) ⟨Nat.le_of_ble_eq_true rfl, Nat.le_of_ble_eq_true rfl⟩ 3 0 rfl rfl rfl hl.1 rfl (Nat.le_of_ble_eq_true rfl) dX8_firstMeeting_60 ⟨Nat.zero_le _, Nat.zero_le _⟩) (fun H locs hP hS => ?_)
      refine lv_istore (lv' := [(7, .int z60), (0, .ref (ad 0)), (1, .int x1), (2, .int x2), (3, .int a39.1), (4, .int a39.2.1), (5, .int a39.2.2.1), (6, .int a39.2.2.2)]) hx hb dX8_firstMeeting_63 hl (by decide) rfl (fun ls hl => ?_)
      refine lv_aload_n hx hb dX8_firstMeeting_65 rfl (lv_at hl 1 rfl) ?_
      refine g_get (ci := 8) (C := RX8) (T := TX8) (N := 8) (v := .ref (ad 3)) F hP 0 rfl rfl inX8_firstMeeting_X8 1 (by decide) (List.mem_of_getElem? (i := 1) rfl) rfl dX8_firstMeeting_66 ?_
      refine lv_iload hx hb dX8_firstMeeting_69 (lv_at hl 5 rfl) ?_
      refine lv_iload_n hx hb dX8_firstMeeting_71 rfl (lv_at hl 2 rfl) ?_
      refine lv_iload_n hx hb dX8_firstMeeting_72 rfl (lv_at hl 3 rfl) ?_
      refine lv_iload hx hb dX8_firstMeeting_73 (lv_at hl 7 rfl) ?_
      obtain ⟨z75, hcr, hM⟩ := ob_s hM
      refine res_i0 F hP hS rfl [] rfl rfl (runS_of (n := 3) (As := [.int x1, .int x2, .int a39.2.2.2]) (rest := [.int a39.2.1, .ref (ad 3)]) F hP hS rfl [] rfl rfl (c_X8_stepTold l dC dI cI cC cZ sa x1 x2 a39.2.2.2 hcr _) gX8_firstMeeting_X8_stepTold rfl (by decide +kernel) ⟨Nat.le_of_ble_eq_true rfl, Nat.le_of_ble_eq_true rfl⟩ rfl hl.1 rfl (Nat.le_of_ble_eq_true rfl) dX8_firstMeeting_75 ⟨Nat.zero_le _, Nat.zero_le _⟩) (fun H locs hP hS => ?_)
      obtain ⟨z78, hcr, hM⟩ := ob_s hM
      refine res_i0 F hP hS rfl [3, 4, 5, 6, 7] rfl rfl (runV_of (n := 2) (As := [.int a39.2.1, .int z75]) (rest := []) F hP hS rfl [3, 4, 5, 6, 7] rfl rfl (c_X0_stepOrStay l dC dI cI cC cZ sa (ad 3) (ad 4) (ad 5) (ad 6) (ad 7) h v a39.2.1 z75 hcr _) gX8_firstMeeting_X0_stepOrStay rfl (by decide +kernel) ⟨Nat.le_of_ble_eq_true rfl, Nat.le_of_ble_eq_true rfl⟩ 3 0 rfl rfl rfl hl.1 rfl (Nat.le_of_ble_eq_true rfl) dX8_firstMeeting_78 ⟨Nat.zero_le _, Nat.zero_le _⟩) (fun H locs hP hS => ?_)
      refine lv_istore (lv' := [(8, .int z78), (7, .int z60), (0, .ref (ad 0)), (1, .int x1), (2, .int x2), (3, .int a39.1), (4, .int a39.2.1), (5, .int a39.2.2.1), (6, .int a39.2.2.2)]) hx hb dX8_firstMeeting_81 hl (by decide) rfl (fun ls hl => ?_)
      refine lv_iload hx hb dX8_firstMeeting_83 (lv_at hl 1 rfl) ?_
      refine lv_iload hx hb dX8_firstMeeting_85 (lv_at hl 0 rfl) ?_
      refine lv_icmp_eq (tgt := 103) hx hb dX8_firstMeeting_87 (by decide) (fun hc => ?_) (fun hc => ?_)
      · have hM := if_pp hc hM
        refine lv_iload hx hb dX8_firstMeeting_103 (lv_at hl 8 rfl) ?_
        exact ret_i hx hb hr hlk dX8_firstMeeting_105 (some_u hM) hP hS
      · have hM := if_nn hc hM
        refine lv_iload hx hb dX8_firstMeeting_90 (lv_at hl 1 rfl) ?_
        refine lv_iload hx hb dX8_firstMeeting_92 (lv_at hl 6 rfl) ?_
        refine lv_icmp_ne (tgt := 106) hx hb dX8_firstMeeting_94 (by decide) (fun hc => ?_) (fun hc => ?_)
        · have hM := if_nn hc hM
          exact j106 (a39.2.2.1, a39.2.2.2, z60, z78) _ _ _ hP hS (lv_sub hl [2, 3, 4, 7, 8, 1, 0] rfl) hM
        · have hM := if_pp hc hM
          refine lv_iload hx hb dX8_firstMeeting_97 (lv_at hl 0 rfl) ?_
          refine lv_iload_n hx hb dX8_firstMeeting_99 rfl (lv_at hl 5 rfl) ?_
          refine lv_icmp_ne (tgt := 106) hx hb dX8_firstMeeting_100 (by decide) (fun hc => ?_) (fun hc => ?_)
          · have hM := if_nn hc hM
            exact j106 (a39.2.2.1, a39.2.2.2, z60, z78) _ _ _ hP hS (lv_sub hl [2, 3, 4, 7, 8, 1, 0] rfl) hM
          · have hM := if_pp hc hM
            refine lv_iload hx hb dX8_firstMeeting_103 (lv_at hl 8 rfl) ?_
            exact ret_i hx hb hr hlk dX8_firstMeeting_105 (some_u hM) hP hS
  refine lv_aload_n hx hb dX8_firstMeeting_0 rfl (lv_at hl 0 rfl) ?_
  refine g_get (ci := 8) (C := RX8) (T := TX8) (N := 8) (v := .ref (ad 3)) F hP 0 rfl rfl inX8_firstMeeting_X8 1 (by decide) (List.mem_of_getElem? (i := 1) rfl) rfl dX8_firstMeeting_1 ?_
  refine g_get (ci := 0) (C := RX0) (T := TX0) (N := 13) (v := .int h.2.2.2.2.2.2.2.2.2.1) F hP 3 rfl rfl inX8_firstMeeting_X0 9 (by decide) (List.mem_of_getElem? (i := 2) rfl) rfl dX8_firstMeeting_4 ?_
  obtain ⟨z7, hcr, hM⟩ := ob_s hM
  refine res_i0 F hP hS rfl [] rfl rfl (runS_of (n := 1) (As := [.int h.2.2.2.2.2.2.2.2.2.1]) (rest := []) F hP hS rfl [] rfl rfl (c_X8_bit l dC dI cI cC cZ sa h.2.2.2.2.2.2.2.2.2.1 hcr _) gX8_firstMeeting_X8_bit rfl (by decide +kernel) ⟨Nat.le_of_ble_eq_true rfl, Nat.le_of_ble_eq_true rfl⟩ rfl hl.1 rfl (Nat.le_of_ble_eq_true rfl) dX8_firstMeeting_7 ⟨Nat.zero_le _, Nat.zero_le _⟩) (fun H locs hP hS => ?_)
  refine lv_istore_n (lv' := [(3, .int z7), (0, .ref (ad 0)), (1, .int x1), (2, .int x2)]) hx hb dX8_firstMeeting_10 rfl hl (by decide) rfl (fun ls hl => ?_)
  refine lv_aload_n hx hb dX8_firstMeeting_11 rfl (lv_at hl 1 rfl) ?_
  refine g_get (ci := 8) (C := RX8) (T := TX8) (N := 8) (v := .ref (ad 3)) F hP 0 rfl rfl inX8_firstMeeting_X8 1 (by decide) (List.mem_of_getElem? (i := 1) rfl) rfl dX8_firstMeeting_12 ?_
  refine g_get (ci := 0) (C := RX0) (T := TX0) (N := 13) (v := .int h.2.2.2.2.2.2.2.2.2.2.1) F hP 3 rfl rfl inX8_firstMeeting_X0 10 (by decide) (List.mem_of_getElem? (i := 3) rfl) rfl dX8_firstMeeting_15 ?_
  obtain ⟨z18, hcr, hM⟩ := ob_s hM
  refine res_i0 F hP hS rfl [] rfl rfl (runS_of (n := 1) (As := [.int h.2.2.2.2.2.2.2.2.2.2.1]) (rest := []) F hP hS rfl [] rfl rfl (c_X8_bit l dC dI cI cC cZ sa h.2.2.2.2.2.2.2.2.2.2.1 hcr _) gX8_firstMeeting_X8_bit rfl (by decide +kernel) ⟨Nat.le_of_ble_eq_true rfl, Nat.le_of_ble_eq_true rfl⟩ rfl hl.1 rfl (Nat.le_of_ble_eq_true rfl) dX8_firstMeeting_18 ⟨Nat.zero_le _, Nat.zero_le _⟩) (fun H locs hP hS => ?_)
  refine lv_istore (lv' := [(4, .int z18), (3, .int z7), (0, .ref (ad 0)), (1, .int x1), (2, .int x2)]) hx hb dX8_firstMeeting_21 hl (by decide) rfl (fun ls hl => ?_)
  refine lv_iload_n hx hb dX8_firstMeeting_23 rfl (lv_at hl 4 rfl) ?_
  refine lv_aload_n hx hb dX8_firstMeeting_24 rfl (lv_at hl 2 rfl) ?_
  refine g_get (ci := 8) (C := RX8) (T := TX8) (N := 8) (v := .ref (ad 1)) F hP 0 rfl rfl inX8_firstMeeting_X8 0 (by decide) (List.mem_of_getElem? (i := 4) rfl) rfl dX8_firstMeeting_25 ?_
  refine g_get (ci := 2) (C := RX2) (T := TX2) (N := 2) (v := .int p.1) F hP 1 rfl rfl inX8_firstMeeting_X2 1 (by decide) (List.mem_of_getElem? (i := 5) rfl) rfl dX8_firstMeeting_28 ?_
  refine va_mmin hx hb (hml.trans hl.1.symm) hown (hts _ (List.mem_of_getElem? (i := 6) rfl)) (hts _ (List.mem_of_getElem? (i := 7) rfl)) (hts _ (List.mem_of_getElem? (i := 8) rfl)) (hts _ (List.mem_of_getElem? (i := 9) rfl)) (Nat.le_of_ble_eq_true rfl) (Nat.le_of_ble_eq_true rfl) (Nat.zero_le _) (Nat.zero_le _) dX8_firstMeeting_31 ?_
  refine lv_istore (lv' := [(5, .int (if p.1 < x2 then p.1 else x2)), (4, .int z18), (3, .int z7), (0, .ref (ad 0)), (1, .int x1), (2, .int x2)]) hx hb dX8_firstMeeting_34 hl (by decide) rfl (fun ls hl => ?_)
  refine lv_iconst (v := 0) hx hb dX8_firstMeeting_36 (by decide) ?_
  refine lv_istore (lv' := [(6, .int (0 : Int32)), (5, .int (if p.1 < x2 then p.1 else x2)), (4, .int z18), (3, .int z7), (0, .ref (ad 0)), (1, .int x1), (2, .int x2)]) hx hb dX8_firstMeeting_37 hl (by decide) rfl (fun ls hl => ?_)
  exact j39 200 (z7, z18, (if p.1 < x2 then p.1 else x2), (0 : Int32)) _ _ _ hP hS (lv_sub hl [4, 5, 6, 3, 2, 1, 0] rfl) hM
theorem inX8_flour_X8 : ∀ w ∈ wsX80, w ∈ wsX8_flour := fun w h => List.mem_cons_of_mem _ (List.mem_append_left _ (List.mem_append_right _ h))
set_option maxHeartbeats 4000000 in
set_option maxRecDepth 100000 in
theorem c_X8_flour (l : Launch) (dC : Nat → ClassId) (dI : Nat → Nat → Nat) (cI cC cZ : ClassId) (sa : Nat → Nat) (ad : Nat → Nat) (p : PT) (h : HT) (v : VT) (k1 : Int32) (h1 : HT) (v1 : VT) (k2 : Int32) (h2 : HT) (v2 : VT) (r : RT) (d : DT) (y : YT) (q : QT) (x1 : Int32) {res : Int32} (hM : M_X8_flour h x1 = some res) : CTi l (dC, dI) [(cI, .int), (cC, .char), (cZ, .boolean)] sa yX8_flour wsX8_flour (rmd 12) [.ref (ad 0), .int x1] (wX cI cC ad p h v k1 h1 v1 k2 h2 v2 r d y q) (fun (_ : Unit) => (wX cI cC ad p h v k1 h1 v1 k2 h2 v2 r d y q)) (res, ()) := by
  refine CTi.enter (own := RX8) (cc := cX8_flour) (maxL := 3) (ret := (some .int)) (by decide) rfl rfl (Nat.le_of_ble_eq_true rfl) ?_
  intro pr e s m below meth c A F hr hlk hP hS ls hl
  obtain ⟨⟨hx, hb, hml, hown, hts⟩, hK, hDD, hA, hKC⟩ := id F
  have hl : lv_has ls 3 [(0, .ref (ad 0)), (1, .int x1)] := hl
  have hP : va_P (dC, dI) vwCl (wX cI cC ad p h v k1 h1 v1 k2 h2 v2 r d y q) s.heap := hP
  unfold M_X8_flour at hM
  refine lv_iload_n hx hb dX8_flour_0 rfl (lv_at hl 1 rfl) ?_
  refine lv_iconst (v := 0) hx hb dX8_flour_1 (by decide) ?_
  refine lv_iconst (v := 1) hx hb dX8_flour_2 (by decide) ?_
  obtain ⟨z3, hcr, hM⟩ := ob_s hM
  refine res_i0 F hP hS rfl [] rfl rfl (runS_of (n := 3) (As := [.int x1, .int (0 : Int32), .int (1 : Int32)]) (rest := []) F hP hS rfl [] rfl rfl (c_X8_within l dC dI cI cC cZ sa x1 (0 : Int32) (1 : Int32) hcr _) gX8_flour_X8_within rfl (by decide +kernel) ⟨Nat.le_of_ble_eq_true rfl, Nat.le_of_ble_eq_true rfl⟩ rfl hl.1 rfl (Nat.le_of_ble_eq_true rfl) dX8_flour_3 ⟨Nat.zero_le _, Nat.zero_le _⟩) (fun H locs hP hS => ?_)
  refine lv_if_ne (tgt := 12) hx hb dX8_flour_6 (by decide) (fun hc => ?_) (fun hc => ?_)
  · have hM := if_nn hc hM
    refine lv_aload_n hx hb dX8_flour_12 rfl (lv_at hl 0 rfl) ?_
    refine g_get (ci := 8) (C := RX8) (T := TX8) (N := 8) (v := .ref (ad 25)) F hP 0 rfl rfl inX8_flour_X8 6 (by decide) (List.mem_of_getElem? (i := 1) rfl) rfl dX8_flour_13 ?_
    refine lv_aload_n hx hb dX8_flour_16 rfl (lv_at hl 0 rfl) ?_
    refine g_get (ci := 8) (C := RX8) (T := TX8) (N := 8) (v := .ref (ad 3)) F hP 0 rfl rfl inX8_flour_X8 1 (by decide) (List.mem_of_getElem? (i := 2) rfl) rfl dX8_flour_17 ?_
    obtain ⟨z20, hcr, hM⟩ := ob_s hM
    refine res_i0 F hP hS rfl [25, 26, 27, 3, 4, 5, 6, 7] rfl rfl (runV_of (n := 1) (As := [.ref (ad 3)]) (rest := []) F hP hS rfl [25, 26, 27, 3, 4, 5, 6, 7] rfl rfl (c_X5_fewestCut l dC dI cI cC cZ sa (ad 25) (ad 26) (ad 27) (ad 3) (ad 4) (ad 5) (ad 6) (ad 7) y h v hcr _) gX8_flour_X5_fewestCut rfl (by decide +kernel) ⟨Nat.le_of_ble_eq_true rfl, Nat.le_of_ble_eq_true rfl⟩ 25 5 rfl rfl rfl hl.1 rfl (Nat.le_of_ble_eq_true rfl) dX8_flour_20 ⟨Nat.zero_le _, Nat.zero_le _⟩) (fun H locs hP hS => ?_)
    refine lv_istore_n (lv' := [(2, .int z20), (0, .ref (ad 0)), (1, .int x1)]) hx hb dX8_flour_23 rfl hl (by decide) rfl (fun ls hl => ?_)
    refine lv_iload_n hx hb dX8_flour_24 rfl (lv_at hl 0 rfl) ?_
    refine lv_bipush (v := -6) hx hb dX8_flour_25 (by decide) ?_
    refine lv_icmp_ne (tgt := 33) hx hb dX8_flour_27 (by decide) (fun hc => ?_) (fun hc => ?_)
    · have hM := if_nn hc hM
      refine lv_iload_n hx hb dX8_flour_33 rfl (lv_at hl 2 rfl) ?_
      refine lv_if_ne (tgt := 44) hx hb dX8_flour_34 (by decide) (fun hc => ?_) (fun hc => ?_)
      · have hM := if_nn hc hM
        refine lv_iload_n hx hb dX8_flour_44 rfl (lv_at hl 0 rfl) ?_
        exact ret_i hx hb hr hlk dX8_flour_45 (some_u hM) hP hS
      · have hM := if_pp hc hM
        refine lv_iload_n hx hb dX8_flour_37 rfl (lv_at hl 0 rfl) ?_
        obtain ⟨z38, hcr, hM⟩ := ob_s hM
        refine res_i0 F hP hS rfl [] rfl rfl (runS_of (n := 1) (As := [.int z20]) (rest := []) F hP hS rfl [] rfl rfl (c_J6_bitCount_0f7a4 l dC dI cI cC cZ sa z20 hcr _) gX8_flour_J6_bitCount_0f7a4 rfl (by decide +kernel) ⟨Nat.le_of_ble_eq_true rfl, Nat.le_of_ble_eq_true rfl⟩ rfl hl.1 rfl (Nat.le_of_ble_eq_true rfl) dX8_flour_38 ⟨Nat.zero_le _, Nat.zero_le _⟩) (fun H locs hP hS => ?_)
        refine lv_goto (tgt := 45) hx hb dX8_flour_41 (by decide) ?_
        exact ret_i hx hb hr hlk dX8_flour_45 (some_u hM) hP hS
    · have hM := if_pp hc hM
      refine lv_bipush (v := -6) hx hb dX8_flour_30 (by decide) ?_
      exact ret_i hx hb hr hlk dX8_flour_32 (some_u hM) hP hS
  · have hM := if_pp hc hM
    refine lv_bipush (v := -2) hx hb dX8_flour_9 (by decide) ?_
    exact ret_i hx hb hr hlk dX8_flour_11 (some_u hM) hP hS
theorem inX8_followWalk_X3 : ∀ w ∈ wsX30, w ∈ wsX8_followWalk := fun w h => List.mem_cons_of_mem _ (List.mem_append_left _ (List.mem_append_left _ (List.mem_append_left _ (List.mem_append_left _ (List.mem_append_right _ h)))))
theorem inX8_followWalk_X8 : ∀ w ∈ wsX80, w ∈ wsX8_followWalk := fun w h => List.mem_cons_of_mem _ (List.mem_append_left _ (List.mem_append_left _ (List.mem_append_left _ (List.mem_append_left _ (List.mem_append_left _ (List.mem_append_right _ h))))))
set_option maxHeartbeats 4000000 in
set_option maxRecDepth 100000 in
theorem c_X8_followWalk (l : Launch) (dC : Nat → ClassId) (dI : Nat → Nat → Nat) (cI cC cZ : ClassId) (sa : Nat → Nat) (ad : Nat → Nat) (p : PT) (h : HT) (v : VT) (k1 : Int32) (h1 : HT) (v1 : VT) (k2 : Int32) (h2 : HT) (v2 : VT) (r : RT) (d : DT) (y : YT) (q : QT)  {res : Int32 × RT × DT} (hM : M_X8_followWalk p h v r d = some res) : CTi l (dC, dI) [(cI, .int), (cC, .char), (cZ, .boolean)] sa yX8_followWalk wsX8_followWalk (rmd 7) [.ref (ad 0)] (wX cI cC ad p h v k1 h1 v1 k2 h2 v2 r d y q) (fun (uu : RT × DT) => (wX cI cC ad p h v k1 h1 v1 k2 h2 v2 uu.1 uu.2 y q)) res := by
  refine CTi.enter (own := RX8) (cc := cX8_followWalk) (maxL := 1) (ret := (some .int)) (by decide) rfl rfl (Nat.le_of_ble_eq_true rfl) ?_
  intro pr e s m below meth c A F hr hlk hP hS ls hl
  obtain ⟨⟨hx, hb, hml, hown, hts⟩, hK, hDD, hA, hKC⟩ := id F
  have hl : lv_has ls 1 [(0, .ref (ad 0))] := hl
  have hP : va_P (dC, dI) vwCl (wX cI cC ad p h v k1 h1 v1 k2 h2 v2 r d y q) s.heap := hP
  unfold M_X8_followWalk at hM
  refine lv_aload_n hx hb dX8_followWalk_0 rfl (lv_at hl 0 rfl) ?_
  refine g_get (ci := 8) (C := RX8) (T := TX8) (N := 8) (v := .ref (ad 1)) F hP 0 rfl rfl inX8_followWalk_X8 0 (by decide) (List.mem_of_getElem? (i := 1) rfl) rfl dX8_followWalk_1 ?_
  obtain ⟨z4, hcr, hM⟩ := ob_s hM
  refine res_i0 F hP hS rfl [1, 2] rfl rfl (runV_of (n := 0) (As := []) (rest := []) F hP hS rfl [1, 2] rfl rfl (c_X2_walkFault l dC dI cI cC cZ sa (ad 1) (ad 2) p hcr _) gX8_followWalk_X2_walkFault rfl (by decide +kernel) ⟨Nat.le_of_ble_eq_true rfl, Nat.le_of_ble_eq_true rfl⟩ 1 2 rfl rfl rfl hl.1 rfl (Nat.le_of_ble_eq_true rfl) dX8_followWalk_4 ⟨Nat.zero_le _, Nat.zero_le _⟩) (fun H locs hP hS => ?_)
  refine lv_bipush (v := -6) hx hb dX8_followWalk_7 (by decide) ?_
  refine lv_icmp_eq (tgt := 15) hx hb dX8_followWalk_9 (by decide) (fun hc => ?_) (fun hc => ?_)
  · have hM := if_pp hc hM
    refine lv_aload_n hx hb dX8_followWalk_15 rfl (lv_at hl 0 rfl) ?_
    refine g_get (ci := 8) (C := RX8) (T := TX8) (N := 8) (v := .ref (ad 24)) F hP 0 rfl rfl inX8_followWalk_X8 5 (by decide) (List.mem_of_getElem? (i := 2) rfl) rfl dX8_followWalk_16 ?_
    refine lv_aload_n hx hb dX8_followWalk_19 rfl (lv_at hl 0 rfl) ?_
    refine g_get (ci := 8) (C := RX8) (T := TX8) (N := 8) (v := .ref (ad 3)) F hP 0 rfl rfl inX8_followWalk_X8 1 (by decide) (List.mem_of_getElem? (i := 3) rfl) rfl dX8_followWalk_20 ?_
    refine lv_aload_n hx hb dX8_followWalk_23 rfl (lv_at hl 0 rfl) ?_
    refine g_get (ci := 8) (C := RX8) (T := TX8) (N := 8) (v := .ref (ad 1)) F hP 0 rfl rfl inX8_followWalk_X8 0 (by decide) (List.mem_of_getElem? (i := 1) rfl) rfl dX8_followWalk_24 ?_
    refine lv_aload_n hx hb dX8_followWalk_27 rfl (lv_at hl 0 rfl) ?_
    refine g_get (ci := 8) (C := RX8) (T := TX8) (N := 8) (v := .ref (ad 20)) F hP 0 rfl rfl inX8_followWalk_X8 4 (by decide) (List.mem_of_getElem? (i := 4) rfl) rfl dX8_followWalk_28 ?_
    obtain ⟨z31, hcr, hM⟩ := ob_s hM
    refine res_v (ws' := (wX cI cC ad p h v k1 h1 v1 k2 h2 v2 z31.2 z31.1 y q)) F hP hS rfl [24, 3, 4, 5, 6, 7, 1, 2, 20, 21, 22, 23] rfl rfl rfl (runV_of (n := 3) (As := [.ref (ad 3), .ref (ad 1), .ref (ad 20)]) (rest := []) F hP hS rfl [24, 3, 4, 5, 6, 7, 1, 2, 20, 21, 22, 23] rfl rfl (c_X3_follow l dC dI cI cC cZ sa (ad 24) (ad 3) (ad 4) (ad 5) (ad 6) (ad 7) (ad 1) (ad 2) (ad 20) (ad 21) (ad 22) (ad 23) d h v p r hcr _) gX8_followWalk_X3_follow rfl (by decide +kernel) ⟨Nat.le_of_ble_eq_true rfl, Nat.le_of_ble_eq_true rfl⟩ 24 3 rfl rfl rfl hl.1 rfl (Nat.le_of_ble_eq_true rfl) dX8_followWalk_31 ⟨Nat.zero_le _, Nat.zero_le _⟩) rfl (fun H locs hP hS => ?_)
    refine lv_aload_n hx hb dX8_followWalk_34 rfl (lv_at hl 0 rfl) ?_
    refine g_get (ci := 8) (C := RX8) (T := TX8) (N := 8) (v := .ref (ad 24)) F hP 0 rfl rfl inX8_followWalk_X8 5 (by decide) (List.mem_of_getElem? (i := 2) rfl) rfl dX8_followWalk_35 ?_
    refine g_get (ci := 3) (C := RX3) (T := TX3) (N := 7) (v := .int z31.1.1) F hP 24 rfl rfl inX8_followWalk_X3 0 (by decide) (List.mem_of_getElem? (i := 5) rfl) rfl dX8_followWalk_38 ?_
    refine lv_bipush (v := -6) hx hb dX8_followWalk_41 (by decide) ?_
    refine lv_icmp_ne (tgt := 50) hx hb dX8_followWalk_43 (by decide) (fun hc => ?_) (fun hc => ?_)
    · have hM := if_nn hc hM
      refine lv_bipush (v := -3) hx hb dX8_followWalk_50 (by decide) ?_
      exact ret_i hx hb hr hlk dX8_followWalk_52 hM hP hS
    · have hM := if_pp hc hM
      refine lv_iconst (v := 0) hx hb dX8_followWalk_46 (by decide) ?_
      refine lv_goto (tgt := 52) hx hb dX8_followWalk_47 (by decide) ?_
      exact ret_i hx hb hr hlk dX8_followWalk_52 hM hP hS
  · have hM := if_nn hc hM
    refine lv_bipush (v := -5) hx hb dX8_followWalk_12 (by decide) ?_
    exact ret_i hx hb hr hlk dX8_followWalk_14 hM hP hS
theorem inX8_house_X8 : ∀ w ∈ wsX80, w ∈ wsX8_house := fun w h => List.mem_cons_of_mem _ (List.mem_append_left _ (List.mem_append_left _ (List.mem_append_right _ h)))
set_option maxHeartbeats 4000000 in
set_option maxRecDepth 100000 in
theorem c_X8_house (l : Launch) (dC : Nat → ClassId) (dI : Nat → Nat → Nat) (cI cC cZ : ClassId) (sa : Nat → Nat) (ad : Nat → Nat) (p : PT) (h : HT) (v : VT) (k1 : Int32) (h1 : HT) (v1 : VT) (k2 : Int32) (h2 : HT) (v2 : VT) (r : RT) (d : DT) (y : YT) (q : QT) (x1 : Int32) (x2 : Int32) {res : Int32 × HT × VT} (hM : M_X8_house h v x1 x2 = some res) : CTi l (dC, dI) [(cI, .int), (cC, .char), (cZ, .boolean)] sa yX8_house wsX8_house (rmd 4) [.ref (ad 0), .int x1, .int x2] (wX cI cC ad p h v k1 h1 v1 k2 h2 v2 r d y q) (fun (uu : HT × VT) => (wX cI cC ad p uu.1 uu.2 k1 h1 v1 k2 h2 v2 r d y q)) res := by
  refine CTi.enter (own := RX8) (cc := cX8_house) (maxL := 3) (ret := (some .int)) (by decide) rfl rfl (Nat.le_of_ble_eq_true rfl) ?_
  intro pr e s m below meth c A F hr hlk hP hS ls hl
  obtain ⟨⟨hx, hb, hml, hown, hts⟩, hK, hDD, hA, hKC⟩ := id F
  have hl : lv_has ls 3 [(0, .ref (ad 0)), (1, .int x1), (2, .int x2)] := hl
  have hP : va_P (dC, dI) vwCl (wX cI cC ad p h v k1 h1 v1 k2 h2 v2 r d y q) s.heap := hP
  unfold M_X8_house at hM
  refine lv_iload_n hx hb dX8_house_0 rfl (lv_at hl 1 rfl) ?_
  refine lv_iconst (v := 1) hx hb dX8_house_1 (by decide) ?_
  refine lv_iconst (v := 4) hx hb dX8_house_2 (by decide) ?_
  obtain ⟨z3, hcr, hM⟩ := ob_s hM
  refine res_i0 F hP hS rfl [] rfl rfl (runS_of (n := 3) (As := [.int x1, .int (1 : Int32), .int (4 : Int32)]) (rest := []) F hP hS rfl [] rfl rfl (c_X8_within l dC dI cI cC cZ sa x1 (1 : Int32) (4 : Int32) hcr _) gX8_house_X8_within rfl (by decide +kernel) ⟨Nat.le_of_ble_eq_true rfl, Nat.le_of_ble_eq_true rfl⟩ rfl hl.1 rfl (Nat.le_of_ble_eq_true rfl) dX8_house_3 ⟨Nat.zero_le _, Nat.zero_le _⟩) (fun H locs hP hS => ?_)
  refine lv_if_eq (tgt := 18) hx hb dX8_house_6 (by decide) (fun hc => ?_) (fun hc => ?_)
  · have hM := if_pp hc hM
    refine lv_bipush (v := -2) hx hb dX8_house_18 (by decide) ?_
    exact ret_i hx hb hr hlk dX8_house_20 hM hP hS
  · have hM := if_nn hc hM
    refine lv_iload_n hx hb dX8_house_9 rfl (lv_at hl 2 rfl) ?_
    refine lv_iconst (v := 1) hx hb dX8_house_10 (by decide) ?_
    refine lv_iconst (v := 4) hx hb dX8_house_11 (by decide) ?_
    obtain ⟨z12, hcr, hM⟩ := ob_s hM
    refine res_i0 F hP hS rfl [] rfl rfl (runS_of (n := 3) (As := [.int x2, .int (1 : Int32), .int (4 : Int32)]) (rest := []) F hP hS rfl [] rfl rfl (c_X8_within l dC dI cI cC cZ sa x2 (1 : Int32) (4 : Int32) hcr _) gX8_house_X8_within rfl (by decide +kernel) ⟨Nat.le_of_ble_eq_true rfl, Nat.le_of_ble_eq_true rfl⟩ rfl hl.1 rfl (Nat.le_of_ble_eq_true rfl) dX8_house_12 ⟨Nat.zero_le _, Nat.zero_le _⟩) (fun H locs hP hS => ?_)
    refine lv_if_ne (tgt := 21) hx hb dX8_house_15 (by decide) (fun hc => ?_) (fun hc => ?_)
    · have hM := if_nn hc hM
      refine lv_aload_n hx hb dX8_house_21 rfl (lv_at hl 0 rfl) ?_
      refine g_get (ci := 8) (C := RX8) (T := TX8) (N := 8) (v := .ref (ad 3)) F hP 0 rfl rfl inX8_house_X8 1 (by decide) (List.mem_of_getElem? (i := 1) rfl) rfl dX8_house_22 ?_
      refine lv_iload_n hx hb dX8_house_25 rfl (lv_at hl 1 rfl) ?_
      refine lv_iload_n hx hb dX8_house_26 rfl (lv_at hl 2 rfl) ?_
      obtain ⟨z27, hcr, hM⟩ := ob_s hM
      refine res_v (ws' := (wX cI cC ad p z27.1 z27.2 k1 h1 v1 k2 h2 v2 r d y q)) F hP hS rfl [3, 4, 5, 6, 7] rfl rfl rfl (runV_of (n := 2) (As := [.int x1, .int x2]) (rest := []) F hP hS rfl [3, 4, 5, 6, 7] rfl rfl (c_X0_layOut l dC dI cI cC cZ sa (ad 3) (ad 4) (ad 5) (ad 6) (ad 7) h v x1 x2 hcr _) gX8_house_X0_layOut rfl (by decide +kernel) ⟨Nat.le_of_ble_eq_true rfl, Nat.le_of_ble_eq_true rfl⟩ 3 0 rfl rfl rfl hl.1 rfl (Nat.le_of_ble_eq_true rfl) dX8_house_27 ⟨Nat.zero_le _, Nat.zero_le _⟩) rfl (fun H locs hP hS => ?_)
      refine lv_aload_n hx hb dX8_house_30 rfl (lv_at hl 0 rfl) ?_
      refine g_get (ci := 8) (C := RX8) (T := TX8) (N := 8) (v := .ref (ad 3)) F hP 0 rfl rfl inX8_house_X8 1 (by decide) (List.mem_of_getElem? (i := 1) rfl) rfl dX8_house_31 ?_
      obtain ⟨z34, hcr, hM⟩ := ob_s hM
      refine res_i0 F hP hS rfl [3, 4, 5, 6, 7] rfl rfl (runV_of (n := 0) (As := []) (rest := []) F hP hS rfl [3, 4, 5, 6, 7] rfl rfl (c_X0_cells l dC dI cI cC cZ sa (ad 3) (ad 4) (ad 5) (ad 6) (ad 7) z27.1 z27.2 hcr _) gX8_house_X0_cells rfl (by decide +kernel) ⟨Nat.le_of_ble_eq_true rfl, Nat.le_of_ble_eq_true rfl⟩ 3 0 rfl rfl rfl hl.1 rfl (Nat.le_of_ble_eq_true rfl) dX8_house_34 ⟨Nat.zero_le _, Nat.zero_le _⟩) (fun H locs hP hS => ?_)
      exact ret_i hx hb hr hlk dX8_house_37 hM hP hS
    · have hM := if_pp hc hM
      refine lv_bipush (v := -2) hx hb dX8_house_18 (by decide) ?_
      exact ret_i hx hb hr hlk dX8_house_20 hM hP hS
theorem inX8_image_X1 : ∀ w ∈ wsX10, w ∈ wsX8_image := fun w h => List.mem_cons_of_mem _ (List.mem_append_left _ (List.mem_append_left _ (List.mem_append_left _ (List.mem_append_right _ h))))
theorem inX8_image_X8 : ∀ w ∈ wsX80, w ∈ wsX8_image := fun w h => List.mem_cons_of_mem _ (List.mem_append_left _ (List.mem_append_left _ (List.mem_append_right _ h)))
set_option maxHeartbeats 4000000 in
set_option maxRecDepth 100000 in
theorem c_X8_image0 (l : Launch) (dC : Nat → ClassId) (dI : Nat → Nat → Nat) (cI cC cZ : ClassId) (sa : Nat → Nat) (ad : Nat → Nat) (p : PT) (h : HT) (v : VT) (k1 : Int32) (h1 : HT) (v1 : VT) (k2 : Int32) (h2 : HT) (v2 : VT) (r : RT) (d : DT) (y : YT) (q : QT) (x1 : Int32) {res : Int32 × Int32 × HT × VT × Int32 × HT × VT} (hv : x1 = 0) (hM : M_X8_image0 h v k1 h1 v1 k2 h2 v2 x1 = some res) : CTi l (dC, dI) [(cI, .int), (cC, .char), (cZ, .boolean)] sa yX8_image wsX8_image (rmd 5) [.ref (ad 0), .int x1] (wX cI cC ad p h v k1 h1 v1 k2 h2 v2 r d y q) (fun (uu : Int32 × HT × VT × Int32 × HT × VT) => (wX cI cC ad p h v uu.1 uu.2.1 uu.2.2.1 uu.2.2.2.1 uu.2.2.2.2.1 uu.2.2.2.2.2 r d y q)) res := by
  refine CTi.enter (own := RX8) (cc := cX8_image) (maxL := 3) (ret := (some .int)) (by decide) rfl rfl (Nat.le_of_ble_eq_true rfl) ?_
  intro pr e s m below meth c A F hr hlk hP hS ls hl
  obtain ⟨⟨hx, hb, hml, hown, hts⟩, hK, hDD, hA, hKC⟩ := id F
  have hl : lv_has ls 3 [(0, .ref (ad 0)), (1, .int x1)] := hl
  have hP : va_P (dC, dI) vwCl (wX cI cC ad p h v k1 h1 v1 k2 h2 v2 r d y q) s.heap := hP
  unfold M_X8_image0 at hM
  refine lv_iload_n hx hb dX8_image_0 rfl (lv_at hl 1 rfl) ?_
  refine lv_iconst (v := 0) hx hb dX8_image_1 (by decide) ?_
  refine lv_iconst (v := 1) hx hb dX8_image_2 (by decide) ?_
  obtain ⟨z3, hcr, hM⟩ := ob_s hM
  refine res_i0 F hP hS rfl [] rfl rfl (runS_of (n := 3) (As := [.int x1, .int (0 : Int32), .int (1 : Int32)]) (rest := []) F hP hS rfl [] rfl rfl (c_X8_within l dC dI cI cC cZ sa x1 (0 : Int32) (1 : Int32) hcr _) gX8_image_X8_within rfl (by decide +kernel) ⟨Nat.le_of_ble_eq_true rfl, Nat.le_of_ble_eq_true rfl⟩ rfl hl.1 rfl (Nat.le_of_ble_eq_true rfl) dX8_image_3 ⟨Nat.zero_le _, Nat.zero_le _⟩) (fun H locs hP hS => ?_)
  refine lv_if_ne (tgt := 12) hx hb dX8_image_6 (by decide) (fun hc => ?_) (fun hc => ?_)
  · have hM := if_nn hc hM
    refine lv_aload_n hx hb dX8_image_12 rfl (lv_at hl 0 rfl) ?_
    refine lv_iload_n hx hb dX8_image_13 rfl (lv_at hl 1 rfl) ?_
    refine res_r F hP hS rfl [0, 1, 2, 3, 4, 5, 6, 7, 8, 9, 10, 11, 12, 13, 14, 15, 16, 17, 18, 19, 20, 21, 22, 23, 24, 25, 26, 27, 28, 29, 30] rfl rfl (runV_of (n := 1) (As := [.int x1]) (rest := []) F hP hS rfl [0, 1, 2, 3, 4, 5, 6, 7, 8, 9, 10, 11, 12, 13, 14, 15, 16, 17, 18, 19, 20, 21, 22, 23, 24, 25, 26, 27, 28, 29, 30] rfl rfl (c_X8_imageOf0 l dC dI cI cC cZ sa ad p h v k1 h1 v1 k2 h2 v2 r d y q x1 hv _) gX8_image_X8_imageOf rfl (by decide +kernel) ⟨Nat.le_of_ble_eq_true rfl, Nat.le_of_ble_eq_true rfl⟩ 0 8 rfl rfl rfl hl.1 rfl (Nat.le_of_ble_eq_true rfl) dX8_image_14 ⟨Nat.zero_le _, Nat.zero_le _⟩) (fun H locs hP hS => ?_)
    refine lv_astore_n (lv' := [(2, .ref (ad 8)), (0, .ref (ad 0)), (1, .int x1)]) hx hb dX8_image_17 rfl hl (by decide) rfl (fun ls hl => ?_)
    refine lv_aload_n hx hb dX8_image_18 rfl (lv_at hl 0 rfl) ?_
    refine g_get (ci := 1) (C := RX1) (T := TX1) (N := 2) (v := .ref (ad 9)) F hP 8 rfl rfl inX8_image_X1 0 (by decide) (List.mem_of_getElem? (i := 1) rfl) rfl dX8_image_19 ?_
    refine lv_aload_n hx hb dX8_image_22 rfl (lv_at hl 1 rfl) ?_
    refine g_get (ci := 8) (C := RX8) (T := TX8) (N := 8) (v := .ref (ad 3)) F hP 0 rfl rfl inX8_image_X8 1 (by decide) (List.mem_of_getElem? (i := 2) rfl) rfl dX8_image_23 ?_
    obtain ⟨z26, hcr, hM⟩ := ob_s hM
    refine res_v (ws' := (wX cI cC ad p h v k1 z26.1 z26.2 k2 h2 v2 r d y q)) F hP hS rfl [9, 10, 11, 12, 13, 3, 4, 5, 6, 7] rfl rfl rfl (runV_of (n := 1) (As := [.ref (ad 3)]) (rest := []) F hP hS rfl [9, 10, 11, 12, 13, 3, 4, 5, 6, 7] rfl rfl (c_X0_copyFrom l dC dI cI cC cZ sa (ad 9) (ad 10) (ad 11) (ad 12) (ad 13) (ad 3) (ad 4) (ad 5) (ad 6) (ad 7) h1 v1 h v hcr _) gX8_image_X0_copyFrom rfl (by decide +kernel) ⟨Nat.le_of_ble_eq_true rfl, Nat.le_of_ble_eq_true rfl⟩ 9 0 rfl rfl rfl hl.1 rfl (Nat.le_of_ble_eq_true rfl) dX8_image_26 ⟨Nat.zero_le _, Nat.zero_le _⟩) rfl (fun H locs hP hS => ?_)
    refine lv_aload_n hx hb dX8_image_29 rfl (lv_at hl 0 rfl) ?_
    refine lv_iconst (v := 1) hx hb dX8_image_30 (by decide) ?_
    obtain ⟨hnz, hM⟩ := if_ok hM
    refine g_put (ws' := (wX cI cC ad p h v (1 : Int32) z26.1 z26.2 k2 h2 v2 r d y q)) (ci := 1) (C := RX1) (T := TX1) (N := 2) (v := .int (1 : Int32)) (ty := .boolean) F hP hS rfl tyX1 tyX1_ok nmX1 8 rfl rfl inX8_image_X1 1 (by decide) (List.mem_of_getElem? (i := 3) rfl) rfl (by decide +kernel) (nar_z hnz) (fit_z hnz) (Nat.le_of_ble_eq_true rfl) dX8_image_31 rfl (fun H locs hP hS => ?_)
    refine lv_iconst (v := 1) hx hb dX8_image_34 (by decide) ?_
    exact ret_i hx hb hr hlk dX8_image_35 hM hP hS
  · have hM := if_pp hc hM
    refine lv_bipush (v := -2) hx hb dX8_image_9 (by decide) ?_
    exact ret_i hx hb hr hlk dX8_image_11 hM hP hS
set_option maxHeartbeats 4000000 in
set_option maxRecDepth 100000 in
theorem c_X8_image1 (l : Launch) (dC : Nat → ClassId) (dI : Nat → Nat → Nat) (cI cC cZ : ClassId) (sa : Nat → Nat) (ad : Nat → Nat) (p : PT) (h : HT) (v : VT) (k1 : Int32) (h1 : HT) (v1 : VT) (k2 : Int32) (h2 : HT) (v2 : VT) (r : RT) (d : DT) (y : YT) (q : QT) (x1 : Int32) {res : Int32 × Int32 × HT × VT × Int32 × HT × VT} (hv : ¬ x1 = 0) (hM : M_X8_image1 h v k1 h1 v1 k2 h2 v2 x1 = some res) : CTi l (dC, dI) [(cI, .int), (cC, .char), (cZ, .boolean)] sa yX8_image wsX8_image (rmd 5) [.ref (ad 0), .int x1] (wX cI cC ad p h v k1 h1 v1 k2 h2 v2 r d y q) (fun (uu : Int32 × HT × VT × Int32 × HT × VT) => (wX cI cC ad p h v uu.1 uu.2.1 uu.2.2.1 uu.2.2.2.1 uu.2.2.2.2.1 uu.2.2.2.2.2 r d y q)) res := by
  refine CTi.enter (own := RX8) (cc := cX8_image) (maxL := 3) (ret := (some .int)) (by decide) rfl rfl (Nat.le_of_ble_eq_true rfl) ?_
  intro pr e s m below meth c A F hr hlk hP hS ls hl
  obtain ⟨⟨hx, hb, hml, hown, hts⟩, hK, hDD, hA, hKC⟩ := id F
  have hl : lv_has ls 3 [(0, .ref (ad 0)), (1, .int x1)] := hl
  have hP : va_P (dC, dI) vwCl (wX cI cC ad p h v k1 h1 v1 k2 h2 v2 r d y q) s.heap := hP
  unfold M_X8_image1 at hM
  refine lv_iload_n hx hb dX8_image_0 rfl (lv_at hl 1 rfl) ?_
  refine lv_iconst (v := 0) hx hb dX8_image_1 (by decide) ?_
  refine lv_iconst (v := 1) hx hb dX8_image_2 (by decide) ?_
  obtain ⟨z3, hcr, hM⟩ := ob_s hM
  refine res_i0 F hP hS rfl [] rfl rfl (runS_of (n := 3) (As := [.int x1, .int (0 : Int32), .int (1 : Int32)]) (rest := []) F hP hS rfl [] rfl rfl (c_X8_within l dC dI cI cC cZ sa x1 (0 : Int32) (1 : Int32) hcr _) gX8_image_X8_within rfl (by decide +kernel) ⟨Nat.le_of_ble_eq_true rfl, Nat.le_of_ble_eq_true rfl⟩ rfl hl.1 rfl (Nat.le_of_ble_eq_true rfl) dX8_image_3 ⟨Nat.zero_le _, Nat.zero_le _⟩) (fun H locs hP hS => ?_)
  refine lv_if_ne (tgt := 12) hx hb dX8_image_6 (by decide) (fun hc => ?_) (fun hc => ?_)
  · have hM := if_nn hc hM
    refine lv_aload_n hx hb dX8_image_12 rfl (lv_at hl 0 rfl) ?_
    refine lv_iload_n hx hb dX8_image_13 rfl (lv_at hl 1 rfl) ?_
    refine res_r F hP hS rfl [0, 1, 2, 3, 4, 5, 6, 7, 8, 9, 10, 11, 12, 13, 14, 15, 16, 17, 18, 19, 20, 21, 22, 23, 24, 25, 26, 27, 28, 29, 30] rfl rfl (runV_of (n := 1) (As := [.int x1]) (rest := []) F hP hS rfl [0, 1, 2, 3, 4, 5, 6, 7, 8, 9, 10, 11, 12, 13, 14, 15, 16, 17, 18, 19, 20, 21, 22, 23, 24, 25, 26, 27, 28, 29, 30] rfl rfl (c_X8_imageOf1 l dC dI cI cC cZ sa ad p h v k1 h1 v1 k2 h2 v2 r d y q x1 hv _) gX8_image_X8_imageOf rfl (by decide +kernel) ⟨Nat.le_of_ble_eq_true rfl, Nat.le_of_ble_eq_true rfl⟩ 0 8 rfl rfl rfl hl.1 rfl (Nat.le_of_ble_eq_true rfl) dX8_image_14 ⟨Nat.zero_le _, Nat.zero_le _⟩) (fun H locs hP hS => ?_)
    refine lv_astore_n (lv' := [(2, .ref (ad 14)), (0, .ref (ad 0)), (1, .int x1)]) hx hb dX8_image_17 rfl hl (by decide) rfl (fun ls hl => ?_)
    refine lv_aload_n hx hb dX8_image_18 rfl (lv_at hl 0 rfl) ?_
    refine g_get (ci := 1) (C := RX1) (T := TX1) (N := 2) (v := .ref (ad 15)) F hP 14 rfl rfl inX8_image_X1 0 (by decide) (List.mem_of_getElem? (i := 1) rfl) rfl dX8_image_19 ?_
    refine lv_aload_n hx hb dX8_image_22 rfl (lv_at hl 1 rfl) ?_
    refine g_get (ci := 8) (C := RX8) (T := TX8) (N := 8) (v := .ref (ad 3)) F hP 0 rfl rfl inX8_image_X8 1 (by decide) (List.mem_of_getElem? (i := 2) rfl) rfl dX8_image_23 ?_
    obtain ⟨z26, hcr, hM⟩ := ob_s hM
    refine res_v (ws' := (wX cI cC ad p h v k1 h1 v1 k2 z26.1 z26.2 r d y q)) F hP hS rfl [15, 16, 17, 18, 19, 3, 4, 5, 6, 7] rfl rfl rfl (runV_of (n := 1) (As := [.ref (ad 3)]) (rest := []) F hP hS rfl [15, 16, 17, 18, 19, 3, 4, 5, 6, 7] rfl rfl (c_X0_copyFrom l dC dI cI cC cZ sa (ad 15) (ad 16) (ad 17) (ad 18) (ad 19) (ad 3) (ad 4) (ad 5) (ad 6) (ad 7) h2 v2 h v hcr _) gX8_image_X0_copyFrom rfl (by decide +kernel) ⟨Nat.le_of_ble_eq_true rfl, Nat.le_of_ble_eq_true rfl⟩ 15 0 rfl rfl rfl hl.1 rfl (Nat.le_of_ble_eq_true rfl) dX8_image_26 ⟨Nat.zero_le _, Nat.zero_le _⟩) rfl (fun H locs hP hS => ?_)
    refine lv_aload_n hx hb dX8_image_29 rfl (lv_at hl 0 rfl) ?_
    refine lv_iconst (v := 1) hx hb dX8_image_30 (by decide) ?_
    obtain ⟨hnz, hM⟩ := if_ok hM
    refine g_put (ws' := (wX cI cC ad p h v k1 h1 v1 (1 : Int32) z26.1 z26.2 r d y q)) (ci := 1) (C := RX1) (T := TX1) (N := 2) (v := .int (1 : Int32)) (ty := .boolean) F hP hS rfl tyX1 tyX1_ok nmX1 14 rfl rfl inX8_image_X1 1 (by decide) (List.mem_of_getElem? (i := 3) rfl) rfl (by decide +kernel) (nar_z hnz) (fit_z hnz) (Nat.le_of_ble_eq_true rfl) dX8_image_31 rfl (fun H locs hP hS => ?_)
    refine lv_iconst (v := 1) hx hb dX8_image_34 (by decide) ?_
    exact ret_i hx hb hr hlk dX8_image_35 hM hP hS
  · have hM := if_pp hc hM
    refine lv_bipush (v := -2) hx hb dX8_image_9 (by decide) ?_
    exact ret_i hx hb hr hlk dX8_image_11 hM hP hS
theorem inX8_judge_X3 : ∀ w ∈ wsX30, w ∈ wsX8_judge := fun w h => List.mem_cons_of_mem _ (List.mem_append_left _ (List.mem_append_left _ (List.mem_append_left _ (List.mem_append_left _ (List.mem_append_right _ h)))))
theorem inX8_judge_X8 : ∀ w ∈ wsX80, w ∈ wsX8_judge := fun w h => List.mem_cons_of_mem _ (List.mem_append_left _ (List.mem_append_left _ (List.mem_append_left _ (List.mem_append_left _ (List.mem_append_left _ (List.mem_append_right _ h))))))
set_option maxHeartbeats 4000000 in
set_option maxRecDepth 100000 in
theorem c_X8_judge (l : Launch) (dC : Nat → ClassId) (dI : Nat → Nat → Nat) (cI cC cZ : ClassId) (sa : Nat → Nat) (ad : Nat → Nat) (p : PT) (h : HT) (v : VT) (k1 : Int32) (h1 : HT) (v1 : VT) (k2 : Int32) (h2 : HT) (v2 : VT) (r : RT) (d : DT) (y : YT) (q : QT) (x1 : Int32) {res : Int32 × RT × DT} (hM : M_X8_judge p h v r d x1 = some res) : CTi l (dC, dI) [(cI, .int), (cC, .char), (cZ, .boolean)] sa yX8_judge wsX8_judge (rmd 8) [.ref (ad 0), .int x1] (wX cI cC ad p h v k1 h1 v1 k2 h2 v2 r d y q) (fun (uu : RT × DT) => (wX cI cC ad p h v k1 h1 v1 k2 h2 v2 uu.1 uu.2 y q)) res := by
  refine CTi.enter (own := RX8) (cc := cX8_judge) (maxL := 3) (ret := (some .int)) (by decide) rfl rfl (Nat.le_of_ble_eq_true rfl) ?_
  intro pr e s m below meth c A F hr hlk hP hS ls hl
  obtain ⟨⟨hx, hb, hml, hown, hts⟩, hK, hDD, hA, hKC⟩ := id F
  have hl : lv_has ls 3 [(0, .ref (ad 0)), (1, .int x1)] := hl
  have hP : va_P (dC, dI) vwCl (wX cI cC ad p h v k1 h1 v1 k2 h2 v2 r d y q) s.heap := hP
  unfold M_X8_judge at hM
  refine lv_iload_n hx hb dX8_judge_0 rfl (lv_at hl 1 rfl) ?_
  refine lv_iconst (v := 0) hx hb dX8_judge_1 (by decide) ?_
  refine lv_iconst (v := 5) hx hb dX8_judge_2 (by decide) ?_
  obtain ⟨z3, hcr, hM⟩ := ob_s hM
  refine res_i0 F hP hS rfl [] rfl rfl (runS_of (n := 3) (As := [.int x1, .int (0 : Int32), .int (5 : Int32)]) (rest := []) F hP hS rfl [] rfl rfl (c_X8_within l dC dI cI cC cZ sa x1 (0 : Int32) (5 : Int32) hcr _) gX8_judge_X8_within rfl (by decide +kernel) ⟨Nat.le_of_ble_eq_true rfl, Nat.le_of_ble_eq_true rfl⟩ rfl hl.1 rfl (Nat.le_of_ble_eq_true rfl) dX8_judge_3 ⟨Nat.zero_le _, Nat.zero_le _⟩) (fun H locs hP hS => ?_)
  refine lv_if_ne (tgt := 12) hx hb dX8_judge_6 (by decide) (fun hc => ?_) (fun hc => ?_)
  · have hM := if_nn hc hM
    refine lv_aload_n hx hb dX8_judge_12 rfl (lv_at hl 0 rfl) ?_
    obtain ⟨z13, hcr, hM⟩ := ob_s hM
    refine res_i (ws' := (wX cI cC ad p h v k1 h1 v1 k2 h2 v2 z13.2.1 z13.2.2 y q)) F hP hS rfl [0, 1, 2, 3, 4, 5, 6, 7, 8, 9, 10, 11, 12, 13, 14, 15, 16, 17, 18, 19, 20, 21, 22, 23, 24, 25, 26, 27, 28, 29, 30] rfl rfl rfl (runV_of (n := 0) (As := []) (rest := []) F hP hS rfl [0, 1, 2, 3, 4, 5, 6, 7, 8, 9, 10, 11, 12, 13, 14, 15, 16, 17, 18, 19, 20, 21, 22, 23, 24, 25, 26, 27, 28, 29, 30] rfl rfl (c_X8_followWalk l dC dI cI cC cZ sa ad p h v k1 h1 v1 k2 h2 v2 r d y q hcr _) gX8_judge_X8_followWalk rfl (by decide +kernel) ⟨Nat.le_of_ble_eq_true rfl, Nat.le_of_ble_eq_true rfl⟩ 0 8 rfl rfl rfl hl.1 rfl (Nat.le_of_ble_eq_true rfl) dX8_judge_13 ⟨Nat.zero_le _, Nat.zero_le _⟩) rfl (fun H locs hP hS => ?_)
    refine lv_istore_n (lv' := [(2, .int z13.1), (0, .ref (ad 0)), (1, .int x1)]) hx hb dX8_judge_16 rfl hl (by decide) rfl (fun ls hl => ?_)
    refine lv_iload_n hx hb dX8_judge_17 rfl (lv_at hl 0 rfl) ?_
    refine lv_bipush (v := -5) hx hb dX8_judge_18 (by decide) ?_
    refine lv_icmp_ne (tgt := 26) hx hb dX8_judge_20 (by decide) (fun hc => ?_) (fun hc => ?_)
    · have hM := if_nn hc hM
      refine lv_iload_n hx hb dX8_judge_26 rfl (lv_at hl 2 rfl) ?_
      refine lv_if_ne (tgt := 38) hx hb dX8_judge_27 (by decide) (fun hc => ?_) (fun hc => ?_)
      · have hM := if_nn hc hM
        refine lv_iload_n hx hb dX8_judge_38 rfl (lv_at hl 0 rfl) ?_
        refine lv_bipush (v := -3) hx hb dX8_judge_39 (by decide) ?_
        refine lv_icmp_ne (tgt := 49) hx hb dX8_judge_41 (by decide) (fun hc => ?_) (fun hc => ?_)
        · have hM := if_nn hc hM
          refine lv_aload_n hx hb dX8_judge_49 rfl (lv_at hl 1 rfl) ?_
          refine g_get (ci := 8) (C := RX8) (T := TX8) (N := 8) (v := .ref (ad 24)) F hP 0 rfl rfl inX8_judge_X8 5 (by decide) (List.mem_of_getElem? (i := 1) rfl) rfl dX8_judge_50 ?_
          refine lv_iload_n hx hb dX8_judge_53 rfl (lv_at hl 2 rfl) ?_
          obtain ⟨z54, hcr, hM⟩ := ob_s hM
          refine res_i0 F hP hS rfl [24] rfl rfl (runV_of (n := 1) (As := [.int x1]) (rest := []) F hP hS rfl [24] rfl rfl (c_X3_answer l dC dI cI cC cZ sa (ad 24) z13.2.2 x1 hcr _) gX8_judge_X3_answer rfl (by decide +kernel) ⟨Nat.le_of_ble_eq_true rfl, Nat.le_of_ble_eq_true rfl⟩ 24 3 rfl rfl rfl hl.1 rfl (Nat.le_of_ble_eq_true rfl) dX8_judge_54 ⟨Nat.zero_le _, Nat.zero_le _⟩) (fun H locs hP hS => ?_)
          exact ret_i hx hb hr hlk dX8_judge_57 hM hP hS
        · have hM := if_pp hc hM
          refine lv_bipush (v := -3) hx hb dX8_judge_44 (by decide) ?_
          refine lv_goto (tgt := 57) hx hb dX8_judge_46 (by decide) ?_
          exact ret_i hx hb hr hlk dX8_judge_57 hM hP hS
      · have hM := if_pp hc hM
        refine lv_aload_n hx hb dX8_judge_30 rfl (lv_at hl 1 rfl) ?_
        refine g_get (ci := 8) (C := RX8) (T := TX8) (N := 8) (v := .ref (ad 24)) F hP 0 rfl rfl inX8_judge_X8 5 (by decide) (List.mem_of_getElem? (i := 1) rfl) rfl dX8_judge_31 ?_
        refine g_get (ci := 3) (C := RX3) (T := TX3) (N := 7) (v := .int z13.2.2.1) F hP 24 rfl rfl inX8_judge_X3 0 (by decide) (List.mem_of_getElem? (i := 2) rfl) rfl dX8_judge_34 ?_
        exact ret_i hx hb hr hlk dX8_judge_37 hM hP hS
    · have hM := if_pp hc hM
      refine lv_bipush (v := -5) hx hb dX8_judge_23 (by decide) ?_
      exact ret_i hx hb hr hlk dX8_judge_25 hM hP hS
  · have hM := if_pp hc hM
    refine lv_bipush (v := -2) hx hb dX8_judge_9 (by decide) ?_
    exact ret_i hx hb hr hlk dX8_judge_11 hM hP hS
theorem inX8_least_X0 : ∀ w ∈ wsX00, w ∈ wsX8_least := fun w h => List.mem_cons_of_mem _ (List.mem_append_left _ (List.mem_append_left _ (List.mem_append_right _ h)))
theorem inX8_least_X8 : ∀ w ∈ wsX80, w ∈ wsX8_least := fun w h => List.mem_cons_of_mem _ (List.mem_append_left _ (List.mem_append_left _ (List.mem_append_left _ (List.mem_append_right _ h))))
set_option maxHeartbeats 4000000 in
set_option maxRecDepth 100000 in
theorem c_X8_least (l : Launch) (dC : Nat → ClassId) (dI : Nat → Nat → Nat) (cI cC cZ : ClassId) (sa : Nat → Nat) (ad : Nat → Nat) (p : PT) (h : HT) (v : VT) (k1 : Int32) (h1 : HT) (v1 : VT) (k2 : Int32) (h2 : HT) (v2 : VT) (r : RT) (d : DT) (y : YT) (q : QT) (x1 : Int32) {res : Int32 × YT} (hM : M_X8_least h v y x1 = some res) : CTi l (dC, dI) [(cI, .int), (cC, .char), (cZ, .boolean)] sa yX8_least wsX8_least (rmd 7) [.ref (ad 0), .int x1] (wX cI cC ad p h v k1 h1 v1 k2 h2 v2 r d y q) (fun (uu : YT) => (wX cI cC ad p h v k1 h1 v1 k2 h2 v2 r d uu q)) res := by
  refine CTi.enter (own := RX8) (cc := cX8_least) (maxL := 3) (ret := (some .int)) (by decide) rfl rfl (Nat.le_of_ble_eq_true rfl) ?_
  intro pr e s m below meth c A F hr hlk hP hS ls hl
  obtain ⟨⟨hx, hb, hml, hown, hts⟩, hK, hDD, hA, hKC⟩ := id F
  have hl : lv_has ls 3 [(0, .ref (ad 0)), (1, .int x1)] := hl
  have hP : va_P (dC, dI) vwCl (wX cI cC ad p h v k1 h1 v1 k2 h2 v2 r d y q) s.heap := hP
  unfold M_X8_least at hM
  refine lv_iload_n hx hb dX8_least_0 rfl (lv_at hl 1 rfl) ?_
  refine lv_iconst (v := 0) hx hb dX8_least_1 (by decide) ?_
  refine lv_iconst (v := 1) hx hb dX8_least_2 (by decide) ?_
  obtain ⟨z3, hcr, hM⟩ := ob_s hM
  refine res_i0 F hP hS rfl [] rfl rfl (runS_of (n := 3) (As := [.int x1, .int (0 : Int32), .int (1 : Int32)]) (rest := []) F hP hS rfl [] rfl rfl (c_X8_within l dC dI cI cC cZ sa x1 (0 : Int32) (1 : Int32) hcr _) gX8_least_X8_within rfl (by decide +kernel) ⟨Nat.le_of_ble_eq_true rfl, Nat.le_of_ble_eq_true rfl⟩ rfl hl.1 rfl (Nat.le_of_ble_eq_true rfl) dX8_least_3 ⟨Nat.zero_le _, Nat.zero_le _⟩) (fun H locs hP hS => ?_)
  refine lv_if_ne (tgt := 12) hx hb dX8_least_6 (by decide) (fun hc => ?_) (fun hc => ?_)
  · have hM := if_nn hc hM
    refine lv_aload_n hx hb dX8_least_12 rfl (lv_at hl 0 rfl) ?_
    refine g_get (ci := 8) (C := RX8) (T := TX8) (N := 8) (v := .ref (ad 25)) F hP 0 rfl rfl inX8_least_X8 6 (by decide) (List.mem_of_getElem? (i := 1) rfl) rfl dX8_least_13 ?_
    refine lv_aload_n hx hb dX8_least_16 rfl (lv_at hl 0 rfl) ?_
    refine g_get (ci := 8) (C := RX8) (T := TX8) (N := 8) (v := .ref (ad 3)) F hP 0 rfl rfl inX8_least_X8 1 (by decide) (List.mem_of_getElem? (i := 2) rfl) rfl dX8_least_17 ?_
    refine lv_aload_n hx hb dX8_least_20 rfl (lv_at hl 0 rfl) ?_
    refine g_get (ci := 8) (C := RX8) (T := TX8) (N := 8) (v := .ref (ad 3)) F hP 0 rfl rfl inX8_least_X8 1 (by decide) (List.mem_of_getElem? (i := 2) rfl) rfl dX8_least_21 ?_
    refine g_get (ci := 0) (C := RX0) (T := TX0) (N := 13) (v := .int h.2.2.2.2.2.2.2.2.2.2.1) F hP 3 rfl rfl inX8_least_X0 10 (by decide) (List.mem_of_getElem? (i := 3) rfl) rfl dX8_least_24 ?_
    obtain ⟨z27, hcr, hM⟩ := ob_s hM
    refine res_i0 F hP hS rfl [] rfl rfl (runS_of (n := 1) (As := [.int h.2.2.2.2.2.2.2.2.2.2.1]) (rest := [.ref (ad 3), .ref (ad 25)]) F hP hS rfl [] rfl rfl (c_X8_bit l dC dI cI cC cZ sa h.2.2.2.2.2.2.2.2.2.2.1 hcr _) gX8_least_X8_bit rfl (by decide +kernel) ⟨Nat.le_of_ble_eq_true rfl, Nat.le_of_ble_eq_true rfl⟩ rfl hl.1 rfl (Nat.le_of_ble_eq_true rfl) dX8_least_27 ⟨Nat.zero_le _, Nat.zero_le _⟩) (fun H locs hP hS => ?_)
    refine lv_aload_n hx hb dX8_least_30 rfl (lv_at hl 0 rfl) ?_
    refine g_get (ci := 8) (C := RX8) (T := TX8) (N := 8) (v := .ref (ad 3)) F hP 0 rfl rfl inX8_least_X8 1 (by decide) (List.mem_of_getElem? (i := 2) rfl) rfl dX8_least_31 ?_
    refine g_get (ci := 0) (C := RX0) (T := TX0) (N := 13) (v := .int h.2.2.2.2.2.2.2.2.2.1) F hP 3 rfl rfl inX8_least_X0 9 (by decide) (List.mem_of_getElem? (i := 4) rfl) rfl dX8_least_34 ?_
    obtain ⟨z37, hcr, hM⟩ := ob_s hM
    refine res_i0 F hP hS rfl [] rfl rfl (runS_of (n := 1) (As := [.int h.2.2.2.2.2.2.2.2.2.1]) (rest := [.int z27, .ref (ad 3), .ref (ad 25)]) F hP hS rfl [] rfl rfl (c_X8_bit l dC dI cI cC cZ sa h.2.2.2.2.2.2.2.2.2.1 hcr _) gX8_least_X8_bit rfl (by decide +kernel) ⟨Nat.le_of_ble_eq_true rfl, Nat.le_of_ble_eq_true rfl⟩ rfl hl.1 rfl (Nat.le_of_ble_eq_true rfl) dX8_least_37 ⟨Nat.zero_le _, Nat.zero_le _⟩) (fun H locs hP hS => ?_)
    refine lv_aload_n hx hb dX8_least_40 rfl (lv_at hl 0 rfl) ?_
    refine g_get (ci := 8) (C := RX8) (T := TX8) (N := 8) (v := .ref (ad 3)) F hP 0 rfl rfl inX8_least_X8 1 (by decide) (List.mem_of_getElem? (i := 2) rfl) rfl dX8_least_41 ?_
    obtain ⟨z44, hcr, hM⟩ := ob_s hM
    refine res_i0 F hP hS rfl [3, 4, 5, 6, 7] rfl rfl (runV_of (n := 0) (As := []) (rest := [.int z37, .int z27, .ref (ad 3), .ref (ad 25)]) F hP hS rfl [3, 4, 5, 6, 7] rfl rfl (c_X0_open l dC dI cI cC cZ sa (ad 3) (ad 4) (ad 5) (ad 6) (ad 7) h v hcr _) gX8_least_X0_open rfl (by decide +kernel) ⟨Nat.le_of_ble_eq_true rfl, Nat.le_of_ble_eq_true rfl⟩ 3 0 rfl rfl rfl hl.1 rfl (Nat.le_of_ble_eq_true rfl) dX8_least_44 ⟨Nat.zero_le _, Nat.zero_le _⟩) (fun H locs hP hS => ?_)
    obtain ⟨z47, hcr, hM⟩ := ob_s hM
    refine res_i (ws' := (wX cI cC ad p h v k1 h1 v1 k2 h2 v2 r d z47.2 q)) F hP hS rfl [25, 26, 27, 3, 4, 5, 6, 7] rfl rfl rfl (runV_of (n := 4) (As := [.ref (ad 3), .int z27, .int z37, .int z44]) (rest := []) F hP hS rfl [25, 26, 27, 3, 4, 5, 6, 7] rfl rfl (c_X5_measure l dC dI cI cC cZ sa (ad 25) (ad 26) (ad 27) (ad 3) (ad 4) (ad 5) (ad 6) (ad 7) y h v z27 z37 z44 hcr _) gX8_least_X5_measure rfl (by decide +kernel) ⟨Nat.le_of_ble_eq_true rfl, Nat.le_of_ble_eq_true rfl⟩ 25 5 rfl rfl rfl hl.1 rfl (Nat.le_of_ble_eq_true rfl) dX8_least_47 ⟨Nat.zero_le _, Nat.zero_le _⟩) rfl (fun H locs hP hS => ?_)
    refine lv_istore_n (lv' := [(2, .int z47.1), (0, .ref (ad 0)), (1, .int x1)]) hx hb dX8_least_50 rfl hl (by decide) rfl (fun ls hl => ?_)
    refine lv_iload_n hx hb dX8_least_51 rfl (lv_at hl 0 rfl) ?_
    refine lv_bipush (v := -6) hx hb dX8_least_52 (by decide) ?_
    refine lv_icmp_ne (tgt := 60) hx hb dX8_least_54 (by decide) (fun hc => ?_) (fun hc => ?_)
    · have hM := if_nn hc hM
      refine lv_iload_n hx hb dX8_least_60 rfl (lv_at hl 2 rfl) ?_
      refine lv_iconst (v := 1) hx hb dX8_least_61 (by decide) ?_
      refine lv_icmp_ne (tgt := 71) hx hb dX8_least_62 (by decide) (fun hc => ?_) (fun hc => ?_)
      · have hM := if_nn hc hM
        refine lv_aload_n hx hb dX8_least_71 rfl (lv_at hl 1 rfl) ?_
        refine g_get (ci := 8) (C := RX8) (T := TX8) (N := 8) (v := .ref (ad 25)) F hP 0 rfl rfl inX8_least_X8 6 (by decide) (List.mem_of_getElem? (i := 1) rfl) rfl dX8_least_72 ?_
        refine lv_aload_n hx hb dX8_least_75 rfl (lv_at hl 1 rfl) ?_
        refine g_get (ci := 8) (C := RX8) (T := TX8) (N := 8) (v := .ref (ad 3)) F hP 0 rfl rfl inX8_least_X8 1 (by decide) (List.mem_of_getElem? (i := 2) rfl) rfl dX8_least_76 ?_
        refine lv_iload_n hx hb dX8_least_79 rfl (lv_at hl 0 rfl) ?_
        obtain ⟨z80, hcr, hM⟩ := ob_s hM
        refine res_i (ws' := (wX cI cC ad p h v k1 h1 v1 k2 h2 v2 r d z80.2 q)) F hP hS rfl [25, 26, 27, 3, 4, 5, 6, 7] rfl rfl rfl (runV_of (n := 2) (As := [.ref (ad 3), .int z47.1]) (rest := []) F hP hS rfl [25, 26, 27, 3, 4, 5, 6, 7] rfl rfl (c_X5_fewestShowingSteps l dC dI cI cC cZ sa (ad 25) (ad 26) (ad 27) (ad 3) (ad 4) (ad 5) (ad 6) (ad 7) z47.2 h v z47.1 hcr _) gX8_least_X5_fewestShowingSteps rfl (by decide +kernel) ⟨Nat.le_of_ble_eq_true rfl, Nat.le_of_ble_eq_true rfl⟩ 25 5 rfl rfl rfl hl.1 rfl (Nat.le_of_ble_eq_true rfl) dX8_least_80 ⟨Nat.zero_le _, Nat.zero_le _⟩) rfl (fun H locs hP hS => ?_)
        exact ret_i hx hb hr hlk dX8_least_83 hM hP hS
      · have hM := if_pp hc hM
        refine lv_iconst (v := 2) hx hb dX8_least_65 (by decide) ?_
        refine lv_iload_n hx hb dX8_least_66 rfl (lv_at hl 0 rfl) ?_
        refine lv_imul hx hb dX8_least_67 ?_
        refine lv_goto (tgt := 83) hx hb dX8_least_68 (by decide) ?_
        exact ret_i hx hb hr hlk dX8_least_83 hM hP hS
    · have hM := if_pp hc hM
      refine lv_bipush (v := -6) hx hb dX8_least_57 (by decide) ?_
      exact ret_i hx hb hr hlk dX8_least_59 hM hP hS
  · have hM := if_pp hc hM
    refine lv_bipush (v := -2) hx hb dX8_least_9 (by decide) ?_
    exact ret_i hx hb hr hlk dX8_least_11 hM hP hS
set_option maxHeartbeats 4000000 in
set_option maxRecDepth 100000 in
theorem c_X8_meet (l : Launch) (dC : Nat → ClassId) (dI : Nat → Nat → Nat) (cI cC cZ : ClassId) (sa : Nat → Nat) (ad : Nat → Nat) (p : PT) (h : HT) (v : VT) (k1 : Int32) (h1 : HT) (v1 : VT) (k2 : Int32) (h2 : HT) (v2 : VT) (r : RT) (d : DT) (y : YT) (q : QT) (x1 : Int32) (x2 : Int32) {res : Int32 × RT × DT} (hM : M_X8_meet p h v r d x1 x2 = some res) : CTi l (dC, dI) [(cI, .int), (cC, .char), (cZ, .boolean)] sa yX8_meet wsX8_meet (rmd 8) [.ref (ad 0), .int x1, .int x2] (wX cI cC ad p h v k1 h1 v1 k2 h2 v2 r d y q) (fun (uu : RT × DT) => (wX cI cC ad p h v k1 h1 v1 k2 h2 v2 uu.1 uu.2 y q)) res := by
  refine CTi.enter (own := RX8) (cc := cX8_meet) (maxL := 4) (ret := (some .int)) (by decide) rfl rfl (Nat.le_of_ble_eq_true rfl) ?_
  intro pr e s m below meth c A F hr hlk hP hS ls hl
  obtain ⟨⟨hx, hb, hml, hown, hts⟩, hK, hDD, hA, hKC⟩ := id F
  have hl : lv_has ls 4 [(0, .ref (ad 0)), (1, .int x1), (2, .int x2)] := hl
  have hP : va_P (dC, dI) vwCl (wX cI cC ad p h v k1 h1 v1 k2 h2 v2 r d y q) s.heap := hP
  unfold M_X8_meet at hM
  refine lv_iload_n hx hb dX8_meet_0 rfl (lv_at hl 2 rfl) ?_
  refine lv_iconst (v := 0) hx hb dX8_meet_1 (by decide) ?_
  refine lv_bipush (v := 8) hx hb dX8_meet_2 (by decide) ?_
  obtain ⟨z4, hcr, hM⟩ := ob_s hM
  refine res_i0 F hP hS rfl [] rfl rfl (runS_of (n := 3) (As := [.int x2, .int (0 : Int32), .int (8 : Int32)]) (rest := []) F hP hS rfl [] rfl rfl (c_X8_within l dC dI cI cC cZ sa x2 (0 : Int32) (8 : Int32) hcr _) gX8_meet_X8_within rfl (by decide +kernel) ⟨Nat.le_of_ble_eq_true rfl, Nat.le_of_ble_eq_true rfl⟩ rfl hl.1 rfl (Nat.le_of_ble_eq_true rfl) dX8_meet_4 ⟨Nat.zero_le _, Nat.zero_le _⟩) (fun H locs hP hS => ?_)
  refine lv_if_eq (tgt := 25) hx hb dX8_meet_7 (by decide) (fun hc => ?_) (fun hc => ?_)
  · have hM := if_pp hc hM
    refine lv_bipush (v := -2) hx hb dX8_meet_25 (by decide) ?_
    exact ret_i hx hb hr hlk dX8_meet_27 hM hP hS
  · have hM := if_nn hc hM
    refine lv_iload_n hx hb dX8_meet_10 rfl (lv_at hl 1 rfl) ?_
    refine lv_iconst (v := 0) hx hb dX8_meet_11 (by decide) ?_
    refine lv_iconst (v := 5) hx hb dX8_meet_12 (by decide) ?_
    refine lv_iload_n hx hb dX8_meet_13 rfl (lv_at hl 2 rfl) ?_
    obtain ⟨z14, hcr, hM⟩ := ob_s hM
    refine res_i0 F hP hS rfl [] rfl rfl (runS_of (n := 2) (As := [.int (5 : Int32), .int x2]) (rest := [.int (0 : Int32), .int x1]) F hP hS rfl [] rfl rfl (c_X8_power l dC dI cI cC cZ sa (5 : Int32) x2 hcr _) gX8_meet_X8_power rfl (by decide +kernel) ⟨Nat.le_of_ble_eq_true rfl, Nat.le_of_ble_eq_true rfl⟩ rfl hl.1 rfl (Nat.le_of_ble_eq_true rfl) dX8_meet_14 ⟨Nat.zero_le _, Nat.zero_le _⟩) (fun H locs hP hS => ?_)
    refine lv_iconst (v := 1) hx hb dX8_meet_17 (by decide) ?_
    refine lv_isub hx hb dX8_meet_18 ?_
    obtain ⟨z19, hcr, hM⟩ := ob_s hM
    refine res_i0 F hP hS rfl [] rfl rfl (runS_of (n := 3) (As := [.int x1, .int (0 : Int32), .int (z14 - (1 : Int32))]) (rest := []) F hP hS rfl [] rfl rfl (c_X8_within l dC dI cI cC cZ sa x1 (0 : Int32) (z14 - (1 : Int32)) hcr _) gX8_meet_X8_within rfl (by decide +kernel) ⟨Nat.le_of_ble_eq_true rfl, Nat.le_of_ble_eq_true rfl⟩ rfl hl.1 rfl (Nat.le_of_ble_eq_true rfl) dX8_meet_19 ⟨Nat.zero_le _, Nat.zero_le _⟩) (fun H locs hP hS => ?_)
    refine lv_if_ne (tgt := 28) hx hb dX8_meet_22 (by decide) (fun hc => ?_) (fun hc => ?_)
    · have hM := if_nn hc hM
      refine lv_aload_n hx hb dX8_meet_28 rfl (lv_at hl 0 rfl) ?_
      obtain ⟨z29, hcr, hM⟩ := ob_s hM
      refine res_i (ws' := (wX cI cC ad p h v k1 h1 v1 k2 h2 v2 z29.2.1 z29.2.2 y q)) F hP hS rfl [0, 1, 2, 3, 4, 5, 6, 7, 8, 9, 10, 11, 12, 13, 14, 15, 16, 17, 18, 19, 20, 21, 22, 23, 24, 25, 26, 27, 28, 29, 30] rfl rfl rfl (runV_of (n := 0) (As := []) (rest := []) F hP hS rfl [0, 1, 2, 3, 4, 5, 6, 7, 8, 9, 10, 11, 12, 13, 14, 15, 16, 17, 18, 19, 20, 21, 22, 23, 24, 25, 26, 27, 28, 29, 30] rfl rfl (c_X8_followWalk l dC dI cI cC cZ sa ad p h v k1 h1 v1 k2 h2 v2 r d y q hcr _) gX8_meet_X8_followWalk rfl (by decide +kernel) ⟨Nat.le_of_ble_eq_true rfl, Nat.le_of_ble_eq_true rfl⟩ 0 8 rfl rfl rfl hl.1 rfl (Nat.le_of_ble_eq_true rfl) dX8_meet_29 ⟨Nat.zero_le _, Nat.zero_le _⟩) rfl (fun H locs hP hS => ?_)
      refine lv_istore_n (lv' := [(3, .int z29.1), (0, .ref (ad 0)), (1, .int x1), (2, .int x2)]) hx hb dX8_meet_32 rfl hl (by decide) rfl (fun ls hl => ?_)
      refine lv_iload_n hx hb dX8_meet_33 rfl (lv_at hl 0 rfl) ?_
      refine lv_if_ne (tgt := 46) hx hb dX8_meet_34 (by decide) (fun hc => ?_) (fun hc => ?_)
      · have hM := if_nn hc hM
        refine lv_iload_n hx hb dX8_meet_46 rfl (lv_at hl 0 rfl) ?_
        exact ret_i hx hb hr hlk dX8_meet_47 hM hP hS
      · have hM := if_pp hc hM
        refine lv_aload_n hx hb dX8_meet_37 rfl (lv_at hl 1 rfl) ?_
        refine lv_iload_n hx hb dX8_meet_38 rfl (lv_at hl 2 rfl) ?_
        refine lv_iload_n hx hb dX8_meet_39 rfl (lv_at hl 3 rfl) ?_
        obtain ⟨z40, hcr, hM⟩ := ob_s hM
        refine res_i0 F hP hS rfl [0, 1, 2, 3, 4, 5, 6, 7, 8, 9, 10, 11, 12, 13, 14, 15, 16, 17, 18, 19, 20, 21, 22, 23, 24, 25, 26, 27, 28, 29, 30] rfl rfl (runV_of (n := 2) (As := [.int x1, .int x2]) (rest := []) F hP hS rfl [0, 1, 2, 3, 4, 5, 6, 7, 8, 9, 10, 11, 12, 13, 14, 15, 16, 17, 18, 19, 20, 21, 22, 23, 24, 25, 26, 27, 28, 29, 30] rfl rfl (c_X8_firstMeeting l dC dI cI cC cZ sa ad p h v k1 h1 v1 k2 h2 v2 z29.2.1 z29.2.2 y q x1 x2 hcr _) gX8_meet_X8_firstMeeting rfl (by decide +kernel) ⟨Nat.le_of_ble_eq_true rfl, Nat.le_of_ble_eq_true rfl⟩ 0 8 rfl rfl rfl hl.1 rfl (Nat.le_of_ble_eq_true rfl) dX8_meet_40 ⟨Nat.zero_le _, Nat.zero_le _⟩) (fun H locs hP hS => ?_)
        refine lv_goto (tgt := 47) hx hb dX8_meet_43 (by decide) ?_
        exact ret_i hx hb hr hlk dX8_meet_47 hM hP hS
    · have hM := if_pp hc hM
      refine lv_bipush (v := -2) hx hb dX8_meet_25 (by decide) ?_
      exact ret_i hx hb hr hlk dX8_meet_27 hM hP hS
theorem inX8_night_X6 : ∀ w ∈ wsX60, w ∈ wsX8_night := fun w h => List.mem_cons_of_mem _ (List.mem_append_left _ (List.mem_append_left _ (List.mem_append_right _ h)))
theorem inX8_night_X8 : ∀ w ∈ wsX80, w ∈ wsX8_night := fun w h => List.mem_cons_of_mem _ (List.mem_append_left _ (List.mem_append_left _ (List.mem_append_left _ (List.mem_append_right _ h))))
set_option maxHeartbeats 4000000 in
set_option maxRecDepth 100000 in
theorem c_X8_night (l : Launch) (dC : Nat → ClassId) (dI : Nat → Nat → Nat) (cI cC cZ : ClassId) (sa : Nat → Nat) (ad : Nat → Nat) (p : PT) (h : HT) (v : VT) (k1 : Int32) (h1 : HT) (v1 : VT) (k2 : Int32) (h2 : HT) (v2 : VT) (r : RT) (d : DT) (y : YT) (q : QT) (x1 : Int32) (x2 : Int32) (x3 : Int32) {res : Int32 × RT} (hM : M_X8_night h v r x1 x2 x3 = some res) : CTi l (dC, dI) [(cI, .int), (cC, .char), (cZ, .boolean)] sa yX8_night wsX8_night (rmd 5) [.ref (ad 0), .int x1, .int x2, .int x3] (wX cI cC ad p h v k1 h1 v1 k2 h2 v2 r d y q) (fun (uu : RT) => (wX cI cC ad p h v k1 h1 v1 k2 h2 v2 uu d y q)) res := by
  refine CTi.enter (own := RX8) (cc := cX8_night) (maxL := 7) (ret := (some .int)) (by decide) rfl rfl (Nat.le_of_ble_eq_true rfl) ?_
  intro pr e s m below meth c A F hr hlk hP hS ls hl
  obtain ⟨⟨hx, hb, hml, hown, hts⟩, hK, hDD, hA, hKC⟩ := id F
  have hl : lv_has ls 7 [(0, .ref (ad 0)), (1, .int x1), (2, .int x2), (3, .int x3)] := hl
  have hP : va_P (dC, dI) vwCl (wX cI cC ad p h v k1 h1 v1 k2 h2 v2 r d y q) s.heap := hP
  unfold M_X8_night at hM
  refine kloop (α := RT × Int32 × Int32 × Int32) (res := res) (fun k a => M_X8_night_53 h v x1 x2 x3 k a) (fun rec a => M_X8_night_53b h v x1 x2 x3 rec a) (fun _ => rfl) (fun _ _ => rfl) F (fun a => (wX cI cC ad p h v k1 h1 v1 k2 h2 v2 a.1 d y q)) (fun a => [(0, .ref (ad 0)), (2, .int x2), (3, .int x3), (4, .int a.2.1), (5, .int a.2.2.1), (6, .int a.2.2.2)]) (fun a => []) 53 ?_ (fun j53 => ?_)
  · intro rc53 ih53 a53 H locs ls hP hS hl hM
    unfold M_X8_night_53b at hM
    refine kblk (α := RT × Int32 × Int32 × Int32) (res := res) (fun a => M_X8_night_109 h v x1 x2 x3 rc53 a) F (fun a => (wX cI cC ad p h v k1 h1 v1 k2 h2 v2 a.1 d y q)) (fun a => [(0, .ref (ad 0)), (2, .int x2), (3, .int x3), (4, .int a.2.1), (5, .int a.2.2.1), (6, .int a.2.2.2)]) (fun a => []) 109 ?_ (fun j109 => ?_)
    · intro a109 H locs ls hP hS hl hM
      unfold M_X8_night_109 at hM
      refine lv_iinc (v := (a109.2.2.2 + (1 : Int32))) (lv' := [(6, .int (a109.2.2.2 + (1 : Int32))), (0, .ref (ad 0)), (2, .int x2), (3, .int x3), (4, .int a109.2.1), (5, .int a109.2.2.1)]) hx hb dX8_night_109 hl (k := 5) rfl rfl (by decide) rfl (fun ls hl => ?_)
      refine lv_goto (tgt := 53) hx hb dX8_night_112 (by decide) ?_
      exact ih53 (a109.1, a109.2.1, a109.2.2.1, (a109.2.2.2 + (1 : Int32))) _ _ _ hP hS (lv_sub hl [1, 2, 3, 4, 5, 0] rfl) hM
    refine lv_iload hx hb dX8_night_53 (lv_at hl 5 rfl) ?_
    refine lv_iload_n hx hb dX8_night_55 rfl (lv_at hl 1 rfl) ?_
    refine lv_icmp_ge (tgt := 115) hx hb dX8_night_56 (by decide) (fun hc => ?_) (fun hc => ?_)
    · have hM := if_pp hc hM
      refine lv_iload_n hx hb dX8_night_115 rfl (lv_at hl 2 rfl) ?_
      refine lv_if_ne (tgt := 122) hx hb dX8_night_116 (by decide) (fun hc => ?_) (fun hc => ?_)
      · have hM := if_nn hc hM
        refine lv_iload_n hx hb dX8_night_122 rfl (lv_at hl 2 rfl) ?_
        refine lv_iconst (v := 1) hx hb dX8_night_123 (by decide) ?_
        refine lv_icmp_ne (tgt := 140) hx hb dX8_night_124 (by decide) (fun hc => ?_) (fun hc => ?_)
        · have hM := if_nn hc hM
          refine lv_aload_n hx hb dX8_night_140 rfl (lv_at hl 0 rfl) ?_
          refine g_get (ci := 8) (C := RX8) (T := TX8) (N := 8) (v := .ref (ad 20)) F hP 0 rfl rfl inX8_night_X8 4 (by decide) (List.mem_of_getElem? (i := 1) rfl) rfl dX8_night_141 ?_
          refine g_get (ci := 6) (C := RX6) (T := TX6) (N := 6) (v := .int a53.1.2.1) F hP 20 rfl rfl inX8_night_X6 4 (by decide) (List.mem_of_getElem? (i := 5) rfl) rfl dX8_night_144 ?_
          obtain ⟨z147, hcr, hM⟩ := ob_s hM
          refine res_i0 F hP hS rfl [] rfl rfl (runS_of (n := 1) (As := [.int a53.1.2.1]) (rest := []) F hP hS rfl [] rfl rfl (c_J6_bitCount_0f7a4 l dC dI cI cC cZ sa a53.1.2.1 hcr _) gX8_night_J6_bitCount_0f7a4 rfl (by decide +kernel) ⟨Nat.le_of_ble_eq_true rfl, Nat.le_of_ble_eq_true rfl⟩ rfl hl.1 rfl (Nat.le_of_ble_eq_true rfl) dX8_night_147 ⟨Nat.zero_le _, Nat.zero_le _⟩) (fun H locs hP hS => ?_)
          exact ret_i hx hb hr hlk dX8_night_150 hM hP hS
        · have hM := if_pp hc hM
          refine lv_aload_n hx hb dX8_night_127 rfl (lv_at hl 0 rfl) ?_
          refine g_get (ci := 8) (C := RX8) (T := TX8) (N := 8) (v := .ref (ad 20)) F hP 0 rfl rfl inX8_night_X8 4 (by decide) (List.mem_of_getElem? (i := 1) rfl) rfl dX8_night_128 ?_
          refine g_get (ci := 6) (C := RX6) (T := TX6) (N := 6) (v := .int a53.1.1) F hP 20 rfl rfl inX8_night_X6 3 (by decide) (List.mem_of_getElem? (i := 4) rfl) rfl dX8_night_131 ?_
          obtain ⟨z134, hcr, hM⟩ := ob_s hM
          refine res_i0 F hP hS rfl [] rfl rfl (runS_of (n := 1) (As := [.int a53.1.1]) (rest := []) F hP hS rfl [] rfl rfl (c_X8_cellOf l dC dI cI cC cZ sa a53.1.1 hcr _) gX8_night_X8_cellOf rfl (by decide +kernel) ⟨Nat.le_of_ble_eq_true rfl, Nat.le_of_ble_eq_true rfl⟩ rfl hl.1 rfl (Nat.le_of_ble_eq_true rfl) dX8_night_134 ⟨Nat.zero_le _, Nat.zero_le _⟩) (fun H locs hP hS => ?_)
          refine lv_goto (tgt := 150) hx hb dX8_night_137 (by decide) ?_
          exact ret_i hx hb hr hlk dX8_night_150 hM hP hS
      · have hM := if_pp hc hM
        refine lv_iload hx hb dX8_night_119 (lv_at hl 4 rfl) ?_
        exact ret_i hx hb hr hlk dX8_night_121 hM hP hS
    · have hM := if_nn hc hM
      refine lv_bipush (v := 75) hx hb dX8_night_59 (by decide) ?_
      refine lv_iload hx hb dX8_night_61 (lv_at hl 3 rfl) ?_
      refine lv_imul hx hb dX8_night_63 ?_
      refine lv_bipush (v := 74) hx hb dX8_night_64 (by decide) ?_
      refine lv_iadd hx hb dX8_night_66 ?_
      refine lv_ldcw (v := 65537) hx hb hown (hts _ (List.mem_of_getElem? (i := 3) rfl)) dX8_night_67 ?_
      obtain ⟨hne, hM⟩ := if_ok hM
      refine lv_irem hx hb dX8_night_70 hne ?_
      refine lv_istore (lv' := [(4, .int ((((75 : Int32) * a53.2.1) + (74 : Int32)) - (((75 : Int32) * a53.2.1) + (74 : Int32)) / (65537 : Int32) * (65537 : Int32))), (0, .ref (ad 0)), (2, .int x2), (3, .int x3), (5, .int a53.2.2.1), (6, .int a53.2.2.2)]) hx hb dX8_night_71 hl (by decide) rfl (fun ls hl => ?_)
      refine lv_aload_n hx hb dX8_night_73 rfl (lv_at hl 1 rfl) ?_
      refine g_get (ci := 8) (C := RX8) (T := TX8) (N := 8) (v := .ref (ad 20)) F hP 0 rfl rfl inX8_night_X8 4 (by decide) (List.mem_of_getElem? (i := 1) rfl) rfl dX8_night_74 ?_
      refine lv_aload_n hx hb dX8_night_77 rfl (lv_at hl 1 rfl) ?_
      refine g_get (ci := 8) (C := RX8) (T := TX8) (N := 8) (v := .ref (ad 3)) F hP 0 rfl rfl inX8_night_X8 1 (by decide) (List.mem_of_getElem? (i := 2) rfl) rfl dX8_night_78 ?_
      refine lv_iload hx hb dX8_night_81 (lv_at hl 0 rfl) ?_
      refine lv_iconst (v := 5) hx hb dX8_night_83 (by decide) ?_
      obtain ⟨hne, hM⟩ := if_ok hM
      refine lv_irem hx hb dX8_night_84 hne ?_
      obtain ⟨z85, hcr, hM⟩ := ob_s hM
      refine res_i (ws' := (wX cI cC ad p h v k1 h1 v1 k2 h2 v2 z85.2 d y q)) F hP hS rfl [20, 21, 22, 23, 3, 4, 5, 6, 7] rfl rfl rfl (runV_of (n := 2) (As := [.ref (ad 3), .int (((((75 : Int32) * a53.2.1) + (74 : Int32)) - (((75 : Int32) * a53.2.1) + (74 : Int32)) / (65537 : Int32) * (65537 : Int32)) - ((((75 : Int32) * a53.2.1) + (74 : Int32)) - (((75 : Int32) * a53.2.1) + (74 : Int32)) / (65537 : Int32) * (65537 : Int32)) / (5 : Int32) * (5 : Int32))]) (rest := []) F hP hS rfl [20, 21, 22, 23, 3, 4, 5, 6, 7] rfl rfl (c_X6_take l dC dI cI cC cZ sa (ad 20) (ad 21) (ad 22) (ad 23) (ad 3) (ad 4) (ad 5) (ad 6) (ad 7) a53.1 h v (((((75 : Int32) * a53.2.1) + (74 : Int32)) - (((75 : Int32) * a53.2.1) + (74 : Int32)) / (65537 : Int32) * (65537 : Int32)) - ((((75 : Int32) * a53.2.1) + (74 : Int32)) - (((75 : Int32) * a53.2.1) + (74 : Int32)) / (65537 : Int32) * (65537 : Int32)) / (5 : Int32) * (5 : Int32)) hcr _) gX8_night_X6_take rfl (by decide +kernel) ⟨Nat.le_of_ble_eq_true rfl, Nat.le_of_ble_eq_true rfl⟩ 20 6 rfl rfl rfl hl.1 rfl (Nat.le_of_ble_eq_true rfl) dX8_night_85 ⟨Nat.zero_le _, Nat.zero_le _⟩) rfl (fun H locs hP hS => ?_)
      refine lv_pop hx hb dX8_night_88 rfl ?_
      refine lv_aload_n hx hb dX8_night_89 rfl (lv_at hl 1 rfl) ?_
      refine g_get (ci := 8) (C := RX8) (T := TX8) (N := 8) (v := .ref (ad 20)) F hP 0 rfl rfl inX8_night_X8 4 (by decide) (List.mem_of_getElem? (i := 1) rfl) rfl dX8_night_90 ?_
      refine lv_aload_n hx hb dX8_night_93 rfl (lv_at hl 1 rfl) ?_
      refine g_get (ci := 8) (C := RX8) (T := TX8) (N := 8) (v := .ref (ad 3)) F hP 0 rfl rfl inX8_night_X8 1 (by decide) (List.mem_of_getElem? (i := 2) rfl) rfl dX8_night_94 ?_
      refine lv_iconst (v := 0) hx hb dX8_night_97 (by decide) ?_
      obtain ⟨z98, hcr, hM⟩ := ob_s hM
      refine res_i0 F hP hS rfl [20, 21, 22, 23, 3, 4, 5, 6, 7] rfl rfl (runV_of (n := 2) (As := [.ref (ad 3), .int (0 : Int32)]) (rest := []) F hP hS rfl [20, 21, 22, 23, 3, 4, 5, 6, 7] rfl rfl (c_X6_firstShownTo l dC dI cI cC cZ sa (ad 20) (ad 21) (ad 22) (ad 23) (ad 3) (ad 4) (ad 5) (ad 6) (ad 7) z85.2 h v (0 : Int32) hcr _) gX8_night_X6_firstShownTo rfl (by decide +kernel) ⟨Nat.le_of_ble_eq_true rfl, Nat.le_of_ble_eq_true rfl⟩ 20 6 rfl rfl rfl hl.1 rfl (Nat.le_of_ble_eq_true rfl) dX8_night_98 ⟨Nat.zero_le _, Nat.zero_le _⟩) (fun H locs hP hS => ?_)
      refine lv_bipush (v := -6) hx hb dX8_night_101 (by decide) ?_
      refine lv_icmp_eq (tgt := 109) hx hb dX8_night_103 (by decide) (fun hc => ?_) (fun hc => ?_)
      · have hM := if_pp hc hM
        exact j109 (z85.2, ((((75 : Int32) * a53.2.1) + (74 : Int32)) - (((75 : Int32) * a53.2.1) + (74 : Int32)) / (65537 : Int32) * (65537 : Int32)), a53.2.2.1, a53.2.2.2) _ _ _ hP hS (lv_sub hl [1, 2, 3, 0, 4, 5] rfl) hM
      · have hM := if_nn hc hM
        refine lv_iinc (v := (a53.2.2.1 + (1 : Int32))) (lv' := [(5, .int (a53.2.2.1 + (1 : Int32))), (4, .int ((((75 : Int32) * a53.2.1) + (74 : Int32)) - (((75 : Int32) * a53.2.1) + (74 : Int32)) / (65537 : Int32) * (65537 : Int32))), (0, .ref (ad 0)), (2, .int x2), (3, .int x3), (6, .int a53.2.2.2)]) hx hb dX8_night_106 hl (k := 4) rfl rfl (by decide) rfl (fun ls hl => ?_)
        exact j109 (z85.2, ((((75 : Int32) * a53.2.1) + (74 : Int32)) - (((75 : Int32) * a53.2.1) + (74 : Int32)) / (65537 : Int32) * (65537 : Int32)), (a53.2.2.1 + (1 : Int32)), a53.2.2.2) _ _ _ hP hS (lv_sub hl [2, 3, 4, 1, 0, 5] rfl) hM
  refine lv_iload_n hx hb dX8_night_0 rfl (lv_at hl 1 rfl) ?_
  refine lv_iconst (v := 0) hx hb dX8_night_1 (by decide) ?_
  refine lv_sipush (v := 9999) hx hb dX8_night_2 (by decide) ?_
  obtain ⟨z5, hcr, hM⟩ := ob_s hM
  refine res_i0 F hP hS rfl [] rfl rfl (runS_of (n := 3) (As := [.int x1, .int (0 : Int32), .int (9999 : Int32)]) (rest := []) F hP hS rfl [] rfl rfl (c_X8_within l dC dI cI cC cZ sa x1 (0 : Int32) (9999 : Int32) hcr _) gX8_night_X8_within rfl (by decide +kernel) ⟨Nat.le_of_ble_eq_true rfl, Nat.le_of_ble_eq_true rfl⟩ rfl hl.1 rfl (Nat.le_of_ble_eq_true rfl) dX8_night_5 ⟨Nat.zero_le _, Nat.zero_le _⟩) (fun H locs hP hS => ?_)
  refine lv_if_eq (tgt := 30) hx hb dX8_night_8 (by decide) (fun hc => ?_) (fun hc => ?_)
  · have hM := if_pp hc hM
    refine lv_bipush (v := -2) hx hb dX8_night_30 (by decide) ?_
    exact ret_i hx hb hr hlk dX8_night_32 hM hP hS
  · have hM := if_nn hc hM
    refine lv_iload_n hx hb dX8_night_11 rfl (lv_at hl 2 rfl) ?_
    refine lv_iconst (v := 0) hx hb dX8_night_12 (by decide) ?_
    refine lv_bipush (v := 99) hx hb dX8_night_13 (by decide) ?_
    obtain ⟨z15, hcr, hM⟩ := ob_s hM
    refine res_i0 F hP hS rfl [] rfl rfl (runS_of (n := 3) (As := [.int x2, .int (0 : Int32), .int (99 : Int32)]) (rest := []) F hP hS rfl [] rfl rfl (c_X8_within l dC dI cI cC cZ sa x2 (0 : Int32) (99 : Int32) hcr _) gX8_night_X8_within rfl (by decide +kernel) ⟨Nat.le_of_ble_eq_true rfl, Nat.le_of_ble_eq_true rfl⟩ rfl hl.1 rfl (Nat.le_of_ble_eq_true rfl) dX8_night_15 ⟨Nat.zero_le _, Nat.zero_le _⟩) (fun H locs hP hS => ?_)
    refine lv_if_eq (tgt := 30) hx hb dX8_night_18 (by decide) (fun hc => ?_) (fun hc => ?_)
    · have hM := if_pp hc hM
      refine lv_bipush (v := -2) hx hb dX8_night_30 (by decide) ?_
      exact ret_i hx hb hr hlk dX8_night_32 hM hP hS
    · have hM := if_nn hc hM
      refine lv_iload_n hx hb dX8_night_21 rfl (lv_at hl 3 rfl) ?_
      refine lv_iconst (v := 0) hx hb dX8_night_22 (by decide) ?_
      refine lv_iconst (v := 2) hx hb dX8_night_23 (by decide) ?_
      obtain ⟨z24, hcr, hM⟩ := ob_s hM
      refine res_i0 F hP hS rfl [] rfl rfl (runS_of (n := 3) (As := [.int x3, .int (0 : Int32), .int (2 : Int32)]) (rest := []) F hP hS rfl [] rfl rfl (c_X8_within l dC dI cI cC cZ sa x3 (0 : Int32) (2 : Int32) hcr _) gX8_night_X8_within rfl (by decide +kernel) ⟨Nat.le_of_ble_eq_true rfl, Nat.le_of_ble_eq_true rfl⟩ rfl hl.1 rfl (Nat.le_of_ble_eq_true rfl) dX8_night_24 ⟨Nat.zero_le _, Nat.zero_le _⟩) (fun H locs hP hS => ?_)
      refine lv_if_ne (tgt := 33) hx hb dX8_night_27 (by decide) (fun hc => ?_) (fun hc => ?_)
      · have hM := if_nn hc hM
        refine lv_iload_n hx hb dX8_night_33 rfl (lv_at hl 1 rfl) ?_
        refine lv_istore (lv' := [(4, .int x1), (0, .ref (ad 0)), (1, .int x1), (2, .int x2), (3, .int x3)]) hx hb dX8_night_34 hl (by decide) rfl (fun ls hl => ?_)
        refine lv_iconst (v := 0) hx hb dX8_night_36 (by decide) ?_
        refine lv_istore (lv' := [(5, .int (0 : Int32)), (4, .int x1), (0, .ref (ad 0)), (1, .int x1), (2, .int x2), (3, .int x3)]) hx hb dX8_night_37 hl (by decide) rfl (fun ls hl => ?_)
        refine lv_aload_n hx hb dX8_night_39 rfl (lv_at hl 2 rfl) ?_
        refine g_get (ci := 8) (C := RX8) (T := TX8) (N := 8) (v := .ref (ad 20)) F hP 0 rfl rfl inX8_night_X8 4 (by decide) (List.mem_of_getElem? (i := 1) rfl) rfl dX8_night_40 ?_
        refine lv_aload_n hx hb dX8_night_43 rfl (lv_at hl 2 rfl) ?_
        refine g_get (ci := 8) (C := RX8) (T := TX8) (N := 8) (v := .ref (ad 3)) F hP 0 rfl rfl inX8_night_X8 1 (by decide) (List.mem_of_getElem? (i := 2) rfl) rfl dX8_night_44 ?_
        obtain ⟨z47, hcr, hM⟩ := ob_s hM
        refine res_v (ws' := (wX cI cC ad p h v k1 h1 v1 k2 h2 v2 z47 d y q)) F hP hS rfl [20, 21, 22, 23, 3, 4, 5, 6, 7] rfl rfl rfl (runV_of (n := 1) (As := [.ref (ad 3)]) (rest := []) F hP hS rfl [20, 21, 22, 23, 3, 4, 5, 6, 7] rfl rfl (c_X6_begin l dC dI cI cC cZ sa (ad 20) (ad 21) (ad 22) (ad 23) (ad 3) (ad 4) (ad 5) (ad 6) (ad 7) r h v hcr _) gX8_night_X6_begin rfl (by decide +kernel) ⟨Nat.le_of_ble_eq_true rfl, Nat.le_of_ble_eq_true rfl⟩ 20 6 rfl rfl rfl hl.1 rfl (Nat.le_of_ble_eq_true rfl) dX8_night_47 ⟨Nat.zero_le _, Nat.zero_le _⟩) rfl (fun H locs hP hS => ?_)
        refine lv_iconst (v := 0) hx hb dX8_night_50 (by decide) ?_
        refine lv_istore (lv' := [(6, .int (0 : Int32)), (5, .int (0 : Int32)), (4, .int x1), (0, .ref (ad 0)), (1, .int x1), (2, .int x2), (3, .int x3)]) hx hb dX8_night_51 hl (by decide) rfl (fun ls hl => ?_)
        exact j53 200 (z47, x1, (0 : Int32), (0 : Int32)) _ _ _ hP hS (lv_sub hl [3, 5, 6, 2, 1, 0] rfl) hM
      · have hM := if_pp hc hM
        refine lv_bipush (v := -2) hx hb dX8_night_30 (by decide) ?_
        exact ret_i hx hb hr hlk dX8_night_32 hM hP hS
theorem inX8_place_X0 : ∀ w ∈ wsX00, w ∈ wsX8_place := fun w h => List.mem_cons_of_mem _ (List.mem_append_right _ h)
theorem inX8_place_X8 : ∀ w ∈ wsX80, w ∈ wsX8_place := fun w h => List.mem_cons_of_mem _ (List.mem_append_left _ (List.mem_append_right _ h))
set_option maxHeartbeats 4000000 in
set_option maxRecDepth 100000 in
theorem c_X8_place (l : Launch) (dC : Nat → ClassId) (dI : Nat → Nat → Nat) (cI cC cZ : ClassId) (sa : Nat → Nat) (ad : Nat → Nat) (p : PT) (h : HT) (v : VT) (k1 : Int32) (h1 : HT) (v1 : VT) (k2 : Int32) (h2 : HT) (v2 : VT) (r : RT) (d : DT) (y : YT) (q : QT) (x1 : Int32) (x2 : Int32) {res : Int32 × HT} (hM : M_X8_place h x1 x2 = some res) : CTi l (dC, dI) [(cI, .int), (cC, .char), (cZ, .boolean)] sa yX8_place wsX8_place (rmd 3) [.ref (ad 0), .int x1, .int x2] (wX cI cC ad p h v k1 h1 v1 k2 h2 v2 r d y q) (fun (uu : HT) => (wX cI cC ad p uu v k1 h1 v1 k2 h2 v2 r d y q)) res := by
  refine CTi.enter (own := RX8) (cc := cX8_place) (maxL := 3) (ret := (some .int)) (by decide) rfl rfl (Nat.le_of_ble_eq_true rfl) ?_
  intro pr e s m below meth c A F hr hlk hP hS ls hl
  obtain ⟨⟨hx, hb, hml, hown, hts⟩, hK, hDD, hA, hKC⟩ := id F
  have hl : lv_has ls 3 [(0, .ref (ad 0)), (1, .int x1), (2, .int x2)] := hl
  have hP : va_P (dC, dI) vwCl (wX cI cC ad p h v k1 h1 v1 k2 h2 v2 r d y q) s.heap := hP
  unfold M_X8_place at hM
  refine lv_aload_n hx hb dX8_place_0 rfl (lv_at hl 0 rfl) ?_
  refine g_get (ci := 8) (C := RX8) (T := TX8) (N := 8) (v := .ref (ad 3)) F hP 0 rfl rfl inX8_place_X8 1 (by decide) (List.mem_of_getElem? (i := 1) rfl) rfl dX8_place_1 ?_
  refine lv_iload_n hx hb dX8_place_4 rfl (lv_at hl 2 rfl) ?_
  obtain ⟨z5, hcr, hM⟩ := ob_s hM
  refine res_i0 F hP hS rfl [3, 4, 5, 6, 7] rfl rfl (runV_of (n := 1) (As := [.int x2]) (rest := []) F hP hS rfl [3, 4, 5, 6, 7] rfl rfl (c_X0_isCell l dC dI cI cC cZ sa (ad 3) (ad 4) (ad 5) (ad 6) (ad 7) h v x2 hcr _) gX8_place_X0_isCell rfl (by decide +kernel) ⟨Nat.le_of_ble_eq_true rfl, Nat.le_of_ble_eq_true rfl⟩ 3 0 rfl rfl rfl hl.1 rfl (Nat.le_of_ble_eq_true rfl) dX8_place_5 ⟨Nat.zero_le _, Nat.zero_le _⟩) (fun H locs hP hS => ?_)
  refine lv_if_ne (tgt := 13) hx hb dX8_place_8 (by decide) (fun hc => ?_) (fun hc => ?_)
  · have hM := if_nn hc hM
    refine lv_iload_n hx hb dX8_place_13 rfl (lv_at hl 1 rfl) ?_
    refine lv_iconst (v := 0) hx hb dX8_place_14 (by decide) ?_
    refine lv_iconst (v := 1) hx hb dX8_place_15 (by decide) ?_
    obtain ⟨z16, hcr, hM⟩ := ob_s hM
    refine res_i0 F hP hS rfl [] rfl rfl (runS_of (n := 3) (As := [.int x1, .int (0 : Int32), .int (1 : Int32)]) (rest := []) F hP hS rfl [] rfl rfl (c_X8_within l dC dI cI cC cZ sa x1 (0 : Int32) (1 : Int32) hcr _) gX8_place_X8_within rfl (by decide +kernel) ⟨Nat.le_of_ble_eq_true rfl, Nat.le_of_ble_eq_true rfl⟩ rfl hl.1 rfl (Nat.le_of_ble_eq_true rfl) dX8_place_16 ⟨Nat.zero_le _, Nat.zero_le _⟩) (fun H locs hP hS => ?_)
    refine lv_if_ne (tgt := 25) hx hb dX8_place_19 (by decide) (fun hc => ?_) (fun hc => ?_)
    · have hM := if_nn hc hM
      refine lv_aload_n hx hb dX8_place_25 rfl (lv_at hl 0 rfl) ?_
      refine g_get (ci := 8) (C := RX8) (T := TX8) (N := 8) (v := .ref (ad 3)) F hP 0 rfl rfl inX8_place_X8 1 (by decide) (List.mem_of_getElem? (i := 1) rfl) rfl dX8_place_26 ?_
      refine g_get (ci := 0) (C := RX0) (T := TX0) (N := 13) (v := .int h.2.2.2.2.2.1) F hP 3 rfl rfl inX8_place_X0 5 (by decide) (List.mem_of_getElem? (i := 2) rfl) rfl dX8_place_29 ?_
      refine lv_iload_n hx hb dX8_place_32 rfl (lv_at hl 2 rfl) ?_
      obtain ⟨z33, hcr, hM⟩ := ob_s hM
      refine res_i0 F hP hS rfl [] rfl rfl (runS_of (n := 2) (As := [.int h.2.2.2.2.2.1, .int x2]) (rest := []) F hP hS rfl [] rfl rfl (c_X8_has l dC dI cI cC cZ sa h.2.2.2.2.2.1 x2 hcr _) gX8_place_X8_has rfl (by decide +kernel) ⟨Nat.le_of_ble_eq_true rfl, Nat.le_of_ble_eq_true rfl⟩ rfl hl.1 rfl (Nat.le_of_ble_eq_true rfl) dX8_place_33 ⟨Nat.zero_le _, Nat.zero_le _⟩) (fun H locs hP hS => ?_)
      refine lv_if_eq (tgt := 42) hx hb dX8_place_36 (by decide) (fun hc => ?_) (fun hc => ?_)
      · have hM := if_pp hc hM
        refine lv_iload_n hx hb dX8_place_42 rfl (lv_at hl 1 rfl) ?_
        refine lv_if_ne (tgt := 57) hx hb dX8_place_43 (by decide) (fun hc => ?_) (fun hc => ?_)
        · have hM := if_nn hc hM
          refine lv_aload_n hx hb dX8_place_57 rfl (lv_at hl 0 rfl) ?_
          refine g_get (ci := 8) (C := RX8) (T := TX8) (N := 8) (v := .ref (ad 3)) F hP 0 rfl rfl inX8_place_X8 1 (by decide) (List.mem_of_getElem? (i := 1) rfl) rfl dX8_place_58 ?_
          refine lv_iload_n hx hb dX8_place_61 rfl (lv_at hl 2 rfl) ?_
          obtain ⟨z62, hcr, hM⟩ := ob_s hM
          refine res_i (ws' := (wX cI cC ad p z62.2 v k1 h1 v1 k2 h2 v2 r d y q)) F hP hS rfl [3, 4, 5, 6, 7] rfl rfl rfl (runV_of (n := 1) (As := [.int x2]) (rest := []) F hP hS rfl [3, 4, 5, 6, 7] rfl rfl (c_X0_moveThing l dC dI cI cC cZ sa (ad 3) (ad 4) (ad 5) (ad 6) (ad 7) h v x2 hcr _) gX8_place_X0_moveThing rfl (by decide +kernel) ⟨Nat.le_of_ble_eq_true rfl, Nat.le_of_ble_eq_true rfl⟩ 3 0 rfl rfl rfl hl.1 rfl (Nat.le_of_ble_eq_true rfl) dX8_place_62 ⟨Nat.zero_le _, Nat.zero_le _⟩) rfl (fun H locs hP hS => ?_)
          exact ret_i hx hb hr hlk dX8_place_65 hM hP hS
        · have hM := if_pp hc hM
          refine lv_aload_n hx hb dX8_place_46 rfl (lv_at hl 0 rfl) ?_
          refine g_get (ci := 8) (C := RX8) (T := TX8) (N := 8) (v := .ref (ad 3)) F hP 0 rfl rfl inX8_place_X8 1 (by decide) (List.mem_of_getElem? (i := 1) rfl) rfl dX8_place_47 ?_
          refine lv_iload_n hx hb dX8_place_50 rfl (lv_at hl 2 rfl) ?_
          obtain ⟨z51, hcr, hM⟩ := ob_s hM
          refine res_i (ws' := (wX cI cC ad p z51.2 v k1 h1 v1 k2 h2 v2 r d y q)) F hP hS rfl [3, 4, 5, 6, 7] rfl rfl rfl (runV_of (n := 1) (As := [.int x2]) (rest := []) F hP hS rfl [3, 4, 5, 6, 7] rfl rfl (c_X0_moveDoor l dC dI cI cC cZ sa (ad 3) (ad 4) (ad 5) (ad 6) (ad 7) h v x2 hcr _) gX8_place_X0_moveDoor rfl (by decide +kernel) ⟨Nat.le_of_ble_eq_true rfl, Nat.le_of_ble_eq_true rfl⟩ 3 0 rfl rfl rfl hl.1 rfl (Nat.le_of_ble_eq_true rfl) dX8_place_51 ⟨Nat.zero_le _, Nat.zero_le _⟩) rfl (fun H locs hP hS => ?_)
          refine lv_goto (tgt := 65) hx hb dX8_place_54 (by decide) ?_
          exact ret_i hx hb hr hlk dX8_place_65 hM hP hS
      · have hM := if_nn hc hM
        refine lv_bipush (v := -3) hx hb dX8_place_39 (by decide) ?_
        exact ret_i hx hb hr hlk dX8_place_41 hM hP hS
    · have hM := if_pp hc hM
      refine lv_bipush (v := -2) hx hb dX8_place_22 (by decide) ?_
      exact ret_i hx hb hr hlk dX8_place_24 hM hP hS
  · have hM := if_pp hc hM
    refine lv_iconst (v := -1) hx hb dX8_place_11 (by decide) ?_
    exact ret_i hx hb hr hlk dX8_place_12 hM hP hS
theorem inX8_post_X0 : ∀ w ∈ wsX00, w ∈ wsX8_post := fun w h => List.mem_cons_of_mem _ (List.mem_append_left _ (List.mem_append_right _ h))
theorem inX8_post_X8 : ∀ w ∈ wsX80, w ∈ wsX8_post := fun w h => List.mem_cons_of_mem _ (List.mem_append_left _ (List.mem_append_left _ (List.mem_append_right _ h)))
set_option maxHeartbeats 4000000 in
set_option maxRecDepth 100000 in
theorem c_X8_post (l : Launch) (dC : Nat → ClassId) (dI : Nat → Nat → Nat) (cI cC cZ : ClassId) (sa : Nat → Nat) (ad : Nat → Nat) (p : PT) (h : HT) (v : VT) (k1 : Int32) (h1 : HT) (v1 : VT) (k2 : Int32) (h2 : HT) (v2 : VT) (r : RT) (d : DT) (y : YT) (q : QT) (x1 : Int32) {res : Int32} (hM : M_X8_post h v x1 = some res) : CTi l (dC, dI) [(cI, .int), (cC, .char), (cZ, .boolean)] sa yX8_post wsX8_post (rmd 7) [.ref (ad 0), .int x1] (wX cI cC ad p h v k1 h1 v1 k2 h2 v2 r d y q) (fun (_ : Unit) => (wX cI cC ad p h v k1 h1 v1 k2 h2 v2 r d y q)) (res, ()) := by
  refine CTi.enter (own := RX8) (cc := cX8_post) (maxL := 4) (ret := (some .int)) (by decide) rfl rfl (Nat.le_of_ble_eq_true rfl) ?_
  intro pr e s m below meth c A F hr hlk hP hS ls hl
  obtain ⟨⟨hx, hb, hml, hown, hts⟩, hK, hDD, hA, hKC⟩ := id F
  have hl : lv_has ls 4 [(0, .ref (ad 0)), (1, .int x1)] := hl
  have hP : va_P (dC, dI) vwCl (wX cI cC ad p h v k1 h1 v1 k2 h2 v2 r d y q) s.heap := hP
  unfold M_X8_post at hM
  refine lv_iload_n hx hb dX8_post_0 rfl (lv_at hl 1 rfl) ?_
  refine lv_iconst (v := 0) hx hb dX8_post_1 (by decide) ?_
  refine lv_iconst (v := 1) hx hb dX8_post_2 (by decide) ?_
  obtain ⟨z3, hcr, hM⟩ := ob_s hM
  refine res_i0 F hP hS rfl [] rfl rfl (runS_of (n := 3) (As := [.int x1, .int (0 : Int32), .int (1 : Int32)]) (rest := []) F hP hS rfl [] rfl rfl (c_X8_within l dC dI cI cC cZ sa x1 (0 : Int32) (1 : Int32) hcr _) gX8_post_X8_within rfl (by decide +kernel) ⟨Nat.le_of_ble_eq_true rfl, Nat.le_of_ble_eq_true rfl⟩ rfl hl.1 rfl (Nat.le_of_ble_eq_true rfl) dX8_post_3 ⟨Nat.zero_le _, Nat.zero_le _⟩) (fun H locs hP hS => ?_)
  refine lv_if_ne (tgt := 12) hx hb dX8_post_6 (by decide) (fun hc => ?_) (fun hc => ?_)
  · have hM := if_nn hc hM
    refine lv_aload_n hx hb dX8_post_12 rfl (lv_at hl 0 rfl) ?_
    refine g_get (ci := 8) (C := RX8) (T := TX8) (N := 8) (v := .ref (ad 3)) F hP 0 rfl rfl inX8_post_X8 1 (by decide) (List.mem_of_getElem? (i := 1) rfl) rfl dX8_post_13 ?_
    refine g_get (ci := 0) (C := RX0) (T := TX0) (N := 13) (v := .ref (ad 4)) F hP 3 rfl rfl inX8_post_X0 12 (by decide) (List.mem_of_getElem? (i := 2) rfl) rfl dX8_post_16 ?_
    obtain ⟨z19, hcr, hM⟩ := ob_s hM
    refine res_i0 F hP hS rfl [4, 5, 6, 7] rfl rfl (runV_of (n := 0) (As := []) (rest := []) F hP hS rfl [4, 5, 6, 7] rfl rfl (c_X4_isFull l dC dI cI cC cZ sa (ad 4) (ad 5) (ad 6) (ad 7) v hcr _) gX8_post_X4_isFull rfl (by decide +kernel) ⟨Nat.le_of_ble_eq_true rfl, Nat.le_of_ble_eq_true rfl⟩ 4 4 rfl rfl rfl hl.1 rfl (Nat.le_of_ble_eq_true rfl) dX8_post_19 ⟨Nat.zero_le _, Nat.zero_le _⟩) (fun H locs hP hS => ?_)
    refine lv_if_eq (tgt := 28) hx hb dX8_post_22 (by decide) (fun hc => ?_) (fun hc => ?_)
    · have hM := if_pp hc hM
      refine lv_aload_n hx hb dX8_post_28 rfl (lv_at hl 0 rfl) ?_
      refine g_get (ci := 8) (C := RX8) (T := TX8) (N := 8) (v := .ref (ad 3)) F hP 0 rfl rfl inX8_post_X8 1 (by decide) (List.mem_of_getElem? (i := 1) rfl) rfl dX8_post_29 ?_
      obtain ⟨z32, hcr, hM⟩ := ob_s hM
      refine res_i0 F hP hS rfl [3, 4, 5, 6, 7] rfl rfl (runV_of (n := 0) (As := []) (rest := []) F hP hS rfl [3, 4, 5, 6, 7] rfl rfl (c_X0_bareCells l dC dI cI cC cZ sa (ad 3) (ad 4) (ad 5) (ad 6) (ad 7) h v hcr _) gX8_post_X0_bareCells rfl (by decide +kernel) ⟨Nat.le_of_ble_eq_true rfl, Nat.le_of_ble_eq_true rfl⟩ 3 0 rfl rfl rfl hl.1 rfl (Nat.le_of_ble_eq_true rfl) dX8_post_32 ⟨Nat.zero_le _, Nat.zero_le _⟩) (fun H locs hP hS => ?_)
      refine lv_istore_n (lv' := [(2, .int z32), (0, .ref (ad 0)), (1, .int x1)]) hx hb dX8_post_35 rfl hl (by decide) rfl (fun ls hl => ?_)
      refine lv_aload_n hx hb dX8_post_36 rfl (lv_at hl 1 rfl) ?_
      refine lv_iload_n hx hb dX8_post_37 rfl (lv_at hl 0 rfl) ?_
      obtain ⟨z38, hcr, hM⟩ := ob_s hM
      refine res_i0 F hP hS rfl [0, 1, 2, 3, 4, 5, 6, 7, 8, 9, 10, 11, 12, 13, 14, 15, 16, 17, 18, 19, 20, 21, 22, 23, 24, 25, 26, 27, 28, 29, 30] rfl rfl (runV_of (n := 1) (As := [.int z32]) (rest := []) F hP hS rfl [0, 1, 2, 3, 4, 5, 6, 7, 8, 9, 10, 11, 12, 13, 14, 15, 16, 17, 18, 19, 20, 21, 22, 23, 24, 25, 26, 27, 28, 29, 30] rfl rfl (c_X8_bestPost l dC dI cI cC cZ sa ad p h v k1 h1 v1 k2 h2 v2 r d y q z32 hcr _) gX8_post_X8_bestPost rfl (by decide +kernel) ⟨Nat.le_of_ble_eq_true rfl, Nat.le_of_ble_eq_true rfl⟩ 0 8 rfl rfl rfl hl.1 rfl (Nat.le_of_ble_eq_true rfl) dX8_post_38 ⟨Nat.zero_le _, Nat.zero_le _⟩) (fun H locs hP hS => ?_)
      refine lv_istore_n (lv' := [(3, .int z38), (2, .int z32), (0, .ref (ad 0)), (1, .int x1)]) hx hb dX8_post_41 rfl hl (by decide) rfl (fun ls hl => ?_)
      refine lv_iload_n hx hb dX8_post_42 rfl (lv_at hl 3 rfl) ?_
      refine lv_if_ne (tgt := 50) hx hb dX8_post_43 (by decide) (fun hc => ?_) (fun hc => ?_)
      · have hM := if_nn hc hM
        refine lv_aload_n hx hb dX8_post_50 rfl (lv_at hl 2 rfl) ?_
        refine lv_iload_n hx hb dX8_post_51 rfl (lv_at hl 1 rfl) ?_
        refine lv_iload_n hx hb dX8_post_52 rfl (lv_at hl 0 rfl) ?_
        obtain ⟨z53, hcr, hM⟩ := ob_s hM
        refine res_i0 F hP hS rfl [0, 1, 2, 3, 4, 5, 6, 7, 8, 9, 10, 11, 12, 13, 14, 15, 16, 17, 18, 19, 20, 21, 22, 23, 24, 25, 26, 27, 28, 29, 30] rfl rfl (runV_of (n := 2) (As := [.int z32, .int z38]) (rest := []) F hP hS rfl [0, 1, 2, 3, 4, 5, 6, 7, 8, 9, 10, 11, 12, 13, 14, 15, 16, 17, 18, 19, 20, 21, 22, 23, 24, 25, 26, 27, 28, 29, 30] rfl rfl (c_X8_bareWith l dC dI cI cC cZ sa ad p h v k1 h1 v1 k2 h2 v2 r d y q z32 z38 hcr _) gX8_post_X8_bareWith rfl (by decide +kernel) ⟨Nat.le_of_ble_eq_true rfl, Nat.le_of_ble_eq_true rfl⟩ 0 8 rfl rfl rfl hl.1 rfl (Nat.le_of_ble_eq_true rfl) dX8_post_53 ⟨Nat.zero_le _, Nat.zero_le _⟩) (fun H locs hP hS => ?_)
        exact ret_i hx hb hr hlk dX8_post_56 (some_u hM) hP hS
      · have hM := if_pp hc hM
        refine lv_iload_n hx hb dX8_post_46 rfl (lv_at hl 0 rfl) ?_
        refine lv_goto (tgt := 56) hx hb dX8_post_47 (by decide) ?_
        exact ret_i hx hb hr hlk dX8_post_56 (some_u hM) hP hS
    · have hM := if_nn hc hM
      refine lv_bipush (v := -4) hx hb dX8_post_25 (by decide) ?_
      exact ret_i hx hb hr hlk dX8_post_27 (some_u hM) hP hS
  · have hM := if_pp hc hM
    refine lv_bipush (v := -2) hx hb dX8_post_9 (by decide) ?_
    exact ret_i hx hb hr hlk dX8_post_11 (some_u hM) hP hS
theorem inX8_restore_X1 : ∀ w ∈ wsX10, w ∈ wsX8_restore := fun w h => List.mem_cons_of_mem _ (List.mem_append_left _ (List.mem_append_left _ (List.mem_append_left _ (List.mem_append_right _ h))))
theorem inX8_restore_X8 : ∀ w ∈ wsX80, w ∈ wsX8_restore := fun w h => List.mem_cons_of_mem _ (List.mem_append_left _ (List.mem_append_left _ (List.mem_append_right _ h)))
set_option maxHeartbeats 4000000 in
set_option maxRecDepth 100000 in
theorem c_X8_restore0 (l : Launch) (dC : Nat → ClassId) (dI : Nat → Nat → Nat) (cI cC cZ : ClassId) (sa : Nat → Nat) (ad : Nat → Nat) (p : PT) (h : HT) (v : VT) (k1 : Int32) (h1 : HT) (v1 : VT) (k2 : Int32) (h2 : HT) (v2 : VT) (r : RT) (d : DT) (y : YT) (q : QT) (x1 : Int32) {res : Int32 × HT × VT} (hv : x1 = 0) (hM : M_X8_restore0 h v k1 h1 v1 k2 h2 v2 x1 = some res) : CTi l (dC, dI) [(cI, .int), (cC, .char), (cZ, .boolean)] sa yX8_restore wsX8_restore (rmd 5) [.ref (ad 0), .int x1] (wX cI cC ad p h v k1 h1 v1 k2 h2 v2 r d y q) (fun (uu : HT × VT) => (wX cI cC ad p uu.1 uu.2 k1 h1 v1 k2 h2 v2 r d y q)) res := by
  refine CTi.enter (own := RX8) (cc := cX8_restore) (maxL := 3) (ret := (some .int)) (by decide) rfl rfl (Nat.le_of_ble_eq_true rfl) ?_
  intro pr e s m below meth c A F hr hlk hP hS ls hl
  obtain ⟨⟨hx, hb, hml, hown, hts⟩, hK, hDD, hA, hKC⟩ := id F
  have hl : lv_has ls 3 [(0, .ref (ad 0)), (1, .int x1)] := hl
  have hP : va_P (dC, dI) vwCl (wX cI cC ad p h v k1 h1 v1 k2 h2 v2 r d y q) s.heap := hP
  unfold M_X8_restore0 at hM
  refine lv_iload_n hx hb dX8_restore_0 rfl (lv_at hl 1 rfl) ?_
  refine lv_iconst (v := 0) hx hb dX8_restore_1 (by decide) ?_
  refine lv_iconst (v := 1) hx hb dX8_restore_2 (by decide) ?_
  obtain ⟨z3, hcr, hM⟩ := ob_s hM
  refine res_i0 F hP hS rfl [] rfl rfl (runS_of (n := 3) (As := [.int x1, .int (0 : Int32), .int (1 : Int32)]) (rest := []) F hP hS rfl [] rfl rfl (c_X8_within l dC dI cI cC cZ sa x1 (0 : Int32) (1 : Int32) hcr _) gX8_restore_X8_within rfl (by decide +kernel) ⟨Nat.le_of_ble_eq_true rfl, Nat.le_of_ble_eq_true rfl⟩ rfl hl.1 rfl (Nat.le_of_ble_eq_true rfl) dX8_restore_3 ⟨Nat.zero_le _, Nat.zero_le _⟩) (fun H locs hP hS => ?_)
  refine lv_if_ne (tgt := 12) hx hb dX8_restore_6 (by decide) (fun hc => ?_) (fun hc => ?_)
  · have hM := if_nn hc hM
    refine lv_aload_n hx hb dX8_restore_12 rfl (lv_at hl 0 rfl) ?_
    refine lv_iload_n hx hb dX8_restore_13 rfl (lv_at hl 1 rfl) ?_
    refine res_r F hP hS rfl [0, 1, 2, 3, 4, 5, 6, 7, 8, 9, 10, 11, 12, 13, 14, 15, 16, 17, 18, 19, 20, 21, 22, 23, 24, 25, 26, 27, 28, 29, 30] rfl rfl (runV_of (n := 1) (As := [.int x1]) (rest := []) F hP hS rfl [0, 1, 2, 3, 4, 5, 6, 7, 8, 9, 10, 11, 12, 13, 14, 15, 16, 17, 18, 19, 20, 21, 22, 23, 24, 25, 26, 27, 28, 29, 30] rfl rfl (c_X8_imageOf0 l dC dI cI cC cZ sa ad p h v k1 h1 v1 k2 h2 v2 r d y q x1 hv _) gX8_restore_X8_imageOf rfl (by decide +kernel) ⟨Nat.le_of_ble_eq_true rfl, Nat.le_of_ble_eq_true rfl⟩ 0 8 rfl rfl rfl hl.1 rfl (Nat.le_of_ble_eq_true rfl) dX8_restore_14 ⟨Nat.zero_le _, Nat.zero_le _⟩) (fun H locs hP hS => ?_)
    refine lv_astore_n (lv' := [(2, .ref (ad 8)), (0, .ref (ad 0)), (1, .int x1)]) hx hb dX8_restore_17 rfl hl (by decide) rfl (fun ls hl => ?_)
    refine lv_aload_n hx hb dX8_restore_18 rfl (lv_at hl 0 rfl) ?_
    refine g_get (ci := 1) (C := RX1) (T := TX1) (N := 2) (v := .int k1) F hP 8 rfl rfl inX8_restore_X1 1 (by decide) (List.mem_of_getElem? (i := 1) rfl) rfl dX8_restore_19 ?_
    refine lv_if_ne (tgt := 28) hx hb dX8_restore_22 (by decide) (fun hc => ?_) (fun hc => ?_)
    · have hM := if_nn hc hM
      refine lv_aload_n hx hb dX8_restore_28 rfl (lv_at hl 1 rfl) ?_
      refine g_get (ci := 8) (C := RX8) (T := TX8) (N := 8) (v := .ref (ad 3)) F hP 0 rfl rfl inX8_restore_X8 1 (by decide) (List.mem_of_getElem? (i := 2) rfl) rfl dX8_restore_29 ?_
      refine lv_aload_n hx hb dX8_restore_32 rfl (lv_at hl 0 rfl) ?_
      refine g_get (ci := 1) (C := RX1) (T := TX1) (N := 2) (v := .ref (ad 9)) F hP 8 rfl rfl inX8_restore_X1 0 (by decide) (List.mem_of_getElem? (i := 3) rfl) rfl dX8_restore_33 ?_
      obtain ⟨z36, hcr, hM⟩ := ob_s hM
      refine res_v (ws' := (wX cI cC ad p z36.1 z36.2 k1 h1 v1 k2 h2 v2 r d y q)) F hP hS rfl [3, 4, 5, 6, 7, 9, 10, 11, 12, 13] rfl rfl rfl (runV_of (n := 1) (As := [.ref (ad 9)]) (rest := []) F hP hS rfl [3, 4, 5, 6, 7, 9, 10, 11, 12, 13] rfl rfl (c_X0_copyFrom l dC dI cI cC cZ sa (ad 3) (ad 4) (ad 5) (ad 6) (ad 7) (ad 9) (ad 10) (ad 11) (ad 12) (ad 13) h v h1 v1 hcr _) gX8_restore_X0_copyFrom rfl (by decide +kernel) ⟨Nat.le_of_ble_eq_true rfl, Nat.le_of_ble_eq_true rfl⟩ 3 0 rfl rfl rfl hl.1 rfl (Nat.le_of_ble_eq_true rfl) dX8_restore_36 ⟨Nat.zero_le _, Nat.zero_le _⟩) rfl (fun H locs hP hS => ?_)
      refine lv_iconst (v := 1) hx hb dX8_restore_39 (by decide) ?_
      exact ret_i hx hb hr hlk dX8_restore_40 hM hP hS
    · have hM := if_pp hc hM
      refine lv_bipush (v := -3) hx hb dX8_restore_25 (by decide) ?_
      exact ret_i hx hb hr hlk dX8_restore_27 hM hP hS
  · have hM := if_pp hc hM
    refine lv_bipush (v := -2) hx hb dX8_restore_9 (by decide) ?_
    exact ret_i hx hb hr hlk dX8_restore_11 hM hP hS
set_option maxHeartbeats 4000000 in
set_option maxRecDepth 100000 in
theorem c_X8_restore1 (l : Launch) (dC : Nat → ClassId) (dI : Nat → Nat → Nat) (cI cC cZ : ClassId) (sa : Nat → Nat) (ad : Nat → Nat) (p : PT) (h : HT) (v : VT) (k1 : Int32) (h1 : HT) (v1 : VT) (k2 : Int32) (h2 : HT) (v2 : VT) (r : RT) (d : DT) (y : YT) (q : QT) (x1 : Int32) {res : Int32 × HT × VT} (hv : ¬ x1 = 0) (hM : M_X8_restore1 h v k1 h1 v1 k2 h2 v2 x1 = some res) : CTi l (dC, dI) [(cI, .int), (cC, .char), (cZ, .boolean)] sa yX8_restore wsX8_restore (rmd 5) [.ref (ad 0), .int x1] (wX cI cC ad p h v k1 h1 v1 k2 h2 v2 r d y q) (fun (uu : HT × VT) => (wX cI cC ad p uu.1 uu.2 k1 h1 v1 k2 h2 v2 r d y q)) res := by
  refine CTi.enter (own := RX8) (cc := cX8_restore) (maxL := 3) (ret := (some .int)) (by decide) rfl rfl (Nat.le_of_ble_eq_true rfl) ?_
  intro pr e s m below meth c A F hr hlk hP hS ls hl
  obtain ⟨⟨hx, hb, hml, hown, hts⟩, hK, hDD, hA, hKC⟩ := id F
  have hl : lv_has ls 3 [(0, .ref (ad 0)), (1, .int x1)] := hl
  have hP : va_P (dC, dI) vwCl (wX cI cC ad p h v k1 h1 v1 k2 h2 v2 r d y q) s.heap := hP
  unfold M_X8_restore1 at hM
  refine lv_iload_n hx hb dX8_restore_0 rfl (lv_at hl 1 rfl) ?_
  refine lv_iconst (v := 0) hx hb dX8_restore_1 (by decide) ?_
  refine lv_iconst (v := 1) hx hb dX8_restore_2 (by decide) ?_
  obtain ⟨z3, hcr, hM⟩ := ob_s hM
  refine res_i0 F hP hS rfl [] rfl rfl (runS_of (n := 3) (As := [.int x1, .int (0 : Int32), .int (1 : Int32)]) (rest := []) F hP hS rfl [] rfl rfl (c_X8_within l dC dI cI cC cZ sa x1 (0 : Int32) (1 : Int32) hcr _) gX8_restore_X8_within rfl (by decide +kernel) ⟨Nat.le_of_ble_eq_true rfl, Nat.le_of_ble_eq_true rfl⟩ rfl hl.1 rfl (Nat.le_of_ble_eq_true rfl) dX8_restore_3 ⟨Nat.zero_le _, Nat.zero_le _⟩) (fun H locs hP hS => ?_)
  refine lv_if_ne (tgt := 12) hx hb dX8_restore_6 (by decide) (fun hc => ?_) (fun hc => ?_)
  · have hM := if_nn hc hM
    refine lv_aload_n hx hb dX8_restore_12 rfl (lv_at hl 0 rfl) ?_
    refine lv_iload_n hx hb dX8_restore_13 rfl (lv_at hl 1 rfl) ?_
    refine res_r F hP hS rfl [0, 1, 2, 3, 4, 5, 6, 7, 8, 9, 10, 11, 12, 13, 14, 15, 16, 17, 18, 19, 20, 21, 22, 23, 24, 25, 26, 27, 28, 29, 30] rfl rfl (runV_of (n := 1) (As := [.int x1]) (rest := []) F hP hS rfl [0, 1, 2, 3, 4, 5, 6, 7, 8, 9, 10, 11, 12, 13, 14, 15, 16, 17, 18, 19, 20, 21, 22, 23, 24, 25, 26, 27, 28, 29, 30] rfl rfl (c_X8_imageOf1 l dC dI cI cC cZ sa ad p h v k1 h1 v1 k2 h2 v2 r d y q x1 hv _) gX8_restore_X8_imageOf rfl (by decide +kernel) ⟨Nat.le_of_ble_eq_true rfl, Nat.le_of_ble_eq_true rfl⟩ 0 8 rfl rfl rfl hl.1 rfl (Nat.le_of_ble_eq_true rfl) dX8_restore_14 ⟨Nat.zero_le _, Nat.zero_le _⟩) (fun H locs hP hS => ?_)
    refine lv_astore_n (lv' := [(2, .ref (ad 14)), (0, .ref (ad 0)), (1, .int x1)]) hx hb dX8_restore_17 rfl hl (by decide) rfl (fun ls hl => ?_)
    refine lv_aload_n hx hb dX8_restore_18 rfl (lv_at hl 0 rfl) ?_
    refine g_get (ci := 1) (C := RX1) (T := TX1) (N := 2) (v := .int k2) F hP 14 rfl rfl inX8_restore_X1 1 (by decide) (List.mem_of_getElem? (i := 1) rfl) rfl dX8_restore_19 ?_
    refine lv_if_ne (tgt := 28) hx hb dX8_restore_22 (by decide) (fun hc => ?_) (fun hc => ?_)
    · have hM := if_nn hc hM
      refine lv_aload_n hx hb dX8_restore_28 rfl (lv_at hl 1 rfl) ?_
      refine g_get (ci := 8) (C := RX8) (T := TX8) (N := 8) (v := .ref (ad 3)) F hP 0 rfl rfl inX8_restore_X8 1 (by decide) (List.mem_of_getElem? (i := 2) rfl) rfl dX8_restore_29 ?_
      refine lv_aload_n hx hb dX8_restore_32 rfl (lv_at hl 0 rfl) ?_
      refine g_get (ci := 1) (C := RX1) (T := TX1) (N := 2) (v := .ref (ad 15)) F hP 14 rfl rfl inX8_restore_X1 0 (by decide) (List.mem_of_getElem? (i := 3) rfl) rfl dX8_restore_33 ?_
      obtain ⟨z36, hcr, hM⟩ := ob_s hM
      refine res_v (ws' := (wX cI cC ad p z36.1 z36.2 k1 h1 v1 k2 h2 v2 r d y q)) F hP hS rfl [3, 4, 5, 6, 7, 15, 16, 17, 18, 19] rfl rfl rfl (runV_of (n := 1) (As := [.ref (ad 15)]) (rest := []) F hP hS rfl [3, 4, 5, 6, 7, 15, 16, 17, 18, 19] rfl rfl (c_X0_copyFrom l dC dI cI cC cZ sa (ad 3) (ad 4) (ad 5) (ad 6) (ad 7) (ad 15) (ad 16) (ad 17) (ad 18) (ad 19) h v h2 v2 hcr _) gX8_restore_X0_copyFrom rfl (by decide +kernel) ⟨Nat.le_of_ble_eq_true rfl, Nat.le_of_ble_eq_true rfl⟩ 3 0 rfl rfl rfl hl.1 rfl (Nat.le_of_ble_eq_true rfl) dX8_restore_36 ⟨Nat.zero_le _, Nat.zero_le _⟩) rfl (fun H locs hP hS => ?_)
      refine lv_iconst (v := 1) hx hb dX8_restore_39 (by decide) ?_
      exact ret_i hx hb hr hlk dX8_restore_40 hM hP hS
    · have hM := if_pp hc hM
      refine lv_bipush (v := -3) hx hb dX8_restore_25 (by decide) ?_
      exact ret_i hx hb hr hlk dX8_restore_27 hM hP hS
  · have hM := if_pp hc hM
    refine lv_bipush (v := -2) hx hb dX8_restore_9 (by decide) ?_
    exact ret_i hx hb hr hlk dX8_restore_11 hM hP hS
theorem inX8_safe_X0 : ∀ w ∈ wsX00, w ∈ wsX8_safe := fun w h => List.mem_cons_of_mem _ (List.mem_append_left _ (List.mem_append_left _ (List.mem_append_right _ h)))
theorem inX8_safe_X8 : ∀ w ∈ wsX80, w ∈ wsX8_safe := fun w h => List.mem_cons_of_mem _ (List.mem_append_left _ (List.mem_append_left _ (List.mem_append_left _ (List.mem_append_right _ h))))
set_option maxHeartbeats 4000000 in
set_option maxRecDepth 100000 in
theorem c_X8_safe (l : Launch) (dC : Nat → ClassId) (dI : Nat → Nat → Nat) (cI cC cZ : ClassId) (sa : Nat → Nat) (ad : Nat → Nat) (p : PT) (h : HT) (v : VT) (k1 : Int32) (h1 : HT) (v1 : VT) (k2 : Int32) (h2 : HT) (v2 : VT) (r : RT) (d : DT) (y : YT) (q : QT) (x1 : Int32) {res : Int32 × YT} (hM : M_X8_safe h v y x1 = some res) : CTi l (dC, dI) [(cI, .int), (cC, .char), (cZ, .boolean)] sa yX8_safe wsX8_safe (rmd 6) [.ref (ad 0), .int x1] (wX cI cC ad p h v k1 h1 v1 k2 h2 v2 r d y q) (fun (uu : YT) => (wX cI cC ad p h v k1 h1 v1 k2 h2 v2 r d uu q)) res := by
  refine CTi.enter (own := RX8) (cc := cX8_safe) (maxL := 7) (ret := (some .int)) (by decide) rfl rfl (Nat.le_of_ble_eq_true rfl) ?_
  intro pr e s m below meth c A F hr hlk hP hS ls hl
  obtain ⟨⟨hx, hb, hml, hown, hts⟩, hK, hDD, hA, hKC⟩ := id F
  have hl : lv_has ls 7 [(0, .ref (ad 0)), (1, .int x1)] := hl
  have hP : va_P (dC, dI) vwCl (wX cI cC ad p h v k1 h1 v1 k2 h2 v2 r d y q) s.heap := hP
  unfold M_X8_safe at hM
  refine kblk (α := YT × Int32) (res := res) (fun a => M_X8_safe_129 h v x1 a) F (fun a => (wX cI cC ad p h v k1 h1 v1 k2 h2 v2 r d a.1 q)) (fun a => [(0, .ref (ad 0))]) (fun a => [.int a.2]) 129 ?_ (fun j129 => ?_)
  · intro a129 H locs ls hP hS hl hM
    unfold M_X8_safe_129 at hM
    refine lv_istore (lv' := [(6, .int a129.2), (0, .ref (ad 0))]) hx hb dX8_safe_129 hl (by decide) rfl (fun ls hl => ?_)
    refine lv_iload hx hb dX8_safe_131 (lv_at hl 0 rfl) ?_
    obtain ⟨z133, hcr, hM⟩ := ob_s hM
    refine res_i0 F hP hS rfl [] rfl rfl (runS_of (n := 1) (As := [.int a129.2]) (rest := []) F hP hS rfl [] rfl rfl (c_X8_signOfStep l dC dI cI cC cZ sa a129.2 hcr _) gX8_safe_X8_signOfStep rfl (by decide +kernel) ⟨Nat.le_of_ble_eq_true rfl, Nat.le_of_ble_eq_true rfl⟩ rfl hl.1 rfl (Nat.le_of_ble_eq_true rfl) dX8_safe_133 ⟨Nat.zero_le _, Nat.zero_le _⟩) (fun H locs hP hS => ?_)
    exact ret_i hx hb hr hlk dX8_safe_136 hM hP hS
  refine lv_aload_n hx hb dX8_safe_0 rfl (lv_at hl 0 rfl) ?_
  refine g_get (ci := 8) (C := RX8) (T := TX8) (N := 8) (v := .ref (ad 3)) F hP 0 rfl rfl inX8_safe_X8 1 (by decide) (List.mem_of_getElem? (i := 1) rfl) rfl dX8_safe_1 ?_
  refine g_get (ci := 0) (C := RX0) (T := TX0) (N := 13) (v := .int h.2.2.2.2.2.2.2.2.2.1) F hP 3 rfl rfl inX8_safe_X0 9 (by decide) (List.mem_of_getElem? (i := 2) rfl) rfl dX8_safe_4 ?_
  obtain ⟨z7, hcr, hM⟩ := ob_s hM
  refine res_i0 F hP hS rfl [] rfl rfl (runS_of (n := 1) (As := [.int h.2.2.2.2.2.2.2.2.2.1]) (rest := []) F hP hS rfl [] rfl rfl (c_X8_bit l dC dI cI cC cZ sa h.2.2.2.2.2.2.2.2.2.1 hcr _) gX8_safe_X8_bit rfl (by decide +kernel) ⟨Nat.le_of_ble_eq_true rfl, Nat.le_of_ble_eq_true rfl⟩ rfl hl.1 rfl (Nat.le_of_ble_eq_true rfl) dX8_safe_7 ⟨Nat.zero_le _, Nat.zero_le _⟩) (fun H locs hP hS => ?_)
  refine lv_istore_n (lv' := [(2, .int z7), (0, .ref (ad 0)), (1, .int x1)]) hx hb dX8_safe_10 rfl hl (by decide) rfl (fun ls hl => ?_)
  refine lv_aload_n hx hb dX8_safe_11 rfl (lv_at hl 1 rfl) ?_
  refine g_get (ci := 8) (C := RX8) (T := TX8) (N := 8) (v := .ref (ad 3)) F hP 0 rfl rfl inX8_safe_X8 1 (by decide) (List.mem_of_getElem? (i := 1) rfl) rfl dX8_safe_12 ?_
  refine g_get (ci := 0) (C := RX0) (T := TX0) (N := 13) (v := .int h.2.2.2.2.2.2.2.2.2.2.1) F hP 3 rfl rfl inX8_safe_X0 10 (by decide) (List.mem_of_getElem? (i := 3) rfl) rfl dX8_safe_15 ?_
  obtain ⟨z18, hcr, hM⟩ := ob_s hM
  refine res_i0 F hP hS rfl [] rfl rfl (runS_of (n := 1) (As := [.int h.2.2.2.2.2.2.2.2.2.2.1]) (rest := []) F hP hS rfl [] rfl rfl (c_X8_bit l dC dI cI cC cZ sa h.2.2.2.2.2.2.2.2.2.2.1 hcr _) gX8_safe_X8_bit rfl (by decide +kernel) ⟨Nat.le_of_ble_eq_true rfl, Nat.le_of_ble_eq_true rfl⟩ rfl hl.1 rfl (Nat.le_of_ble_eq_true rfl) dX8_safe_18 ⟨Nat.zero_le _, Nat.zero_le _⟩) (fun H locs hP hS => ?_)
  refine lv_istore_n (lv' := [(3, .int z18), (2, .int z7), (0, .ref (ad 0)), (1, .int x1)]) hx hb dX8_safe_21 rfl hl (by decide) rfl (fun ls hl => ?_)
  refine lv_aload_n hx hb dX8_safe_22 rfl (lv_at hl 2 rfl) ?_
  refine g_get (ci := 8) (C := RX8) (T := TX8) (N := 8) (v := .ref (ad 3)) F hP 0 rfl rfl inX8_safe_X8 1 (by decide) (List.mem_of_getElem? (i := 1) rfl) rfl dX8_safe_23 ?_
  obtain ⟨z26, hcr, hM⟩ := ob_s hM
  refine res_i0 F hP hS rfl [3, 4, 5, 6, 7] rfl rfl (runV_of (n := 0) (As := []) (rest := []) F hP hS rfl [3, 4, 5, 6, 7] rfl rfl (c_X0_bareCells l dC dI cI cC cZ sa (ad 3) (ad 4) (ad 5) (ad 6) (ad 7) h v hcr _) gX8_safe_X0_bareCells rfl (by decide +kernel) ⟨Nat.le_of_ble_eq_true rfl, Nat.le_of_ble_eq_true rfl⟩ 3 0 rfl rfl rfl hl.1 rfl (Nat.le_of_ble_eq_true rfl) dX8_safe_26 ⟨Nat.zero_le _, Nat.zero_le _⟩) (fun H locs hP hS => ?_)
  refine lv_iload_n hx hb dX8_safe_29 rfl (lv_at hl 1 rfl) ?_
  refine lv_ior hx hb dX8_safe_30 ?_
  refine lv_istore (lv' := [(4, .int (z26 ||| z7)), (3, .int z18), (2, .int z7), (0, .ref (ad 0)), (1, .int x1)]) hx hb dX8_safe_31 hl (by decide) rfl (fun ls hl => ?_)
  refine lv_aload_n hx hb dX8_safe_33 rfl (lv_at hl 3 rfl) ?_
  refine g_get (ci := 8) (C := RX8) (T := TX8) (N := 8) (v := .ref (ad 25)) F hP 0 rfl rfl inX8_safe_X8 6 (by decide) (List.mem_of_getElem? (i := 4) rfl) rfl dX8_safe_34 ?_
  refine lv_aload_n hx hb dX8_safe_37 rfl (lv_at hl 3 rfl) ?_
  refine g_get (ci := 8) (C := RX8) (T := TX8) (N := 8) (v := .ref (ad 3)) F hP 0 rfl rfl inX8_safe_X8 1 (by decide) (List.mem_of_getElem? (i := 1) rfl) rfl dX8_safe_38 ?_
  refine lv_iload_n hx hb dX8_safe_41 rfl (lv_at hl 2 rfl) ?_
  refine lv_iload_n hx hb dX8_safe_42 rfl (lv_at hl 1 rfl) ?_
  refine lv_iload hx hb dX8_safe_43 (lv_at hl 0 rfl) ?_
  obtain ⟨z45, hcr, hM⟩ := ob_s hM
  refine res_i (ws' := (wX cI cC ad p h v k1 h1 v1 k2 h2 v2 r d z45.2 q)) F hP hS rfl [25, 26, 27, 3, 4, 5, 6, 7] rfl rfl rfl (runV_of (n := 4) (As := [.ref (ad 3), .int z7, .int z18, .int (z26 ||| z7)]) (rest := []) F hP hS rfl [25, 26, 27, 3, 4, 5, 6, 7] rfl rfl (c_X5_measure l dC dI cI cC cZ sa (ad 25) (ad 26) (ad 27) (ad 3) (ad 4) (ad 5) (ad 6) (ad 7) y h v z7 z18 (z26 ||| z7) hcr _) gX8_safe_X5_measure rfl (by decide +kernel) ⟨Nat.le_of_ble_eq_true rfl, Nat.le_of_ble_eq_true rfl⟩ 25 5 rfl rfl rfl hl.1 rfl (Nat.le_of_ble_eq_true rfl) dX8_safe_45 ⟨Nat.zero_le _, Nat.zero_le _⟩) rfl (fun H locs hP hS => ?_)
  refine lv_istore (lv' := [(5, .int z45.1), (4, .int (z26 ||| z7)), (3, .int z18), (2, .int z7), (0, .ref (ad 0)), (1, .int x1)]) hx hb dX8_safe_48 hl (by decide) rfl (fun ls hl => ?_)
  refine lv_iload hx hb dX8_safe_50 (lv_at hl 0 rfl) ?_
  refine lv_bipush (v := -6) hx hb dX8_safe_52 (by decide) ?_
  refine lv_icmp_ne (tgt := 60) hx hb dX8_safe_54 (by decide) (fun hc => ?_) (fun hc => ?_)
  · have hM := if_nn hc hM
    refine lv_iload_n hx hb dX8_safe_60 rfl (lv_at hl 5 rfl) ?_
    refine lv_iconst (v := -1) hx hb dX8_safe_61 (by decide) ?_
    refine lv_icmp_ne (tgt := 70) hx hb dX8_safe_62 (by decide) (fun hc => ?_) (fun hc => ?_)
    · have hM := if_nn hc hM
      refine lv_iload_n hx hb dX8_safe_70 rfl (lv_at hl 5 rfl) ?_
      refine lv_if_lt (tgt := 82) hx hb dX8_safe_71 (by decide) (fun hc => ?_) (fun hc => ?_)
      · have hM := if_pp hc hM
        refine lv_bipush (v := -6) hx hb dX8_safe_82 (by decide) ?_
        exact ret_i hx hb hr hlk dX8_safe_84 hM hP hS
      · have hM := if_nn hc hM
        refine lv_iload_n hx hb dX8_safe_74 rfl (lv_at hl 5 rfl) ?_
        refine lv_iconst (v := 2) hx hb dX8_safe_75 (by decide) ?_
        refine lv_iload hx hb dX8_safe_76 (lv_at hl 0 rfl) ?_
        refine lv_imul hx hb dX8_safe_78 ?_
        refine lv_icmp_lt (tgt := 85) hx hb dX8_safe_79 (by decide) (fun hc => ?_) (fun hc => ?_)
        · have hM := if_pp hc hM
          refine lv_iload_n hx hb dX8_safe_85 rfl (lv_at hl 5 rfl) ?_
          refine lv_iload hx hb dX8_safe_86 (lv_at hl 0 rfl) ?_
          refine lv_icmp_ge (tgt := 110) hx hb dX8_safe_88 (by decide) (fun hc => ?_) (fun hc => ?_)
          · have hM := if_pp hc hM
            refine lv_aload_n hx hb dX8_safe_110 rfl (lv_at hl 4 rfl) ?_
            refine g_get (ci := 8) (C := RX8) (T := TX8) (N := 8) (v := .ref (ad 25)) F hP 0 rfl rfl inX8_safe_X8 6 (by decide) (List.mem_of_getElem? (i := 4) rfl) rfl dX8_safe_111 ?_
            refine lv_aload_n hx hb dX8_safe_114 rfl (lv_at hl 4 rfl) ?_
            refine g_get (ci := 8) (C := RX8) (T := TX8) (N := 8) (v := .ref (ad 3)) F hP 0 rfl rfl inX8_safe_X8 1 (by decide) (List.mem_of_getElem? (i := 1) rfl) rfl dX8_safe_115 ?_
            refine lv_iload_n hx hb dX8_safe_118 rfl (lv_at hl 2 rfl) ?_
            refine lv_iload_n hx hb dX8_safe_119 rfl (lv_at hl 3 rfl) ?_
            refine lv_iload hx hb dX8_safe_120 (lv_at hl 1 rfl) ?_
            refine lv_iload_n hx hb dX8_safe_122 rfl (lv_at hl 5 rfl) ?_
            refine lv_iload hx hb dX8_safe_123 (lv_at hl 0 rfl) ?_
            refine lv_isub hx hb dX8_safe_125 ?_
            obtain ⟨z126, hcr, hM⟩ := ob_s hM
            refine res_i (ws' := (wX cI cC ad p h v k1 h1 v1 k2 h2 v2 r d z126.2 q)) F hP hS rfl [25, 26, 27, 3, 4, 5, 6, 7] rfl rfl rfl (runV_of (n := 5) (As := [.ref (ad 3), .int z18, .int z7, .int (z26 ||| z7), .int (x1 - z45.1)]) (rest := []) F hP hS rfl [25, 26, 27, 3, 4, 5, 6, 7] rfl rfl (c_X5_stepOnWay l dC dI cI cC cZ sa (ad 25) (ad 26) (ad 27) (ad 3) (ad 4) (ad 5) (ad 6) (ad 7) z45.2 h v z18 z7 (z26 ||| z7) (x1 - z45.1) hcr _) gX8_safe_X5_stepOnWay rfl (by decide +kernel) ⟨Nat.le_of_ble_eq_true rfl, Nat.le_of_ble_eq_true rfl⟩ 25 5 rfl rfl rfl hl.1 rfl (Nat.le_of_ble_eq_true rfl) dX8_safe_126 ⟨Nat.zero_le _, Nat.zero_le _⟩) rfl (fun H locs hP hS => ?_)
            exact j129 (z126.2, z126.1) _ _ _ hP hS (lv_sub hl [4] rfl) hM
          · have hM := if_nn hc hM
            refine lv_aload_n hx hb dX8_safe_91 rfl (lv_at hl 4 rfl) ?_
            refine g_get (ci := 8) (C := RX8) (T := TX8) (N := 8) (v := .ref (ad 25)) F hP 0 rfl rfl inX8_safe_X8 6 (by decide) (List.mem_of_getElem? (i := 4) rfl) rfl dX8_safe_92 ?_
            refine lv_aload_n hx hb dX8_safe_95 rfl (lv_at hl 4 rfl) ?_
            refine g_get (ci := 8) (C := RX8) (T := TX8) (N := 8) (v := .ref (ad 3)) F hP 0 rfl rfl inX8_safe_X8 1 (by decide) (List.mem_of_getElem? (i := 1) rfl) rfl dX8_safe_96 ?_
            refine lv_iload_n hx hb dX8_safe_99 rfl (lv_at hl 3 rfl) ?_
            refine lv_iload_n hx hb dX8_safe_100 rfl (lv_at hl 2 rfl) ?_
            refine lv_iload hx hb dX8_safe_101 (lv_at hl 1 rfl) ?_
            refine lv_iload_n hx hb dX8_safe_103 rfl (lv_at hl 5 rfl) ?_
            obtain ⟨z104, hcr, hM⟩ := ob_s hM
            refine res_i (ws' := (wX cI cC ad p h v k1 h1 v1 k2 h2 v2 r d z104.2 q)) F hP hS rfl [25, 26, 27, 3, 4, 5, 6, 7] rfl rfl rfl (runV_of (n := 5) (As := [.ref (ad 3), .int z7, .int z18, .int (z26 ||| z7), .int x1]) (rest := []) F hP hS rfl [25, 26, 27, 3, 4, 5, 6, 7] rfl rfl (c_X5_stepOnWay l dC dI cI cC cZ sa (ad 25) (ad 26) (ad 27) (ad 3) (ad 4) (ad 5) (ad 6) (ad 7) z45.2 h v z7 z18 (z26 ||| z7) x1 hcr _) gX8_safe_X5_stepOnWay rfl (by decide +kernel) ⟨Nat.le_of_ble_eq_true rfl, Nat.le_of_ble_eq_true rfl⟩ 25 5 rfl rfl rfl hl.1 rfl (Nat.le_of_ble_eq_true rfl) dX8_safe_104 ⟨Nat.zero_le _, Nat.zero_le _⟩) rfl (fun H locs hP hS => ?_)
            refine lv_goto (tgt := 129) hx hb dX8_safe_107 (by decide) ?_
            exact j129 (z104.2, z104.1) _ _ _ hP hS (lv_sub hl [4] rfl) hM
        · have hM := if_nn hc hM
          refine lv_bipush (v := -6) hx hb dX8_safe_82 (by decide) ?_
          exact ret_i hx hb hr hlk dX8_safe_84 hM hP hS
    · have hM := if_pp hc hM
      refine lv_iconst (v := 2) hx hb dX8_safe_65 (by decide) ?_
      refine lv_iload hx hb dX8_safe_66 (lv_at hl 0 rfl) ?_
      refine lv_imul hx hb dX8_safe_68 ?_
      exact ret_i hx hb hr hlk dX8_safe_69 hM hP hS
  · have hM := if_pp hc hM
    refine lv_bipush (v := -6) hx hb dX8_safe_57 (by decide) ?_
    exact ret_i hx hb hr hlk dX8_safe_59 hM hP hS
theorem inX8_say_X2 : ∀ w ∈ wsX20, w ∈ wsX8_say := fun w h => List.mem_cons_of_mem _ (List.mem_append_right _ h)
theorem inX8_say_X8 : ∀ w ∈ wsX80, w ∈ wsX8_say := fun w h => List.mem_cons_of_mem _ (List.mem_append_left _ (List.mem_append_right _ h))
set_option maxHeartbeats 4000000 in
set_option maxRecDepth 100000 in
theorem c_X8_say (l : Launch) (dC : Nat → ClassId) (dI : Nat → Nat → Nat) (cI cC cZ : ClassId) (sa : Nat → Nat) (ad : Nat → Nat) (p : PT) (h : HT) (v : VT) (k1 : Int32) (h1 : HT) (v1 : VT) (k2 : Int32) (h2 : HT) (v2 : VT) (r : RT) (d : DT) (y : YT) (q : QT) (x1 : Int32) {res : Int32 × PT} (hM : M_X8_say p x1 = some res) : CTi l (dC, dI) [(cI, .int), (cC, .char), (cZ, .boolean)] sa yX8_say wsX8_say (rmd 2) [.ref (ad 0), .int x1] (wX cI cC ad p h v k1 h1 v1 k2 h2 v2 r d y q) (fun (uu : PT) => (wX cI cC ad uu h v k1 h1 v1 k2 h2 v2 r d y q)) res := by
  refine CTi.enter (own := RX8) (cc := cX8_say) (maxL := 2) (ret := (some .int)) (by decide) rfl rfl (Nat.le_of_ble_eq_true rfl) ?_
  intro pr e s m below meth c A F hr hlk hP hS ls hl
  obtain ⟨⟨hx, hb, hml, hown, hts⟩, hK, hDD, hA, hKC⟩ := id F
  have hl : lv_has ls 2 [(0, .ref (ad 0)), (1, .int x1)] := hl
  have hP : va_P (dC, dI) vwCl (wX cI cC ad p h v k1 h1 v1 k2 h2 v2 r d y q) s.heap := hP
  unfold M_X8_say at hM
  refine lv_iload_n hx hb dX8_say_0 rfl (lv_at hl 1 rfl) ?_
  refine lv_bipush (v := 33) hx hb dX8_say_1 (by decide) ?_
  refine lv_bipush (v := 126) hx hb dX8_say_3 (by decide) ?_
  obtain ⟨z5, hcr, hM⟩ := ob_s hM
  refine res_i0 F hP hS rfl [] rfl rfl (runS_of (n := 3) (As := [.int x1, .int (33 : Int32), .int (126 : Int32)]) (rest := []) F hP hS rfl [] rfl rfl (c_X8_within l dC dI cI cC cZ sa x1 (33 : Int32) (126 : Int32) hcr _) gX8_say_X8_within rfl (by decide +kernel) ⟨Nat.le_of_ble_eq_true rfl, Nat.le_of_ble_eq_true rfl⟩ rfl hl.1 rfl (Nat.le_of_ble_eq_true rfl) dX8_say_5 ⟨Nat.zero_le _, Nat.zero_le _⟩) (fun H locs hP hS => ?_)
  refine lv_if_ne (tgt := 14) hx hb dX8_say_8 (by decide) (fun hc => ?_) (fun hc => ?_)
  · have hM := if_nn hc hM
    refine lv_aload_n hx hb dX8_say_14 rfl (lv_at hl 0 rfl) ?_
    refine g_get (ci := 8) (C := RX8) (T := TX8) (N := 8) (v := .ref (ad 1)) F hP 0 rfl rfl inX8_say_X8 0 (by decide) (List.mem_of_getElem? (i := 1) rfl) rfl dX8_say_15 ?_
    refine lv_iload_n hx hb dX8_say_18 rfl (lv_at hl 1 rfl) ?_
    refine lv_i2c (v := (x1.toUInt32 % 65536).toInt32) hx hb dX8_say_19 rfl ?_
    obtain ⟨z20, hcr, hM⟩ := ob_s hM
    refine res_i (ws' := (wX cI cC ad z20.2 h v k1 h1 v1 k2 h2 v2 r d y q)) F hP hS rfl [1, 2] rfl rfl rfl (runV_of (n := 1) (As := [.int ((x1.toUInt32 % 65536).toInt32)]) (rest := []) F hP hS rfl [1, 2] rfl rfl (c_X2_add l dC dI cI cC cZ sa (ad 1) (ad 2) p ((x1.toUInt32 % 65536).toInt32) hcr _) gX8_say_X2_add rfl (by decide +kernel) ⟨Nat.le_of_ble_eq_true rfl, Nat.le_of_ble_eq_true rfl⟩ 1 2 rfl rfl rfl hl.1 rfl (Nat.le_of_ble_eq_true rfl) dX8_say_20 ⟨Nat.zero_le _, Nat.zero_le _⟩) rfl (fun H locs hP hS => ?_)
    refine lv_if_eq (tgt := 36) hx hb dX8_say_23 (by decide) (fun hc => ?_) (fun hc => ?_)
    · have hM := if_pp hc hM
      refine lv_bipush (v := -4) hx hb dX8_say_36 (by decide) ?_
      exact ret_i hx hb hr hlk dX8_say_38 hM hP hS
    · have hM := if_nn hc hM
      refine lv_aload_n hx hb dX8_say_26 rfl (lv_at hl 0 rfl) ?_
      refine g_get (ci := 8) (C := RX8) (T := TX8) (N := 8) (v := .ref (ad 1)) F hP 0 rfl rfl inX8_say_X8 0 (by decide) (List.mem_of_getElem? (i := 1) rfl) rfl dX8_say_27 ?_
      refine g_get (ci := 2) (C := RX2) (T := TX2) (N := 2) (v := .int z20.2.1) F hP 1 rfl rfl inX8_say_X2 1 (by decide) (List.mem_of_getElem? (i := 2) rfl) rfl dX8_say_30 ?_
      refine lv_goto (tgt := 38) hx hb dX8_say_33 (by decide) ?_
      exact ret_i hx hb hr hlk dX8_say_38 hM hP hS
  · have hM := if_pp hc hM
    refine lv_bipush (v := -2) hx hb dX8_say_11 (by decide) ?_
    exact ret_i hx hb hr hlk dX8_say_13 hM hP hS
theorem inX8_sees_X0 : ∀ w ∈ wsX00, w ∈ wsX8_sees := fun w h => List.mem_cons_of_mem _ (List.mem_append_left _ (List.mem_append_right _ h))
theorem inX8_sees_X8 : ∀ w ∈ wsX80, w ∈ wsX8_sees := fun w h => List.mem_cons_of_mem _ (List.mem_append_left _ (List.mem_append_left _ (List.mem_append_right _ h)))
set_option maxHeartbeats 4000000 in
set_option maxRecDepth 100000 in
theorem c_X8_sees (l : Launch) (dC : Nat → ClassId) (dI : Nat → Nat → Nat) (cI cC cZ : ClassId) (sa : Nat → Nat) (ad : Nat → Nat) (p : PT) (h : HT) (v : VT) (k1 : Int32) (h1 : HT) (v1 : VT) (k2 : Int32) (h2 : HT) (v2 : VT) (r : RT) (d : DT) (y : YT) (q : QT) (x1 : Int32) {res : Int32} (hM : M_X8_sees h v x1 = some res) : CTi l (dC, dI) [(cI, .int), (cC, .char), (cZ, .boolean)] sa yX8_sees wsX8_sees (rmd 4) [.ref (ad 0), .int x1] (wX cI cC ad p h v k1 h1 v1 k2 h2 v2 r d y q) (fun (_ : Unit) => (wX cI cC ad p h v k1 h1 v1 k2 h2 v2 r d y q)) (res, ()) := by
  refine CTi.enter (own := RX8) (cc := cX8_sees) (maxL := 2) (ret := (some .int)) (by decide) rfl rfl (Nat.le_of_ble_eq_true rfl) ?_
  intro pr e s m below meth c A F hr hlk hP hS ls hl
  obtain ⟨⟨hx, hb, hml, hown, hts⟩, hK, hDD, hA, hKC⟩ := id F
  have hl : lv_has ls 2 [(0, .ref (ad 0)), (1, .int x1)] := hl
  have hP : va_P (dC, dI) vwCl (wX cI cC ad p h v k1 h1 v1 k2 h2 v2 r d y q) s.heap := hP
  unfold M_X8_sees at hM
  refine lv_aload_n hx hb dX8_sees_0 rfl (lv_at hl 0 rfl) ?_
  refine g_get (ci := 8) (C := RX8) (T := TX8) (N := 8) (v := .ref (ad 3)) F hP 0 rfl rfl inX8_sees_X8 1 (by decide) (List.mem_of_getElem? (i := 1) rfl) rfl dX8_sees_1 ?_
  refine g_get (ci := 0) (C := RX0) (T := TX0) (N := 13) (v := .ref (ad 4)) F hP 3 rfl rfl inX8_sees_X0 12 (by decide) (List.mem_of_getElem? (i := 2) rfl) rfl dX8_sees_4 ?_
  refine lv_iload_n hx hb dX8_sees_7 rfl (lv_at hl 1 rfl) ?_
  obtain ⟨z8, hcr, hM⟩ := ob_s hM
  refine res_i0 F hP hS rfl [4, 5, 6, 7] rfl rfl (runV_of (n := 1) (As := [.int x1]) (rest := []) F hP hS rfl [4, 5, 6, 7] rfl rfl (c_X4_isOne l dC dI cI cC cZ sa (ad 4) (ad 5) (ad 6) (ad 7) v x1 hcr _) gX8_sees_X4_isOne rfl (by decide +kernel) ⟨Nat.le_of_ble_eq_true rfl, Nat.le_of_ble_eq_true rfl⟩ 4 4 rfl rfl rfl hl.1 rfl (Nat.le_of_ble_eq_true rfl) dX8_sees_8 ⟨Nat.zero_le _, Nat.zero_le _⟩) (fun H locs hP hS => ?_)
  refine lv_if_eq (tgt := 25) hx hb dX8_sees_11 (by decide) (fun hc => ?_) (fun hc => ?_)
  · have hM := if_pp hc hM
    refine lv_iconst (v := -1) hx hb dX8_sees_25 (by decide) ?_
    exact ret_i hx hb hr hlk dX8_sees_26 (some_u hM) hP hS
  · have hM := if_nn hc hM
    refine lv_aload_n hx hb dX8_sees_14 rfl (lv_at hl 0 rfl) ?_
    refine g_get (ci := 8) (C := RX8) (T := TX8) (N := 8) (v := .ref (ad 3)) F hP 0 rfl rfl inX8_sees_X8 1 (by decide) (List.mem_of_getElem? (i := 1) rfl) rfl dX8_sees_15 ?_
    refine lv_iload_n hx hb dX8_sees_18 rfl (lv_at hl 1 rfl) ?_
    obtain ⟨z19, hcr, hM⟩ := ob_s hM
    refine res_i0 F hP hS rfl [3, 4, 5, 6, 7] rfl rfl (runV_of (n := 1) (As := [.int x1]) (rest := []) F hP hS rfl [3, 4, 5, 6, 7] rfl rfl (c_X0_seenBy l dC dI cI cC cZ sa (ad 3) (ad 4) (ad 5) (ad 6) (ad 7) h v x1 hcr _) gX8_sees_X0_seenBy rfl (by decide +kernel) ⟨Nat.le_of_ble_eq_true rfl, Nat.le_of_ble_eq_true rfl⟩ 3 0 rfl rfl rfl hl.1 rfl (Nat.le_of_ble_eq_true rfl) dX8_sees_19 ⟨Nat.zero_le _, Nat.zero_le _⟩) (fun H locs hP hS => ?_)
    refine lv_goto (tgt := 26) hx hb dX8_sees_22 (by decide) ?_
    exact ret_i hx hb hr hlk dX8_sees_26 (some_u hM) hP hS
theorem inX8_toldOfWatcher_X0 : ∀ w ∈ wsX00, w ∈ wsX8_toldOfWatcher := fun w h => List.mem_cons_of_mem _ (List.mem_append_left _ (List.mem_append_right _ h))
theorem inX8_toldOfWatcher_X8 : ∀ w ∈ wsX80, w ∈ wsX8_toldOfWatcher := fun w h => List.mem_cons_of_mem _ (List.mem_append_left _ (List.mem_append_left _ (List.mem_append_right _ h)))
set_option maxHeartbeats 4000000 in
set_option maxRecDepth 100000 in
theorem c_X8_toldOfWatcher (l : Launch) (dC : Nat → ClassId) (dI : Nat → Nat → Nat) (cI cC cZ : ClassId) (sa : Nat → Nat) (ad : Nat → Nat) (p : PT) (h : HT) (v : VT) (k1 : Int32) (h1 : HT) (v1 : VT) (k2 : Int32) (h2 : HT) (v2 : VT) (r : RT) (d : DT) (y : YT) (q : QT) (x1 : Int32) (x2 : Int32) {res : Int32} (hM : M_X8_toldOfWatcher v x1 x2 = some res) : CTi l (dC, dI) [(cI, .int), (cC, .char), (cZ, .boolean)] sa yX8_toldOfWatcher wsX8_toldOfWatcher (rmd 3) [.ref (ad 0), .int x1, .int x2] (wX cI cC ad p h v k1 h1 v1 k2 h2 v2 r d y q) (fun (_ : Unit) => (wX cI cC ad p h v k1 h1 v1 k2 h2 v2 r d y q)) (res, ()) := by
  refine CTi.enter (own := RX8) (cc := cX8_toldOfWatcher) (maxL := 3) (ret := (some .int)) (by decide) rfl rfl (Nat.le_of_ble_eq_true rfl) ?_
  intro pr e s m below meth c A F hr hlk hP hS ls hl
  obtain ⟨⟨hx, hb, hml, hown, hts⟩, hK, hDD, hA, hKC⟩ := id F
  have hl : lv_has ls 3 [(0, .ref (ad 0)), (1, .int x1), (2, .int x2)] := hl
  have hP : va_P (dC, dI) vwCl (wX cI cC ad p h v k1 h1 v1 k2 h2 v2 r d y q) s.heap := hP
  unfold M_X8_toldOfWatcher at hM
  refine lv_aload_n hx hb dX8_toldOfWatcher_0 rfl (lv_at hl 0 rfl) ?_
  refine g_get (ci := 8) (C := RX8) (T := TX8) (N := 8) (v := .ref (ad 3)) F hP 0 rfl rfl inX8_toldOfWatcher_X8 1 (by decide) (List.mem_of_getElem? (i := 1) rfl) rfl dX8_toldOfWatcher_1 ?_
  refine g_get (ci := 0) (C := RX0) (T := TX0) (N := 13) (v := .ref (ad 4)) F hP 3 rfl rfl inX8_toldOfWatcher_X0 12 (by decide) (List.mem_of_getElem? (i := 2) rfl) rfl dX8_toldOfWatcher_4 ?_
  refine lv_iload_n hx hb dX8_toldOfWatcher_7 rfl (lv_at hl 1 rfl) ?_
  obtain ⟨z8, hcr, hM⟩ := ob_s hM
  refine res_i0 F hP hS rfl [4, 5, 6, 7] rfl rfl (runV_of (n := 1) (As := [.int x1]) (rest := []) F hP hS rfl [4, 5, 6, 7] rfl rfl (c_X4_isOne l dC dI cI cC cZ sa (ad 4) (ad 5) (ad 6) (ad 7) v x1 hcr _) gX8_toldOfWatcher_X4_isOne rfl (by decide +kernel) ⟨Nat.le_of_ble_eq_true rfl, Nat.le_of_ble_eq_true rfl⟩ 4 4 rfl rfl rfl hl.1 rfl (Nat.le_of_ble_eq_true rfl) dX8_toldOfWatcher_8 ⟨Nat.zero_le _, Nat.zero_le _⟩) (fun H locs hP hS => ?_)
  refine lv_if_ne (tgt := 17) hx hb dX8_toldOfWatcher_11 (by decide) (fun hc => ?_) (fun hc => ?_)
  · have hM := if_nn hc hM
    refine lv_iload_n hx hb dX8_toldOfWatcher_17 rfl (lv_at hl 2 rfl) ?_
    by_cases hc0 : x2 = (0 : Int32)
    · have hM := if_pp hc0 hM
      refine lv_tableIn (off := 26) (tgt := 44) hx hb dX8_toldOfWatcher_18 (by rw [hc0]; decide) (by rw [hc0]; decide) (by rw [hc0]; rfl) (by decide) ?_
      refine lv_aload_n hx hb dX8_toldOfWatcher_44 rfl (lv_at hl 0 rfl) ?_
      refine g_get (ci := 8) (C := RX8) (T := TX8) (N := 8) (v := .ref (ad 3)) F hP 0 rfl rfl inX8_toldOfWatcher_X8 1 (by decide) (List.mem_of_getElem? (i := 1) rfl) rfl dX8_toldOfWatcher_45 ?_
      refine g_get (ci := 0) (C := RX0) (T := TX0) (N := 13) (v := .ref (ad 4)) F hP 3 rfl rfl inX8_toldOfWatcher_X0 12 (by decide) (List.mem_of_getElem? (i := 2) rfl) rfl dX8_toldOfWatcher_48 ?_
      refine lv_iload_n hx hb dX8_toldOfWatcher_51 rfl (lv_at hl 1 rfl) ?_
      obtain ⟨z52, hcr, hM⟩ := ob_s hM
      refine res_i0 F hP hS rfl [4, 5, 6, 7] rfl rfl (runV_of (n := 1) (As := [.int x1]) (rest := []) F hP hS rfl [4, 5, 6, 7] rfl rfl (c_X4_cellOfOne l dC dI cI cC cZ sa (ad 4) (ad 5) (ad 6) (ad 7) v x1 hcr _) gX8_toldOfWatcher_X4_cellOfOne rfl (by decide +kernel) ⟨Nat.le_of_ble_eq_true rfl, Nat.le_of_ble_eq_true rfl⟩ 4 4 rfl rfl rfl hl.1 rfl (Nat.le_of_ble_eq_true rfl) dX8_toldOfWatcher_52 ⟨Nat.zero_le _, Nat.zero_le _⟩) (fun H locs hP hS => ?_)
      exact ret_i hx hb hr hlk dX8_toldOfWatcher_55 (some_u hM) hP hS
    · have hM := if_nn hc0 hM
      by_cases hc1 : x2 = (1 : Int32)
      · have hM := if_pp hc1 hM
        refine lv_tableIn (off := 38) (tgt := 56) hx hb dX8_toldOfWatcher_18 (by rw [hc1]; decide) (by rw [hc1]; decide) (by rw [hc1]; rfl) (by decide) ?_
        refine lv_aload_n hx hb dX8_toldOfWatcher_56 rfl (lv_at hl 0 rfl) ?_
        refine g_get (ci := 8) (C := RX8) (T := TX8) (N := 8) (v := .ref (ad 3)) F hP 0 rfl rfl inX8_toldOfWatcher_X8 1 (by decide) (List.mem_of_getElem? (i := 1) rfl) rfl dX8_toldOfWatcher_57 ?_
        refine g_get (ci := 0) (C := RX0) (T := TX0) (N := 13) (v := .ref (ad 4)) F hP 3 rfl rfl inX8_toldOfWatcher_X0 12 (by decide) (List.mem_of_getElem? (i := 2) rfl) rfl dX8_toldOfWatcher_60 ?_
        refine lv_iload_n hx hb dX8_toldOfWatcher_63 rfl (lv_at hl 1 rfl) ?_
        obtain ⟨z64, hcr, hM⟩ := ob_s hM
        refine res_i0 F hP hS rfl [4, 5, 6, 7] rfl rfl (runV_of (n := 1) (As := [.int x1]) (rest := []) F hP hS rfl [4, 5, 6, 7] rfl rfl (c_X4_lookingOf l dC dI cI cC cZ sa (ad 4) (ad 5) (ad 6) (ad 7) v x1 hcr _) gX8_toldOfWatcher_X4_lookingOf rfl (by decide +kernel) ⟨Nat.le_of_ble_eq_true rfl, Nat.le_of_ble_eq_true rfl⟩ 4 4 rfl rfl rfl hl.1 rfl (Nat.le_of_ble_eq_true rfl) dX8_toldOfWatcher_64 ⟨Nat.zero_le _, Nat.zero_le _⟩) (fun H locs hP hS => ?_)
        exact ret_i hx hb hr hlk dX8_toldOfWatcher_67 (some_u hM) hP hS
      · have hM := if_nn hc1 hM
        by_cases hc2 : x2 = (2 : Int32)
        · have hM := if_pp hc2 hM
          refine lv_tableIn (off := 50) (tgt := 68) hx hb dX8_toldOfWatcher_18 (by rw [hc2]; decide) (by rw [hc2]; decide) (by rw [hc2]; rfl) (by decide) ?_
          refine lv_aload_n hx hb dX8_toldOfWatcher_68 rfl (lv_at hl 0 rfl) ?_
          refine g_get (ci := 8) (C := RX8) (T := TX8) (N := 8) (v := .ref (ad 3)) F hP 0 rfl rfl inX8_toldOfWatcher_X8 1 (by decide) (List.mem_of_getElem? (i := 1) rfl) rfl dX8_toldOfWatcher_69 ?_
          refine g_get (ci := 0) (C := RX0) (T := TX0) (N := 13) (v := .ref (ad 4)) F hP 3 rfl rfl inX8_toldOfWatcher_X0 12 (by decide) (List.mem_of_getElem? (i := 2) rfl) rfl dX8_toldOfWatcher_72 ?_
          refine lv_iload_n hx hb dX8_toldOfWatcher_75 rfl (lv_at hl 1 rfl) ?_
          obtain ⟨z76, hcr, hM⟩ := ob_s hM
          refine res_i0 F hP hS rfl [4, 5, 6, 7] rfl rfl (runV_of (n := 1) (As := [.int x1]) (rest := []) F hP hS rfl [4, 5, 6, 7] rfl rfl (c_X4_hasDog l dC dI cI cC cZ sa (ad 4) (ad 5) (ad 6) (ad 7) v x1 hcr _) gX8_toldOfWatcher_X4_hasDog rfl (by decide +kernel) ⟨Nat.le_of_ble_eq_true rfl, Nat.le_of_ble_eq_true rfl⟩ 4 4 rfl rfl rfl hl.1 rfl (Nat.le_of_ble_eq_true rfl) dX8_toldOfWatcher_76 ⟨Nat.zero_le _, Nat.zero_le _⟩) (fun H locs hP hS => ?_)
          refine lv_if_eq (tgt := 86) hx hb dX8_toldOfWatcher_79 (by decide) (fun hc => ?_) (fun hc => ?_)
          · have hM := if_pp hc hM
            refine lv_iconst (v := 0) hx hb dX8_toldOfWatcher_86 (by decide) ?_
            exact ret_i hx hb hr hlk dX8_toldOfWatcher_87 (some_u hM) hP hS
          · have hM := if_nn hc hM
            refine lv_iconst (v := 1) hx hb dX8_toldOfWatcher_82 (by decide) ?_
            refine lv_goto (tgt := 87) hx hb dX8_toldOfWatcher_83 (by decide) ?_
            exact ret_i hx hb hr hlk dX8_toldOfWatcher_87 (some_u hM) hP hS
        · have hM := if_nn hc2 hM
          have hn0 := lv_neT hc0 (a := 0) (by decide)
          have hn1 := lv_neT hc1 (a := 1) (by decide)
          have hn2 := lv_neT hc2 (a := 2) (by decide)
          refine lv_tableOut (tgt := 88) hx hb dX8_toldOfWatcher_18 (by omega) (by decide) ?_
          refine lv_bipush (v := -2) hx hb dX8_toldOfWatcher_88 (by decide) ?_
          exact ret_i hx hb hr hlk dX8_toldOfWatcher_90 (some_u hM) hP hS
  · have hM := if_pp hc hM
    refine lv_bipush (v := -2) hx hb dX8_toldOfWatcher_14 (by decide) ?_
    exact ret_i hx hb hr hlk dX8_toldOfWatcher_16 (some_u hM) hP hS
theorem inX8_told_X0 : ∀ w ∈ wsX00, w ∈ wsX8_told := fun w h => List.mem_cons_of_mem _ (List.mem_append_left _ (List.mem_append_right _ h))
theorem inX8_told_X2 : ∀ w ∈ wsX20, w ∈ wsX8_told := fun w h => List.mem_cons_of_mem _ (List.mem_append_left _ (List.mem_append_left _ (List.mem_append_right _ h)))
theorem inX8_told_X4 : ∀ w ∈ wsX40, w ∈ wsX8_told := fun w h => List.mem_cons_of_mem _ (List.mem_append_right _ h)
theorem inX8_told_X8 : ∀ w ∈ wsX80, w ∈ wsX8_told := fun w h => List.mem_cons_of_mem _ (List.mem_append_left _ (List.mem_append_left _ (List.mem_append_left _ (List.mem_append_right _ h))))
set_option maxHeartbeats 4000000 in
set_option maxRecDepth 100000 in
theorem c_X8_told (l : Launch) (dC : Nat → ClassId) (dI : Nat → Nat → Nat) (cI cC cZ : ClassId) (sa : Nat → Nat) (ad : Nat → Nat) (p : PT) (h : HT) (v : VT) (k1 : Int32) (h1 : HT) (v1 : VT) (k2 : Int32) (h2 : HT) (v2 : VT) (r : RT) (d : DT) (y : YT) (q : QT) (x1 : Int32) {res : Int32} (hM : M_X8_told p h v x1 = some res) : CTi l (dC, dI) [(cI, .int), (cC, .char), (cZ, .boolean)] sa yX8_told wsX8_told (rmd 4) [.ref (ad 0), .int x1] (wX cI cC ad p h v k1 h1 v1 k2 h2 v2 r d y q) (fun (_ : Unit) => (wX cI cC ad p h v k1 h1 v1 k2 h2 v2 r d y q)) (res, ()) := by
  refine CTi.enter (own := RX8) (cc := cX8_told) (maxL := 2) (ret := (some .int)) (by decide) rfl rfl (Nat.le_of_ble_eq_true rfl) ?_
  intro pr e s m below meth c A F hr hlk hP hS ls hl
  obtain ⟨⟨hx, hb, hml, hown, hts⟩, hK, hDD, hA, hKC⟩ := id F
  have hl : lv_has ls 2 [(0, .ref (ad 0)), (1, .int x1)] := hl
  have hP : va_P (dC, dI) vwCl (wX cI cC ad p h v k1 h1 v1 k2 h2 v2 r d y q) s.heap := hP
  unfold M_X8_told at hM
  refine lv_iload_n hx hb dX8_told_0 rfl (lv_at hl 1 rfl) ?_
  by_cases hc0 : x1 = (0 : Int32)
  · have hM := if_pp hc0 hM
    refine lv_tableIn (off := 43) (tgt := 44) hx hb dX8_told_1 (by rw [hc0]; decide) (by rw [hc0]; decide) (by rw [hc0]; rfl) (by decide) ?_
    refine lv_aload_n hx hb dX8_told_44 rfl (lv_at hl 0 rfl) ?_
    refine g_get (ci := 8) (C := RX8) (T := TX8) (N := 8) (v := .ref (ad 1)) F hP 0 rfl rfl inX8_told_X8 0 (by decide) (List.mem_of_getElem? (i := 1) rfl) rfl dX8_told_45 ?_
    refine g_get (ci := 2) (C := RX2) (T := TX2) (N := 2) (v := .int p.1) F hP 1 rfl rfl inX8_told_X2 1 (by decide) (List.mem_of_getElem? (i := 2) rfl) rfl dX8_told_48 ?_
    exact ret_i hx hb hr hlk dX8_told_51 (some_u hM) hP hS
  · have hM := if_nn hc0 hM
    by_cases hc1 : x1 = (1 : Int32)
    · have hM := if_pp hc1 hM
      refine lv_tableIn (off := 51) (tgt := 52) hx hb dX8_told_1 (by rw [hc1]; decide) (by rw [hc1]; decide) (by rw [hc1]; rfl) (by decide) ?_
      refine lv_aload_n hx hb dX8_told_52 rfl (lv_at hl 0 rfl) ?_
      refine g_get (ci := 8) (C := RX8) (T := TX8) (N := 8) (v := .ref (ad 3)) F hP 0 rfl rfl inX8_told_X8 1 (by decide) (List.mem_of_getElem? (i := 3) rfl) rfl dX8_told_53 ?_
      refine g_get (ci := 0) (C := RX0) (T := TX0) (N := 13) (v := .int h.1) F hP 3 rfl rfl inX8_told_X0 0 (by decide) (List.mem_of_getElem? (i := 4) rfl) rfl dX8_told_56 ?_
      exact ret_i hx hb hr hlk dX8_told_59 (some_u hM) hP hS
    · have hM := if_nn hc1 hM
      by_cases hc2 : x1 = (2 : Int32)
      · have hM := if_pp hc2 hM
        refine lv_tableIn (off := 59) (tgt := 60) hx hb dX8_told_1 (by rw [hc2]; decide) (by rw [hc2]; decide) (by rw [hc2]; rfl) (by decide) ?_
        refine lv_aload_n hx hb dX8_told_60 rfl (lv_at hl 0 rfl) ?_
        refine g_get (ci := 8) (C := RX8) (T := TX8) (N := 8) (v := .ref (ad 3)) F hP 0 rfl rfl inX8_told_X8 1 (by decide) (List.mem_of_getElem? (i := 3) rfl) rfl dX8_told_61 ?_
        refine g_get (ci := 0) (C := RX0) (T := TX0) (N := 13) (v := .int h.2.1) F hP 3 rfl rfl inX8_told_X0 1 (by decide) (List.mem_of_getElem? (i := 5) rfl) rfl dX8_told_64 ?_
        exact ret_i hx hb hr hlk dX8_told_67 (some_u hM) hP hS
      · have hM := if_nn hc2 hM
        by_cases hc3 : x1 = (3 : Int32)
        · have hM := if_pp hc3 hM
          refine lv_tableIn (off := 67) (tgt := 68) hx hb dX8_told_1 (by rw [hc3]; decide) (by rw [hc3]; decide) (by rw [hc3]; rfl) (by decide) ?_
          refine lv_aload_n hx hb dX8_told_68 rfl (lv_at hl 0 rfl) ?_
          refine g_get (ci := 8) (C := RX8) (T := TX8) (N := 8) (v := .ref (ad 3)) F hP 0 rfl rfl inX8_told_X8 1 (by decide) (List.mem_of_getElem? (i := 3) rfl) rfl dX8_told_69 ?_
          refine g_get (ci := 0) (C := RX0) (T := TX0) (N := 13) (v := .int h.2.2.2.2.2.2.2.2.2.1) F hP 3 rfl rfl inX8_told_X0 9 (by decide) (List.mem_of_getElem? (i := 6) rfl) rfl dX8_told_72 ?_
          exact ret_i hx hb hr hlk dX8_told_75 (some_u hM) hP hS
        · have hM := if_nn hc3 hM
          by_cases hc4 : x1 = (4 : Int32)
          · have hM := if_pp hc4 hM
            refine lv_tableIn (off := 75) (tgt := 76) hx hb dX8_told_1 (by rw [hc4]; decide) (by rw [hc4]; decide) (by rw [hc4]; rfl) (by decide) ?_
            refine lv_aload_n hx hb dX8_told_76 rfl (lv_at hl 0 rfl) ?_
            refine g_get (ci := 8) (C := RX8) (T := TX8) (N := 8) (v := .ref (ad 3)) F hP 0 rfl rfl inX8_told_X8 1 (by decide) (List.mem_of_getElem? (i := 3) rfl) rfl dX8_told_77 ?_
            refine g_get (ci := 0) (C := RX0) (T := TX0) (N := 13) (v := .int h.2.2.2.2.2.2.2.2.2.2.1) F hP 3 rfl rfl inX8_told_X0 10 (by decide) (List.mem_of_getElem? (i := 7) rfl) rfl dX8_told_80 ?_
            exact ret_i hx hb hr hlk dX8_told_83 (some_u hM) hP hS
          · have hM := if_nn hc4 hM
            by_cases hc5 : x1 = (5 : Int32)
            · have hM := if_pp hc5 hM
              refine lv_tableIn (off := 83) (tgt := 84) hx hb dX8_told_1 (by rw [hc5]; decide) (by rw [hc5]; decide) (by rw [hc5]; rfl) (by decide) ?_
              refine lv_aload_n hx hb dX8_told_84 rfl (lv_at hl 0 rfl) ?_
              refine g_get (ci := 8) (C := RX8) (T := TX8) (N := 8) (v := .ref (ad 3)) F hP 0 rfl rfl inX8_told_X8 1 (by decide) (List.mem_of_getElem? (i := 3) rfl) rfl dX8_told_85 ?_
              refine g_get (ci := 0) (C := RX0) (T := TX0) (N := 13) (v := .ref (ad 4)) F hP 3 rfl rfl inX8_told_X0 12 (by decide) (List.mem_of_getElem? (i := 8) rfl) rfl dX8_told_88 ?_
              refine g_get (ci := 4) (C := RX4) (T := TX4) (N := 4) (v := .int v.1) F hP 4 rfl rfl inX8_told_X4 3 (by decide) (List.mem_of_getElem? (i := 9) rfl) rfl dX8_told_91 ?_
              exact ret_i hx hb hr hlk dX8_told_94 (some_u hM) hP hS
            · have hM := if_nn hc5 hM
              by_cases hc6 : x1 = (6 : Int32)
              · have hM := if_pp hc6 hM
                refine lv_tableIn (off := 94) (tgt := 95) hx hb dX8_told_1 (by rw [hc6]; decide) (by rw [hc6]; decide) (by rw [hc6]; rfl) (by decide) ?_
                refine lv_aload_n hx hb dX8_told_95 rfl (lv_at hl 0 rfl) ?_
                refine g_get (ci := 8) (C := RX8) (T := TX8) (N := 8) (v := .ref (ad 3)) F hP 0 rfl rfl inX8_told_X8 1 (by decide) (List.mem_of_getElem? (i := 3) rfl) rfl dX8_told_96 ?_
                refine g_get (ci := 0) (C := RX0) (T := TX0) (N := 13) (v := .int h.2.2.2.2.2.2.2.2.2.2.2) F hP 3 rfl rfl inX8_told_X0 11 (by decide) (List.mem_of_getElem? (i := 10) rfl) rfl dX8_told_99 ?_
                exact ret_i hx hb hr hlk dX8_told_102 (some_u hM) hP hS
              · have hM := if_nn hc6 hM
                have hn0 := lv_neT hc0 (a := 0) (by decide)
                have hn1 := lv_neT hc1 (a := 1) (by decide)
                have hn2 := lv_neT hc2 (a := 2) (by decide)
                have hn3 := lv_neT hc3 (a := 3) (by decide)
                have hn4 := lv_neT hc4 (a := 4) (by decide)
                have hn5 := lv_neT hc5 (a := 5) (by decide)
                have hn6 := lv_neT hc6 (a := 6) (by decide)
                refine lv_tableOut (tgt := 103) hx hb dX8_told_1 (by omega) (by decide) ?_
                refine lv_iload_n hx hb dX8_told_103 rfl (lv_at hl 1 rfl) ?_
                refine lv_bipush (v := 10) hx hb dX8_told_104 (by decide) ?_
                refine lv_icmp_ge (tgt := 114) hx hb dX8_told_106 (by decide) (fun hc => ?_) (fun hc => ?_)
                · have hM := if_pp hc hM
                  refine lv_aload_n hx hb dX8_told_114 rfl (lv_at hl 0 rfl) ?_
                  refine lv_iload_n hx hb dX8_told_115 rfl (lv_at hl 1 rfl) ?_
                  refine lv_bipush (v := 10) hx hb dX8_told_116 (by decide) ?_
                  obtain ⟨hne, hM⟩ := if_ok hM
                  refine lv_idiv hx hb dX8_told_118 hne ?_
                  refine lv_iconst (v := 1) hx hb dX8_told_119 (by decide) ?_
                  refine lv_isub hx hb dX8_told_120 ?_
                  refine lv_iload_n hx hb dX8_told_121 rfl (lv_at hl 1 rfl) ?_
                  refine lv_bipush (v := 10) hx hb dX8_told_122 (by decide) ?_
                  obtain ⟨hne, hM⟩ := if_ok hM
                  refine lv_irem hx hb dX8_told_124 hne ?_
                  obtain ⟨z125, hcr, hM⟩ := ob_s hM
                  refine res_i0 F hP hS rfl [0, 1, 2, 3, 4, 5, 6, 7, 8, 9, 10, 11, 12, 13, 14, 15, 16, 17, 18, 19, 20, 21, 22, 23, 24, 25, 26, 27, 28, 29, 30] rfl rfl (runV_of (n := 2) (As := [.int ((x1 / (10 : Int32)) - (1 : Int32)), .int (x1 - x1 / (10 : Int32) * (10 : Int32))]) (rest := []) F hP hS rfl [0, 1, 2, 3, 4, 5, 6, 7, 8, 9, 10, 11, 12, 13, 14, 15, 16, 17, 18, 19, 20, 21, 22, 23, 24, 25, 26, 27, 28, 29, 30] rfl rfl (c_X8_toldOfWatcher l dC dI cI cC cZ sa ad p h v k1 h1 v1 k2 h2 v2 r d y q ((x1 / (10 : Int32)) - (1 : Int32)) (x1 - x1 / (10 : Int32) * (10 : Int32)) hcr _) gX8_told_X8_toldOfWatcher rfl (by decide +kernel) ⟨Nat.le_of_ble_eq_true rfl, Nat.le_of_ble_eq_true rfl⟩ 0 8 rfl rfl rfl hl.1 rfl (Nat.le_of_ble_eq_true rfl) dX8_told_125 ⟨Nat.zero_le _, Nat.zero_le _⟩) (fun H locs hP hS => ?_)
                  exact ret_i hx hb hr hlk dX8_told_128 (some_u hM) hP hS
                · have hM := if_nn hc hM
                  refine lv_bipush (v := -2) hx hb dX8_told_109 (by decide) ?_
                  refine lv_goto (tgt := 128) hx hb dX8_told_111 (by decide) ?_
                  exact ret_i hx hb hr hlk dX8_told_128 (some_u hM) hP hS
theorem inX8_watch_X0 : ∀ w ∈ wsX00, w ∈ wsX8_watch := fun w h => List.mem_cons_of_mem _ (List.mem_append_left _ (List.mem_append_right _ h))
theorem inX8_watch_X4 : ∀ w ∈ wsX40, w ∈ wsX8_watch := fun w h => List.mem_cons_of_mem _ (List.mem_append_right _ h)
theorem inX8_watch_X8 : ∀ w ∈ wsX80, w ∈ wsX8_watch := fun w h => List.mem_cons_of_mem _ (List.mem_append_left _ (List.mem_append_left _ (List.mem_append_right _ h)))
set_option maxHeartbeats 4000000 in
set_option maxRecDepth 100000 in
theorem c_X8_watch (l : Launch) (dC : Nat → ClassId) (dI : Nat → Nat → Nat) (cI cC cZ : ClassId) (sa : Nat → Nat) (ad : Nat → Nat) (p : PT) (h : HT) (v : VT) (k1 : Int32) (h1 : HT) (v1 : VT) (k2 : Int32) (h2 : HT) (v2 : VT) (r : RT) (d : DT) (y : YT) (q : QT) (x1 : Int32) (x2 : Int32) (x3 : Int32) {res : Int32 × VT} (hM : M_X8_watch h v x1 x2 x3 = some res) : CTi l (dC, dI) [(cI, .int), (cC, .char), (cZ, .boolean)] sa yX8_watch wsX8_watch (rmd 3) [.ref (ad 0), .int x1, .int x2, .int x3] (wX cI cC ad p h v k1 h1 v1 k2 h2 v2 r d y q) (fun (uu : VT) => (wX cI cC ad p h uu k1 h1 v1 k2 h2 v2 r d y q)) res := by
  refine CTi.enter (own := RX8) (cc := cX8_watch) (maxL := 4) (ret := (some .int)) (by decide) rfl rfl (Nat.le_of_ble_eq_true rfl) ?_
  intro pr e s m below meth c A F hr hlk hP hS ls hl
  obtain ⟨⟨hx, hb, hml, hown, hts⟩, hK, hDD, hA, hKC⟩ := id F
  have hl : lv_has ls 4 [(0, .ref (ad 0)), (1, .int x1), (2, .int x2), (3, .int x3)] := hl
  have hP : va_P (dC, dI) vwCl (wX cI cC ad p h v k1 h1 v1 k2 h2 v2 r d y q) s.heap := hP
  unfold M_X8_watch at hM
  refine lv_aload_n hx hb dX8_watch_0 rfl (lv_at hl 0 rfl) ?_
  refine g_get (ci := 8) (C := RX8) (T := TX8) (N := 8) (v := .ref (ad 3)) F hP 0 rfl rfl inX8_watch_X8 1 (by decide) (List.mem_of_getElem? (i := 1) rfl) rfl dX8_watch_1 ?_
  refine lv_iload_n hx hb dX8_watch_4 rfl (lv_at hl 1 rfl) ?_
  obtain ⟨z5, hcr, hM⟩ := ob_s hM
  refine res_i0 F hP hS rfl [3, 4, 5, 6, 7] rfl rfl (runV_of (n := 1) (As := [.int x1]) (rest := []) F hP hS rfl [3, 4, 5, 6, 7] rfl rfl (c_X0_isCell l dC dI cI cC cZ sa (ad 3) (ad 4) (ad 5) (ad 6) (ad 7) h v x1 hcr _) gX8_watch_X0_isCell rfl (by decide +kernel) ⟨Nat.le_of_ble_eq_true rfl, Nat.le_of_ble_eq_true rfl⟩ 3 0 rfl rfl rfl hl.1 rfl (Nat.le_of_ble_eq_true rfl) dX8_watch_5 ⟨Nat.zero_le _, Nat.zero_le _⟩) (fun H locs hP hS => ?_)
  refine lv_if_ne (tgt := 13) hx hb dX8_watch_8 (by decide) (fun hc => ?_) (fun hc => ?_)
  · have hM := if_nn hc hM
    refine lv_iload_n hx hb dX8_watch_13 rfl (lv_at hl 2 rfl) ?_
    refine lv_iconst (v := 0) hx hb dX8_watch_14 (by decide) ?_
    refine lv_iconst (v := 3) hx hb dX8_watch_15 (by decide) ?_
    obtain ⟨z16, hcr, hM⟩ := ob_s hM
    refine res_i0 F hP hS rfl [] rfl rfl (runS_of (n := 3) (As := [.int x2, .int (0 : Int32), .int (3 : Int32)]) (rest := []) F hP hS rfl [] rfl rfl (c_X8_within l dC dI cI cC cZ sa x2 (0 : Int32) (3 : Int32) hcr _) gX8_watch_X8_within rfl (by decide +kernel) ⟨Nat.le_of_ble_eq_true rfl, Nat.le_of_ble_eq_true rfl⟩ rfl hl.1 rfl (Nat.le_of_ble_eq_true rfl) dX8_watch_16 ⟨Nat.zero_le _, Nat.zero_le _⟩) (fun H locs hP hS => ?_)
    refine lv_if_ne (tgt := 25) hx hb dX8_watch_19 (by decide) (fun hc => ?_) (fun hc => ?_)
    · have hM := if_nn hc hM
      refine lv_aload_n hx hb dX8_watch_25 rfl (lv_at hl 0 rfl) ?_
      refine g_get (ci := 8) (C := RX8) (T := TX8) (N := 8) (v := .ref (ad 3)) F hP 0 rfl rfl inX8_watch_X8 1 (by decide) (List.mem_of_getElem? (i := 1) rfl) rfl dX8_watch_26 ?_
      refine g_get (ci := 0) (C := RX0) (T := TX0) (N := 13) (v := .int h.2.2.2.2.2.1) F hP 3 rfl rfl inX8_watch_X0 5 (by decide) (List.mem_of_getElem? (i := 2) rfl) rfl dX8_watch_29 ?_
      refine lv_iload_n hx hb dX8_watch_32 rfl (lv_at hl 1 rfl) ?_
      obtain ⟨z33, hcr, hM⟩ := ob_s hM
      refine res_i0 F hP hS rfl [] rfl rfl (runS_of (n := 2) (As := [.int h.2.2.2.2.2.1, .int x1]) (rest := []) F hP hS rfl [] rfl rfl (c_X8_has l dC dI cI cC cZ sa h.2.2.2.2.2.1 x1 hcr _) gX8_watch_X8_has rfl (by decide +kernel) ⟨Nat.le_of_ble_eq_true rfl, Nat.le_of_ble_eq_true rfl⟩ rfl hl.1 rfl (Nat.le_of_ble_eq_true rfl) dX8_watch_33 ⟨Nat.zero_le _, Nat.zero_le _⟩) (fun H locs hP hS => ?_)
      refine lv_if_eq (tgt := 42) hx hb dX8_watch_36 (by decide) (fun hc => ?_) (fun hc => ?_)
      · have hM := if_pp hc hM
        refine lv_aload_n hx hb dX8_watch_42 rfl (lv_at hl 0 rfl) ?_
        refine g_get (ci := 8) (C := RX8) (T := TX8) (N := 8) (v := .ref (ad 3)) F hP 0 rfl rfl inX8_watch_X8 1 (by decide) (List.mem_of_getElem? (i := 1) rfl) rfl dX8_watch_43 ?_
        refine g_get (ci := 0) (C := RX0) (T := TX0) (N := 13) (v := .ref (ad 4)) F hP 3 rfl rfl inX8_watch_X0 12 (by decide) (List.mem_of_getElem? (i := 3) rfl) rfl dX8_watch_46 ?_
        refine lv_iload_n hx hb dX8_watch_49 rfl (lv_at hl 1 rfl) ?_
        refine lv_iload_n hx hb dX8_watch_50 rfl (lv_at hl 2 rfl) ?_
        refine lv_iload_n hx hb dX8_watch_51 rfl (lv_at hl 3 rfl) ?_
        obtain ⟨z52, hcr, hM⟩ := ob_s hM
        refine res_i (ws' := (wX cI cC ad p h z52.2 k1 h1 v1 k2 h2 v2 r d y q)) F hP hS rfl [4, 5, 6, 7] rfl rfl rfl (runV_of (n := 3) (As := [.int x1, .int x2, .int x3]) (rest := []) F hP hS rfl [4, 5, 6, 7] rfl rfl (c_X4_add l dC dI cI cC cZ sa (ad 4) (ad 5) (ad 6) (ad 7) v x1 x2 x3 hcr _) gX8_watch_X4_add rfl (by decide +kernel) ⟨Nat.le_of_ble_eq_true rfl, Nat.le_of_ble_eq_true rfl⟩ 4 4 rfl rfl rfl hl.1 rfl (Nat.le_of_ble_eq_true rfl) dX8_watch_52 ⟨Nat.zero_le _, Nat.zero_le _⟩) rfl (fun H locs hP hS => ?_)
        refine lv_if_eq (tgt := 71) hx hb dX8_watch_55 (by decide) (fun hc => ?_) (fun hc => ?_)
        · have hM := if_pp hc hM
          refine lv_bipush (v := -4) hx hb dX8_watch_71 (by decide) ?_
          exact ret_i hx hb hr hlk dX8_watch_73 hM hP hS
        · have hM := if_nn hc hM
          refine lv_aload_n hx hb dX8_watch_58 rfl (lv_at hl 0 rfl) ?_
          refine g_get (ci := 8) (C := RX8) (T := TX8) (N := 8) (v := .ref (ad 3)) F hP 0 rfl rfl inX8_watch_X8 1 (by decide) (List.mem_of_getElem? (i := 1) rfl) rfl dX8_watch_59 ?_
          refine g_get (ci := 0) (C := RX0) (T := TX0) (N := 13) (v := .ref (ad 4)) F hP 3 rfl rfl inX8_watch_X0 12 (by decide) (List.mem_of_getElem? (i := 3) rfl) rfl dX8_watch_62 ?_
          refine g_get (ci := 4) (C := RX4) (T := TX4) (N := 4) (v := .int z52.2.1) F hP 4 rfl rfl inX8_watch_X4 3 (by decide) (List.mem_of_getElem? (i := 4) rfl) rfl dX8_watch_65 ?_
          refine lv_goto (tgt := 73) hx hb dX8_watch_68 (by decide) ?_
          exact ret_i hx hb hr hlk dX8_watch_73 hM hP hS
      · have hM := if_nn hc hM
        refine lv_bipush (v := -3) hx hb dX8_watch_39 (by decide) ?_
        exact ret_i hx hb hr hlk dX8_watch_41 hM hP hS
    · have hM := if_pp hc hM
      refine lv_bipush (v := -2) hx hb dX8_watch_22 (by decide) ?_
      exact ret_i hx hb hr hlk dX8_watch_24 hM hP hS
  · have hM := if_pp hc hM
    refine lv_iconst (v := -1) hx hb dX8_watch_11 (by decide) ?_
    exact ret_i hx hb hr hlk dX8_watch_12 hM hP hS
theorem inX8_where_X0 : ∀ w ∈ wsX00, w ∈ wsX8_where := fun w h => List.mem_cons_of_mem _ (List.mem_append_left _ (List.mem_append_left _ (List.mem_append_right _ h)))
theorem inX8_where_X8 : ∀ w ∈ wsX80, w ∈ wsX8_where := fun w h => List.mem_cons_of_mem _ (List.mem_append_left _ (List.mem_append_left _ (List.mem_append_left _ (List.mem_append_right _ h))))
set_option maxHeartbeats 4000000 in
set_option maxRecDepth 100000 in
theorem c_X8_where (l : Launch) (dC : Nat → ClassId) (dI : Nat → Nat → Nat) (cI cC cZ : ClassId) (sa : Nat → Nat) (ad : Nat → Nat) (p : PT) (h : HT) (v : VT) (k1 : Int32) (h1 : HT) (v1 : VT) (k2 : Int32) (h2 : HT) (v2 : VT) (r : RT) (d : DT) (y : YT) (q : QT) (x1 : Int32) (x2 : Int32) (x3 : Int32) {res : Int32 × QT} (hM : M_X8_where h v q x1 x2 x3 = some res) : CTi l (dC, dI) [(cI, .int), (cC, .char), (cZ, .boolean)] sa yX8_where wsX8_where (rmd 6) [.ref (ad 0), .int x1, .int x2, .int x3] (wX cI cC ad p h v k1 h1 v1 k2 h2 v2 r d y q) (fun (uu : QT) => (wX cI cC ad p h v k1 h1 v1 k2 h2 v2 r d y uu)) res := by
  refine CTi.enter (own := RX8) (cc := cX8_where) (maxL := 6) (ret := (some .int)) (by decide) rfl rfl (Nat.le_of_ble_eq_true rfl) ?_
  intro pr e s m below meth c A F hr hlk hP hS ls hl
  obtain ⟨⟨hx, hb, hml, hown, hts⟩, hK, hDD, hA, hKC⟩ := id F
  have hl : lv_has ls 6 [(0, .ref (ad 0)), (1, .int x1), (2, .int x2), (3, .int x3)] := hl
  have hP : va_P (dC, dI) vwCl (wX cI cC ad p h v k1 h1 v1 k2 h2 v2 r d y q) s.heap := hP
  unfold M_X8_where at hM
  refine kloop (α := QT × Int32 × Int32) (res := res) (fun k a => M_X8_where_63 h v x1 x2 x3 k a) (fun rec a => M_X8_where_63b h v x1 x2 x3 rec a) (fun _ => rfl) (fun _ _ => rfl) F (fun a => (wX cI cC ad p h v k1 h1 v1 k2 h2 v2 r d y a.1)) (fun a => [(0, .ref (ad 0)), (1, .int x1), (2, .int x2), (3, .int x3), (4, .int a.2.1), (5, .int a.2.2)]) (fun a => []) 63 ?_ (fun j63 => ?_)
  · intro rc63 ih63 a63 H locs ls hP hS hl hM
    unfold M_X8_where_63b at hM
    refine kblk (α := QT × Int32 × Int32 × Int32) (res := res) (fun a => M_X8_where_103 h v x1 x2 x3 rc63 a) F (fun a => (wX cI cC ad p h v k1 h1 v1 k2 h2 v2 r d y a.1)) (fun a => [(0, .ref (ad 0)), (1, .int x1), (2, .int x2), (3, .int x3), (4, .int a.2.1), (5, .int a.2.2.1)]) (fun a => [.int a.2.2.2, .ref (ad 3), .ref (ad 28)]) 103 ?_ (fun j103 => ?_)
    · intro a103 H locs ls hP hS hl hM
      unfold M_X8_where_103 at hM
      obtain ⟨z103, hcr, hM⟩ := ob_s hM
      refine res_v (ws' := (wX cI cC ad p h v k1 h1 v1 k2 h2 v2 r d y z103)) F hP hS rfl [28, 29, 30, 3, 4, 5, 6, 7] rfl rfl rfl (runV_of (n := 2) (As := [.ref (ad 3), .int a103.2.2.2]) (rest := []) F hP hS rfl [28, 29, 30, 3, 4, 5, 6, 7] rfl rfl (c_X7_passMinute l dC dI cI cC cZ sa (ad 28) (ad 29) (ad 30) (ad 3) (ad 4) (ad 5) (ad 6) (ad 7) a103.1 h v a103.2.2.2 hcr _) gX8_where_X7_passMinute rfl (by decide +kernel) ⟨Nat.le_of_ble_eq_true rfl, Nat.le_of_ble_eq_true rfl⟩ 28 7 rfl rfl rfl hl.1 rfl (Nat.le_of_ble_eq_true rfl) dX8_where_103 ⟨Nat.zero_le _, Nat.zero_le _⟩) rfl (fun H locs hP hS => ?_)
      refine lv_iinc (v := (a103.2.2.1 + (1 : Int32))) (lv' := [(5, .int (a103.2.2.1 + (1 : Int32))), (0, .ref (ad 0)), (1, .int x1), (2, .int x2), (3, .int x3), (4, .int a103.2.1)]) hx hb dX8_where_106 hl (k := 5) rfl rfl (by decide) rfl (fun ls hl => ?_)
      refine lv_goto (tgt := 63) hx hb dX8_where_109 (by decide) ?_
      exact ih63 (z103, a103.2.1, (a103.2.2.1 + (1 : Int32))) _ _ _ hP hS (lv_sub hl [1, 2, 3, 4, 5, 0] rfl) hM
    refine lv_iload hx hb dX8_where_63 (lv_at hl 5 rfl) ?_
    refine lv_iload_n hx hb dX8_where_65 rfl (lv_at hl 2 rfl) ?_
    refine lv_icmp_ge (tgt := 112) hx hb dX8_where_66 (by decide) (fun hc => ?_) (fun hc => ?_)
    · have hM := if_pp hc hM
      refine lv_iload_n hx hb dX8_where_112 rfl (lv_at hl 3 rfl) ?_
      refine lv_if_ne (tgt := 126) hx hb dX8_where_113 (by decide) (fun hc => ?_) (fun hc => ?_)
      · have hM := if_nn hc hM
        refine lv_aload_n hx hb dX8_where_126 rfl (lv_at hl 0 rfl) ?_
        refine g_get (ci := 8) (C := RX8) (T := TX8) (N := 8) (v := .ref (ad 28)) F hP 0 rfl rfl inX8_where_X8 7 (by decide) (List.mem_of_getElem? (i := 2) rfl) rfl dX8_where_127 ?_
        obtain ⟨z130, hcr, hM⟩ := ob_s hM
        refine res_i0 F hP hS rfl [28, 29, 30] rfl rfl (runV_of (n := 0) (As := []) (rest := []) F hP hS rfl [28, 29, 30] rfl rfl (c_X7_walks l dC dI cI cC cZ sa (ad 28) (ad 29) (ad 30) a63.1 hcr _) gX8_where_X7_walks rfl (by decide +kernel) ⟨Nat.le_of_ble_eq_true rfl, Nat.le_of_ble_eq_true rfl⟩ 28 7 rfl rfl rfl hl.1 rfl (Nat.le_of_ble_eq_true rfl) dX8_where_130 ⟨Nat.zero_le _, Nat.zero_le _⟩) (fun H locs hP hS => ?_)
        exact ret_i hx hb hr hlk dX8_where_133 hM hP hS
      · have hM := if_pp hc hM
        refine lv_aload_n hx hb dX8_where_116 rfl (lv_at hl 0 rfl) ?_
        refine g_get (ci := 8) (C := RX8) (T := TX8) (N := 8) (v := .ref (ad 28)) F hP 0 rfl rfl inX8_where_X8 7 (by decide) (List.mem_of_getElem? (i := 2) rfl) rfl dX8_where_117 ?_
        obtain ⟨z120, hcr, hM⟩ := ob_s hM
        refine res_i0 F hP hS rfl [28, 29, 30] rfl rfl (runV_of (n := 0) (As := []) (rest := []) F hP hS rfl [28, 29, 30] rfl rfl (c_X7_possibleCells l dC dI cI cC cZ sa (ad 28) (ad 29) (ad 30) a63.1 hcr _) gX8_where_X7_possibleCells rfl (by decide +kernel) ⟨Nat.le_of_ble_eq_true rfl, Nat.le_of_ble_eq_true rfl⟩ 28 7 rfl rfl rfl hl.1 rfl (Nat.le_of_ble_eq_true rfl) dX8_where_120 ⟨Nat.zero_le _, Nat.zero_le _⟩) (fun H locs hP hS => ?_)
        refine lv_goto (tgt := 133) hx hb dX8_where_123 (by decide) ?_
        exact ret_i hx hb hr hlk dX8_where_133 hM hP hS
    · have hM := if_nn hc hM
      refine lv_aload_n hx hb dX8_where_69 rfl (lv_at hl 0 rfl) ?_
      refine g_get (ci := 8) (C := RX8) (T := TX8) (N := 8) (v := .ref (ad 28)) F hP 0 rfl rfl inX8_where_X8 7 (by decide) (List.mem_of_getElem? (i := 2) rfl) rfl dX8_where_70 ?_
      refine lv_aload_n hx hb dX8_where_73 rfl (lv_at hl 0 rfl) ?_
      refine g_get (ci := 8) (C := RX8) (T := TX8) (N := 8) (v := .ref (ad 3)) F hP 0 rfl rfl inX8_where_X8 1 (by decide) (List.mem_of_getElem? (i := 1) rfl) rfl dX8_where_74 ?_
      refine lv_iload_n hx hb dX8_where_77 rfl (lv_at hl 1 rfl) ?_
      refine lv_iload hx hb dX8_where_78 (lv_at hl 5 rfl) ?_
      obtain ⟨z80, hcr, hM⟩ := ob_s hM
      refine res_i0 F hP hS rfl [] rfl rfl (runS_of (n := 2) (As := [.int x1, .int a63.2.2]) (rest := [.ref (ad 3), .ref (ad 28)]) F hP hS rfl [] rfl rfl (c_X8_has l dC dI cI cC cZ sa x1 a63.2.2 hcr _) gX8_where_X8_has rfl (by decide +kernel) ⟨Nat.le_of_ble_eq_true rfl, Nat.le_of_ble_eq_true rfl⟩ rfl hl.1 rfl (Nat.le_of_ble_eq_true rfl) dX8_where_80 ⟨Nat.zero_le _, Nat.zero_le _⟩) (fun H locs hP hS => ?_)
      refine lv_if_eq (tgt := 101) hx hb dX8_where_83 (by decide) (fun hc => ?_) (fun hc => ?_)
      · have hM := if_pp hc hM
        refine lv_iload hx hb dX8_where_101 (lv_at hl 4 rfl) ?_
        exact j103 (a63.1, a63.2.1, a63.2.2, a63.2.1) _ _ _ hP hS (lv_sub hl [0, 1, 2, 3, 4, 5] rfl) hM
      · have hM := if_nn hc hM
        refine lv_aload_n hx hb dX8_where_86 rfl (lv_at hl 0 rfl) ?_
        refine g_get (ci := 8) (C := RX8) (T := TX8) (N := 8) (v := .ref (ad 3)) F hP 0 rfl rfl inX8_where_X8 1 (by decide) (List.mem_of_getElem? (i := 1) rfl) rfl dX8_where_87 ?_
        obtain ⟨z90, hcr, hM⟩ := ob_s hM
        refine res_i0 F hP hS rfl [3, 4, 5, 6, 7] rfl rfl (runV_of (n := 0) (As := []) (rest := [.ref (ad 3), .ref (ad 28)]) F hP hS rfl [3, 4, 5, 6, 7] rfl rfl (c_X0_open l dC dI cI cC cZ sa (ad 3) (ad 4) (ad 5) (ad 6) (ad 7) h v hcr _) gX8_where_X0_open rfl (by decide +kernel) ⟨Nat.le_of_ble_eq_true rfl, Nat.le_of_ble_eq_true rfl⟩ 3 0 rfl rfl rfl hl.1 rfl (Nat.le_of_ble_eq_true rfl) dX8_where_90 ⟨Nat.zero_le _, Nat.zero_le _⟩) (fun H locs hP hS => ?_)
        refine lv_iload hx hb dX8_where_93 (lv_at hl 4 rfl) ?_
        refine lv_iconst (v := -1) hx hb dX8_where_95 (by decide) ?_
        refine lv_ixor hx hb dX8_where_96 ?_
        refine lv_iand hx hb dX8_where_97 ?_
        refine lv_goto (tgt := 103) hx hb dX8_where_98 (by decide) ?_
        exact j103 (a63.1, a63.2.1, a63.2.2, (z90 &&& (a63.2.1 ^^^ (-1 : Int32)))) _ _ _ hP hS (lv_sub hl [0, 1, 2, 3, 4, 5] rfl) hM
  refine lv_iload_n hx hb dX8_where_0 rfl (lv_at hl 2 rfl) ?_
  refine lv_iconst (v := 0) hx hb dX8_where_1 (by decide) ?_
  refine lv_bipush (v := 8) hx hb dX8_where_2 (by decide) ?_
  obtain ⟨z4, hcr, hM⟩ := ob_s hM
  refine res_i0 F hP hS rfl [] rfl rfl (runS_of (n := 3) (As := [.int x2, .int (0 : Int32), .int (8 : Int32)]) (rest := []) F hP hS rfl [] rfl rfl (c_X8_within l dC dI cI cC cZ sa x2 (0 : Int32) (8 : Int32) hcr _) gX8_where_X8_within rfl (by decide +kernel) ⟨Nat.le_of_ble_eq_true rfl, Nat.le_of_ble_eq_true rfl⟩ rfl hl.1 rfl (Nat.le_of_ble_eq_true rfl) dX8_where_4 ⟨Nat.zero_le _, Nat.zero_le _⟩) (fun H locs hP hS => ?_)
  refine lv_if_eq (tgt := 34) hx hb dX8_where_7 (by decide) (fun hc => ?_) (fun hc => ?_)
  · have hM := if_pp hc hM
    refine lv_bipush (v := -2) hx hb dX8_where_34 (by decide) ?_
    exact ret_i hx hb hr hlk dX8_where_36 hM hP hS
  · have hM := if_nn hc hM
    refine lv_iload_n hx hb dX8_where_10 rfl (lv_at hl 1 rfl) ?_
    refine lv_iconst (v := 0) hx hb dX8_where_11 (by decide) ?_
    refine lv_iconst (v := 2) hx hb dX8_where_12 (by decide) ?_
    refine lv_iload_n hx hb dX8_where_13 rfl (lv_at hl 2 rfl) ?_
    obtain ⟨z14, hcr, hM⟩ := ob_s hM
    refine res_i0 F hP hS rfl [] rfl rfl (runS_of (n := 2) (As := [.int (2 : Int32), .int x2]) (rest := [.int (0 : Int32), .int x1]) F hP hS rfl [] rfl rfl (c_X8_power l dC dI cI cC cZ sa (2 : Int32) x2 hcr _) gX8_where_X8_power rfl (by decide +kernel) ⟨Nat.le_of_ble_eq_true rfl, Nat.le_of_ble_eq_true rfl⟩ rfl hl.1 rfl (Nat.le_of_ble_eq_true rfl) dX8_where_14 ⟨Nat.zero_le _, Nat.zero_le _⟩) (fun H locs hP hS => ?_)
    refine lv_iconst (v := 1) hx hb dX8_where_17 (by decide) ?_
    refine lv_isub hx hb dX8_where_18 ?_
    obtain ⟨z19, hcr, hM⟩ := ob_s hM
    refine res_i0 F hP hS rfl [] rfl rfl (runS_of (n := 3) (As := [.int x1, .int (0 : Int32), .int (z14 - (1 : Int32))]) (rest := []) F hP hS rfl [] rfl rfl (c_X8_within l dC dI cI cC cZ sa x1 (0 : Int32) (z14 - (1 : Int32)) hcr _) gX8_where_X8_within rfl (by decide +kernel) ⟨Nat.le_of_ble_eq_true rfl, Nat.le_of_ble_eq_true rfl⟩ rfl hl.1 rfl (Nat.le_of_ble_eq_true rfl) dX8_where_19 ⟨Nat.zero_le _, Nat.zero_le _⟩) (fun H locs hP hS => ?_)
    refine lv_if_eq (tgt := 34) hx hb dX8_where_22 (by decide) (fun hc => ?_) (fun hc => ?_)
    · have hM := if_pp hc hM
      refine lv_bipush (v := -2) hx hb dX8_where_34 (by decide) ?_
      exact ret_i hx hb hr hlk dX8_where_36 hM hP hS
    · have hM := if_nn hc hM
      refine lv_iload_n hx hb dX8_where_25 rfl (lv_at hl 3 rfl) ?_
      refine lv_iconst (v := 0) hx hb dX8_where_26 (by decide) ?_
      refine lv_iconst (v := 1) hx hb dX8_where_27 (by decide) ?_
      obtain ⟨z28, hcr, hM⟩ := ob_s hM
      refine res_i0 F hP hS rfl [] rfl rfl (runS_of (n := 3) (As := [.int x3, .int (0 : Int32), .int (1 : Int32)]) (rest := []) F hP hS rfl [] rfl rfl (c_X8_within l dC dI cI cC cZ sa x3 (0 : Int32) (1 : Int32) hcr _) gX8_where_X8_within rfl (by decide +kernel) ⟨Nat.le_of_ble_eq_true rfl, Nat.le_of_ble_eq_true rfl⟩ rfl hl.1 rfl (Nat.le_of_ble_eq_true rfl) dX8_where_28 ⟨Nat.zero_le _, Nat.zero_le _⟩) (fun H locs hP hS => ?_)
      refine lv_if_ne (tgt := 37) hx hb dX8_where_31 (by decide) (fun hc => ?_) (fun hc => ?_)
      · have hM := if_nn hc hM
        refine lv_aload_n hx hb dX8_where_37 rfl (lv_at hl 0 rfl) ?_
        refine g_get (ci := 8) (C := RX8) (T := TX8) (N := 8) (v := .ref (ad 3)) F hP 0 rfl rfl inX8_where_X8 1 (by decide) (List.mem_of_getElem? (i := 1) rfl) rfl dX8_where_38 ?_
        obtain ⟨z41, hcr, hM⟩ := ob_s hM
        refine res_i0 F hP hS rfl [3, 4, 5, 6, 7] rfl rfl (runV_of (n := 0) (As := []) (rest := []) F hP hS rfl [3, 4, 5, 6, 7] rfl rfl (c_X0_bareCells l dC dI cI cC cZ sa (ad 3) (ad 4) (ad 5) (ad 6) (ad 7) h v hcr _) gX8_where_X0_bareCells rfl (by decide +kernel) ⟨Nat.le_of_ble_eq_true rfl, Nat.le_of_ble_eq_true rfl⟩ 3 0 rfl rfl rfl hl.1 rfl (Nat.le_of_ble_eq_true rfl) dX8_where_41 ⟨Nat.zero_le _, Nat.zero_le _⟩) (fun H locs hP hS => ?_)
        refine lv_istore (lv' := [(4, .int z41), (0, .ref (ad 0)), (1, .int x1), (2, .int x2), (3, .int x3)]) hx hb dX8_where_44 hl (by decide) rfl (fun ls hl => ?_)
        refine lv_aload_n hx hb dX8_where_46 rfl (lv_at hl 1 rfl) ?_
        refine g_get (ci := 8) (C := RX8) (T := TX8) (N := 8) (v := .ref (ad 28)) F hP 0 rfl rfl inX8_where_X8 7 (by decide) (List.mem_of_getElem? (i := 2) rfl) rfl dX8_where_47 ?_
        refine lv_aload_n hx hb dX8_where_50 rfl (lv_at hl 1 rfl) ?_
        refine g_get (ci := 8) (C := RX8) (T := TX8) (N := 8) (v := .ref (ad 3)) F hP 0 rfl rfl inX8_where_X8 1 (by decide) (List.mem_of_getElem? (i := 1) rfl) rfl dX8_where_51 ?_
        refine g_get (ci := 0) (C := RX0) (T := TX0) (N := 13) (v := .int h.2.2.2.2.2.2.2.2.2.1) F hP 3 rfl rfl inX8_where_X0 9 (by decide) (List.mem_of_getElem? (i := 3) rfl) rfl dX8_where_54 ?_
        obtain ⟨z57, hcr, hM⟩ := ob_s hM
        refine res_v (ws' := (wX cI cC ad p h v k1 h1 v1 k2 h2 v2 r d y z57)) F hP hS rfl [28, 29, 30] rfl rfl rfl (runV_of (n := 1) (As := [.int h.2.2.2.2.2.2.2.2.2.1]) (rest := []) F hP hS rfl [28, 29, 30] rfl rfl (c_X7_begin l dC dI cI cC cZ sa (ad 28) (ad 29) (ad 30) q h.2.2.2.2.2.2.2.2.2.1 hcr _) gX8_where_X7_begin rfl (by decide +kernel) ⟨Nat.le_of_ble_eq_true rfl, Nat.le_of_ble_eq_true rfl⟩ 28 7 rfl rfl rfl hl.1 rfl (Nat.le_of_ble_eq_true rfl) dX8_where_57 ⟨Nat.zero_le _, Nat.zero_le _⟩) rfl (fun H locs hP hS => ?_)
        refine lv_iconst (v := 0) hx hb dX8_where_60 (by decide) ?_
        refine lv_istore (lv' := [(5, .int (0 : Int32)), (4, .int z41), (0, .ref (ad 0)), (1, .int x1), (2, .int x2), (3, .int x3)]) hx hb dX8_where_61 hl (by decide) rfl (fun ls hl => ?_)
        exact j63 200 (z57, z41, (0 : Int32)) _ _ _ hP hS (lv_sub hl [2, 3, 4, 5, 1, 0] rfl) hM
      · have hM := if_pp hc hM
        refine lv_bipush (v := -2) hx hb dX8_where_34 (by decide) ?_
        exact ret_i hx hb hr hlk dX8_where_36 hM hP hS
theorem inX8_wind_X3 : ∀ w ∈ wsX30, w ∈ wsX8_wind := fun w h => List.mem_cons_of_mem _ (List.mem_append_left _ (List.mem_append_left _ (List.mem_append_left _ (List.mem_append_left _ (List.mem_append_right _ h)))))
theorem inX8_wind_X8 : ∀ w ∈ wsX80, w ∈ wsX8_wind := fun w h => List.mem_cons_of_mem _ (List.mem_append_left _ (List.mem_append_left _ (List.mem_append_left _ (List.mem_append_left _ (List.mem_append_left _ (List.mem_append_right _ h))))))
set_option maxHeartbeats 4000000 in
set_option maxRecDepth 100000 in
theorem c_X8_wind (l : Launch) (dC : Nat → ClassId) (dI : Nat → Nat → Nat) (cI cC cZ : ClassId) (sa : Nat → Nat) (ad : Nat → Nat) (p : PT) (h : HT) (v : VT) (k1 : Int32) (h1 : HT) (v1 : VT) (k2 : Int32) (h2 : HT) (v2 : VT) (r : RT) (d : DT) (y : YT) (q : QT) (x1 : Int32) (x2 : Int32) {res : Int64 × RT × DT} (hM : M_X8_wind p h v r d x1 x2 = some res) : CTl l (dC, dI) [(cI, .int), (cC, .char), (cZ, .boolean)] sa yX8_wind wsX8_wind (rmd 8) [.ref (ad 0), .int x1, .int x2] (wX cI cC ad p h v k1 h1 v1 k2 h2 v2 r d y q) (fun (uu : RT × DT) => (wX cI cC ad p h v k1 h1 v1 k2 h2 v2 uu.1 uu.2 y q)) res := by
  refine CTl.enter (own := RX8) (cc := cX8_wind) (maxL := 4) (ret := (some .long)) (by decide) rfl rfl (Nat.le_of_ble_eq_true rfl) ?_
  intro pr e s m below meth c A F hr hlk hP hS ls hl
  obtain ⟨⟨hx, hb, hml, hown, hts⟩, hK, hDD, hA, hKC⟩ := id F
  have hl : lv_has ls 4 [(0, .ref (ad 0)), (1, .int x1), (2, .int x2)] := hl
  have hP : va_P (dC, dI) vwCl (wX cI cC ad p h v k1 h1 v1 k2 h2 v2 r d y q) s.heap := hP
  unfold M_X8_wind at hM
  refine kblk (α := RT × DT) (res := res) (fun a => M_X8_wind_19 p h v x1 x2 a) F (fun a => (wX cI cC ad p h v k1 h1 v1 k2 h2 v2 a.1 a.2 y q)) (fun a => [(0, .ref (ad 0))]) (fun a => []) 19 ?_ (fun j19 => ?_)
  · intro a19 H locs ls hP hS hl hM
    unfold M_X8_wind_19 at hM
    refine lv_ldc2 (v := -1000000000000000002) hx hb hown (hts _ (List.mem_of_getElem? (i := 1) rfl)) dX8_wind_19 ?_
    exact ret_l hx hb hr hlk dX8_wind_22 hM hP hS
  refine lv_iload_n hx hb dX8_wind_0 rfl (lv_at hl 1 rfl) ?_
  refine lv_iconst (v := 0) hx hb dX8_wind_1 (by decide) ?_
  refine lv_bipush (v := 10) hx hb dX8_wind_2 (by decide) ?_
  obtain ⟨z4, hcr, hM⟩ := ob_s hM
  refine res_i0 F hP hS rfl [] rfl rfl (runS_of (n := 3) (As := [.int x1, .int (0 : Int32), .int (10 : Int32)]) (rest := []) F hP hS rfl [] rfl rfl (c_X8_within l dC dI cI cC cZ sa x1 (0 : Int32) (10 : Int32) hcr _) gX8_wind_X8_within rfl (by decide +kernel) ⟨Nat.le_of_ble_eq_true rfl, Nat.le_of_ble_eq_true rfl⟩ rfl hl.1 rfl (Nat.le_of_ble_eq_true rfl) dX8_wind_4 ⟨Nat.zero_le _, Nat.zero_le _⟩) (fun H locs hP hS => ?_)
  refine lv_if_eq (tgt := 19) hx hb dX8_wind_7 (by decide) (fun hc => ?_) (fun hc => ?_)
  · have hM := if_pp hc hM
    exact j19 (r, d) _ _ _ hP hS (lv_sub hl [0] rfl) hM
  · have hM := if_nn hc hM
    refine lv_iload_n hx hb dX8_wind_10 rfl (lv_at hl 2 rfl) ?_
    refine lv_iconst (v := 0) hx hb dX8_wind_11 (by decide) ?_
    refine lv_iconst (v := 1) hx hb dX8_wind_12 (by decide) ?_
    obtain ⟨z13, hcr, hM⟩ := ob_s hM
    refine res_i0 F hP hS rfl [] rfl rfl (runS_of (n := 3) (As := [.int x2, .int (0 : Int32), .int (1 : Int32)]) (rest := []) F hP hS rfl [] rfl rfl (c_X8_within l dC dI cI cC cZ sa x2 (0 : Int32) (1 : Int32) hcr _) gX8_wind_X8_within rfl (by decide +kernel) ⟨Nat.le_of_ble_eq_true rfl, Nat.le_of_ble_eq_true rfl⟩ rfl hl.1 rfl (Nat.le_of_ble_eq_true rfl) dX8_wind_13 ⟨Nat.zero_le _, Nat.zero_le _⟩) (fun H locs hP hS => ?_)
    refine lv_if_ne (tgt := 23) hx hb dX8_wind_16 (by decide) (fun hc => ?_) (fun hc => ?_)
    · have hM := if_nn hc hM
      refine lv_aload_n hx hb dX8_wind_23 rfl (lv_at hl 0 rfl) ?_
      obtain ⟨z24, hcr, hM⟩ := ob_s hM
      refine res_i (ws' := (wX cI cC ad p h v k1 h1 v1 k2 h2 v2 z24.2.1 z24.2.2 y q)) F hP hS rfl [0, 1, 2, 3, 4, 5, 6, 7, 8, 9, 10, 11, 12, 13, 14, 15, 16, 17, 18, 19, 20, 21, 22, 23, 24, 25, 26, 27, 28, 29, 30] rfl rfl rfl (runV_of (n := 0) (As := []) (rest := []) F hP hS rfl [0, 1, 2, 3, 4, 5, 6, 7, 8, 9, 10, 11, 12, 13, 14, 15, 16, 17, 18, 19, 20, 21, 22, 23, 24, 25, 26, 27, 28, 29, 30] rfl rfl (c_X8_followWalk l dC dI cI cC cZ sa ad p h v k1 h1 v1 k2 h2 v2 r d y q hcr _) gX8_wind_X8_followWalk rfl (by decide +kernel) ⟨Nat.le_of_ble_eq_true rfl, Nat.le_of_ble_eq_true rfl⟩ 0 8 rfl rfl rfl hl.1 rfl (Nat.le_of_ble_eq_true rfl) dX8_wind_24 ⟨Nat.zero_le _, Nat.zero_le _⟩) rfl (fun H locs hP hS => ?_)
      refine lv_istore_n (lv' := [(3, .int z24.1), (0, .ref (ad 0)), (1, .int x1), (2, .int x2)]) hx hb dX8_wind_27 rfl hl (by decide) rfl (fun ls hl => ?_)
      refine lv_iload_n hx hb dX8_wind_28 rfl (lv_at hl 0 rfl) ?_
      refine lv_if_eq (tgt := 39) hx hb dX8_wind_29 (by decide) (fun hc => ?_) (fun hc => ?_)
      · have hM := if_pp hc hM
        refine lv_aload_n hx hb dX8_wind_39 rfl (lv_at hl 1 rfl) ?_
        refine g_get (ci := 8) (C := RX8) (T := TX8) (N := 8) (v := .ref (ad 24)) F hP 0 rfl rfl inX8_wind_X8 5 (by decide) (List.mem_of_getElem? (i := 3) rfl) rfl dX8_wind_40 ?_
        refine g_get (ci := 3) (C := RX3) (T := TX3) (N := 7) (v := .int z24.2.2.2.2.2.2.2.1) F hP 24 rfl rfl inX8_wind_X3 5 (by decide) (List.mem_of_getElem? (i := 4) rfl) rfl dX8_wind_43 ?_
        refine lv_bipush (v := 12) hx hb dX8_wind_46 (by decide) ?_
        refine lv_icmp_le (tgt := 55) hx hb dX8_wind_48 (by decide) (fun hc => ?_) (fun hc => ?_)
        · have hM := if_pp hc hM
          refine lv_aload_n hx hb dX8_wind_55 rfl (lv_at hl 1 rfl) ?_
          refine g_get (ci := 8) (C := RX8) (T := TX8) (N := 8) (v := .ref (ad 24)) F hP 0 rfl rfl inX8_wind_X8 5 (by decide) (List.mem_of_getElem? (i := 3) rfl) rfl dX8_wind_56 ?_
          refine g_get (ci := 3) (C := RX3) (T := TX3) (N := 7) (v := .int z24.2.2.2.2.2.2.1) F hP 24 rfl rfl inX8_wind_X3 4 (by decide) (List.mem_of_getElem? (i := 6) rfl) rfl dX8_wind_59 ?_
          refine lv_aload_n hx hb dX8_wind_62 rfl (lv_at hl 1 rfl) ?_
          refine g_get (ci := 8) (C := RX8) (T := TX8) (N := 8) (v := .ref (ad 24)) F hP 0 rfl rfl inX8_wind_X8 5 (by decide) (List.mem_of_getElem? (i := 3) rfl) rfl dX8_wind_63 ?_
          refine g_get (ci := 3) (C := RX3) (T := TX3) (N := 7) (v := .int z24.2.2.2.2.2.2.2.1) F hP 24 rfl rfl inX8_wind_X3 5 (by decide) (List.mem_of_getElem? (i := 4) rfl) rfl dX8_wind_66 ?_
          refine lv_icmp_le (tgt := 82) hx hb dX8_wind_69 (by decide) (fun hc => ?_) (fun hc => ?_)
          · have hM := if_pp hc hM
            refine lv_iload_n hx hb dX8_wind_82 rfl (lv_at hl 2 rfl) ?_
            refine lv_aload_n hx hb dX8_wind_83 rfl (lv_at hl 1 rfl) ?_
            refine g_get (ci := 8) (C := RX8) (T := TX8) (N := 8) (v := .ref (ad 24)) F hP 0 rfl rfl inX8_wind_X8 5 (by decide) (List.mem_of_getElem? (i := 3) rfl) rfl dX8_wind_84 ?_
            refine g_get (ci := 3) (C := RX3) (T := TX3) (N := 7) (v := .int z24.2.2.2.2.2.2.2.1) F hP 24 rfl rfl inX8_wind_X3 5 (by decide) (List.mem_of_getElem? (i := 4) rfl) rfl dX8_wind_87 ?_
            refine lv_iload_n hx hb dX8_wind_90 rfl (lv_at hl 3 rfl) ?_
            obtain ⟨z91, hcr, hM⟩ := ob_s hM
            refine res_l0 F hP hS rfl [] rfl rfl (runS_of (n := 3) (As := [.int x1, .int z24.2.2.2.2.2.2.2.1, .int x2]) (rest := []) F hP hS rfl [] rfl rfl (c_X8_powerOfTenths l dC dI cI cC cZ sa x1 z24.2.2.2.2.2.2.2.1 x2 hcr _) gX8_wind_X8_powerOfTenths rfl (by decide +kernel) ⟨Nat.le_of_ble_eq_true rfl, Nat.le_of_ble_eq_true rfl⟩ rfl hl.1 rfl (Nat.le_of_ble_eq_true rfl) dX8_wind_91 ⟨Nat.zero_le _, Nat.zero_le _⟩) (fun H locs hP hS => ?_)
            exact ret_l hx hb hr hlk dX8_wind_94 hM hP hS
          · have hM := if_nn hc hM
            refine lv_iload_n hx hb dX8_wind_72 rfl (lv_at hl 3 rfl) ?_
            refine lv_if_ne (tgt := 80) hx hb dX8_wind_73 (by decide) (fun hc => ?_) (fun hc => ?_)
            · have hM := if_nn hc hM
              refine lv_lconst (v := 1) hx hb dX8_wind_80 (by decide) ?_
              exact ret_l hx hb hr hlk dX8_wind_81 hM hP hS
            · have hM := if_pp hc hM
              refine lv_lconst (v := 0) hx hb dX8_wind_76 (by decide) ?_
              refine lv_goto (tgt := 81) hx hb dX8_wind_77 (by decide) ?_
              exact ret_l hx hb hr hlk dX8_wind_81 hM hP hS
        · have hM := if_nn hc hM
          refine lv_ldc2 (v := -1000000000000000004) hx hb hown (hts _ (List.mem_of_getElem? (i := 5) rfl)) dX8_wind_51 ?_
          exact ret_l hx hb hr hlk dX8_wind_54 hM hP hS
      · have hM := if_nn hc hM
        refine lv_ldc2 (v := -1000000000000000000) hx hb hown (hts _ (List.mem_of_getElem? (i := 2) rfl)) dX8_wind_32 ?_
        refine lv_iload_n hx hb dX8_wind_35 rfl (lv_at hl 0 rfl) ?_
        refine lv_i2l (v := z24.1.toInt64) hx hb dX8_wind_36 rfl ?_
        refine lv_ladd hx hb dX8_wind_37 ?_
        exact ret_l hx hb hr hlk dX8_wind_38 hM hP hS
    · have hM := if_pp hc hM
      exact j19 (r, d) _ _ _ hP hS (lv_sub hl [0] rfl) hM
theorem inX8_wipe_X8 : ∀ w ∈ wsX80, w ∈ wsX8_wipe := fun w h => List.mem_cons_of_mem _ (List.mem_append_left _ (List.mem_append_right _ h))
set_option maxHeartbeats 4000000 in
set_option maxRecDepth 100000 in
theorem c_X8_wipe (l : Launch) (dC : Nat → ClassId) (dI : Nat → Nat → Nat) (cI cC cZ : ClassId) (sa : Nat → Nat) (ad : Nat → Nat) (p : PT) (h : HT) (v : VT) (k1 : Int32) (h1 : HT) (v1 : VT) (k2 : Int32) (h2 : HT) (v2 : VT) (r : RT) (d : DT) (y : YT) (q : QT)  {res : Int32 × PT} (hM : M_X8_wipe p = some res) : CTi l (dC, dI) [(cI, .int), (cC, .char), (cZ, .boolean)] sa yX8_wipe wsX8_wipe (rmd 2) [.ref (ad 0)] (wX cI cC ad p h v k1 h1 v1 k2 h2 v2 r d y q) (fun (uu : PT) => (wX cI cC ad uu h v k1 h1 v1 k2 h2 v2 r d y q)) res := by
  refine CTi.enter (own := RX8) (cc := cX8_wipe) (maxL := 1) (ret := (some .int)) (by decide) rfl rfl (Nat.le_of_ble_eq_true rfl) ?_
  intro pr e s m below meth c A F hr hlk hP hS ls hl
  obtain ⟨⟨hx, hb, hml, hown, hts⟩, hK, hDD, hA, hKC⟩ := id F
  have hl : lv_has ls 1 [(0, .ref (ad 0))] := hl
  have hP : va_P (dC, dI) vwCl (wX cI cC ad p h v k1 h1 v1 k2 h2 v2 r d y q) s.heap := hP
  unfold M_X8_wipe at hM
  refine lv_aload_n hx hb dX8_wipe_0 rfl (lv_at hl 0 rfl) ?_
  refine g_get (ci := 8) (C := RX8) (T := TX8) (N := 8) (v := .ref (ad 1)) F hP 0 rfl rfl inX8_wipe_X8 0 (by decide) (List.mem_of_getElem? (i := 1) rfl) rfl dX8_wipe_1 ?_
  obtain ⟨z4, hcr, hM⟩ := ob_s hM
  refine res_i (ws' := (wX cI cC ad z4.2 h v k1 h1 v1 k2 h2 v2 r d y q)) F hP hS rfl [1, 2] rfl rfl rfl (runV_of (n := 0) (As := []) (rest := []) F hP hS rfl [1, 2] rfl rfl (c_X2_clear l dC dI cI cC cZ sa (ad 1) (ad 2) p hcr _) gX8_wipe_X2_clear rfl (by decide +kernel) ⟨Nat.le_of_ble_eq_true rfl, Nat.le_of_ble_eq_true rfl⟩ 1 2 rfl rfl rfl hl.1 rfl (Nat.le_of_ble_eq_true rfl) dX8_wipe_4 ⟨Nat.zero_le _, Nat.zero_le _⟩) rfl (fun H locs hP hS => ?_)
  exact ret_i hx hb hr hlk dX8_wipe_7 hM hP hS
theorem inX8_imageOf_X8 : ∀ w ∈ wsX80, w ∈ wsX8_imageOf := fun w h => List.mem_cons_of_mem _ (List.mem_append_right _ h)
set_option maxHeartbeats 4000000 in
set_option maxRecDepth 100000 in
theorem c_X8_imageOf0 (l : Launch) (dC : Nat → ClassId) (dI : Nat → Nat → Nat) (cI cC cZ : ClassId) (sa : Nat → Nat) (ad : Nat → Nat) (p : PT) (h : HT) (v : VT) (k1 : Int32) (h1 : HT) (v1 : VT) (k2 : Int32) (h2 : HT) (v2 : VT) (r : RT) (d : DT) (y : YT) (q : QT) (x1 : Int32) (hv : x1 = 0) : CTr l (dC, dI) [(cI, .int), (cC, .char), (cZ, .boolean)] sa yX8_imageOf wsX8_imageOf (rmd 1) [.ref (ad 0), .int x1] (wX cI cC ad p h v k1 h1 v1 k2 h2 v2 r d y q) (ad 8) := by
  refine CTr.enter (own := RX8) (cc := cX8_imageOf) (maxL := 2) (ret := (some (.object "CapHouse$Image"))) (by decide) rfl rfl (Nat.le_of_ble_eq_true rfl) ?_
  intro pr e s m below meth c A F hr hlk hP hS ls hl
  obtain ⟨⟨hx, hb, hml, hown, hts⟩, hK, hDD, hA, hKC⟩ := id F
  have hl : lv_has ls 2 [(0, .ref (ad 0)), (1, .int x1)] := hl
  refine lv_iload_n hx hb dX8_imageOf_0 rfl (lv_at hl 1 rfl) ?_
  refine lv_if_ne (tgt := 11) hx hb dX8_imageOf_1 (by decide) (fun hc => ?_) (fun hc => ?_)
  · exact absurd hv hc
  · refine lv_aload_n hx hb dX8_imageOf_4 rfl (lv_at hl 0 rfl) ?_
    refine g_get (ci := 8) (C := RX8) (T := TX8) (N := 8) (v := .ref (ad 8)) F hP 0 rfl rfl inX8_imageOf_X8 2 (by decide) (List.mem_of_getElem? (i := 1) rfl) rfl dX8_imageOf_5 ?_
    refine lv_goto (tgt := 15) hx hb dX8_imageOf_8 (by decide) ?_
    exact ret_r hx hb hr hlk dX8_imageOf_15 hP hS
set_option maxHeartbeats 4000000 in
set_option maxRecDepth 100000 in
theorem c_X8_imageOf1 (l : Launch) (dC : Nat → ClassId) (dI : Nat → Nat → Nat) (cI cC cZ : ClassId) (sa : Nat → Nat) (ad : Nat → Nat) (p : PT) (h : HT) (v : VT) (k1 : Int32) (h1 : HT) (v1 : VT) (k2 : Int32) (h2 : HT) (v2 : VT) (r : RT) (d : DT) (y : YT) (q : QT) (x1 : Int32) (hv : ¬ x1 = 0) : CTr l (dC, dI) [(cI, .int), (cC, .char), (cZ, .boolean)] sa yX8_imageOf wsX8_imageOf (rmd 1) [.ref (ad 0), .int x1] (wX cI cC ad p h v k1 h1 v1 k2 h2 v2 r d y q) (ad 14) := by
  refine CTr.enter (own := RX8) (cc := cX8_imageOf) (maxL := 2) (ret := (some (.object "CapHouse$Image"))) (by decide) rfl rfl (Nat.le_of_ble_eq_true rfl) ?_
  intro pr e s m below meth c A F hr hlk hP hS ls hl
  obtain ⟨⟨hx, hb, hml, hown, hts⟩, hK, hDD, hA, hKC⟩ := id F
  have hl : lv_has ls 2 [(0, .ref (ad 0)), (1, .int x1)] := hl
  refine lv_iload_n hx hb dX8_imageOf_0 rfl (lv_at hl 1 rfl) ?_
  refine lv_if_ne (tgt := 11) hx hb dX8_imageOf_1 (by decide) (fun hc => ?_) (fun hc => ?_)
  · refine lv_aload_n hx hb dX8_imageOf_11 rfl (lv_at hl 0 rfl) ?_
    refine g_get (ci := 8) (C := RX8) (T := TX8) (N := 8) (v := .ref (ad 14)) F hP 0 rfl rfl inX8_imageOf_X8 3 (by decide) (List.mem_of_getElem? (i := 2) rfl) rfl dX8_imageOf_12 ?_
    exact ret_r hx hb hr hlk dX8_imageOf_15 hP hS
  · exact absurd hc hv
theorem c_X8_image (l : Launch) (dC : Nat → ClassId) (dI : Nat → Nat → Nat) (cI cC cZ : ClassId) (sa : Nat → Nat) (ad : Nat → Nat) (p : PT) (h : HT) (v : VT) (k1 : Int32) (h1 : HT) (v1 : VT) (k2 : Int32) (h2 : HT) (v2 : VT) (r : RT) (d : DT) (y : YT) (q : QT) (x1 : Int32) {res : Int32 × Int32 × HT × VT × Int32 × HT × VT} (hM : M_X8_image h v k1 h1 v1 k2 h2 v2 x1 = some res) : CTi l (dC, dI) [(cI, .int), (cC, .char), (cZ, .boolean)] sa yX8_image wsX8_image (rmd 5) [.ref (ad 0), .int x1] (wX cI cC ad p h v k1 h1 v1 k2 h2 v2 r d y q) (fun (uu : Int32 × HT × VT × Int32 × HT × VT) => (wX cI cC ad p h v uu.1 uu.2.1 uu.2.2.1 uu.2.2.2.1 uu.2.2.2.2.1 uu.2.2.2.2.2 r d y q)) res := by
  unfold M_X8_image at hM
  by_cases hv : x1 = 0
  · exact c_X8_image0 l dC dI cI cC cZ sa ad p h v k1 h1 v1 k2 h2 v2 r d y q x1 hv (if_pp hv hM)
  · exact c_X8_image1 l dC dI cI cC cZ sa ad p h v k1 h1 v1 k2 h2 v2 r d y q x1 hv (if_nn hv hM)
theorem c_X8_restore (l : Launch) (dC : Nat → ClassId) (dI : Nat → Nat → Nat) (cI cC cZ : ClassId) (sa : Nat → Nat) (ad : Nat → Nat) (p : PT) (h : HT) (v : VT) (k1 : Int32) (h1 : HT) (v1 : VT) (k2 : Int32) (h2 : HT) (v2 : VT) (r : RT) (d : DT) (y : YT) (q : QT) (x1 : Int32) {res : Int32 × HT × VT} (hM : M_X8_restore h v k1 h1 v1 k2 h2 v2 x1 = some res) : CTi l (dC, dI) [(cI, .int), (cC, .char), (cZ, .boolean)] sa yX8_restore wsX8_restore (rmd 5) [.ref (ad 0), .int x1] (wX cI cC ad p h v k1 h1 v1 k2 h2 v2 r d y q) (fun (uu : HT × VT) => (wX cI cC ad p uu.1 uu.2 k1 h1 v1 k2 h2 v2 r d y q)) res := by
  unfold M_X8_restore at hM
  by_cases hv : x1 = 0
  · exact c_X8_restore0 l dC dI cI cC cZ sa ad p h v k1 h1 v1 k2 h2 v2 r d y q x1 hv (if_pp hv hM)
  · exact c_X8_restore1 l dC dI cI cC cZ sa ad p h v k1 h1 v1 k2 h2 v2 r d y q x1 hv (if_nn hv hM)
