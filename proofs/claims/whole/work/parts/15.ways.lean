/-! Walks, printed by wip/whole/gen.py -/
theorem inX5_cheapestBefore_X5 : ∀ w ∈ wsX50, w ∈ wsX5_cheapestBefore := fun w h => List.mem_cons_of_mem _ (List.mem_append_left _ (List.mem_append_right _ h))
set_option maxHeartbeats 4000000 in
set_option maxRecDepth 100000 in
theorem c_X5_cheapestBefore (l : Launch) (dC : Nat → ClassId) (dI : Nat → Nat → Nat) (cI cC cZ : ClassId) (sa : Nat → Nat) (y0 y1 y2 h0 v0 v1 v2 v3 : Nat) (y : YT) (h : HT) (v : VT) (x2 : Int32) (x3 : Int32) {res : Int32} (hM : M_X5_cheapestBefore y h x2 x3 = some res) : CTi l (dC, dI) [(cI, .int), (cC, .char), (cZ, .boolean)] sa yX5_cheapestBefore wsX5_cheapestBefore (rmd 3) [.ref y0, .ref h0, .int x2, .int x3] (wWays cI y0 y1 y2 y ++ wHouse cI h0 v0 v1 v2 v3 h v) (fun (_ : Unit) => (wWays cI y0 y1 y2 y ++ wHouse cI h0 v0 v1 v2 v3 h v)) (res, ()) := by
  refine CTi.enter (own := RX5) (cc := cX5_cheapestBefore) (maxL := 7) (ret := (some .int)) (by decide) rfl rfl (Nat.le_of_ble_eq_true rfl) ?_
  intro pr e s m below meth c A F hr hlk hP hS ls hl
  obtain ⟨⟨hx, hb, hml, hown, hts⟩, hK, hDD, hA, hKC⟩ := id F
  have hl : lv_has ls 7 [(0, .ref y0), (1, .ref h0), (2, .int x2), (3, .int x3)] := hl
  have hP : va_P (dC, dI) vwCl (wWays cI y0 y1 y2 y ++ wHouse cI h0 v0 v1 v2 v3 h v) s.heap := hP
  unfold M_X5_cheapestBefore at hM
  refine kloop (α := Int32 × Int32) (res := res) (fun k a => M_X5_cheapestBefore_7 y h x2 x3 k a) (fun rec a => M_X5_cheapestBefore_7b y h x2 x3 rec a) (fun _ => rfl) (fun _ _ => rfl) F (fun a => (wWays cI y0 y1 y2 y ++ wHouse cI h0 v0 v1 v2 v3 h v)) (fun a => [(0, .ref y0), (1, .ref h0), (2, .int x2), (3, .int x3), (4, .int a.1), (5, .int a.2)]) (fun a => []) 7 ?_ (fun j7 => ?_)
  · intro rc7 ih7 a7 H locs ls hP hS hl hM
    unfold M_X5_cheapestBefore_7b at hM
    refine kblk (α := Int32 × Int32) (res := res) (fun a => M_X5_cheapestBefore_51 y h x2 x3 rc7 a) F (fun a => (wWays cI y0 y1 y2 y ++ wHouse cI h0 v0 v1 v2 v3 h v)) (fun a => [(0, .ref y0), (1, .ref h0), (2, .int x2), (3, .int x3), (4, .int a.1), (5, .int a.2)]) (fun a => []) 51 ?_ (fun j51 => ?_)
    · intro a51 H locs ls hP hS hl hM
      unfold M_X5_cheapestBefore_51 at hM
      refine lv_iinc (v := (a51.2 + (1 : Int32))) (lv' := [(5, .int (a51.2 + (1 : Int32))), (0, .ref y0), (1, .ref h0), (2, .int x2), (3, .int x3), (4, .int a51.1)]) hx hb dX5_cheapestBefore_51 hl (k := 5) rfl rfl (by decide) rfl (fun ls hl => ?_)
      refine lv_goto (tgt := 7) hx hb dX5_cheapestBefore_54 (by decide) ?_
      exact ih7 (a51.1, (a51.2 + (1 : Int32))) _ _ _ hP hS (lv_sub hl [1, 2, 3, 4, 5, 0] rfl) hM
    refine lv_iload hx hb dX5_cheapestBefore_7 (lv_at hl 5 rfl) ?_
    refine lv_iconst (v := 4) hx hb dX5_cheapestBefore_9 (by decide) ?_
    refine lv_icmp_ge (tgt := 57) hx hb dX5_cheapestBefore_10 (by decide) (fun hc => ?_) (fun hc => ?_)
    · have hM := if_pp hc hM
      refine lv_iload hx hb dX5_cheapestBefore_57 (lv_at hl 4 rfl) ?_
      exact ret_i hx hb hr hlk dX5_cheapestBefore_59 (some_u hM) hP hS
    · have hM := if_nn hc hM
      refine lv_aload_n hx hb dX5_cheapestBefore_13 rfl (lv_at hl 1 rfl) ?_
      refine lv_iload_n hx hb dX5_cheapestBefore_14 rfl (lv_at hl 2 rfl) ?_
      obtain ⟨z15, hcr, hM⟩ := ob_s hM
      refine res_i0 F hP hS rfl [] rfl rfl (runN_of (n := 1) (As := [.int x2]) (rest := [.ref h0]) F hP hS rfl [] rfl rfl (c_X8_bit l dC dI cI cC cZ sa x2 hcr _) gX5_cheapestBefore_X8_bit_n71 rfl 15 rfl (hts _ (List.mem_of_getElem? (i := 7) rfl)) (hts _ (List.mem_of_getElem? (i := 6) rfl)) (by decide +kernel) ⟨Nat.le_of_ble_eq_true rfl, Nat.le_of_ble_eq_true rfl⟩ rfl hl.1 rfl (Nat.le_of_ble_eq_true rfl) dX5_cheapestBefore_15 ⟨Nat.zero_le _, Nat.zero_le _⟩) (fun H locs hP hS => ?_)
      refine lv_iload hx hb dX5_cheapestBefore_18 (lv_at hl 5 rfl) ?_
      obtain ⟨z20, hcr, hM⟩ := ob_s hM
      refine res_i0 F hP hS rfl [3, 4, 5, 6, 7] rfl rfl (runV_of (n := 2) (As := [.int z15, .int a7.2]) (rest := []) F hP hS rfl [3, 4, 5, 6, 7] rfl rfl (c_X0_stepTo l dC dI cI cC cZ sa h0 v0 v1 v2 v3 h v z15 a7.2 hcr _) gX5_cheapestBefore_X0_stepTo rfl (by decide +kernel) ⟨Nat.le_of_ble_eq_true rfl, Nat.le_of_ble_eq_true rfl⟩ 3 0 rfl rfl rfl hl.1 rfl (Nat.le_of_ble_eq_true rfl) dX5_cheapestBefore_20 ⟨Nat.zero_le _, Nat.zero_le _⟩) (fun H locs hP hS => ?_)
      refine lv_iload_n hx hb dX5_cheapestBefore_23 rfl (lv_at hl 3 rfl) ?_
      refine lv_iand hx hb dX5_cheapestBefore_24 ?_
      refine lv_istore (lv' := [(6, .int (z20 &&& x3)), (0, .ref y0), (1, .ref h0), (2, .int x2), (3, .int x3), (4, .int a7.1), (5, .int a7.2)]) hx hb dX5_cheapestBefore_25 hl (by decide) rfl (fun ls hl => ?_)
      refine lv_iload hx hb dX5_cheapestBefore_27 (lv_at hl 0 rfl) ?_
      refine lv_if_eq (tgt := 51) hx hb dX5_cheapestBefore_29 (by decide) (fun hc => ?_) (fun hc => ?_)
      · have hM := if_pp hc hM
        exact j51 (a7.1, a7.2) _ _ _ hP hS (lv_sub hl [1, 2, 3, 4, 5, 6] rfl) hM
      · have hM := if_nn hc hM
        refine lv_iload hx hb dX5_cheapestBefore_32 (lv_at hl 5 rfl) ?_
        refine lv_aload_n hx hb dX5_cheapestBefore_34 rfl (lv_at hl 1 rfl) ?_
        refine g_get (ci := 5) (C := RX5) (T := TX5) (N := 2) (v := .ref y2) F hP 0 rfl rfl inX5_cheapestBefore_X5 1 (by decide) (List.mem_of_getElem? (i := 1) rfl) rfl dX5_cheapestBefore_35 ?_
        refine lv_iload hx hb dX5_cheapestBefore_38 (lv_at hl 0 rfl) ?_
        obtain ⟨z40, hcr, hM⟩ := ob_s hM
        refine res_i0 F hP hS rfl [] rfl rfl (runN_of (n := 1) (As := [.int (z20 &&& x3)]) (rest := [.ref y2, .int a7.1]) F hP hS rfl [] rfl rfl (c_X8_cellOf l dC dI cI cC cZ sa (z20 &&& x3) hcr _) gX5_cheapestBefore_X8_cellOf_n74 rfl 16 rfl (hts _ (List.mem_of_getElem? (i := 7) rfl)) (hts _ (List.mem_of_getElem? (i := 27) rfl)) (by decide +kernel) ⟨Nat.le_of_ble_eq_true rfl, Nat.le_of_ble_eq_true rfl⟩ rfl hl.1 rfl (Nat.le_of_ble_eq_true rfl) dX5_cheapestBefore_40 ⟨Nat.zero_le _, Nat.zero_le _⟩) (fun H locs hP hS => ?_)
        obtain ⟨z43, hcr, hM⟩ := ob_s hM
        refine res_i0 F hP hS rfl [2] rfl rfl (runN_of (n := 2) (As := [.ref y2, .int z40]) (rest := [.int a7.1]) F hP hS rfl [2] rfl rfl (c_X8_at l dC dI cI cC cZ sa y2 16 y.2 z40 hcr _) gX5_cheapestBefore_X8_at_n28 rfl 13 rfl (hts _ (List.mem_of_getElem? (i := 7) rfl)) (hts _ (List.mem_of_getElem? (i := 36) rfl)) (by decide +kernel) ⟨Nat.le_of_ble_eq_true rfl, Nat.le_of_ble_eq_true rfl⟩ rfl hl.1 rfl (Nat.le_of_ble_eq_true rfl) dX5_cheapestBefore_43 ⟨Nat.zero_le _, Nat.zero_le _⟩) (fun H locs hP hS => ?_)
        refine va_mmin hx hb (hml.trans hl.1.symm) hown (hts _ (List.mem_of_getElem? (i := 2) rfl)) (hts _ (List.mem_of_getElem? (i := 3) rfl)) (hts _ (List.mem_of_getElem? (i := 4) rfl)) (hts _ (List.mem_of_getElem? (i := 5) rfl)) (Nat.le_of_ble_eq_true rfl) (Nat.le_of_ble_eq_true rfl) (Nat.zero_le _) (Nat.zero_le _) dX5_cheapestBefore_46 ?_
        refine lv_istore (lv' := [(4, .int (if z43 < a7.1 then z43 else a7.1)), (6, .int (z20 &&& x3)), (0, .ref y0), (1, .ref h0), (2, .int x2), (3, .int x3), (5, .int a7.2)]) hx hb dX5_cheapestBefore_49 hl (by decide) rfl (fun ls hl => ?_)
        exact j51 ((if z43 < a7.1 then z43 else a7.1), a7.2) _ _ _ hP hS (lv_sub hl [2, 3, 4, 5, 0, 6] rfl) hM
  refine lv_bipush (v := 16) hx hb dX5_cheapestBefore_0 (by decide) ?_
  refine lv_istore (lv' := [(4, .int (16 : Int32)), (0, .ref y0), (1, .ref h0), (2, .int x2), (3, .int x3)]) hx hb dX5_cheapestBefore_2 hl (by decide) rfl (fun ls hl => ?_)
  refine lv_iconst (v := 0) hx hb dX5_cheapestBefore_4 (by decide) ?_
  refine lv_istore (lv' := [(5, .int (0 : Int32)), (4, .int (16 : Int32)), (0, .ref y0), (1, .ref h0), (2, .int x2), (3, .int x3)]) hx hb dX5_cheapestBefore_5 hl (by decide) rfl (fun ls hl => ?_)
  exact j7 200 ((16 : Int32), (0 : Int32)) _ _ _ hP hS (lv_sub hl [2, 3, 4, 5, 1, 0] rfl) hM
theorem inX5_costLayer_X5 : ∀ w ∈ wsX50, w ∈ wsX5_costLayer := fun w h => List.mem_cons_of_mem _ (List.mem_append_left _ (List.mem_append_right _ h))
set_option maxHeartbeats 4000000 in
set_option maxRecDepth 100000 in
theorem c_X5_costLayer (l : Launch) (dC : Nat → ClassId) (dI : Nat → Nat → Nat) (cI cC cZ : ClassId) (sa : Nat → Nat) (y0 y1 y2 h0 v0 v1 v2 v3 : Nat) (y : YT) (h : HT) (v : VT) (x2 : Int32) (x3 : Int32) {res : YT} (hM : M_X5_costLayer y h x2 x3 = some res) : CTv l (dC, dI) [(cI, .int), (cC, .char), (cZ, .boolean)] sa yX5_costLayer wsX5_costLayer (rmd 4) [.ref y0, .ref h0, .int x2, .int x3] (wWays cI y0 y1 y2 y ++ wHouse cI h0 v0 v1 v2 v3 h v) (fun (uu : YT) => (wWays cI y0 y1 y2 uu ++ wHouse cI h0 v0 v1 v2 v3 h v)) res := by
  refine CTv.enter (own := RX5) (cc := cX5_costLayer) (maxL := 5) (ret := none) (by decide) rfl rfl (Nat.le_of_ble_eq_true rfl) ?_
  intro pr e s m below meth c A F hr hlk hP hS ls hl
  obtain ⟨⟨hx, hb, hml, hown, hts⟩, hK, hDD, hA, hKC⟩ := id F
  have hl : lv_has ls 5 [(0, .ref y0), (1, .ref h0), (2, .int x2), (3, .int x3)] := hl
  have hP : va_P (dC, dI) vwCl (wWays cI y0 y1 y2 y ++ wHouse cI h0 v0 v1 v2 v3 h v) s.heap := hP
  unfold M_X5_costLayer at hM
  refine kloop (α := YT × Int32) (res := res) (fun k a => M_X5_costLayer_3 h x2 x3 k a) (fun rec a => M_X5_costLayer_3b h x2 x3 rec a) (fun _ => rfl) (fun _ _ => rfl) F (fun a => (wWays cI y0 y1 y2 a.1 ++ wHouse cI h0 v0 v1 v2 v3 h v)) (fun a => [(0, .ref y0), (1, .ref h0), (2, .int x2), (3, .int x3), (4, .int a.2)]) (fun a => []) 3 ?_ (fun j3 => ?_)
  · intro rc3 ih3 a3 H locs ls hP hS hl hM
    unfold M_X5_costLayer_3b at hM
    refine kblk (α := YT × Int32) (res := res) (fun a => M_X5_costLayer_68 h x2 x3 rc3 a) F (fun a => (wWays cI y0 y1 y2 a.1 ++ wHouse cI h0 v0 v1 v2 v3 h v)) (fun a => [(0, .ref y0), (1, .ref h0), (2, .int x2), (3, .int x3), (4, .int a.2)]) (fun a => []) 68 ?_ (fun j68 => ?_)
    · intro a68 H locs ls hP hS hl hM
      unfold M_X5_costLayer_68 at hM
      refine lv_iinc (v := (a68.2 + (1 : Int32))) (lv' := [(4, .int (a68.2 + (1 : Int32))), (0, .ref y0), (1, .ref h0), (2, .int x2), (3, .int x3)]) hx hb dX5_costLayer_68 hl (k := 4) rfl rfl (by decide) rfl (fun ls hl => ?_)
      refine lv_goto (tgt := 3) hx hb dX5_costLayer_71 (by decide) ?_
      exact ih3 (a68.1, (a68.2 + (1 : Int32))) _ _ _ hP hS (lv_sub hl [1, 2, 3, 4, 0] rfl) hM
    refine kblk (α := YT × Int32 × Int32 × Int32 × Int32) (res := res) (fun a => M_X5_costLayer_66 h x2 x3 rc3 a) F (fun a => (wWays cI y0 y1 y2 a.1 ++ wHouse cI h0 v0 v1 v2 v3 h v)) (fun a => [(0, .ref y0), (1, .ref h0), (2, .int x2), (3, .int x3), (4, .int a.2.1)]) (fun a => [.int a.2.2.1, .int a.2.2.2.1, .int a.2.2.2.2, .ref y2]) 66 ?_ (fun j66 => ?_)
    · intro a66 H locs ls hP hS hl hM
      unfold M_X5_costLayer_66 at hM
      refine lv_iadd hx hb dX5_costLayer_66 ?_
      obtain ⟨hin, hM⟩ := if_ok hM
      refine g_iast (ws' := (wWays cI y0 y1 y2 (a66.1.1, (upd a66.1.2 a66.2.2.2.2.toNatClampNeg (a66.2.2.2.1 + a66.2.2.1))) ++ wHouse cI h0 v0 v1 v2 v3 h v)) F hP hS rfl 2 0 rfl rfl hin dX5_costLayer_67 rfl (fun H locs hP hS => ?_)
      exact j68 ((a66.1.1, (upd a66.1.2 a66.2.2.2.2.toNatClampNeg (a66.2.2.2.1 + a66.2.2.1))), a66.2.1) _ _ _ hP hS (lv_sub hl [0, 1, 2, 3, 4] rfl) hM
    refine lv_iload hx hb dX5_costLayer_3 (lv_at hl 4 rfl) ?_
    refine lv_aload_n hx hb dX5_costLayer_5 rfl (lv_at hl 0 rfl) ?_
    refine g_get (ci := 5) (C := RX5) (T := TX5) (N := 2) (v := .ref y2) F hP 0 rfl rfl inX5_costLayer_X5 1 (by decide) (List.mem_of_getElem? (i := 1) rfl) rfl dX5_costLayer_6 ?_
    refine va_alen (v := (nI 16)) hx hb hK hP 2 0 rfl rfl rfl dX5_costLayer_9 ?_
    refine lv_icmp_ge (tgt := 74) hx hb dX5_costLayer_10 (by decide) (fun hc => ?_) (fun hc => ?_)
    · have hM := if_pp hc hM
      exact ret_v hx hb hr hlk dX5_costLayer_74 hM hP hS
    · have hM := if_nn hc hM
      refine lv_aload_n hx hb dX5_costLayer_13 rfl (lv_at hl 0 rfl) ?_
      refine g_get (ci := 5) (C := RX5) (T := TX5) (N := 2) (v := .ref y1) F hP 0 rfl rfl inX5_costLayer_X5 0 (by decide) (List.mem_of_getElem? (i := 2) rfl) rfl dX5_costLayer_14 ?_
      refine lv_iload_n hx hb dX5_costLayer_17 rfl (lv_at hl 2 rfl) ?_
      obtain ⟨z18, hcr, hM⟩ := ob_s hM
      refine res_i0 F hP hS rfl [1] rfl rfl (runN_of (n := 2) (As := [.ref y1, .int x2]) (rest := []) F hP hS rfl [1] rfl rfl (c_X8_at l dC dI cI cC cZ sa y1 16 a3.1.1 x2 hcr _) gX5_costLayer_X8_at_n28 rfl 13 rfl (hts _ (List.mem_of_getElem? (i := 4) rfl)) (hts _ (List.mem_of_getElem? (i := 3) rfl)) (by decide +kernel) ⟨Nat.le_of_ble_eq_true rfl, Nat.le_of_ble_eq_true rfl⟩ rfl hl.1 rfl (Nat.le_of_ble_eq_true rfl) dX5_costLayer_18 ⟨Nat.zero_le _, Nat.zero_le _⟩) (fun H locs hP hS => ?_)
      refine lv_iload hx hb dX5_costLayer_21 (lv_at hl 4 rfl) ?_
      obtain ⟨z23, hcr, hM⟩ := ob_s hM
      refine res_i0 F hP hS rfl [] rfl rfl (runN_of (n := 2) (As := [.int z18, .int a3.2]) (rest := []) F hP hS rfl [] rfl rfl (c_X8_has l dC dI cI cC cZ sa z18 a3.2 hcr _) gX5_costLayer_X8_has_n67 rfl 14 rfl (hts _ (List.mem_of_getElem? (i := 4) rfl)) (hts _ (List.mem_of_getElem? (i := 6) rfl)) (by decide +kernel) ⟨Nat.le_of_ble_eq_true rfl, Nat.le_of_ble_eq_true rfl⟩ rfl hl.1 rfl (Nat.le_of_ble_eq_true rfl) dX5_costLayer_23 ⟨Nat.zero_le _, Nat.zero_le _⟩) (fun H locs hP hS => ?_)
      refine lv_if_eq (tgt := 68) hx hb dX5_costLayer_26 (by decide) (fun hc => ?_) (fun hc => ?_)
      · have hM := if_pp hc hM
        exact j68 (a3.1, a3.2) _ _ _ hP hS (lv_sub hl [0, 1, 2, 3, 4] rfl) hM
      · have hM := if_nn hc hM
        refine lv_aload_n hx hb dX5_costLayer_29 rfl (lv_at hl 0 rfl) ?_
        refine g_get (ci := 5) (C := RX5) (T := TX5) (N := 2) (v := .ref y2) F hP 0 rfl rfl inX5_costLayer_X5 1 (by decide) (List.mem_of_getElem? (i := 1) rfl) rfl dX5_costLayer_30 ?_
        refine lv_iload hx hb dX5_costLayer_33 (lv_at hl 4 rfl) ?_
        refine lv_aload_n hx hb dX5_costLayer_35 rfl (lv_at hl 0 rfl) ?_
        refine lv_aload_n hx hb dX5_costLayer_36 rfl (lv_at hl 1 rfl) ?_
        refine lv_iload hx hb dX5_costLayer_37 (lv_at hl 4 rfl) ?_
        refine lv_aload_n hx hb dX5_costLayer_39 rfl (lv_at hl 0 rfl) ?_
        refine g_get (ci := 5) (C := RX5) (T := TX5) (N := 2) (v := .ref y1) F hP 0 rfl rfl inX5_costLayer_X5 0 (by decide) (List.mem_of_getElem? (i := 2) rfl) rfl dX5_costLayer_40 ?_
        refine lv_iload_n hx hb dX5_costLayer_43 rfl (lv_at hl 2 rfl) ?_
        refine lv_iconst (v := 1) hx hb dX5_costLayer_44 (by decide) ?_
        refine lv_isub hx hb dX5_costLayer_45 ?_
        obtain ⟨z46, hcr, hM⟩ := ob_s hM
        refine res_i0 F hP hS rfl [1] rfl rfl (runN_of (n := 2) (As := [.ref y1, .int (x2 - (1 : Int32))]) (rest := [.int a3.2, .ref h0, .ref y0, .int a3.2, .ref y2]) F hP hS rfl [1] rfl rfl (c_X8_at l dC dI cI cC cZ sa y1 16 a3.1.1 (x2 - (1 : Int32)) hcr _) gX5_costLayer_X8_at_n28 rfl 13 rfl (hts _ (List.mem_of_getElem? (i := 4) rfl)) (hts _ (List.mem_of_getElem? (i := 3) rfl)) (by decide +kernel) ⟨Nat.le_of_ble_eq_true rfl, Nat.le_of_ble_eq_true rfl⟩ rfl hl.1 rfl (Nat.le_of_ble_eq_true rfl) dX5_costLayer_46 ⟨Nat.zero_le _, Nat.zero_le _⟩) (fun H locs hP hS => ?_)
        obtain ⟨z49, hcr, hM⟩ := ob_s hM
        refine res_i0 F hP hS rfl [0, 1, 2, 3, 4, 5, 6, 7] rfl rfl (runV_of (n := 3) (As := [.ref h0, .int a3.2, .int z46]) (rest := [.int a3.2, .ref y2]) F hP hS rfl [0, 1, 2, 3, 4, 5, 6, 7] rfl rfl (c_X5_cheapestBefore l dC dI cI cC cZ sa y0 y1 y2 h0 v0 v1 v2 v3 a3.1 h v a3.2 z46 hcr _) gX5_costLayer_X5_cheapestBefore rfl (by decide +kernel) ⟨Nat.le_of_ble_eq_true rfl, Nat.le_of_ble_eq_true rfl⟩ 0 5 rfl rfl rfl hl.1 rfl (Nat.le_of_ble_eq_true rfl) dX5_costLayer_49 ⟨Nat.zero_le _, Nat.zero_le _⟩) (fun H locs hP hS => ?_)
        refine lv_iload_n hx hb dX5_costLayer_52 rfl (lv_at hl 3 rfl) ?_
        refine lv_iload hx hb dX5_costLayer_53 (lv_at hl 4 rfl) ?_
        obtain ⟨z55, hcr, hM⟩ := ob_s hM
        refine res_i0 F hP hS rfl [] rfl rfl (runN_of (n := 2) (As := [.int x3, .int a3.2]) (rest := [.int z49, .int a3.2, .ref y2]) F hP hS rfl [] rfl rfl (c_X8_has l dC dI cI cC cZ sa x3 a3.2 hcr _) gX5_costLayer_X8_has_n67 rfl 14 rfl (hts _ (List.mem_of_getElem? (i := 4) rfl)) (hts _ (List.mem_of_getElem? (i := 6) rfl)) (by decide +kernel) ⟨Nat.le_of_ble_eq_true rfl, Nat.le_of_ble_eq_true rfl⟩ rfl hl.1 rfl (Nat.le_of_ble_eq_true rfl) dX5_costLayer_55 ⟨Nat.zero_le _, Nat.zero_le _⟩) (fun H locs hP hS => ?_)
        refine lv_if_eq (tgt := 65) hx hb dX5_costLayer_58 (by decide) (fun hc => ?_) (fun hc => ?_)
        · have hM := if_pp hc hM
          refine lv_iconst (v := 0) hx hb dX5_costLayer_65 (by decide) ?_
          exact j66 (a3.1, a3.2, (0 : Int32), z49, a3.2) _ _ _ hP hS (lv_sub hl [0, 1, 2, 3, 4] rfl) hM
        · have hM := if_nn hc hM
          refine lv_iconst (v := 1) hx hb dX5_costLayer_61 (by decide) ?_
          refine lv_goto (tgt := 66) hx hb dX5_costLayer_62 (by decide) ?_
          exact j66 (a3.1, a3.2, (1 : Int32), z49, a3.2) _ _ _ hP hS (lv_sub hl [0, 1, 2, 3, 4] rfl) hM
  refine lv_iconst (v := 0) hx hb dX5_costLayer_0 (by decide) ?_
  refine lv_istore (lv' := [(4, .int (0 : Int32)), (0, .ref y0), (1, .ref h0), (2, .int x2), (3, .int x3)]) hx hb dX5_costLayer_1 hl (by decide) rfl (fun ls hl => ?_)
  exact j3 200 (y, (0 : Int32)) _ _ _ hP hS (lv_sub hl [1, 2, 3, 4, 0] rfl) hM
theorem inX5_isCut_X0 : ∀ w ∈ wsX00, w ∈ wsX5_isCut := fun w h => List.mem_cons_of_mem _ (List.mem_append_right _ h)
set_option maxHeartbeats 4000000 in
set_option maxRecDepth 100000 in
theorem c_X5_isCut (l : Launch) (dC : Nat → ClassId) (dI : Nat → Nat → Nat) (cI cC cZ : ClassId) (sa : Nat → Nat) (h0 v0 v1 v2 v3 : Nat) (h : HT) (v : VT) (x2 : Int32) {res : Int32} (hM : M_X5_isCut h x2 = some res) : CTi l (dC, dI) [(cI, .int), (cC, .char), (cZ, .boolean)] sa yX5_isCut wsX5_isCut (rmd 3) [.ref h0, .int x2] (wHouse cI h0 v0 v1 v2 v3 h v) (fun (_ : Unit) => (wHouse cI h0 v0 v1 v2 v3 h v)) (res, ()) := by
  refine CTi.enter (own := RX5) (cc := cX5_isCut) (maxL := 6) (ret := (some .boolean)) (by decide) rfl rfl (Nat.le_of_ble_eq_true rfl) ?_
  intro pr e s m below meth c A F hr hlk hP hS ls hl
  obtain ⟨⟨hx, hb, hml, hown, hts⟩, hK, hDD, hA, hKC⟩ := id F
  have hl : lv_has ls 6 [(0, .ref h0), (1, .int x2)] := hl
  have hP : va_P (dC, dI) vwCl (wHouse cI h0 v0 v1 v2 v3 h v) s.heap := hP
  unfold M_X5_isCut at hM
  refine kblk (α := Int32) (res := res) (fun a => M_X5_isCut_64 h x2 a) F (fun a => (wHouse cI h0 v0 v1 v2 v3 h v)) (fun a => [(0, .ref h0), (3, .int a)]) (fun a => []) 64 ?_ (fun j64 => ?_)
  · intro a64 H locs ls hP hS hl hM
    unfold M_X5_isCut_64 at hM
    refine lv_iload_n hx hb dX5_isCut_64 rfl (lv_at hl 1 rfl) ?_
    refine lv_aload_n hx hb dX5_isCut_65 rfl (lv_at hl 0 rfl) ?_
    refine g_get (ci := 0) (C := RX0) (T := TX0) (N := 13) (v := .int h.2.2.2.2.2.2.2.2.2.2.1) F hP 0 rfl rfl inX5_isCut_X0 10 (by decide) (List.mem_of_getElem? (i := 2) rfl) rfl dX5_isCut_66 ?_
    obtain ⟨z69, hcr, hM⟩ := ob_s hM
    refine res_i0 F hP hS rfl [] rfl rfl (runN_of (n := 2) (As := [.int a64, .int h.2.2.2.2.2.2.2.2.2.2.1]) (rest := []) F hP hS rfl [] rfl rfl (c_X8_has l dC dI cI cC cZ sa a64 h.2.2.2.2.2.2.2.2.2.2.1 hcr _) gX5_isCut_X8_has_n67 rfl 14 rfl (hts _ (List.mem_of_getElem? (i := 11) rfl)) (hts _ (List.mem_of_getElem? (i := 13) rfl)) (by decide +kernel) ⟨Nat.le_of_ble_eq_true rfl, Nat.le_of_ble_eq_true rfl⟩ rfl hl.1 rfl (Nat.le_of_ble_eq_true rfl) dX5_isCut_69 ⟨Nat.zero_le _, Nat.zero_le _⟩) (fun H locs hP hS => ?_)
    refine lv_if_ne (tgt := 79) hx hb dX5_isCut_72 (by decide) (fun hc => ?_) (fun hc => ?_)
    · have hM := if_nn hc hM
      refine lv_iconst (v := 0) hx hb dX5_isCut_79 (by decide) ?_
      exact ret_z hx hb hr hlk dX5_isCut_80 (by decide) (some_u hM) hP hS
    · have hM := if_pp hc hM
      refine lv_iconst (v := 1) hx hb dX5_isCut_75 (by decide) ?_
      refine lv_goto (tgt := 80) hx hb dX5_isCut_76 (by decide) ?_
      exact ret_z hx hb hr hlk dX5_isCut_80 (by decide) (some_u hM) hP hS
  refine kloop (α := Int32 × Int32 × Int32) (res := res) (fun k a => M_X5_isCut_20 h x2 k a) (fun rec a => M_X5_isCut_20b h x2 rec a) (fun _ => rfl) (fun _ _ => rfl) F (fun a => (wHouse cI h0 v0 v1 v2 v3 h v)) (fun a => [(0, .ref h0), (2, .int a.1), (3, .int a.2.1), (4, .int a.2.2)]) (fun a => []) 20 ?_ (fun j20 => ?_)
  · intro rc20 ih20 a20 H locs ls hP hS hl hM
    unfold M_X5_isCut_20b at hM
    refine lv_iload hx hb dX5_isCut_20 (lv_at hl 3 rfl) ?_
    refine lv_bipush (v := 16) hx hb dX5_isCut_22 (by decide) ?_
    refine lv_icmp_ge (tgt := 64) hx hb dX5_isCut_24 (by decide) (fun hc => ?_) (fun hc => ?_)
    · have hM := if_pp hc hM
      exact j64 a20.2.1 _ _ _ hP hS (lv_sub hl [0, 2] rfl) hM
    · have hM := if_nn hc hM
      refine lv_iload_n hx hb dX5_isCut_27 rfl (lv_at hl 2 rfl) ?_
      refine lv_aload_n hx hb dX5_isCut_28 rfl (lv_at hl 0 rfl) ?_
      refine g_get (ci := 0) (C := RX0) (T := TX0) (N := 13) (v := .int h.2.2.2.2.2.2.2.2.2.2.1) F hP 0 rfl rfl inX5_isCut_X0 10 (by decide) (List.mem_of_getElem? (i := 2) rfl) rfl dX5_isCut_29 ?_
      obtain ⟨z32, hcr, hM⟩ := ob_s hM
      refine res_i0 F hP hS rfl [] rfl rfl (runN_of (n := 2) (As := [.int a20.2.1, .int h.2.2.2.2.2.2.2.2.2.2.1]) (rest := []) F hP hS rfl [] rfl rfl (c_X8_has l dC dI cI cC cZ sa a20.2.1 h.2.2.2.2.2.2.2.2.2.2.1 hcr _) gX5_isCut_X8_has_n67 rfl 14 rfl (hts _ (List.mem_of_getElem? (i := 11) rfl)) (hts _ (List.mem_of_getElem? (i := 13) rfl)) (by decide +kernel) ⟨Nat.le_of_ble_eq_true rfl, Nat.le_of_ble_eq_true rfl⟩ rfl hl.1 rfl (Nat.le_of_ble_eq_true rfl) dX5_isCut_32 ⟨Nat.zero_le _, Nat.zero_le _⟩) (fun H locs hP hS => ?_)
      refine lv_if_ne (tgt := 64) hx hb dX5_isCut_35 (by decide) (fun hc => ?_) (fun hc => ?_)
      · have hM := if_nn hc hM
        exact j64 a20.2.1 _ _ _ hP hS (lv_sub hl [0, 2] rfl) hM
      · have hM := if_pp hc hM
        refine lv_aload_n hx hb dX5_isCut_38 rfl (lv_at hl 0 rfl) ?_
        refine lv_iload_n hx hb dX5_isCut_39 rfl (lv_at hl 2 rfl) ?_
        obtain ⟨z40, hcr, hM⟩ := ob_s hM
        refine res_i0 F hP hS rfl [0, 1, 2, 3, 4] rfl rfl (runV_of (n := 1) (As := [.int a20.2.1]) (rest := []) F hP hS rfl [0, 1, 2, 3, 4] rfl rfl (c_X0_spread l dC dI cI cC cZ sa h0 v0 v1 v2 v3 h v a20.2.1 hcr _) gX5_isCut_X0_spread rfl (by decide +kernel) ⟨Nat.le_of_ble_eq_true rfl, Nat.le_of_ble_eq_true rfl⟩ 0 0 rfl rfl rfl hl.1 rfl (Nat.le_of_ble_eq_true rfl) dX5_isCut_40 ⟨Nat.zero_le _, Nat.zero_le _⟩) (fun H locs hP hS => ?_)
        refine lv_iload_n hx hb dX5_isCut_43 rfl (lv_at hl 1 rfl) ?_
        refine lv_iand hx hb dX5_isCut_44 ?_
        refine lv_istore (lv' := [(5, .int (z40 &&& a20.1)), (0, .ref h0), (2, .int a20.1), (3, .int a20.2.1), (4, .int a20.2.2)]) hx hb dX5_isCut_45 hl (by decide) rfl (fun ls hl => ?_)
        refine lv_iload hx hb dX5_isCut_47 (lv_at hl 0 rfl) ?_
        refine lv_iload_n hx hb dX5_isCut_49 rfl (lv_at hl 3 rfl) ?_
        refine lv_icmp_ne (tgt := 55) hx hb dX5_isCut_50 (by decide) (fun hc => ?_) (fun hc => ?_)
        · have hM := if_nn hc hM
          refine lv_iload hx hb dX5_isCut_55 (lv_at hl 0 rfl) ?_
          refine lv_istore_n (lv' := [(3, .int (z40 &&& a20.1)), (5, .int (z40 &&& a20.1)), (0, .ref h0), (2, .int a20.1), (4, .int a20.2.2)]) hx hb dX5_isCut_57 rfl hl (by decide) rfl (fun ls hl => ?_)
          refine lv_iinc (v := (a20.2.2 + (1 : Int32))) (lv' := [(4, .int (a20.2.2 + (1 : Int32))), (3, .int (z40 &&& a20.1)), (5, .int (z40 &&& a20.1)), (0, .ref h0), (2, .int a20.1)]) hx hb dX5_isCut_58 hl (k := 4) rfl rfl (by decide) rfl (fun ls hl => ?_)
          refine lv_goto (tgt := 20) hx hb dX5_isCut_61 (by decide) ?_
          exact ih20 (a20.1, (z40 &&& a20.1), (a20.2.2 + (1 : Int32))) _ _ _ hP hS (lv_sub hl [3, 4, 1, 0] rfl) hM
        · have hM := if_pp hc hM
          refine lv_iconst (v := 1) hx hb dX5_isCut_53 (by decide) ?_
          exact ret_z hx hb hr hlk dX5_isCut_54 (by decide) (some_u hM) hP hS
  refine lv_aload_n hx hb dX5_isCut_0 rfl (lv_at hl 0 rfl) ?_
  obtain ⟨z1, hcr, hM⟩ := ob_s hM
  refine res_i0 F hP hS rfl [0, 1, 2, 3, 4] rfl rfl (runV_of (n := 0) (As := []) (rest := []) F hP hS rfl [0, 1, 2, 3, 4] rfl rfl (c_X0_open l dC dI cI cC cZ sa h0 v0 v1 v2 v3 h v hcr _) gX5_isCut_X0_open rfl (by decide +kernel) ⟨Nat.le_of_ble_eq_true rfl, Nat.le_of_ble_eq_true rfl⟩ 0 0 rfl rfl rfl hl.1 rfl (Nat.le_of_ble_eq_true rfl) dX5_isCut_1 ⟨Nat.zero_le _, Nat.zero_le _⟩) (fun H locs hP hS => ?_)
  refine lv_iload_n hx hb dX5_isCut_4 rfl (lv_at hl 1 rfl) ?_
  refine lv_iconst (v := -1) hx hb dX5_isCut_5 (by decide) ?_
  refine lv_ixor hx hb dX5_isCut_6 ?_
  refine lv_iand hx hb dX5_isCut_7 ?_
  refine lv_istore_n (lv' := [(2, .int (z1 &&& (x2 ^^^ (-1 : Int32)))), (0, .ref h0), (1, .int x2)]) hx hb dX5_isCut_8 rfl hl (by decide) rfl (fun ls hl => ?_)
  refine lv_aload_n hx hb dX5_isCut_9 rfl (lv_at hl 1 rfl) ?_
  refine g_get (ci := 0) (C := RX0) (T := TX0) (N := 13) (v := .int h.2.2.2.2.2.2.2.2.2.1) F hP 0 rfl rfl inX5_isCut_X0 9 (by decide) (List.mem_of_getElem? (i := 1) rfl) rfl dX5_isCut_10 ?_
  obtain ⟨z13, hcr, hM⟩ := ob_s hM
  refine res_i0 F hP hS rfl [] rfl rfl (runN_of (n := 1) (As := [.int h.2.2.2.2.2.2.2.2.2.1]) (rest := []) F hP hS rfl [] rfl rfl (c_X8_bit l dC dI cI cC cZ sa h.2.2.2.2.2.2.2.2.2.1 hcr _) gX5_isCut_X8_bit_n71 rfl 15 rfl (hts _ (List.mem_of_getElem? (i := 11) rfl)) (hts _ (List.mem_of_getElem? (i := 10) rfl)) (by decide +kernel) ⟨Nat.le_of_ble_eq_true rfl, Nat.le_of_ble_eq_true rfl⟩ rfl hl.1 rfl (Nat.le_of_ble_eq_true rfl) dX5_isCut_13 ⟨Nat.zero_le _, Nat.zero_le _⟩) (fun H locs hP hS => ?_)
  refine lv_istore_n (lv' := [(3, .int z13), (2, .int (z1 &&& (x2 ^^^ (-1 : Int32)))), (0, .ref h0), (1, .int x2)]) hx hb dX5_isCut_16 rfl hl (by decide) rfl (fun ls hl => ?_)
  refine lv_iconst (v := 0) hx hb dX5_isCut_17 (by decide) ?_
  refine lv_istore (lv' := [(4, .int (0 : Int32)), (3, .int z13), (2, .int (z1 &&& (x2 ^^^ (-1 : Int32)))), (0, .ref h0), (1, .int x2)]) hx hb dX5_isCut_18 hl (by decide) rfl (fun ls hl => ?_)
  exact j20 200 ((z1 &&& (x2 ^^^ (-1 : Int32))), z13, (0 : Int32)) _ _ _ hP hS (lv_sub hl [3, 2, 1, 0] rfl) hM
theorem inX5_firstCut_X0 : ∀ w ∈ wsX00, w ∈ wsX5_firstCut := fun w h => List.mem_cons_of_mem _ (List.mem_append_right _ h)
set_option maxHeartbeats 4000000 in
set_option maxRecDepth 100000 in
theorem c_X5_firstCut (l : Launch) (dC : Nat → ClassId) (dI : Nat → Nat → Nat) (cI cC cZ : ClassId) (sa : Nat → Nat) : ∀ (dd : Nat) (h0 v0 v1 v2 v3 : Nat) (h : HT) (v : VT) (x2 : Int32) (x3 : Int32) (x4 : Int32) {res : Int32} (hM : M_X5_firstCut dd h x2 x3 x4 = some res), CTi l (dC, dI) [(cI, .int), (cC, .char), (cZ, .boolean)] sa yX5_firstCut wsX5_firstCut (rmd (dd + 4)) [.ref h0, .int x2, .int x3, .int x4] (wHouse cI h0 v0 v1 v2 v3 h v) (fun (_ : Unit) => (wHouse cI h0 v0 v1 v2 v3 h v)) (res, ()) := by
  intro dd
  induction dd with
  | zero => intro h0 v0 v1 v2 v3 h v x2 x3 x4 res hM; exact no_s hM
  | succ dd ihc =>
  intro h0 v0 v1 v2 v3 h v x2 x3 x4 res hM
  have hM : M_X5_firstCutb (M_X5_firstCut dd) h x2 x3 x4 = some res := hM
  generalize M_X5_firstCut dd = self at hM ihc
  refine CTi.enter (d := dd + 1 + 4) (own := RX5) (cc := cX5_firstCut) (maxL := 7) (ret := (some .int)) (by decide) rfl rfl (Nat.le_of_ble_eq_true rfl) ?_
  intro pr e s m below meth c A F hr hlk hP hS ls hl
  obtain ⟨⟨hx, hb, hml, hown, hts⟩, hK, hDD, hA, hKC⟩ := id F
  have hl : lv_has ls 7 [(0, .ref h0), (1, .int x2), (2, .int x3), (3, .int x4)] := hl
  have hP : va_P (dC, dI) vwCl (wHouse cI h0 v0 v1 v2 v3 h v) s.heap := hP
  unfold M_X5_firstCutb at hM
  refine kloop (α := Int32 × Int32) (res := res) (fun k a => M_X5_firstCut_50 self h x2 x3 x4 k a) (fun rec a => M_X5_firstCut_50b self h x2 x3 x4 rec a) (fun _ => rfl) (fun _ _ => rfl) F (fun a => (wHouse cI h0 v0 v1 v2 v3 h v)) (fun a => [(0, .ref h0), (1, .int x2), (2, .int x3), (3, .int x4), (4, .int a.1), (5, .int a.2)]) (fun a => []) 50 ?_ (fun j50 => ?_)
  · intro rc50 ih50 a50 H locs ls hP hS hl hM
    unfold M_X5_firstCut_50b at hM
    refine kblk (α := Int32 × Int32 × Int32) (res := res) (fun a => M_X5_firstCut_87 self h x2 x3 x4 rc50 a) F (fun a => (wHouse cI h0 v0 v1 v2 v3 h v)) (fun a => [(0, .ref h0), (1, .int x2), (2, .int x3), (3, .int x4), (4, .int a.1), (5, .int a.2.1)]) (fun a => [.int a.2.2]) 87 ?_ (fun j87 => ?_)
    · intro a87 H locs ls hP hS hl hM
      unfold M_X5_firstCut_87 at hM
      refine lv_istore (lv' := [(6, .int a87.2.2), (0, .ref h0), (1, .int x2), (2, .int x3), (3, .int x4), (4, .int a87.1), (5, .int a87.2.1)]) hx hb dX5_firstCut_87 hl (by decide) rfl (fun ls hl => ?_)
      refine lv_iload hx hb dX5_firstCut_89 (lv_at hl 0 rfl) ?_
      refine lv_bipush (v := -6) hx hb dX5_firstCut_91 (by decide) ?_
      refine lv_icmp_eq (tgt := 99) hx hb dX5_firstCut_93 (by decide) (fun hc => ?_) (fun hc => ?_)
      · have hM := if_pp hc hM
        refine lv_iinc (v := (a87.2.1 + (1 : Int32))) (lv' := [(5, .int (a87.2.1 + (1 : Int32))), (6, .int a87.2.2), (0, .ref h0), (1, .int x2), (2, .int x3), (3, .int x4), (4, .int a87.1)]) hx hb dX5_firstCut_99 hl (k := 6) rfl rfl (by decide) rfl (fun ls hl => ?_)
        refine lv_goto (tgt := 50) hx hb dX5_firstCut_102 (by decide) ?_
        exact ih50 (a87.1, (a87.2.1 + (1 : Int32))) _ _ _ hP hS (lv_sub hl [2, 3, 4, 5, 6, 0] rfl) hM
      · have hM := if_nn hc hM
        refine lv_iload hx hb dX5_firstCut_96 (lv_at hl 0 rfl) ?_
        exact ret_i hx hb hr hlk dX5_firstCut_98 (some_u hM) hP hS
    refine lv_iload hx hb dX5_firstCut_50 (lv_at hl 5 rfl) ?_
    refine lv_iload_n hx hb dX5_firstCut_52 rfl (lv_at hl 2 rfl) ?_
    refine lv_icmp_ge (tgt := 105) hx hb dX5_firstCut_53 (by decide) (fun hc => ?_) (fun hc => ?_)
    · have hM := if_pp hc hM
      refine lv_bipush (v := -6) hx hb dX5_firstCut_105 (by decide) ?_
      exact ret_i hx hb hr hlk dX5_firstCut_107 (some_u hM) hP hS
    · have hM := if_nn hc hM
      refine lv_iload hx hb dX5_firstCut_56 (lv_at hl 4 rfl) ?_
      refine lv_iload hx hb dX5_firstCut_58 (lv_at hl 5 rfl) ?_
      obtain ⟨z60, hcr, hM⟩ := ob_s hM
      refine res_i0 F hP hS rfl [] rfl rfl (runN_of (n := 2) (As := [.int a50.1, .int a50.2]) (rest := []) F hP hS rfl [] rfl rfl (c_X8_has l dC dI cI cC cZ sa a50.1 a50.2 hcr _) gX5_firstCut_X8_has_n67 rfl 14 rfl (hts _ (List.mem_of_getElem? (i := 15) rfl)) (hts _ (List.mem_of_getElem? (i := 17) rfl)) (by decide +kernel) ⟨by show _ ≤ _; simp only [rmd, headSpec]; omega, by show _ ≤ _; simp only [rmd, headSpec]; omega⟩ rfl hl.1 rfl (Nat.le_of_ble_eq_true rfl) dX5_firstCut_60 ⟨Nat.zero_le _, Nat.zero_le _⟩) (fun H locs hP hS => ?_)
      refine lv_if_eq (tgt := 85) hx hb dX5_firstCut_63 (by decide) (fun hc => ?_) (fun hc => ?_)
      · have hM := if_pp hc hM
        refine lv_bipush (v := -6) hx hb dX5_firstCut_85 (by decide) ?_
        exact j87 (a50.1, a50.2, (-6 : Int32)) _ _ _ hP hS (lv_sub hl [0, 1, 2, 3, 4, 5] rfl) hM
      · have hM := if_nn hc hM
        refine lv_aload_n hx hb dX5_firstCut_66 rfl (lv_at hl 0 rfl) ?_
        refine lv_iload_n hx hb dX5_firstCut_67 rfl (lv_at hl 1 rfl) ?_
        refine lv_iload hx hb dX5_firstCut_68 (lv_at hl 5 rfl) ?_
        obtain ⟨z70, hcr, hM⟩ := ob_s hM
        refine res_i0 F hP hS rfl [] rfl rfl (runN_of (n := 1) (As := [.int a50.2]) (rest := [.int x2, .ref h0]) F hP hS rfl [] rfl rfl (c_X8_bit l dC dI cI cC cZ sa a50.2 hcr _) gX5_firstCut_X8_bit_n71 rfl 15 rfl (hts _ (List.mem_of_getElem? (i := 15) rfl)) (hts _ (List.mem_of_getElem? (i := 14) rfl)) (by decide +kernel) ⟨by show _ ≤ _; simp only [rmd, headSpec]; omega, by show _ ≤ _; simp only [rmd, headSpec]; omega⟩ rfl hl.1 rfl (Nat.le_of_ble_eq_true rfl) dX5_firstCut_70 ⟨Nat.zero_le _, Nat.zero_le _⟩) (fun H locs hP hS => ?_)
        refine lv_ior hx hb dX5_firstCut_73 ?_
        refine lv_iload hx hb dX5_firstCut_74 (lv_at hl 5 rfl) ?_
        refine lv_iload_n hx hb dX5_firstCut_76 rfl (lv_at hl 3 rfl) ?_
        refine lv_iconst (v := 1) hx hb dX5_firstCut_77 (by decide) ?_
        refine lv_isub hx hb dX5_firstCut_78 ?_
        obtain ⟨z79, hcr, hM⟩ := ob_s hM
        refine res_i0 F hP hS rfl [0, 1, 2, 3, 4] rfl rfl (runS_of (n := 4) (As := [.ref h0, .int (x2 ||| z70), .int a50.2, .int (x4 - (1 : Int32))]) (rest := []) F hP hS rfl [0, 1, 2, 3, 4] rfl rfl (ihc h0 v0 v1 v2 v3 h v (x2 ||| z70) a50.2 (x4 - (1 : Int32)) hcr _) gX5_firstCut_X5_firstCut rfl (by decide +kernel) ⟨by show _ ≤ _; simp only [rmd, headSpec]; omega, by show _ ≤ _; simp only [rmd, headSpec]; omega⟩ rfl hl.1 rfl (Nat.le_of_ble_eq_true rfl) dX5_firstCut_79 ⟨Nat.zero_le _, Nat.zero_le _⟩) (fun H locs hP hS => ?_)
        refine lv_goto (tgt := 87) hx hb dX5_firstCut_82 (by decide) ?_
        exact j87 (a50.1, a50.2, z79) _ _ _ hP hS (lv_sub hl [0, 1, 2, 3, 4, 5] rfl) hM
  refine lv_iload_n hx hb dX5_firstCut_0 rfl (lv_at hl 3 rfl) ?_
  refine lv_if_gt (tgt := 19) hx hb dX5_firstCut_1 (by decide) (fun hc => ?_) (fun hc => ?_)
  · have hM := if_pp hc hM
    refine lv_aload_n hx hb dX5_firstCut_19 rfl (lv_at hl 0 rfl) ?_
    obtain ⟨z20, hcr, hM⟩ := ob_s hM
    refine res_i0 F hP hS rfl [0, 1, 2, 3, 4] rfl rfl (runV_of (n := 0) (As := []) (rest := []) F hP hS rfl [0, 1, 2, 3, 4] rfl rfl (c_X0_open l dC dI cI cC cZ sa h0 v0 v1 v2 v3 h v hcr _) gX5_firstCut_X0_open rfl (by decide +kernel) ⟨by show _ ≤ _; simp only [rmd, headSpec]; omega, by show _ ≤ _; simp only [rmd, headSpec]; omega⟩ 0 0 rfl rfl rfl hl.1 rfl (Nat.le_of_ble_eq_true rfl) dX5_firstCut_20 ⟨Nat.zero_le _, Nat.zero_le _⟩) (fun H locs hP hS => ?_)
    refine lv_aload_n hx hb dX5_firstCut_23 rfl (lv_at hl 0 rfl) ?_
    refine g_get (ci := 0) (C := RX0) (T := TX0) (N := 13) (v := .int h.2.2.2.2.2.2.2.2.2.1) F hP 0 rfl rfl inX5_firstCut_X0 9 (by decide) (List.mem_of_getElem? (i := 1) rfl) rfl dX5_firstCut_24 ?_
    obtain ⟨z27, hcr, hM⟩ := ob_s hM
    refine res_i0 F hP hS rfl [] rfl rfl (runN_of (n := 1) (As := [.int h.2.2.2.2.2.2.2.2.2.1]) (rest := [.int z20]) F hP hS rfl [] rfl rfl (c_X8_bit l dC dI cI cC cZ sa h.2.2.2.2.2.2.2.2.2.1 hcr _) gX5_firstCut_X8_bit_n71 rfl 15 rfl (hts _ (List.mem_of_getElem? (i := 15) rfl)) (hts _ (List.mem_of_getElem? (i := 14) rfl)) (by decide +kernel) ⟨by show _ ≤ _; simp only [rmd, headSpec]; omega, by show _ ≤ _; simp only [rmd, headSpec]; omega⟩ rfl hl.1 rfl (Nat.le_of_ble_eq_true rfl) dX5_firstCut_27 ⟨Nat.zero_le _, Nat.zero_le _⟩) (fun H locs hP hS => ?_)
    refine lv_iconst (v := -1) hx hb dX5_firstCut_30 (by decide) ?_
    refine lv_ixor hx hb dX5_firstCut_31 ?_
    refine lv_iand hx hb dX5_firstCut_32 ?_
    refine lv_aload_n hx hb dX5_firstCut_33 rfl (lv_at hl 0 rfl) ?_
    refine g_get (ci := 0) (C := RX0) (T := TX0) (N := 13) (v := .int h.2.2.2.2.2.2.2.2.2.2.1) F hP 0 rfl rfl inX5_firstCut_X0 10 (by decide) (List.mem_of_getElem? (i := 2) rfl) rfl dX5_firstCut_34 ?_
    obtain ⟨z37, hcr, hM⟩ := ob_s hM
    refine res_i0 F hP hS rfl [] rfl rfl (runN_of (n := 1) (As := [.int h.2.2.2.2.2.2.2.2.2.2.1]) (rest := [.int (z20 &&& (z27 ^^^ (-1 : Int32)))]) F hP hS rfl [] rfl rfl (c_X8_bit l dC dI cI cC cZ sa h.2.2.2.2.2.2.2.2.2.2.1 hcr _) gX5_firstCut_X8_bit_n71 rfl 15 rfl (hts _ (List.mem_of_getElem? (i := 15) rfl)) (hts _ (List.mem_of_getElem? (i := 14) rfl)) (by decide +kernel) ⟨by show _ ≤ _; simp only [rmd, headSpec]; omega, by show _ ≤ _; simp only [rmd, headSpec]; omega⟩ rfl hl.1 rfl (Nat.le_of_ble_eq_true rfl) dX5_firstCut_37 ⟨Nat.zero_le _, Nat.zero_le _⟩) (fun H locs hP hS => ?_)
    refine lv_iconst (v := -1) hx hb dX5_firstCut_40 (by decide) ?_
    refine lv_ixor hx hb dX5_firstCut_41 ?_
    refine lv_iand hx hb dX5_firstCut_42 ?_
    refine lv_istore (lv' := [(4, .int ((z20 &&& (z27 ^^^ (-1 : Int32))) &&& (z37 ^^^ (-1 : Int32)))), (0, .ref h0), (1, .int x2), (2, .int x3), (3, .int x4)]) hx hb dX5_firstCut_43 hl (by decide) rfl (fun ls hl => ?_)
    refine lv_iload_n hx hb dX5_firstCut_45 rfl (lv_at hl 4 rfl) ?_
    refine lv_iconst (v := 1) hx hb dX5_firstCut_46 (by decide) ?_
    refine lv_isub hx hb dX5_firstCut_47 ?_
    refine lv_istore (lv' := [(5, .int (x4 - (1 : Int32))), (4, .int ((z20 &&& (z27 ^^^ (-1 : Int32))) &&& (z37 ^^^ (-1 : Int32)))), (0, .ref h0), (1, .int x2), (2, .int x3), (3, .int x4)]) hx hb dX5_firstCut_48 hl (by decide) rfl (fun ls hl => ?_)
    exact j50 200 (((z20 &&& (z27 ^^^ (-1 : Int32))) &&& (z37 ^^^ (-1 : Int32))), (x4 - (1 : Int32))) _ _ _ hP hS (lv_sub hl [2, 3, 4, 5, 1, 0] rfl) hM
  · have hM := if_nn hc hM
    refine lv_aload_n hx hb dX5_firstCut_4 rfl (lv_at hl 0 rfl) ?_
    refine lv_iload_n hx hb dX5_firstCut_5 rfl (lv_at hl 1 rfl) ?_
    obtain ⟨z6, hcr, hM⟩ := ob_s hM
    refine res_i0 F hP hS rfl [0, 1, 2, 3, 4] rfl rfl (runS_of (n := 2) (As := [.ref h0, .int x2]) (rest := []) F hP hS rfl [0, 1, 2, 3, 4] rfl rfl (c_X5_isCut l dC dI cI cC cZ sa h0 v0 v1 v2 v3 h v x2 hcr _) gX5_firstCut_X5_isCut rfl (by decide +kernel) ⟨by show _ ≤ _; simp only [rmd, headSpec]; omega, by show _ ≤ _; simp only [rmd, headSpec]; omega⟩ rfl hl.1 rfl (Nat.le_of_ble_eq_true rfl) dX5_firstCut_6 ⟨Nat.zero_le _, Nat.zero_le _⟩) (fun H locs hP hS => ?_)
    refine lv_if_eq (tgt := 16) hx hb dX5_firstCut_9 (by decide) (fun hc => ?_) (fun hc => ?_)
    · have hM := if_pp hc hM
      refine lv_bipush (v := -6) hx hb dX5_firstCut_16 (by decide) ?_
      exact ret_i hx hb hr hlk dX5_firstCut_18 (some_u hM) hP hS
    · have hM := if_nn hc hM
      refine lv_iload_n hx hb dX5_firstCut_12 rfl (lv_at hl 1 rfl) ?_
      refine lv_goto (tgt := 18) hx hb dX5_firstCut_13 (by decide) ?_
      exact ret_i hx hb hr hlk dX5_firstCut_18 (some_u hM) hP hS
theorem inX5_fewestCut_X0 : ∀ w ∈ wsX00, w ∈ wsX5_fewestCut := fun w h => List.mem_cons_of_mem _ (List.mem_append_right _ h)
set_option maxHeartbeats 4000000 in
set_option maxRecDepth 100000 in
theorem c_X5_fewestCut (l : Launch) (dC : Nat → ClassId) (dI : Nat → Nat → Nat) (cI cC cZ : ClassId) (sa : Nat → Nat) (y0 y1 y2 h0 v0 v1 v2 v3 : Nat) (y : YT) (h : HT) (v : VT)  {res : Int32} (hM : M_X5_fewestCut h = some res) : CTi l (dC, dI) [(cI, .int), (cC, .char), (cZ, .boolean)] sa yX5_fewestCut wsX5_fewestCut (rmd 11) [.ref y0, .ref h0] (wWays cI y0 y1 y2 y ++ wHouse cI h0 v0 v1 v2 v3 h v) (fun (_ : Unit) => (wWays cI y0 y1 y2 y ++ wHouse cI h0 v0 v1 v2 v3 h v)) (res, ()) := by
  refine CTi.enter (own := RX5) (cc := cX5_fewestCut) (maxL := 4) (ret := (some .int)) (by decide) rfl rfl (Nat.le_of_ble_eq_true rfl) ?_
  intro pr e s m below meth c A F hr hlk hP hS ls hl
  obtain ⟨⟨hx, hb, hml, hown, hts⟩, hK, hDD, hA, hKC⟩ := id F
  have hl : lv_has ls 4 [(0, .ref y0), (1, .ref h0)] := hl
  have hP : va_P (dC, dI) vwCl (wWays cI y0 y1 y2 y ++ wHouse cI h0 v0 v1 v2 v3 h v) s.heap := hP
  unfold M_X5_fewestCut at hM
  refine kloop (α := Int32) (res := res) (fun k a => M_X5_fewestCut_24 h k a) (fun rec a => M_X5_fewestCut_24b h rec a) (fun _ => rfl) (fun _ _ => rfl) F (fun a => (wWays cI y0 y1 y2 y ++ wHouse cI h0 v0 v1 v2 v3 h v)) (fun a => [(0, .ref y0), (1, .ref h0), (2, .int a)]) (fun a => []) 24 ?_ (fun j24 => ?_)
  · intro rc24 ih24 a24 H locs ls hP hS hl hM
    unfold M_X5_fewestCut_24b at hM
    refine lv_iload_n hx hb dX5_fewestCut_24 rfl (lv_at hl 2 rfl) ?_
    refine lv_iconst (v := 4) hx hb dX5_fewestCut_25 (by decide) ?_
    refine lv_icmp_gt (tgt := 52) hx hb dX5_fewestCut_26 (by decide) (fun hc => ?_) (fun hc => ?_)
    · have hM := if_pp hc hM
      refine lv_bipush (v := -6) hx hb dX5_fewestCut_52 (by decide) ?_
      exact ret_i hx hb hr hlk dX5_fewestCut_54 (some_u hM) hP hS
    · have hM := if_nn hc hM
      refine lv_aload_n hx hb dX5_fewestCut_29 rfl (lv_at hl 1 rfl) ?_
      refine lv_iconst (v := 0) hx hb dX5_fewestCut_30 (by decide) ?_
      refine lv_bipush (v := 16) hx hb dX5_fewestCut_31 (by decide) ?_
      refine lv_iload_n hx hb dX5_fewestCut_33 rfl (lv_at hl 2 rfl) ?_
      obtain ⟨z34, hcr, hM⟩ := ob_s hM
      refine res_i0 F hP hS rfl [3, 4, 5, 6, 7] rfl rfl (runS_of (n := 4) (As := [.ref h0, .int (0 : Int32), .int (16 : Int32), .int a24]) (rest := []) F hP hS rfl [3, 4, 5, 6, 7] rfl rfl (c_X5_firstCut l dC dI cI cC cZ sa 6 h0 v0 v1 v2 v3 h v (0 : Int32) (16 : Int32) a24 hcr _) gX5_fewestCut_X5_firstCut rfl (by decide +kernel) ⟨Nat.le_of_ble_eq_true rfl, Nat.le_of_ble_eq_true rfl⟩ rfl hl.1 rfl (Nat.le_of_ble_eq_true rfl) dX5_fewestCut_34 ⟨Nat.zero_le _, Nat.zero_le _⟩) (fun H locs hP hS => ?_)
      refine lv_istore_n (lv' := [(3, .int z34), (0, .ref y0), (1, .ref h0), (2, .int a24)]) hx hb dX5_fewestCut_37 rfl hl (by decide) rfl (fun ls hl => ?_)
      refine lv_iload_n hx hb dX5_fewestCut_38 rfl (lv_at hl 0 rfl) ?_
      refine lv_bipush (v := -6) hx hb dX5_fewestCut_39 (by decide) ?_
      refine lv_icmp_eq (tgt := 46) hx hb dX5_fewestCut_41 (by decide) (fun hc => ?_) (fun hc => ?_)
      · have hM := if_pp hc hM
        refine lv_iinc (v := (a24 + (1 : Int32))) (lv' := [(2, .int (a24 + (1 : Int32))), (3, .int z34), (0, .ref y0), (1, .ref h0)]) hx hb dX5_fewestCut_46 hl (k := 3) rfl rfl (by decide) rfl (fun ls hl => ?_)
        refine lv_goto (tgt := 24) hx hb dX5_fewestCut_49 (by decide) ?_
        exact ih24 (a24 + (1 : Int32)) _ _ _ hP hS (lv_sub hl [2, 3, 0] rfl) hM
      · have hM := if_nn hc hM
        refine lv_iload_n hx hb dX5_fewestCut_44 rfl (lv_at hl 0 rfl) ?_
        exact ret_i hx hb hr hlk dX5_fewestCut_45 (some_u hM) hP hS
  refine lv_aload_n hx hb dX5_fewestCut_0 rfl (lv_at hl 1 rfl) ?_
  refine lv_aload_n hx hb dX5_fewestCut_1 rfl (lv_at hl 1 rfl) ?_
  refine g_get (ci := 0) (C := RX0) (T := TX0) (N := 13) (v := .int h.2.2.2.2.2.2.2.2.2.1) F hP 3 rfl rfl inX5_fewestCut_X0 9 (by decide) (List.mem_of_getElem? (i := 1) rfl) rfl dX5_fewestCut_2 ?_
  refine lv_iconst (v := 1) hx hb dX5_fewestCut_5 (by decide) ?_
  obtain ⟨z6, hcr, hM⟩ := ob_s hM
  refine res_i0 F hP hS rfl [3, 4, 5, 6, 7] rfl rfl (runV_of (n := 2) (As := [.int h.2.2.2.2.2.2.2.2.2.1, .int (1 : Int32)]) (rest := []) F hP hS rfl [3, 4, 5, 6, 7] rfl rfl (c_X0_around l dC dI cI cC cZ sa h0 v0 v1 v2 v3 h v h.2.2.2.2.2.2.2.2.2.1 (1 : Int32) hcr _) gX5_fewestCut_X0_around rfl (by decide +kernel) ⟨Nat.le_of_ble_eq_true rfl, Nat.le_of_ble_eq_true rfl⟩ 3 0 rfl rfl rfl hl.1 rfl (Nat.le_of_ble_eq_true rfl) dX5_fewestCut_6 ⟨Nat.zero_le _, Nat.zero_le _⟩) (fun H locs hP hS => ?_)
  refine lv_aload_n hx hb dX5_fewestCut_9 rfl (lv_at hl 1 rfl) ?_
  refine g_get (ci := 0) (C := RX0) (T := TX0) (N := 13) (v := .int h.2.2.2.2.2.2.2.2.2.2.1) F hP 3 rfl rfl inX5_fewestCut_X0 10 (by decide) (List.mem_of_getElem? (i := 2) rfl) rfl dX5_fewestCut_10 ?_
  obtain ⟨z13, hcr, hM⟩ := ob_s hM
  refine res_i0 F hP hS rfl [] rfl rfl (runN_of (n := 2) (As := [.int z6, .int h.2.2.2.2.2.2.2.2.2.2.1]) (rest := []) F hP hS rfl [] rfl rfl (c_X8_has l dC dI cI cC cZ sa z6 h.2.2.2.2.2.2.2.2.2.2.1 hcr _) gX5_fewestCut_X8_has_n67 rfl 14 rfl (hts _ (List.mem_of_getElem? (i := 9) rfl)) (hts _ (List.mem_of_getElem? (i := 23) rfl)) (by decide +kernel) ⟨Nat.le_of_ble_eq_true rfl, Nat.le_of_ble_eq_true rfl⟩ rfl hl.1 rfl (Nat.le_of_ble_eq_true rfl) dX5_fewestCut_13 ⟨Nat.zero_le _, Nat.zero_le _⟩) (fun H locs hP hS => ?_)
  refine lv_if_eq (tgt := 22) hx hb dX5_fewestCut_16 (by decide) (fun hc => ?_) (fun hc => ?_)
  · have hM := if_pp hc hM
    refine lv_iconst (v := 0) hx hb dX5_fewestCut_22 (by decide) ?_
    refine lv_istore_n (lv' := [(2, .int (0 : Int32)), (0, .ref y0), (1, .ref h0)]) hx hb dX5_fewestCut_23 rfl hl (by decide) rfl (fun ls hl => ?_)
    exact j24 200 (0 : Int32) _ _ _ hP hS (lv_sub hl [1, 2, 0] rfl) hM
  · have hM := if_nn hc hM
    refine lv_bipush (v := -6) hx hb dX5_fewestCut_19 (by decide) ?_
    exact ret_i hx hb hr hlk dX5_fewestCut_21 (some_u hM) hP hS
theorem inX5_fewestShowingSteps_X0 : ∀ w ∈ wsX00, w ∈ wsX5_fewestShowingSteps := fun w h => List.mem_cons_of_mem _ (List.mem_append_left _ (List.mem_append_right _ h))
theorem inX5_fewestShowingSteps_X5 : ∀ w ∈ wsX50, w ∈ wsX5_fewestShowingSteps := fun w h => List.mem_cons_of_mem _ (List.mem_append_left _ (List.mem_append_left _ (List.mem_append_right _ h)))
set_option maxHeartbeats 4000000 in
set_option maxRecDepth 100000 in
theorem c_X5_fewestShowingSteps (l : Launch) (dC : Nat → ClassId) (dI : Nat → Nat → Nat) (cI cC cZ : ClassId) (sa : Nat → Nat) (y0 y1 y2 h0 v0 v1 v2 v3 : Nat) (y : YT) (h : HT) (v : VT) (x2 : Int32) {res : Int32 × YT} (hM : M_X5_fewestShowingSteps y h v x2 = some res) : CTi l (dC, dI) [(cI, .int), (cC, .char), (cZ, .boolean)] sa yX5_fewestShowingSteps wsX5_fewestShowingSteps (rmd 6) [.ref y0, .ref h0, .int x2] (wWays cI y0 y1 y2 y ++ wHouse cI h0 v0 v1 v2 v3 h v) (fun (uu : YT) => (wWays cI y0 y1 y2 uu ++ wHouse cI h0 v0 v1 v2 v3 h v)) res := by
  refine CTi.enter (own := RX5) (cc := cX5_fewestShowingSteps) (maxL := 5) (ret := (some .int)) (by decide) rfl rfl (Nat.le_of_ble_eq_true rfl) ?_
  intro pr e s m below meth c A F hr hlk hP hS ls hl
  obtain ⟨⟨hx, hb, hml, hown, hts⟩, hK, hDD, hA, hKC⟩ := id F
  have hl : lv_has ls 5 [(0, .ref y0), (1, .ref h0), (2, .int x2)] := hl
  have hP : va_P (dC, dI) vwCl (wWays cI y0 y1 y2 y ++ wHouse cI h0 v0 v1 v2 v3 h v) s.heap := hP
  unfold M_X5_fewestShowingSteps at hM
  refine kblk (α := YT × Int32 × Int32) (res := res) (fun a => M_X5_fewestShowingSteps_90 h v x2 a) F (fun a => (wWays cI y0 y1 y2 a.1 ++ wHouse cI h0 v0 v1 v2 v3 h v)) (fun a => [(0, .ref y0), (1, .ref h0)]) (fun a => [.int a.2.1, .int a.2.2]) 90 ?_ (fun j90 => ?_)
  · intro a90 H locs ls hP hS hl hM
    unfold M_X5_fewestShowingSteps_90 at hM
    refine lv_iadd hx hb dX5_fewestShowingSteps_90 ?_
    exact ret_i hx hb hr hlk dX5_fewestShowingSteps_91 hM hP hS
  refine kloop (α := YT × Int32 × Int32) (res := res) (fun k a => M_X5_fewestShowingSteps_29 h v x2 k a) (fun rec a => M_X5_fewestShowingSteps_29b h v x2 rec a) (fun _ => rfl) (fun _ _ => rfl) F (fun a => (wWays cI y0 y1 y2 a.1 ++ wHouse cI h0 v0 v1 v2 v3 h v)) (fun a => [(0, .ref y0), (1, .ref h0), (2, .int x2), (3, .int a.2.1), (4, .int a.2.2)]) (fun a => []) 29 ?_ (fun j29 => ?_)
  · intro rc29 ih29 a29 H locs ls hP hS hl hM
    unfold M_X5_fewestShowingSteps_29b at hM
    refine lv_iload hx hb dX5_fewestShowingSteps_29 (lv_at hl 4 rfl) ?_
    refine lv_iload_n hx hb dX5_fewestShowingSteps_31 rfl (lv_at hl 2 rfl) ?_
    refine lv_icmp_gt (tgt := 49) hx hb dX5_fewestShowingSteps_32 (by decide) (fun hc => ?_) (fun hc => ?_)
    · have hM := if_pp hc hM
      refine lv_aload_n hx hb dX5_fewestShowingSteps_49 rfl (lv_at hl 0 rfl) ?_
      refine lv_aload_n hx hb dX5_fewestShowingSteps_50 rfl (lv_at hl 1 rfl) ?_
      refine lv_aload_n hx hb dX5_fewestShowingSteps_51 rfl (lv_at hl 1 rfl) ?_
      refine g_get (ci := 0) (C := RX0) (T := TX0) (N := 13) (v := .int h.2.2.2.2.2.2.2.2.2.2.1) F hP 3 rfl rfl inX5_fewestShowingSteps_X0 10 (by decide) (List.mem_of_getElem? (i := 2) rfl) rfl dX5_fewestShowingSteps_52 ?_
      refine lv_aload_n hx hb dX5_fewestShowingSteps_55 rfl (lv_at hl 0 rfl) ?_
      refine g_get (ci := 5) (C := RX5) (T := TX5) (N := 2) (v := .ref y1) F hP 0 rfl rfl inX5_fewestShowingSteps_X5 0 (by decide) (List.mem_of_getElem? (i := 3) rfl) rfl dX5_fewestShowingSteps_56 ?_
      refine lv_iload_n hx hb dX5_fewestShowingSteps_59 rfl (lv_at hl 2 rfl) ?_
      refine lv_iconst (v := 1) hx hb dX5_fewestShowingSteps_60 (by decide) ?_
      refine lv_isub hx hb dX5_fewestShowingSteps_61 ?_
      obtain ⟨z62, hcr, hM⟩ := ob_s hM
      refine res_i0 F hP hS rfl [1] rfl rfl (runN_of (n := 2) (As := [.ref y1, .int (x2 - (1 : Int32))]) (rest := [.int h.2.2.2.2.2.2.2.2.2.2.1, .ref h0, .ref y0]) F hP hS rfl [1] rfl rfl (c_X8_at l dC dI cI cC cZ sa y1 16 a29.1.1 (x2 - (1 : Int32)) hcr _) gX5_fewestShowingSteps_X8_at_n28 rfl 13 rfl (hts _ (List.mem_of_getElem? (i := 25) rfl)) (hts _ (List.mem_of_getElem? (i := 24) rfl)) (by decide +kernel) ⟨Nat.le_of_ble_eq_true rfl, Nat.le_of_ble_eq_true rfl⟩ rfl hl.1 rfl (Nat.le_of_ble_eq_true rfl) dX5_fewestShowingSteps_62 ⟨Nat.zero_le _, Nat.zero_le _⟩) (fun H locs hP hS => ?_)
      obtain ⟨z65, hcr, hM⟩ := ob_s hM
      refine res_i0 F hP hS rfl [0, 1, 2, 3, 4, 5, 6, 7] rfl rfl (runV_of (n := 3) (As := [.ref h0, .int h.2.2.2.2.2.2.2.2.2.2.1, .int z62]) (rest := []) F hP hS rfl [0, 1, 2, 3, 4, 5, 6, 7] rfl rfl (c_X5_cheapestBefore l dC dI cI cC cZ sa y0 y1 y2 h0 v0 v1 v2 v3 a29.1 h v h.2.2.2.2.2.2.2.2.2.2.1 z62 hcr _) gX5_fewestShowingSteps_X5_cheapestBefore rfl (by decide +kernel) ⟨Nat.le_of_ble_eq_true rfl, Nat.le_of_ble_eq_true rfl⟩ 0 5 rfl rfl rfl hl.1 rfl (Nat.le_of_ble_eq_true rfl) dX5_fewestShowingSteps_65 ⟨Nat.zero_le _, Nat.zero_le _⟩) (fun H locs hP hS => ?_)
      refine lv_istore (lv' := [(4, .int z65), (0, .ref y0), (1, .ref h0), (2, .int x2), (3, .int a29.2.1)]) hx hb dX5_fewestShowingSteps_68 hl (by decide) rfl (fun ls hl => ?_)
      refine lv_iconst (v := 2) hx hb dX5_fewestShowingSteps_70 (by decide) ?_
      refine lv_iload hx hb dX5_fewestShowingSteps_71 (lv_at hl 0 rfl) ?_
      refine lv_imul hx hb dX5_fewestShowingSteps_73 ?_
      refine lv_iload_n hx hb dX5_fewestShowingSteps_74 rfl (lv_at hl 4 rfl) ?_
      refine lv_aload_n hx hb dX5_fewestShowingSteps_75 rfl (lv_at hl 2 rfl) ?_
      refine g_get (ci := 0) (C := RX0) (T := TX0) (N := 13) (v := .int h.2.2.2.2.2.2.2.2.2.2.1) F hP 3 rfl rfl inX5_fewestShowingSteps_X0 10 (by decide) (List.mem_of_getElem? (i := 2) rfl) rfl dX5_fewestShowingSteps_76 ?_
      obtain ⟨z79, hcr, hM⟩ := ob_s hM
      refine res_i0 F hP hS rfl [] rfl rfl (runN_of (n := 2) (As := [.int a29.2.1, .int h.2.2.2.2.2.2.2.2.2.2.1]) (rest := [.int ((2 : Int32) * z65)]) F hP hS rfl [] rfl rfl (c_X8_has l dC dI cI cC cZ sa a29.2.1 h.2.2.2.2.2.2.2.2.2.2.1 hcr _) gX5_fewestShowingSteps_X8_has_n67 rfl 14 rfl (hts _ (List.mem_of_getElem? (i := 25) rfl)) (hts _ (List.mem_of_getElem? (i := 75) rfl)) (by decide +kernel) ⟨Nat.le_of_ble_eq_true rfl, Nat.le_of_ble_eq_true rfl⟩ rfl hl.1 rfl (Nat.le_of_ble_eq_true rfl) dX5_fewestShowingSteps_79 ⟨Nat.zero_le _, Nat.zero_le _⟩) (fun H locs hP hS => ?_)
      refine lv_if_eq (tgt := 89) hx hb dX5_fewestShowingSteps_82 (by decide) (fun hc => ?_) (fun hc => ?_)
      · have hM := if_pp hc hM
        refine lv_iconst (v := 0) hx hb dX5_fewestShowingSteps_89 (by decide) ?_
        exact j90 (a29.1, (0 : Int32), ((2 : Int32) * z65)) _ _ _ hP hS (lv_sub hl [1, 2] rfl) hM
      · have hM := if_nn hc hM
        refine lv_iconst (v := 1) hx hb dX5_fewestShowingSteps_85 (by decide) ?_
        refine lv_goto (tgt := 90) hx hb dX5_fewestShowingSteps_86 (by decide) ?_
        exact j90 (a29.1, (1 : Int32), ((2 : Int32) * z65)) _ _ _ hP hS (lv_sub hl [1, 2] rfl) hM
    · have hM := if_nn hc hM
      refine lv_aload_n hx hb dX5_fewestShowingSteps_35 rfl (lv_at hl 0 rfl) ?_
      refine lv_aload_n hx hb dX5_fewestShowingSteps_36 rfl (lv_at hl 1 rfl) ?_
      refine lv_iload hx hb dX5_fewestShowingSteps_37 (lv_at hl 4 rfl) ?_
      refine lv_iload_n hx hb dX5_fewestShowingSteps_39 rfl (lv_at hl 3 rfl) ?_
      obtain ⟨z40, hcr, hM⟩ := ob_s hM
      refine res_v (ws' := (wWays cI y0 y1 y2 z40 ++ wHouse cI h0 v0 v1 v2 v3 h v)) F hP hS rfl [0, 1, 2, 3, 4, 5, 6, 7] rfl rfl (runV_of (n := 3) (As := [.ref h0, .int a29.2.2, .int a29.2.1]) (rest := []) F hP hS rfl [0, 1, 2, 3, 4, 5, 6, 7] rfl rfl (c_X5_costLayer l dC dI cI cC cZ sa y0 y1 y2 h0 v0 v1 v2 v3 a29.1 h v a29.2.2 a29.2.1 hcr _) gX5_fewestShowingSteps_X5_costLayer rfl (by decide +kernel) ⟨Nat.le_of_ble_eq_true rfl, Nat.le_of_ble_eq_true rfl⟩ 0 5 rfl rfl rfl hl.1 rfl (Nat.le_of_ble_eq_true rfl) dX5_fewestShowingSteps_40 ⟨Nat.zero_le _, Nat.zero_le _⟩) rep_full (fun H locs hP hS => ?_)
      refine lv_iinc (v := (a29.2.2 + (1 : Int32))) (lv' := [(4, .int (a29.2.2 + (1 : Int32))), (0, .ref y0), (1, .ref h0), (2, .int x2), (3, .int a29.2.1)]) hx hb dX5_fewestShowingSteps_43 hl (k := 4) rfl rfl (by decide) rfl (fun ls hl => ?_)
      refine lv_goto (tgt := 29) hx hb dX5_fewestShowingSteps_46 (by decide) ?_
      exact ih29 (z40, a29.2.1, (a29.2.2 + (1 : Int32))) _ _ _ hP hS (lv_sub hl [1, 2, 3, 4, 0] rfl) hM
  refine lv_iload_n hx hb dX5_fewestShowingSteps_0 rfl (lv_at hl 2 rfl) ?_
  refine lv_if_ne (tgt := 6) hx hb dX5_fewestShowingSteps_1 (by decide) (fun hc => ?_) (fun hc => ?_)
  · have hM := if_nn hc hM
    refine lv_aload_n hx hb dX5_fewestShowingSteps_6 rfl (lv_at hl 1 rfl) ?_
    obtain ⟨z7, hcr, hM⟩ := ob_s hM
    refine res_i0 F hP hS rfl [3, 4, 5, 6, 7] rfl rfl (runV_of (n := 0) (As := []) (rest := []) F hP hS rfl [3, 4, 5, 6, 7] rfl rfl (c_X0_open l dC dI cI cC cZ sa h0 v0 v1 v2 v3 h v hcr _) gX5_fewestShowingSteps_X0_open rfl (by decide +kernel) ⟨Nat.le_of_ble_eq_true rfl, Nat.le_of_ble_eq_true rfl⟩ 3 0 rfl rfl rfl hl.1 rfl (Nat.le_of_ble_eq_true rfl) dX5_fewestShowingSteps_7 ⟨Nat.zero_le _, Nat.zero_le _⟩) (fun H locs hP hS => ?_)
    refine lv_aload_n hx hb dX5_fewestShowingSteps_10 rfl (lv_at hl 1 rfl) ?_
    obtain ⟨z11, hcr, hM⟩ := ob_s hM
    refine res_i0 F hP hS rfl [3, 4, 5, 6, 7] rfl rfl (runV_of (n := 0) (As := []) (rest := [.int z7]) F hP hS rfl [3, 4, 5, 6, 7] rfl rfl (c_X0_bareCells l dC dI cI cC cZ sa h0 v0 v1 v2 v3 h v hcr _) gX5_fewestShowingSteps_X0_bareCells rfl (by decide +kernel) ⟨Nat.le_of_ble_eq_true rfl, Nat.le_of_ble_eq_true rfl⟩ 3 0 rfl rfl rfl hl.1 rfl (Nat.le_of_ble_eq_true rfl) dX5_fewestShowingSteps_11 ⟨Nat.zero_le _, Nat.zero_le _⟩) (fun H locs hP hS => ?_)
    refine lv_iconst (v := -1) hx hb dX5_fewestShowingSteps_14 (by decide) ?_
    refine lv_ixor hx hb dX5_fewestShowingSteps_15 ?_
    refine lv_iand hx hb dX5_fewestShowingSteps_16 ?_
    refine lv_istore_n (lv' := [(3, .int (z7 &&& (z11 ^^^ (-1 : Int32)))), (0, .ref y0), (1, .ref h0), (2, .int x2)]) hx hb dX5_fewestShowingSteps_17 rfl hl (by decide) rfl (fun ls hl => ?_)
    refine lv_aload_n hx hb dX5_fewestShowingSteps_18 rfl (lv_at hl 1 rfl) ?_
    refine g_get (ci := 5) (C := RX5) (T := TX5) (N := 2) (v := .ref y2) F hP 0 rfl rfl inX5_fewestShowingSteps_X5 1 (by decide) (List.mem_of_getElem? (i := 1) rfl) rfl dX5_fewestShowingSteps_19 ?_
    refine lv_iconst (v := 0) hx hb dX5_fewestShowingSteps_22 (by decide) ?_
    obtain ⟨z23, hcr, hM⟩ := ob_s hM
    refine res_v (ws' := (wWays cI y0 y1 y2 (y.1, z23) ++ wHouse cI h0 v0 v1 v2 v3 h v)) F hP hS rfl [2] rfl rfl (runS_of (n := 2) (As := [.ref y2, .int (0 : Int32)]) (rest := []) F hP hS rfl [2] rfl rfl (c_J7_fill_53178 l dC dI cI cC cZ sa y2 16 y.2 (0 : Int32) hcr _) gX5_fewestShowingSteps_J7_fill_53178 rfl (by decide +kernel) ⟨Nat.le_of_ble_eq_true rfl, Nat.le_of_ble_eq_true rfl⟩ rfl hl.1 rfl (Nat.le_of_ble_eq_true rfl) dX5_fewestShowingSteps_23 ⟨Nat.zero_le _, Nat.zero_le _⟩) (rep_pt rfl rfl rfl) (fun H locs hP hS => ?_)
    refine lv_iconst (v := 1) hx hb dX5_fewestShowingSteps_26 (by decide) ?_
    refine lv_istore (lv' := [(4, .int (1 : Int32)), (3, .int (z7 &&& (z11 ^^^ (-1 : Int32)))), (0, .ref y0), (1, .ref h0), (2, .int x2)]) hx hb dX5_fewestShowingSteps_27 hl (by decide) rfl (fun ls hl => ?_)
    exact j29 200 ((y.1, z23), (z7 &&& (z11 ^^^ (-1 : Int32))), (1 : Int32)) _ _ _ hP hS (lv_sub hl [2, 3, 4, 1, 0] rfl) hM
  · have hM := if_pp hc hM
    refine lv_iconst (v := 0) hx hb dX5_fewestShowingSteps_4 (by decide) ?_
    exact ret_i hx hb hr hlk dX5_fewestShowingSteps_5 hM hP hS
set_option maxHeartbeats 4000000 in
set_option maxRecDepth 100000 in
theorem c_X5_firstStepInto (l : Launch) (dC : Nat → ClassId) (dI : Nat → Nat → Nat) (cI cC cZ : ClassId) (sa : Nat → Nat) (h0 v0 v1 v2 v3 : Nat) (h : HT) (v : VT) (x2 : Int32) (x3 : Int32) {res : Int32} (hM : M_X5_firstStepInto h x2 x3 = some res) : CTi l (dC, dI) [(cI, .int), (cC, .char), (cZ, .boolean)] sa yX5_firstStepInto wsX5_firstStepInto (rmd 3) [.ref h0, .int x2, .int x3] (wHouse cI h0 v0 v1 v2 v3 h v) (fun (_ : Unit) => (wHouse cI h0 v0 v1 v2 v3 h v)) (res, ()) := by
  refine CTi.enter (own := RX5) (cc := cX5_firstStepInto) (maxL := 4) (ret := (some .int)) (by decide) rfl rfl (Nat.le_of_ble_eq_true rfl) ?_
  intro pr e s m below meth c A F hr hlk hP hS ls hl
  obtain ⟨⟨hx, hb, hml, hown, hts⟩, hK, hDD, hA, hKC⟩ := id F
  have hl : lv_has ls 4 [(0, .ref h0), (1, .int x2), (2, .int x3)] := hl
  have hP : va_P (dC, dI) vwCl (wHouse cI h0 v0 v1 v2 v3 h v) s.heap := hP
  unfold M_X5_firstStepInto at hM
  refine kloop (α := Int32) (res := res) (fun k a => M_X5_firstStepInto_2 h x2 x3 k a) (fun rec a => M_X5_firstStepInto_2b h x2 x3 rec a) (fun _ => rfl) (fun _ _ => rfl) F (fun a => (wHouse cI h0 v0 v1 v2 v3 h v)) (fun a => [(0, .ref h0), (1, .int x2), (2, .int x3), (3, .int a)]) (fun a => []) 2 ?_ (fun j2 => ?_)
  · intro rc2 ih2 a2 H locs ls hP hS hl hM
    unfold M_X5_firstStepInto_2b at hM
    refine lv_iload_n hx hb dX5_firstStepInto_2 rfl (lv_at hl 3 rfl) ?_
    refine lv_iconst (v := 4) hx hb dX5_firstStepInto_3 (by decide) ?_
    refine lv_icmp_ge (tgt := 26) hx hb dX5_firstStepInto_4 (by decide) (fun hc => ?_) (fun hc => ?_)
    · have hM := if_pp hc hM
      refine lv_bipush (v := -6) hx hb dX5_firstStepInto_26 (by decide) ?_
      exact ret_i hx hb hr hlk dX5_firstStepInto_28 (some_u hM) hP hS
    · have hM := if_nn hc hM
      refine lv_aload_n hx hb dX5_firstStepInto_7 rfl (lv_at hl 0 rfl) ?_
      refine lv_iload_n hx hb dX5_firstStepInto_8 rfl (lv_at hl 1 rfl) ?_
      refine lv_iload_n hx hb dX5_firstStepInto_9 rfl (lv_at hl 3 rfl) ?_
      obtain ⟨z10, hcr, hM⟩ := ob_s hM
      refine res_i0 F hP hS rfl [0, 1, 2, 3, 4] rfl rfl (runV_of (n := 2) (As := [.int x2, .int a2]) (rest := []) F hP hS rfl [0, 1, 2, 3, 4] rfl rfl (c_X0_stepTo l dC dI cI cC cZ sa h0 v0 v1 v2 v3 h v x2 a2 hcr _) gX5_firstStepInto_X0_stepTo rfl (by decide +kernel) ⟨Nat.le_of_ble_eq_true rfl, Nat.le_of_ble_eq_true rfl⟩ 0 0 rfl rfl rfl hl.1 rfl (Nat.le_of_ble_eq_true rfl) dX5_firstStepInto_10 ⟨Nat.zero_le _, Nat.zero_le _⟩) (fun H locs hP hS => ?_)
      refine lv_iload_n hx hb dX5_firstStepInto_13 rfl (lv_at hl 2 rfl) ?_
      refine lv_iand hx hb dX5_firstStepInto_14 ?_
      refine lv_if_eq (tgt := 20) hx hb dX5_firstStepInto_15 (by decide) (fun hc => ?_) (fun hc => ?_)
      · have hM := if_pp hc hM
        refine lv_iinc (v := (a2 + (1 : Int32))) (lv' := [(3, .int (a2 + (1 : Int32))), (0, .ref h0), (1, .int x2), (2, .int x3)]) hx hb dX5_firstStepInto_20 hl (k := 3) rfl rfl (by decide) rfl (fun ls hl => ?_)
        refine lv_goto (tgt := 2) hx hb dX5_firstStepInto_23 (by decide) ?_
        exact ih2 (a2 + (1 : Int32)) _ _ _ hP hS (lv_sub hl [1, 2, 3, 0] rfl) hM
      · have hM := if_nn hc hM
        refine lv_iload_n hx hb dX5_firstStepInto_18 rfl (lv_at hl 3 rfl) ?_
        exact ret_i hx hb hr hlk dX5_firstStepInto_19 (some_u hM) hP hS
  refine lv_iconst (v := 0) hx hb dX5_firstStepInto_0 (by decide) ?_
  refine lv_istore_n (lv' := [(3, .int (0 : Int32)), (0, .ref h0), (1, .int x2), (2, .int x3)]) hx hb dX5_firstStepInto_1 rfl hl (by decide) rfl (fun ls hl => ?_)
  exact j2 200 (0 : Int32) _ _ _ hP hS (lv_sub hl [1, 2, 3, 0] rfl) hM
theorem inX5_measure_X5 : ∀ w ∈ wsX50, w ∈ wsX5_measure := fun w h => List.mem_cons_of_mem _ (List.mem_append_left _ (List.mem_append_right _ h))
set_option maxHeartbeats 4000000 in
set_option maxRecDepth 100000 in
theorem c_X5_measure (l : Launch) (dC : Nat → ClassId) (dI : Nat → Nat → Nat) (cI cC cZ : ClassId) (sa : Nat → Nat) (y0 y1 y2 h0 v0 v1 v2 v3 : Nat) (y : YT) (h : HT) (v : VT) (x2 : Int32) (x3 : Int32) (x4 : Int32) {res : Int32 × YT} (hM : M_X5_measure y h x2 x3 x4 = some res) : CTi l (dC, dI) [(cI, .int), (cC, .char), (cZ, .boolean)] sa yX5_measure wsX5_measure (rmd 3) [.ref y0, .ref h0, .int x2, .int x3, .int x4] (wWays cI y0 y1 y2 y ++ wHouse cI h0 v0 v1 v2 v3 h v) (fun (uu : YT) => (wWays cI y0 y1 y2 uu ++ wHouse cI h0 v0 v1 v2 v3 h v)) res := by
  refine CTi.enter (own := RX5) (cc := cX5_measure) (maxL := 8) (ret := (some .int)) (by decide) rfl rfl (Nat.le_of_ble_eq_true rfl) ?_
  intro pr e s m below meth c A F hr hlk hP hS ls hl
  obtain ⟨⟨hx, hb, hml, hown, hts⟩, hK, hDD, hA, hKC⟩ := id F
  have hl : lv_has ls 8 [(0, .ref y0), (1, .ref h0), (2, .int x2), (3, .int x3), (4, .int x4)] := hl
  have hP : va_P (dC, dI) vwCl (wWays cI y0 y1 y2 y ++ wHouse cI h0 v0 v1 v2 v3 h v) s.heap := hP
  unfold M_X5_measure at hM
  refine kloop (α := YT × Int32 × Int32 × Int32) (res := res) (fun k a => M_X5_measure_13 h x2 x3 x4 k a) (fun rec a => M_X5_measure_13b h x2 x3 x4 rec a) (fun _ => rfl) (fun _ _ => rfl) F (fun a => (wWays cI y0 y1 y2 a.1 ++ wHouse cI h0 v0 v1 v2 v3 h v)) (fun a => [(0, .ref y0), (1, .ref h0), (2, .int x2), (4, .int x4), (5, .int a.2.1), (6, .int a.2.2.1), (7, .int a.2.2.2)]) (fun a => []) 13 ?_ (fun j13 => ?_)
  · intro rc13 ih13 a13 H locs ls hP hS hl hM
    unfold M_X5_measure_13b at hM
    refine lv_iload hx hb dX5_measure_13 (lv_at hl 6 rfl) ?_
    refine lv_aload_n hx hb dX5_measure_15 rfl (lv_at hl 0 rfl) ?_
    refine g_get (ci := 5) (C := RX5) (T := TX5) (N := 2) (v := .ref y1) F hP 0 rfl rfl inX5_measure_X5 0 (by decide) (List.mem_of_getElem? (i := 1) rfl) rfl dX5_measure_16 ?_
    refine va_alen (v := (nI 16)) hx hb hK hP 1 0 rfl rfl rfl dX5_measure_19 ?_
    refine lv_icmp_ge (tgt := 71) hx hb dX5_measure_20 (by decide) (fun hc => ?_) (fun hc => ?_)
    · have hM := if_pp hc hM
      refine lv_bipush (v := -6) hx hb dX5_measure_71 (by decide) ?_
      exact ret_i hx hb hr hlk dX5_measure_73 hM hP hS
    · have hM := if_nn hc hM
      refine lv_aload_n hx hb dX5_measure_23 rfl (lv_at hl 0 rfl) ?_
      refine g_get (ci := 5) (C := RX5) (T := TX5) (N := 2) (v := .ref y1) F hP 0 rfl rfl inX5_measure_X5 0 (by decide) (List.mem_of_getElem? (i := 1) rfl) rfl dX5_measure_24 ?_
      refine lv_iload hx hb dX5_measure_27 (lv_at hl 6 rfl) ?_
      refine lv_iload hx hb dX5_measure_29 (lv_at hl 4 rfl) ?_
      obtain ⟨hin, hM⟩ := if_ok hM
      refine g_iast (ws' := (wWays cI y0 y1 y2 ((upd a13.1.1 a13.2.2.2.toNatClampNeg a13.2.1), a13.1.2) ++ wHouse cI h0 v0 v1 v2 v3 h v)) F hP hS rfl 1 0 rfl rfl hin dX5_measure_31 rfl (fun H locs hP hS => ?_)
      refine lv_iload hx hb dX5_measure_32 (lv_at hl 4 rfl) ?_
      refine lv_iload_n hx hb dX5_measure_34 rfl (lv_at hl 2 rfl) ?_
      refine lv_iand hx hb dX5_measure_35 ?_
      refine lv_if_eq (tgt := 42) hx hb dX5_measure_36 (by decide) (fun hc => ?_) (fun hc => ?_)
      · have hM := if_pp hc hM
        refine lv_aload_n hx hb dX5_measure_42 rfl (lv_at hl 1 rfl) ?_
        refine lv_iload hx hb dX5_measure_43 (lv_at hl 4 rfl) ?_
        obtain ⟨z45, hcr, hM⟩ := ob_s hM
        refine res_i0 F hP hS rfl [3, 4, 5, 6, 7] rfl rfl (runV_of (n := 1) (As := [.int a13.2.1]) (rest := []) F hP hS rfl [3, 4, 5, 6, 7] rfl rfl (c_X0_spread l dC dI cI cC cZ sa h0 v0 v1 v2 v3 h v a13.2.1 hcr _) gX5_measure_X0_spread rfl (by decide +kernel) ⟨Nat.le_of_ble_eq_true rfl, Nat.le_of_ble_eq_true rfl⟩ 3 0 rfl rfl rfl hl.1 rfl (Nat.le_of_ble_eq_true rfl) dX5_measure_45 ⟨Nat.zero_le _, Nat.zero_le _⟩) (fun H locs hP hS => ?_)
        refine lv_iload hx hb dX5_measure_48 (lv_at hl 3 rfl) ?_
        refine lv_iand hx hb dX5_measure_50 ?_
        refine lv_iload hx hb dX5_measure_51 (lv_at hl 5 rfl) ?_
        refine lv_iconst (v := -1) hx hb dX5_measure_53 (by decide) ?_
        refine lv_ixor hx hb dX5_measure_54 ?_
        refine lv_iand hx hb dX5_measure_55 ?_
        refine lv_istore (lv' := [(5, .int ((z45 &&& x4) &&& (a13.2.2.1 ^^^ (-1 : Int32)))), (0, .ref y0), (1, .ref h0), (2, .int x2), (4, .int x4), (6, .int a13.2.2.1), (7, .int a13.2.2.2)]) hx hb dX5_measure_56 hl (by decide) rfl (fun ls hl => ?_)
        refine lv_iload hx hb dX5_measure_58 (lv_at hl 5 rfl) ?_
        refine lv_iload hx hb dX5_measure_60 (lv_at hl 0 rfl) ?_
        refine lv_ior hx hb dX5_measure_62 ?_
        refine lv_istore (lv' := [(6, .int (a13.2.2.1 ||| ((z45 &&& x4) &&& (a13.2.2.1 ^^^ (-1 : Int32))))), (5, .int ((z45 &&& x4) &&& (a13.2.2.1 ^^^ (-1 : Int32)))), (0, .ref y0), (1, .ref h0), (2, .int x2), (4, .int x4), (7, .int a13.2.2.2)]) hx hb dX5_measure_63 hl (by decide) rfl (fun ls hl => ?_)
        refine lv_iinc (v := (a13.2.2.2 + (1 : Int32))) (lv' := [(7, .int (a13.2.2.2 + (1 : Int32))), (6, .int (a13.2.2.1 ||| ((z45 &&& x4) &&& (a13.2.2.1 ^^^ (-1 : Int32))))), (5, .int ((z45 &&& x4) &&& (a13.2.2.1 ^^^ (-1 : Int32)))), (0, .ref y0), (1, .ref h0), (2, .int x2), (4, .int x4)]) hx hb dX5_measure_65 hl (k := 6) rfl rfl (by decide) rfl (fun ls hl => ?_)
        refine lv_goto (tgt := 13) hx hb dX5_measure_68 (by decide) ?_
        exact ih13 (((upd a13.1.1 a13.2.2.2.toNatClampNeg a13.2.1), a13.1.2), ((z45 &&& x4) &&& (a13.2.2.1 ^^^ (-1 : Int32))), (a13.2.2.1 ||| ((z45 &&& x4) &&& (a13.2.2.1 ^^^ (-1 : Int32)))), (a13.2.2.2 + (1 : Int32))) _ _ _ hP hS (lv_sub hl [3, 4, 5, 6, 2, 1, 0] rfl) hM
      · have hM := if_nn hc hM
        refine lv_iload hx hb dX5_measure_39 (lv_at hl 6 rfl) ?_
        exact ret_i hx hb hr hlk dX5_measure_41 hM hP hS
  refine lv_iload_n hx hb dX5_measure_0 rfl (lv_at hl 3 rfl) ?_
  refine lv_iload hx hb dX5_measure_1 (lv_at hl 4 rfl) ?_
  refine lv_iand hx hb dX5_measure_3 ?_
  refine lv_istore (lv' := [(5, .int (x3 &&& x4)), (0, .ref y0), (1, .ref h0), (2, .int x2), (3, .int x3), (4, .int x4)]) hx hb dX5_measure_4 hl (by decide) rfl (fun ls hl => ?_)
  refine lv_iload hx hb dX5_measure_6 (lv_at hl 0 rfl) ?_
  refine lv_istore (lv' := [(6, .int (x3 &&& x4)), (5, .int (x3 &&& x4)), (0, .ref y0), (1, .ref h0), (2, .int x2), (3, .int x3), (4, .int x4)]) hx hb dX5_measure_8 hl (by decide) rfl (fun ls hl => ?_)
  refine lv_iconst (v := 0) hx hb dX5_measure_10 (by decide) ?_
  refine lv_istore (lv' := [(7, .int (0 : Int32)), (6, .int (x3 &&& x4)), (5, .int (x3 &&& x4)), (0, .ref y0), (1, .ref h0), (2, .int x2), (3, .int x3), (4, .int x4)]) hx hb dX5_measure_11 hl (by decide) rfl (fun ls hl => ?_)
  exact j13 200 (y, (x3 &&& x4), (x3 &&& x4), (0 : Int32)) _ _ _ hP hS (lv_sub hl [3, 4, 5, 7, 2, 1, 0] rfl) hM
theorem inX5_stepOnWay_X5 : ∀ w ∈ wsX50, w ∈ wsX5_stepOnWay := fun w h => List.mem_cons_of_mem _ (List.mem_append_left _ (List.mem_append_right _ h))
set_option maxHeartbeats 4000000 in
set_option maxRecDepth 100000 in
theorem c_X5_stepOnWay (l : Launch) (dC : Nat → ClassId) (dI : Nat → Nat → Nat) (cI cC cZ : ClassId) (sa : Nat → Nat) (y0 y1 y2 h0 v0 v1 v2 v3 : Nat) (y : YT) (h : HT) (v : VT) (x2 : Int32) (x3 : Int32) (x4 : Int32) (x5 : Int32) {res : Int32 × YT} (hM : M_X5_stepOnWay y h x2 x3 x4 x5 = some res) : CTi l (dC, dI) [(cI, .int), (cC, .char), (cZ, .boolean)] sa yX5_stepOnWay wsX5_stepOnWay (rmd 4) [.ref y0, .ref h0, .int x2, .int x3, .int x4, .int x5] (wWays cI y0 y1 y2 y ++ wHouse cI h0 v0 v1 v2 v3 h v) (fun (uu : YT) => (wWays cI y0 y1 y2 uu ++ wHouse cI h0 v0 v1 v2 v3 h v)) res := by
  refine CTi.enter (own := RX5) (cc := cX5_stepOnWay) (maxL := 10) (ret := (some .int)) (by decide) rfl rfl (Nat.le_of_ble_eq_true rfl) ?_
  intro pr e s m below meth c A F hr hlk hP hS ls hl
  obtain ⟨⟨hx, hb, hml, hown, hts⟩, hK, hDD, hA, hKC⟩ := id F
  have hl : lv_has ls 10 [(0, .ref y0), (1, .ref h0), (2, .int x2), (3, .int x3), (4, .int x4), (5, .int x5)] := hl
  have hP : va_P (dC, dI) vwCl (wWays cI y0 y1 y2 y ++ wHouse cI h0 v0 v1 v2 v3 h v) s.heap := hP
  unfold M_X5_stepOnWay at hM
  refine kloop (α := YT × Int32 × Int32 × Int32) (res := res) (fun k a => M_X5_stepOnWay_17 h x2 x3 x4 x5 k a) (fun rec a => M_X5_stepOnWay_17b h x2 x3 x4 x5 rec a) (fun _ => rfl) (fun _ _ => rfl) F (fun a => (wWays cI y0 y1 y2 a.1 ++ wHouse cI h0 v0 v1 v2 v3 h v)) (fun a => [(0, .ref y0), (1, .ref h0), (5, .int x5), (6, .int a.2.1), (7, .int a.2.2.1), (8, .int a.2.2.2)]) (fun a => []) 17 ?_ (fun j17 => ?_)
  · intro rc17 ih17 a17 H locs ls hP hS hl hM
    unfold M_X5_stepOnWay_17b at hM
    refine lv_iload hx hb dX5_stepOnWay_17 (lv_at hl 5 rfl) ?_
    refine lv_iload hx hb dX5_stepOnWay_19 (lv_at hl 4 rfl) ?_
    refine lv_icmp_ge (tgt := 72) hx hb dX5_stepOnWay_21 (by decide) (fun hc => ?_) (fun hc => ?_)
    · have hM := if_pp hc hM
      refine lv_bipush (v := -6) hx hb dX5_stepOnWay_72 (by decide) ?_
      exact ret_i hx hb hr hlk dX5_stepOnWay_74 hM hP hS
    · have hM := if_nn hc hM
      refine lv_aload_n hx hb dX5_stepOnWay_24 rfl (lv_at hl 1 rfl) ?_
      refine lv_iload hx hb dX5_stepOnWay_25 (lv_at hl 3 rfl) ?_
      refine lv_aload_n hx hb dX5_stepOnWay_27 rfl (lv_at hl 0 rfl) ?_
      refine g_get (ci := 5) (C := RX5) (T := TX5) (N := 2) (v := .ref y1) F hP 0 rfl rfl inX5_stepOnWay_X5 0 (by decide) (List.mem_of_getElem? (i := 1) rfl) rfl dX5_stepOnWay_28 ?_
      refine lv_iload hx hb dX5_stepOnWay_31 (lv_at hl 4 rfl) ?_
      refine lv_iload hx hb dX5_stepOnWay_33 (lv_at hl 5 rfl) ?_
      refine lv_isub hx hb dX5_stepOnWay_35 ?_
      refine lv_iconst (v := 1) hx hb dX5_stepOnWay_36 (by decide) ?_
      refine lv_isub hx hb dX5_stepOnWay_37 ?_
      obtain ⟨z38, hcr, hM⟩ := ob_s hM
      refine res_i0 F hP hS rfl [1] rfl rfl (runN_of (n := 2) (As := [.ref y1, .int ((a17.2.2.1 - a17.2.2.2) - (1 : Int32))]) (rest := [.int a17.2.1, .ref h0]) F hP hS rfl [1] rfl rfl (c_X8_at l dC dI cI cC cZ sa y1 16 a17.1.1 ((a17.2.2.1 - a17.2.2.2) - (1 : Int32)) hcr _) gX5_stepOnWay_X8_at_n28 rfl 13 rfl (hts _ (List.mem_of_getElem? (i := 21) rfl)) (hts _ (List.mem_of_getElem? (i := 20) rfl)) (by decide +kernel) ⟨Nat.le_of_ble_eq_true rfl, Nat.le_of_ble_eq_true rfl⟩ rfl hl.1 rfl (Nat.le_of_ble_eq_true rfl) dX5_stepOnWay_38 ⟨Nat.zero_le _, Nat.zero_le _⟩) (fun H locs hP hS => ?_)
      obtain ⟨z41, hcr, hM⟩ := ob_s hM
      refine res_i0 F hP hS rfl [3, 4, 5, 6, 7] rfl rfl (runS_of (n := 3) (As := [.ref h0, .int a17.2.1, .int z38]) (rest := []) F hP hS rfl [3, 4, 5, 6, 7] rfl rfl (c_X5_firstStepInto l dC dI cI cC cZ sa h0 v0 v1 v2 v3 h v a17.2.1 z38 hcr _) gX5_stepOnWay_X5_firstStepInto rfl (by decide +kernel) ⟨Nat.le_of_ble_eq_true rfl, Nat.le_of_ble_eq_true rfl⟩ rfl hl.1 rfl (Nat.le_of_ble_eq_true rfl) dX5_stepOnWay_41 ⟨Nat.zero_le _, Nat.zero_le _⟩) (fun H locs hP hS => ?_)
      refine lv_istore (lv' := [(9, .int z41), (0, .ref y0), (1, .ref h0), (5, .int x5), (6, .int a17.2.1), (7, .int a17.2.2.1), (8, .int a17.2.2.2)]) hx hb dX5_stepOnWay_44 hl (by decide) rfl (fun ls hl => ?_)
      refine lv_iload hx hb dX5_stepOnWay_46 (lv_at hl 6 rfl) ?_
      refine lv_iload hx hb dX5_stepOnWay_48 (lv_at hl 3 rfl) ?_
      refine lv_icmp_ne (tgt := 56) hx hb dX5_stepOnWay_50 (by decide) (fun hc => ?_) (fun hc => ?_)
      · have hM := if_nn hc hM
        refine lv_aload_n hx hb dX5_stepOnWay_56 rfl (lv_at hl 2 rfl) ?_
        refine lv_iload hx hb dX5_stepOnWay_57 (lv_at hl 4 rfl) ?_
        refine lv_iload hx hb dX5_stepOnWay_59 (lv_at hl 0 rfl) ?_
        obtain ⟨z61, hcr, hM⟩ := ob_s hM
        refine res_i0 F hP hS rfl [3, 4, 5, 6, 7] rfl rfl (runV_of (n := 2) (As := [.int a17.2.1, .int z41]) (rest := []) F hP hS rfl [3, 4, 5, 6, 7] rfl rfl (c_X0_stepOrStay l dC dI cI cC cZ sa h0 v0 v1 v2 v3 h v a17.2.1 z41 hcr _) gX5_stepOnWay_X0_stepOrStay rfl (by decide +kernel) ⟨Nat.le_of_ble_eq_true rfl, Nat.le_of_ble_eq_true rfl⟩ 3 0 rfl rfl rfl hl.1 rfl (Nat.le_of_ble_eq_true rfl) dX5_stepOnWay_61 ⟨Nat.zero_le _, Nat.zero_le _⟩) (fun H locs hP hS => ?_)
        refine lv_istore (lv' := [(6, .int z61), (9, .int z41), (0, .ref y0), (1, .ref h0), (5, .int x5), (7, .int a17.2.2.1), (8, .int a17.2.2.2)]) hx hb dX5_stepOnWay_64 hl (by decide) rfl (fun ls hl => ?_)
        refine lv_iinc (v := (a17.2.2.2 + (1 : Int32))) (lv' := [(8, .int (a17.2.2.2 + (1 : Int32))), (6, .int z61), (9, .int z41), (0, .ref y0), (1, .ref h0), (5, .int x5), (7, .int a17.2.2.1)]) hx hb dX5_stepOnWay_66 hl (k := 6) rfl rfl (by decide) rfl (fun ls hl => ?_)
        refine lv_goto (tgt := 17) hx hb dX5_stepOnWay_69 (by decide) ?_
        exact ih17 (a17.1, z61, a17.2.2.1, (a17.2.2.2 + (1 : Int32))) _ _ _ hP hS (lv_sub hl [3, 4, 5, 1, 6, 0] rfl) hM
      · have hM := if_pp hc hM
        refine lv_iload hx hb dX5_stepOnWay_53 (lv_at hl 0 rfl) ?_
        exact ret_i hx hb hr hlk dX5_stepOnWay_55 hM hP hS
  refine lv_iload_n hx hb dX5_stepOnWay_0 rfl (lv_at hl 2 rfl) ?_
  refine lv_istore (lv' := [(6, .int x2), (0, .ref y0), (1, .ref h0), (2, .int x2), (3, .int x3), (4, .int x4), (5, .int x5)]) hx hb dX5_stepOnWay_1 hl (by decide) rfl (fun ls hl => ?_)
  refine lv_aload_n hx hb dX5_stepOnWay_3 rfl (lv_at hl 1 rfl) ?_
  refine lv_aload_n hx hb dX5_stepOnWay_4 rfl (lv_at hl 2 rfl) ?_
  refine lv_iload_n hx hb dX5_stepOnWay_5 rfl (lv_at hl 3 rfl) ?_
  refine lv_iload_n hx hb dX5_stepOnWay_6 rfl (lv_at hl 4 rfl) ?_
  refine lv_iload hx hb dX5_stepOnWay_7 (lv_at hl 5 rfl) ?_
  obtain ⟨z9, hcr, hM⟩ := ob_s hM
  refine res_i (ws' := (wWays cI y0 y1 y2 z9.2 ++ wHouse cI h0 v0 v1 v2 v3 h v)) F hP hS rfl [0, 1, 2, 3, 4, 5, 6, 7] rfl rfl (runV_of (n := 4) (As := [.ref h0, .int x2, .int x3, .int x4]) (rest := []) F hP hS rfl [0, 1, 2, 3, 4, 5, 6, 7] rfl rfl (c_X5_measure l dC dI cI cC cZ sa y0 y1 y2 h0 v0 v1 v2 v3 y h v x2 x3 x4 hcr _) gX5_stepOnWay_X5_measure rfl (by decide +kernel) ⟨Nat.le_of_ble_eq_true rfl, Nat.le_of_ble_eq_true rfl⟩ 0 5 rfl rfl rfl hl.1 rfl (Nat.le_of_ble_eq_true rfl) dX5_stepOnWay_9 ⟨Nat.zero_le _, Nat.zero_le _⟩) rep_full (fun H locs hP hS => ?_)
  refine lv_istore (lv' := [(7, .int z9.1), (6, .int x2), (0, .ref y0), (1, .ref h0), (2, .int x2), (3, .int x3), (4, .int x4), (5, .int x5)]) hx hb dX5_stepOnWay_12 hl (by decide) rfl (fun ls hl => ?_)
  refine lv_iconst (v := 0) hx hb dX5_stepOnWay_14 (by decide) ?_
  refine lv_istore (lv' := [(8, .int (0 : Int32)), (7, .int z9.1), (6, .int x2), (0, .ref y0), (1, .ref h0), (2, .int x2), (3, .int x3), (4, .int x4), (5, .int x5)]) hx hb dX5_stepOnWay_15 hl (by decide) rfl (fun ls hl => ?_)
  exact j17 200 (z9.2, x2, z9.1, (0 : Int32)) _ _ _ hP hS (lv_sub hl [3, 4, 8, 2, 1, 0] rfl) hM
theorem inX7_begin_X7 : ∀ w ∈ wsX70, w ∈ wsX7_begin := fun w h => List.mem_cons_of_mem _ (List.mem_append_right _ h)
set_option maxHeartbeats 4000000 in
set_option maxRecDepth 100000 in
theorem c_X7_begin (l : Launch) (dC : Nat → ClassId) (dI : Nat → Nat → Nat) (cI cC cZ : ClassId) (sa : Nat → Nat) (q0 q1 q2 : Nat) (q : QT) (x1 : Int32) {res : QT} (hM : M_X7_begin q x1 = some res) : CTv l (dC, dI) [(cI, .int), (cC, .char), (cZ, .boolean)] sa yX7_begin wsX7_begin (rmd 2) [.ref q0, .int x1] (wWhe cI q0 q1 q2 q) (fun (uu : QT) => (wWhe cI q0 q1 q2 uu)) res := by
  refine CTv.enter (own := RX7) (cc := cX7_begin) (maxL := 2) (ret := none) (by decide) rfl rfl (Nat.le_of_ble_eq_true rfl) ?_
  intro pr e s m below meth c A F hr hlk hP hS ls hl
  obtain ⟨⟨hx, hb, hml, hown, hts⟩, hK, hDD, hA, hKC⟩ := id F
  have hl : lv_has ls 2 [(0, .ref q0), (1, .int x1)] := hl
  have hP : va_P (dC, dI) vwCl (wWhe cI q0 q1 q2 q) s.heap := hP
  unfold M_X7_begin at hM
  refine lv_aload_n hx hb dX7_begin_0 rfl (lv_at hl 0 rfl) ?_
  refine g_get (ci := 7) (C := RX7) (T := TX7) (N := 2) (v := .ref q1) F hP 0 rfl rfl inX7_begin_X7 0 (by decide) (List.mem_of_getElem? (i := 1) rfl) rfl dX7_begin_1 ?_
  refine lv_iconst (v := 0) hx hb dX7_begin_4 (by decide) ?_
  obtain ⟨z5, hcr, hM⟩ := ob_s hM
  refine res_v (ws' := (wWhe cI q0 q1 q2 (z5, q.2))) F hP hS rfl [1] rfl rfl (runS_of (n := 2) (As := [.ref q1, .int (0 : Int32)]) (rest := []) F hP hS rfl [1] rfl rfl (c_J7_fill_53178 l dC dI cI cC cZ sa q1 16 q.1 (0 : Int32) hcr _) gX7_begin_J7_fill_53178 rfl (by decide +kernel) ⟨Nat.le_of_ble_eq_true rfl, Nat.le_of_ble_eq_true rfl⟩ rfl hl.1 rfl (Nat.le_of_ble_eq_true rfl) dX7_begin_5 ⟨Nat.zero_le _, Nat.zero_le _⟩) (rep_pt rfl rfl rfl) (fun H locs hP hS => ?_)
  refine lv_aload_n hx hb dX7_begin_8 rfl (lv_at hl 0 rfl) ?_
  refine g_get (ci := 7) (C := RX7) (T := TX7) (N := 2) (v := .ref q1) F hP 0 rfl rfl inX7_begin_X7 0 (by decide) (List.mem_of_getElem? (i := 1) rfl) rfl dX7_begin_9 ?_
  refine lv_iload_n hx hb dX7_begin_12 rfl (lv_at hl 1 rfl) ?_
  refine lv_iconst (v := 1) hx hb dX7_begin_13 (by decide) ?_
  obtain ⟨z14, hcr, hM⟩ := ob_s hM
  refine res_v (ws' := (wWhe cI q0 q1 q2 (z14, q.2))) F hP hS rfl [1] rfl rfl (runN_of (n := 3) (As := [.ref q1, .int x1, .int (1 : Int32)]) (rest := []) F hP hS rfl [1] rfl rfl (c_X8_put l dC dI cI cC cZ sa q1 16 z5 x1 (1 : Int32) hcr _) gX7_begin_X8_put_n24 rfl 20 rfl (hts _ (List.mem_of_getElem? (i := 7) rfl)) (hts _ (List.mem_of_getElem? (i := 6) rfl)) (by decide +kernel) ⟨Nat.le_of_ble_eq_true rfl, Nat.le_of_ble_eq_true rfl⟩ rfl hl.1 rfl (Nat.le_of_ble_eq_true rfl) dX7_begin_14 ⟨Nat.zero_le _, Nat.zero_le _⟩) (rep_pt rfl rfl rfl) (fun H locs hP hS => ?_)
  exact ret_v hx hb hr hlk dX7_begin_17 hM hP hS
theorem inX7_waysInto_X7 : ∀ w ∈ wsX70, w ∈ wsX7_waysInto := fun w h => List.mem_cons_of_mem _ (List.mem_append_left _ (List.mem_append_right _ h))
set_option maxHeartbeats 4000000 in
set_option maxRecDepth 100000 in
theorem c_X7_waysInto (l : Launch) (dC : Nat → ClassId) (dI : Nat → Nat → Nat) (cI cC cZ : ClassId) (sa : Nat → Nat) (q0 q1 q2 h0 v0 v1 v2 v3 : Nat) (q : QT) (h : HT) (v : VT) (x2 : Int32) {res : Int32} (hM : M_X7_waysInto q h x2 = some res) : CTi l (dC, dI) [(cI, .int), (cC, .char), (cZ, .boolean)] sa yX7_waysInto wsX7_waysInto (rmd 3) [.ref q0, .ref h0, .int x2] (wWhe cI q0 q1 q2 q ++ wHouse cI h0 v0 v1 v2 v3 h v) (fun (_ : Unit) => (wWhe cI q0 q1 q2 q ++ wHouse cI h0 v0 v1 v2 v3 h v)) (res, ()) := by
  refine CTi.enter (own := RX7) (cc := cX7_waysInto) (maxL := 6) (ret := (some .int)) (by decide) rfl rfl (Nat.le_of_ble_eq_true rfl) ?_
  intro pr e s m below meth c A F hr hlk hP hS ls hl
  obtain ⟨⟨hx, hb, hml, hown, hts⟩, hK, hDD, hA, hKC⟩ := id F
  have hl : lv_has ls 6 [(0, .ref q0), (1, .ref h0), (2, .int x2)] := hl
  have hP : va_P (dC, dI) vwCl (wWhe cI q0 q1 q2 q ++ wHouse cI h0 v0 v1 v2 v3 h v) s.heap := hP
  unfold M_X7_waysInto at hM
  refine kloop (α := Int32 × Int32) (res := res) (fun k a => M_X7_waysInto_5 q h x2 k a) (fun rec a => M_X7_waysInto_5b q h x2 rec a) (fun _ => rfl) (fun _ _ => rfl) F (fun a => (wWhe cI q0 q1 q2 q ++ wHouse cI h0 v0 v1 v2 v3 h v)) (fun a => [(0, .ref q0), (1, .ref h0), (2, .int x2), (3, .int a.1), (4, .int a.2)]) (fun a => []) 5 ?_ (fun j5 => ?_)
  · intro rc5 ih5 a5 H locs ls hP hS hl hM
    unfold M_X7_waysInto_5b at hM
    refine kblk (α := Int32 × Int32 × Int32) (res := res) (fun a => M_X7_waysInto_45 q h x2 rc5 a) F (fun a => (wWhe cI q0 q1 q2 q ++ wHouse cI h0 v0 v1 v2 v3 h v)) (fun a => [(0, .ref q0), (1, .ref h0), (2, .int x2), (4, .int a.1)]) (fun a => [.int a.2.1, .int a.2.2]) 45 ?_ (fun j45 => ?_)
    · intro a45 H locs ls hP hS hl hM
      unfold M_X7_waysInto_45 at hM
      refine lv_iadd hx hb dX7_waysInto_45 ?_
      refine lv_istore_n (lv' := [(3, .int (a45.2.2 + a45.2.1)), (0, .ref q0), (1, .ref h0), (2, .int x2), (4, .int a45.1)]) hx hb dX7_waysInto_46 rfl hl (by decide) rfl (fun ls hl => ?_)
      refine lv_iinc (v := (a45.1 + (1 : Int32))) (lv' := [(4, .int (a45.1 + (1 : Int32))), (3, .int (a45.2.2 + a45.2.1)), (0, .ref q0), (1, .ref h0), (2, .int x2)]) hx hb dX7_waysInto_47 hl (k := 4) rfl rfl (by decide) rfl (fun ls hl => ?_)
      refine lv_goto (tgt := 5) hx hb dX7_waysInto_50 (by decide) ?_
      exact ih5 ((a45.2.2 + a45.2.1), (a45.1 + (1 : Int32))) _ _ _ hP hS (lv_sub hl [2, 3, 4, 1, 0] rfl) hM
    refine lv_iload hx hb dX7_waysInto_5 (lv_at hl 4 rfl) ?_
    refine lv_iconst (v := 5) hx hb dX7_waysInto_7 (by decide) ?_
    refine lv_icmp_ge (tgt := 53) hx hb dX7_waysInto_8 (by decide) (fun hc => ?_) (fun hc => ?_)
    · have hM := if_pp hc hM
      refine lv_iload_n hx hb dX7_waysInto_53 rfl (lv_at hl 3 rfl) ?_
      exact ret_i hx hb hr hlk dX7_waysInto_54 (some_u hM) hP hS
    · have hM := if_nn hc hM
      refine lv_aload_n hx hb dX7_waysInto_11 rfl (lv_at hl 1 rfl) ?_
      refine lv_iload_n hx hb dX7_waysInto_12 rfl (lv_at hl 2 rfl) ?_
      obtain ⟨z13, hcr, hM⟩ := ob_s hM
      refine res_i0 F hP hS rfl [] rfl rfl (runN_of (n := 1) (As := [.int x2]) (rest := [.ref h0]) F hP hS rfl [] rfl rfl (c_X8_bit l dC dI cI cC cZ sa x2 hcr _) gX7_waysInto_X8_bit_n42 rfl 22 rfl (hts _ (List.mem_of_getElem? (i := 3) rfl)) (hts _ (List.mem_of_getElem? (i := 2) rfl)) (by decide +kernel) ⟨Nat.le_of_ble_eq_true rfl, Nat.le_of_ble_eq_true rfl⟩ rfl hl.1 rfl (Nat.le_of_ble_eq_true rfl) dX7_waysInto_13 ⟨Nat.zero_le _, Nat.zero_le _⟩) (fun H locs hP hS => ?_)
      refine lv_iload hx hb dX7_waysInto_16 (lv_at hl 4 rfl) ?_
      obtain ⟨z18, hcr, hM⟩ := ob_s hM
      refine res_i0 F hP hS rfl [3, 4, 5, 6, 7] rfl rfl (runV_of (n := 2) (As := [.int z13, .int a5.2]) (rest := []) F hP hS rfl [3, 4, 5, 6, 7] rfl rfl (c_X0_stepTo l dC dI cI cC cZ sa h0 v0 v1 v2 v3 h v z13 a5.2 hcr _) gX7_waysInto_X0_stepTo rfl (by decide +kernel) ⟨Nat.le_of_ble_eq_true rfl, Nat.le_of_ble_eq_true rfl⟩ 3 0 rfl rfl rfl hl.1 rfl (Nat.le_of_ble_eq_true rfl) dX7_waysInto_18 ⟨Nat.zero_le _, Nat.zero_le _⟩) (fun H locs hP hS => ?_)
      refine lv_istore (lv' := [(5, .int z18), (0, .ref q0), (1, .ref h0), (2, .int x2), (3, .int a5.1), (4, .int a5.2)]) hx hb dX7_waysInto_21 hl (by decide) rfl (fun ls hl => ?_)
      refine lv_iload_n hx hb dX7_waysInto_23 rfl (lv_at hl 4 rfl) ?_
      refine lv_iload hx hb dX7_waysInto_24 (lv_at hl 0 rfl) ?_
      refine lv_if_ne (tgt := 33) hx hb dX7_waysInto_26 (by decide) (fun hc => ?_) (fun hc => ?_)
      · have hM := if_nn hc hM
        refine lv_aload_n hx hb dX7_waysInto_33 rfl (lv_at hl 1 rfl) ?_
        refine g_get (ci := 7) (C := RX7) (T := TX7) (N := 2) (v := .ref q2) F hP 0 rfl rfl inX7_waysInto_X7 1 (by decide) (List.mem_of_getElem? (i := 1) rfl) rfl dX7_waysInto_34 ?_
        refine lv_iload hx hb dX7_waysInto_37 (lv_at hl 0 rfl) ?_
        obtain ⟨z39, hcr, hM⟩ := ob_s hM
        refine res_i0 F hP hS rfl [] rfl rfl (runN_of (n := 1) (As := [.int z18]) (rest := [.ref q2, .int a5.1]) F hP hS rfl [] rfl rfl (c_X8_cellOf l dC dI cI cC cZ sa z18 hcr _) gX7_waysInto_X8_cellOf_n52 rfl 23 rfl (hts _ (List.mem_of_getElem? (i := 3) rfl)) (hts _ (List.mem_of_getElem? (i := 23) rfl)) (by decide +kernel) ⟨Nat.le_of_ble_eq_true rfl, Nat.le_of_ble_eq_true rfl⟩ rfl hl.1 rfl (Nat.le_of_ble_eq_true rfl) dX7_waysInto_39 ⟨Nat.zero_le _, Nat.zero_le _⟩) (fun H locs hP hS => ?_)
        obtain ⟨z42, hcr, hM⟩ := ob_s hM
        refine res_i0 F hP hS rfl [2] rfl rfl (runN_of (n := 2) (As := [.ref q2, .int z39]) (rest := [.int a5.1]) F hP hS rfl [2] rfl rfl (c_X8_at l dC dI cI cC cZ sa q2 16 q.2 z39 hcr _) gX7_waysInto_X8_at_n55 rfl 24 rfl (hts _ (List.mem_of_getElem? (i := 3) rfl)) (hts _ (List.mem_of_getElem? (i := 32) rfl)) (by decide +kernel) ⟨Nat.le_of_ble_eq_true rfl, Nat.le_of_ble_eq_true rfl⟩ rfl hl.1 rfl (Nat.le_of_ble_eq_true rfl) dX7_waysInto_42 ⟨Nat.zero_le _, Nat.zero_le _⟩) (fun H locs hP hS => ?_)
        exact j45 (a5.2, z42, a5.1) _ _ _ hP hS (lv_sub hl [1, 2, 3, 5] rfl) hM
      · have hM := if_pp hc hM
        refine lv_iconst (v := 0) hx hb dX7_waysInto_29 (by decide) ?_
        refine lv_goto (tgt := 45) hx hb dX7_waysInto_30 (by decide) ?_
        exact j45 (a5.2, (0 : Int32), a5.1) _ _ _ hP hS (lv_sub hl [1, 2, 3, 5] rfl) hM
  refine lv_iconst (v := 0) hx hb dX7_waysInto_0 (by decide) ?_
  refine lv_istore_n (lv' := [(3, .int (0 : Int32)), (0, .ref q0), (1, .ref h0), (2, .int x2)]) hx hb dX7_waysInto_1 rfl hl (by decide) rfl (fun ls hl => ?_)
  refine lv_iconst (v := 0) hx hb dX7_waysInto_2 (by decide) ?_
  refine lv_istore (lv' := [(4, .int (0 : Int32)), (3, .int (0 : Int32)), (0, .ref q0), (1, .ref h0), (2, .int x2)]) hx hb dX7_waysInto_3 hl (by decide) rfl (fun ls hl => ?_)
  exact j5 200 ((0 : Int32), (0 : Int32)) _ _ _ hP hS (lv_sub hl [2, 3, 4, 1, 0] rfl) hM
theorem inX7_passMinute_X7 : ∀ w ∈ wsX70, w ∈ wsX7_passMinute := fun w h => List.mem_cons_of_mem _ (List.mem_append_left _ (List.mem_append_right _ h))
set_option maxHeartbeats 4000000 in
set_option maxRecDepth 100000 in
theorem c_X7_passMinute (l : Launch) (dC : Nat → ClassId) (dI : Nat → Nat → Nat) (cI cC cZ : ClassId) (sa : Nat → Nat) (q0 q1 q2 h0 v0 v1 v2 v3 : Nat) (q : QT) (h : HT) (v : VT) (x2 : Int32) {res : QT} (hM : M_X7_passMinute q h x2 = some res) : CTv l (dC, dI) [(cI, .int), (cC, .char), (cZ, .boolean)] sa yX7_passMinute wsX7_passMinute (rmd 4) [.ref q0, .ref h0, .int x2] (wWhe cI q0 q1 q2 q ++ wHouse cI h0 v0 v1 v2 v3 h v) (fun (uu : QT) => (wWhe cI q0 q1 q2 uu ++ wHouse cI h0 v0 v1 v2 v3 h v)) res := by
  refine CTv.enter (own := RX7) (cc := cX7_passMinute) (maxL := 4) (ret := none) (by decide) rfl rfl (Nat.le_of_ble_eq_true rfl) ?_
  intro pr e s m below meth c A F hr hlk hP hS ls hl
  obtain ⟨⟨hx, hb, hml, hown, hts⟩, hK, hDD, hA, hKC⟩ := id F
  have hl : lv_has ls 4 [(0, .ref q0), (1, .ref h0), (2, .int x2)] := hl
  have hP : va_P (dC, dI) vwCl (wWhe cI q0 q1 q2 q ++ wHouse cI h0 v0 v1 v2 v3 h v) s.heap := hP
  unfold M_X7_passMinute at hM
  refine kloop (α := QT × Int32) (res := res) (fun k a => M_X7_passMinute_17 h x2 k a) (fun rec a => M_X7_passMinute_17b h x2 rec a) (fun _ => rfl) (fun _ _ => rfl) F (fun a => (wWhe cI q0 q1 q2 a.1 ++ wHouse cI h0 v0 v1 v2 v3 h v)) (fun a => [(0, .ref q0), (1, .ref h0), (2, .int x2), (3, .int a.2)]) (fun a => []) 17 ?_ (fun j17 => ?_)
  · intro rc17 ih17 a17 H locs ls hP hS hl hM
    unfold M_X7_passMinute_17b at hM
    refine kblk (α := QT × Int32 × Int32 × Int32) (res := res) (fun a => M_X7_passMinute_49 h x2 rc17 a) F (fun a => (wWhe cI q0 q1 q2 a.1 ++ wHouse cI h0 v0 v1 v2 v3 h v)) (fun a => [(0, .ref q0), (1, .ref h0), (2, .int x2), (3, .int a.2.1)]) (fun a => [.int a.2.2.1, .int a.2.2.2, .ref q1]) 49 ?_ (fun j49 => ?_)
    · intro a49 H locs ls hP hS hl hM
      unfold M_X7_passMinute_49 at hM
      obtain ⟨hin, hM⟩ := if_ok hM
      refine g_iast (ws' := (wWhe cI q0 q1 q2 ((upd a49.1.1 a49.2.2.2.toNatClampNeg a49.2.2.1), a49.1.2) ++ wHouse cI h0 v0 v1 v2 v3 h v)) F hP hS rfl 1 0 rfl rfl hin dX7_passMinute_49 rfl (fun H locs hP hS => ?_)
      refine lv_iinc (v := (a49.2.1 + (1 : Int32))) (lv' := [(3, .int (a49.2.1 + (1 : Int32))), (0, .ref q0), (1, .ref h0), (2, .int x2)]) hx hb dX7_passMinute_50 hl (k := 3) rfl rfl (by decide) rfl (fun ls hl => ?_)
      refine lv_goto (tgt := 17) hx hb dX7_passMinute_53 (by decide) ?_
      exact ih17 (((upd a49.1.1 a49.2.2.2.toNatClampNeg a49.2.2.1), a49.1.2), (a49.2.1 + (1 : Int32))) _ _ _ hP hS (lv_sub hl [1, 2, 3, 0] rfl) hM
    refine lv_iload_n hx hb dX7_passMinute_17 rfl (lv_at hl 3 rfl) ?_
    refine lv_aload_n hx hb dX7_passMinute_18 rfl (lv_at hl 0 rfl) ?_
    refine g_get (ci := 7) (C := RX7) (T := TX7) (N := 2) (v := .ref q1) F hP 0 rfl rfl inX7_passMinute_X7 0 (by decide) (List.mem_of_getElem? (i := 1) rfl) rfl dX7_passMinute_19 ?_
    refine va_alen (v := (nI 16)) hx hb hK hP 1 0 rfl rfl rfl dX7_passMinute_22 ?_
    refine lv_icmp_ge (tgt := 56) hx hb dX7_passMinute_23 (by decide) (fun hc => ?_) (fun hc => ?_)
    · have hM := if_pp hc hM
      exact ret_v hx hb hr hlk dX7_passMinute_56 hM hP hS
    · have hM := if_nn hc hM
      refine lv_aload_n hx hb dX7_passMinute_26 rfl (lv_at hl 0 rfl) ?_
      refine g_get (ci := 7) (C := RX7) (T := TX7) (N := 2) (v := .ref q1) F hP 0 rfl rfl inX7_passMinute_X7 0 (by decide) (List.mem_of_getElem? (i := 1) rfl) rfl dX7_passMinute_27 ?_
      refine lv_iload_n hx hb dX7_passMinute_30 rfl (lv_at hl 3 rfl) ?_
      refine lv_iload_n hx hb dX7_passMinute_31 rfl (lv_at hl 2 rfl) ?_
      refine lv_iload_n hx hb dX7_passMinute_32 rfl (lv_at hl 3 rfl) ?_
      obtain ⟨z33, hcr, hM⟩ := ob_s hM
      refine res_i0 F hP hS rfl [] rfl rfl (runN_of (n := 2) (As := [.int x2, .int a17.2]) (rest := [.int a17.2, .ref q1]) F hP hS rfl [] rfl rfl (c_X8_has l dC dI cI cC cZ sa x2 a17.2 hcr _) gX7_passMinute_X8_has_n34 rfl 21 rfl (hts _ (List.mem_of_getElem? (i := 8) rfl)) (hts _ (List.mem_of_getElem? (i := 7) rfl)) (by decide +kernel) ⟨Nat.le_of_ble_eq_true rfl, Nat.le_of_ble_eq_true rfl⟩ rfl hl.1 rfl (Nat.le_of_ble_eq_true rfl) dX7_passMinute_33 ⟨Nat.zero_le _, Nat.zero_le _⟩) (fun H locs hP hS => ?_)
      refine lv_if_eq (tgt := 48) hx hb dX7_passMinute_36 (by decide) (fun hc => ?_) (fun hc => ?_)
      · have hM := if_pp hc hM
        refine lv_iconst (v := 0) hx hb dX7_passMinute_48 (by decide) ?_
        exact j49 (a17.1, a17.2, (0 : Int32), a17.2) _ _ _ hP hS (lv_sub hl [0, 1, 2, 3] rfl) hM
      · have hM := if_nn hc hM
        refine lv_aload_n hx hb dX7_passMinute_39 rfl (lv_at hl 0 rfl) ?_
        refine lv_aload_n hx hb dX7_passMinute_40 rfl (lv_at hl 1 rfl) ?_
        refine lv_iload_n hx hb dX7_passMinute_41 rfl (lv_at hl 3 rfl) ?_
        obtain ⟨z42, hcr, hM⟩ := ob_s hM
        refine res_i0 F hP hS rfl [0, 1, 2, 3, 4, 5, 6, 7] rfl rfl (runV_of (n := 2) (As := [.ref h0, .int a17.2]) (rest := [.int a17.2, .ref q1]) F hP hS rfl [0, 1, 2, 3, 4, 5, 6, 7] rfl rfl (c_X7_waysInto l dC dI cI cC cZ sa q0 q1 q2 h0 v0 v1 v2 v3 a17.1 h v a17.2 hcr _) gX7_passMinute_X7_waysInto rfl (by decide +kernel) ⟨Nat.le_of_ble_eq_true rfl, Nat.le_of_ble_eq_true rfl⟩ 0 7 rfl rfl rfl hl.1 rfl (Nat.le_of_ble_eq_true rfl) dX7_passMinute_42 ⟨Nat.zero_le _, Nat.zero_le _⟩) (fun H locs hP hS => ?_)
        refine lv_goto (tgt := 49) hx hb dX7_passMinute_45 (by decide) ?_
        exact j49 (a17.1, a17.2, z42, a17.2) _ _ _ hP hS (lv_sub hl [0, 1, 2, 3] rfl) hM
  refine lv_aload_n hx hb dX7_passMinute_0 rfl (lv_at hl 0 rfl) ?_
  refine g_get (ci := 7) (C := RX7) (T := TX7) (N := 2) (v := .ref q1) F hP 0 rfl rfl inX7_passMinute_X7 0 (by decide) (List.mem_of_getElem? (i := 1) rfl) rfl dX7_passMinute_1 ?_
  refine lv_iconst (v := 0) hx hb dX7_passMinute_4 (by decide) ?_
  refine lv_aload_n hx hb dX7_passMinute_5 rfl (lv_at hl 0 rfl) ?_
  refine g_get (ci := 7) (C := RX7) (T := TX7) (N := 2) (v := .ref q2) F hP 0 rfl rfl inX7_passMinute_X7 1 (by decide) (List.mem_of_getElem? (i := 2) rfl) rfl dX7_passMinute_6 ?_
  refine lv_iconst (v := 0) hx hb dX7_passMinute_9 (by decide) ?_
  refine lv_bipush (v := 16) hx hb dX7_passMinute_10 (by decide) ?_
  refine va_copyi hx hb (hml.trans hl.1.symm) hown (hts _ (List.mem_of_getElem? (i := 3) rfl)) (hts _ (List.mem_of_getElem? (i := 4) rfl)) (hts _ (List.mem_of_getElem? (i := 5) rfl)) (hts _ (List.mem_of_getElem? (i := 6) rfl)) hK hP (hDD _ rfl) hS 1 2 0 0 rfl rfl rfl rfl rfl (by decide) (by decide) (by decide) (by decide) (by decide) (fun _ _ => rfl) (Nat.le_of_ble_eq_true rfl) (Nat.le_of_ble_eq_true rfl) dX7_passMinute_12 (fun H locs hP hD hS => ?_)
  have hP : va_P (dC, dI) vwCl (wWhe cI q0 q1 q2 (q.1, (va_cpy q.1 q.2 (0 : Int32).toNatClampNeg (0 : Int32).toNatClampNeg (16 : Int32).toNatClampNeg)) ++ wHouse cI h0 v0 v1 v2 v3 h v) H := hP
  refine lv_iconst (v := 0) hx hb dX7_passMinute_15 (by decide) ?_
  refine lv_istore_n (lv' := [(3, .int (0 : Int32)), (0, .ref q0), (1, .ref h0), (2, .int x2)]) hx hb dX7_passMinute_16 rfl hl (by decide) rfl (fun ls hl => ?_)
  exact j17 200 ((q.1, (va_cpy q.1 q.2 (0 : Int32).toNatClampNeg (0 : Int32).toNatClampNeg (16 : Int32).toNatClampNeg)), (0 : Int32)) _ _ _ hP hS (lv_sub hl [1, 2, 3, 0] rfl) hM
theorem inX7_possibleCells_X7 : ∀ w ∈ wsX70, w ∈ wsX7_possibleCells := fun w h => List.mem_cons_of_mem _ (List.mem_append_right _ h)
set_option maxHeartbeats 4000000 in
set_option maxRecDepth 100000 in
theorem c_X7_possibleCells (l : Launch) (dC : Nat → ClassId) (dI : Nat → Nat → Nat) (cI cC cZ : ClassId) (sa : Nat → Nat) (q0 q1 q2 : Nat) (q : QT)  {res : Int32} (hM : M_X7_possibleCells q = some res) : CTi l (dC, dI) [(cI, .int), (cC, .char), (cZ, .boolean)] sa yX7_possibleCells wsX7_possibleCells (rmd 2) [.ref q0] (wWhe cI q0 q1 q2 q) (fun (_ : Unit) => (wWhe cI q0 q1 q2 q)) (res, ()) := by
  refine CTi.enter (own := RX7) (cc := cX7_possibleCells) (maxL := 3) (ret := (some .int)) (by decide) rfl rfl (Nat.le_of_ble_eq_true rfl) ?_
  intro pr e s m below meth c A F hr hlk hP hS ls hl
  obtain ⟨⟨hx, hb, hml, hown, hts⟩, hK, hDD, hA, hKC⟩ := id F
  have hl : lv_has ls 3 [(0, .ref q0)] := hl
  have hP : va_P (dC, dI) vwCl (wWhe cI q0 q1 q2 q) s.heap := hP
  unfold M_X7_possibleCells at hM
  refine kloop (α := Int32 × Int32) (res := res) (fun k a => M_X7_possibleCells_4 q k a) (fun rec a => M_X7_possibleCells_4b q rec a) (fun _ => rfl) (fun _ _ => rfl) F (fun a => (wWhe cI q0 q1 q2 q)) (fun a => [(0, .ref q0), (1, .int a.1), (2, .int a.2)]) (fun a => []) 4 ?_ (fun j4 => ?_)
  · intro rc4 ih4 a4 H locs ls hP hS hl hM
    unfold M_X7_possibleCells_4b at hM
    refine kblk (α := Int32 × Int32 × Int32) (res := res) (fun a => M_X7_possibleCells_31 q rc4 a) F (fun a => (wWhe cI q0 q1 q2 q)) (fun a => [(0, .ref q0), (2, .int a.1)]) (fun a => [.int a.2.1, .int a.2.2]) 31 ?_ (fun j31 => ?_)
    · intro a31 H locs ls hP hS hl hM
      unfold M_X7_possibleCells_31 at hM
      refine lv_ior hx hb dX7_possibleCells_31 ?_
      refine lv_istore_n (lv' := [(1, .int (a31.2.2 ||| a31.2.1)), (0, .ref q0), (2, .int a31.1)]) hx hb dX7_possibleCells_32 rfl hl (by decide) rfl (fun ls hl => ?_)
      refine lv_iinc (v := (a31.1 + (1 : Int32))) (lv' := [(2, .int (a31.1 + (1 : Int32))), (1, .int (a31.2.2 ||| a31.2.1)), (0, .ref q0)]) hx hb dX7_possibleCells_33 hl (k := 2) rfl rfl (by decide) rfl (fun ls hl => ?_)
      refine lv_goto (tgt := 4) hx hb dX7_possibleCells_36 (by decide) ?_
      exact ih4 ((a31.2.2 ||| a31.2.1), (a31.1 + (1 : Int32))) _ _ _ hP hS (lv_sub hl [2, 1, 0] rfl) hM
    refine lv_iload_n hx hb dX7_possibleCells_4 rfl (lv_at hl 2 rfl) ?_
    refine lv_aload_n hx hb dX7_possibleCells_5 rfl (lv_at hl 0 rfl) ?_
    refine g_get (ci := 7) (C := RX7) (T := TX7) (N := 2) (v := .ref q1) F hP 0 rfl rfl inX7_possibleCells_X7 0 (by decide) (List.mem_of_getElem? (i := 1) rfl) rfl dX7_possibleCells_6 ?_
    refine va_alen (v := (nI 16)) hx hb hK hP 1 0 rfl rfl rfl dX7_possibleCells_9 ?_
    refine lv_icmp_ge (tgt := 39) hx hb dX7_possibleCells_10 (by decide) (fun hc => ?_) (fun hc => ?_)
    · have hM := if_pp hc hM
      refine lv_iload_n hx hb dX7_possibleCells_39 rfl (lv_at hl 1 rfl) ?_
      exact ret_i hx hb hr hlk dX7_possibleCells_40 (some_u hM) hP hS
    · have hM := if_nn hc hM
      refine lv_iload_n hx hb dX7_possibleCells_13 rfl (lv_at hl 1 rfl) ?_
      refine lv_aload_n hx hb dX7_possibleCells_14 rfl (lv_at hl 0 rfl) ?_
      refine g_get (ci := 7) (C := RX7) (T := TX7) (N := 2) (v := .ref q1) F hP 0 rfl rfl inX7_possibleCells_X7 0 (by decide) (List.mem_of_getElem? (i := 1) rfl) rfl dX7_possibleCells_15 ?_
      refine lv_iload_n hx hb dX7_possibleCells_18 rfl (lv_at hl 2 rfl) ?_
      obtain ⟨hin, hM⟩ := if_ok hM
      refine va_iald hx hb hK hP 1 0 rfl rfl hin dX7_possibleCells_19 ?_
      refine lv_if_le (tgt := 30) hx hb dX7_possibleCells_20 (by decide) (fun hc => ?_) (fun hc => ?_)
      · have hM := if_pp hc hM
        refine lv_iconst (v := 0) hx hb dX7_possibleCells_30 (by decide) ?_
        exact j31 (a4.2, (0 : Int32), a4.1) _ _ _ hP hS (lv_sub hl [0, 2] rfl) hM
      · have hM := if_nn hc hM
        refine lv_iload_n hx hb dX7_possibleCells_23 rfl (lv_at hl 2 rfl) ?_
        obtain ⟨z24, hcr, hM⟩ := ob_s hM
        refine res_i0 F hP hS rfl [] rfl rfl (runN_of (n := 1) (As := [.int a4.2]) (rest := [.int a4.1]) F hP hS rfl [] rfl rfl (c_X8_bit l dC dI cI cC cZ sa a4.2 hcr _) gX7_possibleCells_X8_bit_n42 rfl 22 rfl (hts _ (List.mem_of_getElem? (i := 3) rfl)) (hts _ (List.mem_of_getElem? (i := 2) rfl)) (by decide +kernel) ⟨Nat.le_of_ble_eq_true rfl, Nat.le_of_ble_eq_true rfl⟩ rfl hl.1 rfl (Nat.le_of_ble_eq_true rfl) dX7_possibleCells_24 ⟨Nat.zero_le _, Nat.zero_le _⟩) (fun H locs hP hS => ?_)
        refine lv_goto (tgt := 31) hx hb dX7_possibleCells_27 (by decide) ?_
        exact j31 (a4.2, z24, a4.1) _ _ _ hP hS (lv_sub hl [0, 2] rfl) hM
  refine lv_iconst (v := 0) hx hb dX7_possibleCells_0 (by decide) ?_
  refine lv_istore_n (lv' := [(1, .int (0 : Int32)), (0, .ref q0)]) hx hb dX7_possibleCells_1 rfl hl (by decide) rfl (fun ls hl => ?_)
  refine lv_iconst (v := 0) hx hb dX7_possibleCells_2 (by decide) ?_
  refine lv_istore_n (lv' := [(2, .int (0 : Int32)), (1, .int (0 : Int32)), (0, .ref q0)]) hx hb dX7_possibleCells_3 rfl hl (by decide) rfl (fun ls hl => ?_)
  exact j4 200 ((0 : Int32), (0 : Int32)) _ _ _ hP hS (lv_sub hl [2, 1, 0] rfl) hM
theorem inX7_walks_X7 : ∀ w ∈ wsX70, w ∈ wsX7_walks := fun w h => List.mem_cons_of_mem _ (List.mem_append_right _ h)
set_option maxHeartbeats 4000000 in
set_option maxRecDepth 100000 in
theorem c_X7_walks (l : Launch) (dC : Nat → ClassId) (dI : Nat → Nat → Nat) (cI cC cZ : ClassId) (sa : Nat → Nat) (q0 q1 q2 : Nat) (q : QT)  {res : Int32} (hM : M_X7_walks q = some res) : CTi l (dC, dI) [(cI, .int), (cC, .char), (cZ, .boolean)] sa yX7_walks wsX7_walks (rmd 1) [.ref q0] (wWhe cI q0 q1 q2 q) (fun (_ : Unit) => (wWhe cI q0 q1 q2 q)) (res, ()) := by
  refine CTi.enter (own := RX7) (cc := cX7_walks) (maxL := 3) (ret := (some .int)) (by decide) rfl rfl (Nat.le_of_ble_eq_true rfl) ?_
  intro pr e s m below meth c A F hr hlk hP hS ls hl
  obtain ⟨⟨hx, hb, hml, hown, hts⟩, hK, hDD, hA, hKC⟩ := id F
  have hl : lv_has ls 3 [(0, .ref q0)] := hl
  have hP : va_P (dC, dI) vwCl (wWhe cI q0 q1 q2 q) s.heap := hP
  unfold M_X7_walks at hM
  refine kloop (α := Int32 × Int32) (res := res) (fun k a => M_X7_walks_4 q k a) (fun rec a => M_X7_walks_4b q rec a) (fun _ => rfl) (fun _ _ => rfl) F (fun a => (wWhe cI q0 q1 q2 q)) (fun a => [(0, .ref q0), (1, .int a.1), (2, .int a.2)]) (fun a => []) 4 ?_ (fun j4 => ?_)
  · intro rc4 ih4 a4 H locs ls hP hS hl hM
    unfold M_X7_walks_4b at hM
    refine lv_iload_n hx hb dX7_walks_4 rfl (lv_at hl 2 rfl) ?_
    refine lv_aload_n hx hb dX7_walks_5 rfl (lv_at hl 0 rfl) ?_
    refine g_get (ci := 7) (C := RX7) (T := TX7) (N := 2) (v := .ref q1) F hP 0 rfl rfl inX7_walks_X7 0 (by decide) (List.mem_of_getElem? (i := 1) rfl) rfl dX7_walks_6 ?_
    refine va_alen (v := (nI 16)) hx hb hK hP 1 0 rfl rfl rfl dX7_walks_9 ?_
    refine lv_icmp_ge (tgt := 28) hx hb dX7_walks_10 (by decide) (fun hc => ?_) (fun hc => ?_)
    · have hM := if_pp hc hM
      refine lv_iload_n hx hb dX7_walks_28 rfl (lv_at hl 1 rfl) ?_
      exact ret_i hx hb hr hlk dX7_walks_29 (some_u hM) hP hS
    · have hM := if_nn hc hM
      refine lv_iload_n hx hb dX7_walks_13 rfl (lv_at hl 1 rfl) ?_
      refine lv_aload_n hx hb dX7_walks_14 rfl (lv_at hl 0 rfl) ?_
      refine g_get (ci := 7) (C := RX7) (T := TX7) (N := 2) (v := .ref q1) F hP 0 rfl rfl inX7_walks_X7 0 (by decide) (List.mem_of_getElem? (i := 1) rfl) rfl dX7_walks_15 ?_
      refine lv_iload_n hx hb dX7_walks_18 rfl (lv_at hl 2 rfl) ?_
      obtain ⟨hin, hM⟩ := if_ok hM
      refine va_iald hx hb hK hP 1 0 rfl rfl hin dX7_walks_19 ?_
      refine lv_iadd hx hb dX7_walks_20 ?_
      refine lv_istore_n (lv' := [(1, .int (a4.1 + (q.1 a4.2.toNatClampNeg))), (0, .ref q0), (2, .int a4.2)]) hx hb dX7_walks_21 rfl hl (by decide) rfl (fun ls hl => ?_)
      refine lv_iinc (v := (a4.2 + (1 : Int32))) (lv' := [(2, .int (a4.2 + (1 : Int32))), (1, .int (a4.1 + (q.1 a4.2.toNatClampNeg))), (0, .ref q0)]) hx hb dX7_walks_22 hl (k := 2) rfl rfl (by decide) rfl (fun ls hl => ?_)
      refine lv_goto (tgt := 4) hx hb dX7_walks_25 (by decide) ?_
      exact ih4 ((a4.1 + (q.1 a4.2.toNatClampNeg)), (a4.2 + (1 : Int32))) _ _ _ hP hS (lv_sub hl [2, 1, 0] rfl) hM
  refine lv_iconst (v := 0) hx hb dX7_walks_0 (by decide) ?_
  refine lv_istore_n (lv' := [(1, .int (0 : Int32)), (0, .ref q0)]) hx hb dX7_walks_1 rfl hl (by decide) rfl (fun ls hl => ?_)
  refine lv_iconst (v := 0) hx hb dX7_walks_2 (by decide) ?_
  refine lv_istore_n (lv' := [(2, .int (0 : Int32)), (1, .int (0 : Int32)), (0, .ref q0)]) hx hb dX7_walks_3 rfl hl (by decide) rfl (fun ls hl => ?_)
  exact j4 200 ((0 : Int32), (0 : Int32)) _ _ _ hP hS (lv_sub hl [2, 1, 0] rfl) hM
