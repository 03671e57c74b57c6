/-! Walks, printed by wip/whole/gen.py -/
theorem inX0_moved_X0 : ∀ w ∈ wsX00, w ∈ wsX0_moved := fun w h => List.mem_cons_of_mem _ (List.mem_append_right _ h)
set_option maxHeartbeats 4000000 in
set_option maxRecDepth 100000 in
theorem c_X0_moved (l : Launch) (dC : Nat → ClassId) (dI : Nat → Nat → Nat) (cI cC cZ : ClassId) (sa : Nat → Nat) (h0 v0 v1 v2 v3 : Nat) (h : HT) (v : VT) (x1 : Int32) (x2 : Int32) {res : Int32} (hM : M_X0_moved h x1 x2 = some res) : CTi l (dC, dI) [(cI, .int), (cC, .char), (cZ, .boolean)] sa yX0_moved wsX0_moved (rmd 1) [.ref h0, .int x1, .int x2] (wHouse cI h0 v0 v1 v2 v3 h v) (fun (_ : Unit) => (wHouse cI h0 v0 v1 v2 v3 h v)) (res, ()) := by
  refine CTi.enter (own := RX0) (cc := cX0_moved) (maxL := 3) (ret := (some .int)) (by decide) rfl rfl (Nat.le_of_ble_eq_true rfl) ?_
  intro pr e s m below meth c A F hr hlk hP hS ls hl
  obtain ⟨⟨hx, hb, hml, hown, hts⟩, hK, hDD, hA, hKC⟩ := id F
  have hl : lv_has ls 3 [(0, .ref h0), (1, .int x1), (2, .int x2)] := hl
  have hP : va_P (dC, dI) vwCl (wHouse cI h0 v0 v1 v2 v3 h v) s.heap := hP
  unfold M_X0_moved at hM
  refine lv_iload_n hx hb dX0_moved_0 rfl (lv_at hl 2 rfl) ?_
  by_cases hc0 : x2 = (0 : Int32)
  · have hM := if_pp hc0 hM
    refine lv_tableIn (off := 31) (tgt := 32) hx hb dX0_moved_1 (by rw [hc0]; decide) (by rw [hc0]; decide) (by rw [hc0]; rfl) (by decide) ?_
    refine lv_iload_n hx hb dX0_moved_32 rfl (lv_at hl 1 rfl) ?_
    refine lv_aload_n hx hb dX0_moved_33 rfl (lv_at hl 0 rfl) ?_
    refine g_get (ci := 0) (C := RX0) (T := TX0) (N := 13) (v := .int h.2.1) F hP 0 rfl rfl inX0_moved_X0 1 (by decide) (List.mem_of_getElem? (i := 1) rfl) rfl dX0_moved_34 ?_
    refine lv_iushr (v := (x1.toUInt32 >>> (h.2.1.toUInt32 &&& Int32.toUInt32 31)).toInt32) hx hb dX0_moved_37 rfl ?_
    exact ret_i hx hb hr hlk dX0_moved_38 (some_u hM) hP hS
  · have hM := if_nn hc0 hM
    by_cases hc1 : x2 = (1 : Int32)
    · have hM := if_pp hc1 hM
      refine lv_tableIn (off := 38) (tgt := 39) hx hb dX0_moved_1 (by rw [hc1]; decide) (by rw [hc1]; decide) (by rw [hc1]; rfl) (by decide) ?_
      refine lv_iload_n hx hb dX0_moved_39 rfl (lv_at hl 1 rfl) ?_
      refine lv_aload_n hx hb dX0_moved_40 rfl (lv_at hl 0 rfl) ?_
      refine g_get (ci := 0) (C := RX0) (T := TX0) (N := 13) (v := .int h.2.2.2.2.1) F hP 0 rfl rfl inX0_moved_X0 4 (by decide) (List.mem_of_getElem? (i := 2) rfl) rfl dX0_moved_41 ?_
      refine lv_iconst (v := -1) hx hb dX0_moved_44 (by decide) ?_
      refine lv_ixor hx hb dX0_moved_45 ?_
      refine lv_iand hx hb dX0_moved_46 ?_
      refine lv_iconst (v := 1) hx hb dX0_moved_47 (by decide) ?_
      refine lv_ishl hx hb dX0_moved_48 ?_
      exact ret_i hx hb hr hlk dX0_moved_49 (some_u hM) hP hS
    · have hM := if_nn hc1 hM
      by_cases hc2 : x2 = (2 : Int32)
      · have hM := if_pp hc2 hM
        refine lv_tableIn (off := 49) (tgt := 50) hx hb dX0_moved_1 (by rw [hc2]; decide) (by rw [hc2]; decide) (by rw [hc2]; rfl) (by decide) ?_
        refine lv_iload_n hx hb dX0_moved_50 rfl (lv_at hl 1 rfl) ?_
        refine lv_aload_n hx hb dX0_moved_51 rfl (lv_at hl 0 rfl) ?_
        refine g_get (ci := 0) (C := RX0) (T := TX0) (N := 13) (v := .int h.2.1) F hP 0 rfl rfl inX0_moved_X0 1 (by decide) (List.mem_of_getElem? (i := 1) rfl) rfl dX0_moved_52 ?_
        refine lv_ishl hx hb dX0_moved_55 ?_
        refine lv_aload_n hx hb dX0_moved_56 rfl (lv_at hl 0 rfl) ?_
        refine g_get (ci := 0) (C := RX0) (T := TX0) (N := 13) (v := .int h.2.2.1) F hP 0 rfl rfl inX0_moved_X0 2 (by decide) (List.mem_of_getElem? (i := 3) rfl) rfl dX0_moved_57 ?_
        refine lv_iand hx hb dX0_moved_60 ?_
        exact ret_i hx hb hr hlk dX0_moved_61 (some_u hM) hP hS
      · have hM := if_nn hc2 hM
        by_cases hc3 : x2 = (3 : Int32)
        · have hM := if_pp hc3 hM
          refine lv_tableIn (off := 61) (tgt := 62) hx hb dX0_moved_1 (by rw [hc3]; decide) (by rw [hc3]; decide) (by rw [hc3]; rfl) (by decide) ?_
          refine lv_iload_n hx hb dX0_moved_62 rfl (lv_at hl 1 rfl) ?_
          refine lv_aload_n hx hb dX0_moved_63 rfl (lv_at hl 0 rfl) ?_
          refine g_get (ci := 0) (C := RX0) (T := TX0) (N := 13) (v := .int h.2.2.2.1) F hP 0 rfl rfl inX0_moved_X0 3 (by decide) (List.mem_of_getElem? (i := 4) rfl) rfl dX0_moved_64 ?_
          refine lv_iconst (v := -1) hx hb dX0_moved_67 (by decide) ?_
          refine lv_ixor hx hb dX0_moved_68 ?_
          refine lv_iand hx hb dX0_moved_69 ?_
          refine lv_iconst (v := 1) hx hb dX0_moved_70 (by decide) ?_
          refine lv_iushr (v := ((x1 &&& (h.2.2.2.1 ^^^ (-1 : Int32))).toUInt32 >>> ((1 : Int32).toUInt32 &&& Int32.toUInt32 31)).toInt32) hx hb dX0_moved_71 rfl ?_
          exact ret_i hx hb hr hlk dX0_moved_72 (some_u hM) hP hS
        · have hM := if_nn hc3 hM
          have hn0 := lv_neT hc0 (a := 0) (by decide)
          have hn1 := lv_neT hc1 (a := 1) (by decide)
          have hn2 := lv_neT hc2 (a := 2) (by decide)
          have hn3 := lv_neT hc3 (a := 3) (by decide)
          refine lv_tableOut (tgt := 73) hx hb dX0_moved_1 (by omega) (by decide) ?_
          refine lv_iload_n hx hb dX0_moved_73 rfl (lv_at hl 1 rfl) ?_
          exact ret_i hx hb hr hlk dX0_moved_74 (some_u hM) hP hS
set_option maxHeartbeats 4000000 in
set_option maxRecDepth 100000 in
theorem c_X0_spread (l : Launch) (dC : Nat → ClassId) (dI : Nat → Nat → Nat) (cI cC cZ : ClassId) (sa : Nat → Nat) (h0 v0 v1 v2 v3 : Nat) (h : HT) (v : VT) (x1 : Int32) {res : Int32} (hM : M_X0_spread h x1 = some res) : CTi l (dC, dI) [(cI, .int), (cC, .char), (cZ, .boolean)] sa yX0_spread wsX0_spread (rmd 2) [.ref h0, .int x1] (wHouse cI h0 v0 v1 v2 v3 h v) (fun (_ : Unit) => (wHouse cI h0 v0 v1 v2 v3 h v)) (res, ()) := by
  refine CTi.enter (own := RX0) (cc := cX0_spread) (maxL := 4) (ret := (some .int)) (by decide) rfl rfl (Nat.le_of_ble_eq_true rfl) ?_
  intro pr e s m below meth c A F hr hlk hP hS ls hl
  obtain ⟨⟨hx, hb, hml, hown, hts⟩, hK, hDD, hA, hKC⟩ := id F
  have hl : lv_has ls 4 [(0, .ref h0), (1, .int x1)] := hl
  have hP : va_P (dC, dI) vwCl (wHouse cI h0 v0 v1 v2 v3 h v) s.heap := hP
  unfold M_X0_spread at hM
  refine kloop (α := Int32 × Int32) (res := res) (fun k a => M_X0_spread_4 h x1 k a) (fun rec a => M_X0_spread_4b h x1 rec a) (fun _ => rfl) (fun _ _ => rfl) F (fun a => (wHouse cI h0 v0 v1 v2 v3 h v)) (fun a => [(0, .ref h0), (1, .int x1), (2, .int a.1), (3, .int a.2)]) (fun a => []) 4 ?_ (fun j4 => ?_)
  · intro rc4 ih4 a4 H locs ls hP hS hl hM
    unfold M_X0_spread_4b at hM
    refine lv_iload_n hx hb dX0_spread_4 rfl (lv_at hl 3 rfl) ?_
    refine lv_iconst (v := 4) hx hb dX0_spread_5 (by decide) ?_
    refine lv_icmp_ge (tgt := 24) hx hb dX0_spread_6 (by decide) (fun hc => ?_) (fun hc => ?_)
    · have hM := if_pp hc hM
      refine lv_iload_n hx hb dX0_spread_24 rfl (lv_at hl 2 rfl) ?_
      exact ret_i hx hb hr hlk dX0_spread_25 (some_u hM) hP hS
    · have hM := if_nn hc hM
      refine lv_iload_n hx hb dX0_spread_9 rfl (lv_at hl 2 rfl) ?_
      refine lv_aload_n hx hb dX0_spread_10 rfl (lv_at hl 0 rfl) ?_
      refine lv_iload_n hx hb dX0_spread_11 rfl (lv_at hl 1 rfl) ?_
      refine lv_iload_n hx hb dX0_spread_12 rfl (lv_at hl 3 rfl) ?_
      obtain ⟨z13, hcr, hM⟩ := ob_s hM
      refine res_i0 F hP hS rfl [0, 1, 2, 3, 4] rfl rfl (runV_of (n := 2) (As := [.int x1, .int a4.2]) (rest := [.int a4.1]) F hP hS rfl [0, 1, 2, 3, 4] rfl rfl (c_X0_moved l dC dI cI cC cZ sa h0 v0 v1 v2 v3 h v x1 a4.2 hcr _) gX0_spread_X0_moved rfl (by decide +kernel) ⟨Nat.le_of_ble_eq_true rfl, Nat.le_of_ble_eq_true rfl⟩ 0 0 rfl rfl rfl hl.1 rfl (Nat.le_of_ble_eq_true rfl) dX0_spread_13 ⟨Nat.zero_le _, Nat.zero_le _⟩) (fun H locs hP hS => ?_)
      refine lv_ior hx hb dX0_spread_16 ?_
      refine lv_istore_n (lv' := [(2, .int (a4.1 ||| z13)), (0, .ref h0), (1, .int x1), (3, .int a4.2)]) hx hb dX0_spread_17 rfl hl (by decide) rfl (fun ls hl => ?_)
      refine lv_iinc (v := (a4.2 + (1 : Int32))) (lv' := [(3, .int (a4.2 + (1 : Int32))), (2, .int (a4.1 ||| z13)), (0, .ref h0), (1, .int x1)]) hx hb dX0_spread_18 hl (k := 3) rfl rfl (by decide) rfl (fun ls hl => ?_)
      refine lv_goto (tgt := 4) hx hb dX0_spread_21 (by decide) ?_
      exact ih4 ((a4.1 ||| z13), (a4.2 + (1 : Int32))) _ _ _ hP hS (lv_sub hl [2, 3, 1, 0] rfl) hM
  refine lv_iload_n hx hb dX0_spread_0 rfl (lv_at hl 1 rfl) ?_
  refine lv_istore_n (lv' := [(2, .int x1), (0, .ref h0), (1, .int x1)]) hx hb dX0_spread_1 rfl hl (by decide) rfl (fun ls hl => ?_)
  refine lv_iconst (v := 0) hx hb dX0_spread_2 (by decide) ?_
  refine lv_istore_n (lv' := [(3, .int (0 : Int32)), (2, .int x1), (0, .ref h0), (1, .int x1)]) hx hb dX0_spread_3 rfl hl (by decide) rfl (fun ls hl => ?_)
  exact j4 200 (x1, (0 : Int32)) _ _ _ hP hS (lv_sub hl [2, 3, 1, 0] rfl) hM
set_option maxHeartbeats 4000000 in
set_option maxRecDepth 100000 in
theorem c_X0_around (l : Launch) (dC : Nat → ClassId) (dI : Nat → Nat → Nat) (cI cC cZ : ClassId) (sa : Nat → Nat) (h0 v0 v1 v2 v3 : Nat) (h : HT) (v : VT) (x1 : Int32) (x2 : Int32) {res : Int32} (hM : M_X0_around h x1 x2 = some res) : CTi l (dC, dI) [(cI, .int), (cC, .char), (cZ, .boolean)] sa yX0_around wsX0_around (rmd 3) [.ref h0, .int x1, .int x2] (wHouse cI h0 v0 v1 v2 v3 h v) (fun (_ : Unit) => (wHouse cI h0 v0 v1 v2 v3 h v)) (res, ()) := by
  refine CTi.enter (own := RX0) (cc := cX0_around) (maxL := 5) (ret := (some .int)) (by decide) rfl rfl (Nat.le_of_ble_eq_true rfl) ?_
  intro pr e s m below meth c A F hr hlk hP hS ls hl
  obtain ⟨⟨hx, hb, hml, hown, hts⟩, hK, hDD, hA, hKC⟩ := id F
  have hl : lv_has ls 5 [(0, .ref h0), (1, .int x1), (2, .int x2)] := hl
  have hP : va_P (dC, dI) vwCl (wHouse cI h0 v0 v1 v2 v3 h v) s.heap := hP
  unfold M_X0_around at hM
  refine kloop (α := Int32 × Int32) (res := res) (fun k a => M_X0_around_8 h x1 x2 k a) (fun rec a => M_X0_around_8b h x1 x2 rec a) (fun _ => rfl) (fun _ _ => rfl) F (fun a => (wHouse cI h0 v0 v1 v2 v3 h v)) (fun a => [(0, .ref h0), (2, .int x2), (3, .int a.1), (4, .int a.2)]) (fun a => []) 8 ?_ (fun j8 => ?_)
  · intro rc8 ih8 a8 H locs ls hP hS hl hM
    unfold M_X0_around_8b at hM
    refine lv_iload hx hb dX0_around_8 (lv_at hl 3 rfl) ?_
    refine lv_iload_n hx hb dX0_around_10 rfl (lv_at hl 1 rfl) ?_
    refine lv_icmp_ge (tgt := 26) hx hb dX0_around_11 (by decide) (fun hc => ?_) (fun hc => ?_)
    · have hM := if_pp hc hM
      refine lv_iload_n hx hb dX0_around_26 rfl (lv_at hl 2 rfl) ?_
      exact ret_i hx hb hr hlk dX0_around_27 (some_u hM) hP hS
    · have hM := if_nn hc hM
      refine lv_aload_n hx hb dX0_around_14 rfl (lv_at hl 0 rfl) ?_
      refine lv_iload_n hx hb dX0_around_15 rfl (lv_at hl 2 rfl) ?_
      obtain ⟨z16, hcr, hM⟩ := ob_s hM
      refine res_i0 F hP hS rfl [0, 1, 2, 3, 4] rfl rfl (runV_of (n := 1) (As := [.int a8.1]) (rest := []) F hP hS rfl [0, 1, 2, 3, 4] rfl rfl (c_X0_spread l dC dI cI cC cZ sa h0 v0 v1 v2 v3 h v a8.1 hcr _) gX0_around_X0_spread rfl (by decide +kernel) ⟨Nat.le_of_ble_eq_true rfl, Nat.le_of_ble_eq_true rfl⟩ 0 0 rfl rfl rfl hl.1 rfl (Nat.le_of_ble_eq_true rfl) dX0_around_16 ⟨Nat.zero_le _, Nat.zero_le _⟩) (fun H locs hP hS => ?_)
      refine lv_istore_n (lv' := [(3, .int z16), (0, .ref h0), (2, .int x2), (4, .int a8.2)]) hx hb dX0_around_19 rfl hl (by decide) rfl (fun ls hl => ?_)
      refine lv_iinc (v := (a8.2 + (1 : Int32))) (lv' := [(4, .int (a8.2 + (1 : Int32))), (3, .int z16), (0, .ref h0), (2, .int x2)]) hx hb dX0_around_20 hl (k := 3) rfl rfl (by decide) rfl (fun ls hl => ?_)
      refine lv_goto (tgt := 8) hx hb dX0_around_23 (by decide) ?_
      exact ih8 (z16, (a8.2 + (1 : Int32))) _ _ _ hP hS (lv_sub hl [2, 3, 1, 0] rfl) hM
  refine lv_iload_n hx hb dX0_around_0 rfl (lv_at hl 1 rfl) ?_
  obtain ⟨z1, hcr, hM⟩ := ob_s hM
  refine res_i0 F hP hS rfl [] rfl rfl (runN_of (n := 1) (As := [.int x1]) (rest := []) F hP hS rfl [] rfl rfl (c_X8_bit l dC dI cI cC cZ sa x1 hcr _) gX0_around_X8_bit_n42 rfl 7 rfl (hts _ (List.mem_of_getElem? (i := 2) rfl)) (hts _ (List.mem_of_getElem? (i := 1) rfl)) (by decide +kernel) ⟨Nat.le_of_ble_eq_true rfl, Nat.le_of_ble_eq_true rfl⟩ rfl hl.1 rfl (Nat.le_of_ble_eq_true rfl) dX0_around_1 ⟨Nat.zero_le _, Nat.zero_le _⟩) (fun H locs hP hS => ?_)
  refine lv_istore_n (lv' := [(3, .int z1), (0, .ref h0), (1, .int x1), (2, .int x2)]) hx hb dX0_around_4 rfl hl (by decide) rfl (fun ls hl => ?_)
  refine lv_iconst (v := 0) hx hb dX0_around_5 (by decide) ?_
  refine lv_istore (lv' := [(4, .int (0 : Int32)), (3, .int z1), (0, .ref h0), (1, .int x1), (2, .int x2)]) hx hb dX0_around_6 hl (by decide) rfl (fun ls hl => ?_)
  exact j8 200 (z1, (0 : Int32)) _ _ _ hP hS (lv_sub hl [2, 4, 1, 0] rfl) hM
theorem inX0_open_X0 : ∀ w ∈ wsX00, w ∈ wsX0_open := fun w h => List.mem_cons_of_mem _ (List.mem_append_right _ h)
set_option maxHeartbeats 4000000 in
set_option maxRecDepth 100000 in
theorem c_X0_open (l : Launch) (dC : Nat → ClassId) (dI : Nat → Nat → Nat) (cI cC cZ : ClassId) (sa : Nat → Nat) (h0 v0 v1 v2 v3 : Nat) (h : HT) (v : VT)  {res : Int32} (hM : M_X0_open h = some res) : CTi l (dC, dI) [(cI, .int), (cC, .char), (cZ, .boolean)] sa yX0_open wsX0_open (rmd 1) [.ref h0] (wHouse cI h0 v0 v1 v2 v3 h v) (fun (_ : Unit) => (wHouse cI h0 v0 v1 v2 v3 h v)) (res, ()) := by
  refine CTi.enter (own := RX0) (cc := cX0_open) (maxL := 1) (ret := (some .int)) (by decide) rfl rfl (Nat.le_of_ble_eq_true rfl) ?_
  intro pr e s m below meth c A F hr hlk hP hS ls hl
  obtain ⟨⟨hx, hb, hml, hown, hts⟩, hK, hDD, hA, hKC⟩ := id F
  have hl : lv_has ls 1 [(0, .ref h0)] := hl
  have hP : va_P (dC, dI) vwCl (wHouse cI h0 v0 v1 v2 v3 h v) s.heap := hP
  unfold M_X0_open at hM
  refine lv_aload_n hx hb dX0_open_0 rfl (lv_at hl 0 rfl) ?_
  refine g_get (ci := 0) (C := RX0) (T := TX0) (N := 13) (v := .int h.2.2.1) F hP 0 rfl rfl inX0_open_X0 2 (by decide) (List.mem_of_getElem? (i := 1) rfl) rfl dX0_open_1 ?_
  refine lv_aload_n hx hb dX0_open_4 rfl (lv_at hl 0 rfl) ?_
  refine g_get (ci := 0) (C := RX0) (T := TX0) (N := 13) (v := .int h.2.2.2.2.2.1) F hP 0 rfl rfl inX0_open_X0 5 (by decide) (List.mem_of_getElem? (i := 2) rfl) rfl dX0_open_5 ?_
  refine lv_iconst (v := -1) hx hb dX0_open_8 (by decide) ?_
  refine lv_ixor hx hb dX0_open_9 ?_
  refine lv_iand hx hb dX0_open_10 ?_
  exact ret_i hx hb hr hlk dX0_open_11 (some_u hM) hP hS
theorem inX0_sightFrom_X0 : ∀ w ∈ wsX00, w ∈ wsX0_sightFrom := fun w h => List.mem_cons_of_mem _ (List.mem_append_right _ h)
set_option maxHeartbeats 4000000 in
set_option maxRecDepth 100000 in
theorem c_X0_sightFrom (l : Launch) (dC : Nat → ClassId) (dI : Nat → Nat → Nat) (cI cC cZ : ClassId) (sa : Nat → Nat) (h0 v0 v1 v2 v3 : Nat) (h : HT) (v : VT) (x1 : Int32) (x2 : Int32) {res : Int32} (hM : M_X0_sightFrom h x1 x2 = some res) : CTi l (dC, dI) [(cI, .int), (cC, .char), (cZ, .boolean)] sa yX0_sightFrom wsX0_sightFrom (rmd 2) [.ref h0, .int x1, .int x2] (wHouse cI h0 v0 v1 v2 v3 h v) (fun (_ : Unit) => (wHouse cI h0 v0 v1 v2 v3 h v)) (res, ()) := by
  refine CTi.enter (own := RX0) (cc := cX0_sightFrom) (maxL := 6) (ret := (some .int)) (by decide) rfl rfl (Nat.le_of_ble_eq_true rfl) ?_
  intro pr e s m below meth c A F hr hlk hP hS ls hl
  obtain ⟨⟨hx, hb, hml, hown, hts⟩, hK, hDD, hA, hKC⟩ := id F
  have hl : lv_has ls 6 [(0, .ref h0), (1, .int x1), (2, .int x2)] := hl
  have hP : va_P (dC, dI) vwCl (wHouse cI h0 v0 v1 v2 v3 h v) s.heap := hP
  unfold M_X0_sightFrom at hM
  refine kloop (α := Int32 × Int32 × Int32) (res := res) (fun k a => M_X0_sightFrom_11 h x1 x2 k a) (fun rec a => M_X0_sightFrom_11b h x1 x2 rec a) (fun _ => rfl) (fun _ _ => rfl) F (fun a => (wHouse cI h0 v0 v1 v2 v3 h v)) (fun a => [(0, .ref h0), (2, .int x2), (3, .int a.1), (4, .int a.2.1), (5, .int a.2.2)]) (fun a => []) 11 ?_ (fun j11 => ?_)
  · intro rc11 ih11 a11 H locs ls hP hS hl hM
    unfold M_X0_sightFrom_11b at hM
    refine lv_iload hx hb dX0_sightFrom_11 (lv_at hl 4 rfl) ?_
    refine lv_iconst (v := 4) hx hb dX0_sightFrom_13 (by decide) ?_
    refine lv_icmp_ge (tgt := 43) hx hb dX0_sightFrom_14 (by decide) (fun hc => ?_) (fun hc => ?_)
    · have hM := if_pp hc hM
      refine lv_iload hx hb dX0_sightFrom_43 (lv_at hl 3 rfl) ?_
      exact ret_i hx hb hr hlk dX0_sightFrom_45 (some_u hM) hP hS
    · have hM := if_nn hc hM
      refine lv_aload_n hx hb dX0_sightFrom_17 rfl (lv_at hl 0 rfl) ?_
      refine lv_iload_n hx hb dX0_sightFrom_18 rfl (lv_at hl 2 rfl) ?_
      refine lv_iload_n hx hb dX0_sightFrom_19 rfl (lv_at hl 1 rfl) ?_
      obtain ⟨z20, hcr, hM⟩ := ob_s hM
      refine res_i0 F hP hS rfl [0, 1, 2, 3, 4] rfl rfl (runV_of (n := 2) (As := [.int a11.1, .int x2]) (rest := []) F hP hS rfl [0, 1, 2, 3, 4] rfl rfl (c_X0_moved l dC dI cI cC cZ sa h0 v0 v1 v2 v3 h v a11.1 x2 hcr _) gX0_sightFrom_X0_moved rfl (by decide +kernel) ⟨Nat.le_of_ble_eq_true rfl, Nat.le_of_ble_eq_true rfl⟩ 0 0 rfl rfl rfl hl.1 rfl (Nat.le_of_ble_eq_true rfl) dX0_sightFrom_20 ⟨Nat.zero_le _, Nat.zero_le _⟩) (fun H locs hP hS => ?_)
      refine lv_aload_n hx hb dX0_sightFrom_23 rfl (lv_at hl 0 rfl) ?_
      refine g_get (ci := 0) (C := RX0) (T := TX0) (N := 13) (v := .int h.2.2.2.2.2.1) F hP 0 rfl rfl inX0_sightFrom_X0 5 (by decide) (List.mem_of_getElem? (i := 1) rfl) rfl dX0_sightFrom_24 ?_
      refine lv_iconst (v := -1) hx hb dX0_sightFrom_27 (by decide) ?_
      refine lv_ixor hx hb dX0_sightFrom_28 ?_
      refine lv_iand hx hb dX0_sightFrom_29 ?_
      refine lv_istore_n (lv' := [(3, .int (z20 &&& (h.2.2.2.2.2.1 ^^^ (-1 : Int32)))), (0, .ref h0), (2, .int x2), (4, .int a11.2.1), (5, .int a11.2.2)]) hx hb dX0_sightFrom_30 rfl hl (by decide) rfl (fun ls hl => ?_)
      refine lv_iload hx hb dX0_sightFrom_31 (lv_at hl 3 rfl) ?_
      refine lv_iload_n hx hb dX0_sightFrom_33 rfl (lv_at hl 0 rfl) ?_
      refine lv_ior hx hb dX0_sightFrom_34 ?_
      refine lv_istore (lv' := [(4, .int (a11.2.1 ||| (z20 &&& (h.2.2.2.2.2.1 ^^^ (-1 : Int32))))), (3, .int (z20 &&& (h.2.2.2.2.2.1 ^^^ (-1 : Int32)))), (0, .ref h0), (2, .int x2), (5, .int a11.2.2)]) hx hb dX0_sightFrom_35 hl (by decide) rfl (fun ls hl => ?_)
      refine lv_iinc (v := (a11.2.2 + (1 : Int32))) (lv' := [(5, .int (a11.2.2 + (1 : Int32))), (4, .int (a11.2.1 ||| (z20 &&& (h.2.2.2.2.2.1 ^^^ (-1 : Int32))))), (3, .int (z20 &&& (h.2.2.2.2.2.1 ^^^ (-1 : Int32)))), (0, .ref h0), (2, .int x2)]) hx hb dX0_sightFrom_37 hl (k := 4) rfl rfl (by decide) rfl (fun ls hl => ?_)
      refine lv_goto (tgt := 11) hx hb dX0_sightFrom_40 (by decide) ?_
      exact ih11 ((z20 &&& (h.2.2.2.2.2.1 ^^^ (-1 : Int32))), (a11.2.1 ||| (z20 &&& (h.2.2.2.2.2.1 ^^^ (-1 : Int32)))), (a11.2.2 + (1 : Int32))) _ _ _ hP hS (lv_sub hl [3, 4, 2, 1, 0] rfl) hM
  refine lv_iload_n hx hb dX0_sightFrom_0 rfl (lv_at hl 1 rfl) ?_
  obtain ⟨z1, hcr, hM⟩ := ob_s hM
  refine res_i0 F hP hS rfl [] rfl rfl (runN_of (n := 1) (As := [.int x1]) (rest := []) F hP hS rfl [] rfl rfl (c_X8_bit l dC dI cI cC cZ sa x1 hcr _) gX0_sightFrom_X8_bit_n42 rfl 7 rfl (hts _ (List.mem_of_getElem? (i := 3) rfl)) (hts _ (List.mem_of_getElem? (i := 2) rfl)) (by decide +kernel) ⟨Nat.le_of_ble_eq_true rfl, Nat.le_of_ble_eq_true rfl⟩ rfl hl.1 rfl (Nat.le_of_ble_eq_true rfl) dX0_sightFrom_1 ⟨Nat.zero_le _, Nat.zero_le _⟩) (fun H locs hP hS => ?_)
  refine lv_istore_n (lv' := [(3, .int z1), (0, .ref h0), (1, .int x1), (2, .int x2)]) hx hb dX0_sightFrom_4 rfl hl (by decide) rfl (fun ls hl => ?_)
  refine lv_iload_n hx hb dX0_sightFrom_5 rfl (lv_at hl 0 rfl) ?_
  refine lv_istore (lv' := [(4, .int z1), (3, .int z1), (0, .ref h0), (1, .int x1), (2, .int x2)]) hx hb dX0_sightFrom_6 hl (by decide) rfl (fun ls hl => ?_)
  refine lv_iconst (v := 1) hx hb dX0_sightFrom_8 (by decide) ?_
  refine lv_istore (lv' := [(5, .int (1 : Int32)), (4, .int z1), (3, .int z1), (0, .ref h0), (1, .int x1), (2, .int x2)]) hx hb dX0_sightFrom_9 hl (by decide) rfl (fun ls hl => ?_)
  exact j11 200 (z1, z1, (1 : Int32)) _ _ _ hP hS (lv_sub hl [3, 5, 2, 1, 0] rfl) hM
theorem inX0_spoiledFrom_X0 : ∀ w ∈ wsX00, w ∈ wsX0_spoiledFrom := fun w h => List.mem_cons_of_mem _ (List.mem_append_right _ h)
set_option maxHeartbeats 4000000 in
set_option maxRecDepth 100000 in
theorem c_X0_spoiledFrom (l : Launch) (dC : Nat → ClassId) (dI : Nat → Nat → Nat) (cI cC cZ : ClassId) (sa : Nat → Nat) (h0 v0 v1 v2 v3 : Nat) (h : HT) (v : VT) (x1 : Int32) (x2 : Int32) (x3 : Int32) {res : Int32} (hM : M_X0_spoiledFrom h x1 x2 x3 = some res) : CTi l (dC, dI) [(cI, .int), (cC, .char), (cZ, .boolean)] sa yX0_spoiledFrom wsX0_spoiledFrom (rmd 4) [.ref h0, .int x1, .int x2, .int x3] (wHouse cI h0 v0 v1 v2 v3 h v) (fun (_ : Unit) => (wHouse cI h0 v0 v1 v2 v3 h v)) (res, ()) := by
  refine CTi.enter (own := RX0) (cc := cX0_spoiledFrom) (maxL := 5) (ret := (some .int)) (by decide) rfl rfl (Nat.le_of_ble_eq_true rfl) ?_
  intro pr e s m below meth c A F hr hlk hP hS ls hl
  obtain ⟨⟨hx, hb, hml, hown, hts⟩, hK, hDD, hA, hKC⟩ := id F
  have hl : lv_has ls 5 [(0, .ref h0), (1, .int x1), (2, .int x2), (3, .int x3)] := hl
  have hP : va_P (dC, dI) vwCl (wHouse cI h0 v0 v1 v2 v3 h v) s.heap := hP
  unfold M_X0_spoiledFrom at hM
  refine lv_aload_n hx hb dX0_spoiledFrom_0 rfl (lv_at hl 0 rfl) ?_
  refine lv_iload_n hx hb dX0_spoiledFrom_1 rfl (lv_at hl 1 rfl) ?_
  refine lv_iload_n hx hb dX0_spoiledFrom_2 rfl (lv_at hl 2 rfl) ?_
  obtain ⟨z3, hcr, hM⟩ := ob_s hM
  refine res_i0 F hP hS rfl [0, 1, 2, 3, 4] rfl rfl (runV_of (n := 2) (As := [.int x1, .int x2]) (rest := []) F hP hS rfl [0, 1, 2, 3, 4] rfl rfl (c_X0_sightFrom l dC dI cI cC cZ sa h0 v0 v1 v2 v3 h v x1 x2 hcr _) gX0_spoiledFrom_X0_sightFrom rfl (by decide +kernel) ⟨Nat.le_of_ble_eq_true rfl, Nat.le_of_ble_eq_true rfl⟩ 0 0 rfl rfl rfl hl.1 rfl (Nat.le_of_ble_eq_true rfl) dX0_spoiledFrom_3 ⟨Nat.zero_le _, Nat.zero_le _⟩) (fun H locs hP hS => ?_)
  refine lv_aload_n hx hb dX0_spoiledFrom_6 rfl (lv_at hl 0 rfl) ?_
  refine g_get (ci := 0) (C := RX0) (T := TX0) (N := 13) (v := .int h.2.2.2.2.2.2.1) F hP 0 rfl rfl inX0_spoiledFrom_X0 6 (by decide) (List.mem_of_getElem? (i := 1) rfl) rfl dX0_spoiledFrom_7 ?_
  refine lv_aload_n hx hb dX0_spoiledFrom_10 rfl (lv_at hl 0 rfl) ?_
  refine g_get (ci := 0) (C := RX0) (T := TX0) (N := 13) (v := .int h.2.2.2.2.2.2.2.2.1) F hP 0 rfl rfl inX0_spoiledFrom_X0 8 (by decide) (List.mem_of_getElem? (i := 2) rfl) rfl dX0_spoiledFrom_11 ?_
  refine lv_ior hx hb dX0_spoiledFrom_14 ?_
  refine lv_iand hx hb dX0_spoiledFrom_15 ?_
  refine lv_aload_n hx hb dX0_spoiledFrom_16 rfl (lv_at hl 0 rfl) ?_
  refine lv_iload_n hx hb dX0_spoiledFrom_17 rfl (lv_at hl 1 rfl) ?_
  refine lv_aload_n hx hb dX0_spoiledFrom_18 rfl (lv_at hl 0 rfl) ?_
  refine g_get (ci := 0) (C := RX0) (T := TX0) (N := 13) (v := .int h.2.2.2.2.2.2.2.2.2.2.2) F hP 0 rfl rfl inX0_spoiledFrom_X0 11 (by decide) (List.mem_of_getElem? (i := 3) rfl) rfl dX0_spoiledFrom_19 ?_
  obtain ⟨z22, hcr, hM⟩ := ob_s hM
  refine res_i0 F hP hS rfl [0, 1, 2, 3, 4] rfl rfl (runV_of (n := 2) (As := [.int x1, .int h.2.2.2.2.2.2.2.2.2.2.2]) (rest := [.int (z3 &&& (h.2.2.2.2.2.2.1 ||| h.2.2.2.2.2.2.2.2.1))]) F hP hS rfl [0, 1, 2, 3, 4] rfl rfl (c_X0_around l dC dI cI cC cZ sa h0 v0 v1 v2 v3 h v x1 h.2.2.2.2.2.2.2.2.2.2.2 hcr _) gX0_spoiledFrom_X0_around rfl (by decide +kernel) ⟨Nat.le_of_ble_eq_true rfl, Nat.le_of_ble_eq_true rfl⟩ 0 0 rfl rfl rfl hl.1 rfl (Nat.le_of_ble_eq_true rfl) dX0_spoiledFrom_22 ⟨Nat.zero_le _, Nat.zero_le _⟩) (fun H locs hP hS => ?_)
  refine lv_aload_n hx hb dX0_spoiledFrom_25 rfl (lv_at hl 0 rfl) ?_
  refine g_get (ci := 0) (C := RX0) (T := TX0) (N := 13) (v := .int h.2.2.2.2.2.2.2.1) F hP 0 rfl rfl inX0_spoiledFrom_X0 7 (by decide) (List.mem_of_getElem? (i := 4) rfl) rfl dX0_spoiledFrom_26 ?_
  refine lv_iand hx hb dX0_spoiledFrom_29 ?_
  refine lv_ior hx hb dX0_spoiledFrom_30 ?_
  refine lv_istore (lv' := [(4, .int ((z3 &&& (h.2.2.2.2.2.2.1 ||| h.2.2.2.2.2.2.2.2.1)) ||| (z22 &&& h.2.2.2.2.2.2.2.1))), (0, .ref h0), (1, .int x1), (2, .int x2), (3, .int x3)]) hx hb dX0_spoiledFrom_31 hl (by decide) rfl (fun ls hl => ?_)
  refine lv_iload_n hx hb dX0_spoiledFrom_33 rfl (lv_at hl 4 rfl) ?_
  refine lv_if_eq (tgt := 49) hx hb dX0_spoiledFrom_34 (by decide) (fun hc => ?_) (fun hc => ?_)
  · have hM := if_pp hc hM
    refine lv_iload hx hb dX0_spoiledFrom_49 (lv_at hl 0 rfl) ?_
    exact ret_i hx hb hr hlk dX0_spoiledFrom_51 (some_u hM) hP hS
  · have hM := if_nn hc hM
    refine lv_iload hx hb dX0_spoiledFrom_37 (lv_at hl 0 rfl) ?_
    refine lv_aload_n hx hb dX0_spoiledFrom_39 rfl (lv_at hl 1 rfl) ?_
    refine lv_iload_n hx hb dX0_spoiledFrom_40 rfl (lv_at hl 2 rfl) ?_
    refine lv_iconst (v := 1) hx hb dX0_spoiledFrom_41 (by decide) ?_
    obtain ⟨z42, hcr, hM⟩ := ob_s hM
    refine res_i0 F hP hS rfl [0, 1, 2, 3, 4] rfl rfl (runV_of (n := 2) (As := [.int x1, .int (1 : Int32)]) (rest := [.int ((z3 &&& (h.2.2.2.2.2.2.1 ||| h.2.2.2.2.2.2.2.2.1)) ||| (z22 &&& h.2.2.2.2.2.2.2.1))]) F hP hS rfl [0, 1, 2, 3, 4] rfl rfl (c_X0_around l dC dI cI cC cZ sa h0 v0 v1 v2 v3 h v x1 (1 : Int32) hcr _) gX0_spoiledFrom_X0_around rfl (by decide +kernel) ⟨Nat.le_of_ble_eq_true rfl, Nat.le_of_ble_eq_true rfl⟩ 0 0 rfl rfl rfl hl.1 rfl (Nat.le_of_ble_eq_true rfl) dX0_spoiledFrom_42 ⟨Nat.zero_le _, Nat.zero_le _⟩) (fun H locs hP hS => ?_)
    refine lv_ior hx hb dX0_spoiledFrom_45 ?_
    refine lv_goto (tgt := 51) hx hb dX0_spoiledFrom_46 (by decide) ?_
    exact ret_i hx hb hr hlk dX0_spoiledFrom_51 (some_u hM) hP hS
theorem inX0_bareCells_X0 : ∀ w ∈ wsX00, w ∈ wsX0_bareCells := fun w h => List.mem_cons_of_mem _ (List.mem_append_left _ (List.mem_append_right _ h))
theorem inX0_bareCells_X4 : ∀ w ∈ wsX40, w ∈ wsX0_bareCells := fun w h => List.mem_cons_of_mem _ (List.mem_append_right _ h)
set_option maxHeartbeats 4000000 in
set_option maxRecDepth 100000 in
theorem c_X0_bareCells (l : Launch) (dC : Nat → ClassId) (dI : Nat → Nat → Nat) (cI cC cZ : ClassId) (sa : Nat → Nat) (h0 v0 v1 v2 v3 : Nat) (h : HT) (v : VT)  {res : Int32} (hM : M_X0_bareCells h v = some res) : CTi l (dC, dI) [(cI, .int), (cC, .char), (cZ, .boolean)] sa yX0_bareCells wsX0_bareCells (rmd 5) [.ref h0] (wHouse cI h0 v0 v1 v2 v3 h v) (fun (_ : Unit) => (wHouse cI h0 v0 v1 v2 v3 h v)) (res, ()) := by
  refine CTi.enter (own := RX0) (cc := cX0_bareCells) (maxL := 3) (ret := (some .int)) (by decide) rfl rfl (Nat.le_of_ble_eq_true rfl) ?_
  intro pr e s m below meth c A F hr hlk hP hS ls hl
  obtain ⟨⟨hx, hb, hml, hown, hts⟩, hK, hDD, hA, hKC⟩ := id F
  have hl : lv_has ls 3 [(0, .ref h0)] := hl
  have hP : va_P (dC, dI) vwCl (wHouse cI h0 v0 v1 v2 v3 h v) s.heap := hP
  unfold M_X0_bareCells at hM
  refine kloop (α := Int32 × Int32) (res := res) (fun k a => M_X0_bareCells_7 h v k a) (fun rec a => M_X0_bareCells_7b h v rec a) (fun _ => rfl) (fun _ _ => rfl) F (fun a => (wHouse cI h0 v0 v1 v2 v3 h v)) (fun a => [(0, .ref h0), (1, .int a.1), (2, .int a.2)]) (fun a => []) 7 ?_ (fun j7 => ?_)
  · intro rc7 ih7 a7 H locs ls hP hS hl hM
    unfold M_X0_bareCells_7b at hM
    refine lv_iload_n hx hb dX0_bareCells_7 rfl (lv_at hl 2 rfl) ?_
    refine lv_aload_n hx hb dX0_bareCells_8 rfl (lv_at hl 0 rfl) ?_
    refine g_get (ci := 0) (C := RX0) (T := TX0) (N := 13) (v := .ref v0) F hP 0 rfl rfl inX0_bareCells_X0 12 (by decide) (List.mem_of_getElem? (i := 1) rfl) rfl dX0_bareCells_9 ?_
    refine g_get (ci := 4) (C := RX4) (T := TX4) (N := 4) (v := .int v.1) F hP 1 rfl rfl inX0_bareCells_X4 3 (by decide) (List.mem_of_getElem? (i := 2) rfl) rfl dX0_bareCells_12 ?_
    refine lv_icmp_ge (tgt := 57) hx hb dX0_bareCells_15 (by decide) (fun hc => ?_) (fun hc => ?_)
    · have hM := if_pp hc hM
      refine lv_iload_n hx hb dX0_bareCells_57 rfl (lv_at hl 1 rfl) ?_
      exact ret_i hx hb hr hlk dX0_bareCells_58 (some_u hM) hP hS
    · have hM := if_nn hc hM
      refine lv_iload_n hx hb dX0_bareCells_18 rfl (lv_at hl 1 rfl) ?_
      refine lv_aload_n hx hb dX0_bareCells_19 rfl (lv_at hl 0 rfl) ?_
      refine lv_aload_n hx hb dX0_bareCells_20 rfl (lv_at hl 0 rfl) ?_
      refine g_get (ci := 0) (C := RX0) (T := TX0) (N := 13) (v := .ref v0) F hP 0 rfl rfl inX0_bareCells_X0 12 (by decide) (List.mem_of_getElem? (i := 1) rfl) rfl dX0_bareCells_21 ?_
      refine lv_iload_n hx hb dX0_bareCells_24 rfl (lv_at hl 2 rfl) ?_
      obtain ⟨z25, hcr, hM⟩ := ob_s hM
      refine res_i0 F hP hS rfl [1, 2, 3, 4] rfl rfl (runV_of (n := 1) (As := [.int a7.2]) (rest := [.ref h0, .int a7.1]) F hP hS rfl [1, 2, 3, 4] rfl rfl (c_X4_cellOfOne l dC dI cI cC cZ sa v0 v1 v2 v3 v a7.2 hcr _) gX0_bareCells_X4_cellOfOne rfl (by decide +kernel) ⟨Nat.le_of_ble_eq_true rfl, Nat.le_of_ble_eq_true rfl⟩ 1 4 rfl rfl rfl hl.1 rfl (Nat.le_of_ble_eq_true rfl) dX0_bareCells_25 ⟨Nat.zero_le _, Nat.zero_le _⟩) (fun H locs hP hS => ?_)
      refine lv_aload_n hx hb dX0_bareCells_28 rfl (lv_at hl 0 rfl) ?_
      refine g_get (ci := 0) (C := RX0) (T := TX0) (N := 13) (v := .ref v0) F hP 0 rfl rfl inX0_bareCells_X0 12 (by decide) (List.mem_of_getElem? (i := 1) rfl) rfl dX0_bareCells_29 ?_
      refine lv_iload_n hx hb dX0_bareCells_32 rfl (lv_at hl 2 rfl) ?_
      obtain ⟨z33, hcr, hM⟩ := ob_s hM
      refine res_i0 F hP hS rfl [1, 2, 3, 4] rfl rfl (runV_of (n := 1) (As := [.int a7.2]) (rest := [.int z25, .ref h0, .int a7.1]) F hP hS rfl [1, 2, 3, 4] rfl rfl (c_X4_lookingOf l dC dI cI cC cZ sa v0 v1 v2 v3 v a7.2 hcr _) gX0_bareCells_X4_lookingOf rfl (by decide +kernel) ⟨Nat.le_of_ble_eq_true rfl, Nat.le_of_ble_eq_true rfl⟩ 1 4 rfl rfl rfl hl.1 rfl (Nat.le_of_ble_eq_true rfl) dX0_bareCells_33 ⟨Nat.zero_le _, Nat.zero_le _⟩) (fun H locs hP hS => ?_)
      refine lv_aload_n hx hb dX0_bareCells_36 rfl (lv_at hl 0 rfl) ?_
      refine g_get (ci := 0) (C := RX0) (T := TX0) (N := 13) (v := .ref v0) F hP 0 rfl rfl inX0_bareCells_X0 12 (by decide) (List.mem_of_getElem? (i := 1) rfl) rfl dX0_bareCells_37 ?_
      refine lv_iload_n hx hb dX0_bareCells_40 rfl (lv_at hl 2 rfl) ?_
      obtain ⟨z41, hcr, hM⟩ := ob_s hM
      refine res_i0 F hP hS rfl [1, 2, 3, 4] rfl rfl (runV_of (n := 1) (As := [.int a7.2]) (rest := [.int z33, .int z25, .ref h0, .int a7.1]) F hP hS rfl [1, 2, 3, 4] rfl rfl (c_X4_hasDog l dC dI cI cC cZ sa v0 v1 v2 v3 v a7.2 hcr _) gX0_bareCells_X4_hasDog rfl (by decide +kernel) ⟨Nat.le_of_ble_eq_true rfl, Nat.le_of_ble_eq_true rfl⟩ 1 4 rfl rfl rfl hl.1 rfl (Nat.le_of_ble_eq_true rfl) dX0_bareCells_41 ⟨Nat.zero_le _, Nat.zero_le _⟩) (fun H locs hP hS => ?_)
      obtain ⟨z44, hcr, hM⟩ := ob_s hM
      refine res_i0 F hP hS rfl [0, 1, 2, 3, 4] rfl rfl (runV_of (n := 3) (As := [.int z25, .int z33, .int z41]) (rest := [.int a7.1]) F hP hS rfl [0, 1, 2, 3, 4] rfl rfl (c_X0_spoiledFrom l dC dI cI cC cZ sa h0 v0 v1 v2 v3 h v z25 z33 z41 hcr _) gX0_bareCells_X0_spoiledFrom rfl (by decide +kernel) ⟨Nat.le_of_ble_eq_true rfl, Nat.le_of_ble_eq_true rfl⟩ 0 0 rfl rfl rfl hl.1 rfl (Nat.le_of_ble_eq_true rfl) dX0_bareCells_44 ⟨Nat.zero_le _, Nat.zero_le _⟩) (fun H locs hP hS => ?_)
      refine lv_iconst (v := -1) hx hb dX0_bareCells_47 (by decide) ?_
      refine lv_ixor hx hb dX0_bareCells_48 ?_
      refine lv_iand hx hb dX0_bareCells_49 ?_
      refine lv_istore_n (lv' := [(1, .int (a7.1 &&& (z44 ^^^ (-1 : Int32)))), (0, .ref h0), (2, .int a7.2)]) hx hb dX0_bareCells_50 rfl hl (by decide) rfl (fun ls hl => ?_)
      refine lv_iinc (v := (a7.2 + (1 : Int32))) (lv' := [(2, .int (a7.2 + (1 : Int32))), (1, .int (a7.1 &&& (z44 ^^^ (-1 : Int32)))), (0, .ref h0)]) hx hb dX0_bareCells_51 hl (k := 2) rfl rfl (by decide) rfl (fun ls hl => ?_)
      refine lv_goto (tgt := 7) hx hb dX0_bareCells_54 (by decide) ?_
      exact ih7 ((a7.1 &&& (z44 ^^^ (-1 : Int32))), (a7.2 + (1 : Int32))) _ _ _ hP hS (lv_sub hl [2, 1, 0] rfl) hM
  refine lv_aload_n hx hb dX0_bareCells_0 rfl (lv_at hl 0 rfl) ?_
  obtain ⟨z1, hcr, hM⟩ := ob_s hM
  refine res_i0 F hP hS rfl [0, 1, 2, 3, 4] rfl rfl (runV_of (n := 0) (As := []) (rest := []) F hP hS rfl [0, 1, 2, 3, 4] rfl rfl (c_X0_open l dC dI cI cC cZ sa h0 v0 v1 v2 v3 h v hcr _) gX0_bareCells_X0_open rfl (by decide +kernel) ⟨Nat.le_of_ble_eq_true rfl, Nat.le_of_ble_eq_true rfl⟩ 0 0 rfl rfl rfl hl.1 rfl (Nat.le_of_ble_eq_true rfl) dX0_bareCells_1 ⟨Nat.zero_le _, Nat.zero_le _⟩) (fun H locs hP hS => ?_)
  refine lv_istore_n (lv' := [(1, .int z1), (0, .ref h0)]) hx hb dX0_bareCells_4 rfl hl (by decide) rfl (fun ls hl => ?_)
  refine lv_iconst (v := 0) hx hb dX0_bareCells_5 (by decide) ?_
  refine lv_istore_n (lv' := [(2, .int (0 : Int32)), (1, .int z1), (0, .ref h0)]) hx hb dX0_bareCells_6 rfl hl (by decide) rfl (fun ls hl => ?_)
  exact j7 200 (z1, (0 : Int32)) _ _ _ hP hS (lv_sub hl [2, 1, 0] rfl) hM
theorem inX0_cells_X0 : ∀ w ∈ wsX00, w ∈ wsX0_cells := fun w h => List.mem_cons_of_mem _ (List.mem_append_right _ h)
set_option maxHeartbeats 4000000 in
set_option maxRecDepth 100000 in
theorem c_X0_cells (l : Launch) (dC : Nat → ClassId) (dI : Nat → Nat → Nat) (cI cC cZ : ClassId) (sa : Nat → Nat) (h0 v0 v1 v2 v3 : Nat) (h : HT) (v : VT)  {res : Int32} (hM : M_X0_cells h = some res) : CTi l (dC, dI) [(cI, .int), (cC, .char), (cZ, .boolean)] sa yX0_cells wsX0_cells (rmd 1) [.ref h0] (wHouse cI h0 v0 v1 v2 v3 h v) (fun (_ : Unit) => (wHouse cI h0 v0 v1 v2 v3 h v)) (res, ()) := by
  refine CTi.enter (own := RX0) (cc := cX0_cells) (maxL := 1) (ret := (some .int)) (by decide) rfl rfl (Nat.le_of_ble_eq_true rfl) ?_
  intro pr e s m below meth c A F hr hlk hP hS ls hl
  obtain ⟨⟨hx, hb, hml, hown, hts⟩, hK, hDD, hA, hKC⟩ := id F
  have hl : lv_has ls 1 [(0, .ref h0)] := hl
  have hP : va_P (dC, dI) vwCl (wHouse cI h0 v0 v1 v2 v3 h v) s.heap := hP
  unfold M_X0_cells at hM
  refine lv_aload_n hx hb dX0_cells_0 rfl (lv_at hl 0 rfl) ?_
  refine g_get (ci := 0) (C := RX0) (T := TX0) (N := 13) (v := .int h.1) F hP 0 rfl rfl inX0_cells_X0 0 (by decide) (List.mem_of_getElem? (i := 1) rfl) rfl dX0_cells_1 ?_
  refine lv_aload_n hx hb dX0_cells_4 rfl (lv_at hl 0 rfl) ?_
  refine g_get (ci := 0) (C := RX0) (T := TX0) (N := 13) (v := .int h.2.1) F hP 0 rfl rfl inX0_cells_X0 1 (by decide) (List.mem_of_getElem? (i := 2) rfl) rfl dX0_cells_5 ?_
  refine lv_imul hx hb dX0_cells_8 ?_
  exact ret_i hx hb hr hlk dX0_cells_9 (some_u hM) hP hS
set_option maxHeartbeats 4000000 in
set_option maxRecDepth 100000 in
theorem c_X0_isCell (l : Launch) (dC : Nat → ClassId) (dI : Nat → Nat → Nat) (cI cC cZ : ClassId) (sa : Nat → Nat) (h0 v0 v1 v2 v3 : Nat) (h : HT) (v : VT) (x1 : Int32) {res : Int32} (hM : M_X0_isCell h x1 = some res) : CTi l (dC, dI) [(cI, .int), (cC, .char), (cZ, .boolean)] sa yX0_isCell wsX0_isCell (rmd 2) [.ref h0, .int x1] (wHouse cI h0 v0 v1 v2 v3 h v) (fun (_ : Unit) => (wHouse cI h0 v0 v1 v2 v3 h v)) (res, ()) := by
  refine CTi.enter (own := RX0) (cc := cX0_isCell) (maxL := 2) (ret := (some .boolean)) (by decide) rfl rfl (Nat.le_of_ble_eq_true rfl) ?_
  intro pr e s m below meth c A F hr hlk hP hS ls hl
  obtain ⟨⟨hx, hb, hml, hown, hts⟩, hK, hDD, hA, hKC⟩ := id F
  have hl : lv_has ls 2 [(0, .ref h0), (1, .int x1)] := hl
  have hP : va_P (dC, dI) vwCl (wHouse cI h0 v0 v1 v2 v3 h v) s.heap := hP
  unfold M_X0_isCell at hM
  refine lv_iload_n hx hb dX0_isCell_0 rfl (lv_at hl 1 rfl) ?_
  refine lv_if_lt (tgt := 16) hx hb dX0_isCell_1 (by decide) (fun hc => ?_) (fun hc => ?_)
  · have hM := if_pp hc hM
    refine lv_iconst (v := 0) hx hb dX0_isCell_16 (by decide) ?_
    exact ret_z hx hb hr hlk dX0_isCell_17 (by decide) (some_u hM) hP hS
  · have hM := if_nn hc hM
    refine lv_iload_n hx hb dX0_isCell_4 rfl (lv_at hl 1 rfl) ?_
    refine lv_aload_n hx hb dX0_isCell_5 rfl (lv_at hl 0 rfl) ?_
    obtain ⟨z6, hcr, hM⟩ := ob_s hM
    refine res_i0 F hP hS rfl [0, 1, 2, 3, 4] rfl rfl (runV_of (n := 0) (As := []) (rest := [.int x1]) F hP hS rfl [0, 1, 2, 3, 4] rfl rfl (c_X0_cells l dC dI cI cC cZ sa h0 v0 v1 v2 v3 h v hcr _) gX0_isCell_X0_cells rfl (by decide +kernel) ⟨Nat.le_of_ble_eq_true rfl, Nat.le_of_ble_eq_true rfl⟩ 0 0 rfl rfl rfl hl.1 rfl (Nat.le_of_ble_eq_true rfl) dX0_isCell_6 ⟨Nat.zero_le _, Nat.zero_le _⟩) (fun H locs hP hS => ?_)
    refine lv_icmp_ge (tgt := 16) hx hb dX0_isCell_9 (by decide) (fun hc => ?_) (fun hc => ?_)
    · have hM := if_pp hc hM
      refine lv_iconst (v := 0) hx hb dX0_isCell_16 (by decide) ?_
      exact ret_z hx hb hr hlk dX0_isCell_17 (by decide) (some_u hM) hP hS
    · have hM := if_nn hc hM
      refine lv_iconst (v := 1) hx hb dX0_isCell_12 (by decide) ?_
      refine lv_goto (tgt := 17) hx hb dX0_isCell_13 (by decide) ?_
      exact ret_z hx hb hr hlk dX0_isCell_17 (by decide) (some_u hM) hP hS
theorem inX0_seenBy_X0 : ∀ w ∈ wsX00, w ∈ wsX0_seenBy := fun w h => List.mem_cons_of_mem _ (List.mem_append_left _ (List.mem_append_right _ h))
set_option maxHeartbeats 4000000 in
set_option maxRecDepth 100000 in
theorem c_X0_seenBy (l : Launch) (dC : Nat → ClassId) (dI : Nat → Nat → Nat) (cI cC cZ : ClassId) (sa : Nat → Nat) (h0 v0 v1 v2 v3 : Nat) (h : HT) (v : VT) (x1 : Int32) {res : Int32} (hM : M_X0_seenBy h v x1 = some res) : CTi l (dC, dI) [(cI, .int), (cC, .char), (cZ, .boolean)] sa yX0_seenBy wsX0_seenBy (rmd 3) [.ref h0, .int x1] (wHouse cI h0 v0 v1 v2 v3 h v) (fun (_ : Unit) => (wHouse cI h0 v0 v1 v2 v3 h v)) (res, ()) := by
  refine CTi.enter (own := RX0) (cc := cX0_seenBy) (maxL := 2) (ret := (some .int)) (by decide) rfl rfl (Nat.le_of_ble_eq_true rfl) ?_
  intro pr e s m below meth c A F hr hlk hP hS ls hl
  obtain ⟨⟨hx, hb, hml, hown, hts⟩, hK, hDD, hA, hKC⟩ := id F
  have hl : lv_has ls 2 [(0, .ref h0), (1, .int x1)] := hl
  have hP : va_P (dC, dI) vwCl (wHouse cI h0 v0 v1 v2 v3 h v) s.heap := hP
  unfold M_X0_seenBy at hM
  refine lv_aload_n hx hb dX0_seenBy_0 rfl (lv_at hl 0 rfl) ?_
  refine lv_aload_n hx hb dX0_seenBy_1 rfl (lv_at hl 0 rfl) ?_
  refine g_get (ci := 0) (C := RX0) (T := TX0) (N := 13) (v := .ref v0) F hP 0 rfl rfl inX0_seenBy_X0 12 (by decide) (List.mem_of_getElem? (i := 1) rfl) rfl dX0_seenBy_2 ?_
  refine lv_iload_n hx hb dX0_seenBy_5 rfl (lv_at hl 1 rfl) ?_
  obtain ⟨z6, hcr, hM⟩ := ob_s hM
  refine res_i0 F hP hS rfl [1, 2, 3, 4] rfl rfl (runV_of (n := 1) (As := [.int x1]) (rest := [.ref h0]) F hP hS rfl [1, 2, 3, 4] rfl rfl (c_X4_cellOfOne l dC dI cI cC cZ sa v0 v1 v2 v3 v x1 hcr _) gX0_seenBy_X4_cellOfOne rfl (by decide +kernel) ⟨Nat.le_of_ble_eq_true rfl, Nat.le_of_ble_eq_true rfl⟩ 1 4 rfl rfl rfl hl.1 rfl (Nat.le_of_ble_eq_true rfl) dX0_seenBy_6 ⟨Nat.zero_le _, Nat.zero_le _⟩) (fun H locs hP hS => ?_)
  refine lv_aload_n hx hb dX0_seenBy_9 rfl (lv_at hl 0 rfl) ?_
  refine g_get (ci := 0) (C := RX0) (T := TX0) (N := 13) (v := .ref v0) F hP 0 rfl rfl inX0_seenBy_X0 12 (by decide) (List.mem_of_getElem? (i := 1) rfl) rfl dX0_seenBy_10 ?_
  refine lv_iload_n hx hb dX0_seenBy_13 rfl (lv_at hl 1 rfl) ?_
  obtain ⟨z14, hcr, hM⟩ := ob_s hM
  refine res_i0 F hP hS rfl [1, 2, 3, 4] rfl rfl (runV_of (n := 1) (As := [.int x1]) (rest := [.int z6, .ref h0]) F hP hS rfl [1, 2, 3, 4] rfl rfl (c_X4_lookingOf l dC dI cI cC cZ sa v0 v1 v2 v3 v x1 hcr _) gX0_seenBy_X4_lookingOf rfl (by decide +kernel) ⟨Nat.le_of_ble_eq_true rfl, Nat.le_of_ble_eq_true rfl⟩ 1 4 rfl rfl rfl hl.1 rfl (Nat.le_of_ble_eq_true rfl) dX0_seenBy_14 ⟨Nat.zero_le _, Nat.zero_le _⟩) (fun H locs hP hS => ?_)
  obtain ⟨z17, hcr, hM⟩ := ob_s hM
  refine res_i0 F hP hS rfl [0, 1, 2, 3, 4] rfl rfl (runV_of (n := 2) (As := [.int z6, .int z14]) (rest := []) F hP hS rfl [0, 1, 2, 3, 4] rfl rfl (c_X0_sightFrom l dC dI cI cC cZ sa h0 v0 v1 v2 v3 h v z6 z14 hcr _) gX0_seenBy_X0_sightFrom rfl (by decide +kernel) ⟨Nat.le_of_ble_eq_true rfl, Nat.le_of_ble_eq_true rfl⟩ 0 0 rfl rfl rfl hl.1 rfl (Nat.le_of_ble_eq_true rfl) dX0_seenBy_17 ⟨Nat.zero_le _, Nat.zero_le _⟩) (fun H locs hP hS => ?_)
  exact ret_i hx hb hr hlk dX0_seenBy_20 (some_u hM) hP hS
theorem inX0_signOf_X0 : ∀ w ∈ wsX00, w ∈ wsX0_signOf := fun w h => List.mem_cons_of_mem _ (List.mem_append_right _ h)
set_option maxHeartbeats 4000000 in
set_option maxRecDepth 100000 in
theorem c_X0_signOf (l : Launch) (dC : Nat → ClassId) (dI : Nat → Nat → Nat) (cI cC cZ : ClassId) (sa : Nat → Nat) (h0 v0 v1 v2 v3 : Nat) (h : HT) (v : VT) (x1 : Int32) {res : Int32} (hM : M_X0_signOf h x1 = some res) : CTi l (dC, dI) [(cI, .int), (cC, .char), (cZ, .boolean)] sa yX0_signOf wsX0_signOf (rmd 2) [.ref h0, .int x1] (wHouse cI h0 v0 v1 v2 v3 h v) (fun (_ : Unit) => (wHouse cI h0 v0 v1 v2 v3 h v)) (res, ()) := by
  refine CTi.enter (own := RX0) (cc := cX0_signOf) (maxL := 2) (ret := (some .int)) (by decide) rfl rfl (Nat.le_of_ble_eq_true rfl) ?_
  intro pr e s m below meth c A F hr hlk hP hS ls hl
  obtain ⟨⟨hx, hb, hml, hown, hts⟩, hK, hDD, hA, hKC⟩ := id F
  have hl : lv_has ls 2 [(0, .ref h0), (1, .int x1)] := hl
  have hP : va_P (dC, dI) vwCl (wHouse cI h0 v0 v1 v2 v3 h v) s.heap := hP
  unfold M_X0_signOf at hM
  refine lv_aload_n hx hb dX0_signOf_0 rfl (lv_at hl 0 rfl) ?_
  refine g_get (ci := 0) (C := RX0) (T := TX0) (N := 13) (v := .int h.2.2.2.2.2.1) F hP 0 rfl rfl inX0_signOf_X0 5 (by decide) (List.mem_of_getElem? (i := 1) rfl) rfl dX0_signOf_1 ?_
  refine lv_iload_n hx hb dX0_signOf_4 rfl (lv_at hl 1 rfl) ?_
  obtain ⟨z5, hcr, hM⟩ := ob_s hM
  refine res_i0 F hP hS rfl [] rfl rfl (runN_of (n := 2) (As := [.int h.2.2.2.2.2.1, .int x1]) (rest := []) F hP hS rfl [] rfl rfl (c_X8_has l dC dI cI cC cZ sa h.2.2.2.2.2.1 x1 hcr _) gX0_signOf_X8_has_n89 rfl 9 rfl (hts _ (List.mem_of_getElem? (i := 6) rfl)) (hts _ (List.mem_of_getElem? (i := 5) rfl)) (by decide +kernel) ⟨Nat.le_of_ble_eq_true rfl, Nat.le_of_ble_eq_true rfl⟩ rfl hl.1 rfl (Nat.le_of_ble_eq_true rfl) dX0_signOf_5 ⟨Nat.zero_le _, Nat.zero_le _⟩) (fun H locs hP hS => ?_)
  refine lv_if_eq (tgt := 14) hx hb dX0_signOf_8 (by decide) (fun hc => ?_) (fun hc => ?_)
  · have hM := if_pp hc hM
    refine lv_aload_n hx hb dX0_signOf_14 rfl (lv_at hl 0 rfl) ?_
    refine g_get (ci := 0) (C := RX0) (T := TX0) (N := 13) (v := .int h.2.2.2.2.2.2.1) F hP 0 rfl rfl inX0_signOf_X0 6 (by decide) (List.mem_of_getElem? (i := 2) rfl) rfl dX0_signOf_15 ?_
    refine lv_iload_n hx hb dX0_signOf_18 rfl (lv_at hl 1 rfl) ?_
    obtain ⟨z19, hcr, hM⟩ := ob_s hM
    refine res_i0 F hP hS rfl [] rfl rfl (runN_of (n := 2) (As := [.int h.2.2.2.2.2.2.1, .int x1]) (rest := []) F hP hS rfl [] rfl rfl (c_X8_has l dC dI cI cC cZ sa h.2.2.2.2.2.2.1 x1 hcr _) gX0_signOf_X8_has_n89 rfl 9 rfl (hts _ (List.mem_of_getElem? (i := 6) rfl)) (hts _ (List.mem_of_getElem? (i := 5) rfl)) (by decide +kernel) ⟨Nat.le_of_ble_eq_true rfl, Nat.le_of_ble_eq_true rfl⟩ rfl hl.1 rfl (Nat.le_of_ble_eq_true rfl) dX0_signOf_19 ⟨Nat.zero_le _, Nat.zero_le _⟩) (fun H locs hP hS => ?_)
    refine lv_if_eq (tgt := 28) hx hb dX0_signOf_22 (by decide) (fun hc => ?_) (fun hc => ?_)
    · have hM := if_pp hc hM
      refine lv_aload_n hx hb dX0_signOf_28 rfl (lv_at hl 0 rfl) ?_
      refine g_get (ci := 0) (C := RX0) (T := TX0) (N := 13) (v := .int h.2.2.2.2.2.2.2.1) F hP 0 rfl rfl inX0_signOf_X0 7 (by decide) (List.mem_of_getElem? (i := 3) rfl) rfl dX0_signOf_29 ?_
      refine lv_iload_n hx hb dX0_signOf_32 rfl (lv_at hl 1 rfl) ?_
      obtain ⟨z33, hcr, hM⟩ := ob_s hM
      refine res_i0 F hP hS rfl [] rfl rfl (runN_of (n := 2) (As := [.int h.2.2.2.2.2.2.2.1, .int x1]) (rest := []) F hP hS rfl [] rfl rfl (c_X8_has l dC dI cI cC cZ sa h.2.2.2.2.2.2.2.1 x1 hcr _) gX0_signOf_X8_has_n89 rfl 9 rfl (hts _ (List.mem_of_getElem? (i := 6) rfl)) (hts _ (List.mem_of_getElem? (i := 5) rfl)) (by decide +kernel) ⟨Nat.le_of_ble_eq_true rfl, Nat.le_of_ble_eq_true rfl⟩ rfl hl.1 rfl (Nat.le_of_ble_eq_true rfl) dX0_signOf_33 ⟨Nat.zero_le _, Nat.zero_le _⟩) (fun H locs hP hS => ?_)
      refine lv_if_eq (tgt := 42) hx hb dX0_signOf_36 (by decide) (fun hc => ?_) (fun hc => ?_)
      · have hM := if_pp hc hM
        refine lv_aload_n hx hb dX0_signOf_42 rfl (lv_at hl 0 rfl) ?_
        refine g_get (ci := 0) (C := RX0) (T := TX0) (N := 13) (v := .int h.2.2.2.2.2.2.2.2.1) F hP 0 rfl rfl inX0_signOf_X0 8 (by decide) (List.mem_of_getElem? (i := 4) rfl) rfl dX0_signOf_43 ?_
        refine lv_iload_n hx hb dX0_signOf_46 rfl (lv_at hl 1 rfl) ?_
        obtain ⟨z47, hcr, hM⟩ := ob_s hM
        refine res_i0 F hP hS rfl [] rfl rfl (runN_of (n := 2) (As := [.int h.2.2.2.2.2.2.2.2.1, .int x1]) (rest := []) F hP hS rfl [] rfl rfl (c_X8_has l dC dI cI cC cZ sa h.2.2.2.2.2.2.2.2.1 x1 hcr _) gX0_signOf_X8_has_n89 rfl 9 rfl (hts _ (List.mem_of_getElem? (i := 6) rfl)) (hts _ (List.mem_of_getElem? (i := 5) rfl)) (by decide +kernel) ⟨Nat.le_of_ble_eq_true rfl, Nat.le_of_ble_eq_true rfl⟩ rfl hl.1 rfl (Nat.le_of_ble_eq_true rfl) dX0_signOf_47 ⟨Nat.zero_le _, Nat.zero_le _⟩) (fun H locs hP hS => ?_)
        refine lv_if_eq (tgt := 58) hx hb dX0_signOf_50 (by decide) (fun hc => ?_) (fun hc => ?_)
        · have hM := if_pp hc hM
          refine lv_bipush (v := 46) hx hb dX0_signOf_58 (by decide) ?_
          exact ret_i hx hb hr hlk dX0_signOf_60 (some_u hM) hP hS
        · have hM := if_nn hc hM
          refine lv_bipush (v := 100) hx hb dX0_signOf_53 (by decide) ?_
          refine lv_goto (tgt := 60) hx hb dX0_signOf_55 (by decide) ?_
          exact ret_i hx hb hr hlk dX0_signOf_60 (some_u hM) hP hS
      · have hM := if_nn hc hM
        refine lv_bipush (v := 99) hx hb dX0_signOf_39 (by decide) ?_
        exact ret_i hx hb hr hlk dX0_signOf_41 (some_u hM) hP hS
    · have hM := if_nn hc hM
      refine lv_bipush (v := 103) hx hb dX0_signOf_25 (by decide) ?_
      exact ret_i hx hb hr hlk dX0_signOf_27 (some_u hM) hP hS
  · have hM := if_nn hc hM
    refine lv_bipush (v := 35) hx hb dX0_signOf_11 (by decide) ?_
    exact ret_i hx hb hr hlk dX0_signOf_13 (some_u hM) hP hS
set_option maxHeartbeats 4000000 in
set_option maxRecDepth 100000 in
theorem c_X0_stepTo (l : Launch) (dC : Nat → ClassId) (dI : Nat → Nat → Nat) (cI cC cZ : ClassId) (sa : Nat → Nat) (h0 v0 v1 v2 v3 : Nat) (h : HT) (v : VT) (x1 : Int32) (x2 : Int32) {res : Int32} (hM : M_X0_stepTo h x1 x2 = some res) : CTi l (dC, dI) [(cI, .int), (cC, .char), (cZ, .boolean)] sa yX0_stepTo wsX0_stepTo (rmd 2) [.ref h0, .int x1, .int x2] (wHouse cI h0 v0 v1 v2 v3 h v) (fun (_ : Unit) => (wHouse cI h0 v0 v1 v2 v3 h v)) (res, ()) := by
  refine CTi.enter (own := RX0) (cc := cX0_stepTo) (maxL := 3) (ret := (some .int)) (by decide) rfl rfl (Nat.le_of_ble_eq_true rfl) ?_
  intro pr e s m below meth c A F hr hlk hP hS ls hl
  obtain ⟨⟨hx, hb, hml, hown, hts⟩, hK, hDD, hA, hKC⟩ := id F
  have hl : lv_has ls 3 [(0, .ref h0), (1, .int x1), (2, .int x2)] := hl
  have hP : va_P (dC, dI) vwCl (wHouse cI h0 v0 v1 v2 v3 h v) s.heap := hP
  unfold M_X0_stepTo at hM
  refine lv_aload_n hx hb dX0_stepTo_0 rfl (lv_at hl 0 rfl) ?_
  refine lv_iload_n hx hb dX0_stepTo_1 rfl (lv_at hl 1 rfl) ?_
  refine lv_iload_n hx hb dX0_stepTo_2 rfl (lv_at hl 2 rfl) ?_
  obtain ⟨z3, hcr, hM⟩ := ob_s hM
  refine res_i0 F hP hS rfl [0, 1, 2, 3, 4] rfl rfl (runV_of (n := 2) (As := [.int x1, .int x2]) (rest := []) F hP hS rfl [0, 1, 2, 3, 4] rfl rfl (c_X0_moved l dC dI cI cC cZ sa h0 v0 v1 v2 v3 h v x1 x2 hcr _) gX0_stepTo_X0_moved rfl (by decide +kernel) ⟨Nat.le_of_ble_eq_true rfl, Nat.le_of_ble_eq_true rfl⟩ 0 0 rfl rfl rfl hl.1 rfl (Nat.le_of_ble_eq_true rfl) dX0_stepTo_3 ⟨Nat.zero_le _, Nat.zero_le _⟩) (fun H locs hP hS => ?_)
  refine lv_aload_n hx hb dX0_stepTo_6 rfl (lv_at hl 0 rfl) ?_
  obtain ⟨z7, hcr, hM⟩ := ob_s hM
  refine res_i0 F hP hS rfl [0, 1, 2, 3, 4] rfl rfl (runV_of (n := 0) (As := []) (rest := [.int z3]) F hP hS rfl [0, 1, 2, 3, 4] rfl rfl (c_X0_open l dC dI cI cC cZ sa h0 v0 v1 v2 v3 h v hcr _) gX0_stepTo_X0_open rfl (by decide +kernel) ⟨Nat.le_of_ble_eq_true rfl, Nat.le_of_ble_eq_true rfl⟩ 0 0 rfl rfl rfl hl.1 rfl (Nat.le_of_ble_eq_true rfl) dX0_stepTo_7 ⟨Nat.zero_le _, Nat.zero_le _⟩) (fun H locs hP hS => ?_)
  refine lv_iand hx hb dX0_stepTo_10 ?_
  exact ret_i hx hb hr hlk dX0_stepTo_11 (some_u hM) hP hS
set_option maxHeartbeats 4000000 in
set_option maxRecDepth 100000 in
theorem c_X0_stepOrStay (l : Launch) (dC : Nat → ClassId) (dI : Nat → Nat → Nat) (cI cC cZ : ClassId) (sa : Nat → Nat) (h0 v0 v1 v2 v3 : Nat) (h : HT) (v : VT) (x1 : Int32) (x2 : Int32) {res : Int32} (hM : M_X0_stepOrStay h x1 x2 = some res) : CTi l (dC, dI) [(cI, .int), (cC, .char), (cZ, .boolean)] sa yX0_stepOrStay wsX0_stepOrStay (rmd 3) [.ref h0, .int x1, .int x2] (wHouse cI h0 v0 v1 v2 v3 h v) (fun (_ : Unit) => (wHouse cI h0 v0 v1 v2 v3 h v)) (res, ()) := by
  refine CTi.enter (own := RX0) (cc := cX0_stepOrStay) (maxL := 4) (ret := (some .int)) (by decide) rfl rfl (Nat.le_of_ble_eq_true rfl) ?_
  intro pr e s m below meth c A F hr hlk hP hS ls hl
  obtain ⟨⟨hx, hb, hml, hown, hts⟩, hK, hDD, hA, hKC⟩ := id F
  have hl : lv_has ls 4 [(0, .ref h0), (1, .int x1), (2, .int x2)] := hl
  have hP : va_P (dC, dI) vwCl (wHouse cI h0 v0 v1 v2 v3 h v) s.heap := hP
  unfold M_X0_stepOrStay at hM
  refine lv_aload_n hx hb dX0_stepOrStay_0 rfl (lv_at hl 0 rfl) ?_
  refine lv_iload_n hx hb dX0_stepOrStay_1 rfl (lv_at hl 1 rfl) ?_
  refine lv_iload_n hx hb dX0_stepOrStay_2 rfl (lv_at hl 2 rfl) ?_
  obtain ⟨z3, hcr, hM⟩ := ob_s hM
  refine res_i0 F hP hS rfl [0, 1, 2, 3, 4] rfl rfl (runV_of (n := 2) (As := [.int x1, .int x2]) (rest := []) F hP hS rfl [0, 1, 2, 3, 4] rfl rfl (c_X0_stepTo l dC dI cI cC cZ sa h0 v0 v1 v2 v3 h v x1 x2 hcr _) gX0_stepOrStay_X0_stepTo rfl (by decide +kernel) ⟨Nat.le_of_ble_eq_true rfl, Nat.le_of_ble_eq_true rfl⟩ 0 0 rfl rfl rfl hl.1 rfl (Nat.le_of_ble_eq_true rfl) dX0_stepOrStay_3 ⟨Nat.zero_le _, Nat.zero_le _⟩) (fun H locs hP hS => ?_)
  refine lv_istore_n (lv' := [(3, .int z3), (0, .ref h0), (1, .int x1), (2, .int x2)]) hx hb dX0_stepOrStay_6 rfl hl (by decide) rfl (fun ls hl => ?_)
  refine lv_iload_n hx hb dX0_stepOrStay_7 rfl (lv_at hl 0 rfl) ?_
  refine lv_if_ne (tgt := 15) hx hb dX0_stepOrStay_8 (by decide) (fun hc => ?_) (fun hc => ?_)
  · have hM := if_nn hc hM
    refine lv_iload_n hx hb dX0_stepOrStay_15 rfl (lv_at hl 0 rfl) ?_
    exact ret_i hx hb hr hlk dX0_stepOrStay_16 (some_u hM) hP hS
  · have hM := if_pp hc hM
    refine lv_iload_n hx hb dX0_stepOrStay_11 rfl (lv_at hl 2 rfl) ?_
    refine lv_goto (tgt := 16) hx hb dX0_stepOrStay_12 (by decide) ?_
    exact ret_i hx hb hr hlk dX0_stepOrStay_16 (some_u hM) hP hS
