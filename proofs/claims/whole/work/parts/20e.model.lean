/-! Walks, printed by wip/whole/gen.py -/
theorem inX9_cell_X9 : ∀ w ∈ wsX90, w ∈ wsX9_cell := fun w h => List.mem_cons_of_mem _ (List.mem_append_right _ h)
set_option maxHeartbeats 4000000 in
set_option maxRecDepth 100000 in
theorem c_X9_cell (l : Launch) (dC : Nat → ClassId) (dI : Nat → Nat → Nat) (cI cC cZ : ClassId) (sa : Nat → Nat) (ad : Nat → Nat) (mb : BT) (mo : OT) (mn : NT) (mg : GT) (mf : AR) (mt : TT) (mz : AR) (ml : LT) (mi : IT) (x1 : Int32) {res : Int32} (hM : M_X9_cell mb x1 = some res) : CTi l (dC, dI) [(cI, .int), (cC, .char), (cZ, .boolean)] sa yX9_cell wsX9_cell (rmd 3) [.ref (ad 0), .int x1] (wM cI cZ ad mb mo mn mg mf mt mz ml mi) (fun (_ : Unit) => (wM cI cZ ad mb mo mn mg mf mt mz ml mi)) (res, ()) := by
  refine CTi.enter (own := RX9) (cc := cX9_cell) (maxL := 2) (ret := (some .int)) (by decide) rfl rfl (Nat.le_of_ble_eq_true rfl) ?_
  intro pr e s m below meth c A F hr hlk hP hS ls hl
  obtain ⟨⟨hx, hb, hml, hown, hts⟩, hK, hDD, hA, hKC⟩ := id F
  have hl : lv_has ls 2 [(0, .ref (ad 0)), (1, .int x1)] := hl
  have hP : va_P (dC, dI) vwCl (wM cI cZ ad mb mo mn mg mf mt mz ml mi) s.heap := hP
  unfold M_X9_cell at hM
  refine lv_aload_n hx hb dX9_cell_0 rfl (lv_at hl 0 rfl) ?_
  refine lv_iload_n hx hb dX9_cell_1 rfl (lv_at hl 1 rfl) ?_
  obtain ⟨z2, hcr, hM⟩ := ob_s hM
  refine res_i0 F hP hS rfl [0, 1, 2, 3, 4, 5, 6, 7, 8, 9, 10, 11, 12] rfl rfl (runV_of (n := 1) (As := [.int x1]) (rest := []) F hP hS rfl [0, 1, 2, 3, 4, 5, 6, 7, 8, 9, 10, 11, 12] rfl rfl (c_X9_isCell l dC dI cI cC cZ sa ad mb mo mn mg mf mt mz ml mi x1 hcr _) gX9_cell_X9_isCell rfl (by decide +kernel) ⟨Nat.le_of_ble_eq_true rfl, Nat.le_of_ble_eq_true rfl⟩ 0 9 rfl rfl rfl hl.1 rfl (Nat.le_of_ble_eq_true rfl) dX9_cell_2 ⟨Nat.zero_le _, Nat.zero_le _⟩) (fun H locs hP hS => ?_)
  refine lv_if_eq (tgt := 17) hx hb dX9_cell_5 (by decide) (fun hc => ?_) (fun hc => ?_)
  · have hM := if_pp hc hM
    refine lv_iconst (v := -1) hx hb dX9_cell_17 (by decide) ?_
    exact ret_i hx hb hr hlk dX9_cell_18 (some_u hM) hP hS
  · have hM := if_nn hc hM
    refine lv_aload_n hx hb dX9_cell_8 rfl (lv_at hl 0 rfl) ?_
    refine g_get (ci := 9) (C := RX9) (T := TX9) (N := 32) (v := .ref (ad 1)) F hP 0 rfl rfl inX9_cell_X9 2 (by decide) (List.mem_of_getElem? (i := 1) rfl) rfl dX9_cell_9 ?_
    refine lv_iload_n hx hb dX9_cell_12 rfl (lv_at hl 1 rfl) ?_
    obtain ⟨hin, hM⟩ := if_ok hM
    refine va_iald hx hb hK hP 1 0 rfl rfl hin dX9_cell_13 ?_
    refine lv_goto (tgt := 18) hx hb dX9_cell_14 (by decide) ?_
    exact ret_i hx hb hr hlk dX9_cell_18 (some_u hM) hP hS
set_option maxHeartbeats 4000000 in
set_option maxRecDepth 100000 in
theorem c_X9_codeOf (l : Launch) (dC : Nat → ClassId) (dI : Nat → Nat → Nat) (cI cC cZ : ClassId) (sa : Nat → Nat)  (x1 : Int32) {res : Int32} (hM : M_X9_codeOf x1 = some res) : CTi l (dC, dI) [(cI, .int), (cC, .char), (cZ, .boolean)] sa yX9_codeOf wsX9_codeOf (rmd 1) [.int x1] ([] : va_W) (fun (_ : Unit) => ([] : va_W)) (res, ()) := by
  refine CTi.enter (own := RX9) (cc := cX9_codeOf) (maxL := 1) (ret := (some .int)) (by decide) rfl rfl (Nat.le_of_ble_eq_true rfl) ?_
  intro pr e s m below meth c A F hr hlk hP hS ls hl
  obtain ⟨⟨hx, hb, hml, hown, hts⟩, hK, hDD, hA, hKC⟩ := id F
  have hl : lv_has ls 1 [(0, .int x1)] := hl
  have hP : va_P (dC, dI) vwCl ([] : va_W) s.heap := hP
  unfold M_X9_codeOf at hM
  refine lv_iload_n hx hb dX9_codeOf_0 rfl (lv_at hl 0 rfl) ?_
  refine lv_if_ne (tgt := 9) hx hb dX9_codeOf_1 (by decide) (fun hc => ?_) (fun hc => ?_)
  · have hM := if_nn hc hM
    refine lv_iload_n hx hb dX9_codeOf_9 rfl (lv_at hl 0 rfl) ?_
    refine lv_iconst (v := 1) hx hb dX9_codeOf_10 (by decide) ?_
    refine lv_icmp_ne (tgt := 19) hx hb dX9_codeOf_11 (by decide) (fun hc => ?_) (fun hc => ?_)
    · have hM := if_nn hc hM
      refine lv_iload_n hx hb dX9_codeOf_19 rfl (lv_at hl 0 rfl) ?_
      refine lv_iconst (v := 2) hx hb dX9_codeOf_20 (by decide) ?_
      refine lv_icmp_ne (tgt := 29) hx hb dX9_codeOf_21 (by decide) (fun hc => ?_) (fun hc => ?_)
      · have hM := if_nn hc hM
        refine lv_bipush (v := 119) hx hb dX9_codeOf_29 (by decide) ?_
        exact ret_i hx hb hr hlk dX9_codeOf_31 (some_u hM) hP hS
      · have hM := if_pp hc hM
        refine lv_bipush (v := 115) hx hb dX9_codeOf_24 (by decide) ?_
        refine lv_goto (tgt := 31) hx hb dX9_codeOf_26 (by decide) ?_
        exact ret_i hx hb hr hlk dX9_codeOf_31 (some_u hM) hP hS
    · have hM := if_pp hc hM
      refine lv_bipush (v := 101) hx hb dX9_codeOf_14 (by decide) ?_
      refine lv_goto (tgt := 31) hx hb dX9_codeOf_16 (by decide) ?_
      exact ret_i hx hb hr hlk dX9_codeOf_31 (some_u hM) hP hS
  · have hM := if_pp hc hM
    refine lv_bipush (v := 110) hx hb dX9_codeOf_4 (by decide) ?_
    refine lv_goto (tgt := 31) hx hb dX9_codeOf_6 (by decide) ?_
    exact ret_i hx hb hr hlk dX9_codeOf_31 (some_u hM) hP hS
theorem inX9_dismiss_X9 : ∀ w ∈ wsX90, w ∈ wsX9_dismiss := fun w h => List.mem_cons_of_mem _ (List.mem_append_right _ h)
set_option maxHeartbeats 4000000 in
set_option maxRecDepth 100000 in
theorem c_X9_dismiss (l : Launch) (dC : Nat → ClassId) (dI : Nat → Nat → Nat) (cI cC cZ : ClassId) (sa : Nat → Nat) (ad : Nat → Nat) (mb : BT) (mo : OT) (mn : NT) (mg : GT) (mf : AR) (mt : TT) (mz : AR) (ml : LT) (mi : IT)  {res : Int32 × BT} (hM : M_X9_dismiss mb = some res) : CTi l (dC, dI) [(cI, .int), (cC, .char), (cZ, .boolean)] sa yX9_dismiss wsX9_dismiss (rmd 1) [.ref (ad 0)] (wM cI cZ ad mb mo mn mg mf mt mz ml mi) (fun (uu : BT) => (wM cI cZ ad uu mo mn mg mf mt mz ml mi)) res := by
  refine CTi.enter (own := RX9) (cc := cX9_dismiss) (maxL := 2) (ret := (some .int)) (by decide) rfl rfl (Nat.le_of_ble_eq_true rfl) ?_
  intro pr e s m below meth c A F hr hlk hP hS ls hl
  obtain ⟨⟨hx, hb, hml, hown, hts⟩, hK, hDD, hA, hKC⟩ := id F
  have hl : lv_has ls 2 [(0, .ref (ad 0))] := hl
  have hP : va_P (dC, dI) vwCl (wM cI cZ ad mb mo mn mg mf mt mz ml mi) s.heap := hP
  unfold M_X9_dismiss at hM
  refine lv_aload_n hx hb dX9_dismiss_0 rfl (lv_at hl 0 rfl) ?_
  refine g_get (ci := 9) (C := RX9) (T := TX9) (N := 32) (v := .int mb.2.2.2.2.1) F hP 0 rfl rfl inX9_dismiss_X9 8 (by decide) (List.mem_of_getElem? (i := 1) rfl) rfl dX9_dismiss_1 ?_
  refine lv_istore_n (lv' := [(1, .int mb.2.2.2.2.1), (0, .ref (ad 0))]) hx hb dX9_dismiss_4 rfl hl (by decide) rfl (fun ls hl => ?_)
  refine lv_aload_n hx hb dX9_dismiss_5 rfl (lv_at hl 1 rfl) ?_
  refine lv_iconst (v := 0) hx hb dX9_dismiss_6 (by decide) ?_
  refine g_put (ws' := (wM cI cZ ad (mb.1, mb.2.1, mb.2.2.1, mb.2.2.2.1, (0 : Int32), mb.2.2.2.2.2.1, mb.2.2.2.2.2.2.1, mb.2.2.2.2.2.2.2.1, mb.2.2.2.2.2.2.2.2.1, mb.2.2.2.2.2.2.2.2.2) mo mn mg mf mt mz ml mi)) (ci := 9) (C := RX9) (T := TX9) (N := 32) (v := .int (0 : Int32)) (ty := .int) F hP hS rfl tyX9 tyX9_ok nmX9 0 rfl rfl inX9_dismiss_X9 8 (by decide) (List.mem_of_getElem? (i := 1) rfl) rfl (by decide +kernel) rfl rfl (Nat.le_of_ble_eq_true rfl) dX9_dismiss_7 rfl (fun H locs hP hS => ?_)
  refine lv_iload_n hx hb dX9_dismiss_10 rfl (lv_at hl 0 rfl) ?_
  exact ret_i hx hb hr hlk dX9_dismiss_11 hM hP hS
theorem inX9_ears_X9 : ∀ w ∈ wsX90, w ∈ wsX9_ears := fun w h => List.mem_cons_of_mem _ (List.mem_append_right _ h)
set_option maxHeartbeats 4000000 in
set_option maxRecDepth 100000 in
theorem c_X9_ears (l : Launch) (dC : Nat → ClassId) (dI : Nat → Nat → Nat) (cI cC cZ : ClassId) (sa : Nat → Nat) (ad : Nat → Nat) (mb : BT) (mo : OT) (mn : NT) (mg : GT) (mf : AR) (mt : TT) (mz : AR) (ml : LT) (mi : IT) (x1 : Int32) {res : Int32 × BT} (hM : M_X9_ears mb x1 = some res) : CTi l (dC, dI) [(cI, .int), (cC, .char), (cZ, .boolean)] sa yX9_ears wsX9_ears (rmd 2) [.ref (ad 0), .int x1] (wM cI cZ ad mb mo mn mg mf mt mz ml mi) (fun (uu : BT) => (wM cI cZ ad uu mo mn mg mf mt mz ml mi)) res := by
  refine CTi.enter (own := RX9) (cc := cX9_ears) (maxL := 3) (ret := (some .int)) (by decide) rfl rfl (Nat.le_of_ble_eq_true rfl) ?_
  intro pr e s m below meth c A F hr hlk hP hS ls hl
  obtain ⟨⟨hx, hb, hml, hown, hts⟩, hK, hDD, hA, hKC⟩ := id F
  have hl : lv_has ls 3 [(0, .ref (ad 0)), (1, .int x1)] := hl
  have hP : va_P (dC, dI) vwCl (wM cI cZ ad mb mo mn mg mf mt mz ml mi) s.heap := hP
  unfold M_X9_ears at hM
  refine lv_iload_n hx hb dX9_ears_0 rfl (lv_at hl 1 rfl) ?_
  refine lv_i2l (v := x1.toInt64) hx hb dX9_ears_1 rfl ?_
  refine lv_lconst (v := 0) hx hb dX9_ears_2 (by decide) ?_
  refine lv_ldc2 (v := 6) hx hb hown (hts _ (List.mem_of_getElem? (i := 1) rfl)) dX9_ears_3 ?_
  obtain ⟨z6, hcr, hM⟩ := ob_s hM
  refine res_i0 F hP hS rfl [] rfl rfl (runS_of (n := 3) (As := [.long x1.toInt64, .long (0 : Int64), .long (6 : Int64)]) (rest := []) F hP hS rfl [] rfl rfl (c_X9_in l dC dI cI cC cZ sa x1.toInt64 (0 : Int64) (6 : Int64) hcr _) gX9_ears_X9_in rfl (by decide +kernel) ⟨Nat.le_of_ble_eq_true rfl, Nat.le_of_ble_eq_true rfl⟩ rfl hl.1 rfl (Nat.le_of_ble_eq_true rfl) dX9_ears_6 ⟨Nat.zero_le _, Nat.zero_le _⟩) (fun H locs hP hS => ?_)
  refine lv_if_ne (tgt := 15) hx hb dX9_ears_9 (by decide) (fun hc => ?_) (fun hc => ?_)
  · have hM := if_nn hc hM
    refine lv_aload_n hx hb dX9_ears_15 rfl (lv_at hl 0 rfl) ?_
    refine g_get (ci := 9) (C := RX9) (T := TX9) (N := 32) (v := .int mb.2.2.2.2.2.1) F hP 0 rfl rfl inX9_ears_X9 9 (by decide) (List.mem_of_getElem? (i := 2) rfl) rfl dX9_ears_16 ?_
    refine lv_istore_n (lv' := [(2, .int mb.2.2.2.2.2.1), (0, .ref (ad 0)), (1, .int x1)]) hx hb dX9_ears_19 rfl hl (by decide) rfl (fun ls hl => ?_)
    refine lv_aload_n hx hb dX9_ears_20 rfl (lv_at hl 1 rfl) ?_
    refine lv_iload_n hx hb dX9_ears_21 rfl (lv_at hl 2 rfl) ?_
    refine g_put (ws' := (wM cI cZ ad (mb.1, mb.2.1, mb.2.2.1, mb.2.2.2.1, mb.2.2.2.2.1, x1, mb.2.2.2.2.2.2.1, mb.2.2.2.2.2.2.2.1, mb.2.2.2.2.2.2.2.2.1, mb.2.2.2.2.2.2.2.2.2) mo mn mg mf mt mz ml mi)) (ci := 9) (C := RX9) (T := TX9) (N := 32) (v := .int x1) (ty := .int) F hP hS rfl tyX9 tyX9_ok nmX9 0 rfl rfl inX9_ears_X9 9 (by decide) (List.mem_of_getElem? (i := 2) rfl) rfl (by decide +kernel) rfl rfl (Nat.le_of_ble_eq_true rfl) dX9_ears_22 rfl (fun H locs hP hS => ?_)
    refine lv_iload_n hx hb dX9_ears_25 rfl (lv_at hl 0 rfl) ?_
    exact ret_i hx hb hr hlk dX9_ears_26 hM hP hS
  · have hM := if_pp hc hM
    refine lv_bipush (v := -2) hx hb dX9_ears_12 (by decide) ?_
    exact ret_i hx hb hr hlk dX9_ears_14 hM hP hS
