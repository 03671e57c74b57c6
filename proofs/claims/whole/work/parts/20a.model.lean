/-! Walks, printed by wip/whole/gen.py -/
theorem inX9_apart_X9 : ∀ w ∈ wsX90, w ∈ wsX9_apart := fun w h => List.mem_cons_of_mem _ (List.mem_append_right _ h)
set_option maxHeartbeats 4000000 in
set_option maxRecDepth 100000 in
theorem c_X9_apart (l : Launch) (dC : Nat → ClassId) (dI : Nat → Nat → Nat) (cI cC cZ : ClassId) (sa : Nat → Nat) (ad : Nat → Nat) (mb : BT) (mo : OT) (mn : NT) (mg : GT) (mf : AR) (mt : TT) (mz : AR) (ml : LT) (mi : IT) (x1 : Int32) (x2 : Int32) {res : Int32} (hM : M_X9_apart mb x1 x2 = some res) : CTi l (dC, dI) [(cI, .int), (cC, .char), (cZ, .boolean)] sa yX9_apart wsX9_apart (rmd 1) [.ref (ad 0), .int x1, .int x2] (wM cI cZ ad mb mo mn mg mf mt mz ml mi) (fun (_ : Unit) => (wM cI cZ ad mb mo mn mg mf mt mz ml mi)) (res, ()) := by
  refine CTi.enter (own := RX9) (cc := cX9_apart) (maxL := 5) (ret := (some .int)) (by decide) rfl rfl (Nat.le_of_ble_eq_true rfl) ?_
  intro pr e s m below meth c A F hr hlk hP hS ls hl
  obtain ⟨⟨hx, hb, hml, hown, hts⟩, hK, hDD, hA, hKC⟩ := id F
  have hl : lv_has ls 5 [(0, .ref (ad 0)), (1, .int x1), (2, .int x2)] := hl
  have hP : va_P (dC, dI) vwCl (wM cI cZ ad mb mo mn mg mf mt mz ml mi) s.heap := hP
  unfold M_X9_apart at hM
  refine kblk (α := Int32 × Int32) (res := res) (fun a => M_X9_apart_52 mb x1 x2 a) F (fun a => (wM cI cZ ad mb mo mn mg mf mt mz ml mi)) (fun a => [(0, .ref (ad 0))]) (fun a => [.int a.1, .int a.2]) 52 ?_ (fun j52 => ?_)
  · intro a52 H locs ls hP hS hl hM
    unfold M_X9_apart_52 at hM
    refine lv_iadd hx hb dX9_apart_52 ?_
    exact ret_i hx hb hr hlk dX9_apart_53 (some_u hM) hP hS
  refine kblk (α := Int32 × Int32) (res := res) (fun a => M_X9_apart_39 mb x1 x2 a) F (fun a => (wM cI cZ ad mb mo mn mg mf mt mz ml mi)) (fun a => [(0, .ref (ad 0)), (4, .int a.1)]) (fun a => [.int a.2]) 39 ?_ (fun j39 => ?_)
  · intro a39 H locs ls hP hS hl hM
    unfold M_X9_apart_39 at hM
    refine lv_iload hx hb dX9_apart_39 (lv_at hl 1 rfl) ?_
    refine lv_if_ge (tgt := 50) hx hb dX9_apart_41 (by decide) (fun hc => ?_) (fun hc => ?_)
    · have hM := if_pp hc hM
      refine lv_iload hx hb dX9_apart_50 (lv_at hl 1 rfl) ?_
      exact j52 (a39.1, a39.2) _ _ _ hP hS (lv_sub hl [0] rfl) hM
    · have hM := if_nn hc hM
      refine lv_iload hx hb dX9_apart_44 (lv_at hl 1 rfl) ?_
      refine lv_ineg hx hb dX9_apart_46 ?_
      refine lv_goto (tgt := 52) hx hb dX9_apart_47 (by decide) ?_
      exact j52 ((-a39.1), a39.2) _ _ _ hP hS (lv_sub hl [0] rfl) hM
  refine lv_iload_n hx hb dX9_apart_0 rfl (lv_at hl 1 rfl) ?_
  refine lv_aload_n hx hb dX9_apart_1 rfl (lv_at hl 0 rfl) ?_
  refine g_get (ci := 9) (C := RX9) (T := TX9) (N := 32) (v := .int mb.2.1) F hP 0 rfl rfl inX9_apart_X9 1 (by decide) (List.mem_of_getElem? (i := 1) rfl) rfl dX9_apart_2 ?_
  obtain ⟨hne, hM⟩ := if_ok hM
  refine lv_idiv hx hb dX9_apart_5 hne ?_
  refine lv_iload_n hx hb dX9_apart_6 rfl (lv_at hl 2 rfl) ?_
  refine lv_aload_n hx hb dX9_apart_7 rfl (lv_at hl 0 rfl) ?_
  refine g_get (ci := 9) (C := RX9) (T := TX9) (N := 32) (v := .int mb.2.1) F hP 0 rfl rfl inX9_apart_X9 1 (by decide) (List.mem_of_getElem? (i := 1) rfl) rfl dX9_apart_8 ?_
  obtain ⟨hne, hM⟩ := if_ok hM
  refine lv_idiv hx hb dX9_apart_11 hne ?_
  refine lv_isub hx hb dX9_apart_12 ?_
  refine lv_istore_n (lv' := [(3, .int ((x1 / mb.2.1) - (x2 / mb.2.1))), (0, .ref (ad 0)), (1, .int x1), (2, .int x2)]) hx hb dX9_apart_13 rfl hl (by decide) rfl (fun ls hl => ?_)
  refine lv_iload_n hx hb dX9_apart_14 rfl (lv_at hl 2 rfl) ?_
  refine lv_aload_n hx hb dX9_apart_15 rfl (lv_at hl 1 rfl) ?_
  refine g_get (ci := 9) (C := RX9) (T := TX9) (N := 32) (v := .int mb.2.1) F hP 0 rfl rfl inX9_apart_X9 1 (by decide) (List.mem_of_getElem? (i := 1) rfl) rfl dX9_apart_16 ?_
  obtain ⟨hne, hM⟩ := if_ok hM
  refine lv_irem hx hb dX9_apart_19 hne ?_
  refine lv_iload_n hx hb dX9_apart_20 rfl (lv_at hl 3 rfl) ?_
  refine lv_aload_n hx hb dX9_apart_21 rfl (lv_at hl 1 rfl) ?_
  refine g_get (ci := 9) (C := RX9) (T := TX9) (N := 32) (v := .int mb.2.1) F hP 0 rfl rfl inX9_apart_X9 1 (by decide) (List.mem_of_getElem? (i := 1) rfl) rfl dX9_apart_22 ?_
  obtain ⟨hne, hM⟩ := if_ok hM
  refine lv_irem hx hb dX9_apart_25 hne ?_
  refine lv_isub hx hb dX9_apart_26 ?_
  refine lv_istore (lv' := [(4, .int ((x1 - x1 / mb.2.1 * mb.2.1) - (x2 - x2 / mb.2.1 * mb.2.1))), (3, .int ((x1 / mb.2.1) - (x2 / mb.2.1))), (0, .ref (ad 0)), (1, .int x1), (2, .int x2)]) hx hb dX9_apart_27 hl (by decide) rfl (fun ls hl => ?_)
  refine lv_iload_n hx hb dX9_apart_29 rfl (lv_at hl 1 rfl) ?_
  refine lv_if_ge (tgt := 38) hx hb dX9_apart_30 (by decide) (fun hc => ?_) (fun hc => ?_)
  · have hM := if_pp hc hM
    refine lv_iload_n hx hb dX9_apart_38 rfl (lv_at hl 1 rfl) ?_
    exact j39 (((x1 - x1 / mb.2.1 * mb.2.1) - (x2 - x2 / mb.2.1 * mb.2.1)), ((x1 / mb.2.1) - (x2 / mb.2.1))) _ _ _ hP hS (lv_sub hl [2, 0] rfl) hM
  · have hM := if_nn hc hM
    refine lv_iload_n hx hb dX9_apart_33 rfl (lv_at hl 1 rfl) ?_
    refine lv_ineg hx hb dX9_apart_34 ?_
    refine lv_goto (tgt := 39) hx hb dX9_apart_35 (by decide) ?_
    exact j39 (((x1 - x1 / mb.2.1 * mb.2.1) - (x2 - x2 / mb.2.1 * mb.2.1)), (-((x1 / mb.2.1) - (x2 / mb.2.1)))) _ _ _ hP hS (lv_sub hl [2, 0] rfl) hM
theorem inX9_arrive_X9 : ∀ w ∈ wsX90, w ∈ wsX9_arrive := fun w h => List.mem_cons_of_mem _ (List.mem_append_right _ h)
set_option maxHeartbeats 4000000 in
set_option maxRecDepth 100000 in
theorem c_X9_arrive (l : Launch) (dC : Nat → ClassId) (dI : Nat → Nat → Nat) (cI cC cZ : ClassId) (sa : Nat → Nat) (ad : Nat → Nat) (mb : BT) (mo : OT) (mn : NT) (mg : GT) (mf : AR) (mt : TT) (mz : AR) (ml : LT) (mi : IT) (x1 : Int32) {res : NT} (hM : M_X9_arrive mb mn x1 = some res) : CTv l (dC, dI) [(cI, .int), (cC, .char), (cZ, .boolean)] sa yX9_arrive wsX9_arrive (rmd 1) [.ref (ad 0), .int x1] (wM cI cZ ad mb mo mn mg mf mt mz ml mi) (fun (uu : NT) => (wM cI cZ ad mb mo uu mg mf mt mz ml mi)) res := by
  refine CTv.enter (own := RX9) (cc := cX9_arrive) (maxL := 2) (ret := none) (by decide) rfl rfl (Nat.le_of_ble_eq_true rfl) ?_
  intro pr e s m below meth c A F hr hlk hP hS ls hl
  obtain ⟨⟨hx, hb, hml, hown, hts⟩, hK, hDD, hA, hKC⟩ := id F
  have hl : lv_has ls 2 [(0, .ref (ad 0)), (1, .int x1)] := hl
  have hP : va_P (dC, dI) vwCl (wM cI cZ ad mb mo mn mg mf mt mz ml mi) s.heap := hP
  unfold M_X9_arrive at hM
  refine kblk (α := NT × Int32 × Int32) (res := res) (fun a => M_X9_arrive_40 mb x1 a) F (fun a => (wM cI cZ ad mb mo a.1 mg mf mt mz ml mi)) (fun a => [(0, .ref (ad 0))]) (fun a => [.int a.2.1, .int a.2.2, .ref (ad 0)]) 40 ?_ (fun j40 => ?_)
  · intro a40 H locs ls hP hS hl hM
    unfold M_X9_arrive_40 at hM
    refine lv_ior hx hb dX9_arrive_40 ?_
    refine g_put (ws' := (wM cI cZ ad mb mo (a40.1.1, a40.1.2.1, (a40.2.2 ||| a40.2.1), a40.1.2.2.2) mg mf mt mz ml mi)) (ci := 9) (C := RX9) (T := TX9) (N := 32) (v := .int (a40.2.2 ||| a40.2.1)) (ty := .int) F hP hS rfl tyX9 tyX9_ok nmX9 0 rfl rfl inX9_arrive_X9 14 (by decide) (List.mem_of_getElem? (i := 3) rfl) rfl (by decide +kernel) rfl rfl (Nat.le_of_ble_eq_true rfl) dX9_arrive_41 rfl (fun H locs hP hS => ?_)
    exact ret_v hx hb hr hlk dX9_arrive_44 hM hP hS
  refine lv_aload_n hx hb dX9_arrive_0 rfl (lv_at hl 0 rfl) ?_
  refine lv_iload_n hx hb dX9_arrive_1 rfl (lv_at hl 1 rfl) ?_
  refine g_put (ws' := (wM cI cZ ad mb mo (x1, mn.2.1, mn.2.2.1, mn.2.2.2) mg mf mt mz ml mi)) (ci := 9) (C := RX9) (T := TX9) (N := 32) (v := .int x1) (ty := .int) F hP hS rfl tyX9 tyX9_ok nmX9 0 rfl rfl inX9_arrive_X9 12 (by decide) (List.mem_of_getElem? (i := 1) rfl) rfl (by decide +kernel) rfl rfl (Nat.le_of_ble_eq_true rfl) dX9_arrive_2 rfl (fun H locs hP hS => ?_)
  refine lv_aload_n hx hb dX9_arrive_5 rfl (lv_at hl 0 rfl) ?_
  refine lv_dup hx hb dX9_arrive_6 rfl ?_
  refine g_get (ci := 9) (C := RX9) (T := TX9) (N := 32) (v := .int mn.2.2.2) F hP 0 rfl rfl inX9_arrive_X9 15 (by decide) (List.mem_of_getElem? (i := 2) rfl) rfl dX9_arrive_7 ?_
  refine lv_iconst (v := 1) hx hb dX9_arrive_10 (by decide) ?_
  refine lv_iload_n hx hb dX9_arrive_11 rfl (lv_at hl 1 rfl) ?_
  refine lv_ishl hx hb dX9_arrive_12 ?_
  refine lv_ior hx hb dX9_arrive_13 ?_
  refine g_put (ws' := (wM cI cZ ad mb mo (x1, mn.2.1, mn.2.2.1, (mn.2.2.2 ||| ((1 : Int32) <<< (x1 &&& 31)))) mg mf mt mz ml mi)) (ci := 9) (C := RX9) (T := TX9) (N := 32) (v := .int (mn.2.2.2 ||| ((1 : Int32) <<< (x1 &&& 31)))) (ty := .int) F hP hS rfl tyX9 tyX9_ok nmX9 0 rfl rfl inX9_arrive_X9 15 (by decide) (List.mem_of_getElem? (i := 2) rfl) rfl (by decide +kernel) rfl rfl (Nat.le_of_ble_eq_true rfl) dX9_arrive_14 rfl (fun H locs hP hS => ?_)
  refine lv_aload_n hx hb dX9_arrive_17 rfl (lv_at hl 0 rfl) ?_
  refine lv_dup hx hb dX9_arrive_18 rfl ?_
  refine g_get (ci := 9) (C := RX9) (T := TX9) (N := 32) (v := .int mn.2.2.1) F hP 0 rfl rfl inX9_arrive_X9 14 (by decide) (List.mem_of_getElem? (i := 3) rfl) rfl dX9_arrive_19 ?_
  refine lv_aload_n hx hb dX9_arrive_22 rfl (lv_at hl 0 rfl) ?_
  refine g_get (ci := 9) (C := RX9) (T := TX9) (N := 32) (v := .ref (ad 1)) F hP 0 rfl rfl inX9_arrive_X9 2 (by decide) (List.mem_of_getElem? (i := 4) rfl) rfl dX9_arrive_23 ?_
  refine lv_iload_n hx hb dX9_arrive_26 rfl (lv_at hl 1 rfl) ?_
  obtain ⟨hin, hM⟩ := if_ok hM
  refine va_iald hx hb hK hP 1 0 rfl rfl hin dX9_arrive_27 ?_
  refine lv_bipush (v := 100) hx hb dX9_arrive_28 (by decide) ?_
  refine lv_icmp_ne (tgt := 39) hx hb dX9_arrive_30 (by decide) (fun hc => ?_) (fun hc => ?_)
  · have hM := if_nn hc hM
    refine lv_iconst (v := 0) hx hb dX9_arrive_39 (by decide) ?_
    exact j40 ((x1, mn.2.1, mn.2.2.1, (mn.2.2.2 ||| ((1 : Int32) <<< (x1 &&& 31)))), (0 : Int32), mn.2.2.1) _ _ _ hP hS (lv_sub hl [0] rfl) hM
  · have hM := if_pp hc hM
    refine lv_iconst (v := 1) hx hb dX9_arrive_33 (by decide) ?_
    refine lv_iload_n hx hb dX9_arrive_34 rfl (lv_at hl 1 rfl) ?_
    refine lv_ishl hx hb dX9_arrive_35 ?_
    refine lv_goto (tgt := 40) hx hb dX9_arrive_36 (by decide) ?_
    exact j40 ((x1, mn.2.1, mn.2.2.1, (mn.2.2.2 ||| ((1 : Int32) <<< (x1 &&& 31)))), ((1 : Int32) <<< (x1 &&& 31)), mn.2.2.1) _ _ _ hP hS (lv_sub hl [0] rfl) hM
theorem inX9_cells_X9 : ∀ w ∈ wsX90, w ∈ wsX9_cells := fun w h => List.mem_cons_of_mem _ (List.mem_append_right _ h)
set_option maxHeartbeats 4000000 in
set_option maxRecDepth 100000 in
theorem c_X9_cells (l : Launch) (dC : Nat → ClassId) (dI : Nat → Nat → Nat) (cI cC cZ : ClassId) (sa : Nat → Nat) (ad : Nat → Nat) (mb : BT) (mo : OT) (mn : NT) (mg : GT) (mf : AR) (mt : TT) (mz : AR) (ml : LT) (mi : IT)  {res : Int32} (hM : M_X9_cells mb = some res) : CTi l (dC, dI) [(cI, .int), (cC, .char), (cZ, .boolean)] sa yX9_cells wsX9_cells (rmd 1) [.ref (ad 0)] (wM cI cZ ad mb mo mn mg mf mt mz ml mi) (fun (_ : Unit) => (wM cI cZ ad mb mo mn mg mf mt mz ml mi)) (res, ()) := by
  refine CTi.enter (own := RX9) (cc := cX9_cells) (maxL := 1) (ret := (some .int)) (by decide) rfl rfl (Nat.le_of_ble_eq_true rfl) ?_
  intro pr e s m below meth c A F hr hlk hP hS ls hl
  obtain ⟨⟨hx, hb, hml, hown, hts⟩, hK, hDD, hA, hKC⟩ := id F
  have hl : lv_has ls 1 [(0, .ref (ad 0))] := hl
  have hP : va_P (dC, dI) vwCl (wM cI cZ ad mb mo mn mg mf mt mz ml mi) s.heap := hP
  unfold M_X9_cells at hM
  refine lv_aload_n hx hb dX9_cells_0 rfl (lv_at hl 0 rfl) ?_
  refine g_get (ci := 9) (C := RX9) (T := TX9) (N := 32) (v := .int mb.1) F hP 0 rfl rfl inX9_cells_X9 0 (by decide) (List.mem_of_getElem? (i := 1) rfl) rfl dX9_cells_1 ?_
  refine lv_aload_n hx hb dX9_cells_4 rfl (lv_at hl 0 rfl) ?_
  refine g_get (ci := 9) (C := RX9) (T := TX9) (N := 32) (v := .int mb.2.1) F hP 0 rfl rfl inX9_cells_X9 1 (by decide) (List.mem_of_getElem? (i := 2) rfl) rfl dX9_cells_5 ?_
  refine lv_imul hx hb dX9_cells_8 ?_
  exact ret_i hx hb hr hlk dX9_cells_9 (some_u hM) hP hS
theorem inX9_isWall_X9 : ∀ w ∈ wsX90, w ∈ wsX9_isWall := fun w h => List.mem_cons_of_mem _ (List.mem_append_right _ h)
set_option maxHeartbeats 4000000 in
set_option maxRecDepth 100000 in
theorem c_X9_isWall (l : Launch) (dC : Nat → ClassId) (dI : Nat → Nat → Nat) (cI cC cZ : ClassId) (sa : Nat → Nat) (ad : Nat → Nat) (mb : BT) (mo : OT) (mn : NT) (mg : GT) (mf : AR) (mt : TT) (mz : AR) (ml : LT) (mi : IT) (x1 : Int32) {res : Int32} (hM : M_X9_isWall mb x1 = some res) : CTi l (dC, dI) [(cI, .int), (cC, .char), (cZ, .boolean)] sa yX9_isWall wsX9_isWall (rmd 1) [.ref (ad 0), .int x1] (wM cI cZ ad mb mo mn mg mf mt mz ml mi) (fun (_ : Unit) => (wM cI cZ ad mb mo mn mg mf mt mz ml mi)) (res, ()) := by
  refine CTi.enter (own := RX9) (cc := cX9_isWall) (maxL := 2) (ret := (some .boolean)) (by decide) rfl rfl (Nat.le_of_ble_eq_true rfl) ?_
  intro pr e s m below meth c A F hr hlk hP hS ls hl
  obtain ⟨⟨hx, hb, hml, hown, hts⟩, hK, hDD, hA, hKC⟩ := id F
  have hl : lv_has ls 2 [(0, .ref (ad 0)), (1, .int x1)] := hl
  have hP : va_P (dC, dI) vwCl (wM cI cZ ad mb mo mn mg mf mt mz ml mi) s.heap := hP
  unfold M_X9_isWall at hM
  refine lv_aload_n hx hb dX9_isWall_0 rfl (lv_at hl 0 rfl) ?_
  refine g_get (ci := 9) (C := RX9) (T := TX9) (N := 32) (v := .ref (ad 1)) F hP 0 rfl rfl inX9_isWall_X9 2 (by decide) (List.mem_of_getElem? (i := 1) rfl) rfl dX9_isWall_1 ?_
  refine lv_iload_n hx hb dX9_isWall_4 rfl (lv_at hl 1 rfl) ?_
  obtain ⟨hin, hM⟩ := if_ok hM
  refine va_iald hx hb hK hP 1 0 rfl rfl hin dX9_isWall_5 ?_
  refine lv_bipush (v := 35) hx hb dX9_isWall_6 (by decide) ?_
  refine lv_icmp_ne (tgt := 15) hx hb dX9_isWall_8 (by decide) (fun hc => ?_) (fun hc => ?_)
  · have hM := if_nn hc hM
    refine lv_iconst (v := 0) hx hb dX9_isWall_15 (by decide) ?_
    exact ret_z hx hb hr hlk dX9_isWall_16 (by decide) (some_u hM) hP hS
  · have hM := if_pp hc hM
    refine lv_iconst (v := 1) hx hb dX9_isWall_11 (by decide) ?_
    refine lv_goto (tgt := 16) hx hb dX9_isWall_12 (by decide) ?_
    exact ret_z hx hb hr hlk dX9_isWall_16 (by decide) (some_u hM) hP hS
