/-! Walks, printed by wip/whole/gen.py -/
theorem inX9_apart_X9 : ∀ w ∈ wsX90, w ∈ wsX9_apart := fun w h => List.mem_cons_of_mem _ (List.mem_append_right _ h)
set_option maxHeartbeats 4000000 in
set_option maxRecDepth 100000 in
theorem c_X9_apart (l : Launch) (dC : Nat → ClassId) (dI : Nat → Nat → Nat) (cI cC cZ : ClassId) (sa : Nat → Nat) (ad : Nat → Nat) (mb : BT) (mo : OT) (mn : NT) (mg : GT) (mf : AR) (mt : TT) (mz : AR) (ml : LT) (mi : IT) (x1 : Int32) (x2 : Int32) {res : Int32} (hM : M_X9_apart mb x1 x2 = some res) : CTi l (dC, dI) [(cI, .int), (cC, .char), (cZ, .boolean)] sa yX9_apart wsX9_apart (rmd 1) [.ref (ad 0), .int x1, .int x2] (wM cI cZ ad mb mo mn mg mf mt mz ml mi) (fun (_ : Unit) => (wM cI cZ ad mb mo mn mg mf mt mz ml mi)) (res, ()) := by
  refine CTi.enter (own := RX9) (cc := cX9_apart) (maxL := 5) (ret := (some .int)) (by decide) rfl rfl (Nat.le_of_ble_eq_true rfl) ?_
  intro pr e s m below meth c A F hr hlk hP hS ls hl
  obtain ⟨⟨hx, hb, hml, hown, hts⟩, hK, hDD, hA, hKC⟩ := id F
  have hl : lv_has ls 5 [(0, .ref (ad 0)), (1, .int x1), (2, .int x2)] := hl
  have hP : va_P (dC, dI) vwCl (wM cI cZ ad mb mo mn mg mf mt mz ml mi) s.heap := hP
  unfold M_X9_apart at hM
  refine kblk (α := Int32 × Int32) (res := res) (fun a => M_X9_apart_52 mb x1 x2 a) F (fun a => (wM cI cZ ad mb mo mn mg mf mt mz ml mi)) (fun a => [(0, .ref (ad 0))]) (fun a => [.int a.1, .int a.2]) 52 ?_ (fun j52 => ?_)
  · intro a52 H locs ls hP hS hl hM
    unfold M_X9_apart_52 at hM
    refine lv_iadd hx hb dX9_apart_52 ?_
    exact ret_i hx hb hr hlk dX9_apart_53 (some_u hM) hP hS
  refine kblk (α := Int32 × Int32) (res := res) (fun a => M_X9_apart_39 mb x1 x2 a) F (fun a => (wM cI cZ ad mb mo mn mg mf mt mz ml mi)) (fun a => [(0, .ref (ad 0)), (4, .int a.1)]) (fun a => [.int a.2]) 39 ?_ (fun j39 => ?_)
  · intro a39 H locs ls hP hS hl hM
    unfold M_X9_apart_39 at hM
    refine lv_iload hx hb dX9_apart_39 (lv_at hl 1 rfl) ?_
    refine lv_if_ge (tgt := 50) hx hb dX9_apart_41 (by decide) (fun hc => ?_) (fun hc => ?_)
    · have hM := if_pp hc hM
      refine lv_iload hx hb dX9_apart_50 (lv_at hl 1 rfl) ?_
      exact j52 (a39.1, a39.2) _ _ _ hP hS (lv_sub hl [0] rfl) hM
    · have hM := if_nn hc hM
      refine lv_iload hx hb dX9_apart_44 (lv_at hl 1 rfl) ?_
      refine lv_ineg hx hb dX9_apart_46 ?_
      refine lv_goto (tgt := 52) hx hb dX9_apart_47 (by decide) ?_
      exact j52 ((-a39.1), a39.2) _ _ _ hP hS (lv_sub hl [0] rfl) hM
  refine lv_iload_n hx hb dX9_apart_0 rfl (lv_at hl 1 rfl) ?_
  refine lv_aload_n hx hb dX9_apart_1 rfl (lv_at hl 0 rfl) ?_
  refine g_get (ci := 9) (C := RX9) (T := TX9) (N := 32) (v := .int mb.2.1) F hP 0 rfl rfl inX9_apart_X9 1 (by decide) (List.mem_of_getElem? (i := 1) rfl) rfl dX9_apart_2 ?_
  obtain ⟨hne, hM⟩ := if_ok hM
  refine lv_idiv hx hb dX9_apart_5 hne ?_
  refine lv_iload_n hx hb dX9_apart_6 rfl (lv_at hl 2 rfl) ?_
  refine lv_aload_n hx hb dX9_apart_7 rfl (lv_at hl 0 rfl) ?_
  refine g_get (ci := 9) (C := RX9) (T := TX9) (N := 32) (v := .int mb.2.1) F hP 0 rfl rfl inX9_apart_X9 1 (by decide) (List.mem_of_getElem? (i := 1) rfl) rfl dX9_apart_8 ?_
  obtain ⟨hne, hM⟩ := if_ok hM
  refine lv_idiv hx hb dX9_apart_11 hne ?_
  refine lv_isub hx hb dX9_apart_12 ?_
  refine lv_istore_n (lv' := [(3, .int ((x1 / mb.2.1) - (x2 / mb.2.1))), (0, .ref (ad 0)), (1, .int x1), (2, .int x2)]) hx hb dX9_apart_13 rfl hl (by decide) rfl (fun ls hl => ?_)
  refine lv_iload_n hx hb dX9_apart_14 rfl (lv_at hl 2 rfl) ?_
  refine lv_aload_n hx hb dX9_apart_15 rfl (lv_at hl 1 rfl) ?_
  refine g_get (ci := 9) (C := RX9) (T := TX9) (N := 32) (v := .int mb.2.1) F hP 0 rfl rfl inX9_apart_X9 1 (by decide) (List.mem_of_getElem? (i := 1) rfl) rfl dX9_apart_16 ?_
  obtain ⟨hne, hM⟩ := if_ok hM
  refine lv_irem hx hb dX9_apart_19 hne ?_
  refine lv_iload_n hx hb dX9_apart_20 rfl (lv_at hl 3 rfl) ?_
  refine lv_aload_n hx hb dX9_apart_21 rfl (lv_at hl 1 rfl) ?_
  refine g_get (ci := 9) (C := RX9) (T := TX9) (N := 32) (v := .int mb.2.1) F hP 0 rfl rfl inX9_apart_X9 1 (by decide) (List.mem_of_getElem? (i := 1) rfl) rfl dX9_apart_22 ?_
  obtain ⟨hne, hM⟩ := if_ok hM
  refine lv_irem hx hb dX9_apart_25 hne ?_
  refine lv_isub hx hb dX9_apart_26 ?_
  refine lv_istore (lv' := [(4, .int ((x1 - x1 / mb.2.1 * mb.2.1) - (x2 - x2 / mb.2.1 * mb.2.1))), (3, .int ((x1 / mb.2.1) - (x2 / mb.2.1))), (0, .ref (ad 0)), (1, .int x1), (2, .int x2)]) hx hb dX9_apart_27 hl (by decide) rfl (fun ls hl => ?_)
  refine lv_iload_n hx hb dX9_apart_29 rfl (lv_at hl 1 rfl) ?_
  refine lv_if_ge (tgt := 38) hx hb dX9_apart_30 (by decide) (fun hc => ?_) (fun hc => ?_)
  · have hM := if_pp hc hM
    refine lv_iload_n hx hb dX9_apart_38 rfl (lv_at hl 1 rfl) ?_
    exact j39 (((x1 - x1 / mb.2.1 * mb.2.1) - (x2 - x2 / mb.2.1 * mb.2.1)), ((x1 / mb.2.1) - (x2 / mb.2.1))) _ _ _ hP hS (lv_sub hl [2, 0] rfl) hM
  · have hM := if_nn hc hM
    refine lv_iload_n hx hb dX9_apart_33 rfl (lv_at hl 1 rfl) ?_
    refine lv_ineg hx hb dX9_apart_34 ?_
    refine lv_goto (tgt := 39) hx hb dX9_apart_35 (by decide) ?_
    exact j39 (((x1 - x1 / mb.2.1 * mb.2.1) - (x2 - x2 / mb.2.1 * mb.2.1)), (-((x1 / mb.2.1) - (x2 / mb.2.1)))) _ _ _ hP hS (lv_sub hl [2, 0] rfl) hM
theorem inX9_arrive_X9 : ∀ w ∈ wsX90, w ∈ wsX9_arrive := fun w h => List.mem_cons_of_mem _ (List.mem_append_right _ h)
set_option maxHeartbeats 4000000 in
set_option maxRecDepth 100000 in
theorem c_X9_arrive (l : Launch) (dC : Nat → ClassId) (dI : Nat → Nat → Nat) (cI cC cZ : ClassId) (sa : Nat → Nat) (ad : Nat → Nat) (mb : BT) (mo : OT) (mn : NT) (mg : GT) (mf : AR) (mt : TT) (mz : AR) (ml : LT) (mi : IT) (x1 : Int32) {res : NT} (hM : M_X9_arrive mb mn x1 = some res) : CTv l (dC, dI) [(cI, .int), (cC, .char), (cZ, .boolean)] sa yX9_arrive wsX9_arrive (rmd 1) [.ref (ad 0), .int x1] (wM cI cZ ad mb mo mn mg mf mt mz ml mi) (fun (uu : NT) => (wM cI cZ ad mb mo uu mg mf mt mz ml mi)) res := by
  refine CTv.enter (own := RX9) (cc := cX9_arrive) (maxL := 2) (ret := none) (by decide) rfl rfl (Nat.le_of_ble_eq_true rfl) ?_
  intro pr e s m below meth c A F hr hlk hP hS ls hl
  obtain ⟨⟨hx, hb, hml, hown, hts⟩, hK, hDD, hA, hKC⟩ := id F
  have hl : lv_has ls 2 [(0, .ref (ad 0)), (1, .int x1)] := hl
  have hP : va_P (dC, dI) vwCl (wM cI cZ ad mb mo mn mg mf mt mz ml mi) s.heap := hP
  unfold M_X9_arrive at hM
  refine kblk (α := NT × Int32 × Int32) (res := res) (fun a => M_X9_arrive_40 mb x1 a) F (fun a => (wM cI cZ ad mb mo a.1 mg mf mt mz ml mi)) (fun a => [(0, .ref (ad 0))]) (fun a => [.int a.2.1, .int a.2.2, .ref (ad 0)]) 40 ?_ (fun j40 => ?_)
  · intro a40 H locs ls hP hS hl hM
    unfold M_X9_arrive_40 at hM
    refine lv_ior hx hb dX9_arrive_40 ?_
    refine g_put (ws' := (wM cI cZ ad mb mo (a40.1.1, a40.1.2.1, (a40.2.2 ||| a40.2.1), a40.1.2.2.2) mg mf mt mz ml mi)) (ci := 9) (C := RX9) (T := TX9) (N := 32) (v := .int (a40.2.2 ||| a40.2.1)) (ty := .int) F hP hS rfl tyX9 tyX9_ok nmX9 0 rfl rfl inX9_arrive_X9 14 (by decide) (List.mem_of_getElem? (i := 3) rfl) rfl (by decide +kernel) rfl rfl (Nat.le_of_ble_eq_true rfl) dX9_arrive_41 rfl (fun H locs hP hS => ?_)
    exact ret_v hx hb hr hlk dX9_arrive_44 hM hP hS
  refine lv_aload_n hx hb dX9_arrive_0 rfl (lv_at hl 0 rfl) ?_
  refine lv_iload_n hx hb dX9_arrive_1 rfl (lv_at hl 1 rfl) ?_
  refine g_put (ws' := (wM cI cZ ad mb mo (x1, mn.2.1, mn.2.2.1, mn.2.2.2) mg mf mt mz ml mi)) (ci := 9) (C := RX9) (T := TX9) (N := 32) (v := .int x1) (ty := .int) F hP hS rfl tyX9 tyX9_ok nmX9 0 rfl rfl inX9_arrive_X9 12 (by decide) (List.mem_of_getElem? (i := 1) rfl) rfl (by decide +kernel) rfl rfl (Nat.le_of_ble_eq_true rfl) dX9_arrive_2 rfl (fun H locs hP hS => ?_)
  refine lv_aload_n hx hb dX9_arrive_5 rfl (lv_at hl 0 rfl) ?_
  refine lv_dup hx hb dX9_arrive_6 rfl ?_
  refine g_get (ci := 9) (C := RX9) (T := TX9) (N := 32) (v := .int mn.2.2.2) F hP 0 rfl rfl inX9_arrive_X9 15 (by decide) (List.mem_of_getElem? (i := 2) rfl) rfl dX9_arrive_7 ?_
  refine lv_iconst (v := 1) hx hb dX9_arrive_10 (by decide) ?_
  refine lv_iload_n hx hb dX9_arrive_11 rfl (lv_at hl 1 rfl) ?_
  refine lv_ishl hx hb dX9_arrive_12 ?_
  refine lv_ior hx hb dX9_arrive_13 ?_
  refine g_put (ws' := (wM cI cZ ad mb mo (x1, mn.2.1, mn.2.2.1, (mn.2.2.2 ||| ((1 : Int32) <<< (x1 &&& 31)))) mg mf mt mz ml mi)) (ci := 9) (C := RX9) (T := TX9) (N := 32) (v := .int (mn.2.2.2 ||| ((1 : Int32) <<< (x1 &&& 31)))) (ty := .int) F hP hS rfl tyX9 tyX9_ok nmX9 0 rfl rfl inX9_arrive_X9 15 (by decide) (List.mem_of_getElem? (i := 2) rfl) rfl (by decide +kernel) rfl rfl (Nat.le_of_ble_eq_true rfl) dX9_arrive_14 rfl (fun H locs hP hS => ?_)
  refine lv_aload_n hx hb dX9_arrive_17 rfl (lv_at hl 0 rfl) ?_
  refine lv_dup hx hb dX9_arrive_18 rfl ?_
  refine g_get (ci := 9) (C := RX9) (T := TX9) (N := 32) (v := .int mn.2.2.1) F hP 0 rfl rfl inX9_arrive_X9 14 (by decide) (List.mem_of_getElem? (i := 3) rfl) rfl dX9_arrive_19 ?_
  refine lv_aload_n hx hb dX9_arrive_22 rfl (lv_at hl 0 rfl) ?_
  refine g_get (ci := 9) (C := RX9) (T := TX9) (N := 32) (v := .ref (ad 1)) F hP 0 rfl rfl inX9_arrive_X9 2 (by decide) (List.mem_of_getElem? (i := 4) rfl) rfl dX9_arrive_23 ?_
  refine lv_iload_n hx hb dX9_arrive_26 rfl (lv_at hl 1 rfl) ?_
  obtain ⟨hin, hM⟩ := if_ok hM
  refine va_iald hx hb hK hP 1 0 rfl rfl hin dX9_arrive_27 ?_
  refine lv_bipush (v := 100) hx hb dX9_arrive_28 (by decide) ?_
  refine lv_icmp_ne (tgt := 39) hx hb dX9_arrive_30 (by decide) (fun hc => ?_) (fun hc => ?_)
  · have hM := if_nn hc hM
    refine lv_iconst (v := 0) hx hb dX9_arrive_39 (by decide) ?_
    exact j40 ((x1, mn.2.1, mn.2.2.1, (mn.2.2.2 ||| ((1 : Int32) <<< (x1 &&& 31)))), (0 : Int32), mn.2.2.1) _ _ _ hP hS (lv_sub hl [0] rfl) hM
  · have hM := if_pp hc hM
    refine lv_iconst (v := 1) hx hb dX9_arrive_33 (by decide) ?_
    refine lv_iload_n hx hb dX9_arrive_34 rfl (lv_at hl 1 rfl) ?_
    refine lv_ishl hx hb dX9_arrive_35 ?_
    refine lv_goto (tgt := 40) hx hb dX9_arrive_36 (by decide) ?_
    exact j40 ((x1, mn.2.1, mn.2.2.1, (mn.2.2.2 ||| ((1 : Int32) <<< (x1 &&& 31)))), ((1 : Int32) <<< (x1 &&& 31)), mn.2.2.1) _ _ _ hP hS (lv_sub hl [0] rfl) hM
theorem inX9_cells_X9 : ∀ w ∈ wsX90, w ∈ wsX9_cells := fun w h => List.mem_cons_of_mem _ (List.mem_append_right _ h)
set_option maxHeartbeats 4000000 in
set_option maxRecDepth 100000 in
theorem c_X9_cells (l : Launch) (dC : Nat → ClassId) (dI : Nat → Nat → Nat) (cI cC cZ : ClassId) (sa : Nat → Nat) (ad : Nat → Nat) (mb : BT) (mo : OT) (mn : NT) (mg : GT) (mf : AR) (mt : TT) (mz : AR) (ml : LT) (mi : IT)  {res : Int32} (hM : M_X9_cells mb = some res) : CTi l (dC, dI) [(cI, .int), (cC, .char), (cZ, .boolean)] sa yX9_cells wsX9_cells (rmd 1) [.ref (ad 0)] (wM cI cZ ad mb mo mn mg mf mt mz ml mi) (fun (_ : Unit) => (wM cI cZ ad mb mo mn mg mf mt mz ml mi)) (res, ()) := by
  refine CTi.enter (own := RX9) (cc := cX9_cells) (maxL := 1) (ret := (some .int)) (by decide) rfl rfl (Nat.le_of_ble_eq_true rfl) ?_
  intro pr e s m below meth c A F hr hlk hP hS ls hl
  obtain ⟨⟨hx, hb, hml, hown, hts⟩, hK, hDD, hA, hKC⟩ := id F
  have hl : lv_has ls 1 [(0, .ref (ad 0))] := hl
  have hP : va_P (dC, dI) vwCl (wM cI cZ ad mb mo mn mg mf mt mz ml mi) s.heap := hP
  unfold M_X9_cells at hM
  refine lv_aload_n hx hb dX9_cells_0 rfl (lv_at hl 0 rfl) ?_
  refine g_get (ci := 9) (C := RX9) (T := TX9) (N := 32) (v := .int mb.1) F hP 0 rfl rfl inX9_cells_X9 0 (by decide) (List.mem_of_getElem? (i := 1) rfl) rfl dX9_cells_1 ?_
  refine lv_aload_n hx hb dX9_cells_4 rfl (lv_at hl 0 rfl) ?_
  refine g_get (ci := 9) (C := RX9) (T := TX9) (N := 32) (v := .int mb.2.1) F hP 0 rfl rfl inX9_cells_X9 1 (by decide) (List.mem_of_getElem? (i := 2) rfl) rfl dX9_cells_5 ?_
  refine lv_imul hx hb dX9_cells_8 ?_
  exact ret_i hx hb hr hlk dX9_cells_9 (some_u hM) hP hS
theorem inX9_isWall_X9 : ∀ w ∈ wsX90, w ∈ wsX9_isWall := fun w h => List.mem_cons_of_mem _ (List.mem_append_right _ h)
set_option maxHeartbeats 4000000 in
set_option maxRecDepth 100000 in
theorem c_X9_isWall (l : Launch) (dC : Nat → ClassId) (dI : Nat → Nat → Nat) (cI cC cZ : ClassId) (sa : Nat → Nat) (ad : Nat → Nat) (mb : BT) (mo : OT) (mn : NT) (mg : GT) (mf : AR) (mt : TT) (mz : AR) (ml : LT) (mi : IT) (x1 : Int32) {res : Int32} (hM : M_X9_isWall mb x1 = some res) : CTi l (dC, dI) [(cI, .int), (cC, .char), (cZ, .boolean)] sa yX9_isWall wsX9_isWall (rmd 1) [.ref (ad 0), .int x1] (wM cI cZ ad mb mo mn mg mf mt mz ml mi) (fun (_ : Unit) => (wM cI cZ ad mb mo mn mg mf mt mz ml mi)) (res, ()) := by
  refine CTi.enter (own := RX9) (cc := cX9_isWall) (maxL := 2) (ret := (some .boolean)) (by decide) rfl rfl (Nat.le_of_ble_eq_true rfl) ?_
  intro pr e s m below meth c A F hr hlk hP hS ls hl
  obtain ⟨⟨hx, hb, hml, hown, hts⟩, hK, hDD, hA, hKC⟩ := id F
  have hl : lv_has ls 2 [(0, .ref (ad 0)), (1, .int x1)] := hl
  have hP : va_P (dC, dI) vwCl (wM cI cZ ad mb mo mn mg mf mt mz ml mi) s.heap := hP
  unfold M_X9_isWall at hM
  refine lv_aload_n hx hb dX9_isWall_0 rfl (lv_at hl 0 rfl) ?_
  refine g_get (ci := 9) (C := RX9) (T := TX9) (N := 32) (v := .ref (ad 1)) F hP 0 rfl rfl inX9_isWall_X9 2 (by decide) (List.mem_of_getElem? (i := 1) rfl) rfl dX9_isWall_1 ?_
  refine lv_iload_n hx hb dX9_isWall_4 rfl (lv_at hl 1 rfl) ?_
  obtain ⟨hin, hM⟩ := if_ok hM
  refine va_iald hx hb hK hP 1 0 rfl rfl hin dX9_isWall_5 ?_
  refine lv_bipush (v := 35) hx hb dX9_isWall_6 (by decide) ?_
  refine lv_icmp_ne (tgt := 15) hx hb dX9_isWall_8 (by decide) (fun hc => ?_) (fun hc => ?_)
  · have hM := if_nn hc hM
    refine lv_iconst (v := 0) hx hb dX9_isWall_15 (by decide) ?_
    exact ret_z hx hb hr hlk dX9_isWall_16 (by decide) (some_u hM) hP hS
  · have hM := if_pp hc hM
    refine lv_iconst (v := 1) hx hb dX9_isWall_11 (by decide) ?_
    refine lv_goto (tgt := 16) hx hb dX9_isWall_12 (by decide) ?_
    exact ret_z hx hb hr hlk dX9_isWall_16 (by decide) (some_u hM) hP hS
set_option maxHeartbeats 4000000 in
set_option maxRecDepth 100000 in
theorem c_X9_in (l : Launch) (dC : Nat → ClassId) (dI : Nat → Nat → Nat) (cI cC cZ : ClassId) (sa : Nat → Nat)  (x1 : Int64) (x2 : Int64) (x3 : Int64) {res : Int32} (hM : M_X9_in x1 x2 x3 = some res) : CTi l (dC, dI) [(cI, .int), (cC, .char), (cZ, .boolean)] sa yX9_in wsX9_in (rmd 1) [.long x1, .long x2, .long x3] ([] : va_W) (fun (_ : Unit) => ([] : va_W)) (res, ()) := by
  refine CTi.enter (own := RX9) (cc := cX9_in) (maxL := 6) (ret := (some .boolean)) (by decide) rfl rfl (Nat.le_of_ble_eq_true rfl) ?_
  intro pr e s m below meth c A F hr hlk hP hS ls hl
  obtain ⟨⟨hx, hb, hml, hown, hts⟩, hK, hDD, hA, hKC⟩ := id F
  have hl : lv_has ls 6 [(0, .long x1), (2, .long x2), (4, .long x3)] := hl
  have hP : va_P (dC, dI) vwCl ([] : va_W) s.heap := hP
  unfold M_X9_in at hM
  refine lv_lload_n hx hb dX9_in_0 rfl (lv_at hl 0 rfl) ?_
  refine lv_lload_n hx hb dX9_in_1 rfl (lv_at hl 1 rfl) ?_
  refine W.lcmp hx hb dX9_in_2 ?_
  refine lv_if_lt (tgt := 17) hx hb dX9_in_3 (by decide) (fun hc => ?_) (fun hc => ?_)
  · have hM := if_pp hc hM
    refine lv_iconst (v := 0) hx hb dX9_in_17 (by decide) ?_
    exact ret_z hx hb hr hlk dX9_in_18 (by decide) (some_u hM) hP hS
  · have hM := if_nn hc hM
    refine lv_lload_n hx hb dX9_in_6 rfl (lv_at hl 0 rfl) ?_
    refine lv_lload hx hb dX9_in_7 (lv_at hl 2 rfl) ?_
    refine W.lcmp hx hb dX9_in_9 ?_
    refine lv_if_gt (tgt := 17) hx hb dX9_in_10 (by decide) (fun hc => ?_) (fun hc => ?_)
    · have hM := if_pp hc hM
      refine lv_iconst (v := 0) hx hb dX9_in_17 (by decide) ?_
      exact ret_z hx hb hr hlk dX9_in_18 (by decide) (some_u hM) hP hS
    · have hM := if_nn hc hM
      refine lv_iconst (v := 1) hx hb dX9_in_13 (by decide) ?_
      refine lv_goto (tgt := 18) hx hb dX9_in_14 (by decide) ?_
      exact ret_z hx hb hr hlk dX9_in_18 (by decide) (some_u hM) hP hS
theorem inX9_beyond_X9 : ∀ w ∈ wsX90, w ∈ wsX9_beyond := fun w h => List.mem_cons_of_mem _ (List.mem_append_right _ h)
set_option maxHeartbeats 4000000 in
set_option maxRecDepth 100000 in
theorem c_X9_beyond (l : Launch) (dC : Nat → ClassId) (dI : Nat → Nat → Nat) (cI cC cZ : ClassId) (sa : Nat → Nat) (ad : Nat → Nat) (mb : BT) (mo : OT) (mn : NT) (mg : GT) (mf : AR) (mt : TT) (mz : AR) (ml : LT) (mi : IT) (x1 : Int32) (x2 : Int32) {res : Int32} (hM : M_X9_beyond mb x1 x2 = some res) : CTi l (dC, dI) [(cI, .int), (cC, .char), (cZ, .boolean)] sa yX9_beyond wsX9_beyond (rmd 2) [.ref (ad 0), .int x1, .int x2] (wM cI cZ ad mb mo mn mg mf mt mz ml mi) (fun (_ : Unit) => (wM cI cZ ad mb mo mn mg mf mt mz ml mi)) (res, ()) := by
  refine CTi.enter (own := RX9) (cc := cX9_beyond) (maxL := 6) (ret := (some .int)) (by decide) rfl rfl (Nat.le_of_ble_eq_true rfl) ?_
  intro pr e s m below meth c A F hr hlk hP hS ls hl
  obtain ⟨⟨hx, hb, hml, hown, hts⟩, hK, hDD, hA, hKC⟩ := id F
  have hl : lv_has ls 6 [(0, .ref (ad 0)), (1, .int x1), (2, .int x2)] := hl
  have hP : va_P (dC, dI) vwCl (wM cI cZ ad mb mo mn mg mf mt mz ml mi) s.heap := hP
  unfold M_X9_beyond at hM
  refine kblk (α := Int32 × Int32 × Int32) (res := res) (fun a => M_X9_beyond_92 mb x1 x2 a) F (fun a => (wM cI cZ ad mb mo mn mg mf mt mz ml mi)) (fun a => [(0, .ref (ad 0)), (3, .int a.1), (4, .int a.2.1)]) (fun a => [.int a.2.2]) 92 ?_ (fun j92 => ?_)
  · intro a92 H locs ls hP hS hl hM
    unfold M_X9_beyond_92 at hM
    refine lv_istore (lv' := [(5, .int a92.2.2), (0, .ref (ad 0)), (3, .int a92.1), (4, .int a92.2.1)]) hx hb dX9_beyond_92 hl (by decide) rfl (fun ls hl => ?_)
    refine lv_iload hx hb dX9_beyond_94 (lv_at hl 0 rfl) ?_
    refine lv_if_eq (tgt := 127) hx hb dX9_beyond_96 (by decide) (fun hc => ?_) (fun hc => ?_)
    · have hM := if_pp hc hM
      refine lv_bipush (v := -6) hx hb dX9_beyond_127 (by decide) ?_
      exact ret_i hx hb hr hlk dX9_beyond_129 (some_u hM) hP hS
    · have hM := if_nn hc hM
      refine lv_aload_n hx hb dX9_beyond_99 rfl (lv_at hl 1 rfl) ?_
      refine lv_iload_n hx hb dX9_beyond_100 rfl (lv_at hl 2 rfl) ?_
      refine lv_aload_n hx hb dX9_beyond_101 rfl (lv_at hl 1 rfl) ?_
      refine g_get (ci := 9) (C := RX9) (T := TX9) (N := 32) (v := .int mb.2.1) F hP 0 rfl rfl inX9_beyond_X9 1 (by decide) (List.mem_of_getElem? (i := 1) rfl) rfl dX9_beyond_102 ?_
      refine lv_imul hx hb dX9_beyond_105 ?_
      refine lv_iload hx hb dX9_beyond_106 (lv_at hl 3 rfl) ?_
      refine lv_iadd hx hb dX9_beyond_108 ?_
      obtain ⟨z109, hcr, hM⟩ := ob_s hM
      refine res_i0 F hP hS rfl [0, 1, 2, 3, 4, 5, 6, 7, 8, 9, 10, 11, 12] rfl rfl (runV_of (n := 1) (As := [.int ((a92.1 * mb.2.1) + a92.2.1)]) (rest := []) F hP hS rfl [0, 1, 2, 3, 4, 5, 6, 7, 8, 9, 10, 11, 12] rfl rfl (c_X9_isWall l dC dI cI cC cZ sa ad mb mo mn mg mf mt mz ml mi ((a92.1 * mb.2.1) + a92.2.1) hcr _) gX9_beyond_X9_isWall rfl (by decide +kernel) ⟨Nat.le_of_ble_eq_true rfl, Nat.le_of_ble_eq_true rfl⟩ 0 9 rfl rfl rfl hl.1 rfl (Nat.le_of_ble_eq_true rfl) dX9_beyond_109 ⟨Nat.zero_le _, Nat.zero_le _⟩) (fun H locs hP hS => ?_)
      refine lv_if_ne (tgt := 127) hx hb dX9_beyond_112 (by decide) (fun hc => ?_) (fun hc => ?_)
      · have hM := if_nn hc hM
        refine lv_bipush (v := -6) hx hb dX9_beyond_127 (by decide) ?_
        exact ret_i hx hb hr hlk dX9_beyond_129 (some_u hM) hP hS
      · have hM := if_pp hc hM
        refine lv_iload_n hx hb dX9_beyond_115 rfl (lv_at hl 2 rfl) ?_
        refine lv_aload_n hx hb dX9_beyond_116 rfl (lv_at hl 1 rfl) ?_
        refine g_get (ci := 9) (C := RX9) (T := TX9) (N := 32) (v := .int mb.2.1) F hP 0 rfl rfl inX9_beyond_X9 1 (by decide) (List.mem_of_getElem? (i := 1) rfl) rfl dX9_beyond_117 ?_
        refine lv_imul hx hb dX9_beyond_120 ?_
        refine lv_iload hx hb dX9_beyond_121 (lv_at hl 3 rfl) ?_
        refine lv_iadd hx hb dX9_beyond_123 ?_
        refine lv_goto (tgt := 129) hx hb dX9_beyond_124 (by decide) ?_
        exact ret_i hx hb hr hlk dX9_beyond_129 (some_u hM) hP hS
  refine kblk (α := Int32 × Int32) (res := res) (fun a => M_X9_beyond_91 mb x1 x2 a) F (fun a => (wM cI cZ ad mb mo mn mg mf mt mz ml mi)) (fun a => [(0, .ref (ad 0)), (3, .int a.1), (4, .int a.2)]) (fun a => []) 91 ?_ (fun j91 => ?_)
  · intro a91 H locs ls hP hS hl hM
    unfold M_X9_beyond_91 at hM
    refine lv_iconst (v := 0) hx hb dX9_beyond_91 (by decide) ?_
    exact j92 (a91.1, a91.2, (0 : Int32)) _ _ _ hP hS (lv_sub hl [0, 1, 2] rfl) hM
  refine kblk (α := Int32 × Int32 × Int32) (res := res) (fun a => M_X9_beyond_51 mb x1 x2 a) F (fun a => (wM cI cZ ad mb mo mn mg mf mt mz ml mi)) (fun a => [(0, .ref (ad 0)), (3, .int a.1)]) (fun a => [.int a.2.1, .int a.2.2]) 51 ?_ (fun j51 => ?_)
  · intro a51 H locs ls hP hS hl hM
    unfold M_X9_beyond_51 at hM
    refine lv_iadd hx hb dX9_beyond_51 ?_
    refine lv_istore (lv' := [(4, .int (a51.2.2 + a51.2.1)), (0, .ref (ad 0)), (3, .int a51.1)]) hx hb dX9_beyond_52 hl (by decide) rfl (fun ls hl => ?_)
    refine lv_iload_n hx hb dX9_beyond_54 rfl (lv_at hl 2 rfl) ?_
    refine lv_i2l (v := a51.1.toInt64) hx hb dX9_beyond_55 rfl ?_
    refine lv_lconst (v := 0) hx hb dX9_beyond_56 (by decide) ?_
    refine lv_aload_n hx hb dX9_beyond_57 rfl (lv_at hl 1 rfl) ?_
    refine g_get (ci := 9) (C := RX9) (T := TX9) (N := 32) (v := .int mb.1) F hP 0 rfl rfl inX9_beyond_X9 0 (by decide) (List.mem_of_getElem? (i := 2) rfl) rfl dX9_beyond_58 ?_
    refine lv_iconst (v := 1) hx hb dX9_beyond_61 (by decide) ?_
    refine lv_isub hx hb dX9_beyond_62 ?_
    refine lv_i2l (v := (mb.1 - (1 : Int32)).toInt64) hx hb dX9_beyond_63 rfl ?_
    obtain ⟨z64, hcr, hM⟩ := ob_s hM
    refine res_i0 F hP hS rfl [] rfl rfl (runS_of (n := 3) (As := [.long a51.1.toInt64, .long (0 : Int64), .long ((mb.1 - (1 : Int32)).toInt64)]) (rest := []) F hP hS rfl [] rfl rfl (c_X9_in l dC dI cI cC cZ sa a51.1.toInt64 (0 : Int64) ((mb.1 - (1 : Int32)).toInt64) hcr _) gX9_beyond_X9_in rfl (by decide +kernel) ⟨Nat.le_of_ble_eq_true rfl, Nat.le_of_ble_eq_true rfl⟩ rfl hl.1 rfl (Nat.le_of_ble_eq_true rfl) dX9_beyond_64 ⟨Nat.zero_le _, Nat.zero_le _⟩) (fun H locs hP hS => ?_)
    refine lv_if_eq (tgt := 91) hx hb dX9_beyond_67 (by decide) (fun hc => ?_) (fun hc => ?_)
    · have hM := if_pp hc hM
      exact j91 (a51.1, (a51.2.2 + a51.2.1)) _ _ _ hP hS (lv_sub hl [1, 2, 0] rfl) hM
    · have hM := if_nn hc hM
      refine lv_iload hx hb dX9_beyond_70 (lv_at hl 0 rfl) ?_
      refine lv_i2l (v := (a51.2.2 + a51.2.1).toInt64) hx hb dX9_beyond_72 rfl ?_
      refine lv_lconst (v := 0) hx hb dX9_beyond_73 (by decide) ?_
      refine lv_aload_n hx hb dX9_beyond_74 rfl (lv_at hl 1 rfl) ?_
      refine g_get (ci := 9) (C := RX9) (T := TX9) (N := 32) (v := .int mb.2.1) F hP 0 rfl rfl inX9_beyond_X9 1 (by decide) (List.mem_of_getElem? (i := 1) rfl) rfl dX9_beyond_75 ?_
      refine lv_iconst (v := 1) hx hb dX9_beyond_78 (by decide) ?_
      refine lv_isub hx hb dX9_beyond_79 ?_
      refine lv_i2l (v := (mb.2.1 - (1 : Int32)).toInt64) hx hb dX9_beyond_80 rfl ?_
      obtain ⟨z81, hcr, hM⟩ := ob_s hM
      refine res_i0 F hP hS rfl [] rfl rfl (runS_of (n := 3) (As := [.long ((a51.2.2 + a51.2.1).toInt64), .long (0 : Int64), .long ((mb.2.1 - (1 : Int32)).toInt64)]) (rest := []) F hP hS rfl [] rfl rfl (c_X9_in l dC dI cI cC cZ sa ((a51.2.2 + a51.2.1).toInt64) (0 : Int64) ((mb.2.1 - (1 : Int32)).toInt64) hcr _) gX9_beyond_X9_in rfl (by decide +kernel) ⟨Nat.le_of_ble_eq_true rfl, Nat.le_of_ble_eq_true rfl⟩ rfl hl.1 rfl (Nat.le_of_ble_eq_true rfl) dX9_beyond_81 ⟨Nat.zero_le _, Nat.zero_le _⟩) (fun H locs hP hS => ?_)
      refine lv_if_eq (tgt := 91) hx hb dX9_beyond_84 (by decide) (fun hc => ?_) (fun hc => ?_)
      · have hM := if_pp hc hM
        exact j91 (a51.1, (a51.2.2 + a51.2.1)) _ _ _ hP hS (lv_sub hl [1, 2, 0] rfl) hM
      · have hM := if_nn hc hM
        refine lv_iconst (v := 1) hx hb dX9_beyond_87 (by decide) ?_
        refine lv_goto (tgt := 92) hx hb dX9_beyond_88 (by decide) ?_
        exact j92 (a51.1, (a51.2.2 + a51.2.1), (1 : Int32)) _ _ _ hP hS (lv_sub hl [1, 2, 0] rfl) hM
  refine kblk (α := Int32 × Int32) (res := res) (fun a => M_X9_beyond_24 mb x1 x2 a) F (fun a => (wM cI cZ ad mb mo mn mg mf mt mz ml mi)) (fun a => [(0, .ref (ad 0)), (1, .int x1), (2, .int x2)]) (fun a => [.int a.1, .int a.2]) 24 ?_ (fun j24 => ?_)
  · intro a24 H locs ls hP hS hl hM
    unfold M_X9_beyond_24 at hM
    refine lv_iadd hx hb dX9_beyond_24 ?_
    refine lv_istore_n (lv' := [(3, .int (a24.2 + a24.1)), (0, .ref (ad 0)), (1, .int x1), (2, .int x2)]) hx hb dX9_beyond_25 rfl hl (by decide) rfl (fun ls hl => ?_)
    refine lv_iload_n hx hb dX9_beyond_26 rfl (lv_at hl 2 rfl) ?_
    refine lv_aload_n hx hb dX9_beyond_27 rfl (lv_at hl 1 rfl) ?_
    refine g_get (ci := 9) (C := RX9) (T := TX9) (N := 32) (v := .int mb.2.1) F hP 0 rfl rfl inX9_beyond_X9 1 (by decide) (List.mem_of_getElem? (i := 1) rfl) rfl dX9_beyond_28 ?_
    obtain ⟨hne, hM⟩ := if_ok hM
    refine lv_irem hx hb dX9_beyond_31 hne ?_
    refine lv_iload_n hx hb dX9_beyond_32 rfl (lv_at hl 3 rfl) ?_
    refine lv_iconst (v := 1) hx hb dX9_beyond_33 (by decide) ?_
    refine lv_icmp_ne (tgt := 41) hx hb dX9_beyond_34 (by decide) (fun hc => ?_) (fun hc => ?_)
    · have hM := if_nn hc hM
      refine lv_iload_n hx hb dX9_beyond_41 rfl (lv_at hl 3 rfl) ?_
      refine lv_iconst (v := 3) hx hb dX9_beyond_42 (by decide) ?_
      refine lv_icmp_ne (tgt := 50) hx hb dX9_beyond_43 (by decide) (fun hc => ?_) (fun hc => ?_)
      · have hM := if_nn hc hM
        refine lv_iconst (v := 0) hx hb dX9_beyond_50 (by decide) ?_
        exact j51 ((a24.2 + a24.1), (0 : Int32), (x1 - x1 / mb.2.1 * mb.2.1)) _ _ _ hP hS (lv_sub hl [1, 0] rfl) hM
      · have hM := if_pp hc hM
        refine lv_iconst (v := -1) hx hb dX9_beyond_46 (by decide) ?_
        refine lv_goto (tgt := 51) hx hb dX9_beyond_47 (by decide) ?_
        exact j51 ((a24.2 + a24.1), (-1 : Int32), (x1 - x1 / mb.2.1 * mb.2.1)) _ _ _ hP hS (lv_sub hl [1, 0] rfl) hM
    · have hM := if_pp hc hM
      refine lv_iconst (v := 1) hx hb dX9_beyond_37 (by decide) ?_
      refine lv_goto (tgt := 51) hx hb dX9_beyond_38 (by decide) ?_
      exact j51 ((a24.2 + a24.1), (1 : Int32), (x1 - x1 / mb.2.1 * mb.2.1)) _ _ _ hP hS (lv_sub hl [1, 0] rfl) hM
  refine lv_iload_n hx hb dX9_beyond_0 rfl (lv_at hl 1 rfl) ?_
  refine lv_aload_n hx hb dX9_beyond_1 rfl (lv_at hl 0 rfl) ?_
  refine g_get (ci := 9) (C := RX9) (T := TX9) (N := 32) (v := .int mb.2.1) F hP 0 rfl rfl inX9_beyond_X9 1 (by decide) (List.mem_of_getElem? (i := 1) rfl) rfl dX9_beyond_2 ?_
  obtain ⟨hne, hM⟩ := if_ok hM
  refine lv_idiv hx hb dX9_beyond_5 hne ?_
  refine lv_iload_n hx hb dX9_beyond_6 rfl (lv_at hl 2 rfl) ?_
  refine lv_if_ne (tgt := 14) hx hb dX9_beyond_7 (by decide) (fun hc => ?_) (fun hc => ?_)
  · have hM := if_nn hc hM
    refine lv_iload_n hx hb dX9_beyond_14 rfl (lv_at hl 2 rfl) ?_
    refine lv_iconst (v := 2) hx hb dX9_beyond_15 (by decide) ?_
    refine lv_icmp_ne (tgt := 23) hx hb dX9_beyond_16 (by decide) (fun hc => ?_) (fun hc => ?_)
    · have hM := if_nn hc hM
      refine lv_iconst (v := 0) hx hb dX9_beyond_23 (by decide) ?_
      exact j24 ((0 : Int32), (x1 / mb.2.1)) _ _ _ hP hS (lv_sub hl [0, 1, 2] rfl) hM
    · have hM := if_pp hc hM
      refine lv_iconst (v := 1) hx hb dX9_beyond_19 (by decide) ?_
      refine lv_goto (tgt := 24) hx hb dX9_beyond_20 (by decide) ?_
      exact j24 ((1 : Int32), (x1 / mb.2.1)) _ _ _ hP hS (lv_sub hl [0, 1, 2] rfl) hM
  · have hM := if_pp hc hM
    refine lv_iconst (v := -1) hx hb dX9_beyond_10 (by decide) ?_
    refine lv_goto (tgt := 24) hx hb dX9_beyond_11 (by decide) ?_
    exact j24 ((-1 : Int32), (x1 / mb.2.1)) _ _ _ hP hS (lv_sub hl [0, 1, 2] rfl) hM
set_option maxHeartbeats 4000000 in
set_option maxRecDepth 100000 in
theorem c_X9_seenFrom (l : Launch) (dC : Nat → ClassId) (dI : Nat → Nat → Nat) (cI cC cZ : ClassId) (sa : Nat → Nat) (ad : Nat → Nat) (mb : BT) (mo : OT) (mn : NT) (mg : GT) (mf : AR) (mt : TT) (mz : AR) (ml : LT) (mi : IT) (x1 : Int32) (x2 : Int32) {res : Int32} (hM : M_X9_seenFrom mb x1 x2 = some res) : CTi l (dC, dI) [(cI, .int), (cC, .char), (cZ, .boolean)] sa yX9_seenFrom wsX9_seenFrom (rmd 3) [.ref (ad 0), .int x1, .int x2] (wM cI cZ ad mb mo mn mg mf mt mz ml mi) (fun (_ : Unit) => (wM cI cZ ad mb mo mn mg mf mt mz ml mi)) (res, ()) := by
  refine CTi.enter (own := RX9) (cc := cX9_seenFrom) (maxL := 5) (ret := (some .int)) (by decide) rfl rfl (Nat.le_of_ble_eq_true rfl) ?_
  intro pr e s m below meth c A F hr hlk hP hS ls hl
  obtain ⟨⟨hx, hb, hml, hown, hts⟩, hK, hDD, hA, hKC⟩ := id F
  have hl : lv_has ls 5 [(0, .ref (ad 0)), (1, .int x1), (2, .int x2)] := hl
  have hP : va_P (dC, dI) vwCl (wM cI cZ ad mb mo mn mg mf mt mz ml mi) s.heap := hP
  unfold M_X9_seenFrom at hM
  refine kloop (α := Int32 × Int32) (res := res) (fun k a => M_X9_seenFrom_5 mb x1 x2 k a) (fun rec a => M_X9_seenFrom_5b mb x1 x2 rec a) (fun _ => rfl) (fun _ _ => rfl) F (fun a => (wM cI cZ ad mb mo mn mg mf mt mz ml mi)) (fun a => [(0, .ref (ad 0)), (2, .int x2), (3, .int a.1), (4, .int a.2)]) (fun a => []) 5 ?_ (fun j5 => ?_)
  · intro rc5 ih5 a5 H locs ls hP hS hl hM
    unfold M_X9_seenFrom_5b at hM
    refine lv_iload hx hb dX9_seenFrom_5 (lv_at hl 3 rfl) ?_
    refine lv_if_lt (tgt := 29) hx hb dX9_seenFrom_7 (by decide) (fun hc => ?_) (fun hc => ?_)
    · have hM := if_pp hc hM
      refine lv_iload_n hx hb dX9_seenFrom_29 rfl (lv_at hl 2 rfl) ?_
      exact ret_i hx hb hr hlk dX9_seenFrom_30 (some_u hM) hP hS
    · have hM := if_nn hc hM
      refine lv_iload_n hx hb dX9_seenFrom_10 rfl (lv_at hl 2 rfl) ?_
      refine lv_iconst (v := 1) hx hb dX9_seenFrom_11 (by decide) ?_
      refine lv_iload hx hb dX9_seenFrom_12 (lv_at hl 3 rfl) ?_
      refine lv_ishl hx hb dX9_seenFrom_14 ?_
      refine lv_ior hx hb dX9_seenFrom_15 ?_
      refine lv_istore_n (lv' := [(3, .int (a5.1 ||| ((1 : Int32) <<< (a5.2 &&& 31)))), (0, .ref (ad 0)), (2, .int x2), (4, .int a5.2)]) hx hb dX9_seenFrom_16 rfl hl (by decide) rfl (fun ls hl => ?_)
      refine lv_aload_n hx hb dX9_seenFrom_17 rfl (lv_at hl 1 rfl) ?_
      refine lv_iload hx hb dX9_seenFrom_18 (lv_at hl 3 rfl) ?_
      refine lv_iload_n hx hb dX9_seenFrom_20 rfl (lv_at hl 2 rfl) ?_
      obtain ⟨z21, hcr, hM⟩ := ob_s hM
      refine res_i0 F hP hS rfl [0, 1, 2, 3, 4, 5, 6, 7, 8, 9, 10, 11, 12] rfl rfl (runV_of (n := 2) (As := [.int a5.2, .int x2]) (rest := []) F hP hS rfl [0, 1, 2, 3, 4, 5, 6, 7, 8, 9, 10, 11, 12] rfl rfl (c_X9_beyond l dC dI cI cC cZ sa ad mb mo mn mg mf mt mz ml mi a5.2 x2 hcr _) gX9_seenFrom_X9_beyond rfl (by decide +kernel) ⟨Nat.le_of_ble_eq_true rfl, Nat.le_of_ble_eq_true rfl⟩ 0 9 rfl rfl rfl hl.1 rfl (Nat.le_of_ble_eq_true rfl) dX9_seenFrom_21 ⟨Nat.zero_le _, Nat.zero_le _⟩) (fun H locs hP hS => ?_)
      refine lv_istore (lv' := [(4, .int z21), (3, .int (a5.1 ||| ((1 : Int32) <<< (a5.2 &&& 31)))), (0, .ref (ad 0)), (2, .int x2)]) hx hb dX9_seenFrom_24 hl (by decide) rfl (fun ls hl => ?_)
      refine lv_goto (tgt := 5) hx hb dX9_seenFrom_26 (by decide) ?_
      exact ih5 ((a5.1 ||| ((1 : Int32) <<< (a5.2 &&& 31))), z21) _ _ _ hP hS (lv_sub hl [2, 3, 1, 0] rfl) hM
  refine lv_iconst (v := 0) hx hb dX9_seenFrom_0 (by decide) ?_
  refine lv_istore_n (lv' := [(3, .int (0 : Int32)), (0, .ref (ad 0)), (1, .int x1), (2, .int x2)]) hx hb dX9_seenFrom_1 rfl hl (by decide) rfl (fun ls hl => ?_)
  refine lv_iload_n hx hb dX9_seenFrom_2 rfl (lv_at hl 2 rfl) ?_
  refine lv_istore (lv' := [(4, .int x1), (3, .int (0 : Int32)), (0, .ref (ad 0)), (1, .int x1), (2, .int x2)]) hx hb dX9_seenFrom_3 hl (by decide) rfl (fun ls hl => ?_)
  exact j5 200 ((0 : Int32), x1) _ _ _ hP hS (lv_sub hl [2, 4, 1, 0] rfl) hM
theorem inX9_seenBy_X9 : ∀ w ∈ wsX90, w ∈ wsX9_seenBy := fun w h => List.mem_cons_of_mem _ (List.mem_append_right _ h)
set_option maxHeartbeats 4000000 in
set_option maxRecDepth 100000 in
theorem c_X9_seenBy (l : Launch) (dC : Nat → ClassId) (dI : Nat → Nat → Nat) (cI cC cZ : ClassId) (sa : Nat → Nat) (ad : Nat → Nat) (mb : BT) (mo : OT) (mn : NT) (mg : GT) (mf : AR) (mt : TT) (mz : AR) (ml : LT) (mi : IT) (x1 : Int32) {res : Int32} (hM : M_X9_seenBy mb x1 = some res) : CTi l (dC, dI) [(cI, .int), (cC, .char), (cZ, .boolean)] sa yX9_seenBy wsX9_seenBy (rmd 4) [.ref (ad 0), .int x1] (wM cI cZ ad mb mo mn mg mf mt mz ml mi) (fun (_ : Unit) => (wM cI cZ ad mb mo mn mg mf mt mz ml mi)) (res, ()) := by
  refine CTi.enter (own := RX9) (cc := cX9_seenBy) (maxL := 2) (ret := (some .int)) (by decide) rfl rfl (Nat.le_of_ble_eq_true rfl) ?_
  intro pr e s m below meth c A F hr hlk hP hS ls hl
  obtain ⟨⟨hx, hb, hml, hown, hts⟩, hK, hDD, hA, hKC⟩ := id F
  have hl : lv_has ls 2 [(0, .ref (ad 0)), (1, .int x1)] := hl
  have hP : va_P (dC, dI) vwCl (wM cI cZ ad mb mo mn mg mf mt mz ml mi) s.heap := hP
  unfold M_X9_seenBy at hM
  refine lv_aload_n hx hb dX9_seenBy_0 rfl (lv_at hl 0 rfl) ?_
  refine lv_aload_n hx hb dX9_seenBy_1 rfl (lv_at hl 0 rfl) ?_
  refine g_get (ci := 9) (C := RX9) (T := TX9) (N := 32) (v := .ref (ad 2)) F hP 0 rfl rfl inX9_seenBy_X9 5 (by decide) (List.mem_of_getElem? (i := 1) rfl) rfl dX9_seenBy_2 ?_
  refine lv_iload_n hx hb dX9_seenBy_5 rfl (lv_at hl 1 rfl) ?_
  obtain ⟨hin, hM⟩ := if_ok hM
  refine va_iald hx hb hK hP 2 0 rfl rfl hin dX9_seenBy_6 ?_
  refine lv_aload_n hx hb dX9_seenBy_7 rfl (lv_at hl 0 rfl) ?_
  refine g_get (ci := 9) (C := RX9) (T := TX9) (N := 32) (v := .ref (ad 3)) F hP 0 rfl rfl inX9_seenBy_X9 6 (by decide) (List.mem_of_getElem? (i := 2) rfl) rfl dX9_seenBy_8 ?_
  refine lv_iload_n hx hb dX9_seenBy_11 rfl (lv_at hl 1 rfl) ?_
  obtain ⟨hin, hM⟩ := if_ok hM
  refine va_iald hx hb hK hP 3 0 rfl rfl hin dX9_seenBy_12 ?_
  obtain ⟨z13, hcr, hM⟩ := ob_s hM
  refine res_i0 F hP hS rfl [0, 1, 2, 3, 4, 5, 6, 7, 8, 9, 10, 11, 12] rfl rfl (runV_of (n := 2) (As := [.int (mb.2.2.2.2.2.2.2.1 x1.toNatClampNeg), .int (mb.2.2.2.2.2.2.2.2.1 x1.toNatClampNeg)]) (rest := []) F hP hS rfl [0, 1, 2, 3, 4, 5, 6, 7, 8, 9, 10, 11, 12] rfl rfl (c_X9_seenFrom l dC dI cI cC cZ sa ad mb mo mn mg mf mt mz ml mi (mb.2.2.2.2.2.2.2.1 x1.toNatClampNeg) (mb.2.2.2.2.2.2.2.2.1 x1.toNatClampNeg) hcr _) gX9_seenBy_X9_seenFrom rfl (by decide +kernel) ⟨Nat.le_of_ble_eq_true rfl, Nat.le_of_ble_eq_true rfl⟩ 0 9 rfl rfl rfl hl.1 rfl (Nat.le_of_ble_eq_true rfl) dX9_seenBy_13 ⟨Nat.zero_le _, Nat.zero_le _⟩) (fun H locs hP hS => ?_)
  exact ret_i hx hb hr hlk dX9_seenBy_16 (some_u hM) hP hS
theorem inX9_isBare_X9 : ∀ w ∈ wsX90, w ∈ wsX9_isBare := fun w h => List.mem_cons_of_mem _ (List.mem_append_right _ h)
set_option maxHeartbeats 4000000 in
set_option maxRecDepth 100000 in
theorem c_X9_isBare (l : Launch) (dC : Nat → ClassId) (dI : Nat → Nat → Nat) (cI cC cZ : ClassId) (sa : Nat → Nat) (ad : Nat → Nat) (mb : BT) (mo : OT) (mn : NT) (mg : GT) (mf : AR) (mt : TT) (mz : AR) (ml : LT) (mi : IT) (x1 : Int32) {res : Int32} (hM : M_X9_isBare mb x1 = some res) : CTi l (dC, dI) [(cI, .int), (cC, .char), (cZ, .boolean)] sa yX9_isBare wsX9_isBare (rmd 5) [.ref (ad 0), .int x1] (wM cI cZ ad mb mo mn mg mf mt mz ml mi) (fun (_ : Unit) => (wM cI cZ ad mb mo mn mg mf mt mz ml mi)) (res, ()) := by
  refine CTi.enter (own := RX9) (cc := cX9_isBare) (maxL := 6) (ret := (some .boolean)) (by decide) rfl rfl (Nat.le_of_ble_eq_true rfl) ?_
  intro pr e s m below meth c A F hr hlk hP hS ls hl
  obtain ⟨⟨hx, hb, hml, hown, hts⟩, hK, hDD, hA, hKC⟩ := id F
  have hl : lv_has ls 6 [(0, .ref (ad 0)), (1, .int x1)] := hl
  have hP : va_P (dC, dI) vwCl (wM cI cZ ad mb mo mn mg mf mt mz ml mi) s.heap := hP
  unfold M_X9_isBare at hM
  refine kloop (α := Int32 × Int32) (res := res) (fun k a => M_X9_isBare_16 mb x1 k a) (fun rec a => M_X9_isBare_16b mb x1 rec a) (fun _ => rfl) (fun _ _ => rfl) F (fun a => (wM cI cZ ad mb mo mn mg mf mt mz ml mi)) (fun a => [(0, .ref (ad 0)), (1, .int x1), (2, .int a.1), (3, .int a.2)]) (fun a => []) 16 ?_ (fun j16 => ?_)
  · intro rc16 ih16 a16 H locs ls hP hS hl hM
    unfold M_X9_isBare_16b at hM
    refine kblk (α := Int32 × Int32) (res := res) (fun a => M_X9_isBare_146 mb x1 rc16 a) F (fun a => (wM cI cZ ad mb mo mn mg mf mt mz ml mi)) (fun a => [(0, .ref (ad 0)), (1, .int x1), (3, .int a.1)]) (fun a => [.int a.2]) 146 ?_ (fun j146 => ?_)
    · intro a146 H locs ls hP hS hl hM
      unfold M_X9_isBare_146 at hM
      refine lv_istore_n (lv' := [(2, .int a146.2), (0, .ref (ad 0)), (1, .int x1), (3, .int a146.1)]) hx hb dX9_isBare_146 rfl hl (by decide) rfl (fun ls hl => ?_)
      refine lv_iinc (v := (a146.1 + (1 : Int32))) (lv' := [(3, .int (a146.1 + (1 : Int32))), (2, .int a146.2), (0, .ref (ad 0)), (1, .int x1)]) hx hb dX9_isBare_147 hl (k := 3) rfl rfl (by decide) rfl (fun ls hl => ?_)
      refine lv_goto (tgt := 16) hx hb dX9_isBare_150 (by decide) ?_
      exact ih16 (a146.2, (a146.1 + (1 : Int32))) _ _ _ hP hS (lv_sub hl [2, 3, 1, 0] rfl) hM
    refine kblk (α := Int32) (res := res) (fun a => M_X9_isBare_145 mb x1 rc16 a) F (fun a => (wM cI cZ ad mb mo mn mg mf mt mz ml mi)) (fun a => [(0, .ref (ad 0)), (1, .int x1), (3, .int a)]) (fun a => []) 145 ?_ (fun j145 => ?_)
    · intro a145 H locs ls hP hS hl hM
      unfold M_X9_isBare_145 at hM
      refine lv_iconst (v := 0) hx hb dX9_isBare_145 (by decide) ?_
      exact j146 (a145, (0 : Int32)) _ _ _ hP hS (lv_sub hl [0, 1, 2] rfl) hM
    refine kblk (α := Int32 × Int32 × Int32) (res := res) (fun a => M_X9_isBare_130 mb x1 rc16 a) F (fun a => (wM cI cZ ad mb mo mn mg mf mt mz ml mi)) (fun a => [(0, .ref (ad 0)), (1, .int x1), (2, .int a.1), (3, .int a.2.1)]) (fun a => [.int a.2.2]) 130 ?_ (fun j130 => ?_)
    · intro a130 H locs ls hP hS hl hM
      unfold M_X9_isBare_130 at hM
      refine lv_istore (lv' := [(5, .int a130.2.2), (0, .ref (ad 0)), (1, .int x1), (2, .int a130.1), (3, .int a130.2.1)]) hx hb dX9_isBare_130 hl (by decide) rfl (fun ls hl => ?_)
      refine lv_iload_n hx hb dX9_isBare_132 rfl (lv_at hl 3 rfl) ?_
      refine lv_if_eq (tgt := 145) hx hb dX9_isBare_133 (by decide) (fun hc => ?_) (fun hc => ?_)
      · have hM := if_pp hc hM
        exact j145 a130.2.1 _ _ _ hP hS (lv_sub hl [1, 2, 4] rfl) hM
      · have hM := if_nn hc hM
        refine lv_iload hx hb dX9_isBare_136 (lv_at hl 0 rfl) ?_
        refine lv_if_ne (tgt := 145) hx hb dX9_isBare_138 (by decide) (fun hc => ?_) (fun hc => ?_)
        · have hM := if_nn hc hM
          exact j145 a130.2.1 _ _ _ hP hS (lv_sub hl [1, 2, 4] rfl) hM
        · have hM := if_pp hc hM
          refine lv_iconst (v := 1) hx hb dX9_isBare_141 (by decide) ?_
          refine lv_goto (tgt := 146) hx hb dX9_isBare_142 (by decide) ?_
          exact j146 (a130.2.1, (1 : Int32)) _ _ _ hP hS (lv_sub hl [1, 2, 4] rfl) hM
    refine kblk (α := Int32 × Int32) (res := res) (fun a => M_X9_isBare_125 mb x1 rc16 a) F (fun a => (wM cI cZ ad mb mo mn mg mf mt mz ml mi)) (fun a => [(0, .ref (ad 0)), (1, .int x1), (2, .int a.1), (3, .int a.2)]) (fun a => []) 125 ?_ (fun j125 => ?_)
    · intro a125 H locs ls hP hS hl hM
      unfold M_X9_isBare_125 at hM
      refine lv_iconst (v := 1) hx hb dX9_isBare_125 (by decide) ?_
      refine lv_goto (tgt := 130) hx hb dX9_isBare_126 (by decide) ?_
      exact j130 (a125.1, a125.2, (1 : Int32)) _ _ _ hP hS (lv_sub hl [0, 1, 2, 3] rfl) hM
    refine kblk (α := Int32 × Int32) (res := res) (fun a => M_X9_isBare_129 mb x1 rc16 a) F (fun a => (wM cI cZ ad mb mo mn mg mf mt mz ml mi)) (fun a => [(0, .ref (ad 0)), (1, .int x1), (2, .int a.1), (3, .int a.2)]) (fun a => []) 129 ?_ (fun j129 => ?_)
    · intro a129 H locs ls hP hS hl hM
      unfold M_X9_isBare_129 at hM
      refine lv_iconst (v := 0) hx hb dX9_isBare_129 (by decide) ?_
      exact j130 (a129.1, a129.2, (0 : Int32)) _ _ _ hP hS (lv_sub hl [0, 1, 2, 3] rfl) hM
    refine kblk (α := Int32 × Int32) (res := res) (fun a => M_X9_isBare_100 mb x1 rc16 a) F (fun a => (wM cI cZ ad mb mo mn mg mf mt mz ml mi)) (fun a => [(0, .ref (ad 0)), (1, .int x1), (2, .int a.1), (3, .int a.2)]) (fun a => []) 100 ?_ (fun j100 => ?_)
    · intro a100 H locs ls hP hS hl hM
      unfold M_X9_isBare_100 at hM
      refine lv_aload_n hx hb dX9_isBare_100 rfl (lv_at hl 0 rfl) ?_
      refine g_get (ci := 9) (C := RX9) (T := TX9) (N := 32) (v := .ref (ad 4)) F hP 0 rfl rfl inX9_isBare_X9 7 (by decide) (List.mem_of_getElem? (i := 5) rfl) rfl dX9_isBare_101 ?_
      refine lv_iload_n hx hb dX9_isBare_104 rfl (lv_at hl 3 rfl) ?_
      obtain ⟨hin, hM⟩ := if_ok hM
      refine va_iald hx hb hK hP 4 0 rfl rfl hin dX9_isBare_105 ?_
      refine lv_iconst (v := 1) hx hb dX9_isBare_106 (by decide) ?_
      refine lv_icmp_ne (tgt := 129) hx hb dX9_isBare_107 (by decide) (fun hc => ?_) (fun hc => ?_)
      · have hM := if_nn hc hM
        exact j129 (a100.1, a100.2) _ _ _ hP hS (lv_sub hl [0, 1, 2, 3] rfl) hM
      · have hM := if_pp hc hM
        refine lv_aload_n hx hb dX9_isBare_110 rfl (lv_at hl 0 rfl) ?_
        refine lv_iload_n hx hb dX9_isBare_111 rfl (lv_at hl 1 rfl) ?_
        refine lv_aload_n hx hb dX9_isBare_112 rfl (lv_at hl 0 rfl) ?_
        refine g_get (ci := 9) (C := RX9) (T := TX9) (N := 32) (v := .ref (ad 2)) F hP 0 rfl rfl inX9_isBare_X9 5 (by decide) (List.mem_of_getElem? (i := 3) rfl) rfl dX9_isBare_113 ?_
        refine lv_iload_n hx hb dX9_isBare_116 rfl (lv_at hl 3 rfl) ?_
        obtain ⟨hin, hM⟩ := if_ok hM
        refine va_iald hx hb hK hP 2 0 rfl rfl hin dX9_isBare_117 ?_
        obtain ⟨z118, hcr, hM⟩ := ob_s hM
        refine res_i0 F hP hS rfl [0, 1, 2, 3, 4, 5, 6, 7, 8, 9, 10, 11, 12] rfl rfl (runV_of (n := 2) (As := [.int x1, .int (mb.2.2.2.2.2.2.2.1 a100.2.toNatClampNeg)]) (rest := []) F hP hS rfl [0, 1, 2, 3, 4, 5, 6, 7, 8, 9, 10, 11, 12] rfl rfl (c_X9_apart l dC dI cI cC cZ sa ad mb mo mn mg mf mt mz ml mi x1 (mb.2.2.2.2.2.2.2.1 a100.2.toNatClampNeg) hcr _) gX9_isBare_X9_apart rfl (by decide +kernel) ⟨Nat.le_of_ble_eq_true rfl, Nat.le_of_ble_eq_true rfl⟩ 0 9 rfl rfl rfl hl.1 rfl (Nat.le_of_ble_eq_true rfl) dX9_isBare_118 ⟨Nat.zero_le _, Nat.zero_le _⟩) (fun H locs hP hS => ?_)
        refine lv_iconst (v := 1) hx hb dX9_isBare_121 (by decide) ?_
        refine lv_icmp_gt (tgt := 129) hx hb dX9_isBare_122 (by decide) (fun hc => ?_) (fun hc => ?_)
        · have hM := if_pp hc hM
          exact j129 (a100.1, a100.2) _ _ _ hP hS (lv_sub hl [0, 1, 2, 3] rfl) hM
        · have hM := if_nn hc hM
          exact j125 (a100.1, a100.2) _ _ _ hP hS (lv_sub hl [0, 1, 2, 3] rfl) hM
    refine kblk (α := Int32 × Int32) (res := res) (fun a => M_X9_isBare_71 mb x1 rc16 a) F (fun a => (wM cI cZ ad mb mo mn mg mf mt mz ml mi)) (fun a => [(0, .ref (ad 0)), (1, .int x1), (2, .int a.1), (3, .int a.2)]) (fun a => []) 71 ?_ (fun j71 => ?_)
    · intro a71 H locs ls hP hS hl hM
      unfold M_X9_isBare_71 at hM
      refine lv_aload_n hx hb dX9_isBare_71 rfl (lv_at hl 0 rfl) ?_
      refine g_get (ci := 9) (C := RX9) (T := TX9) (N := 32) (v := .ref (ad 1)) F hP 0 rfl rfl inX9_isBare_X9 2 (by decide) (List.mem_of_getElem? (i := 2) rfl) rfl dX9_isBare_72 ?_
      refine lv_iload_n hx hb dX9_isBare_75 rfl (lv_at hl 1 rfl) ?_
      obtain ⟨hin, hM⟩ := if_ok hM
      refine va_iald hx hb hK hP 1 0 rfl rfl hin dX9_isBare_76 ?_
      refine lv_bipush (v := 99) hx hb dX9_isBare_77 (by decide) ?_
      refine lv_icmp_ne (tgt := 100) hx hb dX9_isBare_79 (by decide) (fun hc => ?_) (fun hc => ?_)
      · have hM := if_nn hc hM
        exact j100 (a71.1, a71.2) _ _ _ hP hS (lv_sub hl [0, 1, 2, 3] rfl) hM
      · have hM := if_pp hc hM
        refine lv_aload_n hx hb dX9_isBare_82 rfl (lv_at hl 0 rfl) ?_
        refine lv_iload_n hx hb dX9_isBare_83 rfl (lv_at hl 1 rfl) ?_
        refine lv_aload_n hx hb dX9_isBare_84 rfl (lv_at hl 0 rfl) ?_
        refine g_get (ci := 9) (C := RX9) (T := TX9) (N := 32) (v := .ref (ad 2)) F hP 0 rfl rfl inX9_isBare_X9 5 (by decide) (List.mem_of_getElem? (i := 3) rfl) rfl dX9_isBare_85 ?_
        refine lv_iload_n hx hb dX9_isBare_88 rfl (lv_at hl 3 rfl) ?_
        obtain ⟨hin, hM⟩ := if_ok hM
        refine va_iald hx hb hK hP 2 0 rfl rfl hin dX9_isBare_89 ?_
        obtain ⟨z90, hcr, hM⟩ := ob_s hM
        refine res_i0 F hP hS rfl [0, 1, 2, 3, 4, 5, 6, 7, 8, 9, 10, 11, 12] rfl rfl (runV_of (n := 2) (As := [.int x1, .int (mb.2.2.2.2.2.2.2.1 a71.2.toNatClampNeg)]) (rest := []) F hP hS rfl [0, 1, 2, 3, 4, 5, 6, 7, 8, 9, 10, 11, 12] rfl rfl (c_X9_apart l dC dI cI cC cZ sa ad mb mo mn mg mf mt mz ml mi x1 (mb.2.2.2.2.2.2.2.1 a71.2.toNatClampNeg) hcr _) gX9_isBare_X9_apart rfl (by decide +kernel) ⟨Nat.le_of_ble_eq_true rfl, Nat.le_of_ble_eq_true rfl⟩ 0 9 rfl rfl rfl hl.1 rfl (Nat.le_of_ble_eq_true rfl) dX9_isBare_90 ⟨Nat.zero_le _, Nat.zero_le _⟩) (fun H locs hP hS => ?_)
        refine lv_aload_n hx hb dX9_isBare_93 rfl (lv_at hl 0 rfl) ?_
        refine g_get (ci := 9) (C := RX9) (T := TX9) (N := 32) (v := .int mb.2.2.2.2.2.1) F hP 0 rfl rfl inX9_isBare_X9 9 (by decide) (List.mem_of_getElem? (i := 4) rfl) rfl dX9_isBare_94 ?_
        refine lv_icmp_le (tgt := 125) hx hb dX9_isBare_97 (by decide) (fun hc => ?_) (fun hc => ?_)
        · have hM := if_pp hc hM
          exact j125 (a71.1, a71.2) _ _ _ hP hS (lv_sub hl [0, 1, 2, 3] rfl) hM
        · have hM := if_nn hc hM
          exact j100 (a71.1, a71.2) _ _ _ hP hS (lv_sub hl [0, 1, 2, 3] rfl) hM
    refine kblk (α := Int32 × Int32 × Int32) (res := res) (fun a => M_X9_isBare_42 mb x1 rc16 a) F (fun a => (wM cI cZ ad mb mo mn mg mf mt mz ml mi)) (fun a => [(0, .ref (ad 0)), (1, .int x1), (2, .int a.1), (3, .int a.2.1)]) (fun a => [.int a.2.2]) 42 ?_ (fun j42 => ?_)
    · intro a42 H locs ls hP hS hl hM
      unfold M_X9_isBare_42 at hM
      refine lv_istore (lv' := [(4, .int a42.2.2), (0, .ref (ad 0)), (1, .int x1), (2, .int a42.1), (3, .int a42.2.1)]) hx hb dX9_isBare_42 hl (by decide) rfl (fun ls hl => ?_)
      refine lv_iload hx hb dX9_isBare_44 (lv_at hl 0 rfl) ?_
      refine lv_if_eq (tgt := 71) hx hb dX9_isBare_46 (by decide) (fun hc => ?_) (fun hc => ?_)
      · have hM := if_pp hc hM
        exact j71 (a42.1, a42.2.1) _ _ _ hP hS (lv_sub hl [1, 2, 3, 4] rfl) hM
      · have hM := if_nn hc hM
        refine lv_aload_n hx hb dX9_isBare_49 rfl (lv_at hl 1 rfl) ?_
        refine g_get (ci := 9) (C := RX9) (T := TX9) (N := 32) (v := .ref (ad 1)) F hP 0 rfl rfl inX9_isBare_X9 2 (by decide) (List.mem_of_getElem? (i := 2) rfl) rfl dX9_isBare_50 ?_
        refine lv_iload_n hx hb dX9_isBare_53 rfl (lv_at hl 2 rfl) ?_
        obtain ⟨hin, hM⟩ := if_ok hM
        refine va_iald hx hb hK hP 1 0 rfl rfl hin dX9_isBare_54 ?_
        refine lv_bipush (v := 103) hx hb dX9_isBare_55 (by decide) ?_
        refine lv_icmp_eq (tgt := 125) hx hb dX9_isBare_57 (by decide) (fun hc => ?_) (fun hc => ?_)
        · have hM := if_pp hc hM
          exact j125 (a42.1, a42.2.1) _ _ _ hP hS (lv_sub hl [1, 2, 3, 4] rfl) hM
        · have hM := if_nn hc hM
          refine lv_aload_n hx hb dX9_isBare_60 rfl (lv_at hl 1 rfl) ?_
          refine g_get (ci := 9) (C := RX9) (T := TX9) (N := 32) (v := .ref (ad 1)) F hP 0 rfl rfl inX9_isBare_X9 2 (by decide) (List.mem_of_getElem? (i := 2) rfl) rfl dX9_isBare_61 ?_
          refine lv_iload_n hx hb dX9_isBare_64 rfl (lv_at hl 2 rfl) ?_
          obtain ⟨hin, hM⟩ := if_ok hM
          refine va_iald hx hb hK hP 1 0 rfl rfl hin dX9_isBare_65 ?_
          refine lv_bipush (v := 100) hx hb dX9_isBare_66 (by decide) ?_
          refine lv_icmp_eq (tgt := 125) hx hb dX9_isBare_68 (by decide) (fun hc => ?_) (fun hc => ?_)
          · have hM := if_pp hc hM
            exact j125 (a42.1, a42.2.1) _ _ _ hP hS (lv_sub hl [1, 2, 3, 4] rfl) hM
          · have hM := if_nn hc hM
            exact j71 (a42.1, a42.2.1) _ _ _ hP hS (lv_sub hl [1, 2, 3, 4] rfl) hM
    refine lv_iload_n hx hb dX9_isBare_16 rfl (lv_at hl 3 rfl) ?_
    refine lv_aload_n hx hb dX9_isBare_17 rfl (lv_at hl 0 rfl) ?_
    refine g_get (ci := 9) (C := RX9) (T := TX9) (N := 32) (v := .int mb.2.2.2.2.1) F hP 0 rfl rfl inX9_isBare_X9 8 (by decide) (List.mem_of_getElem? (i := 1) rfl) rfl dX9_isBare_18 ?_
    refine lv_icmp_ge (tgt := 153) hx hb dX9_isBare_21 (by decide) (fun hc => ?_) (fun hc => ?_)
    · have hM := if_pp hc hM
      refine lv_iload_n hx hb dX9_isBare_153 rfl (lv_at hl 2 rfl) ?_
      obtain ⟨hnz, hM⟩ := if_ok hM
      exact ret_z hx hb hr hlk dX9_isBare_154 (nar_z hnz) (some_u hM) hP hS
    · have hM := if_nn hc hM
      refine lv_aload_n hx hb dX9_isBare_24 rfl (lv_at hl 0 rfl) ?_
      refine lv_iload_n hx hb dX9_isBare_25 rfl (lv_at hl 3 rfl) ?_
      obtain ⟨z26, hcr, hM⟩ := ob_s hM
      refine res_i0 F hP hS rfl [0, 1, 2, 3, 4, 5, 6, 7, 8, 9, 10, 11, 12] rfl rfl (runV_of (n := 1) (As := [.int a16.2]) (rest := []) F hP hS rfl [0, 1, 2, 3, 4, 5, 6, 7, 8, 9, 10, 11, 12] rfl rfl (c_X9_seenBy l dC dI cI cC cZ sa ad mb mo mn mg mf mt mz ml mi a16.2 hcr _) gX9_isBare_X9_seenBy rfl (by decide +kernel) ⟨Nat.le_of_ble_eq_true rfl, Nat.le_of_ble_eq_true rfl⟩ 0 9 rfl rfl rfl hl.1 rfl (Nat.le_of_ble_eq_true rfl) dX9_isBare_26 ⟨Nat.zero_le _, Nat.zero_le _⟩) (fun H locs hP hS => ?_)
      refine lv_iload_n hx hb dX9_isBare_29 rfl (lv_at hl 1 rfl) ?_
      refine lv_ishr hx hb dX9_isBare_30 ?_
      refine lv_iconst (v := 1) hx hb dX9_isBare_31 (by decide) ?_
      refine lv_iand hx hb dX9_isBare_32 ?_
      refine lv_iconst (v := 1) hx hb dX9_isBare_33 (by decide) ?_
      refine lv_icmp_ne (tgt := 41) hx hb dX9_isBare_34 (by decide) (fun hc => ?_) (fun hc => ?_)
      · have hM := if_nn hc hM
        refine lv_iconst (v := 0) hx hb dX9_isBare_41 (by decide) ?_
        exact j42 (a16.1, a16.2, (0 : Int32)) _ _ _ hP hS (lv_sub hl [0, 1, 2, 3] rfl) hM
      · have hM := if_pp hc hM
        refine lv_iconst (v := 1) hx hb dX9_isBare_37 (by decide) ?_
        refine lv_goto (tgt := 42) hx hb dX9_isBare_38 (by decide) ?_
        exact j42 (a16.1, a16.2, (1 : Int32)) _ _ _ hP hS (lv_sub hl [0, 1, 2, 3] rfl) hM
  refine kblk (α := Int32) (res := res) (fun a => M_X9_isBare_13 mb x1 a) F (fun a => (wM cI cZ ad mb mo mn mg mf mt mz ml mi)) (fun a => [(0, .ref (ad 0)), (1, .int x1)]) (fun a => [.int a]) 13 ?_ (fun j13 => ?_)
  · intro a13 H locs ls hP hS hl hM
    unfold M_X9_isBare_13 at hM
    refine lv_istore_n (lv' := [(2, .int a13), (0, .ref (ad 0)), (1, .int x1)]) hx hb dX9_isBare_13 rfl hl (by decide) rfl (fun ls hl => ?_)
    refine lv_iconst (v := 0) hx hb dX9_isBare_14 (by decide) ?_
    refine lv_istore_n (lv' := [(3, .int (0 : Int32)), (2, .int a13), (0, .ref (ad 0)), (1, .int x1)]) hx hb dX9_isBare_15 rfl hl (by decide) rfl (fun ls hl => ?_)
    exact j16 200 (a13, (0 : Int32)) _ _ _ hP hS (lv_sub hl [2, 3, 1, 0] rfl) hM
  refine lv_aload_n hx hb dX9_isBare_0 rfl (lv_at hl 0 rfl) ?_
  refine lv_iload_n hx hb dX9_isBare_1 rfl (lv_at hl 1 rfl) ?_
  obtain ⟨z2, hcr, hM⟩ := ob_s hM
  refine res_i0 F hP hS rfl [0, 1, 2, 3, 4, 5, 6, 7, 8, 9, 10, 11, 12] rfl rfl (runV_of (n := 1) (As := [.int x1]) (rest := []) F hP hS rfl [0, 1, 2, 3, 4, 5, 6, 7, 8, 9, 10, 11, 12] rfl rfl (c_X9_isWall l dC dI cI cC cZ sa ad mb mo mn mg mf mt mz ml mi x1 hcr _) gX9_isBare_X9_isWall rfl (by decide +kernel) ⟨Nat.le_of_ble_eq_true rfl, Nat.le_of_ble_eq_true rfl⟩ 0 9 rfl rfl rfl hl.1 rfl (Nat.le_of_ble_eq_true rfl) dX9_isBare_2 ⟨Nat.zero_le _, Nat.zero_le _⟩) (fun H locs hP hS => ?_)
  refine lv_if_ne (tgt := 12) hx hb dX9_isBare_5 (by decide) (fun hc => ?_) (fun hc => ?_)
  · have hM := if_nn hc hM
    refine lv_iconst (v := 0) hx hb dX9_isBare_12 (by decide) ?_
    exact j13 (0 : Int32) _ _ _ hP hS (lv_sub hl [0, 1] rfl) hM
  · have hM := if_pp hc hM
    refine lv_iconst (v := 1) hx hb dX9_isBare_8 (by decide) ?_
    refine lv_goto (tgt := 13) hx hb dX9_isBare_9 (by decide) ?_
    exact j13 (1 : Int32) _ _ _ hP hS (lv_sub hl [0, 1] rfl) hM
set_option maxHeartbeats 4000000 in
set_option maxRecDepth 100000 in
theorem c_X9_bare (l : Launch) (dC : Nat → ClassId) (dI : Nat → Nat → Nat) (cI cC cZ : ClassId) (sa : Nat → Nat) (ad : Nat → Nat) (mb : BT) (mo : OT) (mn : NT) (mg : GT) (mf : AR) (mt : TT) (mz : AR) (ml : LT) (mi : IT)  {res : Int32} (hM : M_X9_bare mb = some res) : CTi l (dC, dI) [(cI, .int), (cC, .char), (cZ, .boolean)] sa yX9_bare wsX9_bare (rmd 6) [.ref (ad 0)] (wM cI cZ ad mb mo mn mg mf mt mz ml mi) (fun (_ : Unit) => (wM cI cZ ad mb mo mn mg mf mt mz ml mi)) (res, ()) := by
  refine CTi.enter (own := RX9) (cc := cX9_bare) (maxL := 3) (ret := (some .int)) (by decide) rfl rfl (Nat.le_of_ble_eq_true rfl) ?_
  intro pr e s m below meth c A F hr hlk hP hS ls hl
  obtain ⟨⟨hx, hb, hml, hown, hts⟩, hK, hDD, hA, hKC⟩ := id F
  have hl : lv_has ls 3 [(0, .ref (ad 0))] := hl
  have hP : va_P (dC, dI) vwCl (wM cI cZ ad mb mo mn mg mf mt mz ml mi) s.heap := hP
  unfold M_X9_bare at hM
  refine kloop (α := Int32 × Int32) (res := res) (fun k a => M_X9_bare_4 mb k a) (fun rec a => M_X9_bare_4b mb rec a) (fun _ => rfl) (fun _ _ => rfl) F (fun a => (wM cI cZ ad mb mo mn mg mf mt mz ml mi)) (fun a => [(0, .ref (ad 0)), (1, .int a.1), (2, .int a.2)]) (fun a => []) 4 ?_ (fun j4 => ?_)
  · intro rc4 ih4 a4 H locs ls hP hS hl hM
    unfold M_X9_bare_4b at hM
    refine kblk (α := Int32 × Int32 × Int32) (res := res) (fun a => M_X9_bare_28 mb rc4 a) F (fun a => (wM cI cZ ad mb mo mn mg mf mt mz ml mi)) (fun a => [(0, .ref (ad 0)), (2, .int a.1)]) (fun a => [.int a.2.1, .int a.2.2]) 28 ?_ (fun j28 => ?_)
    · intro a28 H locs ls hP hS hl hM
      unfold M_X9_bare_28 at hM
      refine lv_ior hx hb dX9_bare_28 ?_
      refine lv_istore_n (lv' := [(1, .int (a28.2.2 ||| a28.2.1)), (0, .ref (ad 0)), (2, .int a28.1)]) hx hb dX9_bare_29 rfl hl (by decide) rfl (fun ls hl => ?_)
      refine lv_iinc (v := (a28.1 + (1 : Int32))) (lv' := [(2, .int (a28.1 + (1 : Int32))), (1, .int (a28.2.2 ||| a28.2.1)), (0, .ref (ad 0))]) hx hb dX9_bare_30 hl (k := 2) rfl rfl (by decide) rfl (fun ls hl => ?_)
      refine lv_goto (tgt := 4) hx hb dX9_bare_33 (by decide) ?_
      exact ih4 ((a28.2.2 ||| a28.2.1), (a28.1 + (1 : Int32))) _ _ _ hP hS (lv_sub hl [2, 1, 0] rfl) hM
    refine lv_iload_n hx hb dX9_bare_4 rfl (lv_at hl 2 rfl) ?_
    refine lv_aload_n hx hb dX9_bare_5 rfl (lv_at hl 0 rfl) ?_
    obtain ⟨z6, hcr, hM⟩ := ob_s hM
    refine res_i0 F hP hS rfl [0, 1, 2, 3, 4, 5, 6, 7, 8, 9, 10, 11, 12] rfl rfl (runV_of (n := 0) (As := []) (rest := [.int a4.2]) F hP hS rfl [0, 1, 2, 3, 4, 5, 6, 7, 8, 9, 10, 11, 12] rfl rfl (c_X9_cells l dC dI cI cC cZ sa ad mb mo mn mg mf mt mz ml mi hcr _) gX9_bare_X9_cells rfl (by decide +kernel) ⟨Nat.le_of_ble_eq_true rfl, Nat.le_of_ble_eq_true rfl⟩ 0 9 rfl rfl rfl hl.1 rfl (Nat.le_of_ble_eq_true rfl) dX9_bare_6 ⟨Nat.zero_le _, Nat.zero_le _⟩) (fun H locs hP hS => ?_)
    refine lv_icmp_ge (tgt := 36) hx hb dX9_bare_9 (by decide) (fun hc => ?_) (fun hc => ?_)
    · have hM := if_pp hc hM
      refine lv_iload_n hx hb dX9_bare_36 rfl (lv_at hl 1 rfl) ?_
      exact ret_i hx hb hr hlk dX9_bare_37 (some_u hM) hP hS
    · have hM := if_nn hc hM
      refine lv_iload_n hx hb dX9_bare_12 rfl (lv_at hl 1 rfl) ?_
      refine lv_aload_n hx hb dX9_bare_13 rfl (lv_at hl 0 rfl) ?_
      refine lv_iload_n hx hb dX9_bare_14 rfl (lv_at hl 2 rfl) ?_
      obtain ⟨z15, hcr, hM⟩ := ob_s hM
      refine res_i0 F hP hS rfl [0, 1, 2, 3, 4, 5, 6, 7, 8, 9, 10, 11, 12] rfl rfl (runV_of (n := 1) (As := [.int a4.2]) (rest := [.int a4.1]) F hP hS rfl [0, 1, 2, 3, 4, 5, 6, 7, 8, 9, 10, 11, 12] rfl rfl (c_X9_isBare l dC dI cI cC cZ sa ad mb mo mn mg mf mt mz ml mi a4.2 hcr _) gX9_bare_X9_isBare rfl (by decide +kernel) ⟨Nat.le_of_ble_eq_true rfl, Nat.le_of_ble_eq_true rfl⟩ 0 9 rfl rfl rfl hl.1 rfl (Nat.le_of_ble_eq_true rfl) dX9_bare_15 ⟨Nat.zero_le _, Nat.zero_le _⟩) (fun H locs hP hS => ?_)
      refine lv_if_eq (tgt := 27) hx hb dX9_bare_18 (by decide) (fun hc => ?_) (fun hc => ?_)
      · have hM := if_pp hc hM
        refine lv_iconst (v := 0) hx hb dX9_bare_27 (by decide) ?_
        exact j28 (a4.2, (0 : Int32), a4.1) _ _ _ hP hS (lv_sub hl [0, 2] rfl) hM
      · have hM := if_nn hc hM
        refine lv_iconst (v := 1) hx hb dX9_bare_21 (by decide) ?_
        refine lv_iload_n hx hb dX9_bare_22 rfl (lv_at hl 2 rfl) ?_
        refine lv_ishl hx hb dX9_bare_23 ?_
        refine lv_goto (tgt := 28) hx hb dX9_bare_24 (by decide) ?_
        exact j28 (a4.2, ((1 : Int32) <<< (a4.2 &&& 31)), a4.1) _ _ _ hP hS (lv_sub hl [0, 2] rfl) hM
  refine lv_iconst (v := 0) hx hb dX9_bare_0 (by decide) ?_
  refine lv_istore_n (lv' := [(1, .int (0 : Int32)), (0, .ref (ad 0))]) hx hb dX9_bare_1 rfl hl (by decide) rfl (fun ls hl => ?_)
  refine lv_iconst (v := 0) hx hb dX9_bare_2 (by decide) ?_
  refine lv_istore_n (lv' := [(2, .int (0 : Int32)), (1, .int (0 : Int32)), (0, .ref (ad 0))]) hx hb dX9_bare_3 rfl hl (by decide) rfl (fun ls hl => ?_)
  exact j4 200 ((0 : Int32), (0 : Int32)) _ _ _ hP hS (lv_sub hl [2, 1, 0] rfl) hM
theorem inX9_begin_X9 : ∀ w ∈ wsX90, w ∈ wsX9_begin := fun w h => List.mem_cons_of_mem _ (List.mem_append_right _ h)
set_option maxHeartbeats 4000000 in
set_option maxRecDepth 100000 in
theorem c_X9_begin (l : Launch) (dC : Nat → ClassId) (dI : Nat → Nat → Nat) (cI cC cZ : ClassId) (sa : Nat → Nat) (ad : Nat → Nat) (mb : BT) (mo : OT) (mn : NT) (mg : GT) (mf : AR) (mt : TT) (mz : AR) (ml : LT) (mi : IT)  {res : NT} (hM : M_X9_begin mb mn = some res) : CTv l (dC, dI) [(cI, .int), (cC, .char), (cZ, .boolean)] sa yX9_begin wsX9_begin (rmd 2) [.ref (ad 0)] (wM cI cZ ad mb mo mn mg mf mt mz ml mi) (fun (uu : NT) => (wM cI cZ ad mb mo uu mg mf mt mz ml mi)) res := by
  refine CTv.enter (own := RX9) (cc := cX9_begin) (maxL := 1) (ret := none) (by decide) rfl rfl (Nat.le_of_ble_eq_true rfl) ?_
  intro pr e s m below meth c A F hr hlk hP hS ls hl
  obtain ⟨⟨hx, hb, hml, hown, hts⟩, hK, hDD, hA, hKC⟩ := id F
  have hl : lv_has ls 1 [(0, .ref (ad 0))] := hl
  have hP : va_P (dC, dI) vwCl (wM cI cZ ad mb mo mn mg mf mt mz ml mi) s.heap := hP
  unfold M_X9_begin at hM
  refine lv_aload_n hx hb dX9_begin_0 rfl (lv_at hl 0 rfl) ?_
  refine lv_iconst (v := 0) hx hb dX9_begin_1 (by decide) ?_
  obtain ⟨hnz, hM⟩ := if_ok hM
  refine g_put (ws' := (wM cI cZ ad mb mo (mn.1, (0 : Int32), mn.2.2.1, mn.2.2.2) mg mf mt mz ml mi)) (ci := 9) (C := RX9) (T := TX9) (N := 32) (v := .int (0 : Int32)) (ty := .boolean) F hP hS rfl tyX9 tyX9_ok nmX9 0 rfl rfl inX9_begin_X9 13 (by decide) (List.mem_of_getElem? (i := 1) rfl) rfl (by decide +kernel) (nar_z hnz) (fit_z hnz) (Nat.le_of_ble_eq_true rfl) dX9_begin_2 rfl (fun H locs hP hS => ?_)
  refine lv_aload_n hx hb dX9_begin_5 rfl (lv_at hl 0 rfl) ?_
  refine lv_iconst (v := 0) hx hb dX9_begin_6 (by decide) ?_
  refine g_put (ws' := (wM cI cZ ad mb mo (mn.1, (0 : Int32), (0 : Int32), mn.2.2.2) mg mf mt mz ml mi)) (ci := 9) (C := RX9) (T := TX9) (N := 32) (v := .int (0 : Int32)) (ty := .int) F hP hS rfl tyX9 tyX9_ok nmX9 0 rfl rfl inX9_begin_X9 14 (by decide) (List.mem_of_getElem? (i := 2) rfl) rfl (by decide +kernel) rfl rfl (Nat.le_of_ble_eq_true rfl) dX9_begin_7 rfl (fun H locs hP hS => ?_)
  refine lv_aload_n hx hb dX9_begin_10 rfl (lv_at hl 0 rfl) ?_
  refine lv_iconst (v := 0) hx hb dX9_begin_11 (by decide) ?_
  refine g_put (ws' := (wM cI cZ ad mb mo (mn.1, (0 : Int32), (0 : Int32), (0 : Int32)) mg mf mt mz ml mi)) (ci := 9) (C := RX9) (T := TX9) (N := 32) (v := .int (0 : Int32)) (ty := .int) F hP hS rfl tyX9 tyX9_ok nmX9 0 rfl rfl inX9_begin_X9 15 (by decide) (List.mem_of_getElem? (i := 3) rfl) rfl (by decide +kernel) rfl rfl (Nat.le_of_ble_eq_true rfl) dX9_begin_12 rfl (fun H locs hP hS => ?_)
  refine lv_aload_n hx hb dX9_begin_15 rfl (lv_at hl 0 rfl) ?_
  refine lv_aload_n hx hb dX9_begin_16 rfl (lv_at hl 0 rfl) ?_
  refine g_get (ci := 9) (C := RX9) (T := TX9) (N := 32) (v := .int mb.2.2.1) F hP 0 rfl rfl inX9_begin_X9 3 (by decide) (List.mem_of_getElem? (i := 4) rfl) rfl dX9_begin_17 ?_
  obtain ⟨z20, hcr, hM⟩ := ob_s hM
  refine res_v (ws' := (wM cI cZ ad mb mo z20 mg mf mt mz ml mi)) F hP hS rfl [0, 1, 2, 3, 4, 5, 6, 7, 8, 9, 10, 11, 12] rfl rfl rfl (runV_of (n := 1) (As := [.int mb.2.2.1]) (rest := []) F hP hS rfl [0, 1, 2, 3, 4, 5, 6, 7, 8, 9, 10, 11, 12] rfl rfl (c_X9_arrive l dC dI cI cC cZ sa ad mb mo (mn.1, (0 : Int32), (0 : Int32), (0 : Int32)) mg mf mt mz ml mi mb.2.2.1 hcr _) gX9_begin_X9_arrive rfl (by decide +kernel) ⟨Nat.le_of_ble_eq_true rfl, Nat.le_of_ble_eq_true rfl⟩ 0 9 rfl rfl rfl hl.1 rfl (Nat.le_of_ble_eq_true rfl) dX9_begin_20 ⟨Nat.zero_le _, Nat.zero_le _⟩) rfl (fun H locs hP hS => ?_)
  exact ret_v hx hb hr hlk dX9_begin_23 hM hP hS
set_option maxHeartbeats 4000000 in
set_option maxRecDepth 100000 in
theorem c_X9_isSort (l : Launch) (dC : Nat → ClassId) (dI : Nat → Nat → Nat) (cI cC cZ : ClassId) (sa : Nat → Nat)  (x1 : Int32) {res : Int32} (hM : M_X9_isSort x1 = some res) : CTi l (dC, dI) [(cI, .int), (cC, .char), (cZ, .boolean)] sa yX9_isSort wsX9_isSort (rmd 1) [.int x1] ([] : va_W) (fun (_ : Unit) => ([] : va_W)) (res, ()) := by
  refine CTi.enter (own := RX9) (cc := cX9_isSort) (maxL := 1) (ret := (some .boolean)) (by decide) rfl rfl (Nat.le_of_ble_eq_true rfl) ?_
  intro pr e s m below meth c A F hr hlk hP hS ls hl
  obtain ⟨⟨hx, hb, hml, hown, hts⟩, hK, hDD, hA, hKC⟩ := id F
  have hl : lv_has ls 1 [(0, .int x1)] := hl
  have hP : va_P (dC, dI) vwCl ([] : va_W) s.heap := hP
  unfold M_X9_isSort at hM
  refine lv_iload_n hx hb dX9_isSort_0 rfl (lv_at hl 0 rfl) ?_
  refine lv_bipush (v := 46) hx hb dX9_isSort_1 (by decide) ?_
  refine lv_icmp_eq (tgt := 30) hx hb dX9_isSort_3 (by decide) (fun hc => ?_) (fun hc => ?_)
  · have hM := if_pp hc hM
    refine lv_iconst (v := 1) hx hb dX9_isSort_30 (by decide) ?_
    refine lv_goto (tgt := 35) hx hb dX9_isSort_31 (by decide) ?_
    exact ret_z hx hb hr hlk dX9_isSort_35 (by decide) (some_u hM) hP hS
  · have hM := if_nn hc hM
    refine lv_iload_n hx hb dX9_isSort_6 rfl (lv_at hl 0 rfl) ?_
    refine lv_bipush (v := 103) hx hb dX9_isSort_7 (by decide) ?_
    refine lv_icmp_eq (tgt := 30) hx hb dX9_isSort_9 (by decide) (fun hc => ?_) (fun hc => ?_)
    · have hM := if_pp hc hM
      refine lv_iconst (v := 1) hx hb dX9_isSort_30 (by decide) ?_
      refine lv_goto (tgt := 35) hx hb dX9_isSort_31 (by decide) ?_
      exact ret_z hx hb hr hlk dX9_isSort_35 (by decide) (some_u hM) hP hS
    · have hM := if_nn hc hM
      refine lv_iload_n hx hb dX9_isSort_12 rfl (lv_at hl 0 rfl) ?_
      refine lv_bipush (v := 99) hx hb dX9_isSort_13 (by decide) ?_
      refine lv_icmp_eq (tgt := 30) hx hb dX9_isSort_15 (by decide) (fun hc => ?_) (fun hc => ?_)
      · have hM := if_pp hc hM
        refine lv_iconst (v := 1) hx hb dX9_isSort_30 (by decide) ?_
        refine lv_goto (tgt := 35) hx hb dX9_isSort_31 (by decide) ?_
        exact ret_z hx hb hr hlk dX9_isSort_35 (by decide) (some_u hM) hP hS
      · have hM := if_nn hc hM
        refine lv_iload_n hx hb dX9_isSort_18 rfl (lv_at hl 0 rfl) ?_
        refine lv_bipush (v := 100) hx hb dX9_isSort_19 (by decide) ?_
        refine lv_icmp_eq (tgt := 30) hx hb dX9_isSort_21 (by decide) (fun hc => ?_) (fun hc => ?_)
        · have hM := if_pp hc hM
          refine lv_iconst (v := 1) hx hb dX9_isSort_30 (by decide) ?_
          refine lv_goto (tgt := 35) hx hb dX9_isSort_31 (by decide) ?_
          exact ret_z hx hb hr hlk dX9_isSort_35 (by decide) (some_u hM) hP hS
        · have hM := if_nn hc hM
          refine lv_iload_n hx hb dX9_isSort_24 rfl (lv_at hl 0 rfl) ?_
          refine lv_bipush (v := 35) hx hb dX9_isSort_25 (by decide) ?_
          refine lv_icmp_ne (tgt := 34) hx hb dX9_isSort_27 (by decide) (fun hc => ?_) (fun hc => ?_)
          · have hM := if_nn hc hM
            refine lv_iconst (v := 0) hx hb dX9_isSort_34 (by decide) ?_
            exact ret_z hx hb hr hlk dX9_isSort_35 (by decide) (some_u hM) hP hS
          · have hM := if_pp hc hM
            refine lv_iconst (v := 1) hx hb dX9_isSort_30 (by decide) ?_
            refine lv_goto (tgt := 35) hx hb dX9_isSort_31 (by decide) ?_
            exact ret_z hx hb hr hlk dX9_isSort_35 (by decide) (some_u hM) hP hS
set_option maxHeartbeats 4000000 in
set_option maxRecDepth 100000 in
theorem c_X9_isStep (l : Launch) (dC : Nat → ClassId) (dI : Nat → Nat → Nat) (cI cC cZ : ClassId) (sa : Nat → Nat)  (x1 : Int32) {res : Int32} (hM : M_X9_isStep x1 = some res) : CTi l (dC, dI) [(cI, .int), (cC, .char), (cZ, .boolean)] sa yX9_isStep wsX9_isStep (rmd 1) [.int x1] ([] : va_W) (fun (_ : Unit) => ([] : va_W)) (res, ()) := by
  refine CTi.enter (own := RX9) (cc := cX9_isStep) (maxL := 1) (ret := (some .boolean)) (by decide) rfl rfl (Nat.le_of_ble_eq_true rfl) ?_
  intro pr e s m below meth c A F hr hlk hP hS ls hl
  obtain ⟨⟨hx, hb, hml, hown, hts⟩, hK, hDD, hA, hKC⟩ := id F
  have hl : lv_has ls 1 [(0, .int x1)] := hl
  have hP : va_P (dC, dI) vwCl ([] : va_W) s.heap := hP
  unfold M_X9_isStep at hM
  refine lv_iload_n hx hb dX9_isStep_0 rfl (lv_at hl 0 rfl) ?_
  refine lv_bipush (v := 110) hx hb dX9_isStep_1 (by decide) ?_
  refine lv_icmp_eq (tgt := 30) hx hb dX9_isStep_3 (by decide) (fun hc => ?_) (fun hc => ?_)
  · have hM := if_pp hc hM
    refine lv_iconst (v := 1) hx hb dX9_isStep_30 (by decide) ?_
    refine lv_goto (tgt := 35) hx hb dX9_isStep_31 (by decide) ?_
    exact ret_z hx hb hr hlk dX9_isStep_35 (by decide) (some_u hM) hP hS
  · have hM := if_nn hc hM
    refine lv_iload_n hx hb dX9_isStep_6 rfl (lv_at hl 0 rfl) ?_
    refine lv_bipush (v := 101) hx hb dX9_isStep_7 (by decide) ?_
    refine lv_icmp_eq (tgt := 30) hx hb dX9_isStep_9 (by decide) (fun hc => ?_) (fun hc => ?_)
    · have hM := if_pp hc hM
      refine lv_iconst (v := 1) hx hb dX9_isStep_30 (by decide) ?_
      refine lv_goto (tgt := 35) hx hb dX9_isStep_31 (by decide) ?_
      exact ret_z hx hb hr hlk dX9_isStep_35 (by decide) (some_u hM) hP hS
    · have hM := if_nn hc hM
      refine lv_iload_n hx hb dX9_isStep_12 rfl (lv_at hl 0 rfl) ?_
      refine lv_bipush (v := 115) hx hb dX9_isStep_13 (by decide) ?_
      refine lv_icmp_eq (tgt := 30) hx hb dX9_isStep_15 (by decide) (fun hc => ?_) (fun hc => ?_)
      · have hM := if_pp hc hM
        refine lv_iconst (v := 1) hx hb dX9_isStep_30 (by decide) ?_
        refine lv_goto (tgt := 35) hx hb dX9_isStep_31 (by decide) ?_
        exact ret_z hx hb hr hlk dX9_isStep_35 (by decide) (some_u hM) hP hS
      · have hM := if_nn hc hM
        refine lv_iload_n hx hb dX9_isStep_18 rfl (lv_at hl 0 rfl) ?_
        refine lv_bipush (v := 119) hx hb dX9_isStep_19 (by decide) ?_
        refine lv_icmp_eq (tgt := 30) hx hb dX9_isStep_21 (by decide) (fun hc => ?_) (fun hc => ?_)
        · have hM := if_pp hc hM
          refine lv_iconst (v := 1) hx hb dX9_isStep_30 (by decide) ?_
          refine lv_goto (tgt := 35) hx hb dX9_isStep_31 (by decide) ?_
          exact ret_z hx hb hr hlk dX9_isStep_35 (by decide) (some_u hM) hP hS
        · have hM := if_nn hc hM
          refine lv_iload_n hx hb dX9_isStep_24 rfl (lv_at hl 0 rfl) ?_
          refine lv_bipush (v := 45) hx hb dX9_isStep_25 (by decide) ?_
          refine lv_icmp_ne (tgt := 34) hx hb dX9_isStep_27 (by decide) (fun hc => ?_) (fun hc => ?_)
          · have hM := if_nn hc hM
            refine lv_iconst (v := 0) hx hb dX9_isStep_34 (by decide) ?_
            exact ret_z hx hb hr hlk dX9_isStep_35 (by decide) (some_u hM) hP hS
          · have hM := if_pp hc hM
            refine lv_iconst (v := 1) hx hb dX9_isStep_30 (by decide) ?_
            refine lv_goto (tgt := 35) hx hb dX9_isStep_31 (by decide) ?_
            exact ret_z hx hb hr hlk dX9_isStep_35 (by decide) (some_u hM) hP hS
theorem inX9_fault_X9 : ∀ w ∈ wsX90, w ∈ wsX9_fault := fun w h => List.mem_cons_of_mem _ (List.mem_append_right _ h)
set_option maxHeartbeats 4000000 in
set_option maxRecDepth 100000 in
theorem c_X9_fault (l : Launch) (dC : Nat → ClassId) (dI : Nat → Nat → Nat) (cI cC cZ : ClassId) (sa : Nat → Nat) (ad : Nat → Nat) (mb : BT) (mo : OT) (mn : NT) (mg : GT) (mf : AR) (mt : TT) (mz : AR) (ml : LT) (mi : IT) (x1 : Int32) {res : Int32} (hM : M_X9_fault mb mo x1 = some res) : CTi l (dC, dI) [(cI, .int), (cC, .char), (cZ, .boolean)] sa yX9_fault wsX9_fault (rmd 2) [.ref (ad 0), .int x1] (wM cI cZ ad mb mo mn mg mf mt mz ml mi) (fun (_ : Unit) => (wM cI cZ ad mb mo mn mg mf mt mz ml mi)) (res, ()) := by
  refine CTi.enter (own := RX9) (cc := cX9_fault) (maxL := 4) (ret := (some .int)) (by decide) rfl rfl (Nat.le_of_ble_eq_true rfl) ?_
  intro pr e s m below meth c A F hr hlk hP hS ls hl
  obtain ⟨⟨hx, hb, hml, hown, hts⟩, hK, hDD, hA, hKC⟩ := id F
  have hl : lv_has ls 4 [(0, .ref (ad 0)), (1, .int x1)] := hl
  have hP : va_P (dC, dI) vwCl (wM cI cZ ad mb mo mn mg mf mt mz ml mi) s.heap := hP
  unfold M_X9_fault at hM
  refine kloop (α := Int32) (res := res) (fun k a => M_X9_fault_15 mb mo x1 k a) (fun rec a => M_X9_fault_15b mb mo x1 rec a) (fun _ => rfl) (fun _ _ => rfl) F (fun a => (wM cI cZ ad mb mo mn mg mf mt mz ml mi)) (fun a => [(0, .ref (ad 0)), (1, .int x1), (2, .int a)]) (fun a => []) 15 ?_ (fun j15 => ?_)
  · intro rc15 ih15 a15 H locs ls hP hS hl hM
    unfold M_X9_fault_15b at hM
    refine kblk (α := Int32 × Int32) (res := res) (fun a => M_X9_fault_64 mb mo x1 rc15 a) F (fun a => (wM cI cZ ad mb mo mn mg mf mt mz ml mi)) (fun a => [(0, .ref (ad 0)), (1, .int x1), (2, .int a.1)]) (fun a => [.int a.2]) 64 ?_ (fun j64 => ?_)
    · intro a64 H locs ls hP hS hl hM
      unfold M_X9_fault_64 at hM
      refine lv_istore_n (lv' := [(3, .int a64.2), (0, .ref (ad 0)), (1, .int x1), (2, .int a64.1)]) hx hb dX9_fault_64 rfl hl (by decide) rfl (fun ls hl => ?_)
      refine lv_iload_n hx hb dX9_fault_65 rfl (lv_at hl 0 rfl) ?_
      refine lv_if_ne (tgt := 71) hx hb dX9_fault_66 (by decide) (fun hc => ?_) (fun hc => ?_)
      · have hM := if_nn hc hM
        refine lv_iinc (v := (a64.1 + (1 : Int32))) (lv' := [(2, .int (a64.1 + (1 : Int32))), (3, .int a64.2), (0, .ref (ad 0)), (1, .int x1)]) hx hb dX9_fault_71 hl (k := 3) rfl rfl (by decide) rfl (fun ls hl => ?_)
        refine lv_goto (tgt := 15) hx hb dX9_fault_74 (by decide) ?_
        exact ih15 (a64.1 + (1 : Int32)) _ _ _ hP hS (lv_sub hl [2, 3, 0] rfl) hM
      · have hM := if_pp hc hM
        refine lv_iload_n hx hb dX9_fault_69 rfl (lv_at hl 3 rfl) ?_
        exact ret_i hx hb hr hlk dX9_fault_70 (some_u hM) hP hS
    refine kblk (α := Int32) (res := res) (fun a => M_X9_fault_51 mb mo x1 rc15 a) F (fun a => (wM cI cZ ad mb mo mn mg mf mt mz ml mi)) (fun a => [(0, .ref (ad 0)), (1, .int x1), (2, .int a)]) (fun a => []) 51 ?_ (fun j51 => ?_)
    · intro a51 H locs ls hP hS hl hM
      unfold M_X9_fault_51 at hM
      refine lv_iconst (v := 0) hx hb dX9_fault_51 (by decide) ?_
      refine lv_goto (tgt := 64) hx hb dX9_fault_52 (by decide) ?_
      exact j64 (a51, (0 : Int32)) _ _ _ hP hS (lv_sub hl [0, 1, 2] rfl) hM
    refine lv_iload_n hx hb dX9_fault_15 rfl (lv_at hl 2 rfl) ?_
    refine lv_aload_n hx hb dX9_fault_16 rfl (lv_at hl 0 rfl) ?_
    refine g_get (ci := 9) (C := RX9) (T := TX9) (N := 32) (v := .int mo.1) F hP 0 rfl rfl inX9_fault_X9 11 (by decide) (List.mem_of_getElem? (i := 1) rfl) rfl dX9_fault_17 ?_
    refine lv_icmp_ge (tgt := 77) hx hb dX9_fault_20 (by decide) (fun hc => ?_) (fun hc => ?_)
    · have hM := if_pp hc hM
      refine lv_iload_n hx hb dX9_fault_77 rfl (lv_at hl 1 rfl) ?_
      refine lv_if_ne (tgt := 99) hx hb dX9_fault_78 (by decide) (fun hc => ?_) (fun hc => ?_)
      · have hM := if_nn hc hM
        refine lv_bipush (v := -6) hx hb dX9_fault_99 (by decide) ?_
        exact ret_i hx hb hr hlk dX9_fault_101 (some_u hM) hP hS
      · have hM := if_pp hc hM
        refine lv_aload_n hx hb dX9_fault_81 rfl (lv_at hl 0 rfl) ?_
        refine g_get (ci := 9) (C := RX9) (T := TX9) (N := 32) (v := .int mo.1) F hP 0 rfl rfl inX9_fault_X9 11 (by decide) (List.mem_of_getElem? (i := 1) rfl) rfl dX9_fault_82 ?_
        refine lv_aload_n hx hb dX9_fault_85 rfl (lv_at hl 0 rfl) ?_
        obtain ⟨z86, hcr, hM⟩ := ob_s hM
        refine res_i0 F hP hS rfl [0, 1, 2, 3, 4, 5, 6, 7, 8, 9, 10, 11, 12] rfl rfl (runV_of (n := 0) (As := []) (rest := [.int mo.1]) F hP hS rfl [0, 1, 2, 3, 4, 5, 6, 7, 8, 9, 10, 11, 12] rfl rfl (c_X9_cells l dC dI cI cC cZ sa ad mb mo mn mg mf mt mz ml mi hcr _) gX9_fault_X9_cells rfl (by decide +kernel) ⟨Nat.le_of_ble_eq_true rfl, Nat.le_of_ble_eq_true rfl⟩ 0 9 rfl rfl rfl hl.1 rfl (Nat.le_of_ble_eq_true rfl) dX9_fault_86 ⟨Nat.zero_le _, Nat.zero_le _⟩) (fun H locs hP hS => ?_)
        refine lv_icmp_ge (tgt := 99) hx hb dX9_fault_89 (by decide) (fun hc => ?_) (fun hc => ?_)
        · have hM := if_pp hc hM
          refine lv_bipush (v := -6) hx hb dX9_fault_99 (by decide) ?_
          exact ret_i hx hb hr hlk dX9_fault_101 (some_u hM) hP hS
        · have hM := if_nn hc hM
          refine lv_aload_n hx hb dX9_fault_92 rfl (lv_at hl 0 rfl) ?_
          refine g_get (ci := 9) (C := RX9) (T := TX9) (N := 32) (v := .int mo.1) F hP 0 rfl rfl inX9_fault_X9 11 (by decide) (List.mem_of_getElem? (i := 1) rfl) rfl dX9_fault_93 ?_
          refine lv_goto (tgt := 101) hx hb dX9_fault_96 (by decide) ?_
          exact ret_i hx hb hr hlk dX9_fault_101 (some_u hM) hP hS
    · have hM := if_nn hc hM
      refine lv_iload_n hx hb dX9_fault_23 rfl (lv_at hl 1 rfl) ?_
      refine lv_if_ne (tgt := 55) hx hb dX9_fault_24 (by decide) (fun hc => ?_) (fun hc => ?_)
      · have hM := if_nn hc hM
        refine lv_aload_n hx hb dX9_fault_55 rfl (lv_at hl 0 rfl) ?_
        refine g_get (ci := 9) (C := RX9) (T := TX9) (N := 32) (v := .ref (ad 5)) F hP 0 rfl rfl inX9_fault_X9 10 (by decide) (List.mem_of_getElem? (i := 2) rfl) rfl dX9_fault_56 ?_
        refine lv_iload_n hx hb dX9_fault_59 rfl (lv_at hl 2 rfl) ?_
        obtain ⟨hin, hM⟩ := if_ok hM
        refine va_iald hx hb hK hP 5 0 rfl rfl hin dX9_fault_60 ?_
        obtain ⟨z61, hcr, hM⟩ := ob_s hM
        refine res_i0 F hP hS rfl [] rfl rfl (runS_of (n := 1) (As := [.int (mo.2 a15.toNatClampNeg)]) (rest := []) F hP hS rfl [] rfl rfl (c_X9_isStep l dC dI cI cC cZ sa (mo.2 a15.toNatClampNeg) hcr _) gX9_fault_X9_isStep rfl (by decide +kernel) ⟨Nat.le_of_ble_eq_true rfl, Nat.le_of_ble_eq_true rfl⟩ rfl hl.1 rfl (Nat.le_of_ble_eq_true rfl) dX9_fault_61 ⟨Nat.zero_le _, Nat.zero_le _⟩) (fun H locs hP hS => ?_)
        exact j64 (a15, z61) _ _ _ hP hS (lv_sub hl [0, 1, 2] rfl) hM
      · have hM := if_pp hc hM
        refine lv_iload_n hx hb dX9_fault_27 rfl (lv_at hl 2 rfl) ?_
        refine lv_aload_n hx hb dX9_fault_28 rfl (lv_at hl 0 rfl) ?_
        obtain ⟨z29, hcr, hM⟩ := ob_s hM
        refine res_i0 F hP hS rfl [0, 1, 2, 3, 4, 5, 6, 7, 8, 9, 10, 11, 12] rfl rfl (runV_of (n := 0) (As := []) (rest := [.int a15]) F hP hS rfl [0, 1, 2, 3, 4, 5, 6, 7, 8, 9, 10, 11, 12] rfl rfl (c_X9_cells l dC dI cI cC cZ sa ad mb mo mn mg mf mt mz ml mi hcr _) gX9_fault_X9_cells rfl (by decide +kernel) ⟨Nat.le_of_ble_eq_true rfl, Nat.le_of_ble_eq_true rfl⟩ 0 9 rfl rfl rfl hl.1 rfl (Nat.le_of_ble_eq_true rfl) dX9_fault_29 ⟨Nat.zero_le _, Nat.zero_le _⟩) (fun H locs hP hS => ?_)
        refine lv_icmp_ge (tgt := 51) hx hb dX9_fault_32 (by decide) (fun hc => ?_) (fun hc => ?_)
        · have hM := if_pp hc hM
          exact j51 a15 _ _ _ hP hS (lv_sub hl [0, 1, 2] rfl) hM
        · have hM := if_nn hc hM
          refine lv_aload_n hx hb dX9_fault_35 rfl (lv_at hl 0 rfl) ?_
          refine g_get (ci := 9) (C := RX9) (T := TX9) (N := 32) (v := .ref (ad 5)) F hP 0 rfl rfl inX9_fault_X9 10 (by decide) (List.mem_of_getElem? (i := 2) rfl) rfl dX9_fault_36 ?_
          refine lv_iload_n hx hb dX9_fault_39 rfl (lv_at hl 2 rfl) ?_
          obtain ⟨hin, hM⟩ := if_ok hM
          refine va_iald hx hb hK hP 5 0 rfl rfl hin dX9_fault_40 ?_
          obtain ⟨z41, hcr, hM⟩ := ob_s hM
          refine res_i0 F hP hS rfl [] rfl rfl (runS_of (n := 1) (As := [.int (mo.2 a15.toNatClampNeg)]) (rest := []) F hP hS rfl [] rfl rfl (c_X9_isSort l dC dI cI cC cZ sa (mo.2 a15.toNatClampNeg) hcr _) gX9_fault_X9_isSort rfl (by decide +kernel) ⟨Nat.le_of_ble_eq_true rfl, Nat.le_of_ble_eq_true rfl⟩ rfl hl.1 rfl (Nat.le_of_ble_eq_true rfl) dX9_fault_41 ⟨Nat.zero_le _, Nat.zero_le _⟩) (fun H locs hP hS => ?_)
          refine lv_if_eq (tgt := 51) hx hb dX9_fault_44 (by decide) (fun hc => ?_) (fun hc => ?_)
          · have hM := if_pp hc hM
            exact j51 a15 _ _ _ hP hS (lv_sub hl [0, 1, 2] rfl) hM
          · have hM := if_nn hc hM
            refine lv_iconst (v := 1) hx hb dX9_fault_47 (by decide) ?_
            refine lv_goto (tgt := 64) hx hb dX9_fault_48 (by decide) ?_
            exact j64 (a15, (1 : Int32)) _ _ _ hP hS (lv_sub hl [0, 1, 2] rfl) hM
  refine lv_iload_n hx hb dX9_fault_0 rfl (lv_at hl 1 rfl) ?_
  refine lv_i2l (v := x1.toInt64) hx hb dX9_fault_1 rfl ?_
  refine lv_lconst (v := 0) hx hb dX9_fault_2 (by decide) ?_
  refine lv_lconst (v := 1) hx hb dX9_fault_3 (by decide) ?_
  obtain ⟨z4, hcr, hM⟩ := ob_s hM
  refine res_i0 F hP hS rfl [] rfl rfl (runS_of (n := 3) (As := [.long x1.toInt64, .long (0 : Int64), .long (1 : Int64)]) (rest := []) F hP hS rfl [] rfl rfl (c_X9_in l dC dI cI cC cZ sa x1.toInt64 (0 : Int64) (1 : Int64) hcr _) gX9_fault_X9_in rfl (by decide +kernel) ⟨Nat.le_of_ble_eq_true rfl, Nat.le_of_ble_eq_true rfl⟩ rfl hl.1 rfl (Nat.le_of_ble_eq_true rfl) dX9_fault_4 ⟨Nat.zero_le _, Nat.zero_le _⟩) (fun H locs hP hS => ?_)
  refine lv_if_ne (tgt := 13) hx hb dX9_fault_7 (by decide) (fun hc => ?_) (fun hc => ?_)
  · have hM := if_nn hc hM
    refine lv_iconst (v := 0) hx hb dX9_fault_13 (by decide) ?_
    refine lv_istore_n (lv' := [(2, .int (0 : Int32)), (0, .ref (ad 0)), (1, .int x1)]) hx hb dX9_fault_14 rfl hl (by decide) rfl (fun ls hl => ?_)
    exact j15 200 (0 : Int32) _ _ _ hP hS (lv_sub hl [1, 2, 0] rfl) hM
  · have hM := if_pp hc hM
    refine lv_bipush (v := -2) hx hb dX9_fault_10 (by decide) ?_
    exact ret_i hx hb hr hlk dX9_fault_12 (some_u hM) hP hS
theorem inX9_build_X9 : ∀ w ∈ wsX90, w ∈ wsX9_build := fun w h => List.mem_cons_of_mem _ (List.mem_append_right _ h)
set_option maxHeartbeats 4000000 in
set_option maxRecDepth 100000 in
theorem c_X9_build (l : Launch) (dC : Nat → ClassId) (dI : Nat → Nat → Nat) (cI cC cZ : ClassId) (sa : Nat → Nat) (ad : Nat → Nat) (mb : BT) (mo : OT) (mn : NT) (mg : GT) (mf : AR) (mt : TT) (mz : AR) (ml : LT) (mi : IT)  {res : Int32 × BT × OT} (hM : M_X9_build mb mo = some res) : CTi l (dC, dI) [(cI, .int), (cC, .char), (cZ, .boolean)] sa yX9_build wsX9_build (rmd 3) [.ref (ad 0)] (wM cI cZ ad mb mo mn mg mf mt mz ml mi) (fun (uu : BT × OT) => (wM cI cZ ad uu.1 uu.2 mn mg mf mt mz ml mi)) res := by
  refine CTi.enter (own := RX9) (cc := cX9_build) (maxL := 5) (ret := (some .int)) (by decide) rfl rfl (Nat.le_of_ble_eq_true rfl) ?_
  intro pr e s m below meth c A F hr hlk hP hS ls hl
  obtain ⟨⟨hx, hb, hml, hown, hts⟩, hK, hDD, hA, hKC⟩ := id F
  have hl : lv_has ls 5 [(0, .ref (ad 0))] := hl
  have hP : va_P (dC, dI) vwCl (wM cI cZ ad mb mo mn mg mf mt mz ml mi) s.heap := hP
  unfold M_X9_build at hM
  refine kloop (α := BT × OT × Int32 × Int32 × Int32 × Int32) (res := res) (fun k a => M_X9_build_76  k a) (fun rec a => M_X9_build_76b  rec a) (fun _ => rfl) (fun _ _ => rfl) F (fun a => (wM cI cZ ad a.1 a.2.1 mn mg mf mt mz ml mi)) (fun a => [(0, .ref (ad 0)), (1, .int a.2.2.1), (2, .int a.2.2.2.1), (3, .int a.2.2.2.2.1), (4, .int a.2.2.2.2.2)]) (fun a => []) 76 ?_ (fun j76 => ?_)
  · intro rc76 ih76 a76 H locs ls hP hS hl hM
    unfold M_X9_build_76b at hM
    refine lv_iload hx hb dX9_build_76 (lv_at hl 4 rfl) ?_
    refine lv_aload_n hx hb dX9_build_78 rfl (lv_at hl 0 rfl) ?_
    refine g_get (ci := 9) (C := RX9) (T := TX9) (N := 32) (v := .int a76.2.1.1) F hP 0 rfl rfl inX9_build_X9 11 (by decide) (List.mem_of_getElem? (i := 1) rfl) rfl dX9_build_79 ?_
    refine lv_icmp_ge (tgt := 105) hx hb dX9_build_82 (by decide) (fun hc => ?_) (fun hc => ?_)
    · have hM := if_pp hc hM
      refine lv_aload_n hx hb dX9_build_105 rfl (lv_at hl 0 rfl) ?_
      refine lv_iload_n hx hb dX9_build_106 rfl (lv_at hl 2 rfl) ?_
      refine g_put (ws' := (wM cI cZ ad (a76.1.1, a76.1.2.1, a76.2.2.2.1, a76.1.2.2.2.1, a76.1.2.2.2.2.1, a76.1.2.2.2.2.2.1, a76.1.2.2.2.2.2.2.1, a76.1.2.2.2.2.2.2.2.1, a76.1.2.2.2.2.2.2.2.2.1, a76.1.2.2.2.2.2.2.2.2.2) a76.2.1 mn mg mf mt mz ml mi)) (ci := 9) (C := RX9) (T := TX9) (N := 32) (v := .int a76.2.2.2.1) (ty := .int) F hP hS rfl tyX9 tyX9_ok nmX9 0 rfl rfl inX9_build_X9 3 (by decide) (List.mem_of_getElem? (i := 4) rfl) rfl (by decide +kernel) rfl rfl (Nat.le_of_ble_eq_true rfl) dX9_build_107 rfl (fun H locs hP hS => ?_)
      refine lv_aload_n hx hb dX9_build_110 rfl (lv_at hl 0 rfl) ?_
      refine lv_iload_n hx hb dX9_build_111 rfl (lv_at hl 3 rfl) ?_
      refine g_put (ws' := (wM cI cZ ad (a76.1.1, a76.1.2.1, a76.2.2.2.1, a76.2.2.2.2.1, a76.1.2.2.2.2.1, a76.1.2.2.2.2.2.1, a76.1.2.2.2.2.2.2.1, a76.1.2.2.2.2.2.2.2.1, a76.1.2.2.2.2.2.2.2.2.1, a76.1.2.2.2.2.2.2.2.2.2) a76.2.1 mn mg mf mt mz ml mi)) (ci := 9) (C := RX9) (T := TX9) (N := 32) (v := .int a76.2.2.2.2.1) (ty := .int) F hP hS rfl tyX9 tyX9_ok nmX9 0 rfl rfl inX9_build_X9 4 (by decide) (List.mem_of_getElem? (i := 5) rfl) rfl (by decide +kernel) rfl rfl (Nat.le_of_ble_eq_true rfl) dX9_build_112 rfl (fun H locs hP hS => ?_)
      refine lv_aload_n hx hb dX9_build_115 rfl (lv_at hl 0 rfl) ?_
      refine lv_iconst (v := 0) hx hb dX9_build_116 (by decide) ?_
      refine g_put (ws' := (wM cI cZ ad (a76.1.1, a76.1.2.1, a76.2.2.2.1, a76.2.2.2.2.1, (0 : Int32), a76.1.2.2.2.2.2.1, a76.1.2.2.2.2.2.2.1, a76.1.2.2.2.2.2.2.2.1, a76.1.2.2.2.2.2.2.2.2.1, a76.1.2.2.2.2.2.2.2.2.2) a76.2.1 mn mg mf mt mz ml mi)) (ci := 9) (C := RX9) (T := TX9) (N := 32) (v := .int (0 : Int32)) (ty := .int) F hP hS rfl tyX9 tyX9_ok nmX9 0 rfl rfl inX9_build_X9 8 (by decide) (List.mem_of_getElem? (i := 6) rfl) rfl (by decide +kernel) rfl rfl (Nat.le_of_ble_eq_true rfl) dX9_build_117 rfl (fun H locs hP hS => ?_)
      refine lv_aload_n hx hb dX9_build_120 rfl (lv_at hl 0 rfl) ?_
      refine lv_iconst (v := 0) hx hb dX9_build_121 (by decide) ?_
      refine g_put (ws' := (wM cI cZ ad (a76.1.1, a76.1.2.1, a76.2.2.2.1, a76.2.2.2.2.1, (0 : Int32), a76.1.2.2.2.2.2.1, a76.1.2.2.2.2.2.2.1, a76.1.2.2.2.2.2.2.2.1, a76.1.2.2.2.2.2.2.2.2.1, a76.1.2.2.2.2.2.2.2.2.2) ((0 : Int32), a76.2.1.2) mn mg mf mt mz ml mi)) (ci := 9) (C := RX9) (T := TX9) (N := 32) (v := .int (0 : Int32)) (ty := .int) F hP hS rfl tyX9 tyX9_ok nmX9 0 rfl rfl inX9_build_X9 11 (by decide) (List.mem_of_getElem? (i := 1) rfl) rfl (by decide +kernel) rfl rfl (Nat.le_of_ble_eq_true rfl) dX9_build_122 rfl (fun H locs hP hS => ?_)
      refine lv_iload_n hx hb dX9_build_125 rfl (lv_at hl 1 rfl) ?_
      exact ret_i hx hb hr hlk dX9_build_126 hM hP hS
    · have hM := if_nn hc hM
      refine lv_aload_n hx hb dX9_build_85 rfl (lv_at hl 0 rfl) ?_
      refine g_get (ci := 9) (C := RX9) (T := TX9) (N := 32) (v := .ref (ad 1)) F hP 0 rfl rfl inX9_build_X9 2 (by decide) (List.mem_of_getElem? (i := 3) rfl) rfl dX9_build_86 ?_
      refine lv_iload hx hb dX9_build_89 (lv_at hl 4 rfl) ?_
      refine lv_aload_n hx hb dX9_build_91 rfl (lv_at hl 0 rfl) ?_
      refine g_get (ci := 9) (C := RX9) (T := TX9) (N := 32) (v := .ref (ad 5)) F hP 0 rfl rfl inX9_build_X9 10 (by decide) (List.mem_of_getElem? (i := 2) rfl) rfl dX9_build_92 ?_
      refine lv_iload hx hb dX9_build_95 (lv_at hl 4 rfl) ?_
      obtain ⟨hin, hM⟩ := if_ok hM
      refine va_iald hx hb hK hP 5 0 rfl rfl hin dX9_build_97 ?_
      obtain ⟨hin, hM⟩ := if_ok hM
      refine g_iast (ws' := (wM cI cZ ad (a76.1.1, a76.1.2.1, a76.1.2.2.1, a76.1.2.2.2.1, a76.1.2.2.2.2.1, a76.1.2.2.2.2.2.1, (upd a76.1.2.2.2.2.2.2.1 a76.2.2.2.2.2.toNatClampNeg (a76.2.1.2 a76.2.2.2.2.2.toNatClampNeg)), a76.1.2.2.2.2.2.2.2.1, a76.1.2.2.2.2.2.2.2.2.1, a76.1.2.2.2.2.2.2.2.2.2) a76.2.1 mn mg mf mt mz ml mi)) F hP hS rfl 1 0 rfl rfl hin dX9_build_98 rfl (fun H locs hP hS => ?_)
      refine lv_iinc (v := (a76.2.2.2.2.2 + (1 : Int32))) (lv' := [(4, .int (a76.2.2.2.2.2 + (1 : Int32))), (0, .ref (ad 0)), (1, .int a76.2.2.1), (2, .int a76.2.2.2.1), (3, .int a76.2.2.2.2.1)]) hx hb dX9_build_99 hl (k := 4) rfl rfl (by decide) rfl (fun ls hl => ?_)
      refine lv_goto (tgt := 76) hx hb dX9_build_102 (by decide) ?_
      exact ih76 ((a76.1.1, a76.1.2.1, a76.1.2.2.1, a76.1.2.2.2.1, a76.1.2.2.2.2.1, a76.1.2.2.2.2.2.1, (upd a76.1.2.2.2.2.2.2.1 a76.2.2.2.2.2.toNatClampNeg (a76.2.1.2 a76.2.2.2.2.2.toNatClampNeg)), a76.1.2.2.2.2.2.2.2.1, a76.1.2.2.2.2.2.2.2.2.1, a76.1.2.2.2.2.2.2.2.2.2), a76.2.1, a76.2.2.1, a76.2.2.2.1, a76.2.2.2.2.1, (a76.2.2.2.2.2 + (1 : Int32))) _ _ _ hP hS (lv_sub hl [1, 2, 3, 4, 0] rfl) hM
  refine kloop (α := BT × OT × Int32 × Int32 × Int32 × Int32) (res := res) (fun k a => M_X9_build_22  k a) (fun rec a => M_X9_build_22b  rec a) (fun _ => rfl) (fun _ _ => rfl) F (fun a => (wM cI cZ ad a.1 a.2.1 mn mg mf mt mz ml mi)) (fun a => [(0, .ref (ad 0)), (1, .int a.2.2.1), (2, .int a.2.2.2.1), (3, .int a.2.2.2.2.1), (4, .int a.2.2.2.2.2)]) (fun a => []) 22 ?_ (fun j22 => ?_)
  · intro rc22 ih22 a22 H locs ls hP hS hl hM
    unfold M_X9_build_22b at hM
    refine kblk (α := BT × OT × Int32 × Int32 × Int32 × Int32) (res := res) (fun a => M_X9_build_60 rc22 a) F (fun a => (wM cI cZ ad a.1 a.2.1 mn mg mf mt mz ml mi)) (fun a => [(0, .ref (ad 0)), (1, .int a.2.2.1), (2, .int a.2.2.2.1), (3, .int a.2.2.2.2.1), (4, .int a.2.2.2.2.2)]) (fun a => []) 60 ?_ (fun j60 => ?_)
    · intro a60 H locs ls hP hS hl hM
      unfold M_X9_build_60 at hM
      refine lv_iinc (v := (a60.2.2.2.2.2 + (1 : Int32))) (lv' := [(4, .int (a60.2.2.2.2.2 + (1 : Int32))), (0, .ref (ad 0)), (1, .int a60.2.2.1), (2, .int a60.2.2.2.1), (3, .int a60.2.2.2.2.1)]) hx hb dX9_build_60 hl (k := 4) rfl rfl (by decide) rfl (fun ls hl => ?_)
      refine lv_goto (tgt := 22) hx hb dX9_build_63 (by decide) ?_
      exact ih22 (a60.1, a60.2.1, a60.2.2.1, a60.2.2.2.1, a60.2.2.2.2.1, (a60.2.2.2.2.2 + (1 : Int32))) _ _ _ hP hS (lv_sub hl [1, 2, 3, 4, 0] rfl) hM
    refine kblk (α := BT × OT × Int32 × Int32 × Int32) (res := res) (fun a => M_X9_build_56 rc22 a) F (fun a => (wM cI cZ ad a.1 a.2.1 mn mg mf mt mz ml mi)) (fun a => [(0, .ref (ad 0)), (1, .int a.2.2.1), (4, .int a.2.2.2.1)]) (fun a => [.int a.2.2.2.2]) 56 ?_ (fun j56 => ?_)
    · intro a56 H locs ls hP hS hl hM
      unfold M_X9_build_56 at hM
      refine lv_istore_n (lv' := [(2, .int a56.2.2.2.2), (0, .ref (ad 0)), (1, .int a56.2.2.1), (4, .int a56.2.2.2.1)]) hx hb dX9_build_56 rfl hl (by decide) rfl (fun ls hl => ?_)
      refine lv_iload hx hb dX9_build_57 (lv_at hl 3 rfl) ?_
      refine lv_istore_n (lv' := [(3, .int a56.2.2.2.1), (2, .int a56.2.2.2.2), (0, .ref (ad 0)), (1, .int a56.2.2.1), (4, .int a56.2.2.2.1)]) hx hb dX9_build_59 rfl hl (by decide) rfl (fun ls hl => ?_)
      exact j60 (a56.1, a56.2.1, a56.2.2.1, a56.2.2.2.2, a56.2.2.2.1, a56.2.2.2.1) _ _ _ hP hS (lv_sub hl [2, 3, 1, 0, 4] rfl) hM
    refine lv_iload hx hb dX9_build_22 (lv_at hl 4 rfl) ?_
    refine lv_aload_n hx hb dX9_build_24 rfl (lv_at hl 0 rfl) ?_
    refine g_get (ci := 9) (C := RX9) (T := TX9) (N := 32) (v := .int a22.2.1.1) F hP 0 rfl rfl inX9_build_X9 11 (by decide) (List.mem_of_getElem? (i := 1) rfl) rfl dX9_build_25 ?_
    refine lv_icmp_ge (tgt := 66) hx hb dX9_build_28 (by decide) (fun hc => ?_) (fun hc => ?_)
    · have hM := if_pp hc hM
      refine lv_iload_n hx hb dX9_build_66 rfl (lv_at hl 1 rfl) ?_
      refine lv_if_ne (tgt := 73) hx hb dX9_build_67 (by decide) (fun hc => ?_) (fun hc => ?_)
      · have hM := if_nn hc hM
        refine lv_iconst (v := 0) hx hb dX9_build_73 (by decide) ?_
        refine lv_istore (lv' := [(4, .int (0 : Int32)), (0, .ref (ad 0)), (1, .int a22.2.2.1), (2, .int a22.2.2.2.1), (3, .int a22.2.2.2.2.1)]) hx hb dX9_build_74 hl (by decide) rfl (fun ls hl => ?_)
        exact j76 200 (a22.1, a22.2.1, a22.2.2.1, a22.2.2.2.1, a22.2.2.2.2.1, (0 : Int32)) _ _ _ hP hS (lv_sub hl [1, 2, 3, 4, 0] rfl) hM
      · have hM := if_pp hc hM
        refine lv_bipush (v := -3) hx hb dX9_build_70 (by decide) ?_
        exact ret_i hx hb hr hlk dX9_build_72 hM hP hS
    · have hM := if_nn hc hM
      refine lv_aload_n hx hb dX9_build_31 rfl (lv_at hl 0 rfl) ?_
      refine g_get (ci := 9) (C := RX9) (T := TX9) (N := 32) (v := .ref (ad 5)) F hP 0 rfl rfl inX9_build_X9 10 (by decide) (List.mem_of_getElem? (i := 2) rfl) rfl dX9_build_32 ?_
      refine lv_iload hx hb dX9_build_35 (lv_at hl 4 rfl) ?_
      obtain ⟨hin, hM⟩ := if_ok hM
      refine va_iald hx hb hK hP 5 0 rfl rfl hin dX9_build_37 ?_
      refine lv_bipush (v := 35) hx hb dX9_build_38 (by decide) ?_
      refine lv_icmp_eq (tgt := 60) hx hb dX9_build_40 (by decide) (fun hc => ?_) (fun hc => ?_)
      · have hM := if_pp hc hM
        exact j60 (a22.1, a22.2.1, a22.2.2.1, a22.2.2.2.1, a22.2.2.2.2.1, a22.2.2.2.2.2) _ _ _ hP hS (lv_sub hl [0, 1, 2, 3, 4] rfl) hM
      · have hM := if_nn hc hM
        refine lv_iinc (v := (a22.2.2.1 + (1 : Int32))) (lv' := [(1, .int (a22.2.2.1 + (1 : Int32))), (0, .ref (ad 0)), (2, .int a22.2.2.2.1), (3, .int a22.2.2.2.2.1), (4, .int a22.2.2.2.2.2)]) hx hb dX9_build_43 hl (k := 1) rfl rfl (by decide) rfl (fun ls hl => ?_)
        refine lv_iload_n hx hb dX9_build_46 rfl (lv_at hl 2 rfl) ?_
        refine lv_if_ge (tgt := 55) hx hb dX9_build_47 (by decide) (fun hc => ?_) (fun hc => ?_)
        · have hM := if_pp hc hM
          refine lv_iload_n hx hb dX9_build_55 rfl (lv_at hl 2 rfl) ?_
          exact j56 (a22.1, a22.2.1, (a22.2.2.1 + (1 : Int32)), a22.2.2.2.2.2, a22.2.2.2.1) _ _ _ hP hS (lv_sub hl [1, 0, 4] rfl) hM
        · have hM := if_nn hc hM
          refine lv_iload hx hb dX9_build_50 (lv_at hl 4 rfl) ?_
          refine lv_goto (tgt := 56) hx hb dX9_build_52 (by decide) ?_
          exact j56 (a22.1, a22.2.1, (a22.2.2.1 + (1 : Int32)), a22.2.2.2.2.2, a22.2.2.2.2.2) _ _ _ hP hS (lv_sub hl [1, 0, 4] rfl) hM
  refine lv_aload_n hx hb dX9_build_0 rfl (lv_at hl 0 rfl) ?_
  refine lv_iconst (v := 0) hx hb dX9_build_1 (by decide) ?_
  obtain ⟨z2, hcr, hM⟩ := ob_s hM
  refine res_i0 F hP hS rfl [0, 1, 2, 3, 4, 5, 6, 7, 8, 9, 10, 11, 12] rfl rfl (runV_of (n := 1) (As := [.int (0 : Int32)]) (rest := []) F hP hS rfl [0, 1, 2, 3, 4, 5, 6, 7, 8, 9, 10, 11, 12] rfl rfl (c_X9_fault l dC dI cI cC cZ sa ad mb mo mn mg mf mt mz ml mi (0 : Int32) hcr _) gX9_build_X9_fault rfl (by decide +kernel) ⟨Nat.le_of_ble_eq_true rfl, Nat.le_of_ble_eq_true rfl⟩ 0 9 rfl rfl rfl hl.1 rfl (Nat.le_of_ble_eq_true rfl) dX9_build_2 ⟨Nat.zero_le _, Nat.zero_le _⟩) (fun H locs hP hS => ?_)
  refine lv_if_lt (tgt := 11) hx hb dX9_build_5 (by decide) (fun hc => ?_) (fun hc => ?_)
  · have hM := if_pp hc hM
    refine lv_iconst (v := 0) hx hb dX9_build_11 (by decide) ?_
    refine lv_istore_n (lv' := [(1, .int (0 : Int32)), (0, .ref (ad 0))]) hx hb dX9_build_12 rfl hl (by decide) rfl (fun ls hl => ?_)
    refine lv_bipush (v := -6) hx hb dX9_build_13 (by decide) ?_
    refine lv_istore_n (lv' := [(2, .int (-6 : Int32)), (1, .int (0 : Int32)), (0, .ref (ad 0))]) hx hb dX9_build_15 rfl hl (by decide) rfl (fun ls hl => ?_)
    refine lv_bipush (v := -6) hx hb dX9_build_16 (by decide) ?_
    refine lv_istore_n (lv' := [(3, .int (-6 : Int32)), (2, .int (-6 : Int32)), (1, .int (0 : Int32)), (0, .ref (ad 0))]) hx hb dX9_build_18 rfl hl (by decide) rfl (fun ls hl => ?_)
    refine lv_iconst (v := 0) hx hb dX9_build_19 (by decide) ?_
    refine lv_istore (lv' := [(4, .int (0 : Int32)), (3, .int (-6 : Int32)), (2, .int (-6 : Int32)), (1, .int (0 : Int32)), (0, .ref (ad 0))]) hx hb dX9_build_20 hl (by decide) rfl (fun ls hl => ?_)
    exact j22 200 (mb, mo, (0 : Int32), (-6 : Int32), (-6 : Int32), (0 : Int32)) _ _ _ hP hS (lv_sub hl [4, 3, 2, 1, 0] rfl) hM
  · have hM := if_nn hc hM
    refine lv_bipush (v := -5) hx hb dX9_build_8 (by decide) ?_
    exact ret_i hx hb hr hlk dX9_build_10 hM hP hS
set_option maxHeartbeats 4000000 in
set_option maxRecDepth 100000 in
theorem c_X9_isCell (l : Launch) (dC : Nat → ClassId) (dI : Nat → Nat → Nat) (cI cC cZ : ClassId) (sa : Nat → Nat) (ad : Nat → Nat) (mb : BT) (mo : OT) (mn : NT) (mg : GT) (mf : AR) (mt : TT) (mz : AR) (ml : LT) (mi : IT) (x1 : Int32) {res : Int32} (hM : M_X9_isCell mb x1 = some res) : CTi l (dC, dI) [(cI, .int), (cC, .char), (cZ, .boolean)] sa yX9_isCell wsX9_isCell (rmd 2) [.ref (ad 0), .int x1] (wM cI cZ ad mb mo mn mg mf mt mz ml mi) (fun (_ : Unit) => (wM cI cZ ad mb mo mn mg mf mt mz ml mi)) (res, ()) := by
  refine CTi.enter (own := RX9) (cc := cX9_isCell) (maxL := 2) (ret := (some .boolean)) (by decide) rfl rfl (Nat.le_of_ble_eq_true rfl) ?_
  intro pr e s m below meth c A F hr hlk hP hS ls hl
  obtain ⟨⟨hx, hb, hml, hown, hts⟩, hK, hDD, hA, hKC⟩ := id F
  have hl : lv_has ls 2 [(0, .ref (ad 0)), (1, .int x1)] := hl
  have hP : va_P (dC, dI) vwCl (wM cI cZ ad mb mo mn mg mf mt mz ml mi) s.heap := hP
  unfold M_X9_isCell at hM
  refine lv_iload_n hx hb dX9_isCell_0 rfl (lv_at hl 1 rfl) ?_
  refine lv_i2l (v := x1.toInt64) hx hb dX9_isCell_1 rfl ?_
  refine lv_lconst (v := 0) hx hb dX9_isCell_2 (by decide) ?_
  refine lv_aload_n hx hb dX9_isCell_3 rfl (lv_at hl 0 rfl) ?_
  obtain ⟨z4, hcr, hM⟩ := ob_s hM
  refine res_i0 F hP hS rfl [0, 1, 2, 3, 4, 5, 6, 7, 8, 9, 10, 11, 12] rfl rfl (runV_of (n := 0) (As := []) (rest := [.long (0 : Int64), .long x1.toInt64]) F hP hS rfl [0, 1, 2, 3, 4, 5, 6, 7, 8, 9, 10, 11, 12] rfl rfl (c_X9_cells l dC dI cI cC cZ sa ad mb mo mn mg mf mt mz ml mi hcr _) gX9_isCell_X9_cells rfl (by decide +kernel) ⟨Nat.le_of_ble_eq_true rfl, Nat.le_of_ble_eq_true rfl⟩ 0 9 rfl rfl rfl hl.1 rfl (Nat.le_of_ble_eq_true rfl) dX9_isCell_4 ⟨Nat.zero_le _, Nat.zero_le _⟩) (fun H locs hP hS => ?_)
  refine lv_iconst (v := 1) hx hb dX9_isCell_7 (by decide) ?_
  refine lv_isub hx hb dX9_isCell_8 ?_
  refine lv_i2l (v := (z4 - (1 : Int32)).toInt64) hx hb dX9_isCell_9 rfl ?_
  obtain ⟨z10, hcr, hM⟩ := ob_s hM
  refine res_i0 F hP hS rfl [] rfl rfl (runS_of (n := 3) (As := [.long x1.toInt64, .long (0 : Int64), .long ((z4 - (1 : Int32)).toInt64)]) (rest := []) F hP hS rfl [] rfl rfl (c_X9_in l dC dI cI cC cZ sa x1.toInt64 (0 : Int64) ((z4 - (1 : Int32)).toInt64) hcr _) gX9_isCell_X9_in rfl (by decide +kernel) ⟨Nat.le_of_ble_eq_true rfl, Nat.le_of_ble_eq_true rfl⟩ rfl hl.1 rfl (Nat.le_of_ble_eq_true rfl) dX9_isCell_10 ⟨Nat.zero_le _, Nat.zero_le _⟩) (fun H locs hP hS => ?_)
  obtain ⟨hnz, hM⟩ := if_ok hM
  exact ret_z hx hb hr hlk dX9_isCell_13 (nar_z hnz) (some_u hM) hP hS
theorem inX9_cell_X9 : ∀ w ∈ wsX90, w ∈ wsX9_cell := fun w h => List.mem_cons_of_mem _ (List.mem_append_right _ h)
set_option maxHeartbeats 4000000 in
set_option maxRecDepth 100000 in
theorem c_X9_cell (l : Launch) (dC : Nat → ClassId) (dI : Nat → Nat → Nat) (cI cC cZ : ClassId) (sa : Nat → Nat) (ad : Nat → Nat) (mb : BT) (mo : OT) (mn : NT) (mg : GT) (mf : AR) (mt : TT) (mz : AR) (ml : LT) (mi : IT) (x1 : Int32) {res : Int32} (hM : M_X9_cell mb x1 = some res) : CTi l (dC, dI) [(cI, .int), (cC, .char), (cZ, .boolean)] sa yX9_cell wsX9_cell (rmd 3) [.ref (ad 0), .int x1] (wM cI cZ ad mb mo mn mg mf mt mz ml mi) (fun (_ : Unit) => (wM cI cZ ad mb mo mn mg mf mt mz ml mi)) (res, ()) := by
  refine CTi.enter (own := RX9) (cc := cX9_cell) (maxL := 2) (ret := (some .int)) (by decide) rfl rfl (Nat.le_of_ble_eq_true rfl) ?_
  intro pr e s m below meth c A F hr hlk hP hS ls hl
  obtain ⟨⟨hx, hb, hml, hown, hts⟩, hK, hDD, hA, hKC⟩ := id F
  have hl : lv_has ls 2 [(0, .ref (ad 0)), (1, .int x1)] := hl
  have hP : va_P (dC, dI) vwCl (wM cI cZ ad mb mo mn mg mf mt mz ml mi) s.heap := hP
  unfold M_X9_cell at hM
  refine lv_aload_n hx hb dX9_cell_0 rfl (lv_at hl 0 rfl) ?_
  refine lv_iload_n hx hb dX9_cell_1 rfl (lv_at hl 1 rfl) ?_
  obtain ⟨z2, hcr, hM⟩ := ob_s hM
  refine res_i0 F hP hS rfl [0, 1, 2, 3, 4, 5, 6, 7, 8, 9, 10, 11, 12] rfl rfl (runV_of (n := 1) (As := [.int x1]) (rest := []) F hP hS rfl [0, 1, 2, 3, 4, 5, 6, 7, 8, 9, 10, 11, 12] rfl rfl (c_X9_isCell l dC dI cI cC cZ sa ad mb mo mn mg mf mt mz ml mi x1 hcr _) gX9_cell_X9_isCell rfl (by decide +kernel) ⟨Nat.le_of_ble_eq_true rfl, Nat.le_of_ble_eq_true rfl⟩ 0 9 rfl rfl rfl hl.1 rfl (Nat.le_of_ble_eq_true rfl) dX9_cell_2 ⟨Nat.zero_le _, Nat.zero_le _⟩) (fun H locs hP hS => ?_)
  refine lv_if_eq (tgt := 17) hx hb dX9_cell_5 (by decide) (fun hc => ?_) (fun hc => ?_)
  · have hM := if_pp hc hM
    refine lv_iconst (v := -1) hx hb dX9_cell_17 (by decide) ?_
    exact ret_i hx hb hr hlk dX9_cell_18 (some_u hM) hP hS
  · have hM := if_nn hc hM
    refine lv_aload_n hx hb dX9_cell_8 rfl (lv_at hl 0 rfl) ?_
    refine g_get (ci := 9) (C := RX9) (T := TX9) (N := 32) (v := .ref (ad 1)) F hP 0 rfl rfl inX9_cell_X9 2 (by decide) (List.mem_of_getElem? (i := 1) rfl) rfl dX9_cell_9 ?_
    refine lv_iload_n hx hb dX9_cell_12 rfl (lv_at hl 1 rfl) ?_
    obtain ⟨hin, hM⟩ := if_ok hM
    refine va_iald hx hb hK hP 1 0 rfl rfl hin dX9_cell_13 ?_
    refine lv_goto (tgt := 18) hx hb dX9_cell_14 (by decide) ?_
    exact ret_i hx hb hr hlk dX9_cell_18 (some_u hM) hP hS
set_option maxHeartbeats 4000000 in
set_option maxRecDepth 100000 in
theorem c_X9_codeOf (l : Launch) (dC : Nat → ClassId) (dI : Nat → Nat → Nat) (cI cC cZ : ClassId) (sa : Nat → Nat)  (x1 : Int32) {res : Int32} (hM : M_X9_codeOf x1 = some res) : CTi l (dC, dI) [(cI, .int), (cC, .char), (cZ, .boolean)] sa yX9_codeOf wsX9_codeOf (rmd 1) [.int x1] ([] : va_W) (fun (_ : Unit) => ([] : va_W)) (res, ()) := by
  refine CTi.enter (own := RX9) (cc := cX9_codeOf) (maxL := 1) (ret := (some .int)) (by decide) rfl rfl (Nat.le_of_ble_eq_true rfl) ?_
  intro pr e s m below meth c A F hr hlk hP hS ls hl
  obtain ⟨⟨hx, hb, hml, hown, hts⟩, hK, hDD, hA, hKC⟩ := id F
  have hl : lv_has ls 1 [(0, .int x1)] := hl
  have hP : va_P (dC, dI) vwCl ([] : va_W) s.heap := hP
  unfold M_X9_codeOf at hM
  refine lv_iload_n hx hb dX9_codeOf_0 rfl (lv_at hl 0 rfl) ?_
  refine lv_if_ne (tgt := 9) hx hb dX9_codeOf_1 (by decide) (fun hc => ?_) (fun hc => ?_)
  · have hM := if_nn hc hM
    refine lv_iload_n hx hb dX9_codeOf_9 rfl (lv_at hl 0 rfl) ?_
    refine lv_iconst (v := 1) hx hb dX9_codeOf_10 (by decide) ?_
    refine lv_icmp_ne (tgt := 19) hx hb dX9_codeOf_11 (by decide) (fun hc => ?_) (fun hc => ?_)
    · have hM := if_nn hc hM
      refine lv_iload_n hx hb dX9_codeOf_19 rfl (lv_at hl 0 rfl) ?_
      refine lv_iconst (v := 2) hx hb dX9_codeOf_20 (by decide) ?_
      refine lv_icmp_ne (tgt := 29) hx hb dX9_codeOf_21 (by decide) (fun hc => ?_) (fun hc => ?_)
      · have hM := if_nn hc hM
        refine lv_bipush (v := 119) hx hb dX9_codeOf_29 (by decide) ?_
        exact ret_i hx hb hr hlk dX9_codeOf_31 (some_u hM) hP hS
      · have hM := if_pp hc hM
        refine lv_bipush (v := 115) hx hb dX9_codeOf_24 (by decide) ?_
        refine lv_goto (tgt := 31) hx hb dX9_codeOf_26 (by decide) ?_
        exact ret_i hx hb hr hlk dX9_codeOf_31 (some_u hM) hP hS
    · have hM := if_pp hc hM
      refine lv_bipush (v := 101) hx hb dX9_codeOf_14 (by decide) ?_
      refine lv_goto (tgt := 31) hx hb dX9_codeOf_16 (by decide) ?_
      exact ret_i hx hb hr hlk dX9_codeOf_31 (some_u hM) hP hS
  · have hM := if_pp hc hM
    refine lv_bipush (v := 110) hx hb dX9_codeOf_4 (by decide) ?_
    refine lv_goto (tgt := 31) hx hb dX9_codeOf_6 (by decide) ?_
    exact ret_i hx hb hr hlk dX9_codeOf_31 (some_u hM) hP hS
theorem inX9_dismiss_X9 : ∀ w ∈ wsX90, w ∈ wsX9_dismiss := fun w h => List.mem_cons_of_mem _ (List.mem_append_right _ h)
set_option maxHeartbeats 4000000 in
set_option maxRecDepth 100000 in
theorem c_X9_dismiss (l : Launch) (dC : Nat → ClassId) (dI : Nat → Nat → Nat) (cI cC cZ : ClassId) (sa : Nat → Nat) (ad : Nat → Nat) (mb : BT) (mo : OT) (mn : NT) (mg : GT) (mf : AR) (mt : TT) (mz : AR) (ml : LT) (mi : IT)  {res : Int32 × BT} (hM : M_X9_dismiss mb = some res) : CTi l (dC, dI) [(cI, .int), (cC, .char), (cZ, .boolean)] sa yX9_dismiss wsX9_dismiss (rmd 1) [.ref (ad 0)] (wM cI cZ ad mb mo mn mg mf mt mz ml mi) (fun (uu : BT) => (wM cI cZ ad uu mo mn mg mf mt mz ml mi)) res := by
  refine CTi.enter (own := RX9) (cc := cX9_dismiss) (maxL := 2) (ret := (some .int)) (by decide) rfl rfl (Nat.le_of_ble_eq_true rfl) ?_
  intro pr e s m below meth c A F hr hlk hP hS ls hl
  obtain ⟨⟨hx, hb, hml, hown, hts⟩, hK, hDD, hA, hKC⟩ := id F
  have hl : lv_has ls 2 [(0, .ref (ad 0))] := hl
  have hP : va_P (dC, dI) vwCl (wM cI cZ ad mb mo mn mg mf mt mz ml mi) s.heap := hP
  unfold M_X9_dismiss at hM
  refine lv_aload_n hx hb dX9_dismiss_0 rfl (lv_at hl 0 rfl) ?_
  refine g_get (ci := 9) (C := RX9) (T := TX9) (N := 32) (v := .int mb.2.2.2.2.1) F hP 0 rfl rfl inX9_dismiss_X9 8 (by decide) (List.mem_of_getElem? (i := 1) rfl) rfl dX9_dismiss_1 ?_
  refine lv_istore_n (lv' := [(1, .int mb.2.2.2.2.1), (0, .ref (ad 0))]) hx hb dX9_dismiss_4 rfl hl (by decide) rfl (fun ls hl => ?_)
  refine lv_aload_n hx hb dX9_dismiss_5 rfl (lv_at hl 1 rfl) ?_
  refine lv_iconst (v := 0) hx hb dX9_dismiss_6 (by decide) ?_
  refine g_put (ws' := (wM cI cZ ad (mb.1, mb.2.1, mb.2.2.1, mb.2.2.2.1, (0 : Int32), mb.2.2.2.2.2.1, mb.2.2.2.2.2.2.1, mb.2.2.2.2.2.2.2.1, mb.2.2.2.2.2.2.2.2.1, mb.2.2.2.2.2.2.2.2.2) mo mn mg mf mt mz ml mi)) (ci := 9) (C := RX9) (T := TX9) (N := 32) (v := .int (0 : Int32)) (ty := .int) F hP hS rfl tyX9 tyX9_ok nmX9 0 rfl rfl inX9_dismiss_X9 8 (by decide) (List.mem_of_getElem? (i := 1) rfl) rfl (by decide +kernel) rfl rfl (Nat.le_of_ble_eq_true rfl) dX9_dismiss_7 rfl (fun H locs hP hS => ?_)
  refine lv_iload_n hx hb dX9_dismiss_10 rfl (lv_at hl 0 rfl) ?_
  exact ret_i hx hb hr hlk dX9_dismiss_11 hM hP hS
theorem inX9_ears_X9 : ∀ w ∈ wsX90, w ∈ wsX9_ears := fun w h => List.mem_cons_of_mem _ (List.mem_append_right _ h)
set_option maxHeartbeats 4000000 in
set_option maxRecDepth 100000 in
theorem c_X9_ears (l : Launch) (dC : Nat → ClassId) (dI : Nat → Nat → Nat) (cI cC cZ : ClassId) (sa : Nat → Nat) (ad : Nat → Nat) (mb : BT) (mo : OT) (mn : NT) (mg : GT) (mf : AR) (mt : TT) (mz : AR) (ml : LT) (mi : IT) (x1 : Int32) {res : Int32 × BT} (hM : M_X9_ears mb x1 = some res) : CTi l (dC, dI) [(cI, .int), (cC, .char), (cZ, .boolean)] sa yX9_ears wsX9_ears (rmd 2) [.ref (ad 0), .int x1] (wM cI cZ ad mb mo mn mg mf mt mz ml mi) (fun (uu : BT) => (wM cI cZ ad uu mo mn mg mf mt mz ml mi)) res := by
  refine CTi.enter (own := RX9) (cc := cX9_ears) (maxL := 3) (ret := (some .int)) (by decide) rfl rfl (Nat.le_of_ble_eq_true rfl) ?_
  intro pr e s m below meth c A F hr hlk hP hS ls hl
  obtain ⟨⟨hx, hb, hml, hown, hts⟩, hK, hDD, hA, hKC⟩ := id F
  have hl : lv_has ls 3 [(0, .ref (ad 0)), (1, .int x1)] := hl
  have hP : va_P (dC, dI) vwCl (wM cI cZ ad mb mo mn mg mf mt mz ml mi) s.heap := hP
  unfold M_X9_ears at hM
  refine lv_iload_n hx hb dX9_ears_0 rfl (lv_at hl 1 rfl) ?_
  refine lv_i2l (v := x1.toInt64) hx hb dX9_ears_1 rfl ?_
  refine lv_lconst (v := 0) hx hb dX9_ears_2 (by decide) ?_
  refine lv_ldc2 (v := 6) hx hb hown (hts _ (List.mem_of_getElem? (i := 1) rfl)) dX9_ears_3 ?_
  obtain ⟨z6, hcr, hM⟩ := ob_s hM
  refine res_i0 F hP hS rfl [] rfl rfl (runS_of (n := 3) (As := [.long x1.toInt64, .long (0 : Int64), .long (6 : Int64)]) (rest := []) F hP hS rfl [] rfl rfl (c_X9_in l dC dI cI cC cZ sa x1.toInt64 (0 : Int64) (6 : Int64) hcr _) gX9_ears_X9_in rfl (by decide +kernel) ⟨Nat.le_of_ble_eq_true rfl, Nat.le_of_ble_eq_true rfl⟩ rfl hl.1 rfl (Nat.le_of_ble_eq_true rfl) dX9_ears_6 ⟨Nat.zero_le _, Nat.zero_le _⟩) (fun H locs hP hS => ?_)
  refine lv_if_ne (tgt := 15) hx hb dX9_ears_9 (by decide) (fun hc => ?_) (fun hc => ?_)
  · have hM := if_nn hc hM
    refine lv_aload_n hx hb dX9_ears_15 rfl (lv_at hl 0 rfl) ?_
    refine g_get (ci := 9) (C := RX9) (T := TX9) (N := 32) (v := .int mb.2.2.2.2.2.1) F hP 0 rfl rfl inX9_ears_X9 9 (by decide) (List.mem_of_getElem? (i := 2) rfl) rfl dX9_ears_16 ?_
    refine lv_istore_n (lv' := [(2, .int mb.2.2.2.2.2.1), (0, .ref (ad 0)), (1, .int x1)]) hx hb dX9_ears_19 rfl hl (by decide) rfl (fun ls hl => ?_)
    refine lv_aload_n hx hb dX9_ears_20 rfl (lv_at hl 1 rfl) ?_
    refine lv_iload_n hx hb dX9_ears_21 rfl (lv_at hl 2 rfl) ?_
    refine g_put (ws' := (wM cI cZ ad (mb.1, mb.2.1, mb.2.2.1, mb.2.2.2.1, mb.2.2.2.2.1, x1, mb.2.2.2.2.2.2.1, mb.2.2.2.2.2.2.2.1, mb.2.2.2.2.2.2.2.2.1, mb.2.2.2.2.2.2.2.2.2) mo mn mg mf mt mz ml mi)) (ci := 9) (C := RX9) (T := TX9) (N := 32) (v := .int x1) (ty := .int) F hP hS rfl tyX9 tyX9_ok nmX9 0 rfl rfl inX9_ears_X9 9 (by decide) (List.mem_of_getElem? (i := 2) rfl) rfl (by decide +kernel) rfl rfl (Nat.le_of_ble_eq_true rfl) dX9_ears_22 rfl (fun H locs hP hS => ?_)
    refine lv_iload_n hx hb dX9_ears_25 rfl (lv_at hl 0 rfl) ?_
    exact ret_i hx hb hr hlk dX9_ears_26 hM hP hS
  · have hM := if_pp hc hM
    refine lv_bipush (v := -2) hx hb dX9_ears_12 (by decide) ?_
    exact ret_i hx hb hr hlk dX9_ears_14 hM hP hS
set_option maxHeartbeats 4000000 in
set_option maxRecDepth 100000 in
theorem c_X9_floor (l : Launch) (dC : Nat → ClassId) (dI : Nat → Nat → Nat) (cI cC cZ : ClassId) (sa : Nat → Nat) (ad : Nat → Nat) (mb : BT) (mo : OT) (mn : NT) (mg : GT) (mf : AR) (mt : TT) (mz : AR) (ml : LT) (mi : IT)  {res : Int32} (hM : M_X9_floor mb = some res) : CTi l (dC, dI) [(cI, .int), (cC, .char), (cZ, .boolean)] sa yX9_floor wsX9_floor (rmd 2) [.ref (ad 0)] (wM cI cZ ad mb mo mn mg mf mt mz ml mi) (fun (_ : Unit) => (wM cI cZ ad mb mo mn mg mf mt mz ml mi)) (res, ()) := by
  refine CTi.enter (own := RX9) (cc := cX9_floor) (maxL := 3) (ret := (some .int)) (by decide) rfl rfl (Nat.le_of_ble_eq_true rfl) ?_
  intro pr e s m below meth c A F hr hlk hP hS ls hl
  obtain ⟨⟨hx, hb, hml, hown, hts⟩, hK, hDD, hA, hKC⟩ := id F
  have hl : lv_has ls 3 [(0, .ref (ad 0))] := hl
  have hP : va_P (dC, dI) vwCl (wM cI cZ ad mb mo mn mg mf mt mz ml mi) s.heap := hP
  unfold M_X9_floor at hM
  refine kloop (α := Int32 × Int32) (res := res) (fun k a => M_X9_floor_4 mb k a) (fun rec a => M_X9_floor_4b mb rec a) (fun _ => rfl) (fun _ _ => rfl) F (fun a => (wM cI cZ ad mb mo mn mg mf mt mz ml mi)) (fun a => [(0, .ref (ad 0)), (1, .int a.1), (2, .int a.2)]) (fun a => []) 4 ?_ (fun j4 => ?_)
  · intro rc4 ih4 a4 H locs ls hP hS hl hM
    unfold M_X9_floor_4b at hM
    refine kblk (α := Int32 × Int32 × Int32) (res := res) (fun a => M_X9_floor_28 mb rc4 a) F (fun a => (wM cI cZ ad mb mo mn mg mf mt mz ml mi)) (fun a => [(0, .ref (ad 0)), (2, .int a.1)]) (fun a => [.int a.2.1, .int a.2.2]) 28 ?_ (fun j28 => ?_)
    · intro a28 H locs ls hP hS hl hM
      unfold M_X9_floor_28 at hM
      refine lv_ior hx hb dX9_floor_28 ?_
      refine lv_istore_n (lv' := [(1, .int (a28.2.2 ||| a28.2.1)), (0, .ref (ad 0)), (2, .int a28.1)]) hx hb dX9_floor_29 rfl hl (by decide) rfl (fun ls hl => ?_)
      refine lv_iinc (v := (a28.1 + (1 : Int32))) (lv' := [(2, .int (a28.1 + (1 : Int32))), (1, .int (a28.2.2 ||| a28.2.1)), (0, .ref (ad 0))]) hx hb dX9_floor_30 hl (k := 2) rfl rfl (by decide) rfl (fun ls hl => ?_)
      refine lv_goto (tgt := 4) hx hb dX9_floor_33 (by decide) ?_
      exact ih4 ((a28.2.2 ||| a28.2.1), (a28.1 + (1 : Int32))) _ _ _ hP hS (lv_sub hl [2, 1, 0] rfl) hM
    refine lv_iload_n hx hb dX9_floor_4 rfl (lv_at hl 2 rfl) ?_
    refine lv_aload_n hx hb dX9_floor_5 rfl (lv_at hl 0 rfl) ?_
    obtain ⟨z6, hcr, hM⟩ := ob_s hM
    refine res_i0 F hP hS rfl [0, 1, 2, 3, 4, 5, 6, 7, 8, 9, 10, 11, 12] rfl rfl (runV_of (n := 0) (As := []) (rest := [.int a4.2]) F hP hS rfl [0, 1, 2, 3, 4, 5, 6, 7, 8, 9, 10, 11, 12] rfl rfl (c_X9_cells l dC dI cI cC cZ sa ad mb mo mn mg mf mt mz ml mi hcr _) gX9_floor_X9_cells rfl (by decide +kernel) ⟨Nat.le_of_ble_eq_true rfl, Nat.le_of_ble_eq_true rfl⟩ 0 9 rfl rfl rfl hl.1 rfl (Nat.le_of_ble_eq_true rfl) dX9_floor_6 ⟨Nat.zero_le _, Nat.zero_le _⟩) (fun H locs hP hS => ?_)
    refine lv_icmp_ge (tgt := 36) hx hb dX9_floor_9 (by decide) (fun hc => ?_) (fun hc => ?_)
    · have hM := if_pp hc hM
      refine lv_iload_n hx hb dX9_floor_36 rfl (lv_at hl 1 rfl) ?_
      exact ret_i hx hb hr hlk dX9_floor_37 (some_u hM) hP hS
    · have hM := if_nn hc hM
      refine lv_iload_n hx hb dX9_floor_12 rfl (lv_at hl 1 rfl) ?_
      refine lv_aload_n hx hb dX9_floor_13 rfl (lv_at hl 0 rfl) ?_
      refine lv_iload_n hx hb dX9_floor_14 rfl (lv_at hl 2 rfl) ?_
      obtain ⟨z15, hcr, hM⟩ := ob_s hM
      refine res_i0 F hP hS rfl [0, 1, 2, 3, 4, 5, 6, 7, 8, 9, 10, 11, 12] rfl rfl (runV_of (n := 1) (As := [.int a4.2]) (rest := [.int a4.1]) F hP hS rfl [0, 1, 2, 3, 4, 5, 6, 7, 8, 9, 10, 11, 12] rfl rfl (c_X9_isWall l dC dI cI cC cZ sa ad mb mo mn mg mf mt mz ml mi a4.2 hcr _) gX9_floor_X9_isWall rfl (by decide +kernel) ⟨Nat.le_of_ble_eq_true rfl, Nat.le_of_ble_eq_true rfl⟩ 0 9 rfl rfl rfl hl.1 rfl (Nat.le_of_ble_eq_true rfl) dX9_floor_15 ⟨Nat.zero_le _, Nat.zero_le _⟩) (fun H locs hP hS => ?_)
      refine lv_if_eq (tgt := 25) hx hb dX9_floor_18 (by decide) (fun hc => ?_) (fun hc => ?_)
      · have hM := if_pp hc hM
        refine lv_iconst (v := 1) hx hb dX9_floor_25 (by decide) ?_
        refine lv_iload_n hx hb dX9_floor_26 rfl (lv_at hl 2 rfl) ?_
        refine lv_ishl hx hb dX9_floor_27 ?_
        exact j28 (a4.2, ((1 : Int32) <<< (a4.2 &&& 31)), a4.1) _ _ _ hP hS (lv_sub hl [0, 2] rfl) hM
      · have hM := if_nn hc hM
        refine lv_iconst (v := 0) hx hb dX9_floor_21 (by decide) ?_
        refine lv_goto (tgt := 28) hx hb dX9_floor_22 (by decide) ?_
        exact j28 (a4.2, (0 : Int32), a4.1) _ _ _ hP hS (lv_sub hl [0, 2] rfl) hM
  refine lv_iconst (v := 0) hx hb dX9_floor_0 (by decide) ?_
  refine lv_istore_n (lv' := [(1, .int (0 : Int32)), (0, .ref (ad 0))]) hx hb dX9_floor_1 rfl hl (by decide) rfl (fun ls hl => ?_)
  refine lv_iconst (v := 0) hx hb dX9_floor_2 (by decide) ?_
  refine lv_istore_n (lv' := [(2, .int (0 : Int32)), (1, .int (0 : Int32)), (0, .ref (ad 0))]) hx hb dX9_floor_3 rfl hl (by decide) rfl (fun ls hl => ?_)
  exact j4 200 ((0 : Int32), (0 : Int32)) _ _ _ hP hS (lv_sub hl [2, 1, 0] rfl) hM
theorem inX9_findFar_X9 : ∀ w ∈ wsX90, w ∈ wsX9_findFar := fun w h => List.mem_cons_of_mem _ (List.mem_append_right _ h)
set_option maxHeartbeats 4000000 in
set_option maxRecDepth 100000 in
theorem c_X9_findFar (l : Launch) (dC : Nat → ClassId) (dI : Nat → Nat → Nat) (cI cC cZ : ClassId) (sa : Nat → Nat) (ad : Nat → Nat) (mb : BT) (mo : OT) (mn : NT) (mg : GT) (mf : AR) (mt : TT) (mz : AR) (ml : LT) (mi : IT) (x1 : Int32) (x2 : Int32) {res : AR} (hM : M_X9_findFar mb mf x1 x2 = some res) : CTv l (dC, dI) [(cI, .int), (cC, .char), (cZ, .boolean)] sa yX9_findFar wsX9_findFar (rmd 3) [.ref (ad 0), .int x1, .int x2] (wM cI cZ ad mb mo mn mg mf mt mz ml mi) (fun (uu : AR) => (wM cI cZ ad mb mo mn mg uu mt mz ml mi)) res := by
  refine CTv.enter (own := RX9) (cc := cX9_findFar) (maxL := 8) (ret := none) (by decide) rfl rfl (Nat.le_of_ble_eq_true rfl) ?_
  intro pr e s m below meth c A F hr hlk hP hS ls hl
  obtain ⟨⟨hx, hb, hml, hown, hts⟩, hK, hDD, hA, hKC⟩ := id F
  have hl : lv_has ls 8 [(0, .ref (ad 0)), (1, .int x1), (2, .int x2)] := hl
  have hP : va_P (dC, dI) vwCl (wM cI cZ ad mb mo mn mg mf mt mz ml mi) s.heap := hP
  unfold M_X9_findFar at hM
  refine kloop (α := AR × Int32) (res := res) (fun k a => M_X9_findFar_32 mb x1 x2 k a) (fun rec a => M_X9_findFar_32b mb x1 x2 rec a) (fun _ => rfl) (fun _ _ => rfl) F (fun a => (wM cI cZ ad mb mo mn mg a.1 mt mz ml mi)) (fun a => [(0, .ref (ad 0)), (2, .int x2), (3, .int a.2)]) (fun a => []) 32 ?_ (fun j32 => ?_)
  · intro rc32 ih32 a32 H locs ls hP hS hl hM
    unfold M_X9_findFar_32b at hM
    refine kblk (α := AR × Int32) (res := res) (fun a => M_X9_findFar_162 mb x1 x2 rc32 a) F (fun a => (wM cI cZ ad mb mo mn mg a.1 mt mz ml mi)) (fun a => [(0, .ref (ad 0)), (2, .int x2), (3, .int a.2)]) (fun a => []) 162 ?_ (fun j162 => ?_)
    · intro a162 H locs ls hP hS hl hM
      unfold M_X9_findFar_162 at hM
      refine lv_iinc (v := (a162.2 + (1 : Int32))) (lv' := [(3, .int (a162.2 + (1 : Int32))), (0, .ref (ad 0)), (2, .int x2)]) hx hb dX9_findFar_162 hl (k := 2) rfl rfl (by decide) rfl (fun ls hl => ?_)
      refine lv_goto (tgt := 32) hx hb dX9_findFar_165 (by decide) ?_
      exact ih32 (a162.1, (a162.2 + (1 : Int32))) _ _ _ hP hS (lv_sub hl [1, 2, 0] rfl) hM
    refine kloop (α := AR × Int32 × Int32) (res := res) (fun k a => M_X9_findFar_41 mb x1 x2 rc32 k a) (fun rec a => M_X9_findFar_41b mb x1 x2 rc32 rec a) (fun _ => rfl) (fun _ _ => rfl) F (fun a => (wM cI cZ ad mb mo mn mg a.1 mt mz ml mi)) (fun a => [(0, .ref (ad 0)), (2, .int x2), (3, .int a.2.1), (4, .int a.2.2)]) (fun a => []) 41 ?_ (fun j41 => ?_)
    · intro rc41 ih41 a41 H locs ls hP hS hl hM
      unfold M_X9_findFar_41b at hM
      refine kblk (α := AR × Int32 × Int32) (res := res) (fun a => M_X9_findFar_156 mb x1 x2 rc32 rc41 a) F (fun a => (wM cI cZ ad mb mo mn mg a.1 mt mz ml mi)) (fun a => [(0, .ref (ad 0)), (2, .int x2), (3, .int a.2.1), (4, .int a.2.2)]) (fun a => []) 156 ?_ (fun j156 => ?_)
      · intro a156 H locs ls hP hS hl hM
        unfold M_X9_findFar_156 at hM
        refine lv_iinc (v := (a156.2.2 + (1 : Int32))) (lv' := [(4, .int (a156.2.2 + (1 : Int32))), (0, .ref (ad 0)), (2, .int x2), (3, .int a156.2.1)]) hx hb dX9_findFar_156 hl (k := 3) rfl rfl (by decide) rfl (fun ls hl => ?_)
        refine lv_goto (tgt := 41) hx hb dX9_findFar_159 (by decide) ?_
        exact ih41 (a156.1, a156.2.1, (a156.2.2 + (1 : Int32))) _ _ _ hP hS (lv_sub hl [1, 2, 3, 0] rfl) hM
      refine kloop (α := AR × Int32 × Int32 × Int32) (res := res) (fun k a => M_X9_findFar_53 mb x1 x2 rc32 rc41 k a) (fun rec a => M_X9_findFar_53b mb x1 x2 rc32 rc41 rec a) (fun _ => rfl) (fun _ _ => rfl) F (fun a => (wM cI cZ ad mb mo mn mg a.1 mt mz ml mi)) (fun a => [(0, .ref (ad 0)), (2, .int x2), (3, .int a.2.1), (4, .int a.2.2.1), (5, .int a.2.2.2)]) (fun a => []) 53 ?_ (fun j53 => ?_)
      · intro rc53 ih53 a53 H locs ls hP hS hl hM
        unfold M_X9_findFar_53b at hM
        refine kblk (α := AR × Int32 × Int32 × Int32 × Int32 × Int32) (res := res) (fun a => M_X9_findFar_149 mb x1 x2 rc32 rc41 rc53 a) F (fun a => (wM cI cZ ad mb mo mn mg a.1 mt mz ml mi)) (fun a => [(0, .ref (ad 0)), (2, .int x2), (3, .int a.2.1), (4, .int a.2.2.1), (5, .int a.2.2.2.1)]) (fun a => [.int a.2.2.2.2.1, .int a.2.2.2.2.2, .ref (ad 6)]) 149 ?_ (fun j149 => ?_)
        · intro a149 H locs ls hP hS hl hM
          unfold M_X9_findFar_149 at hM
          obtain ⟨hin, hM⟩ := if_ok hM
          refine g_iast (ws' := (wM cI cZ ad mb mo mn mg (upd a149.1 a149.2.2.2.2.2.toNatClampNeg a149.2.2.2.2.1) mt mz ml mi)) F hP hS rfl 6 0 rfl rfl hin dX9_findFar_149 rfl (fun H locs hP hS => ?_)
          refine lv_iinc (v := (a149.2.2.2.1 + (1 : Int32))) (lv' := [(5, .int (a149.2.2.2.1 + (1 : Int32))), (0, .ref (ad 0)), (2, .int x2), (3, .int a149.2.1), (4, .int a149.2.2.1)]) hx hb dX9_findFar_150 hl (k := 4) rfl rfl (by decide) rfl (fun ls hl => ?_)
          refine lv_goto (tgt := 53) hx hb dX9_findFar_153 (by decide) ?_
          exact ih53 ((upd a149.1 a149.2.2.2.2.2.toNatClampNeg a149.2.2.2.2.1), a149.2.1, a149.2.2.1, (a149.2.2.2.1 + (1 : Int32))) _ _ _ hP hS (lv_sub hl [1, 2, 3, 4, 0] rfl) hM
        refine kblk (α := AR × Int32 × Int32 × Int32 × Int32) (res := res) (fun a => M_X9_findFar_142 mb x1 x2 rc32 rc41 rc53 a) F (fun a => (wM cI cZ ad mb mo mn mg a.1 mt mz ml mi)) (fun a => [(0, .ref (ad 0)), (2, .int x2), (3, .int a.2.1), (4, .int a.2.2.1), (5, .int a.2.2.2.1)]) (fun a => [.int a.2.2.2.2, .ref (ad 6)]) 142 ?_ (fun j142 => ?_)
        · intro a142 H locs ls hP hS hl hM
          unfold M_X9_findFar_142 at hM
          refine lv_aload_n hx hb dX9_findFar_142 rfl (lv_at hl 0 rfl) ?_
          refine g_get (ci := 9) (C := RX9) (T := TX9) (N := 32) (v := .ref (ad 6)) F hP 0 rfl rfl inX9_findFar_X9 22 (by decide) (List.mem_of_getElem? (i := 1) rfl) rfl dX9_findFar_143 ?_
          refine lv_iload hx hb dX9_findFar_146 (lv_at hl 3 rfl) ?_
          obtain ⟨hin, hM⟩ := if_ok hM
          refine va_iald hx hb hK hP 6 0 rfl rfl hin dX9_findFar_148 ?_
          exact j149 (a142.1, a142.2.1, a142.2.2.1, a142.2.2.2.1, (a142.1 a142.2.2.1.toNatClampNeg), a142.2.2.2.2) _ _ _ hP hS (lv_sub hl [0, 1, 2, 3, 4] rfl) hM
        refine kblk (α := AR × Int32 × Int32 × Int32 × Int32 × Int32) (res := res) (fun a => M_X9_findFar_98 mb x1 x2 rc32 rc41 rc53 a) F (fun a => (wM cI cZ ad mb mo mn mg a.1 mt mz ml mi)) (fun a => [(0, .ref (ad 0)), (2, .int x2), (3, .int a.2.1), (4, .int a.2.2.1), (5, .int a.2.2.2.1), (6, .int a.2.2.2.2.1)]) (fun a => [.int a.2.2.2.2.2]) 98 ?_ (fun j98 => ?_)
        · intro a98 H locs ls hP hS hl hM
          unfold M_X9_findFar_98 at hM
          refine lv_istore (lv' := [(7, .int a98.2.2.2.2.2), (0, .ref (ad 0)), (2, .int x2), (3, .int a98.2.1), (4, .int a98.2.2.1), (5, .int a98.2.2.2.1), (6, .int a98.2.2.2.2.1)]) hx hb dX9_findFar_98 hl (by decide) rfl (fun ls hl => ?_)
          refine lv_aload_n hx hb dX9_findFar_100 rfl (lv_at hl 1 rfl) ?_
          refine g_get (ci := 9) (C := RX9) (T := TX9) (N := 32) (v := .ref (ad 6)) F hP 0 rfl rfl inX9_findFar_X9 22 (by decide) (List.mem_of_getElem? (i := 1) rfl) rfl dX9_findFar_101 ?_
          refine lv_iload hx hb dX9_findFar_104 (lv_at hl 4 rfl) ?_
          refine lv_iload hx hb dX9_findFar_106 (lv_at hl 0 rfl) ?_
          refine lv_if_eq (tgt := 142) hx hb dX9_findFar_108 (by decide) (fun hc => ?_) (fun hc => ?_)
          · have hM := if_pp hc hM
            exact j142 (a98.1, a98.2.1, a98.2.2.1, a98.2.2.2.1, a98.2.2.1) _ _ _ hP hS (lv_sub hl [1, 2, 3, 4, 5] rfl) hM
          · have hM := if_nn hc hM
            refine lv_aload_n hx hb dX9_findFar_111 rfl (lv_at hl 1 rfl) ?_
            refine g_get (ci := 9) (C := RX9) (T := TX9) (N := 32) (v := .ref (ad 6)) F hP 0 rfl rfl inX9_findFar_X9 22 (by decide) (List.mem_of_getElem? (i := 1) rfl) rfl dX9_findFar_112 ?_
            refine lv_iload hx hb dX9_findFar_115 (lv_at hl 6 rfl) ?_
            obtain ⟨hin, hM⟩ := if_ok hM
            refine va_iald hx hb hK hP 6 0 rfl rfl hin dX9_findFar_117 ?_
            refine lv_iconst (v := 1) hx hb dX9_findFar_118 (by decide) ?_
            refine lv_iadd hx hb dX9_findFar_119 ?_
            refine lv_aload_n hx hb dX9_findFar_120 rfl (lv_at hl 1 rfl) ?_
            refine g_get (ci := 9) (C := RX9) (T := TX9) (N := 32) (v := .ref (ad 6)) F hP 0 rfl rfl inX9_findFar_X9 22 (by decide) (List.mem_of_getElem? (i := 1) rfl) rfl dX9_findFar_121 ?_
            refine lv_iload hx hb dX9_findFar_124 (lv_at hl 4 rfl) ?_
            obtain ⟨hin, hM⟩ := if_ok hM
            refine va_iald hx hb hK hP 6 0 rfl rfl hin dX9_findFar_126 ?_
            refine lv_icmp_ge (tgt := 142) hx hb dX9_findFar_127 (by decide) (fun hc => ?_) (fun hc => ?_)
            · have hM := if_pp hc hM
              exact j142 (a98.1, a98.2.1, a98.2.2.1, a98.2.2.2.1, a98.2.2.1) _ _ _ hP hS (lv_sub hl [1, 2, 3, 4, 5] rfl) hM
            · have hM := if_nn hc hM
              refine lv_aload_n hx hb dX9_findFar_130 rfl (lv_at hl 1 rfl) ?_
              refine g_get (ci := 9) (C := RX9) (T := TX9) (N := 32) (v := .ref (ad 6)) F hP 0 rfl rfl inX9_findFar_X9 22 (by decide) (List.mem_of_getElem? (i := 1) rfl) rfl dX9_findFar_131 ?_
              refine lv_iload hx hb dX9_findFar_134 (lv_at hl 6 rfl) ?_
              obtain ⟨hin, hM⟩ := if_ok hM
              refine va_iald hx hb hK hP 6 0 rfl rfl hin dX9_findFar_136 ?_
              refine lv_iconst (v := 1) hx hb dX9_findFar_137 (by decide) ?_
              refine lv_iadd hx hb dX9_findFar_138 ?_
              refine lv_goto (tgt := 149) hx hb dX9_findFar_139 (by decide) ?_
              exact j149 (a98.1, a98.2.1, a98.2.2.1, a98.2.2.2.1, ((a98.1 a98.2.2.2.2.1.toNatClampNeg) + (1 : Int32)), a98.2.2.1) _ _ _ hP hS (lv_sub hl [1, 2, 3, 4, 5] rfl) hM
        refine kblk (α := AR × Int32 × Int32 × Int32 × Int32) (res := res) (fun a => M_X9_findFar_97 mb x1 x2 rc32 rc41 rc53 a) F (fun a => (wM cI cZ ad mb mo mn mg a.1 mt mz ml mi)) (fun a => [(0, .ref (ad 0)), (2, .int x2), (3, .int a.2.1), (4, .int a.2.2.1), (5, .int a.2.2.2.1), (6, .int a.2.2.2.2)]) (fun a => []) 97 ?_ (fun j97 => ?_)
        · intro a97 H locs ls hP hS hl hM
          unfold M_X9_findFar_97 at hM
          refine lv_iconst (v := 0) hx hb dX9_findFar_97 (by decide) ?_
          exact j98 (a97.1, a97.2.1, a97.2.2.1, a97.2.2.2.1, a97.2.2.2.2, (0 : Int32)) _ _ _ hP hS (lv_sub hl [0, 1, 2, 3, 4, 5] rfl) hM
        refine lv_iload hx hb dX9_findFar_53 (lv_at hl 4 rfl) ?_
        refine lv_iconst (v := 4) hx hb dX9_findFar_55 (by decide) ?_
        refine lv_icmp_ge (tgt := 156) hx hb dX9_findFar_56 (by decide) (fun hc => ?_) (fun hc => ?_)
        · have hM := if_pp hc hM
          exact j156 (a53.1, a53.2.1, a53.2.2.1) _ _ _ hP hS (lv_sub hl [0, 1, 2, 3] rfl) hM
        · have hM := if_nn hc hM
          refine lv_aload_n hx hb dX9_findFar_59 rfl (lv_at hl 0 rfl) ?_
          refine lv_iload hx hb dX9_findFar_60 (lv_at hl 3 rfl) ?_
          obtain ⟨z62, hcr, hM⟩ := ob_s hM
          refine res_i0 F hP hS rfl [0, 1, 2, 3, 4, 5, 6, 7, 8, 9, 10, 11, 12] rfl rfl (runV_of (n := 1) (As := [.int a53.2.2.1]) (rest := []) F hP hS rfl [0, 1, 2, 3, 4, 5, 6, 7, 8, 9, 10, 11, 12] rfl rfl (c_X9_isWall l dC dI cI cC cZ sa ad mb mo mn mg a53.1 mt mz ml mi a53.2.2.1 hcr _) gX9_findFar_X9_isWall rfl (by decide +kernel) ⟨Nat.le_of_ble_eq_true rfl, Nat.le_of_ble_eq_true rfl⟩ 0 9 rfl rfl rfl hl.1 rfl (Nat.le_of_ble_eq_true rfl) dX9_findFar_62 ⟨Nat.zero_le _, Nat.zero_le _⟩) (fun H locs hP hS => ?_)
          refine lv_if_ne (tgt := 156) hx hb dX9_findFar_65 (by decide) (fun hc => ?_) (fun hc => ?_)
          · have hM := if_nn hc hM
            exact j156 (a53.1, a53.2.1, a53.2.2.1) _ _ _ hP hS (lv_sub hl [0, 1, 2, 3] rfl) hM
          · have hM := if_pp hc hM
            refine lv_aload_n hx hb dX9_findFar_68 rfl (lv_at hl 0 rfl) ?_
            refine lv_iload hx hb dX9_findFar_69 (lv_at hl 3 rfl) ?_
            refine lv_iload hx hb dX9_findFar_71 (lv_at hl 4 rfl) ?_
            obtain ⟨z73, hcr, hM⟩ := ob_s hM
            refine res_i0 F hP hS rfl [0, 1, 2, 3, 4, 5, 6, 7, 8, 9, 10, 11, 12] rfl rfl (runV_of (n := 2) (As := [.int a53.2.2.1, .int a53.2.2.2]) (rest := []) F hP hS rfl [0, 1, 2, 3, 4, 5, 6, 7, 8, 9, 10, 11, 12] rfl rfl (c_X9_beyond l dC dI cI cC cZ sa ad mb mo mn mg a53.1 mt mz ml mi a53.2.2.1 a53.2.2.2 hcr _) gX9_findFar_X9_beyond rfl (by decide +kernel) ⟨Nat.le_of_ble_eq_true rfl, Nat.le_of_ble_eq_true rfl⟩ 0 9 rfl rfl rfl hl.1 rfl (Nat.le_of_ble_eq_true rfl) dX9_findFar_73 ⟨Nat.zero_le _, Nat.zero_le _⟩) (fun H locs hP hS => ?_)
            refine lv_istore (lv' := [(6, .int z73), (0, .ref (ad 0)), (2, .int x2), (3, .int a53.2.1), (4, .int a53.2.2.1), (5, .int a53.2.2.2)]) hx hb dX9_findFar_76 hl (by decide) rfl (fun ls hl => ?_)
            refine lv_iload hx hb dX9_findFar_78 (lv_at hl 0 rfl) ?_
            refine lv_if_lt (tgt := 97) hx hb dX9_findFar_80 (by decide) (fun hc => ?_) (fun hc => ?_)
            · have hM := if_pp hc hM
              exact j97 (a53.1, a53.2.1, a53.2.2.1, a53.2.2.2, z73) _ _ _ hP hS (lv_sub hl [1, 2, 3, 4, 5, 0] rfl) hM
            · have hM := if_nn hc hM
              refine lv_iload_n hx hb dX9_findFar_83 rfl (lv_at hl 2 rfl) ?_
              refine lv_iload hx hb dX9_findFar_84 (lv_at hl 0 rfl) ?_
              refine lv_ishr hx hb dX9_findFar_86 ?_
              refine lv_iconst (v := 1) hx hb dX9_findFar_87 (by decide) ?_
              refine lv_iand hx hb dX9_findFar_88 ?_
              refine lv_iconst (v := 1) hx hb dX9_findFar_89 (by decide) ?_
              refine lv_icmp_ne (tgt := 97) hx hb dX9_findFar_90 (by decide) (fun hc => ?_) (fun hc => ?_)
              · have hM := if_nn hc hM
                exact j97 (a53.1, a53.2.1, a53.2.2.1, a53.2.2.2, z73) _ _ _ hP hS (lv_sub hl [1, 2, 3, 4, 5, 0] rfl) hM
              · have hM := if_pp hc hM
                refine lv_iconst (v := 1) hx hb dX9_findFar_93 (by decide) ?_
                refine lv_goto (tgt := 98) hx hb dX9_findFar_94 (by decide) ?_
                exact j98 (a53.1, a53.2.1, a53.2.2.1, a53.2.2.2, z73, (1 : Int32)) _ _ _ hP hS (lv_sub hl [1, 2, 3, 4, 5, 0] rfl) hM
      refine lv_iload hx hb dX9_findFar_41 (lv_at hl 3 rfl) ?_
      refine lv_aload_n hx hb dX9_findFar_43 rfl (lv_at hl 0 rfl) ?_
      obtain ⟨z44, hcr, hM⟩ := ob_s hM
      refine res_i0 F hP hS rfl [0, 1, 2, 3, 4, 5, 6, 7, 8, 9, 10, 11, 12] rfl rfl (runV_of (n := 0) (As := []) (rest := [.int a41.2.2]) F hP hS rfl [0, 1, 2, 3, 4, 5, 6, 7, 8, 9, 10, 11, 12] rfl rfl (c_X9_cells l dC dI cI cC cZ sa ad mb mo mn mg a41.1 mt mz ml mi hcr _) gX9_findFar_X9_cells rfl (by decide +kernel) ⟨Nat.le_of_ble_eq_true rfl, Nat.le_of_ble_eq_true rfl⟩ 0 9 rfl rfl rfl hl.1 rfl (Nat.le_of_ble_eq_true rfl) dX9_findFar_44 ⟨Nat.zero_le _, Nat.zero_le _⟩) (fun H locs hP hS => ?_)
      refine lv_icmp_ge (tgt := 162) hx hb dX9_findFar_47 (by decide) (fun hc => ?_) (fun hc => ?_)
      · have hM := if_pp hc hM
        exact j162 (a41.1, a41.2.1) _ _ _ hP hS (lv_sub hl [0, 1, 2] rfl) hM
      · have hM := if_nn hc hM
        refine lv_iconst (v := 0) hx hb dX9_findFar_50 (by decide) ?_
        refine lv_istore (lv' := [(5, .int (0 : Int32)), (0, .ref (ad 0)), (2, .int x2), (3, .int a41.2.1), (4, .int a41.2.2)]) hx hb dX9_findFar_51 hl (by decide) rfl (fun ls hl => ?_)
        exact j53 200 (a41.1, a41.2.1, a41.2.2, (0 : Int32)) _ _ _ hP hS (lv_sub hl [1, 2, 3, 4, 0] rfl) hM
    refine lv_iload_n hx hb dX9_findFar_32 rfl (lv_at hl 2 rfl) ?_
    refine lv_bipush (v := 16) hx hb dX9_findFar_33 (by decide) ?_
    refine lv_icmp_ge (tgt := 168) hx hb dX9_findFar_35 (by decide) (fun hc => ?_) (fun hc => ?_)
    · have hM := if_pp hc hM
      exact ret_v hx hb hr hlk dX9_findFar_168 hM hP hS
    · have hM := if_nn hc hM
      refine lv_iconst (v := 0) hx hb dX9_findFar_38 (by decide) ?_
      refine lv_istore (lv' := [(4, .int (0 : Int32)), (0, .ref (ad 0)), (2, .int x2), (3, .int a32.2)]) hx hb dX9_findFar_39 hl (by decide) rfl (fun ls hl => ?_)
      exact j41 200 (a32.1, a32.2, (0 : Int32)) _ _ _ hP hS (lv_sub hl [1, 2, 3, 0] rfl) hM
  refine kloop (α := AR × Int32) (res := res) (fun k a => M_X9_findFar_2 mb x1 x2 k a) (fun rec a => M_X9_findFar_2b mb x1 x2 rec a) (fun _ => rfl) (fun _ _ => rfl) F (fun a => (wM cI cZ ad mb mo mn mg a.1 mt mz ml mi)) (fun a => [(0, .ref (ad 0)), (1, .int x1), (2, .int x2), (3, .int a.2)]) (fun a => []) 2 ?_ (fun j2 => ?_)
  · intro rc2 ih2 a2 H locs ls hP hS hl hM
    unfold M_X9_findFar_2b at hM
    refine lv_iload_n hx hb dX9_findFar_2 rfl (lv_at hl 3 rfl) ?_
    refine lv_bipush (v := 16) hx hb dX9_findFar_3 (by decide) ?_
    refine lv_icmp_ge (tgt := 23) hx hb dX9_findFar_5 (by decide) (fun hc => ?_) (fun hc => ?_)
    · have hM := if_pp hc hM
      refine lv_aload_n hx hb dX9_findFar_23 rfl (lv_at hl 0 rfl) ?_
      refine g_get (ci := 9) (C := RX9) (T := TX9) (N := 32) (v := .ref (ad 6)) F hP 0 rfl rfl inX9_findFar_X9 22 (by decide) (List.mem_of_getElem? (i := 1) rfl) rfl dX9_findFar_24 ?_
      refine lv_iload_n hx hb dX9_findFar_27 rfl (lv_at hl 1 rfl) ?_
      refine lv_iconst (v := 0) hx hb dX9_findFar_28 (by decide) ?_
      obtain ⟨hin, hM⟩ := if_ok hM
      refine g_iast (ws' := (wM cI cZ ad mb mo mn mg (upd a2.1 x1.toNatClampNeg (0 : Int32)) mt mz ml mi)) F hP hS rfl 6 0 rfl rfl hin dX9_findFar_29 rfl (fun H locs hP hS => ?_)
      refine lv_iconst (v := 0) hx hb dX9_findFar_30 (by decide) ?_
      refine lv_istore_n (lv' := [(3, .int (0 : Int32)), (0, .ref (ad 0)), (1, .int x1), (2, .int x2)]) hx hb dX9_findFar_31 rfl hl (by decide) rfl (fun ls hl => ?_)
      exact j32 200 ((upd a2.1 x1.toNatClampNeg (0 : Int32)), (0 : Int32)) _ _ _ hP hS (lv_sub hl [1, 3, 0] rfl) hM
    · have hM := if_nn hc hM
      refine lv_aload_n hx hb dX9_findFar_8 rfl (lv_at hl 0 rfl) ?_
      refine g_get (ci := 9) (C := RX9) (T := TX9) (N := 32) (v := .ref (ad 6)) F hP 0 rfl rfl inX9_findFar_X9 22 (by decide) (List.mem_of_getElem? (i := 1) rfl) rfl dX9_findFar_9 ?_
      refine lv_iload_n hx hb dX9_findFar_12 rfl (lv_at hl 3 rfl) ?_
      refine lv_sipush (v := 1000) hx hb dX9_findFar_13 (by decide) ?_
      obtain ⟨hin, hM⟩ := if_ok hM
      refine g_iast (ws' := (wM cI cZ ad mb mo mn mg (upd a2.1 a2.2.toNatClampNeg (1000 : Int32)) mt mz ml mi)) F hP hS rfl 6 0 rfl rfl hin dX9_findFar_16 rfl (fun H locs hP hS => ?_)
      refine lv_iinc (v := (a2.2 + (1 : Int32))) (lv' := [(3, .int (a2.2 + (1 : Int32))), (0, .ref (ad 0)), (1, .int x1), (2, .int x2)]) hx hb dX9_findFar_17 hl (k := 3) rfl rfl (by decide) rfl (fun ls hl => ?_)
      refine lv_goto (tgt := 2) hx hb dX9_findFar_20 (by decide) ?_
      exact ih2 ((upd a2.1 a2.2.toNatClampNeg (1000 : Int32)), (a2.2 + (1 : Int32))) _ _ _ hP hS (lv_sub hl [1, 2, 3, 0] rfl) hM
  refine lv_iconst (v := 0) hx hb dX9_findFar_0 (by decide) ?_
  refine lv_istore_n (lv' := [(3, .int (0 : Int32)), (0, .ref (ad 0)), (1, .int x1), (2, .int x2)]) hx hb dX9_findFar_1 rfl hl (by decide) rfl (fun ls hl => ?_)
  exact j2 200 (mf, (0 : Int32)) _ _ _ hP hS (lv_sub hl [1, 2, 3, 0] rfl) hM
theorem inX9_fewestShown_X9 : ∀ w ∈ wsX90, w ∈ wsX9_fewestShown := fun w h => List.mem_cons_of_mem _ (List.mem_append_right _ h)
set_option maxHeartbeats 4000000 in
set_option maxRecDepth 100000 in
theorem c_X9_fewestShown (l : Launch) (dC : Nat → ClassId) (dI : Nat → Nat → Nat) (cI cC cZ : ClassId) (sa : Nat → Nat) (ad : Nat → Nat) (mb : BT) (mo : OT) (mn : NT) (mg : GT) (mf : AR) (mt : TT) (mz : AR) (ml : LT) (mi : IT) (x1 : Int32) (x2 : Int32) (x3 : Int32) {res : Int32 × AR × AR} (hM : M_X9_fewestShown mb mf mz x1 x2 x3 = some res) : CTi l (dC, dI) [(cI, .int), (cC, .char), (cZ, .boolean)] sa yX9_fewestShown wsX9_fewestShown (rmd 6) [.ref (ad 0), .int x1, .int x2, .int x3] (wM cI cZ ad mb mo mn mg mf mt mz ml mi) (fun (uu : AR × AR) => (wM cI cZ ad mb mo mn mg uu.1 mt uu.2 ml mi)) res := by
  refine CTi.enter (own := RX9) (cc := cX9_fewestShown) (maxL := 10) (ret := (some .int)) (by decide) rfl rfl (Nat.le_of_ble_eq_true rfl) ?_
  intro pr e s m below meth c A F hr hlk hP hS ls hl
  obtain ⟨⟨hx, hb, hml, hown, hts⟩, hK, hDD, hA, hKC⟩ := id F
  have hl : lv_has ls 10 [(0, .ref (ad 0)), (1, .int x1), (2, .int x2), (3, .int x3)] := hl
  have hP : va_P (dC, dI) vwCl (wM cI cZ ad mb mo mn mg mf mt mz ml mi) s.heap := hP
  unfold M_X9_fewestShown at hM
  refine kloop (α := AR × AR × Int32) (res := res) (fun k a => M_X9_fewestShown_12 mb x1 x2 x3 k a) (fun rec a => M_X9_fewestShown_12b mb x1 x2 x3 rec a) (fun _ => rfl) (fun _ _ => rfl) F (fun a => (wM cI cZ ad mb mo mn mg a.1 mt a.2.1 ml mi)) (fun a => [(0, .ref (ad 0)), (1, .int x1), (2, .int x2), (3, .int x3), (4, .int a.2.2)]) (fun a => []) 12 ?_ (fun j12 => ?_)
  · intro rc12 ih12 a12 H locs ls hP hS hl hM
    unfold M_X9_fewestShown_12b at hM
    refine kblk (α := AR × AR × Int32) (res := res) (fun a => M_X9_fewestShown_200 mb x1 x2 x3 rc12 a) F (fun a => (wM cI cZ ad mb mo mn mg a.1 mt a.2.1 ml mi)) (fun a => [(0, .ref (ad 0)), (1, .int x1), (2, .int x2), (3, .int x3), (4, .int a.2.2)]) (fun a => []) 200 ?_ (fun j200 => ?_)
    · intro a200 H locs ls hP hS hl hM
      unfold M_X9_fewestShown_200 at hM
      refine lv_iinc (v := (a200.2.2 + (1 : Int32))) (lv' := [(4, .int (a200.2.2 + (1 : Int32))), (0, .ref (ad 0)), (1, .int x1), (2, .int x2), (3, .int x3)]) hx hb dX9_fewestShown_200 hl (k := 4) rfl rfl (by decide) rfl (fun ls hl => ?_)
      refine lv_goto (tgt := 12) hx hb dX9_fewestShown_203 (by decide) ?_
      exact ih12 (a200.1, a200.2.1, (a200.2.2 + (1 : Int32))) _ _ _ hP hS (lv_sub hl [1, 2, 3, 4, 0] rfl) hM
    refine kloop (α := AR × AR × Int32 × Int32) (res := res) (fun k a => M_X9_fewestShown_22 mb x1 x2 x3 rc12 k a) (fun rec a => M_X9_fewestShown_22b mb x1 x2 x3 rc12 rec a) (fun _ => rfl) (fun _ _ => rfl) F (fun a => (wM cI cZ ad mb mo mn mg a.1 mt a.2.1 ml mi)) (fun a => [(0, .ref (ad 0)), (1, .int x1), (2, .int x2), (3, .int x3), (4, .int a.2.2.1), (5, .int a.2.2.2)]) (fun a => []) 22 ?_ (fun j22 => ?_)
    · intro rc22 ih22 a22 H locs ls hP hS hl hM
      unfold M_X9_fewestShown_22b at hM
      refine kblk (α := AR × AR × Int32 × Int32) (res := res) (fun a => M_X9_fewestShown_194 mb x1 x2 x3 rc12 rc22 a) F (fun a => (wM cI cZ ad mb mo mn mg a.1 mt a.2.1 ml mi)) (fun a => [(0, .ref (ad 0)), (1, .int x1), (2, .int x2), (3, .int x3), (4, .int a.2.2.1), (5, .int a.2.2.2)]) (fun a => []) 194 ?_ (fun j194 => ?_)
      · intro a194 H locs ls hP hS hl hM
        unfold M_X9_fewestShown_194 at hM
        refine lv_iinc (v := (a194.2.2.2 + (1 : Int32))) (lv' := [(5, .int (a194.2.2.2 + (1 : Int32))), (0, .ref (ad 0)), (1, .int x1), (2, .int x2), (3, .int x3), (4, .int a194.2.2.1)]) hx hb dX9_fewestShown_194 hl (k := 5) rfl rfl (by decide) rfl (fun ls hl => ?_)
        refine lv_goto (tgt := 22) hx hb dX9_fewestShown_197 (by decide) ?_
        exact ih22 (a194.1, a194.2.1, a194.2.2.1, (a194.2.2.2 + (1 : Int32))) _ _ _ hP hS (lv_sub hl [1, 2, 3, 4, 5, 0] rfl) hM
      refine kloop (α := AR × AR × Int32 × Int32 × Int32) (res := res) (fun k a => M_X9_fewestShown_65 mb x1 x2 x3 rc12 rc22 k a) (fun rec a => M_X9_fewestShown_65b mb x1 x2 x3 rc12 rc22 rec a) (fun _ => rfl) (fun _ _ => rfl) F (fun a => (wM cI cZ ad mb mo mn mg a.1 mt a.2.1 ml mi)) (fun a => [(0, .ref (ad 0)), (1, .int x1), (2, .int x2), (3, .int x3), (4, .int a.2.2.1), (5, .int a.2.2.2.1), (6, .int a.2.2.2.2)]) (fun a => []) 65 ?_ (fun j65 => ?_)
      · intro rc65 ih65 a65 H locs ls hP hS hl hM
        unfold M_X9_fewestShown_65b at hM
        refine kblk (α := AR × AR × Int32 × Int32 × Int32 × Int32 × Int32) (res := res) (fun a => M_X9_fewestShown_187 mb x1 x2 x3 rc12 rc22 rc65 a) F (fun a => (wM cI cZ ad mb mo mn mg a.1 mt a.2.1 ml mi)) (fun a => [(0, .ref (ad 0)), (1, .int x1), (2, .int x2), (3, .int x3), (4, .int a.2.2.1), (5, .int a.2.2.2.1), (6, .int a.2.2.2.2.1)]) (fun a => [.int a.2.2.2.2.2.1, .int a.2.2.2.2.2.2, .ref (ad 8)]) 187 ?_ (fun j187 => ?_)
        · intro a187 H locs ls hP hS hl hM
          unfold M_X9_fewestShown_187 at hM
          obtain ⟨hin, hM⟩ := if_ok hM
          refine g_iast (ws' := (wM cI cZ ad mb mo mn mg a187.1 mt (upd a187.2.1 a187.2.2.2.2.2.2.toNatClampNeg a187.2.2.2.2.2.1) ml mi)) F hP hS rfl 8 0 rfl rfl hin dX9_fewestShown_187 rfl (fun H locs hP hS => ?_)
          refine lv_iinc (v := (a187.2.2.2.2.1 + (1 : Int32))) (lv' := [(6, .int (a187.2.2.2.2.1 + (1 : Int32))), (0, .ref (ad 0)), (1, .int x1), (2, .int x2), (3, .int x3), (4, .int a187.2.2.1), (5, .int a187.2.2.2.1)]) hx hb dX9_fewestShown_188 hl (k := 6) rfl rfl (by decide) rfl (fun ls hl => ?_)
          refine lv_goto (tgt := 65) hx hb dX9_fewestShown_191 (by decide) ?_
          exact ih65 (a187.1, (upd a187.2.1 a187.2.2.2.2.2.2.toNatClampNeg a187.2.2.2.2.2.1), a187.2.2.1, a187.2.2.2.1, (a187.2.2.2.2.1 + (1 : Int32))) _ _ _ hP hS (lv_sub hl [1, 2, 3, 4, 5, 6, 0] rfl) hM
        refine kblk (α := AR × AR × Int32 × Int32 × Int32 × Int32) (res := res) (fun a => M_X9_fewestShown_155 mb x1 x2 x3 rc12 rc22 rc65 a) F (fun a => (wM cI cZ ad mb mo mn mg a.1 mt a.2.1 ml mi)) (fun a => [(0, .ref (ad 0)), (1, .int x1), (2, .int x2), (3, .int x3), (4, .int a.2.2.1), (5, .int a.2.2.2.1), (6, .int a.2.2.2.2.1)]) (fun a => [.int a.2.2.2.2.2]) 155 ?_ (fun j155 => ?_)
        · intro a155 H locs ls hP hS hl hM
          unfold M_X9_fewestShown_155 at hM
          refine lv_istore (lv' := [(9, .int a155.2.2.2.2.2), (0, .ref (ad 0)), (1, .int x1), (2, .int x2), (3, .int x3), (4, .int a155.2.2.1), (5, .int a155.2.2.2.1), (6, .int a155.2.2.2.2.1)]) hx hb dX9_fewestShown_155 hl (by decide) rfl (fun ls hl => ?_)
          refine lv_aload_n hx hb dX9_fewestShown_157 rfl (lv_at hl 1 rfl) ?_
          refine g_get (ci := 9) (C := RX9) (T := TX9) (N := 32) (v := .ref (ad 8)) F hP 0 rfl rfl inX9_fewestShown_X9 25 (by decide) (List.mem_of_getElem? (i := 2) rfl) rfl dX9_fewestShown_158 ?_
          refine lv_iload hx hb dX9_fewestShown_161 (lv_at hl 6 rfl) ?_
          refine lv_iload hx hb dX9_fewestShown_163 (lv_at hl 0 rfl) ?_
          refine lv_aload_n hx hb dX9_fewestShown_165 rfl (lv_at hl 1 rfl) ?_
          refine g_get (ci := 9) (C := RX9) (T := TX9) (N := 32) (v := .ref (ad 8)) F hP 0 rfl rfl inX9_fewestShown_X9 25 (by decide) (List.mem_of_getElem? (i := 2) rfl) rfl dX9_fewestShown_166 ?_
          refine lv_iload hx hb dX9_fewestShown_169 (lv_at hl 6 rfl) ?_
          obtain ⟨hin, hM⟩ := if_ok hM
          refine va_iald hx hb hK hP 8 0 rfl rfl hin dX9_fewestShown_171 ?_
          refine lv_icmp_ge (tgt := 180) hx hb dX9_fewestShown_172 (by decide) (fun hc => ?_) (fun hc => ?_)
          · have hM := if_pp hc hM
            refine lv_aload_n hx hb dX9_fewestShown_180 rfl (lv_at hl 1 rfl) ?_
            refine g_get (ci := 9) (C := RX9) (T := TX9) (N := 32) (v := .ref (ad 8)) F hP 0 rfl rfl inX9_fewestShown_X9 25 (by decide) (List.mem_of_getElem? (i := 2) rfl) rfl dX9_fewestShown_181 ?_
            refine lv_iload hx hb dX9_fewestShown_184 (lv_at hl 6 rfl) ?_
            obtain ⟨hin, hM⟩ := if_ok hM
            refine va_iald hx hb hK hP 8 0 rfl rfl hin dX9_fewestShown_186 ?_
            exact j187 (a155.1, a155.2.1, a155.2.2.1, a155.2.2.2.1, a155.2.2.2.2.1, (a155.2.1 a155.2.2.2.1.toNatClampNeg), a155.2.2.2.1) _ _ _ hP hS (lv_sub hl [1, 2, 3, 4, 5, 6, 7] rfl) hM
          · have hM := if_nn hc hM
            refine lv_iload hx hb dX9_fewestShown_175 (lv_at hl 0 rfl) ?_
            refine lv_goto (tgt := 187) hx hb dX9_fewestShown_177 (by decide) ?_
            exact j187 (a155.1, a155.2.1, a155.2.2.1, a155.2.2.2.1, a155.2.2.2.2.1, a155.2.2.2.2.2, a155.2.2.2.1) _ _ _ hP hS (lv_sub hl [1, 2, 3, 4, 5, 6, 7] rfl) hM
        refine kblk (α := AR × AR × Int32 × Int32 × Int32 × Int32 × Int32) (res := res) (fun a => M_X9_fewestShown_154 mb x1 x2 x3 rc12 rc22 rc65 a) F (fun a => (wM cI cZ ad mb mo mn mg a.1 mt a.2.1 ml mi)) (fun a => [(0, .ref (ad 0)), (1, .int x1), (2, .int x2), (3, .int x3), (4, .int a.2.2.1), (5, .int a.2.2.2.1), (6, .int a.2.2.2.2.1)]) (fun a => [.int a.2.2.2.2.2.1, .int a.2.2.2.2.2.2]) 154 ?_ (fun j154 => ?_)
        · intro a154 H locs ls hP hS hl hM
          unfold M_X9_fewestShown_154 at hM
          refine lv_iadd hx hb dX9_fewestShown_154 ?_
          exact j155 (a154.1, a154.2.1, a154.2.2.1, a154.2.2.2.1, a154.2.2.2.2.1, (a154.2.2.2.2.2.2 + a154.2.2.2.2.2.1)) _ _ _ hP hS (lv_sub hl [0, 1, 2, 3, 4, 5, 6] rfl) hM
        refine kblk (α := AR × AR × Int32 × Int32 × Int32 × Int32) (res := res) (fun a => M_X9_fewestShown_149 mb x1 x2 x3 rc12 rc22 rc65 a) F (fun a => (wM cI cZ ad mb mo mn mg a.1 mt a.2.1 ml mi)) (fun a => [(0, .ref (ad 0)), (1, .int x1), (2, .int x2), (3, .int x3), (4, .int a.2.2.1), (5, .int a.2.2.2.1), (6, .int a.2.2.2.2.1)]) (fun a => [.int a.2.2.2.2.2]) 149 ?_ (fun j149 => ?_)
        · intro a149 H locs ls hP hS hl hM
          unfold M_X9_fewestShown_149 at hM
          refine lv_iconst (v := 0) hx hb dX9_fewestShown_149 (by decide) ?_
          refine lv_goto (tgt := 154) hx hb dX9_fewestShown_150 (by decide) ?_
          exact j154 (a149.1, a149.2.1, a149.2.2.1, a149.2.2.2.1, a149.2.2.2.2.1, (0 : Int32), a149.2.2.2.2.2) _ _ _ hP hS (lv_sub hl [0, 1, 2, 3, 4, 5, 6] rfl) hM
        refine kblk (α := AR × AR × Int32 × Int32 × Int32 × Int32) (res := res) (fun a => M_X9_fewestShown_153 mb x1 x2 x3 rc12 rc22 rc65 a) F (fun a => (wM cI cZ ad mb mo mn mg a.1 mt a.2.1 ml mi)) (fun a => [(0, .ref (ad 0)), (1, .int x1), (2, .int x2), (3, .int x3), (4, .int a.2.2.1), (5, .int a.2.2.2.1), (6, .int a.2.2.2.2.1)]) (fun a => [.int a.2.2.2.2.2]) 153 ?_ (fun j153 => ?_)
        · intro a153 H locs ls hP hS hl hM
          unfold M_X9_fewestShown_153 at hM
          refine lv_iconst (v := 1) hx hb dX9_fewestShown_153 (by decide) ?_
          exact j154 (a153.1, a153.2.1, a153.2.2.1, a153.2.2.2.1, a153.2.2.2.2.1, (1 : Int32), a153.2.2.2.2.2) _ _ _ hP hS (lv_sub hl [0, 1, 2, 3, 4, 5, 6] rfl) hM
        refine kblk (α := AR × AR × Int32 × Int32 × Int32 × Int32 × Int32) (res := res) (fun a => M_X9_fewestShown_110 mb x1 x2 x3 rc12 rc22 rc65 a) F (fun a => (wM cI cZ ad mb mo mn mg a.1 mt a.2.1 ml mi)) (fun a => [(0, .ref (ad 0)), (1, .int x1), (2, .int x2), (3, .int x3), (4, .int a.2.2.1), (5, .int a.2.2.2.1), (6, .int a.2.2.2.2.1), (7, .int a.2.2.2.2.2.1)]) (fun a => [.int a.2.2.2.2.2.2]) 110 ?_ (fun j110 => ?_)
        · intro a110 H locs ls hP hS hl hM
          unfold M_X9_fewestShown_110 at hM
          refine lv_istore (lv' := [(8, .int a110.2.2.2.2.2.2), (0, .ref (ad 0)), (1, .int x1), (2, .int x2), (3, .int x3), (4, .int a110.2.2.1), (5, .int a110.2.2.2.1), (6, .int a110.2.2.2.2.1), (7, .int a110.2.2.2.2.2.1)]) hx hb dX9_fewestShown_110 hl (by decide) rfl (fun ls hl => ?_)
          refine lv_iload hx hb dX9_fewestShown_112 (lv_at hl 0 rfl) ?_
          refine lv_if_ne (tgt := 123) hx hb dX9_fewestShown_114 (by decide) (fun hc => ?_) (fun hc => ?_)
          · have hM := if_nn hc hM
            refine lv_aload_n hx hb dX9_fewestShown_123 rfl (lv_at hl 1 rfl) ?_
            refine g_get (ci := 9) (C := RX9) (T := TX9) (N := 32) (v := .ref (ad 8)) F hP 0 rfl rfl inX9_fewestShown_X9 25 (by decide) (List.mem_of_getElem? (i := 2) rfl) rfl dX9_fewestShown_124 ?_
            refine lv_iload hx hb dX9_fewestShown_127 (lv_at hl 8 rfl) ?_
            obtain ⟨hin, hM⟩ := if_ok hM
            refine va_iald hx hb hK hP 8 0 rfl rfl hin dX9_fewestShown_129 ?_
            refine lv_aload_n hx hb dX9_fewestShown_130 rfl (lv_at hl 1 rfl) ?_
            refine lv_iload hx hb dX9_fewestShown_131 (lv_at hl 8 rfl) ?_
            obtain ⟨z133, hcr, hM⟩ := ob_s hM
            refine res_i0 F hP hS rfl [0, 1, 2, 3, 4, 5, 6, 7, 8, 9, 10, 11, 12] rfl rfl (runV_of (n := 1) (As := [.int a110.2.2.2.2.2.1]) (rest := [.int (a110.2.1 a110.2.2.2.2.2.1.toNatClampNeg)]) F hP hS rfl [0, 1, 2, 3, 4, 5, 6, 7, 8, 9, 10, 11, 12] rfl rfl (c_X9_isBare l dC dI cI cC cZ sa ad mb mo mn mg a110.1 mt a110.2.1 ml mi a110.2.2.2.2.2.1 hcr _) gX9_fewestShown_X9_isBare rfl (by decide +kernel) ⟨Nat.le_of_ble_eq_true rfl, Nat.le_of_ble_eq_true rfl⟩ 0 9 rfl rfl rfl hl.1 rfl (Nat.le_of_ble_eq_true rfl) dX9_fewestShown_133 ⟨Nat.zero_le _, Nat.zero_le _⟩) (fun H locs hP hS => ?_)
            refine lv_if_ne (tgt := 149) hx hb dX9_fewestShown_136 (by decide) (fun hc => ?_) (fun hc => ?_)
            · have hM := if_nn hc hM
              exact j149 (a110.1, a110.2.1, a110.2.2.1, a110.2.2.2.1, a110.2.2.2.2.1, (a110.2.1 a110.2.2.2.2.2.1.toNatClampNeg)) _ _ _ hP hS (lv_sub hl [1, 2, 3, 4, 5, 6, 7] rfl) hM
            · have hM := if_pp hc hM
              refine lv_iload hx hb dX9_fewestShown_139 (lv_at hl 8 rfl) ?_
              refine lv_iload_n hx hb dX9_fewestShown_141 rfl (lv_at hl 3 rfl) ?_
              refine lv_icmp_ne (tgt := 153) hx hb dX9_fewestShown_142 (by decide) (fun hc => ?_) (fun hc => ?_)
              · have hM := if_nn hc hM
                exact j153 (a110.1, a110.2.1, a110.2.2.1, a110.2.2.2.1, a110.2.2.2.2.1, (a110.2.1 a110.2.2.2.2.2.1.toNatClampNeg)) _ _ _ hP hS (lv_sub hl [1, 2, 3, 4, 5, 6, 7] rfl) hM
              · have hM := if_pp hc hM
                refine lv_iload_n hx hb dX9_fewestShown_145 rfl (lv_at hl 4 rfl) ?_
                refine lv_if_ne (tgt := 153) hx hb dX9_fewestShown_146 (by decide) (fun hc => ?_) (fun hc => ?_)
                · have hM := if_nn hc hM
                  exact j153 (a110.1, a110.2.1, a110.2.2.1, a110.2.2.2.1, a110.2.2.2.2.1, (a110.2.1 a110.2.2.2.2.2.1.toNatClampNeg)) _ _ _ hP hS (lv_sub hl [1, 2, 3, 4, 5, 6, 7] rfl) hM
                · have hM := if_pp hc hM
                  exact j149 (a110.1, a110.2.1, a110.2.2.1, a110.2.2.2.1, a110.2.2.2.2.1, (a110.2.1 a110.2.2.2.2.2.1.toNatClampNeg)) _ _ _ hP hS (lv_sub hl [1, 2, 3, 4, 5, 6, 7] rfl) hM
          · have hM := if_pp hc hM
            refine lv_sipush (v := 1000) hx hb dX9_fewestShown_117 (by decide) ?_
            refine lv_goto (tgt := 155) hx hb dX9_fewestShown_120 (by decide) ?_
            exact j155 (a110.1, a110.2.1, a110.2.2.1, a110.2.2.2.1, a110.2.2.2.2.1, (1000 : Int32)) _ _ _ hP hS (lv_sub hl [1, 2, 3, 4, 5, 6, 7] rfl) hM
        refine kblk (α := AR × AR × Int32 × Int32 × Int32 × Int32) (res := res) (fun a => M_X9_fewestShown_109 mb x1 x2 x3 rc12 rc22 rc65 a) F (fun a => (wM cI cZ ad mb mo mn mg a.1 mt a.2.1 ml mi)) (fun a => [(0, .ref (ad 0)), (1, .int x1), (2, .int x2), (3, .int x3), (4, .int a.2.2.1), (5, .int a.2.2.2.1), (6, .int a.2.2.2.2.1), (7, .int a.2.2.2.2.2)]) (fun a => []) 109 ?_ (fun j109 => ?_)
        · intro a109 H locs ls hP hS hl hM
          unfold M_X9_fewestShown_109 at hM
          refine lv_iconst (v := 0) hx hb dX9_fewestShown_109 (by decide) ?_
          exact j110 (a109.1, a109.2.1, a109.2.2.1, a109.2.2.2.1, a109.2.2.2.2.1, a109.2.2.2.2.2, (0 : Int32)) _ _ _ hP hS (lv_sub hl [0, 1, 2, 3, 4, 5, 6, 7] rfl) hM
        refine lv_iload hx hb dX9_fewestShown_65 (lv_at hl 6 rfl) ?_
        refine lv_iconst (v := 4) hx hb dX9_fewestShown_67 (by decide) ?_
        refine lv_icmp_ge (tgt := 194) hx hb dX9_fewestShown_68 (by decide) (fun hc => ?_) (fun hc => ?_)
        · have hM := if_pp hc hM
          exact j194 (a65.1, a65.2.1, a65.2.2.1, a65.2.2.2.1) _ _ _ hP hS (lv_sub hl [0, 1, 2, 3, 4, 5] rfl) hM
        · have hM := if_nn hc hM
          refine lv_iload hx hb dX9_fewestShown_71 (lv_at hl 4 rfl) ?_
          refine lv_if_le (tgt := 194) hx hb dX9_fewestShown_73 (by decide) (fun hc => ?_) (fun hc => ?_)
          · have hM := if_pp hc hM
            exact j194 (a65.1, a65.2.1, a65.2.2.1, a65.2.2.2.1) _ _ _ hP hS (lv_sub hl [0, 1, 2, 3, 4, 5] rfl) hM
          · have hM := if_nn hc hM
            refine lv_aload_n hx hb dX9_fewestShown_76 rfl (lv_at hl 0 rfl) ?_
            refine lv_iload hx hb dX9_fewestShown_77 (lv_at hl 5 rfl) ?_
            refine lv_iload hx hb dX9_fewestShown_79 (lv_at hl 6 rfl) ?_
            obtain ⟨z81, hcr, hM⟩ := ob_s hM
            refine res_i0 F hP hS rfl [0, 1, 2, 3, 4, 5, 6, 7, 8, 9, 10, 11, 12] rfl rfl (runV_of (n := 2) (As := [.int a65.2.2.2.1, .int a65.2.2.2.2]) (rest := []) F hP hS rfl [0, 1, 2, 3, 4, 5, 6, 7, 8, 9, 10, 11, 12] rfl rfl (c_X9_beyond l dC dI cI cC cZ sa ad mb mo mn mg a65.1 mt a65.2.1 ml mi a65.2.2.2.1 a65.2.2.2.2 hcr _) gX9_fewestShown_X9_beyond rfl (by decide +kernel) ⟨Nat.le_of_ble_eq_true rfl, Nat.le_of_ble_eq_true rfl⟩ 0 9 rfl rfl rfl hl.1 rfl (Nat.le_of_ble_eq_true rfl) dX9_fewestShown_81 ⟨Nat.zero_le _, Nat.zero_le _⟩) (fun H locs hP hS => ?_)
            refine lv_istore (lv' := [(7, .int z81), (0, .ref (ad 0)), (1, .int x1), (2, .int x2), (3, .int x3), (4, .int a65.2.2.1), (5, .int a65.2.2.2.1), (6, .int a65.2.2.2.2)]) hx hb dX9_fewestShown_84 hl (by decide) rfl (fun ls hl => ?_)
            refine lv_iload hx hb dX9_fewestShown_86 (lv_at hl 0 rfl) ?_
            refine lv_if_lt (tgt := 109) hx hb dX9_fewestShown_88 (by decide) (fun hc => ?_) (fun hc => ?_)
            · have hM := if_pp hc hM
              exact j109 (a65.1, a65.2.1, a65.2.2.1, a65.2.2.2.1, a65.2.2.2.2, z81) _ _ _ hP hS (lv_sub hl [1, 2, 3, 4, 5, 6, 7, 0] rfl) hM
            · have hM := if_nn hc hM
              refine lv_aload_n hx hb dX9_fewestShown_91 rfl (lv_at hl 1 rfl) ?_
              refine g_get (ci := 9) (C := RX9) (T := TX9) (N := 32) (v := .ref (ad 6)) F hP 0 rfl rfl inX9_fewestShown_X9 22 (by decide) (List.mem_of_getElem? (i := 1) rfl) rfl dX9_fewestShown_92 ?_
              refine lv_iload hx hb dX9_fewestShown_95 (lv_at hl 0 rfl) ?_
              obtain ⟨hin, hM⟩ := if_ok hM
              refine va_iald hx hb hK hP 6 0 rfl rfl hin dX9_fewestShown_97 ?_
              refine lv_iload hx hb dX9_fewestShown_98 (lv_at hl 5 rfl) ?_
              refine lv_iconst (v := 1) hx hb dX9_fewestShown_100 (by decide) ?_
              refine lv_isub hx hb dX9_fewestShown_101 ?_
              refine lv_icmp_ne (tgt := 109) hx hb dX9_fewestShown_102 (by decide) (fun hc => ?_) (fun hc => ?_)
              · have hM := if_nn hc hM
                exact j109 (a65.1, a65.2.1, a65.2.2.1, a65.2.2.2.1, a65.2.2.2.2, z81) _ _ _ hP hS (lv_sub hl [1, 2, 3, 4, 5, 6, 7, 0] rfl) hM
              · have hM := if_pp hc hM
                refine lv_iconst (v := 1) hx hb dX9_fewestShown_105 (by decide) ?_
                refine lv_goto (tgt := 110) hx hb dX9_fewestShown_106 (by decide) ?_
                exact j110 (a65.1, a65.2.1, a65.2.2.1, a65.2.2.2.1, a65.2.2.2.2, z81, (1 : Int32)) _ _ _ hP hS (lv_sub hl [1, 2, 3, 4, 5, 6, 7, 0] rfl) hM
      refine kblk (α := AR × AR × Int32 × Int32 × Int32 × Int32) (res := res) (fun a => M_X9_fewestShown_61 mb x1 x2 x3 rc12 rc22 a) F (fun a => (wM cI cZ ad mb mo mn mg a.1 mt a.2.1 ml mi)) (fun a => [(0, .ref (ad 0)), (1, .int x1), (2, .int x2), (3, .int x3), (4, .int a.2.2.1), (5, .int a.2.2.2.1)]) (fun a => [.int a.2.2.2.2.1, .int a.2.2.2.2.2, .ref (ad 8)]) 61 ?_ (fun j61 => ?_)
      · intro a61 H locs ls hP hS hl hM
        unfold M_X9_fewestShown_61 at hM
        obtain ⟨hin, hM⟩ := if_ok hM
        refine g_iast (ws' := (wM cI cZ ad mb mo mn mg a61.1 mt (upd a61.2.1 a61.2.2.2.2.2.toNatClampNeg a61.2.2.2.2.1) ml mi)) F hP hS rfl 8 0 rfl rfl hin dX9_fewestShown_61 rfl (fun H locs hP hS => ?_)
        refine lv_iconst (v := 0) hx hb dX9_fewestShown_62 (by decide) ?_
        refine lv_istore (lv' := [(6, .int (0 : Int32)), (0, .ref (ad 0)), (1, .int x1), (2, .int x2), (3, .int x3), (4, .int a61.2.2.1), (5, .int a61.2.2.2.1)]) hx hb dX9_fewestShown_63 hl (by decide) rfl (fun ls hl => ?_)
        exact j65 200 (a61.1, (upd a61.2.1 a61.2.2.2.2.2.toNatClampNeg a61.2.2.2.2.1), a61.2.2.1, a61.2.2.2.1, (0 : Int32)) _ _ _ hP hS (lv_sub hl [1, 2, 3, 4, 5, 6, 0] rfl) hM
      refine lv_iload hx hb dX9_fewestShown_22 (lv_at hl 5 rfl) ?_
      refine lv_aload_n hx hb dX9_fewestShown_24 rfl (lv_at hl 0 rfl) ?_
      obtain ⟨z25, hcr, hM⟩ := ob_s hM
      refine res_i0 F hP hS rfl [0, 1, 2, 3, 4, 5, 6, 7, 8, 9, 10, 11, 12] rfl rfl (runV_of (n := 0) (As := []) (rest := [.int a22.2.2.2]) F hP hS rfl [0, 1, 2, 3, 4, 5, 6, 7, 8, 9, 10, 11, 12] rfl rfl (c_X9_cells l dC dI cI cC cZ sa ad mb mo mn mg a22.1 mt a22.2.1 ml mi hcr _) gX9_fewestShown_X9_cells rfl (by decide +kernel) ⟨Nat.le_of_ble_eq_true rfl, Nat.le_of_ble_eq_true rfl⟩ 0 9 rfl rfl rfl hl.1 rfl (Nat.le_of_ble_eq_true rfl) dX9_fewestShown_25 ⟨Nat.zero_le _, Nat.zero_le _⟩) (fun H locs hP hS => ?_)
      refine lv_icmp_ge (tgt := 200) hx hb dX9_fewestShown_28 (by decide) (fun hc => ?_) (fun hc => ?_)
      · have hM := if_pp hc hM
        exact j200 (a22.1, a22.2.1, a22.2.2.1) _ _ _ hP hS (lv_sub hl [0, 1, 2, 3, 4] rfl) hM
      · have hM := if_nn hc hM
        refine lv_aload_n hx hb dX9_fewestShown_31 rfl (lv_at hl 0 rfl) ?_
        refine g_get (ci := 9) (C := RX9) (T := TX9) (N := 32) (v := .ref (ad 6)) F hP 0 rfl rfl inX9_fewestShown_X9 22 (by decide) (List.mem_of_getElem? (i := 1) rfl) rfl dX9_fewestShown_32 ?_
        refine lv_iload hx hb dX9_fewestShown_35 (lv_at hl 5 rfl) ?_
        obtain ⟨hin, hM⟩ := if_ok hM
        refine va_iald hx hb hK hP 6 0 rfl rfl hin dX9_fewestShown_37 ?_
        refine lv_iload hx hb dX9_fewestShown_38 (lv_at hl 4 rfl) ?_
        refine lv_icmp_ne (tgt := 194) hx hb dX9_fewestShown_40 (by decide) (fun hc => ?_) (fun hc => ?_)
        · have hM := if_nn hc hM
          exact j194 (a22.1, a22.2.1, a22.2.2.1, a22.2.2.2) _ _ _ hP hS (lv_sub hl [0, 1, 2, 3, 4, 5] rfl) hM
        · have hM := if_pp hc hM
          refine lv_aload_n hx hb dX9_fewestShown_43 rfl (lv_at hl 0 rfl) ?_
          refine g_get (ci := 9) (C := RX9) (T := TX9) (N := 32) (v := .ref (ad 8)) F hP 0 rfl rfl inX9_fewestShown_X9 25 (by decide) (List.mem_of_getElem? (i := 2) rfl) rfl dX9_fewestShown_44 ?_
          refine lv_iload hx hb dX9_fewestShown_47 (lv_at hl 5 rfl) ?_
          refine lv_iload hx hb dX9_fewestShown_49 (lv_at hl 4 rfl) ?_
          refine lv_if_ne (tgt := 58) hx hb dX9_fewestShown_51 (by decide) (fun hc => ?_) (fun hc => ?_)
          · have hM := if_nn hc hM
            refine lv_sipush (v := 1000) hx hb dX9_fewestShown_58 (by decide) ?_
            exact j61 (a22.1, a22.2.1, a22.2.2.1, a22.2.2.2, (1000 : Int32), a22.2.2.2) _ _ _ hP hS (lv_sub hl [0, 1, 2, 3, 4, 5] rfl) hM
          · have hM := if_pp hc hM
            refine lv_iconst (v := 0) hx hb dX9_fewestShown_54 (by decide) ?_
            refine lv_goto (tgt := 61) hx hb dX9_fewestShown_55 (by decide) ?_
            exact j61 (a22.1, a22.2.1, a22.2.2.1, a22.2.2.2, (0 : Int32), a22.2.2.2) _ _ _ hP hS (lv_sub hl [0, 1, 2, 3, 4, 5] rfl) hM
    refine lv_iload hx hb dX9_fewestShown_12 (lv_at hl 4 rfl) ?_
    refine lv_bipush (v := 16) hx hb dX9_fewestShown_14 (by decide) ?_
    refine lv_icmp_ge (tgt := 206) hx hb dX9_fewestShown_16 (by decide) (fun hc => ?_) (fun hc => ?_)
    · have hM := if_pp hc hM
      refine lv_aload_n hx hb dX9_fewestShown_206 rfl (lv_at hl 0 rfl) ?_
      refine g_get (ci := 9) (C := RX9) (T := TX9) (N := 32) (v := .ref (ad 8)) F hP 0 rfl rfl inX9_fewestShown_X9 25 (by decide) (List.mem_of_getElem? (i := 2) rfl) rfl dX9_fewestShown_207 ?_
      refine lv_iload_n hx hb dX9_fewestShown_210 rfl (lv_at hl 1 rfl) ?_
      obtain ⟨hin, hM⟩ := if_ok hM
      refine va_iald hx hb hK hP 8 0 rfl rfl hin dX9_fewestShown_211 ?_
      exact ret_i hx hb hr hlk dX9_fewestShown_212 hM hP hS
    · have hM := if_nn hc hM
      refine lv_iconst (v := 0) hx hb dX9_fewestShown_19 (by decide) ?_
      refine lv_istore (lv' := [(5, .int (0 : Int32)), (0, .ref (ad 0)), (1, .int x1), (2, .int x2), (3, .int x3), (4, .int a12.2.2)]) hx hb dX9_fewestShown_20 hl (by decide) rfl (fun ls hl => ?_)
      exact j22 200 (a12.1, a12.2.1, a12.2.2, (0 : Int32)) _ _ _ hP hS (lv_sub hl [1, 2, 3, 4, 5, 0] rfl) hM
  refine lv_aload_n hx hb dX9_fewestShown_0 rfl (lv_at hl 0 rfl) ?_
  refine lv_iload_n hx hb dX9_fewestShown_1 rfl (lv_at hl 2 rfl) ?_
  refine lv_aload_n hx hb dX9_fewestShown_2 rfl (lv_at hl 0 rfl) ?_
  obtain ⟨z3, hcr, hM⟩ := ob_s hM
  refine res_i0 F hP hS rfl [0, 1, 2, 3, 4, 5, 6, 7, 8, 9, 10, 11, 12] rfl rfl (runV_of (n := 0) (As := []) (rest := [.int x2, .ref (ad 0)]) F hP hS rfl [0, 1, 2, 3, 4, 5, 6, 7, 8, 9, 10, 11, 12] rfl rfl (c_X9_floor l dC dI cI cC cZ sa ad mb mo mn mg mf mt mz ml mi hcr _) gX9_fewestShown_X9_floor rfl (by decide +kernel) ⟨Nat.le_of_ble_eq_true rfl, Nat.le_of_ble_eq_true rfl⟩ 0 9 rfl rfl rfl hl.1 rfl (Nat.le_of_ble_eq_true rfl) dX9_fewestShown_3 ⟨Nat.zero_le _, Nat.zero_le _⟩) (fun H locs hP hS => ?_)
  obtain ⟨z6, hcr, hM⟩ := ob_s hM
  refine res_v (ws' := (wM cI cZ ad mb mo mn mg z6 mt mz ml mi)) F hP hS rfl [0, 1, 2, 3, 4, 5, 6, 7, 8, 9, 10, 11, 12] rfl rfl rfl (runV_of (n := 2) (As := [.int x2, .int z3]) (rest := []) F hP hS rfl [0, 1, 2, 3, 4, 5, 6, 7, 8, 9, 10, 11, 12] rfl rfl (c_X9_findFar l dC dI cI cC cZ sa ad mb mo mn mg mf mt mz ml mi x2 z3 hcr _) gX9_fewestShown_X9_findFar rfl (by decide +kernel) ⟨Nat.le_of_ble_eq_true rfl, Nat.le_of_ble_eq_true rfl⟩ 0 9 rfl rfl rfl hl.1 rfl (Nat.le_of_ble_eq_true rfl) dX9_fewestShown_6 ⟨Nat.zero_le _, Nat.zero_le _⟩) rfl (fun H locs hP hS => ?_)
  refine lv_iconst (v := 0) hx hb dX9_fewestShown_9 (by decide) ?_
  refine lv_istore (lv' := [(4, .int (0 : Int32)), (0, .ref (ad 0)), (1, .int x1), (2, .int x2), (3, .int x3)]) hx hb dX9_fewestShown_10 hl (by decide) rfl (fun ls hl => ?_)
  exact j12 200 (z6, mz, (0 : Int32)) _ _ _ hP hS (lv_sub hl [1, 2, 3, 4, 0] rfl) hM
set_option maxHeartbeats 4000000 in
set_option maxRecDepth 100000 in
theorem c_X9_fives (l : Launch) (dC : Nat → ClassId) (dI : Nat → Nat → Nat) (cI cC cZ : ClassId) (sa : Nat → Nat)  (x1 : Int32) {res : Int32} (hM : M_X9_fives x1 = some res) : CTi l (dC, dI) [(cI, .int), (cC, .char), (cZ, .boolean)] sa yX9_fives wsX9_fives (rmd 1) [.int x1] ([] : va_W) (fun (_ : Unit) => ([] : va_W)) (res, ()) := by
  refine CTi.enter (own := RX9) (cc := cX9_fives) (maxL := 3) (ret := (some .int)) (by decide) rfl rfl (Nat.le_of_ble_eq_true rfl) ?_
  intro pr e s m below meth c A F hr hlk hP hS ls hl
  obtain ⟨⟨hx, hb, hml, hown, hts⟩, hK, hDD, hA, hKC⟩ := id F
  have hl : lv_has ls 3 [(0, .int x1)] := hl
  have hP : va_P (dC, dI) vwCl ([] : va_W) s.heap := hP
  unfold M_X9_fives at hM
  refine kloop (α := Int32 × Int32) (res := res) (fun k a => M_X9_fives_4 x1 k a) (fun rec a => M_X9_fives_4b x1 rec a) (fun _ => rfl) (fun _ _ => rfl) F (fun a => ([] : va_W)) (fun a => [(0, .int x1), (1, .int a.1), (2, .int a.2)]) (fun a => []) 4 ?_ (fun j4 => ?_)
  · intro rc4 ih4 a4 H locs ls hP hS hl hM
    unfold M_X9_fives_4b at hM
    refine lv_iload_n hx hb dX9_fives_4 rfl (lv_at hl 2 rfl) ?_
    refine lv_iload_n hx hb dX9_fives_5 rfl (lv_at hl 0 rfl) ?_
    refine lv_icmp_ge (tgt := 19) hx hb dX9_fives_6 (by decide) (fun hc => ?_) (fun hc => ?_)
    · have hM := if_pp hc hM
      refine lv_iload_n hx hb dX9_fives_19 rfl (lv_at hl 1 rfl) ?_
      exact ret_i hx hb hr hlk dX9_fives_20 (some_u hM) hP hS
    · have hM := if_nn hc hM
      refine lv_iload_n hx hb dX9_fives_9 rfl (lv_at hl 1 rfl) ?_
      refine lv_iconst (v := 5) hx hb dX9_fives_10 (by decide) ?_
      refine lv_imul hx hb dX9_fives_11 ?_
      refine lv_istore_n (lv' := [(1, .int (a4.1 * (5 : Int32))), (0, .int x1), (2, .int a4.2)]) hx hb dX9_fives_12 rfl hl (by decide) rfl (fun ls hl => ?_)
      refine lv_iinc (v := (a4.2 + (1 : Int32))) (lv' := [(2, .int (a4.2 + (1 : Int32))), (1, .int (a4.1 * (5 : Int32))), (0, .int x1)]) hx hb dX9_fives_13 hl (k := 2) rfl rfl (by decide) rfl (fun ls hl => ?_)
      refine lv_goto (tgt := 4) hx hb dX9_fives_16 (by decide) ?_
      exact ih4 ((a4.1 * (5 : Int32)), (a4.2 + (1 : Int32))) _ _ _ hP hS (lv_sub hl [2, 1, 0] rfl) hM
  refine lv_iconst (v := 1) hx hb dX9_fives_0 (by decide) ?_
  refine lv_istore_n (lv' := [(1, .int (1 : Int32)), (0, .int x1)]) hx hb dX9_fives_1 rfl hl (by decide) rfl (fun ls hl => ?_)
  refine lv_iconst (v := 0) hx hb dX9_fives_2 (by decide) ?_
  refine lv_istore_n (lv' := [(2, .int (0 : Int32)), (1, .int (1 : Int32)), (0, .int x1)]) hx hb dX9_fives_3 rfl hl (by decide) rfl (fun ls hl => ?_)
  exact j4 200 ((1 : Int32), (0 : Int32)) _ _ _ hP hS (lv_sub hl [2, 1, 0] rfl) hM
set_option maxHeartbeats 4000000 in
set_option maxRecDepth 100000 in
theorem c_X9_ones (l : Launch) (dC : Nat → ClassId) (dI : Nat → Nat → Nat) (cI cC cZ : ClassId) (sa : Nat → Nat)  (x1 : Int32) {res : Int32} (hM : M_X9_ones x1 = some res) : CTi l (dC, dI) [(cI, .int), (cC, .char), (cZ, .boolean)] sa yX9_ones wsX9_ones (rmd 1) [.int x1] ([] : va_W) (fun (_ : Unit) => ([] : va_W)) (res, ()) := by
  refine CTi.enter (own := RX9) (cc := cX9_ones) (maxL := 3) (ret := (some .int)) (by decide) rfl rfl (Nat.le_of_ble_eq_true rfl) ?_
  intro pr e s m below meth c A F hr hlk hP hS ls hl
  obtain ⟨⟨hx, hb, hml, hown, hts⟩, hK, hDD, hA, hKC⟩ := id F
  have hl : lv_has ls 3 [(0, .int x1)] := hl
  have hP : va_P (dC, dI) vwCl ([] : va_W) s.heap := hP
  unfold M_X9_ones at hM
  refine kloop (α := Int32 × Int32) (res := res) (fun k a => M_X9_ones_4 x1 k a) (fun rec a => M_X9_ones_4b x1 rec a) (fun _ => rfl) (fun _ _ => rfl) F (fun a => ([] : va_W)) (fun a => [(1, .int a.1), (2, .int a.2)]) (fun a => []) 4 ?_ (fun j4 => ?_)
  · intro rc4 ih4 a4 H locs ls hP hS hl hM
    unfold M_X9_ones_4b at hM
    refine lv_iload_n hx hb dX9_ones_4 rfl (lv_at hl 1 rfl) ?_
    refine lv_if_eq (tgt := 20) hx hb dX9_ones_5 (by decide) (fun hc => ?_) (fun hc => ?_)
    · have hM := if_pp hc hM
      refine lv_iload_n hx hb dX9_ones_20 rfl (lv_at hl 0 rfl) ?_
      exact ret_i hx hb hr hlk dX9_ones_21 (some_u hM) hP hS
    · have hM := if_nn hc hM
      refine lv_iinc (v := (a4.1 + (1 : Int32))) (lv' := [(1, .int (a4.1 + (1 : Int32))), (2, .int a4.2)]) hx hb dX9_ones_8 hl (k := 0) rfl rfl (by decide) rfl (fun ls hl => ?_)
      refine lv_iload_n hx hb dX9_ones_11 rfl (lv_at hl 1 rfl) ?_
      refine lv_iload_n hx hb dX9_ones_12 rfl (lv_at hl 1 rfl) ?_
      refine lv_iconst (v := 1) hx hb dX9_ones_13 (by decide) ?_
      refine lv_isub hx hb dX9_ones_14 ?_
      refine lv_iand hx hb dX9_ones_15 ?_
      refine lv_istore_n (lv' := [(2, .int (a4.2 &&& (a4.2 - (1 : Int32)))), (1, .int (a4.1 + (1 : Int32)))]) hx hb dX9_ones_16 rfl hl (by decide) rfl (fun ls hl => ?_)
      refine lv_goto (tgt := 4) hx hb dX9_ones_17 (by decide) ?_
      exact ih4 ((a4.1 + (1 : Int32)), (a4.2 &&& (a4.2 - (1 : Int32)))) _ _ _ hP hS (lv_sub hl [1, 0] rfl) hM
  refine lv_iconst (v := 0) hx hb dX9_ones_0 (by decide) ?_
  refine lv_istore_n (lv' := [(1, .int (0 : Int32)), (0, .int x1)]) hx hb dX9_ones_1 rfl hl (by decide) rfl (fun ls hl => ?_)
  refine lv_iload_n hx hb dX9_ones_2 rfl (lv_at hl 1 rfl) ?_
  refine lv_istore_n (lv' := [(2, .int x1), (1, .int (0 : Int32)), (0, .int x1)]) hx hb dX9_ones_3 rfl hl (by decide) rfl (fun ls hl => ?_)
  exact j4 200 ((0 : Int32), x1) _ _ _ hP hS (lv_sub hl [1, 0] rfl) hM
theorem inX9_flour_X9 : ∀ w ∈ wsX90, w ∈ wsX9_flour := fun w h => List.mem_cons_of_mem _ (List.mem_append_right _ h)
set_option maxHeartbeats 4000000 in
set_option maxRecDepth 100000 in
theorem c_X9_flour (l : Launch) (dC : Nat → ClassId) (dI : Nat → Nat → Nat) (cI cC cZ : ClassId) (sa : Nat → Nat) (ad : Nat → Nat) (mb : BT) (mo : OT) (mn : NT) (mg : GT) (mf : AR) (mt : TT) (mz : AR) (ml : LT) (mi : IT) (x1 : Int32) {res : Int32 × AR} (hM : M_X9_flour mb mf x1 = some res) : CTi l (dC, dI) [(cI, .int), (cC, .char), (cZ, .boolean)] sa yX9_flour wsX9_flour (rmd 4) [.ref (ad 0), .int x1] (wM cI cZ ad mb mo mn mg mf mt mz ml mi) (fun (uu : AR) => (wM cI cZ ad mb mo mn mg uu mt mz ml mi)) res := by
  refine CTi.enter (own := RX9) (cc := cX9_flour) (maxL := 6) (ret := (some .int)) (by decide) rfl rfl (Nat.le_of_ble_eq_true rfl) ?_
  intro pr e s m below meth c A F hr hlk hP hS ls hl
  obtain ⟨⟨hx, hb, hml, hown, hts⟩, hK, hDD, hA, hKC⟩ := id F
  have hl : lv_has ls 6 [(0, .ref (ad 0)), (1, .int x1)] := hl
  have hP : va_P (dC, dI) vwCl (wM cI cZ ad mb mo mn mg mf mt mz ml mi) s.heap := hP
  unfold M_X9_flour at hM
  refine kloop (α := AR × Int32 × Int32 × Int32 × Int32) (res := res) (fun k a => M_X9_flour_70 mb x1 k a) (fun rec a => M_X9_flour_70b mb x1 rec a) (fun _ => rfl) (fun _ _ => rfl) F (fun a => (wM cI cZ ad mb mo mn mg a.1 mt mz ml mi)) (fun a => [(0, .ref (ad 0)), (1, .int x1), (2, .int a.2.1), (3, .int a.2.2.1), (4, .int a.2.2.2.1), (5, .int a.2.2.2.2)]) (fun a => []) 70 ?_ (fun j70 => ?_)
  · intro rc70 ih70 a70 H locs ls hP hS hl hM
    unfold M_X9_flour_70b at hM
    refine kblk (α := AR × Int32 × Int32 × Int32 × Int32) (res := res) (fun a => M_X9_flour_141 mb x1 rc70 a) F (fun a => (wM cI cZ ad mb mo mn mg a.1 mt mz ml mi)) (fun a => [(0, .ref (ad 0)), (1, .int x1), (2, .int a.2.1), (3, .int a.2.2.1), (4, .int a.2.2.2.1), (5, .int a.2.2.2.2)]) (fun a => []) 141 ?_ (fun j141 => ?_)
    · intro a141 H locs ls hP hS hl hM
      unfold M_X9_flour_141 at hM
      refine lv_iinc (v := (a141.2.2.2.2 + (1 : Int32))) (lv' := [(5, .int (a141.2.2.2.2 + (1 : Int32))), (0, .ref (ad 0)), (1, .int x1), (2, .int a141.2.1), (3, .int a141.2.2.1), (4, .int a141.2.2.2.1)]) hx hb dX9_flour_141 hl (k := 5) rfl rfl (by decide) rfl (fun ls hl => ?_)
      refine lv_goto (tgt := 70) hx hb dX9_flour_144 (by decide) ?_
      exact ih70 (a141.1, a141.2.1, a141.2.2.1, a141.2.2.2.1, (a141.2.2.2.2 + (1 : Int32))) _ _ _ hP hS (lv_sub hl [1, 2, 3, 4, 5, 0] rfl) hM
    refine kblk (α := AR × Int32 × Int32 × Int32 × Int32) (res := res) (fun a => M_X9_flour_139 mb x1 rc70 a) F (fun a => (wM cI cZ ad mb mo mn mg a.1 mt mz ml mi)) (fun a => [(0, .ref (ad 0)), (1, .int x1), (2, .int a.2.1), (3, .int a.2.2.1), (5, .int a.2.2.2.1)]) (fun a => [.int a.2.2.2.2]) 139 ?_ (fun j139 => ?_)
    · intro a139 H locs ls hP hS hl hM
      unfold M_X9_flour_139 at hM
      refine lv_istore (lv' := [(4, .int a139.2.2.2.2), (0, .ref (ad 0)), (1, .int x1), (2, .int a139.2.1), (3, .int a139.2.2.1), (5, .int a139.2.2.2.1)]) hx hb dX9_flour_139 hl (by decide) rfl (fun ls hl => ?_)
      exact j141 (a139.1, a139.2.1, a139.2.2.1, a139.2.2.2.2, a139.2.2.2.1) _ _ _ hP hS (lv_sub hl [1, 2, 3, 4, 0, 5] rfl) hM
    refine kblk (α := AR × Int32 × Int32 × Int32 × Int32) (res := res) (fun a => M_X9_flour_103 mb x1 rc70 a) F (fun a => (wM cI cZ ad mb mo mn mg a.1 mt mz ml mi)) (fun a => [(0, .ref (ad 0)), (1, .int x1), (2, .int a.2.1), (3, .int a.2.2.1), (4, .int a.2.2.2.1), (5, .int a.2.2.2.2)]) (fun a => []) 103 ?_ (fun j103 => ?_)
    · intro a103 H locs ls hP hS hl hM
      unfold M_X9_flour_103 at hM
      refine lv_aload_n hx hb dX9_flour_103 rfl (lv_at hl 0 rfl) ?_
      refine lv_aload_n hx hb dX9_flour_104 rfl (lv_at hl 0 rfl) ?_
      refine g_get (ci := 9) (C := RX9) (T := TX9) (N := 32) (v := .int mb.2.2.2.1) F hP 0 rfl rfl inX9_flour_X9 4 (by decide) (List.mem_of_getElem? (i := 1) rfl) rfl dX9_flour_105 ?_
      refine lv_iload_n hx hb dX9_flour_108 rfl (lv_at hl 2 rfl) ?_
      refine lv_iload hx hb dX9_flour_109 (lv_at hl 5 rfl) ?_
      refine lv_iconst (v := -1) hx hb dX9_flour_111 (by decide) ?_
      refine lv_ixor hx hb dX9_flour_112 ?_
      refine lv_iand hx hb dX9_flour_113 ?_
      obtain ⟨z114, hcr, hM⟩ := ob_s hM
      refine res_v (ws' := (wM cI cZ ad mb mo mn mg z114 mt mz ml mi)) F hP hS rfl [0, 1, 2, 3, 4, 5, 6, 7, 8, 9, 10, 11, 12] rfl rfl rfl (runV_of (n := 2) (As := [.int mb.2.2.2.1, .int (a103.2.1 &&& (a103.2.2.2.2 ^^^ (-1 : Int32)))]) (rest := []) F hP hS rfl [0, 1, 2, 3, 4, 5, 6, 7, 8, 9, 10, 11, 12] rfl rfl (c_X9_findFar l dC dI cI cC cZ sa ad mb mo mn mg a103.1 mt mz ml mi mb.2.2.2.1 (a103.2.1 &&& (a103.2.2.2.2 ^^^ (-1 : Int32))) hcr _) gX9_flour_X9_findFar rfl (by decide +kernel) ⟨Nat.le_of_ble_eq_true rfl, Nat.le_of_ble_eq_true rfl⟩ 0 9 rfl rfl rfl hl.1 rfl (Nat.le_of_ble_eq_true rfl) dX9_flour_114 ⟨Nat.zero_le _, Nat.zero_le _⟩) rfl (fun H locs hP hS => ?_)
      refine lv_aload_n hx hb dX9_flour_117 rfl (lv_at hl 0 rfl) ?_
      refine g_get (ci := 9) (C := RX9) (T := TX9) (N := 32) (v := .ref (ad 6)) F hP 0 rfl rfl inX9_flour_X9 22 (by decide) (List.mem_of_getElem? (i := 2) rfl) rfl dX9_flour_118 ?_
      refine lv_aload_n hx hb dX9_flour_121 rfl (lv_at hl 0 rfl) ?_
      refine g_get (ci := 9) (C := RX9) (T := TX9) (N := 32) (v := .int mb.2.2.1) F hP 0 rfl rfl inX9_flour_X9 3 (by decide) (List.mem_of_getElem? (i := 3) rfl) rfl dX9_flour_122 ?_
      obtain ⟨hin, hM⟩ := if_ok hM
      refine va_iald hx hb hK hP 6 0 rfl rfl hin dX9_flour_125 ?_
      refine lv_sipush (v := 1000) hx hb dX9_flour_126 (by decide) ?_
      refine lv_icmp_ne (tgt := 137) hx hb dX9_flour_129 (by decide) (fun hc => ?_) (fun hc => ?_)
      · have hM := if_nn hc hM
        refine lv_iload hx hb dX9_flour_137 (lv_at hl 4 rfl) ?_
        exact j139 (z114, a103.2.1, a103.2.2.1, a103.2.2.2.2, a103.2.2.2.1) _ _ _ hP hS (lv_sub hl [0, 1, 2, 3, 5] rfl) hM
      · have hM := if_pp hc hM
        refine lv_iload hx hb dX9_flour_132 (lv_at hl 5 rfl) ?_
        refine lv_goto (tgt := 139) hx hb dX9_flour_134 (by decide) ?_
        exact j139 (z114, a103.2.1, a103.2.2.1, a103.2.2.2.2, a103.2.2.2.2) _ _ _ hP hS (lv_sub hl [0, 1, 2, 3, 5] rfl) hM
    refine lv_iload hx hb dX9_flour_70 (lv_at hl 5 rfl) ?_
    refine lv_iload_n hx hb dX9_flour_72 rfl (lv_at hl 3 rfl) ?_
    refine lv_icmp_gt (tgt := 147) hx hb dX9_flour_73 (by decide) (fun hc => ?_) (fun hc => ?_)
    · have hM := if_pp hc hM
      refine lv_iload_n hx hb dX9_flour_147 rfl (lv_at hl 1 rfl) ?_
      refine lv_if_ne (tgt := 159) hx hb dX9_flour_148 (by decide) (fun hc => ?_) (fun hc => ?_)
      · have hM := if_nn hc hM
        refine lv_iload hx hb dX9_flour_159 (lv_at hl 4 rfl) ?_
        exact ret_i hx hb hr hlk dX9_flour_161 hM hP hS
      · have hM := if_pp hc hM
        refine lv_iload hx hb dX9_flour_151 (lv_at hl 4 rfl) ?_
        obtain ⟨z153, hcr, hM⟩ := ob_s hM
        refine res_i0 F hP hS rfl [] rfl rfl (runS_of (n := 1) (As := [.int a70.2.2.2.1]) (rest := []) F hP hS rfl [] rfl rfl (c_X9_ones l dC dI cI cC cZ sa a70.2.2.2.1 hcr _) gX9_flour_X9_ones rfl (by decide +kernel) ⟨Nat.le_of_ble_eq_true rfl, Nat.le_of_ble_eq_true rfl⟩ rfl hl.1 rfl (Nat.le_of_ble_eq_true rfl) dX9_flour_153 ⟨Nat.zero_le _, Nat.zero_le _⟩) (fun H locs hP hS => ?_)
        refine lv_goto (tgt := 161) hx hb dX9_flour_156 (by decide) ?_
        exact ret_i hx hb hr hlk dX9_flour_161 hM hP hS
    · have hM := if_nn hc hM
      refine lv_iload hx hb dX9_flour_76 (lv_at hl 5 rfl) ?_
      refine lv_iload_n hx hb dX9_flour_78 rfl (lv_at hl 3 rfl) ?_
      refine lv_iconst (v := -1) hx hb dX9_flour_79 (by decide) ?_
      refine lv_ixor hx hb dX9_flour_80 ?_
      refine lv_iand hx hb dX9_flour_81 ?_
      refine lv_if_ne (tgt := 141) hx hb dX9_flour_82 (by decide) (fun hc => ?_) (fun hc => ?_)
      · have hM := if_nn hc hM
        exact j141 (a70.1, a70.2.1, a70.2.2.1, a70.2.2.2.1, a70.2.2.2.2) _ _ _ hP hS (lv_sub hl [0, 1, 2, 3, 4, 5] rfl) hM
      · have hM := if_pp hc hM
        refine lv_iload hx hb dX9_flour_85 (lv_at hl 4 rfl) ?_
        refine lv_if_lt (tgt := 103) hx hb dX9_flour_87 (by decide) (fun hc => ?_) (fun hc => ?_)
        · have hM := if_pp hc hM
          exact j103 (a70.1, a70.2.1, a70.2.2.1, a70.2.2.2.1, a70.2.2.2.2) _ _ _ hP hS (lv_sub hl [0, 1, 2, 3, 4, 5] rfl) hM
        · have hM := if_nn hc hM
          refine lv_iload hx hb dX9_flour_90 (lv_at hl 5 rfl) ?_
          obtain ⟨z92, hcr, hM⟩ := ob_s hM
          refine res_i0 F hP hS rfl [] rfl rfl (runS_of (n := 1) (As := [.int a70.2.2.2.2]) (rest := []) F hP hS rfl [] rfl rfl (c_X9_ones l dC dI cI cC cZ sa a70.2.2.2.2 hcr _) gX9_flour_X9_ones rfl (by decide +kernel) ⟨Nat.le_of_ble_eq_true rfl, Nat.le_of_ble_eq_true rfl⟩ rfl hl.1 rfl (Nat.le_of_ble_eq_true rfl) dX9_flour_92 ⟨Nat.zero_le _, Nat.zero_le _⟩) (fun H locs hP hS => ?_)
          refine lv_iload hx hb dX9_flour_95 (lv_at hl 4 rfl) ?_
          obtain ⟨z97, hcr, hM⟩ := ob_s hM
          refine res_i0 F hP hS rfl [] rfl rfl (runS_of (n := 1) (As := [.int a70.2.2.2.1]) (rest := [.int z92]) F hP hS rfl [] rfl rfl (c_X9_ones l dC dI cI cC cZ sa a70.2.2.2.1 hcr _) gX9_flour_X9_ones rfl (by decide +kernel) ⟨Nat.le_of_ble_eq_true rfl, Nat.le_of_ble_eq_true rfl⟩ rfl hl.1 rfl (Nat.le_of_ble_eq_true rfl) dX9_flour_97 ⟨Nat.zero_le _, Nat.zero_le _⟩) (fun H locs hP hS => ?_)
          refine lv_icmp_ge (tgt := 141) hx hb dX9_flour_100 (by decide) (fun hc => ?_) (fun hc => ?_)
          · have hM := if_pp hc hM
            exact j141 (a70.1, a70.2.1, a70.2.2.1, a70.2.2.2.1, a70.2.2.2.2) _ _ _ hP hS (lv_sub hl [0, 1, 2, 3, 4, 5] rfl) hM
          · have hM := if_nn hc hM
            exact j103 (a70.1, a70.2.1, a70.2.2.1, a70.2.2.2.1, a70.2.2.2.2) _ _ _ hP hS (lv_sub hl [0, 1, 2, 3, 4, 5] rfl) hM
  refine lv_iload_n hx hb dX9_flour_0 rfl (lv_at hl 1 rfl) ?_
  refine lv_i2l (v := x1.toInt64) hx hb dX9_flour_1 rfl ?_
  refine lv_lconst (v := 0) hx hb dX9_flour_2 (by decide) ?_
  refine lv_lconst (v := 1) hx hb dX9_flour_3 (by decide) ?_
  obtain ⟨z4, hcr, hM⟩ := ob_s hM
  refine res_i0 F hP hS rfl [] rfl rfl (runS_of (n := 3) (As := [.long x1.toInt64, .long (0 : Int64), .long (1 : Int64)]) (rest := []) F hP hS rfl [] rfl rfl (c_X9_in l dC dI cI cC cZ sa x1.toInt64 (0 : Int64) (1 : Int64) hcr _) gX9_flour_X9_in rfl (by decide +kernel) ⟨Nat.le_of_ble_eq_true rfl, Nat.le_of_ble_eq_true rfl⟩ rfl hl.1 rfl (Nat.le_of_ble_eq_true rfl) dX9_flour_4 ⟨Nat.zero_le _, Nat.zero_le _⟩) (fun H locs hP hS => ?_)
  refine lv_if_ne (tgt := 13) hx hb dX9_flour_7 (by decide) (fun hc => ?_) (fun hc => ?_)
  · have hM := if_nn hc hM
    refine lv_aload_n hx hb dX9_flour_13 rfl (lv_at hl 0 rfl) ?_
    obtain ⟨z14, hcr, hM⟩ := ob_s hM
    refine res_i0 F hP hS rfl [0, 1, 2, 3, 4, 5, 6, 7, 8, 9, 10, 11, 12] rfl rfl (runV_of (n := 0) (As := []) (rest := []) F hP hS rfl [0, 1, 2, 3, 4, 5, 6, 7, 8, 9, 10, 11, 12] rfl rfl (c_X9_floor l dC dI cI cC cZ sa ad mb mo mn mg mf mt mz ml mi hcr _) gX9_flour_X9_floor rfl (by decide +kernel) ⟨Nat.le_of_ble_eq_true rfl, Nat.le_of_ble_eq_true rfl⟩ 0 9 rfl rfl rfl hl.1 rfl (Nat.le_of_ble_eq_true rfl) dX9_flour_14 ⟨Nat.zero_le _, Nat.zero_le _⟩) (fun H locs hP hS => ?_)
    refine lv_istore_n (lv' := [(2, .int z14), (0, .ref (ad 0)), (1, .int x1)]) hx hb dX9_flour_17 rfl hl (by decide) rfl (fun ls hl => ?_)
    refine lv_aload_n hx hb dX9_flour_18 rfl (lv_at hl 1 rfl) ?_
    refine lv_aload_n hx hb dX9_flour_19 rfl (lv_at hl 1 rfl) ?_
    refine g_get (ci := 9) (C := RX9) (T := TX9) (N := 32) (v := .int mb.2.2.2.1) F hP 0 rfl rfl inX9_flour_X9 4 (by decide) (List.mem_of_getElem? (i := 1) rfl) rfl dX9_flour_20 ?_
    refine lv_iload_n hx hb dX9_flour_23 rfl (lv_at hl 0 rfl) ?_
    obtain ⟨z24, hcr, hM⟩ := ob_s hM
    refine res_v (ws' := (wM cI cZ ad mb mo mn mg z24 mt mz ml mi)) F hP hS rfl [0, 1, 2, 3, 4, 5, 6, 7, 8, 9, 10, 11, 12] rfl rfl rfl (runV_of (n := 2) (As := [.int mb.2.2.2.1, .int z14]) (rest := []) F hP hS rfl [0, 1, 2, 3, 4, 5, 6, 7, 8, 9, 10, 11, 12] rfl rfl (c_X9_findFar l dC dI cI cC cZ sa ad mb mo mn mg mf mt mz ml mi mb.2.2.2.1 z14 hcr _) gX9_flour_X9_findFar rfl (by decide +kernel) ⟨Nat.le_of_ble_eq_true rfl, Nat.le_of_ble_eq_true rfl⟩ 0 9 rfl rfl rfl hl.1 rfl (Nat.le_of_ble_eq_true rfl) dX9_flour_24 ⟨Nat.zero_le _, Nat.zero_le _⟩) rfl (fun H locs hP hS => ?_)
    refine lv_aload_n hx hb dX9_flour_27 rfl (lv_at hl 1 rfl) ?_
    refine g_get (ci := 9) (C := RX9) (T := TX9) (N := 32) (v := .ref (ad 6)) F hP 0 rfl rfl inX9_flour_X9 22 (by decide) (List.mem_of_getElem? (i := 2) rfl) rfl dX9_flour_28 ?_
    refine lv_aload_n hx hb dX9_flour_31 rfl (lv_at hl 1 rfl) ?_
    refine g_get (ci := 9) (C := RX9) (T := TX9) (N := 32) (v := .int mb.2.2.1) F hP 0 rfl rfl inX9_flour_X9 3 (by decide) (List.mem_of_getElem? (i := 3) rfl) rfl dX9_flour_32 ?_
    obtain ⟨hin, hM⟩ := if_ok hM
    refine va_iald hx hb hK hP 6 0 rfl rfl hin dX9_flour_35 ?_
    refine lv_iconst (v := 2) hx hb dX9_flour_36 (by decide) ?_
    refine lv_icmp_ge (tgt := 43) hx hb dX9_flour_37 (by decide) (fun hc => ?_) (fun hc => ?_)
    · have hM := if_pp hc hM
      refine lv_iload_n hx hb dX9_flour_43 rfl (lv_at hl 0 rfl) ?_
      refine lv_iconst (v := 1) hx hb dX9_flour_44 (by decide) ?_
      refine lv_aload_n hx hb dX9_flour_45 rfl (lv_at hl 1 rfl) ?_
      refine g_get (ci := 9) (C := RX9) (T := TX9) (N := 32) (v := .int mb.2.2.1) F hP 0 rfl rfl inX9_flour_X9 3 (by decide) (List.mem_of_getElem? (i := 3) rfl) rfl dX9_flour_46 ?_
      refine lv_ishl hx hb dX9_flour_49 ?_
      refine lv_iconst (v := -1) hx hb dX9_flour_50 (by decide) ?_
      refine lv_ixor hx hb dX9_flour_51 ?_
      refine lv_iand hx hb dX9_flour_52 ?_
      refine lv_iconst (v := 1) hx hb dX9_flour_53 (by decide) ?_
      refine lv_aload_n hx hb dX9_flour_54 rfl (lv_at hl 1 rfl) ?_
      refine g_get (ci := 9) (C := RX9) (T := TX9) (N := 32) (v := .int mb.2.2.2.1) F hP 0 rfl rfl inX9_flour_X9 4 (by decide) (List.mem_of_getElem? (i := 1) rfl) rfl dX9_flour_55 ?_
      refine lv_ishl hx hb dX9_flour_58 ?_
      refine lv_iconst (v := -1) hx hb dX9_flour_59 (by decide) ?_
      refine lv_ixor hx hb dX9_flour_60 ?_
      refine lv_iand hx hb dX9_flour_61 ?_
      refine lv_istore_n (lv' := [(3, .int ((z14 &&& (((1 : Int32) <<< (mb.2.2.1 &&& 31)) ^^^ (-1 : Int32))) &&& (((1 : Int32) <<< (mb.2.2.2.1 &&& 31)) ^^^ (-1 : Int32)))), (2, .int z14), (0, .ref (ad 0)), (1, .int x1)]) hx hb dX9_flour_62 rfl hl (by decide) rfl (fun ls hl => ?_)
      refine lv_bipush (v := -6) hx hb dX9_flour_63 (by decide) ?_
      refine lv_istore (lv' := [(4, .int (-6 : Int32)), (3, .int ((z14 &&& (((1 : Int32) <<< (mb.2.2.1 &&& 31)) ^^^ (-1 : Int32))) &&& (((1 : Int32) <<< (mb.2.2.2.1 &&& 31)) ^^^ (-1 : Int32)))), (2, .int z14), (0, .ref (ad 0)), (1, .int x1)]) hx hb dX9_flour_65 hl (by decide) rfl (fun ls hl => ?_)
      refine lv_iconst (v := 0) hx hb dX9_flour_67 (by decide) ?_
      refine lv_istore (lv' := [(5, .int (0 : Int32)), (4, .int (-6 : Int32)), (3, .int ((z14 &&& (((1 : Int32) <<< (mb.2.2.1 &&& 31)) ^^^ (-1 : Int32))) &&& (((1 : Int32) <<< (mb.2.2.2.1 &&& 31)) ^^^ (-1 : Int32)))), (2, .int z14), (0, .ref (ad 0)), (1, .int x1)]) hx hb dX9_flour_68 hl (by decide) rfl (fun ls hl => ?_)
      exact j70 70000 (z24, z14, ((z14 &&& (((1 : Int32) <<< (mb.2.2.1 &&& 31)) ^^^ (-1 : Int32))) &&& (((1 : Int32) <<< (mb.2.2.2.1 &&& 31)) ^^^ (-1 : Int32))), (-6 : Int32), (0 : Int32)) _ _ _ hP hS (lv_sub hl [4, 5, 3, 2, 1, 0] rfl) hM
    · have hM := if_nn hc hM
      refine lv_bipush (v := -6) hx hb dX9_flour_40 (by decide) ?_
      exact ret_i hx hb hr hlk dX9_flour_42 hM hP hS
  · have hM := if_pp hc hM
    refine lv_bipush (v := -2) hx hb dX9_flour_10 (by decide) ?_
    exact ret_i hx hb hr hlk dX9_flour_12 hM hP hS
set_option maxHeartbeats 4000000 in
set_option maxRecDepth 100000 in
theorem c_X9_wayOf (l : Launch) (dC : Nat → ClassId) (dI : Nat → Nat → Nat) (cI cC cZ : ClassId) (sa : Nat → Nat)  (x1 : Int32) {res : Int32} (hM : M_X9_wayOf x1 = some res) : CTi l (dC, dI) [(cI, .int), (cC, .char), (cZ, .boolean)] sa yX9_wayOf wsX9_wayOf (rmd 1) [.int x1] ([] : va_W) (fun (_ : Unit) => ([] : va_W)) (res, ()) := by
  refine CTi.enter (own := RX9) (cc := cX9_wayOf) (maxL := 1) (ret := (some .int)) (by decide) rfl rfl (Nat.le_of_ble_eq_true rfl) ?_
  intro pr e s m below meth c A F hr hlk hP hS ls hl
  obtain ⟨⟨hx, hb, hml, hown, hts⟩, hK, hDD, hA, hKC⟩ := id F
  have hl : lv_has ls 1 [(0, .int x1)] := hl
  have hP : va_P (dC, dI) vwCl ([] : va_W) s.heap := hP
  unfold M_X9_wayOf at hM
  refine lv_iload_n hx hb dX9_wayOf_0 rfl (lv_at hl 0 rfl) ?_
  refine lv_bipush (v := 110) hx hb dX9_wayOf_1 (by decide) ?_
  refine lv_icmp_ne (tgt := 10) hx hb dX9_wayOf_3 (by decide) (fun hc => ?_) (fun hc => ?_)
  · have hM := if_nn hc hM
    refine lv_iload_n hx hb dX9_wayOf_10 rfl (lv_at hl 0 rfl) ?_
    refine lv_bipush (v := 101) hx hb dX9_wayOf_11 (by decide) ?_
    refine lv_icmp_ne (tgt := 20) hx hb dX9_wayOf_13 (by decide) (fun hc => ?_) (fun hc => ?_)
    · have hM := if_nn hc hM
      refine lv_iload_n hx hb dX9_wayOf_20 rfl (lv_at hl 0 rfl) ?_
      refine lv_bipush (v := 115) hx hb dX9_wayOf_21 (by decide) ?_
      refine lv_icmp_ne (tgt := 30) hx hb dX9_wayOf_23 (by decide) (fun hc => ?_) (fun hc => ?_)
      · have hM := if_nn hc hM
        refine lv_iload_n hx hb dX9_wayOf_30 rfl (lv_at hl 0 rfl) ?_
        refine lv_bipush (v := 119) hx hb dX9_wayOf_31 (by decide) ?_
        refine lv_icmp_ne (tgt := 40) hx hb dX9_wayOf_33 (by decide) (fun hc => ?_) (fun hc => ?_)
        · have hM := if_nn hc hM
          refine lv_iconst (v := 4) hx hb dX9_wayOf_40 (by decide) ?_
          exact ret_i hx hb hr hlk dX9_wayOf_41 (some_u hM) hP hS
        · have hM := if_pp hc hM
          refine lv_iconst (v := 3) hx hb dX9_wayOf_36 (by decide) ?_
          refine lv_goto (tgt := 41) hx hb dX9_wayOf_37 (by decide) ?_
          exact ret_i hx hb hr hlk dX9_wayOf_41 (some_u hM) hP hS
      · have hM := if_pp hc hM
        refine lv_iconst (v := 2) hx hb dX9_wayOf_26 (by decide) ?_
        refine lv_goto (tgt := 41) hx hb dX9_wayOf_27 (by decide) ?_
        exact ret_i hx hb hr hlk dX9_wayOf_41 (some_u hM) hP hS
    · have hM := if_pp hc hM
      refine lv_iconst (v := 1) hx hb dX9_wayOf_16 (by decide) ?_
      refine lv_goto (tgt := 41) hx hb dX9_wayOf_17 (by decide) ?_
      exact ret_i hx hb hr hlk dX9_wayOf_41 (some_u hM) hP hS
  · have hM := if_pp hc hM
    refine lv_iconst (v := 0) hx hb dX9_wayOf_6 (by decide) ?_
    refine lv_goto (tgt := 41) hx hb dX9_wayOf_7 (by decide) ?_
    exact ret_i hx hb hr hlk dX9_wayOf_41 (some_u hM) hP hS
theorem inX9_step_X9 : ∀ w ∈ wsX90, w ∈ wsX9_step := fun w h => List.mem_cons_of_mem _ (List.mem_append_right _ h)
set_option maxHeartbeats 4000000 in
set_option maxRecDepth 100000 in
theorem c_X9_step (l : Launch) (dC : Nat → ClassId) (dI : Nat → Nat → Nat) (cI cC cZ : ClassId) (sa : Nat → Nat) (ad : Nat → Nat) (mb : BT) (mo : OT) (mn : NT) (mg : GT) (mf : AR) (mt : TT) (mz : AR) (ml : LT) (mi : IT) (x1 : Int32) {res : Int32 × NT} (hM : M_X9_step mb mn x1 = some res) : CTi l (dC, dI) [(cI, .int), (cC, .char), (cZ, .boolean)] sa yX9_step wsX9_step (rmd 3) [.ref (ad 0), .int x1] (wM cI cZ ad mb mo mn mg mf mt mz ml mi) (fun (uu : NT) => (wM cI cZ ad mb mo uu mg mf mt mz ml mi)) res := by
  refine CTi.enter (own := RX9) (cc := cX9_step) (maxL := 3) (ret := (some .boolean)) (by decide) rfl rfl (Nat.le_of_ble_eq_true rfl) ?_
  intro pr e s m below meth c A F hr hlk hP hS ls hl
  obtain ⟨⟨hx, hb, hml, hown, hts⟩, hK, hDD, hA, hKC⟩ := id F
  have hl : lv_has ls 3 [(0, .ref (ad 0)), (1, .int x1)] := hl
  have hP : va_P (dC, dI) vwCl (wM cI cZ ad mb mo mn mg mf mt mz ml mi) s.heap := hP
  unfold M_X9_step at hM
  refine kblk (α := NT × Int32) (res := res) (fun a => M_X9_step_49 mb x1 a) F (fun a => (wM cI cZ ad mb mo a.1 mg mf mt mz ml mi)) (fun a => [(0, .ref (ad 0)), (2, .int a.2)]) (fun a => []) 49 ?_ (fun j49 => ?_)
  · intro a49 H locs ls hP hS hl hM
    unfold M_X9_step_49 at hM
    refine lv_iload_n hx hb dX9_step_49 rfl (lv_at hl 1 rfl) ?_
    refine lv_if_lt (tgt := 57) hx hb dX9_step_50 (by decide) (fun hc => ?_) (fun hc => ?_)
    · have hM := if_pp hc hM
      refine lv_iconst (v := 0) hx hb dX9_step_57 (by decide) ?_
      exact ret_z hx hb hr hlk dX9_step_58 (by decide) hM hP hS
    · have hM := if_nn hc hM
      refine lv_iconst (v := 1) hx hb dX9_step_53 (by decide) ?_
      refine lv_goto (tgt := 58) hx hb dX9_step_54 (by decide) ?_
      exact ret_z hx hb hr hlk dX9_step_58 (by decide) hM hP hS
  refine kblk (α := NT × Int32 × Int32) (res := res) (fun a => M_X9_step_37 mb x1 a) F (fun a => (wM cI cZ ad mb mo a.1 mg mf mt mz ml mi)) (fun a => [(0, .ref (ad 0)), (2, .int a.2.1)]) (fun a => [.int a.2.2, .ref (ad 0)]) 37 ?_ (fun j37 => ?_)
  · intro a37 H locs ls hP hS hl hM
    unfold M_X9_step_37 at hM
    obtain ⟨hnz, hM⟩ := if_ok hM
    refine g_put (ws' := (wM cI cZ ad mb mo (a37.1.1, a37.2.2, a37.1.2.2.1, a37.1.2.2.2) mg mf mt mz ml mi)) (ci := 9) (C := RX9) (T := TX9) (N := 32) (v := .int a37.2.2) (ty := .boolean) F hP hS rfl tyX9 tyX9_ok nmX9 0 rfl rfl inX9_step_X9 13 (by decide) (List.mem_of_getElem? (i := 2) rfl) rfl (by decide +kernel) (nar_z hnz) (fit_z hnz) (Nat.le_of_ble_eq_true rfl) dX9_step_37 rfl (fun H locs hP hS => ?_)
    refine lv_iload_n hx hb dX9_step_40 rfl (lv_at hl 1 rfl) ?_
    refine lv_if_lt (tgt := 49) hx hb dX9_step_41 (by decide) (fun hc => ?_) (fun hc => ?_)
    · have hM := if_pp hc hM
      exact j49 ((a37.1.1, a37.2.2, a37.1.2.2.1, a37.1.2.2.2), a37.2.1) _ _ _ hP hS (lv_sub hl [0, 1] rfl) hM
    · have hM := if_nn hc hM
      refine lv_aload_n hx hb dX9_step_44 rfl (lv_at hl 0 rfl) ?_
      refine lv_iload_n hx hb dX9_step_45 rfl (lv_at hl 1 rfl) ?_
      obtain ⟨z46, hcr, hM⟩ := ob_s hM
      refine res_v (ws' := (wM cI cZ ad mb mo z46 mg mf mt mz ml mi)) F hP hS rfl [0, 1, 2, 3, 4, 5, 6, 7, 8, 9, 10, 11, 12] rfl rfl rfl (runV_of (n := 1) (As := [.int a37.2.1]) (rest := []) F hP hS rfl [0, 1, 2, 3, 4, 5, 6, 7, 8, 9, 10, 11, 12] rfl rfl (c_X9_arrive l dC dI cI cC cZ sa ad mb mo (a37.1.1, a37.2.2, a37.1.2.2.1, a37.1.2.2.2) mg mf mt mz ml mi a37.2.1 hcr _) gX9_step_X9_arrive rfl (by decide +kernel) ⟨Nat.le_of_ble_eq_true rfl, Nat.le_of_ble_eq_true rfl⟩ 0 9 rfl rfl rfl hl.1 rfl (Nat.le_of_ble_eq_true rfl) dX9_step_46 ⟨Nat.zero_le _, Nat.zero_le _⟩) rfl (fun H locs hP hS => ?_)
      exact j49 (z46, a37.2.1) _ _ _ hP hS (lv_sub hl [0, 1] rfl) hM
  refine kblk (α := NT × Int32) (res := res) (fun a => M_X9_step_36 mb x1 a) F (fun a => (wM cI cZ ad mb mo a.1 mg mf mt mz ml mi)) (fun a => [(0, .ref (ad 0)), (2, .int a.2)]) (fun a => [.ref (ad 0)]) 36 ?_ (fun j36 => ?_)
  · intro a36 H locs ls hP hS hl hM
    unfold M_X9_step_36 at hM
    refine lv_iconst (v := 0) hx hb dX9_step_36 (by decide) ?_
    exact j37 (a36.1, a36.2, (0 : Int32)) _ _ _ hP hS (lv_sub hl [0, 1] rfl) hM
  refine kblk (α := NT × Int32) (res := res) (fun a => M_X9_step_21 mb x1 a) F (fun a => (wM cI cZ ad mb mo a.1 mg mf mt mz ml mi)) (fun a => [(0, .ref (ad 0)), (1, .int x1)]) (fun a => [.int a.2]) 21 ?_ (fun j21 => ?_)
  · intro a21 H locs ls hP hS hl hM
    unfold M_X9_step_21 at hM
    refine lv_istore_n (lv' := [(2, .int a21.2), (0, .ref (ad 0)), (1, .int x1)]) hx hb dX9_step_21 rfl hl (by decide) rfl (fun ls hl => ?_)
    refine lv_aload_n hx hb dX9_step_22 rfl (lv_at hl 1 rfl) ?_
    refine lv_iload_n hx hb dX9_step_23 rfl (lv_at hl 2 rfl) ?_
    refine lv_iconst (v := 4) hx hb dX9_step_24 (by decide) ?_
    refine lv_icmp_ge (tgt := 36) hx hb dX9_step_25 (by decide) (fun hc => ?_) (fun hc => ?_)
    · have hM := if_pp hc hM
      exact j36 (a21.1, a21.2) _ _ _ hP hS (lv_sub hl [1, 0] rfl) hM
    · have hM := if_nn hc hM
      refine lv_iload_n hx hb dX9_step_28 rfl (lv_at hl 0 rfl) ?_
      refine lv_if_lt (tgt := 36) hx hb dX9_step_29 (by decide) (fun hc => ?_) (fun hc => ?_)
      · have hM := if_pp hc hM
        exact j36 (a21.1, a21.2) _ _ _ hP hS (lv_sub hl [1, 0] rfl) hM
      · have hM := if_nn hc hM
        refine lv_iconst (v := 1) hx hb dX9_step_32 (by decide) ?_
        refine lv_goto (tgt := 37) hx hb dX9_step_33 (by decide) ?_
        exact j37 (a21.1, a21.2, (1 : Int32)) _ _ _ hP hS (lv_sub hl [1, 0] rfl) hM
  refine lv_iload_n hx hb dX9_step_0 rfl (lv_at hl 1 rfl) ?_
  refine lv_iconst (v := 4) hx hb dX9_step_1 (by decide) ?_
  refine lv_icmp_ne (tgt := 12) hx hb dX9_step_2 (by decide) (fun hc => ?_) (fun hc => ?_)
  · have hM := if_nn hc hM
    refine lv_aload_n hx hb dX9_step_12 rfl (lv_at hl 0 rfl) ?_
    refine lv_aload_n hx hb dX9_step_13 rfl (lv_at hl 0 rfl) ?_
    refine g_get (ci := 9) (C := RX9) (T := TX9) (N := 32) (v := .int mn.1) F hP 0 rfl rfl inX9_step_X9 12 (by decide) (List.mem_of_getElem? (i := 1) rfl) rfl dX9_step_14 ?_
    refine lv_iload_n hx hb dX9_step_17 rfl (lv_at hl 1 rfl) ?_
    obtain ⟨z18, hcr, hM⟩ := ob_s hM
    refine res_i0 F hP hS rfl [0, 1, 2, 3, 4, 5, 6, 7, 8, 9, 10, 11, 12] rfl rfl (runV_of (n := 2) (As := [.int mn.1, .int x1]) (rest := []) F hP hS rfl [0, 1, 2, 3, 4, 5, 6, 7, 8, 9, 10, 11, 12] rfl rfl (c_X9_beyond l dC dI cI cC cZ sa ad mb mo mn mg mf mt mz ml mi mn.1 x1 hcr _) gX9_step_X9_beyond rfl (by decide +kernel) ⟨Nat.le_of_ble_eq_true rfl, Nat.le_of_ble_eq_true rfl⟩ 0 9 rfl rfl rfl hl.1 rfl (Nat.le_of_ble_eq_true rfl) dX9_step_18 ⟨Nat.zero_le _, Nat.zero_le _⟩) (fun H locs hP hS => ?_)
    exact j21 (mn, z18) _ _ _ hP hS (lv_sub hl [0, 1] rfl) hM
  · have hM := if_pp hc hM
    refine lv_aload_n hx hb dX9_step_5 rfl (lv_at hl 0 rfl) ?_
    refine g_get (ci := 9) (C := RX9) (T := TX9) (N := 32) (v := .int mn.1) F hP 0 rfl rfl inX9_step_X9 12 (by decide) (List.mem_of_getElem? (i := 1) rfl) rfl dX9_step_6 ?_
    refine lv_goto (tgt := 21) hx hb dX9_step_9 (by decide) ?_
    exact j21 (mn, mn.1) _ _ _ hP hS (lv_sub hl [0, 1] rfl) hM
theorem inX9_why_X9 : ∀ w ∈ wsX90, w ∈ wsX9_why := fun w h => List.mem_cons_of_mem _ (List.mem_append_right _ h)
set_option maxHeartbeats 4000000 in
set_option maxRecDepth 100000 in
theorem c_X9_why (l : Launch) (dC : Nat → ClassId) (dI : Nat → Nat → Nat) (cI cC cZ : ClassId) (sa : Nat → Nat) (ad : Nat → Nat) (mb : BT) (mo : OT) (mn : NT) (mg : GT) (mf : AR) (mt : TT) (mz : AR) (ml : LT) (mi : IT) (x1 : Int32) (x2 : Int32) {res : Int32} (hM : M_X9_why mb mn x1 x2 = some res) : CTi l (dC, dI) [(cI, .int), (cC, .char), (cZ, .boolean)] sa yX9_why wsX9_why (rmd 5) [.ref (ad 0), .int x1, .int x2] (wM cI cZ ad mb mo mn mg mf mt mz ml mi) (fun (_ : Unit) => (wM cI cZ ad mb mo mn mg mf mt mz ml mi)) (res, ()) := by
  refine CTi.enter (own := RX9) (cc := cX9_why) (maxL := 4) (ret := (some .int)) (by decide) rfl rfl (Nat.le_of_ble_eq_true rfl) ?_
  intro pr e s m below meth c A F hr hlk hP hS ls hl
  obtain ⟨⟨hx, hb, hml, hown, hts⟩, hK, hDD, hA, hKC⟩ := id F
  have hl : lv_has ls 4 [(0, .ref (ad 0)), (1, .int x1), (2, .int x2)] := hl
  have hP : va_P (dC, dI) vwCl (wM cI cZ ad mb mo mn mg mf mt mz ml mi) s.heap := hP
  unfold M_X9_why at hM
  refine kblk (α := Unit) (res := res) (fun a => M_X9_why_97 mb mn x1 x2 a) F (fun a => (wM cI cZ ad mb mo mn mg mf mt mz ml mi)) (fun a => [(0, .ref (ad 0)), (1, .int x1)]) (fun a => []) 97 ?_ (fun j97 => ?_)
  · intro a97 H locs ls hP hS hl hM
    unfold M_X9_why_97 at hM
    refine lv_aload_n hx hb dX9_why_97 rfl (lv_at hl 0 rfl) ?_
    refine lv_iload_n hx hb dX9_why_98 rfl (lv_at hl 1 rfl) ?_
    obtain ⟨z99, hcr, hM⟩ := ob_s hM
    refine res_i0 F hP hS rfl [0, 1, 2, 3, 4, 5, 6, 7, 8, 9, 10, 11, 12] rfl rfl (runV_of (n := 1) (As := [.int x1]) (rest := []) F hP hS rfl [0, 1, 2, 3, 4, 5, 6, 7, 8, 9, 10, 11, 12] rfl rfl (c_X9_seenBy l dC dI cI cC cZ sa ad mb mo mn mg mf mt mz ml mi x1 hcr _) gX9_why_X9_seenBy rfl (by decide +kernel) ⟨Nat.le_of_ble_eq_true rfl, Nat.le_of_ble_eq_true rfl⟩ 0 9 rfl rfl rfl hl.1 rfl (Nat.le_of_ble_eq_true rfl) dX9_why_99 ⟨Nat.zero_le _, Nat.zero_le _⟩) (fun H locs hP hS => ?_)
    refine lv_aload_n hx hb dX9_why_102 rfl (lv_at hl 0 rfl) ?_
    refine g_get (ci := 9) (C := RX9) (T := TX9) (N := 32) (v := .int mn.2.2.1) F hP 0 rfl rfl inX9_why_X9 14 (by decide) (List.mem_of_getElem? (i := 6) rfl) rfl dX9_why_103 ?_
    refine lv_iand hx hb dX9_why_106 ?_
    refine lv_if_eq (tgt := 112) hx hb dX9_why_107 (by decide) (fun hc => ?_) (fun hc => ?_)
    · have hM := if_pp hc hM
      refine lv_aload_n hx hb dX9_why_112 rfl (lv_at hl 0 rfl) ?_
      refine g_get (ci := 9) (C := RX9) (T := TX9) (N := 32) (v := .ref (ad 4)) F hP 0 rfl rfl inX9_why_X9 7 (by decide) (List.mem_of_getElem? (i := 7) rfl) rfl dX9_why_113 ?_
      refine lv_iload_n hx hb dX9_why_116 rfl (lv_at hl 1 rfl) ?_
      obtain ⟨hin, hM⟩ := if_ok hM
      refine va_iald hx hb hK hP 4 0 rfl rfl hin dX9_why_117 ?_
      refine lv_iconst (v := 1) hx hb dX9_why_118 (by decide) ?_
      refine lv_icmp_ne (tgt := 144) hx hb dX9_why_119 (by decide) (fun hc => ?_) (fun hc => ?_)
      · have hM := if_nn hc hM
        refine lv_bipush (v := -6) hx hb dX9_why_144 (by decide) ?_
        exact ret_i hx hb hr hlk dX9_why_146 (some_u hM) hP hS
      · have hM := if_pp hc hM
        refine lv_aload_n hx hb dX9_why_122 rfl (lv_at hl 0 rfl) ?_
        refine lv_aload_n hx hb dX9_why_123 rfl (lv_at hl 0 rfl) ?_
        refine g_get (ci := 9) (C := RX9) (T := TX9) (N := 32) (v := .int mn.1) F hP 0 rfl rfl inX9_why_X9 12 (by decide) (List.mem_of_getElem? (i := 1) rfl) rfl dX9_why_124 ?_
        refine lv_aload_n hx hb dX9_why_127 rfl (lv_at hl 0 rfl) ?_
        refine g_get (ci := 9) (C := RX9) (T := TX9) (N := 32) (v := .ref (ad 2)) F hP 0 rfl rfl inX9_why_X9 5 (by decide) (List.mem_of_getElem? (i := 4) rfl) rfl dX9_why_128 ?_
        refine lv_iload_n hx hb dX9_why_131 rfl (lv_at hl 1 rfl) ?_
        obtain ⟨hin, hM⟩ := if_ok hM
        refine va_iald hx hb hK hP 2 0 rfl rfl hin dX9_why_132 ?_
        obtain ⟨z133, hcr, hM⟩ := ob_s hM
        refine res_i0 F hP hS rfl [0, 1, 2, 3, 4, 5, 6, 7, 8, 9, 10, 11, 12] rfl rfl (runV_of (n := 2) (As := [.int mn.1, .int (mb.2.2.2.2.2.2.2.1 x1.toNatClampNeg)]) (rest := []) F hP hS rfl [0, 1, 2, 3, 4, 5, 6, 7, 8, 9, 10, 11, 12] rfl rfl (c_X9_apart l dC dI cI cC cZ sa ad mb mo mn mg mf mt mz ml mi mn.1 (mb.2.2.2.2.2.2.2.1 x1.toNatClampNeg) hcr _) gX9_why_X9_apart rfl (by decide +kernel) ⟨Nat.le_of_ble_eq_true rfl, Nat.le_of_ble_eq_true rfl⟩ 0 9 rfl rfl rfl hl.1 rfl (Nat.le_of_ble_eq_true rfl) dX9_why_133 ⟨Nat.zero_le _, Nat.zero_le _⟩) (fun H locs hP hS => ?_)
        refine lv_iconst (v := 1) hx hb dX9_why_136 (by decide) ?_
        refine lv_icmp_gt (tgt := 144) hx hb dX9_why_137 (by decide) (fun hc => ?_) (fun hc => ?_)
        · have hM := if_pp hc hM
          refine lv_bipush (v := -6) hx hb dX9_why_144 (by decide) ?_
          exact ret_i hx hb hr hlk dX9_why_146 (some_u hM) hP hS
        · have hM := if_nn hc hM
          refine lv_iconst (v := 4) hx hb dX9_why_140 (by decide) ?_
          refine lv_goto (tgt := 146) hx hb dX9_why_141 (by decide) ?_
          exact ret_i hx hb hr hlk dX9_why_146 (some_u hM) hP hS
    · have hM := if_nn hc hM
      refine lv_iconst (v := 3) hx hb dX9_why_110 (by decide) ?_
      exact ret_i hx hb hr hlk dX9_why_111 (some_u hM) hP hS
  refine kblk (α := Unit) (res := res) (fun a => M_X9_why_53 mb mn x1 x2 a) F (fun a => (wM cI cZ ad mb mo mn mg mf mt mz ml mi)) (fun a => [(0, .ref (ad 0)), (1, .int x1)]) (fun a => []) 53 ?_ (fun j53 => ?_)
  · intro a53 H locs ls hP hS hl hM
    unfold M_X9_why_53 at hM
    refine lv_aload_n hx hb dX9_why_53 rfl (lv_at hl 0 rfl) ?_
    refine g_get (ci := 9) (C := RX9) (T := TX9) (N := 32) (v := .int mn.2.1) F hP 0 rfl rfl inX9_why_X9 13 (by decide) (List.mem_of_getElem? (i := 2) rfl) rfl dX9_why_54 ?_
    refine lv_if_eq (tgt := 97) hx hb dX9_why_57 (by decide) (fun hc => ?_) (fun hc => ?_)
    · have hM := if_pp hc hM
      exact j97 () _ _ _ hP hS (lv_sub hl [0, 1] rfl) hM
    · have hM := if_nn hc hM
      refine lv_aload_n hx hb dX9_why_60 rfl (lv_at hl 0 rfl) ?_
      refine g_get (ci := 9) (C := RX9) (T := TX9) (N := 32) (v := .ref (ad 1)) F hP 0 rfl rfl inX9_why_X9 2 (by decide) (List.mem_of_getElem? (i := 3) rfl) rfl dX9_why_61 ?_
      refine lv_aload_n hx hb dX9_why_64 rfl (lv_at hl 0 rfl) ?_
      refine g_get (ci := 9) (C := RX9) (T := TX9) (N := 32) (v := .int mn.1) F hP 0 rfl rfl inX9_why_X9 12 (by decide) (List.mem_of_getElem? (i := 1) rfl) rfl dX9_why_65 ?_
      obtain ⟨hin, hM⟩ := if_ok hM
      refine va_iald hx hb hK hP 1 0 rfl rfl hin dX9_why_68 ?_
      refine lv_bipush (v := 99) hx hb dX9_why_69 (by decide) ?_
      refine lv_icmp_ne (tgt := 97) hx hb dX9_why_71 (by decide) (fun hc => ?_) (fun hc => ?_)
      · have hM := if_nn hc hM
        exact j97 () _ _ _ hP hS (lv_sub hl [0, 1] rfl) hM
      · have hM := if_pp hc hM
        refine lv_aload_n hx hb dX9_why_74 rfl (lv_at hl 0 rfl) ?_
        refine lv_aload_n hx hb dX9_why_75 rfl (lv_at hl 0 rfl) ?_
        refine g_get (ci := 9) (C := RX9) (T := TX9) (N := 32) (v := .int mn.1) F hP 0 rfl rfl inX9_why_X9 12 (by decide) (List.mem_of_getElem? (i := 1) rfl) rfl dX9_why_76 ?_
        refine lv_aload_n hx hb dX9_why_79 rfl (lv_at hl 0 rfl) ?_
        refine g_get (ci := 9) (C := RX9) (T := TX9) (N := 32) (v := .ref (ad 2)) F hP 0 rfl rfl inX9_why_X9 5 (by decide) (List.mem_of_getElem? (i := 4) rfl) rfl dX9_why_80 ?_
        refine lv_iload_n hx hb dX9_why_83 rfl (lv_at hl 1 rfl) ?_
        obtain ⟨hin, hM⟩ := if_ok hM
        refine va_iald hx hb hK hP 2 0 rfl rfl hin dX9_why_84 ?_
        obtain ⟨z85, hcr, hM⟩ := ob_s hM
        refine res_i0 F hP hS rfl [0, 1, 2, 3, 4, 5, 6, 7, 8, 9, 10, 11, 12] rfl rfl (runV_of (n := 2) (As := [.int mn.1, .int (mb.2.2.2.2.2.2.2.1 x1.toNatClampNeg)]) (rest := []) F hP hS rfl [0, 1, 2, 3, 4, 5, 6, 7, 8, 9, 10, 11, 12] rfl rfl (c_X9_apart l dC dI cI cC cZ sa ad mb mo mn mg mf mt mz ml mi mn.1 (mb.2.2.2.2.2.2.2.1 x1.toNatClampNeg) hcr _) gX9_why_X9_apart rfl (by decide +kernel) ⟨Nat.le_of_ble_eq_true rfl, Nat.le_of_ble_eq_true rfl⟩ 0 9 rfl rfl rfl hl.1 rfl (Nat.le_of_ble_eq_true rfl) dX9_why_85 ⟨Nat.zero_le _, Nat.zero_le _⟩) (fun H locs hP hS => ?_)
        refine lv_aload_n hx hb dX9_why_88 rfl (lv_at hl 0 rfl) ?_
        refine g_get (ci := 9) (C := RX9) (T := TX9) (N := 32) (v := .int mb.2.2.2.2.2.1) F hP 0 rfl rfl inX9_why_X9 9 (by decide) (List.mem_of_getElem? (i := 5) rfl) rfl dX9_why_89 ?_
        refine lv_icmp_gt (tgt := 97) hx hb dX9_why_92 (by decide) (fun hc => ?_) (fun hc => ?_)
        · have hM := if_pp hc hM
          exact j97 () _ _ _ hP hS (lv_sub hl [0, 1] rfl) hM
        · have hM := if_nn hc hM
          refine lv_iconst (v := 2) hx hb dX9_why_95 (by decide) ?_
          exact ret_i hx hb hr hlk dX9_why_96 (some_u hM) hP hS
  refine kblk (α := Int32) (res := res) (fun a => M_X9_why_21 mb mn x1 x2 a) F (fun a => (wM cI cZ ad mb mo mn mg mf mt mz ml mi)) (fun a => [(0, .ref (ad 0)), (1, .int x1), (2, .int x2)]) (fun a => [.int a]) 21 ?_ (fun j21 => ?_)
  · intro a21 H locs ls hP hS hl hM
    unfold M_X9_why_21 at hM
    refine lv_istore_n (lv' := [(3, .int a21), (0, .ref (ad 0)), (1, .int x1), (2, .int x2)]) hx hb dX9_why_21 rfl hl (by decide) rfl (fun ls hl => ?_)
    refine lv_iload_n hx hb dX9_why_22 rfl (lv_at hl 3 rfl) ?_
    refine lv_if_eq (tgt := 53) hx hb dX9_why_23 (by decide) (fun hc => ?_) (fun hc => ?_)
    · have hM := if_pp hc hM
      exact j53 () _ _ _ hP hS (lv_sub hl [1, 2] rfl) hM
    · have hM := if_nn hc hM
      refine lv_aload_n hx hb dX9_why_26 rfl (lv_at hl 1 rfl) ?_
      refine g_get (ci := 9) (C := RX9) (T := TX9) (N := 32) (v := .int mn.2.1) F hP 0 rfl rfl inX9_why_X9 13 (by decide) (List.mem_of_getElem? (i := 2) rfl) rfl dX9_why_27 ?_
      refine lv_if_eq (tgt := 53) hx hb dX9_why_30 (by decide) (fun hc => ?_) (fun hc => ?_)
      · have hM := if_pp hc hM
        exact j53 () _ _ _ hP hS (lv_sub hl [1, 2] rfl) hM
      · have hM := if_nn hc hM
        refine lv_aload_n hx hb dX9_why_33 rfl (lv_at hl 1 rfl) ?_
        refine g_get (ci := 9) (C := RX9) (T := TX9) (N := 32) (v := .ref (ad 1)) F hP 0 rfl rfl inX9_why_X9 2 (by decide) (List.mem_of_getElem? (i := 3) rfl) rfl dX9_why_34 ?_
        refine lv_aload_n hx hb dX9_why_37 rfl (lv_at hl 1 rfl) ?_
        refine g_get (ci := 9) (C := RX9) (T := TX9) (N := 32) (v := .int mn.1) F hP 0 rfl rfl inX9_why_X9 12 (by decide) (List.mem_of_getElem? (i := 1) rfl) rfl dX9_why_38 ?_
        obtain ⟨hin, hM⟩ := if_ok hM
        refine va_iald hx hb hK hP 1 0 rfl rfl hin dX9_why_41 ?_
        refine lv_bipush (v := 103) hx hb dX9_why_42 (by decide) ?_
        refine lv_icmp_ne (tgt := 53) hx hb dX9_why_44 (by decide) (fun hc => ?_) (fun hc => ?_)
        · have hM := if_nn hc hM
          exact j53 () _ _ _ hP hS (lv_sub hl [1, 2] rfl) hM
        · have hM := if_pp hc hM
          refine lv_iload_n hx hb dX9_why_47 rfl (lv_at hl 0 rfl) ?_
          refine lv_if_eq (tgt := 53) hx hb dX9_why_48 (by decide) (fun hc => ?_) (fun hc => ?_)
          · have hM := if_pp hc hM
            exact j53 () _ _ _ hP hS (lv_sub hl [1, 2] rfl) hM
          · have hM := if_nn hc hM
            refine lv_iconst (v := 1) hx hb dX9_why_51 (by decide) ?_
            exact ret_i hx hb hr hlk dX9_why_52 (some_u hM) hP hS
  refine lv_aload_n hx hb dX9_why_0 rfl (lv_at hl 0 rfl) ?_
  refine lv_iload_n hx hb dX9_why_1 rfl (lv_at hl 1 rfl) ?_
  obtain ⟨z2, hcr, hM⟩ := ob_s hM
  refine res_i0 F hP hS rfl [0, 1, 2, 3, 4, 5, 6, 7, 8, 9, 10, 11, 12] rfl rfl (runV_of (n := 1) (As := [.int x1]) (rest := []) F hP hS rfl [0, 1, 2, 3, 4, 5, 6, 7, 8, 9, 10, 11, 12] rfl rfl (c_X9_seenBy l dC dI cI cC cZ sa ad mb mo mn mg mf mt mz ml mi x1 hcr _) gX9_why_X9_seenBy rfl (by decide +kernel) ⟨Nat.le_of_ble_eq_true rfl, Nat.le_of_ble_eq_true rfl⟩ 0 9 rfl rfl rfl hl.1 rfl (Nat.le_of_ble_eq_true rfl) dX9_why_2 ⟨Nat.zero_le _, Nat.zero_le _⟩) (fun H locs hP hS => ?_)
  refine lv_aload_n hx hb dX9_why_5 rfl (lv_at hl 0 rfl) ?_
  refine g_get (ci := 9) (C := RX9) (T := TX9) (N := 32) (v := .int mn.1) F hP 0 rfl rfl inX9_why_X9 12 (by decide) (List.mem_of_getElem? (i := 1) rfl) rfl dX9_why_6 ?_
  refine lv_ishr hx hb dX9_why_9 ?_
  refine lv_iconst (v := 1) hx hb dX9_why_10 (by decide) ?_
  refine lv_iand hx hb dX9_why_11 ?_
  refine lv_iconst (v := 1) hx hb dX9_why_12 (by decide) ?_
  refine lv_icmp_ne (tgt := 20) hx hb dX9_why_13 (by decide) (fun hc => ?_) (fun hc => ?_)
  · have hM := if_nn hc hM
    refine lv_iconst (v := 0) hx hb dX9_why_20 (by decide) ?_
    exact j21 (0 : Int32) _ _ _ hP hS (lv_sub hl [0, 1, 2] rfl) hM
  · have hM := if_pp hc hM
    refine lv_iconst (v := 1) hx hb dX9_why_16 (by decide) ?_
    refine lv_goto (tgt := 21) hx hb dX9_why_17 (by decide) ?_
    exact j21 (1 : Int32) _ _ _ hP hS (lv_sub hl [0, 1, 2] rfl) hM
theorem inX9_shownTo_X9 : ∀ w ∈ wsX90, w ∈ wsX9_shownTo := fun w h => List.mem_cons_of_mem _ (List.mem_append_right _ h)
set_option maxHeartbeats 4000000 in
set_option maxRecDepth 100000 in
theorem c_X9_shownTo (l : Launch) (dC : Nat → ClassId) (dI : Nat → Nat → Nat) (cI cC cZ : ClassId) (sa : Nat → Nat) (ad : Nat → Nat) (mb : BT) (mo : OT) (mn : NT) (mg : GT) (mf : AR) (mt : TT) (mz : AR) (ml : LT) (mi : IT) (x1 : Int32) {res : Int32} (hM : M_X9_shownTo mb mn x1 = some res) : CTi l (dC, dI) [(cI, .int), (cC, .char), (cZ, .boolean)] sa yX9_shownTo wsX9_shownTo (rmd 6) [.ref (ad 0), .int x1] (wM cI cZ ad mb mo mn mg mf mt mz ml mi) (fun (_ : Unit) => (wM cI cZ ad mb mo mn mg mf mt mz ml mi)) (res, ()) := by
  refine CTi.enter (own := RX9) (cc := cX9_shownTo) (maxL := 3) (ret := (some .int)) (by decide) rfl rfl (Nat.le_of_ble_eq_true rfl) ?_
  intro pr e s m below meth c A F hr hlk hP hS ls hl
  obtain ⟨⟨hx, hb, hml, hown, hts⟩, hK, hDD, hA, hKC⟩ := id F
  have hl : lv_has ls 3 [(0, .ref (ad 0)), (1, .int x1)] := hl
  have hP : va_P (dC, dI) vwCl (wM cI cZ ad mb mo mn mg mf mt mz ml mi) s.heap := hP
  unfold M_X9_shownTo at hM
  refine kloop (α := Int32) (res := res) (fun k a => M_X9_shownTo_2 mb mn x1 k a) (fun rec a => M_X9_shownTo_2b mb mn x1 rec a) (fun _ => rfl) (fun _ _ => rfl) F (fun a => (wM cI cZ ad mb mo mn mg mf mt mz ml mi)) (fun a => [(0, .ref (ad 0)), (1, .int x1), (2, .int a)]) (fun a => []) 2 ?_ (fun j2 => ?_)
  · intro rc2 ih2 a2 H locs ls hP hS hl hM
    unfold M_X9_shownTo_2b at hM
    refine lv_iload_n hx hb dX9_shownTo_2 rfl (lv_at hl 2 rfl) ?_
    refine lv_aload_n hx hb dX9_shownTo_3 rfl (lv_at hl 0 rfl) ?_
    refine g_get (ci := 9) (C := RX9) (T := TX9) (N := 32) (v := .int mb.2.2.2.2.1) F hP 0 rfl rfl inX9_shownTo_X9 8 (by decide) (List.mem_of_getElem? (i := 1) rfl) rfl dX9_shownTo_4 ?_
    refine lv_icmp_ge (tgt := 27) hx hb dX9_shownTo_7 (by decide) (fun hc => ?_) (fun hc => ?_)
    · have hM := if_pp hc hM
      refine lv_bipush (v := -6) hx hb dX9_shownTo_27 (by decide) ?_
      exact ret_i hx hb hr hlk dX9_shownTo_29 (some_u hM) hP hS
    · have hM := if_nn hc hM
      refine lv_aload_n hx hb dX9_shownTo_10 rfl (lv_at hl 0 rfl) ?_
      refine lv_iload_n hx hb dX9_shownTo_11 rfl (lv_at hl 2 rfl) ?_
      refine lv_iload_n hx hb dX9_shownTo_12 rfl (lv_at hl 1 rfl) ?_
      obtain ⟨z13, hcr, hM⟩ := ob_s hM
      refine res_i0 F hP hS rfl [0, 1, 2, 3, 4, 5, 6, 7, 8, 9, 10, 11, 12] rfl rfl (runV_of (n := 2) (As := [.int a2, .int x1]) (rest := []) F hP hS rfl [0, 1, 2, 3, 4, 5, 6, 7, 8, 9, 10, 11, 12] rfl rfl (c_X9_why l dC dI cI cC cZ sa ad mb mo mn mg mf mt mz ml mi a2 x1 hcr _) gX9_shownTo_X9_why rfl (by decide +kernel) ⟨Nat.le_of_ble_eq_true rfl, Nat.le_of_ble_eq_true rfl⟩ 0 9 rfl rfl rfl hl.1 rfl (Nat.le_of_ble_eq_true rfl) dX9_shownTo_13 ⟨Nat.zero_le _, Nat.zero_le _⟩) (fun H locs hP hS => ?_)
      refine lv_if_le (tgt := 21) hx hb dX9_shownTo_16 (by decide) (fun hc => ?_) (fun hc => ?_)
      · have hM := if_pp hc hM
        refine lv_iinc (v := (a2 + (1 : Int32))) (lv' := [(2, .int (a2 + (1 : Int32))), (0, .ref (ad 0)), (1, .int x1)]) hx hb dX9_shownTo_21 hl (k := 2) rfl rfl (by decide) rfl (fun ls hl => ?_)
        refine lv_goto (tgt := 2) hx hb dX9_shownTo_24 (by decide) ?_
        exact ih2 (a2 + (1 : Int32)) _ _ _ hP hS (lv_sub hl [1, 2, 0] rfl) hM
      · have hM := if_nn hc hM
        refine lv_iload_n hx hb dX9_shownTo_19 rfl (lv_at hl 2 rfl) ?_
        exact ret_i hx hb hr hlk dX9_shownTo_20 (some_u hM) hP hS
  refine lv_iconst (v := 0) hx hb dX9_shownTo_0 (by decide) ?_
  refine lv_istore_n (lv' := [(2, .int (0 : Int32)), (0, .ref (ad 0)), (1, .int x1)]) hx hb dX9_shownTo_1 rfl hl (by decide) rfl (fun ls hl => ?_)
  exact j2 200 (0 : Int32) _ _ _ hP hS (lv_sub hl [1, 2, 0] rfl) hM
theorem inX9_goWalk_X9 : ∀ w ∈ wsX90, w ∈ wsX9_goWalk := fun w h => List.mem_cons_of_mem _ (List.mem_append_right _ h)
set_option maxHeartbeats 4000000 in
set_option maxRecDepth 100000 in
theorem c_X9_goWalk (l : Launch) (dC : Nat → ClassId) (dI : Nat → Nat → Nat) (cI cC cZ : ClassId) (sa : Nat → Nat) (ad : Nat → Nat) (mb : BT) (mo : OT) (mn : NT) (mg : GT) (mf : AR) (mt : TT) (mz : AR) (ml : LT) (mi : IT)  {res : NT × GT} (hM : M_X9_goWalk mb mo mn mg = some res) : CTv l (dC, dI) [(cI, .int), (cC, .char), (cZ, .boolean)] sa yX9_goWalk wsX9_goWalk (rmd 7) [.ref (ad 0)] (wM cI cZ ad mb mo mn mg mf mt mz ml mi) (fun (uu : NT × GT) => (wM cI cZ ad mb mo uu.1 uu.2 mf mt mz ml mi)) res := by
  refine CTv.enter (own := RX9) (cc := cX9_goWalk) (maxL := 3) (ret := none) (by decide) rfl rfl (Nat.le_of_ble_eq_true rfl) ?_
  intro pr e s m below meth c A F hr hlk hP hS ls hl
  obtain ⟨⟨hx, hb, hml, hown, hts⟩, hK, hDD, hA, hKC⟩ := id F
  have hl : lv_has ls 3 [(0, .ref (ad 0))] := hl
  have hP : va_P (dC, dI) vwCl (wM cI cZ ad mb mo mn mg mf mt mz ml mi) s.heap := hP
  unfold M_X9_goWalk at hM
  refine kloop (α := NT × GT × Int32) (res := res) (fun k a => M_X9_goWalk_40 mb mo k a) (fun rec a => M_X9_goWalk_40b mb mo rec a) (fun _ => rfl) (fun _ _ => rfl) F (fun a => (wM cI cZ ad mb mo a.1 a.2.1 mf mt mz ml mi)) (fun a => [(0, .ref (ad 0)), (1, .int a.2.2)]) (fun a => []) 40 ?_ (fun j40 => ?_)
  · intro rc40 ih40 a40 H locs ls hP hS hl hM
    unfold M_X9_goWalk_40b at hM
    refine kblk (α := NT × GT × Int32) (res := res) (fun a => M_X9_goWalk_160 mb mo rc40 a) F (fun a => (wM cI cZ ad mb mo a.1 a.2.1 mf mt mz ml mi)) (fun a => [(0, .ref (ad 0)), (1, .int a.2.2)]) (fun a => []) 160 ?_ (fun j160 => ?_)
    · intro a160 H locs ls hP hS hl hM
      unfold M_X9_goWalk_160 at hM
      refine lv_iinc (v := (a160.2.2 + (1 : Int32))) (lv' := [(1, .int (a160.2.2 + (1 : Int32))), (0, .ref (ad 0))]) hx hb dX9_goWalk_160 hl (k := 1) rfl rfl (by decide) rfl (fun ls hl => ?_)
      refine lv_goto (tgt := 40) hx hb dX9_goWalk_163 (by decide) ?_
      exact ih40 (a160.1, a160.2.1, (a160.2.2 + (1 : Int32))) _ _ _ hP hS (lv_sub hl [1, 0] rfl) hM
    refine kblk (α := NT × GT × Int32 × Int32 × Int32) (res := res) (fun a => M_X9_goWalk_156 mb mo rc40 a) F (fun a => (wM cI cZ ad mb mo a.1 a.2.1 mf mt mz ml mi)) (fun a => [(0, .ref (ad 0)), (1, .int a.2.2.1)]) (fun a => [.int a.2.2.2.1, .int a.2.2.2.2, .ref (ad 0)]) 156 ?_ (fun j156 => ?_)
    · intro a156 H locs ls hP hS hl hM
      unfold M_X9_goWalk_156 at hM
      refine lv_iadd hx hb dX9_goWalk_156 ?_
      refine g_put (ws' := (wM cI cZ ad mb mo a156.1 (a156.2.1.1, a156.2.1.2.1, a156.2.1.2.2.1, a156.2.1.2.2.2.1, a156.2.1.2.2.2.2.1, (a156.2.2.2.2 + a156.2.2.2.1)) mf mt mz ml mi)) (ci := 9) (C := RX9) (T := TX9) (N := 32) (v := .int (a156.2.2.2.2 + a156.2.2.2.1)) (ty := .int) F hP hS rfl tyX9 tyX9_ok nmX9 0 rfl rfl inX9_goWalk_X9 21 (by decide) (List.mem_of_getElem? (i := 6) rfl) rfl (by decide +kernel) rfl rfl (Nat.le_of_ble_eq_true rfl) dX9_goWalk_157 rfl (fun H locs hP hS => ?_)
      exact j160 (a156.1, (a156.2.1.1, a156.2.1.2.1, a156.2.1.2.2.1, a156.2.1.2.2.2.1, a156.2.1.2.2.2.2.1, (a156.2.2.2.2 + a156.2.2.2.1)), a156.2.2.1) _ _ _ hP hS (lv_sub hl [0, 1] rfl) hM
    refine kblk (α := NT × GT × Int32 × Int32) (res := res) (fun a => M_X9_goWalk_155 mb mo rc40 a) F (fun a => (wM cI cZ ad mb mo a.1 a.2.1 mf mt mz ml mi)) (fun a => [(0, .ref (ad 0)), (1, .int a.2.2.1)]) (fun a => [.int a.2.2.2, .ref (ad 0)]) 155 ?_ (fun j155 => ?_)
    · intro a155 H locs ls hP hS hl hM
      unfold M_X9_goWalk_155 at hM
      refine lv_iconst (v := 0) hx hb dX9_goWalk_155 (by decide) ?_
      exact j156 (a155.1, a155.2.1, a155.2.2.1, (0 : Int32), a155.2.2.2) _ _ _ hP hS (lv_sub hl [0, 1] rfl) hM
    refine kblk (α := NT × GT × Int32 × Int32 × Int32 × Int32) (res := res) (fun a => M_X9_goWalk_130 mb mo rc40 a) F (fun a => (wM cI cZ ad mb mo a.1 a.2.1 mf mt mz ml mi)) (fun a => [(0, .ref (ad 0)), (1, .int a.2.2.1), (2, .int a.2.2.2.1)]) (fun a => [.int a.2.2.2.2.1, .int a.2.2.2.2.2, .ref (ad 0)]) 130 ?_ (fun j130 => ?_)
    · intro a130 H locs ls hP hS hl hM
      unfold M_X9_goWalk_130 at hM
      refine lv_iadd hx hb dX9_goWalk_130 ?_
      refine g_put (ws' := (wM cI cZ ad mb mo a130.1 (a130.2.1.1, a130.2.1.2.1, a130.2.1.2.2.1, a130.2.1.2.2.2.1, (a130.2.2.2.2.2 + a130.2.2.2.2.1), a130.2.1.2.2.2.2.2) mf mt mz ml mi)) (ci := 9) (C := RX9) (T := TX9) (N := 32) (v := .int (a130.2.2.2.2.2 + a130.2.2.2.2.1)) (ty := .int) F hP hS rfl tyX9 tyX9_ok nmX9 0 rfl rfl inX9_goWalk_X9 20 (by decide) (List.mem_of_getElem? (i := 5) rfl) rfl (by decide +kernel) rfl rfl (Nat.le_of_ble_eq_true rfl) dX9_goWalk_131 rfl (fun H locs hP hS => ?_)
      refine lv_aload_n hx hb dX9_goWalk_134 rfl (lv_at hl 0 rfl) ?_
      refine lv_dup hx hb dX9_goWalk_135 rfl ?_
      refine g_get (ci := 9) (C := RX9) (T := TX9) (N := 32) (v := .int a130.2.1.2.2.2.2.2) F hP 0 rfl rfl inX9_goWalk_X9 21 (by decide) (List.mem_of_getElem? (i := 6) rfl) rfl dX9_goWalk_136 ?_
      refine lv_iload_n hx hb dX9_goWalk_139 rfl (lv_at hl 2 rfl) ?_
      refine lv_if_lt (tgt := 155) hx hb dX9_goWalk_140 (by decide) (fun hc => ?_) (fun hc => ?_)
      · have hM := if_pp hc hM
        exact j155 (a130.1, (a130.2.1.1, a130.2.1.2.1, a130.2.1.2.2.1, a130.2.1.2.2.2.1, (a130.2.2.2.2.2 + a130.2.2.2.2.1), a130.2.1.2.2.2.2.2), a130.2.2.1, a130.2.1.2.2.2.2.2) _ _ _ hP hS (lv_sub hl [0, 1] rfl) hM
      · have hM := if_nn hc hM
        refine lv_aload_n hx hb dX9_goWalk_143 rfl (lv_at hl 0 rfl) ?_
        refine lv_iconst (v := 0) hx hb dX9_goWalk_144 (by decide) ?_
        obtain ⟨z145, hcr, hM⟩ := ob_s hM
        refine res_i0 F hP hS rfl [0, 1, 2, 3, 4, 5, 6, 7, 8, 9, 10, 11, 12] rfl rfl (runV_of (n := 1) (As := [.int (0 : Int32)]) (rest := [.int a130.2.1.2.2.2.2.2, .ref (ad 0)]) F hP hS rfl [0, 1, 2, 3, 4, 5, 6, 7, 8, 9, 10, 11, 12] rfl rfl (c_X9_shownTo l dC dI cI cC cZ sa ad mb mo a130.1 (a130.2.1.1, a130.2.1.2.1, a130.2.1.2.2.1, a130.2.1.2.2.2.1, (a130.2.2.2.2.2 + a130.2.2.2.2.1), a130.2.1.2.2.2.2.2) mf mt mz ml mi (0 : Int32) hcr _) gX9_goWalk_X9_shownTo rfl (by decide +kernel) ⟨Nat.le_of_ble_eq_true rfl, Nat.le_of_ble_eq_true rfl⟩ 0 9 rfl rfl rfl hl.1 rfl (Nat.le_of_ble_eq_true rfl) dX9_goWalk_145 ⟨Nat.zero_le _, Nat.zero_le _⟩) (fun H locs hP hS => ?_)
        refine lv_if_ge (tgt := 155) hx hb dX9_goWalk_148 (by decide) (fun hc => ?_) (fun hc => ?_)
        · have hM := if_pp hc hM
          exact j155 (a130.1, (a130.2.1.1, a130.2.1.2.1, a130.2.1.2.2.1, a130.2.1.2.2.2.1, (a130.2.2.2.2.2 + a130.2.2.2.2.1), a130.2.1.2.2.2.2.2), a130.2.2.1, a130.2.1.2.2.2.2.2) _ _ _ hP hS (lv_sub hl [0, 1] rfl) hM
        · have hM := if_nn hc hM
          refine lv_iconst (v := 1) hx hb dX9_goWalk_151 (by decide) ?_
          refine lv_goto (tgt := 156) hx hb dX9_goWalk_152 (by decide) ?_
          exact j156 (a130.1, (a130.2.1.1, a130.2.1.2.1, a130.2.1.2.2.1, a130.2.1.2.2.2.1, (a130.2.2.2.2.2 + a130.2.2.2.2.1), a130.2.1.2.2.2.2.2), a130.2.2.1, (1 : Int32), a130.2.1.2.2.2.2.2) _ _ _ hP hS (lv_sub hl [0, 1] rfl) hM
    refine kblk (α := NT × GT × Int32 × Int32) (res := res) (fun a => M_X9_goWalk_116 mb mo rc40 a) F (fun a => (wM cI cZ ad mb mo a.1 a.2.1 mf mt mz ml mi)) (fun a => [(0, .ref (ad 0)), (1, .int a.2.2.1), (2, .int a.2.2.2)]) (fun a => []) 116 ?_ (fun j116 => ?_)
    · intro a116 H locs ls hP hS hl hM
      unfold M_X9_goWalk_116 at hM
      refine lv_aload_n hx hb dX9_goWalk_116 rfl (lv_at hl 0 rfl) ?_
      refine lv_dup hx hb dX9_goWalk_117 rfl ?_
      refine g_get (ci := 9) (C := RX9) (T := TX9) (N := 32) (v := .int a116.2.1.2.2.2.2.1) F hP 0 rfl rfl inX9_goWalk_X9 20 (by decide) (List.mem_of_getElem? (i := 5) rfl) rfl dX9_goWalk_118 ?_
      refine lv_iload_n hx hb dX9_goWalk_121 rfl (lv_at hl 2 rfl) ?_
      refine lv_if_lt (tgt := 129) hx hb dX9_goWalk_122 (by decide) (fun hc => ?_) (fun hc => ?_)
      · have hM := if_pp hc hM
        refine lv_iconst (v := 0) hx hb dX9_goWalk_129 (by decide) ?_
        exact j130 (a116.1, a116.2.1, a116.2.2.1, a116.2.2.2, (0 : Int32), a116.2.1.2.2.2.2.1) _ _ _ hP hS (lv_sub hl [0, 1, 2] rfl) hM
      · have hM := if_nn hc hM
        refine lv_iconst (v := 1) hx hb dX9_goWalk_125 (by decide) ?_
        refine lv_goto (tgt := 130) hx hb dX9_goWalk_126 (by decide) ?_
        exact j130 (a116.1, a116.2.1, a116.2.2.1, a116.2.2.2, (1 : Int32), a116.2.1.2.2.2.2.1) _ _ _ hP hS (lv_sub hl [0, 1, 2] rfl) hM
    refine lv_iload_n hx hb dX9_goWalk_40 rfl (lv_at hl 1 rfl) ?_
    refine lv_aload_n hx hb dX9_goWalk_41 rfl (lv_at hl 0 rfl) ?_
    refine g_get (ci := 9) (C := RX9) (T := TX9) (N := 32) (v := .int mo.1) F hP 0 rfl rfl inX9_goWalk_X9 11 (by decide) (List.mem_of_getElem? (i := 7) rfl) rfl dX9_goWalk_42 ?_
    refine lv_icmp_ge (tgt := 166) hx hb dX9_goWalk_45 (by decide) (fun hc => ?_) (fun hc => ?_)
    · have hM := if_pp hc hM
      exact ret_v hx hb hr hlk dX9_goWalk_166 hM hP hS
    · have hM := if_nn hc hM
      refine lv_aload_n hx hb dX9_goWalk_48 rfl (lv_at hl 0 rfl) ?_
      refine g_get (ci := 9) (C := RX9) (T := TX9) (N := 32) (v := .int a40.2.1.1) F hP 0 rfl rfl inX9_goWalk_X9 16 (by decide) (List.mem_of_getElem? (i := 1) rfl) rfl dX9_goWalk_49 ?_
      refine lv_if_ge (tgt := 166) hx hb dX9_goWalk_52 (by decide) (fun hc => ?_) (fun hc => ?_)
      · have hM := if_pp hc hM
        exact ret_v hx hb hr hlk dX9_goWalk_166 hM hP hS
      · have hM := if_nn hc hM
        refine lv_aload_n hx hb dX9_goWalk_55 rfl (lv_at hl 0 rfl) ?_
        refine lv_aload_n hx hb dX9_goWalk_56 rfl (lv_at hl 0 rfl) ?_
        refine g_get (ci := 9) (C := RX9) (T := TX9) (N := 32) (v := .ref (ad 5)) F hP 0 rfl rfl inX9_goWalk_X9 10 (by decide) (List.mem_of_getElem? (i := 8) rfl) rfl dX9_goWalk_57 ?_
        refine lv_iload_n hx hb dX9_goWalk_60 rfl (lv_at hl 1 rfl) ?_
        obtain ⟨hin, hM⟩ := if_ok hM
        refine va_iald hx hb hK hP 5 0 rfl rfl hin dX9_goWalk_61 ?_
        obtain ⟨z62, hcr, hM⟩ := ob_s hM
        refine res_i0 F hP hS rfl [] rfl rfl (runS_of (n := 1) (As := [.int (mo.2 a40.2.2.toNatClampNeg)]) (rest := [.ref (ad 0)]) F hP hS rfl [] rfl rfl (c_X9_wayOf l dC dI cI cC cZ sa (mo.2 a40.2.2.toNatClampNeg) hcr _) gX9_goWalk_X9_wayOf rfl (by decide +kernel) ⟨Nat.le_of_ble_eq_true rfl, Nat.le_of_ble_eq_true rfl⟩ rfl hl.1 rfl (Nat.le_of_ble_eq_true rfl) dX9_goWalk_62 ⟨Nat.zero_le _, Nat.zero_le _⟩) (fun H locs hP hS => ?_)
        obtain ⟨z65, hcr, hM⟩ := ob_s hM
        refine res_i (ws' := (wM cI cZ ad mb mo z65.2 a40.2.1 mf mt mz ml mi)) F hP hS rfl [0, 1, 2, 3, 4, 5, 6, 7, 8, 9, 10, 11, 12] rfl rfl rfl (runV_of (n := 1) (As := [.int z62]) (rest := []) F hP hS rfl [0, 1, 2, 3, 4, 5, 6, 7, 8, 9, 10, 11, 12] rfl rfl (c_X9_step l dC dI cI cC cZ sa ad mb mo a40.1 a40.2.1 mf mt mz ml mi z62 hcr _) gX9_goWalk_X9_step rfl (by decide +kernel) ⟨Nat.le_of_ble_eq_true rfl, Nat.le_of_ble_eq_true rfl⟩ 0 9 rfl rfl rfl hl.1 rfl (Nat.le_of_ble_eq_true rfl) dX9_goWalk_65 ⟨Nat.zero_le _, Nat.zero_le _⟩) rfl (fun H locs hP hS => ?_)
        refine lv_if_ne (tgt := 79) hx hb dX9_goWalk_68 (by decide) (fun hc => ?_) (fun hc => ?_)
        · have hM := if_nn hc hM
          refine lv_aload_n hx hb dX9_goWalk_79 rfl (lv_at hl 0 rfl) ?_
          refine lv_iconst (v := 1) hx hb dX9_goWalk_80 (by decide) ?_
          obtain ⟨z81, hcr, hM⟩ := ob_s hM
          refine res_i0 F hP hS rfl [0, 1, 2, 3, 4, 5, 6, 7, 8, 9, 10, 11, 12] rfl rfl (runV_of (n := 1) (As := [.int (1 : Int32)]) (rest := []) F hP hS rfl [0, 1, 2, 3, 4, 5, 6, 7, 8, 9, 10, 11, 12] rfl rfl (c_X9_shownTo l dC dI cI cC cZ sa ad mb mo z65.2 a40.2.1 mf mt mz ml mi (1 : Int32) hcr _) gX9_goWalk_X9_shownTo rfl (by decide +kernel) ⟨Nat.le_of_ble_eq_true rfl, Nat.le_of_ble_eq_true rfl⟩ 0 9 rfl rfl rfl hl.1 rfl (Nat.le_of_ble_eq_true rfl) dX9_goWalk_81 ⟨Nat.zero_le _, Nat.zero_le _⟩) (fun H locs hP hS => ?_)
          refine lv_istore_n (lv' := [(2, .int z81), (0, .ref (ad 0)), (1, .int a40.2.2)]) hx hb dX9_goWalk_84 rfl hl (by decide) rfl (fun ls hl => ?_)
          refine lv_iload_n hx hb dX9_goWalk_85 rfl (lv_at hl 0 rfl) ?_
          refine lv_if_lt (tgt := 116) hx hb dX9_goWalk_86 (by decide) (fun hc => ?_) (fun hc => ?_)
          · have hM := if_pp hc hM
            exact j116 (z65.2, a40.2.1, a40.2.2, z81) _ _ _ hP hS (lv_sub hl [1, 2, 0] rfl) hM
          · have hM := if_nn hc hM
            refine lv_aload_n hx hb dX9_goWalk_89 rfl (lv_at hl 1 rfl) ?_
            refine g_get (ci := 9) (C := RX9) (T := TX9) (N := 32) (v := .int a40.2.1.2.1) F hP 0 rfl rfl inX9_goWalk_X9 17 (by decide) (List.mem_of_getElem? (i := 2) rfl) rfl dX9_goWalk_90 ?_
            refine lv_if_ge (tgt := 116) hx hb dX9_goWalk_93 (by decide) (fun hc => ?_) (fun hc => ?_)
            · have hM := if_pp hc hM
              exact j116 (z65.2, a40.2.1, a40.2.2, z81) _ _ _ hP hS (lv_sub hl [1, 2, 0] rfl) hM
            · have hM := if_nn hc hM
              refine lv_aload_n hx hb dX9_goWalk_96 rfl (lv_at hl 1 rfl) ?_
              refine lv_iload_n hx hb dX9_goWalk_97 rfl (lv_at hl 2 rfl) ?_
              refine g_put (ws' := (wM cI cZ ad mb mo z65.2 (a40.2.1.1, a40.2.2, a40.2.1.2.2.1, a40.2.1.2.2.2.1, a40.2.1.2.2.2.2.1, a40.2.1.2.2.2.2.2) mf mt mz ml mi)) (ci := 9) (C := RX9) (T := TX9) (N := 32) (v := .int a40.2.2) (ty := .int) F hP hS rfl tyX9 tyX9_ok nmX9 0 rfl rfl inX9_goWalk_X9 17 (by decide) (List.mem_of_getElem? (i := 2) rfl) rfl (by decide +kernel) rfl rfl (Nat.le_of_ble_eq_true rfl) dX9_goWalk_98 rfl (fun H locs hP hS => ?_)
              refine lv_aload_n hx hb dX9_goWalk_101 rfl (lv_at hl 1 rfl) ?_
              refine lv_iload_n hx hb dX9_goWalk_102 rfl (lv_at hl 0 rfl) ?_
              refine g_put (ws' := (wM cI cZ ad mb mo z65.2 (a40.2.1.1, a40.2.2, z81, a40.2.1.2.2.2.1, a40.2.1.2.2.2.2.1, a40.2.1.2.2.2.2.2) mf mt mz ml mi)) (ci := 9) (C := RX9) (T := TX9) (N := 32) (v := .int z81) (ty := .int) F hP hS rfl tyX9 tyX9_ok nmX9 0 rfl rfl inX9_goWalk_X9 18 (by decide) (List.mem_of_getElem? (i := 3) rfl) rfl (by decide +kernel) rfl rfl (Nat.le_of_ble_eq_true rfl) dX9_goWalk_103 rfl (fun H locs hP hS => ?_)
              refine lv_aload_n hx hb dX9_goWalk_106 rfl (lv_at hl 1 rfl) ?_
              refine lv_aload_n hx hb dX9_goWalk_107 rfl (lv_at hl 1 rfl) ?_
              refine lv_iload_n hx hb dX9_goWalk_108 rfl (lv_at hl 0 rfl) ?_
              refine lv_iconst (v := 1) hx hb dX9_goWalk_109 (by decide) ?_
              obtain ⟨z110, hcr, hM⟩ := ob_s hM
              refine res_i0 F hP hS rfl [0, 1, 2, 3, 4, 5, 6, 7, 8, 9, 10, 11, 12] rfl rfl (runV_of (n := 2) (As := [.int z81, .int (1 : Int32)]) (rest := [.ref (ad 0)]) F hP hS rfl [0, 1, 2, 3, 4, 5, 6, 7, 8, 9, 10, 11, 12] rfl rfl (c_X9_why l dC dI cI cC cZ sa ad mb mo z65.2 (a40.2.1.1, a40.2.2, z81, a40.2.1.2.2.2.1, a40.2.1.2.2.2.2.1, a40.2.1.2.2.2.2.2) mf mt mz ml mi z81 (1 : Int32) hcr _) gX9_goWalk_X9_why rfl (by decide +kernel) ⟨Nat.le_of_ble_eq_true rfl, Nat.le_of_ble_eq_true rfl⟩ 0 9 rfl rfl rfl hl.1 rfl (Nat.le_of_ble_eq_true rfl) dX9_goWalk_110 ⟨Nat.zero_le _, Nat.zero_le _⟩) (fun H locs hP hS => ?_)
              refine g_put (ws' := (wM cI cZ ad mb mo z65.2 (a40.2.1.1, a40.2.2, z81, z110, a40.2.1.2.2.2.2.1, a40.2.1.2.2.2.2.2) mf mt mz ml mi)) (ci := 9) (C := RX9) (T := TX9) (N := 32) (v := .int z110) (ty := .int) F hP hS rfl tyX9 tyX9_ok nmX9 0 rfl rfl inX9_goWalk_X9 19 (by decide) (List.mem_of_getElem? (i := 4) rfl) rfl (by decide +kernel) rfl rfl (Nat.le_of_ble_eq_true rfl) dX9_goWalk_113 rfl (fun H locs hP hS => ?_)
              exact j116 (z65.2, (a40.2.1.1, a40.2.2, z81, z110, a40.2.1.2.2.2.2.1, a40.2.1.2.2.2.2.2), a40.2.2, z81) _ _ _ hP hS (lv_sub hl [1, 2, 0] rfl) hM
        · have hM := if_pp hc hM
          refine lv_aload_n hx hb dX9_goWalk_71 rfl (lv_at hl 0 rfl) ?_
          refine lv_iload_n hx hb dX9_goWalk_72 rfl (lv_at hl 1 rfl) ?_
          refine g_put (ws' := (wM cI cZ ad mb mo z65.2 (a40.2.2, a40.2.1.2.1, a40.2.1.2.2.1, a40.2.1.2.2.2.1, a40.2.1.2.2.2.2.1, a40.2.1.2.2.2.2.2) mf mt mz ml mi)) (ci := 9) (C := RX9) (T := TX9) (N := 32) (v := .int a40.2.2) (ty := .int) F hP hS rfl tyX9 tyX9_ok nmX9 0 rfl rfl inX9_goWalk_X9 16 (by decide) (List.mem_of_getElem? (i := 1) rfl) rfl (by decide +kernel) rfl rfl (Nat.le_of_ble_eq_true rfl) dX9_goWalk_73 rfl (fun H locs hP hS => ?_)
          refine lv_goto (tgt := 160) hx hb dX9_goWalk_76 (by decide) ?_
          exact j160 (z65.2, (a40.2.2, a40.2.1.2.1, a40.2.1.2.2.1, a40.2.1.2.2.2.1, a40.2.1.2.2.2.2.1, a40.2.1.2.2.2.2.2), a40.2.2) _ _ _ hP hS (lv_sub hl [0, 1] rfl) hM
  refine lv_aload_n hx hb dX9_goWalk_0 rfl (lv_at hl 0 rfl) ?_
  obtain ⟨z1, hcr, hM⟩ := ob_s hM
  refine res_v (ws' := (wM cI cZ ad mb mo z1 mg mf mt mz ml mi)) F hP hS rfl [0, 1, 2, 3, 4, 5, 6, 7, 8, 9, 10, 11, 12] rfl rfl rfl (runV_of (n := 0) (As := []) (rest := []) F hP hS rfl [0, 1, 2, 3, 4, 5, 6, 7, 8, 9, 10, 11, 12] rfl rfl (c_X9_begin l dC dI cI cC cZ sa ad mb mo mn mg mf mt mz ml mi hcr _) gX9_goWalk_X9_begin rfl (by decide +kernel) ⟨Nat.le_of_ble_eq_true rfl, Nat.le_of_ble_eq_true rfl⟩ 0 9 rfl rfl rfl hl.1 rfl (Nat.le_of_ble_eq_true rfl) dX9_goWalk_1 ⟨Nat.zero_le _, Nat.zero_le _⟩) rfl (fun H locs hP hS => ?_)
  refine lv_aload_n hx hb dX9_goWalk_4 rfl (lv_at hl 0 rfl) ?_
  refine lv_bipush (v := -6) hx hb dX9_goWalk_5 (by decide) ?_
  refine g_put (ws' := (wM cI cZ ad mb mo z1 ((-6 : Int32), mg.2.1, mg.2.2.1, mg.2.2.2.1, mg.2.2.2.2.1, mg.2.2.2.2.2) mf mt mz ml mi)) (ci := 9) (C := RX9) (T := TX9) (N := 32) (v := .int (-6 : Int32)) (ty := .int) F hP hS rfl tyX9 tyX9_ok nmX9 0 rfl rfl inX9_goWalk_X9 16 (by decide) (List.mem_of_getElem? (i := 1) rfl) rfl (by decide +kernel) rfl rfl (Nat.le_of_ble_eq_true rfl) dX9_goWalk_7 rfl (fun H locs hP hS => ?_)
  refine lv_aload_n hx hb dX9_goWalk_10 rfl (lv_at hl 0 rfl) ?_
  refine lv_bipush (v := -6) hx hb dX9_goWalk_11 (by decide) ?_
  refine g_put (ws' := (wM cI cZ ad mb mo z1 ((-6 : Int32), (-6 : Int32), mg.2.2.1, mg.2.2.2.1, mg.2.2.2.2.1, mg.2.2.2.2.2) mf mt mz ml mi)) (ci := 9) (C := RX9) (T := TX9) (N := 32) (v := .int (-6 : Int32)) (ty := .int) F hP hS rfl tyX9 tyX9_ok nmX9 0 rfl rfl inX9_goWalk_X9 17 (by decide) (List.mem_of_getElem? (i := 2) rfl) rfl (by decide +kernel) rfl rfl (Nat.le_of_ble_eq_true rfl) dX9_goWalk_13 rfl (fun H locs hP hS => ?_)
  refine lv_aload_n hx hb dX9_goWalk_16 rfl (lv_at hl 0 rfl) ?_
  refine lv_bipush (v := -6) hx hb dX9_goWalk_17 (by decide) ?_
  refine g_put (ws' := (wM cI cZ ad mb mo z1 ((-6 : Int32), (-6 : Int32), (-6 : Int32), mg.2.2.2.1, mg.2.2.2.2.1, mg.2.2.2.2.2) mf mt mz ml mi)) (ci := 9) (C := RX9) (T := TX9) (N := 32) (v := .int (-6 : Int32)) (ty := .int) F hP hS rfl tyX9 tyX9_ok nmX9 0 rfl rfl inX9_goWalk_X9 18 (by decide) (List.mem_of_getElem? (i := 3) rfl) rfl (by decide +kernel) rfl rfl (Nat.le_of_ble_eq_true rfl) dX9_goWalk_19 rfl (fun H locs hP hS => ?_)
  refine lv_aload_n hx hb dX9_goWalk_22 rfl (lv_at hl 0 rfl) ?_
  refine lv_bipush (v := -6) hx hb dX9_goWalk_23 (by decide) ?_
  refine g_put (ws' := (wM cI cZ ad mb mo z1 ((-6 : Int32), (-6 : Int32), (-6 : Int32), (-6 : Int32), mg.2.2.2.2.1, mg.2.2.2.2.2) mf mt mz ml mi)) (ci := 9) (C := RX9) (T := TX9) (N := 32) (v := .int (-6 : Int32)) (ty := .int) F hP hS rfl tyX9 tyX9_ok nmX9 0 rfl rfl inX9_goWalk_X9 19 (by decide) (List.mem_of_getElem? (i := 4) rfl) rfl (by decide +kernel) rfl rfl (Nat.le_of_ble_eq_true rfl) dX9_goWalk_25 rfl (fun H locs hP hS => ?_)
  refine lv_aload_n hx hb dX9_goWalk_28 rfl (lv_at hl 0 rfl) ?_
  refine lv_iconst (v := 0) hx hb dX9_goWalk_29 (by decide) ?_
  refine g_put (ws' := (wM cI cZ ad mb mo z1 ((-6 : Int32), (-6 : Int32), (-6 : Int32), (-6 : Int32), (0 : Int32), mg.2.2.2.2.2) mf mt mz ml mi)) (ci := 9) (C := RX9) (T := TX9) (N := 32) (v := .int (0 : Int32)) (ty := .int) F hP hS rfl tyX9 tyX9_ok nmX9 0 rfl rfl inX9_goWalk_X9 20 (by decide) (List.mem_of_getElem? (i := 5) rfl) rfl (by decide +kernel) rfl rfl (Nat.le_of_ble_eq_true rfl) dX9_goWalk_30 rfl (fun H locs hP hS => ?_)
  refine lv_aload_n hx hb dX9_goWalk_33 rfl (lv_at hl 0 rfl) ?_
  refine lv_iconst (v := 0) hx hb dX9_goWalk_34 (by decide) ?_
  refine g_put (ws' := (wM cI cZ ad mb mo z1 ((-6 : Int32), (-6 : Int32), (-6 : Int32), (-6 : Int32), (0 : Int32), (0 : Int32)) mf mt mz ml mi)) (ci := 9) (C := RX9) (T := TX9) (N := 32) (v := .int (0 : Int32)) (ty := .int) F hP hS rfl tyX9 tyX9_ok nmX9 0 rfl rfl inX9_goWalk_X9 21 (by decide) (List.mem_of_getElem? (i := 6) rfl) rfl (by decide +kernel) rfl rfl (Nat.le_of_ble_eq_true rfl) dX9_goWalk_35 rfl (fun H locs hP hS => ?_)
  refine lv_iconst (v := 0) hx hb dX9_goWalk_38 (by decide) ?_
  refine lv_istore_n (lv' := [(1, .int (0 : Int32)), (0, .ref (ad 0))]) hx hb dX9_goWalk_39 rfl hl (by decide) rfl (fun ls hl => ?_)
  exact j40 200 (z1, ((-6 : Int32), (-6 : Int32), (-6 : Int32), (-6 : Int32), (0 : Int32), (0 : Int32)), (0 : Int32)) _ _ _ hP hS (lv_sub hl [1, 0] rfl) hM
theorem inX9_lay_X9 : ∀ w ∈ wsX90, w ∈ wsX9_lay := fun w h => List.mem_cons_of_mem _ (List.mem_append_right _ h)
set_option maxHeartbeats 4000000 in
set_option maxRecDepth 100000 in
theorem c_X9_lay (l : Launch) (dC : Nat → ClassId) (dI : Nat → Nat → Nat) (cI cC cZ : ClassId) (sa : Nat → Nat) (ad : Nat → Nat) (mb : BT) (mo : OT) (mn : NT) (mg : GT) (mf : AR) (mt : TT) (mz : AR) (ml : LT) (mi : IT) (x1 : Int32) (x2 : Int32) {res : BT} (hM : M_X9_lay mb x1 x2 = some res) : CTv l (dC, dI) [(cI, .int), (cC, .char), (cZ, .boolean)] sa yX9_lay wsX9_lay (rmd 1) [.ref (ad 0), .int x1, .int x2] (wM cI cZ ad mb mo mn mg mf mt mz ml mi) (fun (uu : BT) => (wM cI cZ ad uu mo mn mg mf mt mz ml mi)) res := by
  refine CTv.enter (own := RX9) (cc := cX9_lay) (maxL := 4) (ret := none) (by decide) rfl rfl (Nat.le_of_ble_eq_true rfl) ?_
  intro pr e s m below meth c A F hr hlk hP hS ls hl
  obtain ⟨⟨hx, hb, hml, hown, hts⟩, hK, hDD, hA, hKC⟩ := id F
  have hl : lv_has ls 4 [(0, .ref (ad 0)), (1, .int x1), (2, .int x2)] := hl
  have hP : va_P (dC, dI) vwCl (wM cI cZ ad mb mo mn mg mf mt mz ml mi) s.heap := hP
  unfold M_X9_lay at hM
  refine kloop (α := BT × Int32) (res := res) (fun k a => M_X9_lay_12 x1 x2 k a) (fun rec a => M_X9_lay_12b x1 x2 rec a) (fun _ => rfl) (fun _ _ => rfl) F (fun a => (wM cI cZ ad a.1 mo mn mg mf mt mz ml mi)) (fun a => [(0, .ref (ad 0)), (1, .int x1), (2, .int x2), (3, .int a.2)]) (fun a => []) 12 ?_ (fun j12 => ?_)
  · intro rc12 ih12 a12 H locs ls hP hS hl hM
    unfold M_X9_lay_12b at hM
    refine lv_iload_n hx hb dX9_lay_12 rfl (lv_at hl 3 rfl) ?_
    refine lv_bipush (v := 16) hx hb dX9_lay_13 (by decide) ?_
    refine lv_icmp_ge (tgt := 32) hx hb dX9_lay_15 (by decide) (fun hc => ?_) (fun hc => ?_)
    · have hM := if_pp hc hM
      refine lv_aload_n hx hb dX9_lay_32 rfl (lv_at hl 0 rfl) ?_
      refine lv_iconst (v := 0) hx hb dX9_lay_33 (by decide) ?_
      refine g_put (ws' := (wM cI cZ ad (a12.1.1, a12.1.2.1, (0 : Int32), a12.1.2.2.2.1, a12.1.2.2.2.2.1, a12.1.2.2.2.2.2.1, a12.1.2.2.2.2.2.2.1, a12.1.2.2.2.2.2.2.2.1, a12.1.2.2.2.2.2.2.2.2.1, a12.1.2.2.2.2.2.2.2.2.2) mo mn mg mf mt mz ml mi)) (ci := 9) (C := RX9) (T := TX9) (N := 32) (v := .int (0 : Int32)) (ty := .int) F hP hS rfl tyX9 tyX9_ok nmX9 0 rfl rfl inX9_lay_X9 3 (by decide) (List.mem_of_getElem? (i := 4) rfl) rfl (by decide +kernel) rfl rfl (Nat.le_of_ble_eq_true rfl) dX9_lay_34 rfl (fun H locs hP hS => ?_)
      refine lv_aload_n hx hb dX9_lay_37 rfl (lv_at hl 0 rfl) ?_
      refine lv_iload_n hx hb dX9_lay_38 rfl (lv_at hl 1 rfl) ?_
      refine lv_iload_n hx hb dX9_lay_39 rfl (lv_at hl 2 rfl) ?_
      refine lv_imul hx hb dX9_lay_40 ?_
      refine lv_iconst (v := 1) hx hb dX9_lay_41 (by decide) ?_
      refine lv_isub hx hb dX9_lay_42 ?_
      refine g_put (ws' := (wM cI cZ ad (a12.1.1, a12.1.2.1, (0 : Int32), ((x1 * x2) - (1 : Int32)), a12.1.2.2.2.2.1, a12.1.2.2.2.2.2.1, a12.1.2.2.2.2.2.2.1, a12.1.2.2.2.2.2.2.2.1, a12.1.2.2.2.2.2.2.2.2.1, a12.1.2.2.2.2.2.2.2.2.2) mo mn mg mf mt mz ml mi)) (ci := 9) (C := RX9) (T := TX9) (N := 32) (v := .int ((x1 * x2) - (1 : Int32))) (ty := .int) F hP hS rfl tyX9 tyX9_ok nmX9 0 rfl rfl inX9_lay_X9 4 (by decide) (List.mem_of_getElem? (i := 5) rfl) rfl (by decide +kernel) rfl rfl (Nat.le_of_ble_eq_true rfl) dX9_lay_43 rfl (fun H locs hP hS => ?_)
      refine lv_aload_n hx hb dX9_lay_46 rfl (lv_at hl 0 rfl) ?_
      refine lv_iconst (v := 0) hx hb dX9_lay_47 (by decide) ?_
      refine g_put (ws' := (wM cI cZ ad (a12.1.1, a12.1.2.1, (0 : Int32), ((x1 * x2) - (1 : Int32)), (0 : Int32), a12.1.2.2.2.2.2.1, a12.1.2.2.2.2.2.2.1, a12.1.2.2.2.2.2.2.2.1, a12.1.2.2.2.2.2.2.2.2.1, a12.1.2.2.2.2.2.2.2.2.2) mo mn mg mf mt mz ml mi)) (ci := 9) (C := RX9) (T := TX9) (N := 32) (v := .int (0 : Int32)) (ty := .int) F hP hS rfl tyX9 tyX9_ok nmX9 0 rfl rfl inX9_lay_X9 8 (by decide) (List.mem_of_getElem? (i := 6) rfl) rfl (by decide +kernel) rfl rfl (Nat.le_of_ble_eq_true rfl) dX9_lay_48 rfl (fun H locs hP hS => ?_)
      exact ret_v hx hb hr hlk dX9_lay_51 hM hP hS
    · have hM := if_nn hc hM
      refine lv_aload_n hx hb dX9_lay_18 rfl (lv_at hl 0 rfl) ?_
      refine g_get (ci := 9) (C := RX9) (T := TX9) (N := 32) (v := .ref (ad 1)) F hP 0 rfl rfl inX9_lay_X9 2 (by decide) (List.mem_of_getElem? (i := 3) rfl) rfl dX9_lay_19 ?_
      refine lv_iload_n hx hb dX9_lay_22 rfl (lv_at hl 3 rfl) ?_
      refine lv_bipush (v := 46) hx hb dX9_lay_23 (by decide) ?_
      obtain ⟨hin, hM⟩ := if_ok hM
      refine g_iast (ws' := (wM cI cZ ad (a12.1.1, a12.1.2.1, a12.1.2.2.1, a12.1.2.2.2.1, a12.1.2.2.2.2.1, a12.1.2.2.2.2.2.1, (upd a12.1.2.2.2.2.2.2.1 a12.2.toNatClampNeg (46 : Int32)), a12.1.2.2.2.2.2.2.2.1, a12.1.2.2.2.2.2.2.2.2.1, a12.1.2.2.2.2.2.2.2.2.2) mo mn mg mf mt mz ml mi)) F hP hS rfl 1 0 rfl rfl hin dX9_lay_25 rfl (fun H locs hP hS => ?_)
      refine lv_iinc (v := (a12.2 + (1 : Int32))) (lv' := [(3, .int (a12.2 + (1 : Int32))), (0, .ref (ad 0)), (1, .int x1), (2, .int x2)]) hx hb dX9_lay_26 hl (k := 3) rfl rfl (by decide) rfl (fun ls hl => ?_)
      refine lv_goto (tgt := 12) hx hb dX9_lay_29 (by decide) ?_
      exact ih12 ((a12.1.1, a12.1.2.1, a12.1.2.2.1, a12.1.2.2.2.1, a12.1.2.2.2.2.1, a12.1.2.2.2.2.2.1, (upd a12.1.2.2.2.2.2.2.1 a12.2.toNatClampNeg (46 : Int32)), a12.1.2.2.2.2.2.2.2.1, a12.1.2.2.2.2.2.2.2.2.1, a12.1.2.2.2.2.2.2.2.2.2), (a12.2 + (1 : Int32))) _ _ _ hP hS (lv_sub hl [1, 2, 3, 0] rfl) hM
  refine lv_aload_n hx hb dX9_lay_0 rfl (lv_at hl 0 rfl) ?_
  refine lv_iload_n hx hb dX9_lay_1 rfl (lv_at hl 1 rfl) ?_
  refine g_put (ws' := (wM cI cZ ad (x1, mb.2.1, mb.2.2.1, mb.2.2.2.1, mb.2.2.2.2.1, mb.2.2.2.2.2.1, mb.2.2.2.2.2.2.1, mb.2.2.2.2.2.2.2.1, mb.2.2.2.2.2.2.2.2.1, mb.2.2.2.2.2.2.2.2.2) mo mn mg mf mt mz ml mi)) (ci := 9) (C := RX9) (T := TX9) (N := 32) (v := .int x1) (ty := .int) F hP hS rfl tyX9 tyX9_ok nmX9 0 rfl rfl inX9_lay_X9 0 (by decide) (List.mem_of_getElem? (i := 1) rfl) rfl (by decide +kernel) rfl rfl (Nat.le_of_ble_eq_true rfl) dX9_lay_2 rfl (fun H locs hP hS => ?_)
  refine lv_aload_n hx hb dX9_lay_5 rfl (lv_at hl 0 rfl) ?_
  refine lv_iload_n hx hb dX9_lay_6 rfl (lv_at hl 2 rfl) ?_
  refine g_put (ws' := (wM cI cZ ad (x1, x2, mb.2.2.1, mb.2.2.2.1, mb.2.2.2.2.1, mb.2.2.2.2.2.1, mb.2.2.2.2.2.2.1, mb.2.2.2.2.2.2.2.1, mb.2.2.2.2.2.2.2.2.1, mb.2.2.2.2.2.2.2.2.2) mo mn mg mf mt mz ml mi)) (ci := 9) (C := RX9) (T := TX9) (N := 32) (v := .int x2) (ty := .int) F hP hS rfl tyX9 tyX9_ok nmX9 0 rfl rfl inX9_lay_X9 1 (by decide) (List.mem_of_getElem? (i := 2) rfl) rfl (by decide +kernel) rfl rfl (Nat.le_of_ble_eq_true rfl) dX9_lay_7 rfl (fun H locs hP hS => ?_)
  refine lv_iconst (v := 0) hx hb dX9_lay_10 (by decide) ?_
  refine lv_istore_n (lv' := [(3, .int (0 : Int32)), (0, .ref (ad 0)), (1, .int x1), (2, .int x2)]) hx hb dX9_lay_11 rfl hl (by decide) rfl (fun ls hl => ?_)
  exact j12 200 ((x1, x2, mb.2.2.1, mb.2.2.2.1, mb.2.2.2.2.1, mb.2.2.2.2.2.1, mb.2.2.2.2.2.2.1, mb.2.2.2.2.2.2.2.1, mb.2.2.2.2.2.2.2.2.1, mb.2.2.2.2.2.2.2.2.2), (0 : Int32)) _ _ _ hP hS (lv_sub hl [1, 2, 3, 0] rfl) hM
set_option maxHeartbeats 4000000 in
set_option maxRecDepth 100000 in
theorem c_X9_house (l : Launch) (dC : Nat → ClassId) (dI : Nat → Nat → Nat) (cI cC cZ : ClassId) (sa : Nat → Nat) (ad : Nat → Nat) (mb : BT) (mo : OT) (mn : NT) (mg : GT) (mf : AR) (mt : TT) (mz : AR) (ml : LT) (mi : IT) (x1 : Int32) (x2 : Int32) {res : Int32 × BT} (hM : M_X9_house mb x1 x2 = some res) : CTi l (dC, dI) [(cI, .int), (cC, .char), (cZ, .boolean)] sa yX9_house wsX9_house (rmd 2) [.ref (ad 0), .int x1, .int x2] (wM cI cZ ad mb mo mn mg mf mt mz ml mi) (fun (uu : BT) => (wM cI cZ ad uu mo mn mg mf mt mz ml mi)) res := by
  refine CTi.enter (own := RX9) (cc := cX9_house) (maxL := 3) (ret := (some .int)) (by decide) rfl rfl (Nat.le_of_ble_eq_true rfl) ?_
  intro pr e s m below meth c A F hr hlk hP hS ls hl
  obtain ⟨⟨hx, hb, hml, hown, hts⟩, hK, hDD, hA, hKC⟩ := id F
  have hl : lv_has ls 3 [(0, .ref (ad 0)), (1, .int x1), (2, .int x2)] := hl
  have hP : va_P (dC, dI) vwCl (wM cI cZ ad mb mo mn mg mf mt mz ml mi) s.heap := hP
  unfold M_X9_house at hM
  refine lv_iload_n hx hb dX9_house_0 rfl (lv_at hl 1 rfl) ?_
  refine lv_i2l (v := x1.toInt64) hx hb dX9_house_1 rfl ?_
  refine lv_lconst (v := 1) hx hb dX9_house_2 (by decide) ?_
  refine lv_ldc2 (v := 4) hx hb hown (hts _ (List.mem_of_getElem? (i := 1) rfl)) dX9_house_3 ?_
  obtain ⟨z6, hcr, hM⟩ := ob_s hM
  refine res_i0 F hP hS rfl [] rfl rfl (runS_of (n := 3) (As := [.long x1.toInt64, .long (1 : Int64), .long (4 : Int64)]) (rest := []) F hP hS rfl [] rfl rfl (c_X9_in l dC dI cI cC cZ sa x1.toInt64 (1 : Int64) (4 : Int64) hcr _) gX9_house_X9_in rfl (by decide +kernel) ⟨Nat.le_of_ble_eq_true rfl, Nat.le_of_ble_eq_true rfl⟩ rfl hl.1 rfl (Nat.le_of_ble_eq_true rfl) dX9_house_6 ⟨Nat.zero_le _, Nat.zero_le _⟩) (fun H locs hP hS => ?_)
  refine lv_if_eq (tgt := 24) hx hb dX9_house_9 (by decide) (fun hc => ?_) (fun hc => ?_)
  · have hM := if_pp hc hM
    refine lv_bipush (v := -2) hx hb dX9_house_24 (by decide) ?_
    exact ret_i hx hb hr hlk dX9_house_26 hM hP hS
  · have hM := if_nn hc hM
    refine lv_iload_n hx hb dX9_house_12 rfl (lv_at hl 2 rfl) ?_
    refine lv_i2l (v := x2.toInt64) hx hb dX9_house_13 rfl ?_
    refine lv_lconst (v := 1) hx hb dX9_house_14 (by decide) ?_
    refine lv_ldc2 (v := 4) hx hb hown (hts _ (List.mem_of_getElem? (i := 1) rfl)) dX9_house_15 ?_
    obtain ⟨z18, hcr, hM⟩ := ob_s hM
    refine res_i0 F hP hS rfl [] rfl rfl (runS_of (n := 3) (As := [.long x2.toInt64, .long (1 : Int64), .long (4 : Int64)]) (rest := []) F hP hS rfl [] rfl rfl (c_X9_in l dC dI cI cC cZ sa x2.toInt64 (1 : Int64) (4 : Int64) hcr _) gX9_house_X9_in rfl (by decide +kernel) ⟨Nat.le_of_ble_eq_true rfl, Nat.le_of_ble_eq_true rfl⟩ rfl hl.1 rfl (Nat.le_of_ble_eq_true rfl) dX9_house_18 ⟨Nat.zero_le _, Nat.zero_le _⟩) (fun H locs hP hS => ?_)
    refine lv_if_ne (tgt := 27) hx hb dX9_house_21 (by decide) (fun hc => ?_) (fun hc => ?_)
    · have hM := if_nn hc hM
      refine lv_aload_n hx hb dX9_house_27 rfl (lv_at hl 0 rfl) ?_
      refine lv_iload_n hx hb dX9_house_28 rfl (lv_at hl 1 rfl) ?_
      refine lv_iload_n hx hb dX9_house_29 rfl (lv_at hl 2 rfl) ?_
      obtain ⟨z30, hcr, hM⟩ := ob_s hM
      refine res_v (ws' := (wM cI cZ ad z30 mo mn mg mf mt mz ml mi)) F hP hS rfl [0, 1, 2, 3, 4, 5, 6, 7, 8, 9, 10, 11, 12] rfl rfl rfl (runV_of (n := 2) (As := [.int x1, .int x2]) (rest := []) F hP hS rfl [0, 1, 2, 3, 4, 5, 6, 7, 8, 9, 10, 11, 12] rfl rfl (c_X9_lay l dC dI cI cC cZ sa ad mb mo mn mg mf mt mz ml mi x1 x2 hcr _) gX9_house_X9_lay rfl (by decide +kernel) ⟨Nat.le_of_ble_eq_true rfl, Nat.le_of_ble_eq_true rfl⟩ 0 9 rfl rfl rfl hl.1 rfl (Nat.le_of_ble_eq_true rfl) dX9_house_30 ⟨Nat.zero_le _, Nat.zero_le _⟩) rfl (fun H locs hP hS => ?_)
      refine lv_aload_n hx hb dX9_house_33 rfl (lv_at hl 0 rfl) ?_
      obtain ⟨z34, hcr, hM⟩ := ob_s hM
      refine res_i0 F hP hS rfl [0, 1, 2, 3, 4, 5, 6, 7, 8, 9, 10, 11, 12] rfl rfl (runV_of (n := 0) (As := []) (rest := []) F hP hS rfl [0, 1, 2, 3, 4, 5, 6, 7, 8, 9, 10, 11, 12] rfl rfl (c_X9_cells l dC dI cI cC cZ sa ad z30 mo mn mg mf mt mz ml mi hcr _) gX9_house_X9_cells rfl (by decide +kernel) ⟨Nat.le_of_ble_eq_true rfl, Nat.le_of_ble_eq_true rfl⟩ 0 9 rfl rfl rfl hl.1 rfl (Nat.le_of_ble_eq_true rfl) dX9_house_34 ⟨Nat.zero_le _, Nat.zero_le _⟩) (fun H locs hP hS => ?_)
      exact ret_i hx hb hr hlk dX9_house_37 hM hP hS
    · have hM := if_pp hc hM
      refine lv_bipush (v := -2) hx hb dX9_house_24 (by decide) ?_
      exact ret_i hx hb hr hlk dX9_house_26 hM hP hS
theorem inX9_pass_X9 : ∀ w ∈ wsX90, w ∈ wsX9_pass := fun w h => List.mem_cons_of_mem _ (List.mem_append_right _ h)
set_option maxHeartbeats 4000000 in
set_option maxRecDepth 100000 in
theorem c_X9_pass (l : Launch) (dC : Nat → ClassId) (dI : Nat → Nat → Nat) (cI cC cZ : ClassId) (sa : Nat → Nat) (ad : Nat → Nat) (mb : BT) (mo : OT) (mn : NT) (mg : GT) (mf : AR) (mt : TT) (mz : AR) (ml : LT) (mi : IT) (x1 : Int32) {res : Int32 × IT} (hM : M_X9_pass mi x1 = some res) : CTi l (dC, dI) [(cI, .int), (cC, .char), (cZ, .boolean)] sa yX9_pass wsX9_pass (rmd 1) [.ref (ad 0), .int x1] (wM cI cZ ad mb mo mn mg mf mt mz ml mi) (fun (uu : IT) => (wM cI cZ ad mb mo mn mg mf mt mz ml uu)) res := by
  refine CTi.enter (own := RX9) (cc := cX9_pass) (maxL := 3) (ret := (some .int)) (by decide) rfl rfl (Nat.le_of_ble_eq_true rfl) ?_
  intro pr e s m below meth c A F hr hlk hP hS ls hl
  obtain ⟨⟨hx, hb, hml, hown, hts⟩, hK, hDD, hA, hKC⟩ := id F
  have hl : lv_has ls 3 [(0, .ref (ad 0)), (1, .int x1)] := hl
  have hP : va_P (dC, dI) vwCl (wM cI cZ ad mb mo mn mg mf mt mz ml mi) s.heap := hP
  unfold M_X9_pass at hM
  refine kblk (α := IT × Int32) (res := res) (fun a => M_X9_pass_20 x1 a) F (fun a => (wM cI cZ ad mb mo mn mg mf mt mz ml a.1)) (fun a => [(0, .ref (ad 0))]) (fun a => [.int a.2]) 20 ?_ (fun j20 => ?_)
  · intro a20 H locs ls hP hS hl hM
    unfold M_X9_pass_20 at hM
    refine lv_istore_n (lv' := [(2, .int a20.2), (0, .ref (ad 0))]) hx hb dX9_pass_20 rfl hl (by decide) rfl (fun ls hl => ?_)
    refine lv_aload_n hx hb dX9_pass_21 rfl (lv_at hl 1 rfl) ?_
    refine g_get (ci := 9) (C := RX9) (T := TX9) (N := 32) (v := .ref (ad 11)) F hP 0 rfl rfl inX9_pass_X9 28 (by decide) (List.mem_of_getElem? (i := 2) rfl) rfl dX9_pass_22 ?_
    refine lv_aload_n hx hb dX9_pass_25 rfl (lv_at hl 1 rfl) ?_
    refine g_get (ci := 9) (C := RX9) (T := TX9) (N := 32) (v := .int a20.1.1) F hP 0 rfl rfl inX9_pass_X9 30 (by decide) (List.mem_of_getElem? (i := 3) rfl) rfl dX9_pass_26 ?_
    refine lv_iload_n hx hb dX9_pass_29 rfl (lv_at hl 0 rfl) ?_
    obtain ⟨hin, hM⟩ := if_ok hM
    refine g_iast (ws' := (wM cI cZ ad mb mo mn mg mf mt mz ml (a20.1.1, a20.1.2.1, (upd a20.1.2.2.1 a20.1.1.toNatClampNeg a20.2), a20.1.2.2.2))) F hP hS rfl 11 0 rfl rfl hin dX9_pass_30 rfl (fun H locs hP hS => ?_)
    refine lv_aload_n hx hb dX9_pass_31 rfl (lv_at hl 1 rfl) ?_
    refine lv_dup hx hb dX9_pass_32 rfl ?_
    refine g_get (ci := 9) (C := RX9) (T := TX9) (N := 32) (v := .int a20.1.1) F hP 0 rfl rfl inX9_pass_X9 30 (by decide) (List.mem_of_getElem? (i := 3) rfl) rfl dX9_pass_33 ?_
    refine lv_iconst (v := 1) hx hb dX9_pass_36 (by decide) ?_
    refine lv_iadd hx hb dX9_pass_37 ?_
    refine g_put (ws' := (wM cI cZ ad mb mo mn mg mf mt mz ml ((a20.1.1 + (1 : Int32)), a20.1.2.1, (upd a20.1.2.2.1 a20.1.1.toNatClampNeg a20.2), a20.1.2.2.2))) (ci := 9) (C := RX9) (T := TX9) (N := 32) (v := .int (a20.1.1 + (1 : Int32))) (ty := .int) F hP hS rfl tyX9 tyX9_ok nmX9 0 rfl rfl inX9_pass_X9 30 (by decide) (List.mem_of_getElem? (i := 3) rfl) rfl (by decide +kernel) rfl rfl (Nat.le_of_ble_eq_true rfl) dX9_pass_38 rfl (fun H locs hP hS => ?_)
    refine lv_iload_n hx hb dX9_pass_41 rfl (lv_at hl 0 rfl) ?_
    exact ret_i hx hb hr hlk dX9_pass_42 hM hP hS
  refine lv_aload_n hx hb dX9_pass_0 rfl (lv_at hl 0 rfl) ?_
  refine g_get (ci := 9) (C := RX9) (T := TX9) (N := 32) (v := .int mi.2.1) F hP 0 rfl rfl inX9_pass_X9 31 (by decide) (List.mem_of_getElem? (i := 1) rfl) rfl dX9_pass_1 ?_
  refine lv_if_eq (tgt := 11) hx hb dX9_pass_4 (by decide) (fun hc => ?_) (fun hc => ?_)
  · have hM := if_pp hc hM
    refine lv_aload_n hx hb dX9_pass_11 rfl (lv_at hl 0 rfl) ?_
    refine g_get (ci := 9) (C := RX9) (T := TX9) (N := 32) (v := .ref (ad 11)) F hP 0 rfl rfl inX9_pass_X9 28 (by decide) (List.mem_of_getElem? (i := 2) rfl) rfl dX9_pass_12 ?_
    refine lv_aload_n hx hb dX9_pass_15 rfl (lv_at hl 0 rfl) ?_
    refine g_get (ci := 9) (C := RX9) (T := TX9) (N := 32) (v := .int mi.1) F hP 0 rfl rfl inX9_pass_X9 30 (by decide) (List.mem_of_getElem? (i := 3) rfl) rfl dX9_pass_16 ?_
    obtain ⟨hin, hM⟩ := if_ok hM
    refine va_iald hx hb hK hP 11 0 rfl rfl hin dX9_pass_19 ?_
    exact j20 (mi, (mi.2.2.1 mi.1.toNatClampNeg)) _ _ _ hP hS (lv_sub hl [0] rfl) hM
  · have hM := if_nn hc hM
    refine lv_iload_n hx hb dX9_pass_7 rfl (lv_at hl 1 rfl) ?_
    refine lv_goto (tgt := 20) hx hb dX9_pass_8 (by decide) ?_
    exact j20 (mi, x1) _ _ _ hP hS (lv_sub hl [0] rfl) hM
theorem inX9_passAll_X9 : ∀ w ∈ wsX90, w ∈ wsX9_passAll := fun w h => List.mem_cons_of_mem _ (List.mem_append_right _ h)
set_option maxHeartbeats 4000000 in
set_option maxRecDepth 100000 in
theorem c_X9_passAll (l : Launch) (dC : Nat → ClassId) (dI : Nat → Nat → Nat) (cI cC cZ : ClassId) (sa : Nat → Nat) (ad : Nat → Nat) (mb : BT) (mo : OT) (mn : NT) (mg : GT) (mf : AR) (mt : TT) (mz : AR) (ml : LT) (mi : IT)  {res : BT × IT} (hM : M_X9_passAll mb mi = some res) : CTv l (dC, dI) [(cI, .int), (cC, .char), (cZ, .boolean)] sa yX9_passAll wsX9_passAll (rmd 2) [.ref (ad 0)] (wM cI cZ ad mb mo mn mg mf mt mz ml mi) (fun (uu : BT × IT) => (wM cI cZ ad uu.1 mo mn mg mf mt mz ml uu.2)) res := by
  refine CTv.enter (own := RX9) (cc := cX9_passAll) (maxL := 2) (ret := none) (by decide) rfl rfl (Nat.le_of_ble_eq_true rfl) ?_
  intro pr e s m below meth c A F hr hlk hP hS ls hl
  obtain ⟨⟨hx, hb, hml, hown, hts⟩, hK, hDD, hA, hKC⟩ := id F
  have hl : lv_has ls 2 [(0, .ref (ad 0))] := hl
  have hP : va_P (dC, dI) vwCl (wM cI cZ ad mb mo mn mg mf mt mz ml mi) s.heap := hP
  unfold M_X9_passAll at hM
  refine kloop (α := BT × IT × Int32) (res := res) (fun k a => M_X9_passAll_104  k a) (fun rec a => M_X9_passAll_104b  rec a) (fun _ => rfl) (fun _ _ => rfl) F (fun a => (wM cI cZ ad a.1 mo mn mg mf mt mz ml a.2.1)) (fun a => [(0, .ref (ad 0)), (1, .int a.2.2)]) (fun a => []) 104 ?_ (fun j104 => ?_)
  · intro rc104 ih104 a104 H locs ls hP hS hl hM
    unfold M_X9_passAll_104b at hM
    refine lv_iload_n hx hb dX9_passAll_104 rfl (lv_at hl 1 rfl) ?_
    refine lv_iconst (v := 4) hx hb dX9_passAll_105 (by decide) ?_
    refine lv_icmp_ge (tgt := 163) hx hb dX9_passAll_106 (by decide) (fun hc => ?_) (fun hc => ?_)
    · have hM := if_pp hc hM
      exact ret_v hx hb hr hlk dX9_passAll_163 hM hP hS
    · have hM := if_nn hc hM
      refine lv_aload_n hx hb dX9_passAll_109 rfl (lv_at hl 0 rfl) ?_
      refine g_get (ci := 9) (C := RX9) (T := TX9) (N := 32) (v := .ref (ad 2)) F hP 0 rfl rfl inX9_passAll_X9 5 (by decide) (List.mem_of_getElem? (i := 8) rfl) rfl dX9_passAll_110 ?_
      refine lv_iload_n hx hb dX9_passAll_113 rfl (lv_at hl 1 rfl) ?_
      refine lv_aload_n hx hb dX9_passAll_114 rfl (lv_at hl 0 rfl) ?_
      refine lv_aload_n hx hb dX9_passAll_115 rfl (lv_at hl 0 rfl) ?_
      refine g_get (ci := 9) (C := RX9) (T := TX9) (N := 32) (v := .ref (ad 2)) F hP 0 rfl rfl inX9_passAll_X9 5 (by decide) (List.mem_of_getElem? (i := 8) rfl) rfl dX9_passAll_116 ?_
      refine lv_iload_n hx hb dX9_passAll_119 rfl (lv_at hl 1 rfl) ?_
      obtain ⟨hin, hM⟩ := if_ok hM
      refine va_iald hx hb hK hP 2 0 rfl rfl hin dX9_passAll_120 ?_
      obtain ⟨z121, hcr, hM⟩ := ob_s hM
      refine res_i (ws' := (wM cI cZ ad a104.1 mo mn mg mf mt mz ml z121.2)) F hP hS rfl [0, 1, 2, 3, 4, 5, 6, 7, 8, 9, 10, 11, 12] rfl rfl rfl (runV_of (n := 1) (As := [.int (a104.1.2.2.2.2.2.2.2.1 a104.2.2.toNatClampNeg)]) (rest := [.int a104.2.2, .ref (ad 2)]) F hP hS rfl [0, 1, 2, 3, 4, 5, 6, 7, 8, 9, 10, 11, 12] rfl rfl (c_X9_pass l dC dI cI cC cZ sa ad a104.1 mo mn mg mf mt mz ml a104.2.1 (a104.1.2.2.2.2.2.2.2.1 a104.2.2.toNatClampNeg) hcr _) gX9_passAll_X9_pass rfl (by decide +kernel) ⟨Nat.le_of_ble_eq_true rfl, Nat.le_of_ble_eq_true rfl⟩ 0 9 rfl rfl rfl hl.1 rfl (Nat.le_of_ble_eq_true rfl) dX9_passAll_121 ⟨Nat.zero_le _, Nat.zero_le _⟩) rfl (fun H locs hP hS => ?_)
      obtain ⟨hin, hM⟩ := if_ok hM
      refine g_iast (ws' := (wM cI cZ ad (a104.1.1, a104.1.2.1, a104.1.2.2.1, a104.1.2.2.2.1, a104.1.2.2.2.2.1, a104.1.2.2.2.2.2.1, a104.1.2.2.2.2.2.2.1, (upd a104.1.2.2.2.2.2.2.2.1 a104.2.2.toNatClampNeg z121.1), a104.1.2.2.2.2.2.2.2.2.1, a104.1.2.2.2.2.2.2.2.2.2) mo mn mg mf mt mz ml z121.2)) F hP hS rfl 2 0 rfl rfl hin dX9_passAll_124 rfl (fun H locs hP hS => ?_)
      refine lv_aload_n hx hb dX9_passAll_125 rfl (lv_at hl 0 rfl) ?_
      refine g_get (ci := 9) (C := RX9) (T := TX9) (N := 32) (v := .ref (ad 3)) F hP 0 rfl rfl inX9_passAll_X9 6 (by decide) (List.mem_of_getElem? (i := 9) rfl) rfl dX9_passAll_126 ?_
      refine lv_iload_n hx hb dX9_passAll_129 rfl (lv_at hl 1 rfl) ?_
      refine lv_aload_n hx hb dX9_passAll_130 rfl (lv_at hl 0 rfl) ?_
      refine lv_aload_n hx hb dX9_passAll_131 rfl (lv_at hl 0 rfl) ?_
      refine g_get (ci := 9) (C := RX9) (T := TX9) (N := 32) (v := .ref (ad 3)) F hP 0 rfl rfl inX9_passAll_X9 6 (by decide) (List.mem_of_getElem? (i := 9) rfl) rfl dX9_passAll_132 ?_
      refine lv_iload_n hx hb dX9_passAll_135 rfl (lv_at hl 1 rfl) ?_
      obtain ⟨hin, hM⟩ := if_ok hM
      refine va_iald hx hb hK hP 3 0 rfl rfl hin dX9_passAll_136 ?_
      obtain ⟨z137, hcr, hM⟩ := ob_s hM
      refine res_i (ws' := (wM cI cZ ad (a104.1.1, a104.1.2.1, a104.1.2.2.1, a104.1.2.2.2.1, a104.1.2.2.2.2.1, a104.1.2.2.2.2.2.1, a104.1.2.2.2.2.2.2.1, (upd a104.1.2.2.2.2.2.2.2.1 a104.2.2.toNatClampNeg z121.1), a104.1.2.2.2.2.2.2.2.2.1, a104.1.2.2.2.2.2.2.2.2.2) mo mn mg mf mt mz ml z137.2)) F hP hS rfl [0, 1, 2, 3, 4, 5, 6, 7, 8, 9, 10, 11, 12] rfl rfl rfl (runV_of (n := 1) (As := [.int (a104.1.2.2.2.2.2.2.2.2.1 a104.2.2.toNatClampNeg)]) (rest := [.int a104.2.2, .ref (ad 3)]) F hP hS rfl [0, 1, 2, 3, 4, 5, 6, 7, 8, 9, 10, 11, 12] rfl rfl (c_X9_pass l dC dI cI cC cZ sa ad (a104.1.1, a104.1.2.1, a104.1.2.2.1, a104.1.2.2.2.1, a104.1.2.2.2.2.1, a104.1.2.2.2.2.2.1, a104.1.2.2.2.2.2.2.1, (upd a104.1.2.2.2.2.2.2.2.1 a104.2.2.toNatClampNeg z121.1), a104.1.2.2.2.2.2.2.2.2.1, a104.1.2.2.2.2.2.2.2.2.2) mo mn mg mf mt mz ml z121.2 (a104.1.2.2.2.2.2.2.2.2.1 a104.2.2.toNatClampNeg) hcr _) gX9_passAll_X9_pass rfl (by decide +kernel) ⟨Nat.le_of_ble_eq_true rfl, Nat.le_of_ble_eq_true rfl⟩ 0 9 rfl rfl rfl hl.1 rfl (Nat.le_of_ble_eq_true rfl) dX9_passAll_137 ⟨Nat.zero_le _, Nat.zero_le _⟩) rfl (fun H locs hP hS => ?_)
      obtain ⟨hin, hM⟩ := if_ok hM
      refine g_iast (ws' := (wM cI cZ ad (a104.1.1, a104.1.2.1, a104.1.2.2.1, a104.1.2.2.2.1, a104.1.2.2.2.2.1, a104.1.2.2.2.2.2.1, a104.1.2.2.2.2.2.2.1, (upd a104.1.2.2.2.2.2.2.2.1 a104.2.2.toNatClampNeg z121.1), (upd a104.1.2.2.2.2.2.2.2.2.1 a104.2.2.toNatClampNeg z137.1), a104.1.2.2.2.2.2.2.2.2.2) mo mn mg mf mt mz ml z137.2)) F hP hS rfl 3 0 rfl rfl hin dX9_passAll_140 rfl (fun H locs hP hS => ?_)
      refine lv_aload_n hx hb dX9_passAll_141 rfl (lv_at hl 0 rfl) ?_
      refine g_get (ci := 9) (C := RX9) (T := TX9) (N := 32) (v := .ref (ad 4)) F hP 0 rfl rfl inX9_passAll_X9 7 (by decide) (List.mem_of_getElem? (i := 10) rfl) rfl dX9_passAll_142 ?_
      refine lv_iload_n hx hb dX9_passAll_145 rfl (lv_at hl 1 rfl) ?_
      refine lv_aload_n hx hb dX9_passAll_146 rfl (lv_at hl 0 rfl) ?_
      refine lv_aload_n hx hb dX9_passAll_147 rfl (lv_at hl 0 rfl) ?_
      refine g_get (ci := 9) (C := RX9) (T := TX9) (N := 32) (v := .ref (ad 4)) F hP 0 rfl rfl inX9_passAll_X9 7 (by decide) (List.mem_of_getElem? (i := 10) rfl) rfl dX9_passAll_148 ?_
      refine lv_iload_n hx hb dX9_passAll_151 rfl (lv_at hl 1 rfl) ?_
      obtain ⟨hin, hM⟩ := if_ok hM
      refine va_iald hx hb hK hP 4 0 rfl rfl hin dX9_passAll_152 ?_
      obtain ⟨z153, hcr, hM⟩ := ob_s hM
      refine res_i (ws' := (wM cI cZ ad (a104.1.1, a104.1.2.1, a104.1.2.2.1, a104.1.2.2.2.1, a104.1.2.2.2.2.1, a104.1.2.2.2.2.2.1, a104.1.2.2.2.2.2.2.1, (upd a104.1.2.2.2.2.2.2.2.1 a104.2.2.toNatClampNeg z121.1), (upd a104.1.2.2.2.2.2.2.2.2.1 a104.2.2.toNatClampNeg z137.1), a104.1.2.2.2.2.2.2.2.2.2) mo mn mg mf mt mz ml z153.2)) F hP hS rfl [0, 1, 2, 3, 4, 5, 6, 7, 8, 9, 10, 11, 12] rfl rfl rfl (runV_of (n := 1) (As := [.int (a104.1.2.2.2.2.2.2.2.2.2 a104.2.2.toNatClampNeg)]) (rest := [.int a104.2.2, .ref (ad 4)]) F hP hS rfl [0, 1, 2, 3, 4, 5, 6, 7, 8, 9, 10, 11, 12] rfl rfl (c_X9_pass l dC dI cI cC cZ sa ad (a104.1.1, a104.1.2.1, a104.1.2.2.1, a104.1.2.2.2.1, a104.1.2.2.2.2.1, a104.1.2.2.2.2.2.1, a104.1.2.2.2.2.2.2.1, (upd a104.1.2.2.2.2.2.2.2.1 a104.2.2.toNatClampNeg z121.1), (upd a104.1.2.2.2.2.2.2.2.2.1 a104.2.2.toNatClampNeg z137.1), a104.1.2.2.2.2.2.2.2.2.2) mo mn mg mf mt mz ml z137.2 (a104.1.2.2.2.2.2.2.2.2.2 a104.2.2.toNatClampNeg) hcr _) gX9_passAll_X9_pass rfl (by decide +kernel) ⟨Nat.le_of_ble_eq_true rfl, Nat.le_of_ble_eq_true rfl⟩ 0 9 rfl rfl rfl hl.1 rfl (Nat.le_of_ble_eq_true rfl) dX9_passAll_153 ⟨Nat.zero_le _, Nat.zero_le _⟩) rfl (fun H locs hP hS => ?_)
      obtain ⟨hin, hM⟩ := if_ok hM
      refine g_iast (ws' := (wM cI cZ ad (a104.1.1, a104.1.2.1, a104.1.2.2.1, a104.1.2.2.2.1, a104.1.2.2.2.2.1, a104.1.2.2.2.2.2.1, a104.1.2.2.2.2.2.2.1, (upd a104.1.2.2.2.2.2.2.2.1 a104.2.2.toNatClampNeg z121.1), (upd a104.1.2.2.2.2.2.2.2.2.1 a104.2.2.toNatClampNeg z137.1), (upd a104.1.2.2.2.2.2.2.2.2.2 a104.2.2.toNatClampNeg z153.1)) mo mn mg mf mt mz ml z153.2)) F hP hS rfl 4 0 rfl rfl hin dX9_passAll_156 rfl (fun H locs hP hS => ?_)
      refine lv_iinc (v := (a104.2.2 + (1 : Int32))) (lv' := [(1, .int (a104.2.2 + (1 : Int32))), (0, .ref (ad 0))]) hx hb dX9_passAll_157 hl (k := 1) rfl rfl (by decide) rfl (fun ls hl => ?_)
      refine lv_goto (tgt := 104) hx hb dX9_passAll_160 (by decide) ?_
      exact ih104 ((a104.1.1, a104.1.2.1, a104.1.2.2.1, a104.1.2.2.2.1, a104.1.2.2.2.2.1, a104.1.2.2.2.2.2.1, a104.1.2.2.2.2.2.2.1, (upd a104.1.2.2.2.2.2.2.2.1 a104.2.2.toNatClampNeg z121.1), (upd a104.1.2.2.2.2.2.2.2.2.1 a104.2.2.toNatClampNeg z137.1), (upd a104.1.2.2.2.2.2.2.2.2.2 a104.2.2.toNatClampNeg z153.1)), z153.2, (a104.2.2 + (1 : Int32))) _ _ _ hP hS (lv_sub hl [1, 0] rfl) hM
  refine kloop (α := BT × IT × Int32) (res := res) (fun k a => M_X9_passAll_74  k a) (fun rec a => M_X9_passAll_74b  rec a) (fun _ => rfl) (fun _ _ => rfl) F (fun a => (wM cI cZ ad a.1 mo mn mg mf mt mz ml a.2.1)) (fun a => [(0, .ref (ad 0)), (1, .int a.2.2)]) (fun a => []) 74 ?_ (fun j74 => ?_)
  · intro rc74 ih74 a74 H locs ls hP hS hl hM
    unfold M_X9_passAll_74b at hM
    refine lv_iload_n hx hb dX9_passAll_74 rfl (lv_at hl 1 rfl) ?_
    refine lv_bipush (v := 16) hx hb dX9_passAll_75 (by decide) ?_
    refine lv_icmp_ge (tgt := 102) hx hb dX9_passAll_77 (by decide) (fun hc => ?_) (fun hc => ?_)
    · have hM := if_pp hc hM
      refine lv_iconst (v := 0) hx hb dX9_passAll_102 (by decide) ?_
      refine lv_istore_n (lv' := [(1, .int (0 : Int32)), (0, .ref (ad 0))]) hx hb dX9_passAll_103 rfl hl (by decide) rfl (fun ls hl => ?_)
      exact j104 200 (a74.1, a74.2.1, (0 : Int32)) _ _ _ hP hS (lv_sub hl [1, 0] rfl) hM
    · have hM := if_nn hc hM
      refine lv_aload_n hx hb dX9_passAll_80 rfl (lv_at hl 0 rfl) ?_
      refine g_get (ci := 9) (C := RX9) (T := TX9) (N := 32) (v := .ref (ad 1)) F hP 0 rfl rfl inX9_passAll_X9 2 (by decide) (List.mem_of_getElem? (i := 7) rfl) rfl dX9_passAll_81 ?_
      refine lv_iload_n hx hb dX9_passAll_84 rfl (lv_at hl 1 rfl) ?_
      refine lv_aload_n hx hb dX9_passAll_85 rfl (lv_at hl 0 rfl) ?_
      refine lv_aload_n hx hb dX9_passAll_86 rfl (lv_at hl 0 rfl) ?_
      refine g_get (ci := 9) (C := RX9) (T := TX9) (N := 32) (v := .ref (ad 1)) F hP 0 rfl rfl inX9_passAll_X9 2 (by decide) (List.mem_of_getElem? (i := 7) rfl) rfl dX9_passAll_87 ?_
      refine lv_iload_n hx hb dX9_passAll_90 rfl (lv_at hl 1 rfl) ?_
      obtain ⟨hin, hM⟩ := if_ok hM
      refine va_iald hx hb hK hP 1 0 rfl rfl hin dX9_passAll_91 ?_
      obtain ⟨z92, hcr, hM⟩ := ob_s hM
      refine res_i (ws' := (wM cI cZ ad a74.1 mo mn mg mf mt mz ml z92.2)) F hP hS rfl [0, 1, 2, 3, 4, 5, 6, 7, 8, 9, 10, 11, 12] rfl rfl rfl (runV_of (n := 1) (As := [.int (a74.1.2.2.2.2.2.2.1 a74.2.2.toNatClampNeg)]) (rest := [.int a74.2.2, .ref (ad 1)]) F hP hS rfl [0, 1, 2, 3, 4, 5, 6, 7, 8, 9, 10, 11, 12] rfl rfl (c_X9_pass l dC dI cI cC cZ sa ad a74.1 mo mn mg mf mt mz ml a74.2.1 (a74.1.2.2.2.2.2.2.1 a74.2.2.toNatClampNeg) hcr _) gX9_passAll_X9_pass rfl (by decide +kernel) ⟨Nat.le_of_ble_eq_true rfl, Nat.le_of_ble_eq_true rfl⟩ 0 9 rfl rfl rfl hl.1 rfl (Nat.le_of_ble_eq_true rfl) dX9_passAll_92 ⟨Nat.zero_le _, Nat.zero_le _⟩) rfl (fun H locs hP hS => ?_)
      obtain ⟨hin, hM⟩ := if_ok hM
      refine g_iast (ws' := (wM cI cZ ad (a74.1.1, a74.1.2.1, a74.1.2.2.1, a74.1.2.2.2.1, a74.1.2.2.2.2.1, a74.1.2.2.2.2.2.1, (upd a74.1.2.2.2.2.2.2.1 a74.2.2.toNatClampNeg z92.1), a74.1.2.2.2.2.2.2.2.1, a74.1.2.2.2.2.2.2.2.2.1, a74.1.2.2.2.2.2.2.2.2.2) mo mn mg mf mt mz ml z92.2)) F hP hS rfl 1 0 rfl rfl hin dX9_passAll_95 rfl (fun H locs hP hS => ?_)
      refine lv_iinc (v := (a74.2.2 + (1 : Int32))) (lv' := [(1, .int (a74.2.2 + (1 : Int32))), (0, .ref (ad 0))]) hx hb dX9_passAll_96 hl (k := 1) rfl rfl (by decide) rfl (fun ls hl => ?_)
      refine lv_goto (tgt := 74) hx hb dX9_passAll_99 (by decide) ?_
      exact ih74 ((a74.1.1, a74.1.2.1, a74.1.2.2.1, a74.1.2.2.2.1, a74.1.2.2.2.2.1, a74.1.2.2.2.2.2.1, (upd a74.1.2.2.2.2.2.2.1 a74.2.2.toNatClampNeg z92.1), a74.1.2.2.2.2.2.2.2.1, a74.1.2.2.2.2.2.2.2.2.1, a74.1.2.2.2.2.2.2.2.2.2), z92.2, (a74.2.2 + (1 : Int32))) _ _ _ hP hS (lv_sub hl [1, 0] rfl) hM
  refine lv_aload_n hx hb dX9_passAll_0 rfl (lv_at hl 0 rfl) ?_
  refine lv_aload_n hx hb dX9_passAll_1 rfl (lv_at hl 0 rfl) ?_
  refine lv_aload_n hx hb dX9_passAll_2 rfl (lv_at hl 0 rfl) ?_
  refine g_get (ci := 9) (C := RX9) (T := TX9) (N := 32) (v := .int mb.1) F hP 0 rfl rfl inX9_passAll_X9 0 (by decide) (List.mem_of_getElem? (i := 1) rfl) rfl dX9_passAll_3 ?_
  obtain ⟨z6, hcr, hM⟩ := ob_s hM
  refine res_i (ws' := (wM cI cZ ad mb mo mn mg mf mt mz ml z6.2)) F hP hS rfl [0, 1, 2, 3, 4, 5, 6, 7, 8, 9, 10, 11, 12] rfl rfl rfl (runV_of (n := 1) (As := [.int mb.1]) (rest := [.ref (ad 0)]) F hP hS rfl [0, 1, 2, 3, 4, 5, 6, 7, 8, 9, 10, 11, 12] rfl rfl (c_X9_pass l dC dI cI cC cZ sa ad mb mo mn mg mf mt mz ml mi mb.1 hcr _) gX9_passAll_X9_pass rfl (by decide +kernel) ⟨Nat.le_of_ble_eq_true rfl, Nat.le_of_ble_eq_true rfl⟩ 0 9 rfl rfl rfl hl.1 rfl (Nat.le_of_ble_eq_true rfl) dX9_passAll_6 ⟨Nat.zero_le _, Nat.zero_le _⟩) rfl (fun H locs hP hS => ?_)
  refine g_put (ws' := (wM cI cZ ad (z6.1, mb.2.1, mb.2.2.1, mb.2.2.2.1, mb.2.2.2.2.1, mb.2.2.2.2.2.1, mb.2.2.2.2.2.2.1, mb.2.2.2.2.2.2.2.1, mb.2.2.2.2.2.2.2.2.1, mb.2.2.2.2.2.2.2.2.2) mo mn mg mf mt mz ml z6.2)) (ci := 9) (C := RX9) (T := TX9) (N := 32) (v := .int z6.1) (ty := .int) F hP hS rfl tyX9 tyX9_ok nmX9 0 rfl rfl inX9_passAll_X9 0 (by decide) (List.mem_of_getElem? (i := 1) rfl) rfl (by decide +kernel) rfl rfl (Nat.le_of_ble_eq_true rfl) dX9_passAll_9 rfl (fun H locs hP hS => ?_)
  refine lv_aload_n hx hb dX9_passAll_12 rfl (lv_at hl 0 rfl) ?_
  refine lv_aload_n hx hb dX9_passAll_13 rfl (lv_at hl 0 rfl) ?_
  refine lv_aload_n hx hb dX9_passAll_14 rfl (lv_at hl 0 rfl) ?_
  refine g_get (ci := 9) (C := RX9) (T := TX9) (N := 32) (v := .int mb.2.1) F hP 0 rfl rfl inX9_passAll_X9 1 (by decide) (List.mem_of_getElem? (i := 2) rfl) rfl dX9_passAll_15 ?_
  obtain ⟨z18, hcr, hM⟩ := ob_s hM
  refine res_i (ws' := (wM cI cZ ad (z6.1, mb.2.1, mb.2.2.1, mb.2.2.2.1, mb.2.2.2.2.1, mb.2.2.2.2.2.1, mb.2.2.2.2.2.2.1, mb.2.2.2.2.2.2.2.1, mb.2.2.2.2.2.2.2.2.1, mb.2.2.2.2.2.2.2.2.2) mo mn mg mf mt mz ml z18.2)) F hP hS rfl [0, 1, 2, 3, 4, 5, 6, 7, 8, 9, 10, 11, 12] rfl rfl rfl (runV_of (n := 1) (As := [.int mb.2.1]) (rest := [.ref (ad 0)]) F hP hS rfl [0, 1, 2, 3, 4, 5, 6, 7, 8, 9, 10, 11, 12] rfl rfl (c_X9_pass l dC dI cI cC cZ sa ad (z6.1, mb.2.1, mb.2.2.1, mb.2.2.2.1, mb.2.2.2.2.1, mb.2.2.2.2.2.1, mb.2.2.2.2.2.2.1, mb.2.2.2.2.2.2.2.1, mb.2.2.2.2.2.2.2.2.1, mb.2.2.2.2.2.2.2.2.2) mo mn mg mf mt mz ml z6.2 mb.2.1 hcr _) gX9_passAll_X9_pass rfl (by decide +kernel) ⟨Nat.le_of_ble_eq_true rfl, Nat.le_of_ble_eq_true rfl⟩ 0 9 rfl rfl rfl hl.1 rfl (Nat.le_of_ble_eq_true rfl) dX9_passAll_18 ⟨Nat.zero_le _, Nat.zero_le _⟩) rfl (fun H locs hP hS => ?_)
  refine g_put (ws' := (wM cI cZ ad (z6.1, z18.1, mb.2.2.1, mb.2.2.2.1, mb.2.2.2.2.1, mb.2.2.2.2.2.1, mb.2.2.2.2.2.2.1, mb.2.2.2.2.2.2.2.1, mb.2.2.2.2.2.2.2.2.1, mb.2.2.2.2.2.2.2.2.2) mo mn mg mf mt mz ml z18.2)) (ci := 9) (C := RX9) (T := TX9) (N := 32) (v := .int z18.1) (ty := .int) F hP hS rfl tyX9 tyX9_ok nmX9 0 rfl rfl inX9_passAll_X9 1 (by decide) (List.mem_of_getElem? (i := 2) rfl) rfl (by decide +kernel) rfl rfl (Nat.le_of_ble_eq_true rfl) dX9_passAll_21 rfl (fun H locs hP hS => ?_)
  refine lv_aload_n hx hb dX9_passAll_24 rfl (lv_at hl 0 rfl) ?_
  refine lv_aload_n hx hb dX9_passAll_25 rfl (lv_at hl 0 rfl) ?_
  refine lv_aload_n hx hb dX9_passAll_26 rfl (lv_at hl 0 rfl) ?_
  refine g_get (ci := 9) (C := RX9) (T := TX9) (N := 32) (v := .int mb.2.2.1) F hP 0 rfl rfl inX9_passAll_X9 3 (by decide) (List.mem_of_getElem? (i := 3) rfl) rfl dX9_passAll_27 ?_
  obtain ⟨z30, hcr, hM⟩ := ob_s hM
  refine res_i (ws' := (wM cI cZ ad (z6.1, z18.1, mb.2.2.1, mb.2.2.2.1, mb.2.2.2.2.1, mb.2.2.2.2.2.1, mb.2.2.2.2.2.2.1, mb.2.2.2.2.2.2.2.1, mb.2.2.2.2.2.2.2.2.1, mb.2.2.2.2.2.2.2.2.2) mo mn mg mf mt mz ml z30.2)) F hP hS rfl [0, 1, 2, 3, 4, 5, 6, 7, 8, 9, 10, 11, 12] rfl rfl rfl (runV_of (n := 1) (As := [.int mb.2.2.1]) (rest := [.ref (ad 0)]) F hP hS rfl [0, 1, 2, 3, 4, 5, 6, 7, 8, 9, 10, 11, 12] rfl rfl (c_X9_pass l dC dI cI cC cZ sa ad (z6.1, z18.1, mb.2.2.1, mb.2.2.2.1, mb.2.2.2.2.1, mb.2.2.2.2.2.1, mb.2.2.2.2.2.2.1, mb.2.2.2.2.2.2.2.1, mb.2.2.2.2.2.2.2.2.1, mb.2.2.2.2.2.2.2.2.2) mo mn mg mf mt mz ml z18.2 mb.2.2.1 hcr _) gX9_passAll_X9_pass rfl (by decide +kernel) ⟨Nat.le_of_ble_eq_true rfl, Nat.le_of_ble_eq_true rfl⟩ 0 9 rfl rfl rfl hl.1 rfl (Nat.le_of_ble_eq_true rfl) dX9_passAll_30 ⟨Nat.zero_le _, Nat.zero_le _⟩) rfl (fun H locs hP hS => ?_)
  refine g_put (ws' := (wM cI cZ ad (z6.1, z18.1, z30.1, mb.2.2.2.1, mb.2.2.2.2.1, mb.2.2.2.2.2.1, mb.2.2.2.2.2.2.1, mb.2.2.2.2.2.2.2.1, mb.2.2.2.2.2.2.2.2.1, mb.2.2.2.2.2.2.2.2.2) mo mn mg mf mt mz ml z30.2)) (ci := 9) (C := RX9) (T := TX9) (N := 32) (v := .int z30.1) (ty := .int) F hP hS rfl tyX9 tyX9_ok nmX9 0 rfl rfl inX9_passAll_X9 3 (by decide) (List.mem_of_getElem? (i := 3) rfl) rfl (by decide +kernel) rfl rfl (Nat.le_of_ble_eq_true rfl) dX9_passAll_33 rfl (fun H locs hP hS => ?_)
  refine lv_aload_n hx hb dX9_passAll_36 rfl (lv_at hl 0 rfl) ?_
  refine lv_aload_n hx hb dX9_passAll_37 rfl (lv_at hl 0 rfl) ?_
  refine lv_aload_n hx hb dX9_passAll_38 rfl (lv_at hl 0 rfl) ?_
  refine g_get (ci := 9) (C := RX9) (T := TX9) (N := 32) (v := .int mb.2.2.2.1) F hP 0 rfl rfl inX9_passAll_X9 4 (by decide) (List.mem_of_getElem? (i := 4) rfl) rfl dX9_passAll_39 ?_
  obtain ⟨z42, hcr, hM⟩ := ob_s hM
  refine res_i (ws' := (wM cI cZ ad (z6.1, z18.1, z30.1, mb.2.2.2.1, mb.2.2.2.2.1, mb.2.2.2.2.2.1, mb.2.2.2.2.2.2.1, mb.2.2.2.2.2.2.2.1, mb.2.2.2.2.2.2.2.2.1, mb.2.2.2.2.2.2.2.2.2) mo mn mg mf mt mz ml z42.2)) F hP hS rfl [0, 1, 2, 3, 4, 5, 6, 7, 8, 9, 10, 11, 12] rfl rfl rfl (runV_of (n := 1) (As := [.int mb.2.2.2.1]) (rest := [.ref (ad 0)]) F hP hS rfl [0, 1, 2, 3, 4, 5, 6, 7, 8, 9, 10, 11, 12] rfl rfl (c_X9_pass l dC dI cI cC cZ sa ad (z6.1, z18.1, z30.1, mb.2.2.2.1, mb.2.2.2.2.1, mb.2.2.2.2.2.1, mb.2.2.2.2.2.2.1, mb.2.2.2.2.2.2.2.1, mb.2.2.2.2.2.2.2.2.1, mb.2.2.2.2.2.2.2.2.2) mo mn mg mf mt mz ml z30.2 mb.2.2.2.1 hcr _) gX9_passAll_X9_pass rfl (by decide +kernel) ⟨Nat.le_of_ble_eq_true rfl, Nat.le_of_ble_eq_true rfl⟩ 0 9 rfl rfl rfl hl.1 rfl (Nat.le_of_ble_eq_true rfl) dX9_passAll_42 ⟨Nat.zero_le _, Nat.zero_le _⟩) rfl (fun H locs hP hS => ?_)
  refine g_put (ws' := (wM cI cZ ad (z6.1, z18.1, z30.1, z42.1, mb.2.2.2.2.1, mb.2.2.2.2.2.1, mb.2.2.2.2.2.2.1, mb.2.2.2.2.2.2.2.1, mb.2.2.2.2.2.2.2.2.1, mb.2.2.2.2.2.2.2.2.2) mo mn mg mf mt mz ml z42.2)) (ci := 9) (C := RX9) (T := TX9) (N := 32) (v := .int z42.1) (ty := .int) F hP hS rfl tyX9 tyX9_ok nmX9 0 rfl rfl inX9_passAll_X9 4 (by decide) (List.mem_of_getElem? (i := 4) rfl) rfl (by decide +kernel) rfl rfl (Nat.le_of_ble_eq_true rfl) dX9_passAll_45 rfl (fun H locs hP hS => ?_)
  refine lv_aload_n hx hb dX9_passAll_48 rfl (lv_at hl 0 rfl) ?_
  refine lv_aload_n hx hb dX9_passAll_49 rfl (lv_at hl 0 rfl) ?_
  refine lv_aload_n hx hb dX9_passAll_50 rfl (lv_at hl 0 rfl) ?_
  refine g_get (ci := 9) (C := RX9) (T := TX9) (N := 32) (v := .int mb.2.2.2.2.1) F hP 0 rfl rfl inX9_passAll_X9 8 (by decide) (List.mem_of_getElem? (i := 5) rfl) rfl dX9_passAll_51 ?_
  obtain ⟨z54, hcr, hM⟩ := ob_s hM
  refine res_i (ws' := (wM cI cZ ad (z6.1, z18.1, z30.1, z42.1, mb.2.2.2.2.1, mb.2.2.2.2.2.1, mb.2.2.2.2.2.2.1, mb.2.2.2.2.2.2.2.1, mb.2.2.2.2.2.2.2.2.1, mb.2.2.2.2.2.2.2.2.2) mo mn mg mf mt mz ml z54.2)) F hP hS rfl [0, 1, 2, 3, 4, 5, 6, 7, 8, 9, 10, 11, 12] rfl rfl rfl (runV_of (n := 1) (As := [.int mb.2.2.2.2.1]) (rest := [.ref (ad 0)]) F hP hS rfl [0, 1, 2, 3, 4, 5, 6, 7, 8, 9, 10, 11, 12] rfl rfl (c_X9_pass l dC dI cI cC cZ sa ad (z6.1, z18.1, z30.1, z42.1, mb.2.2.2.2.1, mb.2.2.2.2.2.1, mb.2.2.2.2.2.2.1, mb.2.2.2.2.2.2.2.1, mb.2.2.2.2.2.2.2.2.1, mb.2.2.2.2.2.2.2.2.2) mo mn mg mf mt mz ml z42.2 mb.2.2.2.2.1 hcr _) gX9_passAll_X9_pass rfl (by decide +kernel) ⟨Nat.le_of_ble_eq_true rfl, Nat.le_of_ble_eq_true rfl⟩ 0 9 rfl rfl rfl hl.1 rfl (Nat.le_of_ble_eq_true rfl) dX9_passAll_54 ⟨Nat.zero_le _, Nat.zero_le _⟩) rfl (fun H locs hP hS => ?_)
  refine g_put (ws' := (wM cI cZ ad (z6.1, z18.1, z30.1, z42.1, z54.1, mb.2.2.2.2.2.1, mb.2.2.2.2.2.2.1, mb.2.2.2.2.2.2.2.1, mb.2.2.2.2.2.2.2.2.1, mb.2.2.2.2.2.2.2.2.2) mo mn mg mf mt mz ml z54.2)) (ci := 9) (C := RX9) (T := TX9) (N := 32) (v := .int z54.1) (ty := .int) F hP hS rfl tyX9 tyX9_ok nmX9 0 rfl rfl inX9_passAll_X9 8 (by decide) (List.mem_of_getElem? (i := 5) rfl) rfl (by decide +kernel) rfl rfl (Nat.le_of_ble_eq_true rfl) dX9_passAll_57 rfl (fun H locs hP hS => ?_)
  refine lv_aload_n hx hb dX9_passAll_60 rfl (lv_at hl 0 rfl) ?_
  refine lv_aload_n hx hb dX9_passAll_61 rfl (lv_at hl 0 rfl) ?_
  refine lv_aload_n hx hb dX9_passAll_62 rfl (lv_at hl 0 rfl) ?_
  refine g_get (ci := 9) (C := RX9) (T := TX9) (N := 32) (v := .int mb.2.2.2.2.2.1) F hP 0 rfl rfl inX9_passAll_X9 9 (by decide) (List.mem_of_getElem? (i := 6) rfl) rfl dX9_passAll_63 ?_
  obtain ⟨z66, hcr, hM⟩ := ob_s hM
  refine res_i (ws' := (wM cI cZ ad (z6.1, z18.1, z30.1, z42.1, z54.1, mb.2.2.2.2.2.1, mb.2.2.2.2.2.2.1, mb.2.2.2.2.2.2.2.1, mb.2.2.2.2.2.2.2.2.1, mb.2.2.2.2.2.2.2.2.2) mo mn mg mf mt mz ml z66.2)) F hP hS rfl [0, 1, 2, 3, 4, 5, 6, 7, 8, 9, 10, 11, 12] rfl rfl rfl (runV_of (n := 1) (As := [.int mb.2.2.2.2.2.1]) (rest := [.ref (ad 0)]) F hP hS rfl [0, 1, 2, 3, 4, 5, 6, 7, 8, 9, 10, 11, 12] rfl rfl (c_X9_pass l dC dI cI cC cZ sa ad (z6.1, z18.1, z30.1, z42.1, z54.1, mb.2.2.2.2.2.1, mb.2.2.2.2.2.2.1, mb.2.2.2.2.2.2.2.1, mb.2.2.2.2.2.2.2.2.1, mb.2.2.2.2.2.2.2.2.2) mo mn mg mf mt mz ml z54.2 mb.2.2.2.2.2.1 hcr _) gX9_passAll_X9_pass rfl (by decide +kernel) ⟨Nat.le_of_ble_eq_true rfl, Nat.le_of_ble_eq_true rfl⟩ 0 9 rfl rfl rfl hl.1 rfl (Nat.le_of_ble_eq_true rfl) dX9_passAll_66 ⟨Nat.zero_le _, Nat.zero_le _⟩) rfl (fun H locs hP hS => ?_)
  refine g_put (ws' := (wM cI cZ ad (z6.1, z18.1, z30.1, z42.1, z54.1, z66.1, mb.2.2.2.2.2.2.1, mb.2.2.2.2.2.2.2.1, mb.2.2.2.2.2.2.2.2.1, mb.2.2.2.2.2.2.2.2.2) mo mn mg mf mt mz ml z66.2)) (ci := 9) (C := RX9) (T := TX9) (N := 32) (v := .int z66.1) (ty := .int) F hP hS rfl tyX9 tyX9_ok nmX9 0 rfl rfl inX9_passAll_X9 9 (by decide) (List.mem_of_getElem? (i := 6) rfl) rfl (by decide +kernel) rfl rfl (Nat.le_of_ble_eq_true rfl) dX9_passAll_69 rfl (fun H locs hP hS => ?_)
  refine lv_iconst (v := 0) hx hb dX9_passAll_72 (by decide) ?_
  refine lv_istore_n (lv' := [(1, .int (0 : Int32)), (0, .ref (ad 0))]) hx hb dX9_passAll_73 rfl hl (by decide) rfl (fun ls hl => ?_)
  exact j74 200 ((z6.1, z18.1, z30.1, z42.1, z54.1, z66.1, mb.2.2.2.2.2.2.1, mb.2.2.2.2.2.2.2.1, mb.2.2.2.2.2.2.2.2.1, mb.2.2.2.2.2.2.2.2.2), z66.2, (0 : Int32)) _ _ _ hP hS (lv_sub hl [1, 0] rfl) hM
theorem inX9_image_X9 : ∀ w ∈ wsX90, w ∈ wsX9_image := fun w h => List.mem_cons_of_mem _ (List.mem_append_right _ h)
set_option maxHeartbeats 4000000 in
set_option maxRecDepth 100000 in
theorem c_X9_image (l : Launch) (dC : Nat → ClassId) (dI : Nat → Nat → Nat) (cI cC cZ : ClassId) (sa : Nat → Nat) (ad : Nat → Nat) (mb : BT) (mo : OT) (mn : NT) (mg : GT) (mf : AR) (mt : TT) (mz : AR) (ml : LT) (mi : IT) (x1 : Int32) {res : Int32 × BT × IT} (hM : M_X9_image mb mi x1 = some res) : CTi l (dC, dI) [(cI, .int), (cC, .char), (cZ, .boolean)] sa yX9_image wsX9_image (rmd 3) [.ref (ad 0), .int x1] (wM cI cZ ad mb mo mn mg mf mt mz ml mi) (fun (uu : BT × IT) => (wM cI cZ ad uu.1 mo mn mg mf mt mz ml uu.2)) res := by
  refine CTi.enter (own := RX9) (cc := cX9_image) (maxL := 2) (ret := (some .int)) (by decide) rfl rfl (Nat.le_of_ble_eq_true rfl) ?_
  intro pr e s m below meth c A F hr hlk hP hS ls hl
  obtain ⟨⟨hx, hb, hml, hown, hts⟩, hK, hDD, hA, hKC⟩ := id F
  have hl : lv_has ls 2 [(0, .ref (ad 0)), (1, .int x1)] := hl
  have hP : va_P (dC, dI) vwCl (wM cI cZ ad mb mo mn mg mf mt mz ml mi) s.heap := hP
  unfold M_X9_image at hM
  refine lv_iload_n hx hb dX9_image_0 rfl (lv_at hl 1 rfl) ?_
  refine lv_i2l (v := x1.toInt64) hx hb dX9_image_1 rfl ?_
  refine lv_lconst (v := 0) hx hb dX9_image_2 (by decide) ?_
  refine lv_lconst (v := 1) hx hb dX9_image_3 (by decide) ?_
  obtain ⟨z4, hcr, hM⟩ := ob_s hM
  refine res_i0 F hP hS rfl [] rfl rfl (runS_of (n := 3) (As := [.long x1.toInt64, .long (0 : Int64), .long (1 : Int64)]) (rest := []) F hP hS rfl [] rfl rfl (c_X9_in l dC dI cI cC cZ sa x1.toInt64 (0 : Int64) (1 : Int64) hcr _) gX9_image_X9_in rfl (by decide +kernel) ⟨Nat.le_of_ble_eq_true rfl, Nat.le_of_ble_eq_true rfl⟩ rfl hl.1 rfl (Nat.le_of_ble_eq_true rfl) dX9_image_4 ⟨Nat.zero_le _, Nat.zero_le _⟩) (fun H locs hP hS => ?_)
  refine lv_if_ne (tgt := 13) hx hb dX9_image_7 (by decide) (fun hc => ?_) (fun hc => ?_)
  · have hM := if_nn hc hM
    refine lv_aload_n hx hb dX9_image_13 rfl (lv_at hl 0 rfl) ?_
    refine lv_bipush (v := 40) hx hb dX9_image_14 (by decide) ?_
    refine lv_iload_n hx hb dX9_image_16 rfl (lv_at hl 1 rfl) ?_
    refine lv_imul hx hb dX9_image_17 ?_
    refine g_put (ws' := (wM cI cZ ad mb mo mn mg mf mt mz ml (((40 : Int32) * x1), mi.2.1, mi.2.2.1, mi.2.2.2))) (ci := 9) (C := RX9) (T := TX9) (N := 32) (v := .int ((40 : Int32) * x1)) (ty := .int) F hP hS rfl tyX9 tyX9_ok nmX9 0 rfl rfl inX9_image_X9 30 (by decide) (List.mem_of_getElem? (i := 1) rfl) rfl (by decide +kernel) rfl rfl (Nat.le_of_ble_eq_true rfl) dX9_image_18 rfl (fun H locs hP hS => ?_)
    refine lv_aload_n hx hb dX9_image_21 rfl (lv_at hl 0 rfl) ?_
    refine lv_iconst (v := 1) hx hb dX9_image_22 (by decide) ?_
    obtain ⟨hnz, hM⟩ := if_ok hM
    refine g_put (ws' := (wM cI cZ ad mb mo mn mg mf mt mz ml (((40 : Int32) * x1), (1 : Int32), mi.2.2.1, mi.2.2.2))) (ci := 9) (C := RX9) (T := TX9) (N := 32) (v := .int (1 : Int32)) (ty := .boolean) F hP hS rfl tyX9 tyX9_ok nmX9 0 rfl rfl inX9_image_X9 31 (by decide) (List.mem_of_getElem? (i := 2) rfl) rfl (by decide +kernel) (nar_z hnz) (fit_z hnz) (Nat.le_of_ble_eq_true rfl) dX9_image_23 rfl (fun H locs hP hS => ?_)
    refine lv_aload_n hx hb dX9_image_26 rfl (lv_at hl 0 rfl) ?_
    obtain ⟨z27, hcr, hM⟩ := ob_s hM
    refine res_v (ws' := (wM cI cZ ad z27.1 mo mn mg mf mt mz ml z27.2)) F hP hS rfl [0, 1, 2, 3, 4, 5, 6, 7, 8, 9, 10, 11, 12] rfl rfl rfl (runV_of (n := 0) (As := []) (rest := []) F hP hS rfl [0, 1, 2, 3, 4, 5, 6, 7, 8, 9, 10, 11, 12] rfl rfl (c_X9_passAll l dC dI cI cC cZ sa ad mb mo mn mg mf mt mz ml (((40 : Int32) * x1), (1 : Int32), mi.2.2.1, mi.2.2.2) hcr _) gX9_image_X9_passAll rfl (by decide +kernel) ⟨Nat.le_of_ble_eq_true rfl, Nat.le_of_ble_eq_true rfl⟩ 0 9 rfl rfl rfl hl.1 rfl (Nat.le_of_ble_eq_true rfl) dX9_image_27 ⟨Nat.zero_le _, Nat.zero_le _⟩) rfl (fun H locs hP hS => ?_)
    refine lv_aload_n hx hb dX9_image_30 rfl (lv_at hl 0 rfl) ?_
    refine g_get (ci := 9) (C := RX9) (T := TX9) (N := 32) (v := .ref (ad 12)) F hP 0 rfl rfl inX9_image_X9 29 (by decide) (List.mem_of_getElem? (i := 3) rfl) rfl dX9_image_31 ?_
    refine lv_iload_n hx hb dX9_image_34 rfl (lv_at hl 1 rfl) ?_
    refine lv_iconst (v := 1) hx hb dX9_image_35 (by decide) ?_
    obtain ⟨hin, hM⟩ := if_ok hM
    refine g_zast (ws' := (wM cI cZ ad z27.1 mo mn mg mf mt mz ml (z27.2.1, z27.2.2.1, z27.2.2.2.1, (upd z27.2.2.2.2 x1.toNatClampNeg (vp_nar .boolean (1 : Int32)))))) F hP hS rfl 12 2 rfl rfl hin dX9_image_36 rfl (fun H locs hP hS => ?_)
    refine lv_iconst (v := 1) hx hb dX9_image_37 (by decide) ?_
    exact ret_i hx hb hr hlk dX9_image_38 hM hP hS
  · have hM := if_pp hc hM
    refine lv_bipush (v := -2) hx hb dX9_image_10 (by decide) ?_
    exact ret_i hx hb hr hlk dX9_image_12 hM hP hS
theorem inX9_refusal_X9 : ∀ w ∈ wsX90, w ∈ wsX9_refusal := fun w h => List.mem_cons_of_mem _ (List.mem_append_right _ h)
set_option maxHeartbeats 4000000 in
set_option maxRecDepth 100000 in
theorem c_X9_refusal (l : Launch) (dC : Nat → ClassId) (dI : Nat → Nat → Nat) (cI cC cZ : ClassId) (sa : Nat → Nat) (ad : Nat → Nat) (mb : BT) (mo : OT) (mn : NT) (mg : GT) (mf : AR) (mt : TT) (mz : AR) (ml : LT) (mi : IT)  {res : Int32 × NT × GT} (hM : M_X9_refusal mb mo mn mg = some res) : CTi l (dC, dI) [(cI, .int), (cC, .char), (cZ, .boolean)] sa yX9_refusal wsX9_refusal (rmd 8) [.ref (ad 0)] (wM cI cZ ad mb mo mn mg mf mt mz ml mi) (fun (uu : NT × GT) => (wM cI cZ ad mb mo uu.1 uu.2 mf mt mz ml mi)) res := by
  refine CTi.enter (own := RX9) (cc := cX9_refusal) (maxL := 1) (ret := (some .int)) (by decide) rfl rfl (Nat.le_of_ble_eq_true rfl) ?_
  intro pr e s m below meth c A F hr hlk hP hS ls hl
  obtain ⟨⟨hx, hb, hml, hown, hts⟩, hK, hDD, hA, hKC⟩ := id F
  have hl : lv_has ls 1 [(0, .ref (ad 0))] := hl
  have hP : va_P (dC, dI) vwCl (wM cI cZ ad mb mo mn mg mf mt mz ml mi) s.heap := hP
  unfold M_X9_refusal at hM
  refine lv_aload_n hx hb dX9_refusal_0 rfl (lv_at hl 0 rfl) ?_
  refine lv_iconst (v := 1) hx hb dX9_refusal_1 (by decide) ?_
  obtain ⟨z2, hcr, hM⟩ := ob_s hM
  refine res_i0 F hP hS rfl [0, 1, 2, 3, 4, 5, 6, 7, 8, 9, 10, 11, 12] rfl rfl (runV_of (n := 1) (As := [.int (1 : Int32)]) (rest := []) F hP hS rfl [0, 1, 2, 3, 4, 5, 6, 7, 8, 9, 10, 11, 12] rfl rfl (c_X9_fault l dC dI cI cC cZ sa ad mb mo mn mg mf mt mz ml mi (1 : Int32) hcr _) gX9_refusal_X9_fault rfl (by decide +kernel) ⟨Nat.le_of_ble_eq_true rfl, Nat.le_of_ble_eq_true rfl⟩ 0 9 rfl rfl rfl hl.1 rfl (Nat.le_of_ble_eq_true rfl) dX9_refusal_2 ⟨Nat.zero_le _, Nat.zero_le _⟩) (fun H locs hP hS => ?_)
  refine lv_if_lt (tgt := 11) hx hb dX9_refusal_5 (by decide) (fun hc => ?_) (fun hc => ?_)
  · have hM := if_pp hc hM
    refine lv_aload_n hx hb dX9_refusal_11 rfl (lv_at hl 0 rfl) ?_
    obtain ⟨z12, hcr, hM⟩ := ob_s hM
    refine res_v (ws' := (wM cI cZ ad mb mo z12.1 z12.2 mf mt mz ml mi)) F hP hS rfl [0, 1, 2, 3, 4, 5, 6, 7, 8, 9, 10, 11, 12] rfl rfl rfl (runV_of (n := 0) (As := []) (rest := []) F hP hS rfl [0, 1, 2, 3, 4, 5, 6, 7, 8, 9, 10, 11, 12] rfl rfl (c_X9_goWalk l dC dI cI cC cZ sa ad mb mo mn mg mf mt mz ml mi hcr _) gX9_refusal_X9_goWalk rfl (by decide +kernel) ⟨Nat.le_of_ble_eq_true rfl, Nat.le_of_ble_eq_true rfl⟩ 0 9 rfl rfl rfl hl.1 rfl (Nat.le_of_ble_eq_true rfl) dX9_refusal_12 ⟨Nat.zero_le _, Nat.zero_le _⟩) rfl (fun H locs hP hS => ?_)
    refine lv_aload_n hx hb dX9_refusal_15 rfl (lv_at hl 0 rfl) ?_
    refine g_get (ci := 9) (C := RX9) (T := TX9) (N := 32) (v := .int z12.2.1) F hP 0 rfl rfl inX9_refusal_X9 16 (by decide) (List.mem_of_getElem? (i := 1) rfl) rfl dX9_refusal_16 ?_
    refine lv_if_lt (tgt := 27) hx hb dX9_refusal_19 (by decide) (fun hc => ?_) (fun hc => ?_)
    · have hM := if_pp hc hM
      refine lv_bipush (v := -6) hx hb dX9_refusal_27 (by decide) ?_
      exact ret_i hx hb hr hlk dX9_refusal_29 hM hP hS
    · have hM := if_nn hc hM
      refine lv_bipush (v := -3) hx hb dX9_refusal_22 (by decide) ?_
      refine lv_goto (tgt := 29) hx hb dX9_refusal_24 (by decide) ?_
      exact ret_i hx hb hr hlk dX9_refusal_29 hM hP hS
  · have hM := if_nn hc hM
    refine lv_bipush (v := -5) hx hb dX9_refusal_8 (by decide) ?_
    exact ret_i hx hb hr hlk dX9_refusal_10 hM hP hS
theorem inX9_judge_X9 : ∀ w ∈ wsX90, w ∈ wsX9_judge := fun w h => List.mem_cons_of_mem _ (List.mem_append_right _ h)
set_option maxHeartbeats 4000000 in
set_option maxRecDepth 100000 in
theorem c_X9_judge (l : Launch) (dC : Nat → ClassId) (dI : Nat → Nat → Nat) (cI cC cZ : ClassId) (sa : Nat → Nat) (ad : Nat → Nat) (mb : BT) (mo : OT) (mn : NT) (mg : GT) (mf : AR) (mt : TT) (mz : AR) (ml : LT) (mi : IT) (x1 : Int32) {res : Int32 × NT × GT} (hM : M_X9_judge mb mo mn mg x1 = some res) : CTi l (dC, dI) [(cI, .int), (cC, .char), (cZ, .boolean)] sa yX9_judge wsX9_judge (rmd 9) [.ref (ad 0), .int x1] (wM cI cZ ad mb mo mn mg mf mt mz ml mi) (fun (uu : NT × GT) => (wM cI cZ ad mb mo uu.1 uu.2 mf mt mz ml mi)) res := by
  refine CTi.enter (own := RX9) (cc := cX9_judge) (maxL := 3) (ret := (some .int)) (by decide) rfl rfl (Nat.le_of_ble_eq_true rfl) ?_
  intro pr e s m below meth c A F hr hlk hP hS ls hl
  obtain ⟨⟨hx, hb, hml, hown, hts⟩, hK, hDD, hA, hKC⟩ := id F
  have hl : lv_has ls 3 [(0, .ref (ad 0)), (1, .int x1)] := hl
  have hP : va_P (dC, dI) vwCl (wM cI cZ ad mb mo mn mg mf mt mz ml mi) s.heap := hP
  unfold M_X9_judge at hM
  refine kblk (α := NT × GT) (res := res) (fun a => M_X9_judge_38 mb mo x1 a) F (fun a => (wM cI cZ ad mb mo a.1 a.2 mf mt mz ml mi)) (fun a => [(0, .ref (ad 0)), (1, .int x1)]) (fun a => []) 38 ?_ (fun j38 => ?_)
  · intro a38 H locs ls hP hS hl hM
    unfold M_X9_judge_38 at hM
    refine lv_iload_n hx hb dX9_judge_38 rfl (lv_at hl 1 rfl) ?_
    by_cases hc0 : x1 = (0 : Int32)
    · have hM := if_pp hc0 hM
      refine lv_tableIn (off := 33) (tgt := 72) hx hb dX9_judge_39 (by rw [hc0]; decide) (by rw [hc0]; decide) (by rw [hc0]; rfl) (by decide) ?_
      refine lv_aload_n hx hb dX9_judge_72 rfl (lv_at hl 0 rfl) ?_
      refine g_get (ci := 9) (C := RX9) (T := TX9) (N := 32) (v := .int a38.2.1) F hP 0 rfl rfl inX9_judge_X9 16 (by decide) (List.mem_of_getElem? (i := 2) rfl) rfl dX9_judge_73 ?_
      exact ret_i hx hb hr hlk dX9_judge_76 hM hP hS
    · have hM := if_nn hc0 hM
      by_cases hc1 : x1 = (1 : Int32)
      · have hM := if_pp hc1 hM
        refine lv_tableIn (off := 38) (tgt := 77) hx hb dX9_judge_39 (by rw [hc1]; decide) (by rw [hc1]; decide) (by rw [hc1]; rfl) (by decide) ?_
        refine lv_aload_n hx hb dX9_judge_77 rfl (lv_at hl 0 rfl) ?_
        refine g_get (ci := 9) (C := RX9) (T := TX9) (N := 32) (v := .int a38.2.2.1) F hP 0 rfl rfl inX9_judge_X9 17 (by decide) (List.mem_of_getElem? (i := 3) rfl) rfl dX9_judge_78 ?_
        exact ret_i hx hb hr hlk dX9_judge_81 hM hP hS
      · have hM := if_nn hc1 hM
        by_cases hc2 : x1 = (2 : Int32)
        · have hM := if_pp hc2 hM
          refine lv_tableIn (off := 43) (tgt := 82) hx hb dX9_judge_39 (by rw [hc2]; decide) (by rw [hc2]; decide) (by rw [hc2]; rfl) (by decide) ?_
          refine lv_aload_n hx hb dX9_judge_82 rfl (lv_at hl 0 rfl) ?_
          refine g_get (ci := 9) (C := RX9) (T := TX9) (N := 32) (v := .int a38.2.2.2.1) F hP 0 rfl rfl inX9_judge_X9 18 (by decide) (List.mem_of_getElem? (i := 4) rfl) rfl dX9_judge_83 ?_
          exact ret_i hx hb hr hlk dX9_judge_86 hM hP hS
        · have hM := if_nn hc2 hM
          by_cases hc3 : x1 = (3 : Int32)
          · have hM := if_pp hc3 hM
            refine lv_tableIn (off := 48) (tgt := 87) hx hb dX9_judge_39 (by rw [hc3]; decide) (by rw [hc3]; decide) (by rw [hc3]; rfl) (by decide) ?_
            refine lv_aload_n hx hb dX9_judge_87 rfl (lv_at hl 0 rfl) ?_
            refine g_get (ci := 9) (C := RX9) (T := TX9) (N := 32) (v := .int a38.2.2.2.2.1) F hP 0 rfl rfl inX9_judge_X9 19 (by decide) (List.mem_of_getElem? (i := 5) rfl) rfl dX9_judge_88 ?_
            exact ret_i hx hb hr hlk dX9_judge_91 hM hP hS
          · have hM := if_nn hc3 hM
            by_cases hc4 : x1 = (4 : Int32)
            · have hM := if_pp hc4 hM
              refine lv_tableIn (off := 53) (tgt := 92) hx hb dX9_judge_39 (by rw [hc4]; decide) (by rw [hc4]; decide) (by rw [hc4]; rfl) (by decide) ?_
              refine lv_aload_n hx hb dX9_judge_92 rfl (lv_at hl 0 rfl) ?_
              refine g_get (ci := 9) (C := RX9) (T := TX9) (N := 32) (v := .int a38.2.2.2.2.2.1) F hP 0 rfl rfl inX9_judge_X9 20 (by decide) (List.mem_of_getElem? (i := 6) rfl) rfl dX9_judge_93 ?_
              exact ret_i hx hb hr hlk dX9_judge_96 hM hP hS
            · have hM := if_nn hc4 hM
              have hn0 := lv_neT hc0 (a := 0) (by decide)
              have hn1 := lv_neT hc1 (a := 1) (by decide)
              have hn2 := lv_neT hc2 (a := 2) (by decide)
              have hn3 := lv_neT hc3 (a := 3) (by decide)
              have hn4 := lv_neT hc4 (a := 4) (by decide)
              refine lv_tableOut (tgt := 97) hx hb dX9_judge_39 (by omega) (by decide) ?_
              refine lv_aload_n hx hb dX9_judge_97 rfl (lv_at hl 0 rfl) ?_
              refine g_get (ci := 9) (C := RX9) (T := TX9) (N := 32) (v := .int a38.1.1) F hP 0 rfl rfl inX9_judge_X9 12 (by decide) (List.mem_of_getElem? (i := 7) rfl) rfl dX9_judge_98 ?_
              exact ret_i hx hb hr hlk dX9_judge_101 hM hP hS
  refine lv_iload_n hx hb dX9_judge_0 rfl (lv_at hl 1 rfl) ?_
  refine lv_i2l (v := x1.toInt64) hx hb dX9_judge_1 rfl ?_
  refine lv_lconst (v := 0) hx hb dX9_judge_2 (by decide) ?_
  refine lv_ldc2 (v := 5) hx hb hown (hts _ (List.mem_of_getElem? (i := 1) rfl)) dX9_judge_3 ?_
  obtain ⟨z6, hcr, hM⟩ := ob_s hM
  refine res_i0 F hP hS rfl [] rfl rfl (runS_of (n := 3) (As := [.long x1.toInt64, .long (0 : Int64), .long (5 : Int64)]) (rest := []) F hP hS rfl [] rfl rfl (c_X9_in l dC dI cI cC cZ sa x1.toInt64 (0 : Int64) (5 : Int64) hcr _) gX9_judge_X9_in rfl (by decide +kernel) ⟨Nat.le_of_ble_eq_true rfl, Nat.le_of_ble_eq_true rfl⟩ rfl hl.1 rfl (Nat.le_of_ble_eq_true rfl) dX9_judge_6 ⟨Nat.zero_le _, Nat.zero_le _⟩) (fun H locs hP hS => ?_)
  refine lv_if_ne (tgt := 15) hx hb dX9_judge_9 (by decide) (fun hc => ?_) (fun hc => ?_)
  · have hM := if_nn hc hM
    refine lv_aload_n hx hb dX9_judge_15 rfl (lv_at hl 0 rfl) ?_
    obtain ⟨z16, hcr, hM⟩ := ob_s hM
    refine res_i (ws' := (wM cI cZ ad mb mo z16.2.1 z16.2.2 mf mt mz ml mi)) F hP hS rfl [0, 1, 2, 3, 4, 5, 6, 7, 8, 9, 10, 11, 12] rfl rfl rfl (runV_of (n := 0) (As := []) (rest := []) F hP hS rfl [0, 1, 2, 3, 4, 5, 6, 7, 8, 9, 10, 11, 12] rfl rfl (c_X9_refusal l dC dI cI cC cZ sa ad mb mo mn mg mf mt mz ml mi hcr _) gX9_judge_X9_refusal rfl (by decide +kernel) ⟨Nat.le_of_ble_eq_true rfl, Nat.le_of_ble_eq_true rfl⟩ 0 9 rfl rfl rfl hl.1 rfl (Nat.le_of_ble_eq_true rfl) dX9_judge_16 ⟨Nat.zero_le _, Nat.zero_le _⟩) rfl (fun H locs hP hS => ?_)
    refine lv_istore_n (lv' := [(2, .int z16.1), (0, .ref (ad 0)), (1, .int x1)]) hx hb dX9_judge_19 rfl hl (by decide) rfl (fun ls hl => ?_)
    refine lv_iload_n hx hb dX9_judge_20 rfl (lv_at hl 0 rfl) ?_
    refine lv_bipush (v := -5) hx hb dX9_judge_21 (by decide) ?_
    refine lv_icmp_eq (tgt := 36) hx hb dX9_judge_23 (by decide) (fun hc => ?_) (fun hc => ?_)
    · have hM := if_pp hc hM
      refine lv_iload_n hx hb dX9_judge_36 rfl (lv_at hl 0 rfl) ?_
      exact ret_i hx hb hr hlk dX9_judge_37 hM hP hS
    · have hM := if_nn hc hM
      refine lv_iload_n hx hb dX9_judge_26 rfl (lv_at hl 2 rfl) ?_
      refine lv_if_le (tgt := 38) hx hb dX9_judge_27 (by decide) (fun hc => ?_) (fun hc => ?_)
      · have hM := if_pp hc hM
        exact j38 (z16.2.1, z16.2.2) _ _ _ hP hS (lv_sub hl [1, 2] rfl) hM
      · have hM := if_nn hc hM
        refine lv_iload_n hx hb dX9_judge_30 rfl (lv_at hl 0 rfl) ?_
        refine lv_bipush (v := -6) hx hb dX9_judge_31 (by decide) ?_
        refine lv_icmp_eq (tgt := 38) hx hb dX9_judge_33 (by decide) (fun hc => ?_) (fun hc => ?_)
        · have hM := if_pp hc hM
          exact j38 (z16.2.1, z16.2.2) _ _ _ hP hS (lv_sub hl [1, 2] rfl) hM
        · have hM := if_nn hc hM
          refine lv_iload_n hx hb dX9_judge_36 rfl (lv_at hl 0 rfl) ?_
          exact ret_i hx hb hr hlk dX9_judge_37 hM hP hS
  · have hM := if_pp hc hM
    refine lv_bipush (v := -2) hx hb dX9_judge_12 (by decide) ?_
    exact ret_i hx hb hr hlk dX9_judge_14 hM hP hS
theorem inX9_leads_X9 : ∀ w ∈ wsX90, w ∈ wsX9_leads := fun w h => List.mem_cons_of_mem _ (List.mem_append_right _ h)
set_option maxHeartbeats 4000000 in
set_option maxRecDepth 100000 in
theorem c_X9_leads (l : Launch) (dC : Nat → ClassId) (dI : Nat → Nat → Nat) (cI cC cZ : ClassId) (sa : Nat → Nat) (ad : Nat → Nat) (mb : BT) (mo : OT) (mn : NT) (mg : GT) (mf : AR) (mt : TT) (mz : AR) (ml : LT) (mi : IT) (x1 : Int32) (x2 : Int32) (x3 : Int32) {res : Int32} (hM : M_X9_leads mb mf x1 x2 x3 = some res) : CTi l (dC, dI) [(cI, .int), (cC, .char), (cZ, .boolean)] sa yX9_leads wsX9_leads (rmd 3) [.ref (ad 0), .int x1, .int x2, .int x3] (wM cI cZ ad mb mo mn mg mf mt mz ml mi) (fun (_ : Unit) => (wM cI cZ ad mb mo mn mg mf mt mz ml mi)) (res, ()) := by
  refine CTi.enter (own := RX9) (cc := cX9_leads) (maxL := 5) (ret := (some .boolean)) (by decide) rfl rfl (Nat.le_of_ble_eq_true rfl) ?_
  intro pr e s m below meth c A F hr hlk hP hS ls hl
  obtain ⟨⟨hx, hb, hml, hown, hts⟩, hK, hDD, hA, hKC⟩ := id F
  have hl : lv_has ls 5 [(0, .ref (ad 0)), (1, .int x1), (2, .int x2), (3, .int x3)] := hl
  have hP : va_P (dC, dI) vwCl (wM cI cZ ad mb mo mn mg mf mt mz ml mi) s.heap := hP
  unfold M_X9_leads at hM
  refine lv_aload_n hx hb dX9_leads_0 rfl (lv_at hl 0 rfl) ?_
  refine lv_iload_n hx hb dX9_leads_1 rfl (lv_at hl 1 rfl) ?_
  refine lv_iload_n hx hb dX9_leads_2 rfl (lv_at hl 2 rfl) ?_
  obtain ⟨z3, hcr, hM⟩ := ob_s hM
  refine res_i0 F hP hS rfl [0, 1, 2, 3, 4, 5, 6, 7, 8, 9, 10, 11, 12] rfl rfl (runV_of (n := 2) (As := [.int x1, .int x2]) (rest := []) F hP hS rfl [0, 1, 2, 3, 4, 5, 6, 7, 8, 9, 10, 11, 12] rfl rfl (c_X9_beyond l dC dI cI cC cZ sa ad mb mo mn mg mf mt mz ml mi x1 x2 hcr _) gX9_leads_X9_beyond rfl (by decide +kernel) ⟨Nat.le_of_ble_eq_true rfl, Nat.le_of_ble_eq_true rfl⟩ 0 9 rfl rfl rfl hl.1 rfl (Nat.le_of_ble_eq_true rfl) dX9_leads_3 ⟨Nat.zero_le _, Nat.zero_le _⟩) (fun H locs hP hS => ?_)
  refine lv_istore (lv' := [(4, .int z3), (0, .ref (ad 0)), (1, .int x1), (2, .int x2), (3, .int x3)]) hx hb dX9_leads_6 hl (by decide) rfl (fun ls hl => ?_)
  refine lv_iload hx hb dX9_leads_8 (lv_at hl 0 rfl) ?_
  refine lv_if_lt (tgt := 45) hx hb dX9_leads_10 (by decide) (fun hc => ?_) (fun hc => ?_)
  · have hM := if_pp hc hM
    refine lv_iconst (v := 0) hx hb dX9_leads_45 (by decide) ?_
    exact ret_z hx hb hr hlk dX9_leads_46 (by decide) (some_u hM) hP hS
  · have hM := if_nn hc hM
    refine lv_iload_n hx hb dX9_leads_13 rfl (lv_at hl 4 rfl) ?_
    refine lv_iload hx hb dX9_leads_14 (lv_at hl 0 rfl) ?_
    refine lv_ishr hx hb dX9_leads_16 ?_
    refine lv_iconst (v := 1) hx hb dX9_leads_17 (by decide) ?_
    refine lv_iand hx hb dX9_leads_18 ?_
    refine lv_iconst (v := 1) hx hb dX9_leads_19 (by decide) ?_
    refine lv_icmp_ne (tgt := 45) hx hb dX9_leads_20 (by decide) (fun hc => ?_) (fun hc => ?_)
    · have hM := if_nn hc hM
      refine lv_iconst (v := 0) hx hb dX9_leads_45 (by decide) ?_
      exact ret_z hx hb hr hlk dX9_leads_46 (by decide) (some_u hM) hP hS
    · have hM := if_pp hc hM
      refine lv_aload_n hx hb dX9_leads_23 rfl (lv_at hl 1 rfl) ?_
      refine g_get (ci := 9) (C := RX9) (T := TX9) (N := 32) (v := .ref (ad 6)) F hP 0 rfl rfl inX9_leads_X9 22 (by decide) (List.mem_of_getElem? (i := 1) rfl) rfl dX9_leads_24 ?_
      refine lv_iload hx hb dX9_leads_27 (lv_at hl 0 rfl) ?_
      obtain ⟨hin, hM⟩ := if_ok hM
      refine va_iald hx hb hK hP 6 0 rfl rfl hin dX9_leads_29 ?_
      refine lv_aload_n hx hb dX9_leads_30 rfl (lv_at hl 1 rfl) ?_
      refine g_get (ci := 9) (C := RX9) (T := TX9) (N := 32) (v := .ref (ad 6)) F hP 0 rfl rfl inX9_leads_X9 22 (by decide) (List.mem_of_getElem? (i := 1) rfl) rfl dX9_leads_31 ?_
      refine lv_iload_n hx hb dX9_leads_34 rfl (lv_at hl 2 rfl) ?_
      obtain ⟨hin, hM⟩ := if_ok hM
      refine va_iald hx hb hK hP 6 0 rfl rfl hin dX9_leads_35 ?_
      refine lv_iconst (v := 1) hx hb dX9_leads_36 (by decide) ?_
      refine lv_isub hx hb dX9_leads_37 ?_
      refine lv_icmp_ne (tgt := 45) hx hb dX9_leads_38 (by decide) (fun hc => ?_) (fun hc => ?_)
      · have hM := if_nn hc hM
        refine lv_iconst (v := 0) hx hb dX9_leads_45 (by decide) ?_
        exact ret_z hx hb hr hlk dX9_leads_46 (by decide) (some_u hM) hP hS
      · have hM := if_pp hc hM
        refine lv_iconst (v := 1) hx hb dX9_leads_41 (by decide) ?_
        refine lv_goto (tgt := 46) hx hb dX9_leads_42 (by decide) ?_
        exact ret_z hx hb hr hlk dX9_leads_46 (by decide) (some_u hM) hP hS
theorem inX9_layWay_X9 : ∀ w ∈ wsX90, w ∈ wsX9_layWay := fun w h => List.mem_cons_of_mem _ (List.mem_append_right _ h)
set_option maxHeartbeats 4000000 in
set_option maxRecDepth 100000 in
theorem c_X9_layWay (l : Launch) (dC : Nat → ClassId) (dI : Nat → Nat → Nat) (cI cC cZ : ClassId) (sa : Nat → Nat) (ad : Nat → Nat) (mb : BT) (mo : OT) (mn : NT) (mg : GT) (mf : AR) (mt : TT) (mz : AR) (ml : LT) (mi : IT) (x1 : Int32) (x2 : Int32) (x3 : Int32) {res : AR × TT} (hM : M_X9_layWay mb mf mt x1 x2 x3 = some res) : CTv l (dC, dI) [(cI, .int), (cC, .char), (cZ, .boolean)] sa yX9_layWay wsX9_layWay (rmd 4) [.ref (ad 0), .int x1, .int x2, .int x3] (wM cI cZ ad mb mo mn mg mf mt mz ml mi) (fun (uu : AR × TT) => (wM cI cZ ad mb mo mn mg uu.1 uu.2 mz ml mi)) res := by
  refine CTv.enter (own := RX9) (cc := cX9_layWay) (maxL := 6) (ret := none) (by decide) rfl rfl (Nat.le_of_ble_eq_true rfl) ?_
  intro pr e s m below meth c A F hr hlk hP hS ls hl
  obtain ⟨⟨hx, hb, hml, hown, hts⟩, hK, hDD, hA, hKC⟩ := id F
  have hl : lv_has ls 6 [(0, .ref (ad 0)), (1, .int x1), (2, .int x2), (3, .int x3)] := hl
  have hP : va_P (dC, dI) vwCl (wM cI cZ ad mb mo mn mg mf mt mz ml mi) s.heap := hP
  unfold M_X9_layWay at hM
  refine kloop (α := AR × TT × Int32) (res := res) (fun k a => M_X9_layWay_9 mb x1 x2 x3 k a) (fun rec a => M_X9_layWay_9b mb x1 x2 x3 rec a) (fun _ => rfl) (fun _ _ => rfl) F (fun a => (wM cI cZ ad mb mo mn mg a.1 a.2.1 mz ml mi)) (fun a => [(0, .ref (ad 0)), (2, .int x2), (3, .int x3), (4, .int a.2.2)]) (fun a => []) 9 ?_ (fun j9 => ?_)
  · intro rc9 ih9 a9 H locs ls hP hS hl hM
    unfold M_X9_layWay_9b at hM
    refine kblk (α := AR × TT × Int32 × Int32) (res := res) (fun a => M_X9_layWay_36 mb x1 x2 x3 rc9 a) F (fun a => (wM cI cZ ad mb mo mn mg a.1 a.2.1 mz ml mi)) (fun a => [(0, .ref (ad 0)), (2, .int x2), (3, .int x3), (4, .int a.2.2.1), (5, .int a.2.2.2)]) (fun a => []) 36 ?_ (fun j36 => ?_)
    · intro a36 H locs ls hP hS hl hM
      unfold M_X9_layWay_36 at hM
      refine lv_aload_n hx hb dX9_layWay_36 rfl (lv_at hl 0 rfl) ?_
      refine g_get (ci := 9) (C := RX9) (T := TX9) (N := 32) (v := .ref (ad 7)) F hP 0 rfl rfl inX9_layWay_X9 23 (by decide) (List.mem_of_getElem? (i := 1) rfl) rfl dX9_layWay_37 ?_
      refine lv_aload_n hx hb dX9_layWay_40 rfl (lv_at hl 0 rfl) ?_
      refine g_get (ci := 9) (C := RX9) (T := TX9) (N := 32) (v := .int a36.2.1.1) F hP 0 rfl rfl inX9_layWay_X9 24 (by decide) (List.mem_of_getElem? (i := 2) rfl) rfl dX9_layWay_41 ?_
      refine lv_iload hx hb dX9_layWay_44 (lv_at hl 4 rfl) ?_
      obtain ⟨z46, hcr, hM⟩ := ob_s hM
      refine res_i0 F hP hS rfl [] rfl rfl (runS_of (n := 1) (As := [.int a36.2.2.2]) (rest := [.int a36.2.1.1, .ref (ad 7)]) F hP hS rfl [] rfl rfl (c_X9_codeOf l dC dI cI cC cZ sa a36.2.2.2 hcr _) gX9_layWay_X9_codeOf rfl (by decide +kernel) ⟨Nat.le_of_ble_eq_true rfl, Nat.le_of_ble_eq_true rfl⟩ rfl hl.1 rfl (Nat.le_of_ble_eq_true rfl) dX9_layWay_46 ⟨Nat.zero_le _, Nat.zero_le _⟩) (fun H locs hP hS => ?_)
      obtain ⟨hin, hM⟩ := if_ok hM
      refine g_iast (ws' := (wM cI cZ ad mb mo mn mg a36.1 (a36.2.1.1, (upd a36.2.1.2 a36.2.1.1.toNatClampNeg z46)) mz ml mi)) F hP hS rfl 7 0 rfl rfl hin dX9_layWay_49 rfl (fun H locs hP hS => ?_)
      refine lv_aload_n hx hb dX9_layWay_50 rfl (lv_at hl 0 rfl) ?_
      refine lv_dup hx hb dX9_layWay_51 rfl ?_
      refine g_get (ci := 9) (C := RX9) (T := TX9) (N := 32) (v := .int a36.2.1.1) F hP 0 rfl rfl inX9_layWay_X9 24 (by decide) (List.mem_of_getElem? (i := 2) rfl) rfl dX9_layWay_52 ?_
      refine lv_iconst (v := 1) hx hb dX9_layWay_55 (by decide) ?_
      refine lv_iadd hx hb dX9_layWay_56 ?_
      refine g_put (ws' := (wM cI cZ ad mb mo mn mg a36.1 ((a36.2.1.1 + (1 : Int32)), (upd a36.2.1.2 a36.2.1.1.toNatClampNeg z46)) mz ml mi)) (ci := 9) (C := RX9) (T := TX9) (N := 32) (v := .int (a36.2.1.1 + (1 : Int32))) (ty := .int) F hP hS rfl tyX9 tyX9_ok nmX9 0 rfl rfl inX9_layWay_X9 24 (by decide) (List.mem_of_getElem? (i := 2) rfl) rfl (by decide +kernel) rfl rfl (Nat.le_of_ble_eq_true rfl) dX9_layWay_57 rfl (fun H locs hP hS => ?_)
      refine lv_aload_n hx hb dX9_layWay_60 rfl (lv_at hl 0 rfl) ?_
      refine lv_iload hx hb dX9_layWay_61 (lv_at hl 3 rfl) ?_
      refine lv_iload hx hb dX9_layWay_63 (lv_at hl 4 rfl) ?_
      obtain ⟨z65, hcr, hM⟩ := ob_s hM
      refine res_i0 F hP hS rfl [0, 1, 2, 3, 4, 5, 6, 7, 8, 9, 10, 11, 12] rfl rfl (runV_of (n := 2) (As := [.int a36.2.2.1, .int a36.2.2.2]) (rest := []) F hP hS rfl [0, 1, 2, 3, 4, 5, 6, 7, 8, 9, 10, 11, 12] rfl rfl (c_X9_beyond l dC dI cI cC cZ sa ad mb mo mn mg a36.1 ((a36.2.1.1 + (1 : Int32)), (upd a36.2.1.2 a36.2.1.1.toNatClampNeg z46)) mz ml mi a36.2.2.1 a36.2.2.2 hcr _) gX9_layWay_X9_beyond rfl (by decide +kernel) ⟨Nat.le_of_ble_eq_true rfl, Nat.le_of_ble_eq_true rfl⟩ 0 9 rfl rfl rfl hl.1 rfl (Nat.le_of_ble_eq_true rfl) dX9_layWay_65 ⟨Nat.zero_le _, Nat.zero_le _⟩) (fun H locs hP hS => ?_)
      refine lv_istore (lv' := [(4, .int z65), (0, .ref (ad 0)), (2, .int x2), (3, .int x3), (5, .int a36.2.2.2)]) hx hb dX9_layWay_68 hl (by decide) rfl (fun ls hl => ?_)
      refine lv_goto (tgt := 9) hx hb dX9_layWay_70 (by decide) ?_
      exact ih9 (a36.1, ((a36.2.1.1 + (1 : Int32)), (upd a36.2.1.2 a36.2.1.1.toNatClampNeg z46)), z65) _ _ _ hP hS (lv_sub hl [1, 2, 3, 0] rfl) hM
    refine kloop (α := AR × TT × Int32 × Int32) (res := res) (fun k a => M_X9_layWay_18 mb x1 x2 x3 rc9 k a) (fun rec a => M_X9_layWay_18b mb x1 x2 x3 rc9 rec a) (fun _ => rfl) (fun _ _ => rfl) F (fun a => (wM cI cZ ad mb mo mn mg a.1 a.2.1 mz ml mi)) (fun a => [(0, .ref (ad 0)), (2, .int x2), (3, .int x3), (4, .int a.2.2.1), (5, .int a.2.2.2)]) (fun a => []) 18 ?_ (fun j18 => ?_)
    · intro rc18 ih18 a18 H locs ls hP hS hl hM
      unfold M_X9_layWay_18b at hM
      refine lv_aload_n hx hb dX9_layWay_18 rfl (lv_at hl 0 rfl) ?_
      refine lv_iload hx hb dX9_layWay_19 (lv_at hl 3 rfl) ?_
      refine lv_iload hx hb dX9_layWay_21 (lv_at hl 4 rfl) ?_
      refine lv_iload_n hx hb dX9_layWay_23 rfl (lv_at hl 2 rfl) ?_
      obtain ⟨z24, hcr, hM⟩ := ob_s hM
      refine res_i0 F hP hS rfl [0, 1, 2, 3, 4, 5, 6, 7, 8, 9, 10, 11, 12] rfl rfl (runV_of (n := 3) (As := [.int a18.2.2.1, .int a18.2.2.2, .int x3]) (rest := []) F hP hS rfl [0, 1, 2, 3, 4, 5, 6, 7, 8, 9, 10, 11, 12] rfl rfl (c_X9_leads l dC dI cI cC cZ sa ad mb mo mn mg a18.1 a18.2.1 mz ml mi a18.2.2.1 a18.2.2.2 x3 hcr _) gX9_layWay_X9_leads rfl (by decide +kernel) ⟨Nat.le_of_ble_eq_true rfl, Nat.le_of_ble_eq_true rfl⟩ 0 9 rfl rfl rfl hl.1 rfl (Nat.le_of_ble_eq_true rfl) dX9_layWay_24 ⟨Nat.zero_le _, Nat.zero_le _⟩) (fun H locs hP hS => ?_)
      refine lv_if_ne (tgt := 36) hx hb dX9_layWay_27 (by decide) (fun hc => ?_) (fun hc => ?_)
      · have hM := if_nn hc hM
        exact j36 (a18.1, a18.2.1, a18.2.2.1, a18.2.2.2) _ _ _ hP hS (lv_sub hl [0, 1, 2, 3, 4] rfl) hM
      · have hM := if_pp hc hM
        refine lv_iinc (v := (a18.2.2.2 + (1 : Int32))) (lv' := [(5, .int (a18.2.2.2 + (1 : Int32))), (0, .ref (ad 0)), (2, .int x2), (3, .int x3), (4, .int a18.2.2.1)]) hx hb dX9_layWay_30 hl (k := 4) rfl rfl (by decide) rfl (fun ls hl => ?_)
        refine lv_goto (tgt := 18) hx hb dX9_layWay_33 (by decide) ?_
        exact ih18 (a18.1, a18.2.1, a18.2.2.1, (a18.2.2.2 + (1 : Int32))) _ _ _ hP hS (lv_sub hl [1, 2, 3, 4, 0] rfl) hM
    refine lv_iload hx hb dX9_layWay_9 (lv_at hl 3 rfl) ?_
    refine lv_iload_n hx hb dX9_layWay_11 rfl (lv_at hl 1 rfl) ?_
    refine lv_icmp_eq (tgt := 73) hx hb dX9_layWay_12 (by decide) (fun hc => ?_) (fun hc => ?_)
    · have hM := if_pp hc hM
      exact ret_v hx hb hr hlk dX9_layWay_73 hM hP hS
    · have hM := if_nn hc hM
      refine lv_iconst (v := 0) hx hb dX9_layWay_15 (by decide) ?_
      refine lv_istore (lv' := [(5, .int (0 : Int32)), (0, .ref (ad 0)), (2, .int x2), (3, .int x3), (4, .int a9.2.2)]) hx hb dX9_layWay_16 hl (by decide) rfl (fun ls hl => ?_)
      exact j18 200 (a9.1, a9.2.1, a9.2.2, (0 : Int32)) _ _ _ hP hS (lv_sub hl [1, 2, 3, 4, 0] rfl) hM
  refine lv_aload_n hx hb dX9_layWay_0 rfl (lv_at hl 0 rfl) ?_
  refine lv_iload_n hx hb dX9_layWay_1 rfl (lv_at hl 2 rfl) ?_
  refine lv_iload_n hx hb dX9_layWay_2 rfl (lv_at hl 3 rfl) ?_
  obtain ⟨z3, hcr, hM⟩ := ob_s hM
  refine res_v (ws' := (wM cI cZ ad mb mo mn mg z3 mt mz ml mi)) F hP hS rfl [0, 1, 2, 3, 4, 5, 6, 7, 8, 9, 10, 11, 12] rfl rfl rfl (runV_of (n := 2) (As := [.int x2, .int x3]) (rest := []) F hP hS rfl [0, 1, 2, 3, 4, 5, 6, 7, 8, 9, 10, 11, 12] rfl rfl (c_X9_findFar l dC dI cI cC cZ sa ad mb mo mn mg mf mt mz ml mi x2 x3 hcr _) gX9_layWay_X9_findFar rfl (by decide +kernel) ⟨Nat.le_of_ble_eq_true rfl, Nat.le_of_ble_eq_true rfl⟩ 0 9 rfl rfl rfl hl.1 rfl (Nat.le_of_ble_eq_true rfl) dX9_layWay_3 ⟨Nat.zero_le _, Nat.zero_le _⟩) rfl (fun H locs hP hS => ?_)
  refine lv_iload_n hx hb dX9_layWay_6 rfl (lv_at hl 1 rfl) ?_
  refine lv_istore (lv' := [(4, .int x1), (0, .ref (ad 0)), (1, .int x1), (2, .int x2), (3, .int x3)]) hx hb dX9_layWay_7 hl (by decide) rfl (fun ls hl => ?_)
  exact j9 200 (z3, mt, x1) _ _ _ hP hS (lv_sub hl [1, 3, 4, 0] rfl) hM
theorem inX9_least_X9 : ∀ w ∈ wsX90, w ∈ wsX9_least := fun w h => List.mem_cons_of_mem _ (List.mem_append_right _ h)
set_option maxHeartbeats 4000000 in
set_option maxRecDepth 100000 in
theorem c_X9_least (l : Launch) (dC : Nat → ClassId) (dI : Nat → Nat → Nat) (cI cC cZ : ClassId) (sa : Nat → Nat) (ad : Nat → Nat) (mb : BT) (mo : OT) (mn : NT) (mg : GT) (mf : AR) (mt : TT) (mz : AR) (ml : LT) (mi : IT) (x1 : Int32) {res : Int32 × AR × AR} (hM : M_X9_least mb mf mz x1 = some res) : CTi l (dC, dI) [(cI, .int), (cC, .char), (cZ, .boolean)] sa yX9_least wsX9_least (rmd 7) [.ref (ad 0), .int x1] (wM cI cZ ad mb mo mn mg mf mt mz ml mi) (fun (uu : AR × AR) => (wM cI cZ ad mb mo mn mg uu.1 mt uu.2 ml mi)) res := by
  refine CTi.enter (own := RX9) (cc := cX9_least) (maxL := 3) (ret := (some .int)) (by decide) rfl rfl (Nat.le_of_ble_eq_true rfl) ?_
  intro pr e s m below meth c A F hr hlk hP hS ls hl
  obtain ⟨⟨hx, hb, hml, hown, hts⟩, hK, hDD, hA, hKC⟩ := id F
  have hl : lv_has ls 3 [(0, .ref (ad 0)), (1, .int x1)] := hl
  have hP : va_P (dC, dI) vwCl (wM cI cZ ad mb mo mn mg mf mt mz ml mi) s.heap := hP
  unfold M_X9_least at hM
  refine lv_iload_n hx hb dX9_least_0 rfl (lv_at hl 1 rfl) ?_
  refine lv_i2l (v := x1.toInt64) hx hb dX9_least_1 rfl ?_
  refine lv_lconst (v := 0) hx hb dX9_least_2 (by decide) ?_
  refine lv_lconst (v := 1) hx hb dX9_least_3 (by decide) ?_
  obtain ⟨z4, hcr, hM⟩ := ob_s hM
  refine res_i0 F hP hS rfl [] rfl rfl (runS_of (n := 3) (As := [.long x1.toInt64, .long (0 : Int64), .long (1 : Int64)]) (rest := []) F hP hS rfl [] rfl rfl (c_X9_in l dC dI cI cC cZ sa x1.toInt64 (0 : Int64) (1 : Int64) hcr _) gX9_least_X9_in rfl (by decide +kernel) ⟨Nat.le_of_ble_eq_true rfl, Nat.le_of_ble_eq_true rfl⟩ rfl hl.1 rfl (Nat.le_of_ble_eq_true rfl) dX9_least_4 ⟨Nat.zero_le _, Nat.zero_le _⟩) (fun H locs hP hS => ?_)
  refine lv_if_ne (tgt := 13) hx hb dX9_least_7 (by decide) (fun hc => ?_) (fun hc => ?_)
  · have hM := if_nn hc hM
    refine lv_aload_n hx hb dX9_least_13 rfl (lv_at hl 0 rfl) ?_
    refine lv_aload_n hx hb dX9_least_14 rfl (lv_at hl 0 rfl) ?_
    refine g_get (ci := 9) (C := RX9) (T := TX9) (N := 32) (v := .int mb.2.2.2.1) F hP 0 rfl rfl inX9_least_X9 4 (by decide) (List.mem_of_getElem? (i := 1) rfl) rfl dX9_least_15 ?_
    refine lv_aload_n hx hb dX9_least_18 rfl (lv_at hl 0 rfl) ?_
    obtain ⟨z19, hcr, hM⟩ := ob_s hM
    refine res_i0 F hP hS rfl [0, 1, 2, 3, 4, 5, 6, 7, 8, 9, 10, 11, 12] rfl rfl (runV_of (n := 0) (As := []) (rest := [.int mb.2.2.2.1, .ref (ad 0)]) F hP hS rfl [0, 1, 2, 3, 4, 5, 6, 7, 8, 9, 10, 11, 12] rfl rfl (c_X9_floor l dC dI cI cC cZ sa ad mb mo mn mg mf mt mz ml mi hcr _) gX9_least_X9_floor rfl (by decide +kernel) ⟨Nat.le_of_ble_eq_true rfl, Nat.le_of_ble_eq_true rfl⟩ 0 9 rfl rfl rfl hl.1 rfl (Nat.le_of_ble_eq_true rfl) dX9_least_19 ⟨Nat.zero_le _, Nat.zero_le _⟩) (fun H locs hP hS => ?_)
    obtain ⟨z22, hcr, hM⟩ := ob_s hM
    refine res_v (ws' := (wM cI cZ ad mb mo mn mg z22 mt mz ml mi)) F hP hS rfl [0, 1, 2, 3, 4, 5, 6, 7, 8, 9, 10, 11, 12] rfl rfl rfl (runV_of (n := 2) (As := [.int mb.2.2.2.1, .int z19]) (rest := []) F hP hS rfl [0, 1, 2, 3, 4, 5, 6, 7, 8, 9, 10, 11, 12] rfl rfl (c_X9_findFar l dC dI cI cC cZ sa ad mb mo mn mg mf mt mz ml mi mb.2.2.2.1 z19 hcr _) gX9_least_X9_findFar rfl (by decide +kernel) ⟨Nat.le_of_ble_eq_true rfl, Nat.le_of_ble_eq_true rfl⟩ 0 9 rfl rfl rfl hl.1 rfl (Nat.le_of_ble_eq_true rfl) dX9_least_22 ⟨Nat.zero_le _, Nat.zero_le _⟩) rfl (fun H locs hP hS => ?_)
    refine lv_aload_n hx hb dX9_least_25 rfl (lv_at hl 0 rfl) ?_
    refine g_get (ci := 9) (C := RX9) (T := TX9) (N := 32) (v := .ref (ad 6)) F hP 0 rfl rfl inX9_least_X9 22 (by decide) (List.mem_of_getElem? (i := 2) rfl) rfl dX9_least_26 ?_
    refine lv_aload_n hx hb dX9_least_29 rfl (lv_at hl 0 rfl) ?_
    refine g_get (ci := 9) (C := RX9) (T := TX9) (N := 32) (v := .int mb.2.2.1) F hP 0 rfl rfl inX9_least_X9 3 (by decide) (List.mem_of_getElem? (i := 3) rfl) rfl dX9_least_30 ?_
    obtain ⟨hin, hM⟩ := if_ok hM
    refine va_iald hx hb hK hP 6 0 rfl rfl hin dX9_least_33 ?_
    refine lv_istore_n (lv' := [(2, .int (z22 mb.2.2.1.toNatClampNeg)), (0, .ref (ad 0)), (1, .int x1)]) hx hb dX9_least_34 rfl hl (by decide) rfl (fun ls hl => ?_)
    refine lv_iload_n hx hb dX9_least_35 rfl (lv_at hl 0 rfl) ?_
    refine lv_sipush (v := 1000) hx hb dX9_least_36 (by decide) ?_
    refine lv_icmp_ne (tgt := 45) hx hb dX9_least_39 (by decide) (fun hc => ?_) (fun hc => ?_)
    · have hM := if_nn hc hM
      refine lv_iload_n hx hb dX9_least_45 rfl (lv_at hl 2 rfl) ?_
      refine lv_iconst (v := 1) hx hb dX9_least_46 (by decide) ?_
      refine lv_icmp_ne (tgt := 56) hx hb dX9_least_47 (by decide) (fun hc => ?_) (fun hc => ?_)
      · have hM := if_nn hc hM
        refine lv_aload_n hx hb dX9_least_56 rfl (lv_at hl 1 rfl) ?_
        refine lv_aload_n hx hb dX9_least_57 rfl (lv_at hl 1 rfl) ?_
        refine g_get (ci := 9) (C := RX9) (T := TX9) (N := 32) (v := .int mb.2.2.1) F hP 0 rfl rfl inX9_least_X9 3 (by decide) (List.mem_of_getElem? (i := 3) rfl) rfl dX9_least_58 ?_
        refine lv_aload_n hx hb dX9_least_61 rfl (lv_at hl 1 rfl) ?_
        refine g_get (ci := 9) (C := RX9) (T := TX9) (N := 32) (v := .int mb.2.2.2.1) F hP 0 rfl rfl inX9_least_X9 4 (by decide) (List.mem_of_getElem? (i := 1) rfl) rfl dX9_least_62 ?_
        refine lv_iconst (v := 1) hx hb dX9_least_65 (by decide) ?_
        obtain ⟨z66, hcr, hM⟩ := ob_s hM
        refine res_i (ws' := (wM cI cZ ad mb mo mn mg z66.2.1 mt z66.2.2 ml mi)) F hP hS rfl [0, 1, 2, 3, 4, 5, 6, 7, 8, 9, 10, 11, 12] rfl rfl rfl (runV_of (n := 3) (As := [.int mb.2.2.1, .int mb.2.2.2.1, .int (1 : Int32)]) (rest := []) F hP hS rfl [0, 1, 2, 3, 4, 5, 6, 7, 8, 9, 10, 11, 12] rfl rfl (c_X9_fewestShown l dC dI cI cC cZ sa ad mb mo mn mg z22 mt mz ml mi mb.2.2.1 mb.2.2.2.1 (1 : Int32) hcr _) gX9_least_X9_fewestShown rfl (by decide +kernel) ⟨Nat.le_of_ble_eq_true rfl, Nat.le_of_ble_eq_true rfl⟩ 0 9 rfl rfl rfl hl.1 rfl (Nat.le_of_ble_eq_true rfl) dX9_least_66 ⟨Nat.zero_le _, Nat.zero_le _⟩) rfl (fun H locs hP hS => ?_)
        refine lv_aload_n hx hb dX9_least_69 rfl (lv_at hl 1 rfl) ?_
        refine lv_aload_n hx hb dX9_least_70 rfl (lv_at hl 1 rfl) ?_
        refine g_get (ci := 9) (C := RX9) (T := TX9) (N := 32) (v := .int mb.2.2.2.1) F hP 0 rfl rfl inX9_least_X9 4 (by decide) (List.mem_of_getElem? (i := 1) rfl) rfl dX9_least_71 ?_
        refine lv_aload_n hx hb dX9_least_74 rfl (lv_at hl 1 rfl) ?_
        refine g_get (ci := 9) (C := RX9) (T := TX9) (N := 32) (v := .int mb.2.2.1) F hP 0 rfl rfl inX9_least_X9 3 (by decide) (List.mem_of_getElem? (i := 3) rfl) rfl dX9_least_75 ?_
        refine lv_iconst (v := 0) hx hb dX9_least_78 (by decide) ?_
        obtain ⟨z79, hcr, hM⟩ := ob_s hM
        refine res_i (ws' := (wM cI cZ ad mb mo mn mg z79.2.1 mt z79.2.2 ml mi)) F hP hS rfl [0, 1, 2, 3, 4, 5, 6, 7, 8, 9, 10, 11, 12] rfl rfl rfl (runV_of (n := 3) (As := [.int mb.2.2.2.1, .int mb.2.2.1, .int (0 : Int32)]) (rest := [.int z66.1]) F hP hS rfl [0, 1, 2, 3, 4, 5, 6, 7, 8, 9, 10, 11, 12] rfl rfl (c_X9_fewestShown l dC dI cI cC cZ sa ad mb mo mn mg z66.2.1 mt z66.2.2 ml mi mb.2.2.2.1 mb.2.2.1 (0 : Int32) hcr _) gX9_least_X9_fewestShown rfl (by decide +kernel) ⟨Nat.le_of_ble_eq_true rfl, Nat.le_of_ble_eq_true rfl⟩ 0 9 rfl rfl rfl hl.1 rfl (Nat.le_of_ble_eq_true rfl) dX9_least_79 ⟨Nat.zero_le _, Nat.zero_le _⟩) rfl (fun H locs hP hS => ?_)
        refine lv_iadd hx hb dX9_least_82 ?_
        exact ret_i hx hb hr hlk dX9_least_83 hM hP hS
      · have hM := if_pp hc hM
        refine lv_iconst (v := 2) hx hb dX9_least_50 (by decide) ?_
        refine lv_iload_n hx hb dX9_least_51 rfl (lv_at hl 0 rfl) ?_
        refine lv_imul hx hb dX9_least_52 ?_
        refine lv_goto (tgt := 83) hx hb dX9_least_53 (by decide) ?_
        exact ret_i hx hb hr hlk dX9_least_83 hM hP hS
    · have hM := if_pp hc hM
      refine lv_bipush (v := -6) hx hb dX9_least_42 (by decide) ?_
      exact ret_i hx hb hr hlk dX9_least_44 hM hP hS
  · have hM := if_pp hc hM
    refine lv_bipush (v := -2) hx hb dX9_least_10 (by decide) ?_
    exact ret_i hx hb hr hlk dX9_least_12 hM hP hS
set_option maxHeartbeats 4000000 in
set_option maxRecDepth 100000 in
theorem c_X9_lowest (l : Launch) (dC : Nat → ClassId) (dI : Nat → Nat → Nat) (cI cC cZ : ClassId) (sa : Nat → Nat)  (x1 : Int64) (x2 : Int64) (x3 : Int32) {res : Int64} (hM : M_X9_lowest x1 x2 x3 = some res) : CTl l (dC, dI) [(cI, .int), (cC, .char), (cZ, .boolean)] sa yX9_lowest wsX9_lowest (rmd 1) [.long x1, .long x2, .int x3] ([] : va_W) (fun (_ : Unit) => ([] : va_W)) (res, ()) := by
  refine CTl.enter (own := RX9) (cc := cX9_lowest) (maxL := 11) (ret := (some .long)) (by decide) rfl rfl (Nat.le_of_ble_eq_true rfl) ?_
  intro pr e s m below meth c A F hr hlk hP hS ls hl
  obtain ⟨⟨hx, hb, hml, hown, hts⟩, hK, hDD, hA, hKC⟩ := id F
  have hl : lv_has ls 11 [(0, .long x1), (2, .long x2), (4, .int x3)] := hl
  have hP : va_P (dC, dI) vwCl ([] : va_W) s.heap := hP
  unfold M_X9_lowest at hM
  refine kloop (α := Int64 × Int64) (res := res) (fun k a => M_X9_lowest_6 x1 x2 x3 k a) (fun rec a => M_X9_lowest_6b x1 x2 x3 rec a) (fun _ => rfl) (fun _ _ => rfl) F (fun a => ([] : va_W)) (fun a => [(0, .long x1), (2, .long x2), (4, .int x3), (5, .long a.1), (7, .long a.2)]) (fun a => []) 6 ?_ (fun j6 => ?_)
  · intro rc6 ih6 a6 H locs ls hP hS hl hM
    unfold M_X9_lowest_6b at hM
    refine lv_lload hx hb dX9_lowest_6 (lv_at hl 4 rfl) ?_
    refine lv_lconst (v := 0) hx hb dX9_lowest_8 (by decide) ?_
    refine W.lcmp hx hb dX9_lowest_9 ?_
    refine lv_if_eq (tgt := 31) hx hb dX9_lowest_10 (by decide) (fun hc => ?_) (fun hc => ?_)
    · have hM := if_pp hc hM
      refine lv_iload hx hb dX9_lowest_31 (lv_at hl 2 rfl) ?_
      refine lv_if_ne (tgt := 43) hx hb dX9_lowest_33 (by decide) (fun hc => ?_) (fun hc => ?_)
      · have hM := if_nn hc hM
        refine lv_lload_n hx hb dX9_lowest_43 rfl (lv_at hl 1 rfl) ?_
        refine lv_lload hx hb dX9_lowest_44 (lv_at hl 3 rfl) ?_
        obtain ⟨hne, hM⟩ := if_ok hM
        refine lv_ldiv hx hb dX9_lowest_46 hne ?_
        exact ret_l hx hb hr hlk dX9_lowest_47 (some_u hM) hP hS
      · have hM := if_pp hc hM
        refine lv_lload_n hx hb dX9_lowest_36 rfl (lv_at hl 0 rfl) ?_
        refine lv_lload hx hb dX9_lowest_37 (lv_at hl 3 rfl) ?_
        obtain ⟨hne, hM⟩ := if_ok hM
        refine lv_ldiv hx hb dX9_lowest_39 hne ?_
        refine lv_goto (tgt := 47) hx hb dX9_lowest_40 (by decide) ?_
        exact ret_l hx hb hr hlk dX9_lowest_47 (some_u hM) hP hS
    · have hM := if_nn hc hM
      refine lv_lload hx hb dX9_lowest_13 (lv_at hl 3 rfl) ?_
      refine lv_lload hx hb dX9_lowest_15 (lv_at hl 4 rfl) ?_
      obtain ⟨hne, hM⟩ := if_ok hM
      refine lv_lrem hx hb dX9_lowest_17 hne ?_
      refine lv_lstore (lv' := [(9, .long (a6.1 - a6.1 / a6.2 * a6.2)), (0, .long x1), (2, .long x2), (4, .int x3), (5, .long a6.1), (7, .long a6.2)]) hx hb dX9_lowest_18 hl (by decide) rfl (fun ls hl => ?_)
      refine lv_lload hx hb dX9_lowest_20 (lv_at hl 5 rfl) ?_
      refine lv_lstore (lv' := [(5, .long a6.2), (9, .long (a6.1 - a6.1 / a6.2 * a6.2)), (0, .long x1), (2, .long x2), (4, .int x3), (7, .long a6.2)]) hx hb dX9_lowest_22 hl (by decide) rfl (fun ls hl => ?_)
      refine lv_lload hx hb dX9_lowest_24 (lv_at hl 1 rfl) ?_
      refine lv_lstore (lv' := [(7, .long (a6.1 - a6.1 / a6.2 * a6.2)), (5, .long a6.2), (9, .long (a6.1 - a6.1 / a6.2 * a6.2)), (0, .long x1), (2, .long x2), (4, .int x3)]) hx hb dX9_lowest_26 hl (by decide) rfl (fun ls hl => ?_)
      refine lv_goto (tgt := 6) hx hb dX9_lowest_28 (by decide) ?_
      exact ih6 (a6.2, (a6.1 - a6.1 / a6.2 * a6.2)) _ _ _ hP hS (lv_sub hl [3, 4, 5, 1, 0] rfl) hM
  refine lv_lload_n hx hb dX9_lowest_0 rfl (lv_at hl 1 rfl) ?_
  refine lv_lstore (lv' := [(5, .long x2), (0, .long x1), (2, .long x2), (4, .int x3)]) hx hb dX9_lowest_1 hl (by decide) rfl (fun ls hl => ?_)
  refine lv_lload_n hx hb dX9_lowest_3 rfl (lv_at hl 1 rfl) ?_
  refine lv_lstore (lv' := [(7, .long x1), (5, .long x2), (0, .long x1), (2, .long x2), (4, .int x3)]) hx hb dX9_lowest_4 hl (by decide) rfl (fun ls hl => ?_)
  exact j6 200 (x2, x1) _ _ _ hP hS (lv_sub hl [2, 3, 4, 1, 0] rfl) hM
theorem inX9_meet_X9 : ∀ w ∈ wsX90, w ∈ wsX9_meet := fun w h => List.mem_cons_of_mem _ (List.mem_append_right _ h)
set_option maxHeartbeats 4000000 in
set_option maxRecDepth 100000 in
theorem c_X9_meet (l : Launch) (dC : Nat → ClassId) (dI : Nat → Nat → Nat) (cI cC cZ : ClassId) (sa : Nat → Nat) (ad : Nat → Nat) (mb : BT) (mo : OT) (mn : NT) (mg : GT) (mf : AR) (mt : TT) (mz : AR) (ml : LT) (mi : IT) (x1 : Int32) (x2 : Int32) {res : Int32 × NT × GT} (hM : M_X9_meet mb mo mn mg x1 x2 = some res) : CTi l (dC, dI) [(cI, .int), (cC, .char), (cZ, .boolean)] sa yX9_meet wsX9_meet (rmd 9) [.ref (ad 0), .int x1, .int x2] (wM cI cZ ad mb mo mn mg mf mt mz ml mi) (fun (uu : NT × GT) => (wM cI cZ ad mb mo uu.1 uu.2 mf mt mz ml mi)) res := by
  refine CTi.enter (own := RX9) (cc := cX9_meet) (maxL := 10) (ret := (some .int)) (by decide) rfl rfl (Nat.le_of_ble_eq_true rfl) ?_
  intro pr e s m below meth c A F hr hlk hP hS ls hl
  obtain ⟨⟨hx, hb, hml, hown, hts⟩, hK, hDD, hA, hKC⟩ := id F
  have hl : lv_has ls 10 [(0, .ref (ad 0)), (1, .int x1), (2, .int x2)] := hl
  have hP : va_P (dC, dI) vwCl (wM cI cZ ad mb mo mn mg mf mt mz ml mi) s.heap := hP
  unfold M_X9_meet at hM
  refine kloop (α := NT × GT × Int32 × Int32) (res := res) (fun k a => M_X9_meet_73 mb mo x1 x2 k a) (fun rec a => M_X9_meet_73b mb mo x1 x2 rec a) (fun _ => rfl) (fun _ _ => rfl) F (fun a => (wM cI cZ ad mb mo a.1 a.2.1 mf mt mz ml mi)) (fun a => [(0, .ref (ad 0)), (1, .int x1), (2, .int x2), (4, .int a.2.2.1), (5, .int a.2.2.2)]) (fun a => []) 73 ?_ (fun j73 => ?_)
  · intro rc73 ih73 a73 H locs ls hP hS hl hM
    unfold M_X9_meet_73b at hM
    refine kblk (α := NT × GT × Int32 × Int32) (res := res) (fun a => M_X9_meet_191 mb mo x1 x2 rc73 a) F (fun a => (wM cI cZ ad mb mo a.1 a.2.1 mf mt mz ml mi)) (fun a => [(0, .ref (ad 0)), (1, .int x1), (2, .int x2), (4, .int a.2.2.1), (5, .int a.2.2.2)]) (fun a => []) 191 ?_ (fun j191 => ?_)
    · intro a191 H locs ls hP hS hl hM
      unfold M_X9_meet_191 at hM
      refine lv_iinc (v := (a191.2.2.2 + (1 : Int32))) (lv' := [(5, .int (a191.2.2.2 + (1 : Int32))), (0, .ref (ad 0)), (1, .int x1), (2, .int x2), (4, .int a191.2.2.1)]) hx hb dX9_meet_191 hl (k := 4) rfl rfl (by decide) rfl (fun ls hl => ?_)
      refine lv_goto (tgt := 73) hx hb dX9_meet_194 (by decide) ?_
      exact ih73 (a191.1, a191.2.1, a191.2.2.1, (a191.2.2.2 + (1 : Int32))) _ _ _ hP hS (lv_sub hl [1, 2, 3, 4, 0] rfl) hM
    refine kblk (α := NT × GT × Int32 × Int32 × Int32 × Int32) (res := res) (fun a => M_X9_meet_161 mb mo x1 x2 rc73 a) F (fun a => (wM cI cZ ad mb mo a.1 a.2.1 mf mt mz ml mi)) (fun a => [(0, .ref (ad 0)), (1, .int x1), (2, .int x2), (5, .int a.2.2.1), (6, .int a.2.2.2.1), (7, .int a.2.2.2.2.1)]) (fun a => [.int a.2.2.2.2.2]) 161 ?_ (fun j161 => ?_)
    · intro a161 H locs ls hP hS hl hM
      unfold M_X9_meet_161 at hM
      refine lv_istore (lv' := [(4, .int a161.2.2.2.2.2), (0, .ref (ad 0)), (1, .int x1), (2, .int x2), (5, .int a161.2.2.1), (6, .int a161.2.2.2.1), (7, .int a161.2.2.2.2.1)]) hx hb dX9_meet_161 hl (by decide) rfl (fun ls hl => ?_)
      refine lv_aload_n hx hb dX9_meet_163 rfl (lv_at hl 1 rfl) ?_
      refine g_get (ci := 9) (C := RX9) (T := TX9) (N := 32) (v := .int a161.1.1) F hP 0 rfl rfl inX9_meet_X9 12 (by decide) (List.mem_of_getElem? (i := 4) rfl) rfl dX9_meet_164 ?_
      refine lv_iload hx hb dX9_meet_167 (lv_at hl 0 rfl) ?_
      refine lv_icmp_eq (tgt := 188) hx hb dX9_meet_169 (by decide) (fun hc => ?_) (fun hc => ?_)
      · have hM := if_pp hc hM
        refine lv_iload hx hb dX9_meet_188 (lv_at hl 4 rfl) ?_
        exact ret_i hx hb hr hlk dX9_meet_190 hM hP hS
      · have hM := if_nn hc hM
        refine lv_aload_n hx hb dX9_meet_172 rfl (lv_at hl 1 rfl) ?_
        refine g_get (ci := 9) (C := RX9) (T := TX9) (N := 32) (v := .int a161.1.1) F hP 0 rfl rfl inX9_meet_X9 12 (by decide) (List.mem_of_getElem? (i := 4) rfl) rfl dX9_meet_173 ?_
        refine lv_iload hx hb dX9_meet_176 (lv_at hl 6 rfl) ?_
        refine lv_icmp_ne (tgt := 191) hx hb dX9_meet_178 (by decide) (fun hc => ?_) (fun hc => ?_)
        · have hM := if_nn hc hM
          exact j191 (a161.1, a161.2.1, a161.2.2.2.2.2, a161.2.2.1) _ _ _ hP hS (lv_sub hl [1, 2, 3, 0, 4] rfl) hM
        · have hM := if_pp hc hM
          refine lv_iload hx hb dX9_meet_181 (lv_at hl 0 rfl) ?_
          refine lv_iload hx hb dX9_meet_183 (lv_at hl 5 rfl) ?_
          refine lv_icmp_ne (tgt := 191) hx hb dX9_meet_185 (by decide) (fun hc => ?_) (fun hc => ?_)
          · have hM := if_nn hc hM
            exact j191 (a161.1, a161.2.1, a161.2.2.2.2.2, a161.2.2.1) _ _ _ hP hS (lv_sub hl [1, 2, 3, 0, 4] rfl) hM
          · have hM := if_pp hc hM
            refine lv_iload hx hb dX9_meet_188 (lv_at hl 4 rfl) ?_
            exact ret_i hx hb hr hlk dX9_meet_190 hM hP hS
    refine kblk (α := NT × GT × Int32 × Int32 × Int32 × Int32 × Int32) (res := res) (fun a => M_X9_meet_147 mb mo x1 x2 rc73 a) F (fun a => (wM cI cZ ad mb mo a.1 a.2.1 mf mt mz ml mi)) (fun a => [(0, .ref (ad 0)), (1, .int x1), (2, .int x2), (4, .int a.2.2.1), (5, .int a.2.2.2.1), (6, .int a.2.2.2.2.1), (7, .int a.2.2.2.2.2.1)]) (fun a => [.int a.2.2.2.2.2.2]) 147 ?_ (fun j147 => ?_)
    · intro a147 H locs ls hP hS hl hM
      unfold M_X9_meet_147 at hM
      refine lv_istore (lv' := [(9, .int a147.2.2.2.2.2.2), (0, .ref (ad 0)), (1, .int x1), (2, .int x2), (4, .int a147.2.2.1), (5, .int a147.2.2.2.1), (6, .int a147.2.2.2.2.1), (7, .int a147.2.2.2.2.2.1)]) hx hb dX9_meet_147 hl (by decide) rfl (fun ls hl => ?_)
      refine lv_iload hx hb dX9_meet_149 (lv_at hl 0 rfl) ?_
      refine lv_if_lt (tgt := 159) hx hb dX9_meet_151 (by decide) (fun hc => ?_) (fun hc => ?_)
      · have hM := if_pp hc hM
        refine lv_iload hx hb dX9_meet_159 (lv_at hl 4 rfl) ?_
        exact j161 (a147.1, a147.2.1, a147.2.2.2.1, a147.2.2.2.2.1, a147.2.2.2.2.2.1, a147.2.2.1) _ _ _ hP hS (lv_sub hl [1, 2, 3, 5, 6, 7] rfl) hM
      · have hM := if_nn hc hM
        refine lv_iload hx hb dX9_meet_154 (lv_at hl 0 rfl) ?_
        refine lv_goto (tgt := 161) hx hb dX9_meet_156 (by decide) ?_
        exact j161 (a147.1, a147.2.1, a147.2.2.2.1, a147.2.2.2.2.1, a147.2.2.2.2.2.1, a147.2.2.2.2.2.2) _ _ _ hP hS (lv_sub hl [1, 2, 3, 5, 6, 7] rfl) hM
    refine lv_iload hx hb dX9_meet_73 (lv_at hl 4 rfl) ?_
    refine lv_aload_n hx hb dX9_meet_75 rfl (lv_at hl 0 rfl) ?_
    refine g_get (ci := 9) (C := RX9) (T := TX9) (N := 32) (v := .int mo.1) F hP 0 rfl rfl inX9_meet_X9 11 (by decide) (List.mem_of_getElem? (i := 3) rfl) rfl dX9_meet_76 ?_
    refine lv_icmp_ge (tgt := 197) hx hb dX9_meet_79 (by decide) (fun hc => ?_) (fun hc => ?_)
    · have hM := if_pp hc hM
      refine lv_bipush (v := -6) hx hb dX9_meet_197 (by decide) ?_
      exact ret_i hx hb hr hlk dX9_meet_199 hM hP hS
    · have hM := if_nn hc hM
      refine lv_iload hx hb dX9_meet_82 (lv_at hl 4 rfl) ?_
      refine lv_iload_n hx hb dX9_meet_84 rfl (lv_at hl 2 rfl) ?_
      refine lv_icmp_ge (tgt := 197) hx hb dX9_meet_85 (by decide) (fun hc => ?_) (fun hc => ?_)
      · have hM := if_pp hc hM
        refine lv_bipush (v := -6) hx hb dX9_meet_197 (by decide) ?_
        exact ret_i hx hb hr hlk dX9_meet_199 hM hP hS
      · have hM := if_nn hc hM
        refine lv_aload_n hx hb dX9_meet_88 rfl (lv_at hl 0 rfl) ?_
        refine g_get (ci := 9) (C := RX9) (T := TX9) (N := 32) (v := .int a73.1.1) F hP 0 rfl rfl inX9_meet_X9 12 (by decide) (List.mem_of_getElem? (i := 4) rfl) rfl dX9_meet_89 ?_
        refine lv_istore (lv' := [(6, .int a73.1.1), (0, .ref (ad 0)), (1, .int x1), (2, .int x2), (4, .int a73.2.2.1), (5, .int a73.2.2.2)]) hx hb dX9_meet_92 hl (by decide) rfl (fun ls hl => ?_)
        refine lv_iload hx hb dX9_meet_94 (lv_at hl 4 rfl) ?_
        refine lv_istore (lv' := [(7, .int a73.2.2.1), (6, .int a73.1.1), (0, .ref (ad 0)), (1, .int x1), (2, .int x2), (4, .int a73.2.2.1), (5, .int a73.2.2.2)]) hx hb dX9_meet_96 hl (by decide) rfl (fun ls hl => ?_)
        refine lv_aload_n hx hb dX9_meet_98 rfl (lv_at hl 2 rfl) ?_
        refine lv_aload_n hx hb dX9_meet_99 rfl (lv_at hl 2 rfl) ?_
        refine g_get (ci := 9) (C := RX9) (T := TX9) (N := 32) (v := .ref (ad 5)) F hP 0 rfl rfl inX9_meet_X9 10 (by decide) (List.mem_of_getElem? (i := 5) rfl) rfl dX9_meet_100 ?_
        refine lv_iload hx hb dX9_meet_103 (lv_at hl 6 rfl) ?_
        obtain ⟨hin, hM⟩ := if_ok hM
        refine va_iald hx hb hK hP 5 0 rfl rfl hin dX9_meet_105 ?_
        obtain ⟨z106, hcr, hM⟩ := ob_s hM
        refine res_i0 F hP hS rfl [] rfl rfl (runS_of (n := 1) (As := [.int (mo.2 a73.2.2.2.toNatClampNeg)]) (rest := [.ref (ad 0)]) F hP hS rfl [] rfl rfl (c_X9_wayOf l dC dI cI cC cZ sa (mo.2 a73.2.2.2.toNatClampNeg) hcr _) gX9_meet_X9_wayOf rfl (by decide +kernel) ⟨Nat.le_of_ble_eq_true rfl, Nat.le_of_ble_eq_true rfl⟩ rfl hl.1 rfl (Nat.le_of_ble_eq_true rfl) dX9_meet_106 ⟨Nat.zero_le _, Nat.zero_le _⟩) (fun H locs hP hS => ?_)
        obtain ⟨z109, hcr, hM⟩ := ob_s hM
        refine res_i (ws' := (wM cI cZ ad mb mo z109.2 a73.2.1 mf mt mz ml mi)) F hP hS rfl [0, 1, 2, 3, 4, 5, 6, 7, 8, 9, 10, 11, 12] rfl rfl rfl (runV_of (n := 1) (As := [.int z106]) (rest := []) F hP hS rfl [0, 1, 2, 3, 4, 5, 6, 7, 8, 9, 10, 11, 12] rfl rfl (c_X9_step l dC dI cI cC cZ sa ad mb mo a73.1 a73.2.1 mf mt mz ml mi z106 hcr _) gX9_meet_X9_step rfl (by decide +kernel) ⟨Nat.le_of_ble_eq_true rfl, Nat.le_of_ble_eq_true rfl⟩ 0 9 rfl rfl rfl hl.1 rfl (Nat.le_of_ble_eq_true rfl) dX9_meet_109 ⟨Nat.zero_le _, Nat.zero_le _⟩) rfl (fun H locs hP hS => ?_)
        refine lv_pop hx hb dX9_meet_112 rfl ?_
        refine lv_iload_n hx hb dX9_meet_113 rfl (lv_at hl 3 rfl) ?_
        refine lv_iload_n hx hb dX9_meet_114 rfl (lv_at hl 4 rfl) ?_
        refine lv_iconst (v := 1) hx hb dX9_meet_115 (by decide) ?_
        refine lv_isub hx hb dX9_meet_116 ?_
        refine lv_iload hx hb dX9_meet_117 (lv_at hl 6 rfl) ?_
        refine lv_isub hx hb dX9_meet_119 ?_
        obtain ⟨z120, hcr, hM⟩ := ob_s hM
        refine res_i0 F hP hS rfl [] rfl rfl (runS_of (n := 1) (As := [.int ((x2 - (1 : Int32)) - a73.2.2.2)]) (rest := [.int x1]) F hP hS rfl [] rfl rfl (c_X9_fives l dC dI cI cC cZ sa ((x2 - (1 : Int32)) - a73.2.2.2) hcr _) gX9_meet_X9_fives rfl (by decide +kernel) ⟨Nat.le_of_ble_eq_true rfl, Nat.le_of_ble_eq_true rfl⟩ rfl hl.1 rfl (Nat.le_of_ble_eq_true rfl) dX9_meet_120 ⟨Nat.zero_le _, Nat.zero_le _⟩) (fun H locs hP hS => ?_)
        obtain ⟨hne, hM⟩ := if_ok hM
        refine lv_idiv hx hb dX9_meet_123 hne ?_
        refine lv_iconst (v := 5) hx hb dX9_meet_124 (by decide) ?_
        obtain ⟨hne, hM⟩ := if_ok hM
        refine lv_irem hx hb dX9_meet_125 hne ?_
        refine lv_istore (lv' := [(8, .int ((x1 / z120) - (x1 / z120) / (5 : Int32) * (5 : Int32))), (7, .int a73.2.2.1), (6, .int a73.1.1), (0, .ref (ad 0)), (1, .int x1), (2, .int x2), (4, .int a73.2.2.1), (5, .int a73.2.2.2)]) hx hb dX9_meet_126 hl (by decide) rfl (fun ls hl => ?_)
        refine lv_iload hx hb dX9_meet_128 (lv_at hl 0 rfl) ?_
        refine lv_iconst (v := 4) hx hb dX9_meet_130 (by decide) ?_
        refine lv_icmp_ne (tgt := 139) hx hb dX9_meet_131 (by decide) (fun hc => ?_) (fun hc => ?_)
        · have hM := if_nn hc hM
          refine lv_aload_n hx hb dX9_meet_139 rfl (lv_at hl 3 rfl) ?_
          refine lv_iload hx hb dX9_meet_140 (lv_at hl 6 rfl) ?_
          refine lv_iload hx hb dX9_meet_142 (lv_at hl 0 rfl) ?_
          obtain ⟨z144, hcr, hM⟩ := ob_s hM
          refine res_i0 F hP hS rfl [0, 1, 2, 3, 4, 5, 6, 7, 8, 9, 10, 11, 12] rfl rfl (runV_of (n := 2) (As := [.int a73.2.2.1, .int ((x1 / z120) - (x1 / z120) / (5 : Int32) * (5 : Int32))]) (rest := []) F hP hS rfl [0, 1, 2, 3, 4, 5, 6, 7, 8, 9, 10, 11, 12] rfl rfl (c_X9_beyond l dC dI cI cC cZ sa ad mb mo z109.2 a73.2.1 mf mt mz ml mi a73.2.2.1 ((x1 / z120) - (x1 / z120) / (5 : Int32) * (5 : Int32)) hcr _) gX9_meet_X9_beyond rfl (by decide +kernel) ⟨Nat.le_of_ble_eq_true rfl, Nat.le_of_ble_eq_true rfl⟩ 0 9 rfl rfl rfl hl.1 rfl (Nat.le_of_ble_eq_true rfl) dX9_meet_144 ⟨Nat.zero_le _, Nat.zero_le _⟩) (fun H locs hP hS => ?_)
          exact j147 (z109.2, a73.2.1, a73.2.2.1, a73.2.2.2, a73.1.1, a73.2.2.1, z144) _ _ _ hP hS (lv_sub hl [3, 4, 5, 6, 7, 2, 1] rfl) hM
        · have hM := if_pp hc hM
          refine lv_iload hx hb dX9_meet_134 (lv_at hl 6 rfl) ?_
          refine lv_goto (tgt := 147) hx hb dX9_meet_136 (by decide) ?_
          exact j147 (z109.2, a73.2.1, a73.2.2.1, a73.2.2.2, a73.1.1, a73.2.2.1, a73.2.2.1) _ _ _ hP hS (lv_sub hl [3, 4, 5, 6, 7, 2, 1] rfl) hM
  refine kblk (α := NT × GT × Int32 × Int64 × Int64) (res := res) (fun a => M_X9_meet_32 mb mo x1 x2 a) F (fun a => (wM cI cZ ad mb mo a.1 a.2.1 mf mt mz ml mi)) (fun a => [(0, .ref (ad 0)), (1, .int x1), (2, .int x2)]) (fun a => [.int a.2.2.1, .long a.2.2.2.1, .long a.2.2.2.2]) 32 ?_ (fun j32 => ?_)
  · intro a32 H locs ls hP hS hl hM
    unfold M_X9_meet_32 at hM
    obtain ⟨z32, hcr, hM⟩ := ob_s hM
    refine res_i0 F hP hS rfl [] rfl rfl (runS_of (n := 1) (As := [.int a32.2.2.1]) (rest := [.long a32.2.2.2.1, .long a32.2.2.2.2]) F hP hS rfl [] rfl rfl (c_X9_fives l dC dI cI cC cZ sa a32.2.2.1 hcr _) gX9_meet_X9_fives rfl (by decide +kernel) ⟨Nat.le_of_ble_eq_true rfl, Nat.le_of_ble_eq_true rfl⟩ rfl hl.1 rfl (Nat.le_of_ble_eq_true rfl) dX9_meet_32 ⟨Nat.zero_le _, Nat.zero_le _⟩) (fun H locs hP hS => ?_)
    refine lv_iconst (v := 1) hx hb dX9_meet_35 (by decide) ?_
    refine lv_isub hx hb dX9_meet_36 ?_
    refine lv_i2l (v := (z32 - (1 : Int32)).toInt64) hx hb dX9_meet_37 rfl ?_
    obtain ⟨z38, hcr, hM⟩ := ob_s hM
    refine res_i0 F hP hS rfl [] rfl rfl (runS_of (n := 3) (As := [.long a32.2.2.2.2, .long a32.2.2.2.1, .long ((z32 - (1 : Int32)).toInt64)]) (rest := []) F hP hS rfl [] rfl rfl (c_X9_in l dC dI cI cC cZ sa a32.2.2.2.2 a32.2.2.2.1 ((z32 - (1 : Int32)).toInt64) hcr _) gX9_meet_X9_in rfl (by decide +kernel) ⟨Nat.le_of_ble_eq_true rfl, Nat.le_of_ble_eq_true rfl⟩ rfl hl.1 rfl (Nat.le_of_ble_eq_true rfl) dX9_meet_38 ⟨Nat.zero_le _, Nat.zero_le _⟩) (fun H locs hP hS => ?_)
    refine lv_if_ne (tgt := 47) hx hb dX9_meet_41 (by decide) (fun hc => ?_) (fun hc => ?_)
    · have hM := if_nn hc hM
      refine lv_aload_n hx hb dX9_meet_47 rfl (lv_at hl 0 rfl) ?_
      obtain ⟨z48, hcr, hM⟩ := ob_s hM
      refine res_i (ws' := (wM cI cZ ad mb mo z48.2.1 z48.2.2 mf mt mz ml mi)) F hP hS rfl [0, 1, 2, 3, 4, 5, 6, 7, 8, 9, 10, 11, 12] rfl rfl rfl (runV_of (n := 0) (As := []) (rest := []) F hP hS rfl [0, 1, 2, 3, 4, 5, 6, 7, 8, 9, 10, 11, 12] rfl rfl (c_X9_refusal l dC dI cI cC cZ sa ad mb mo a32.1 a32.2.1 mf mt mz ml mi hcr _) gX9_meet_X9_refusal rfl (by decide +kernel) ⟨Nat.le_of_ble_eq_true rfl, Nat.le_of_ble_eq_true rfl⟩ 0 9 rfl rfl rfl hl.1 rfl (Nat.le_of_ble_eq_true rfl) dX9_meet_48 ⟨Nat.zero_le _, Nat.zero_le _⟩) rfl (fun H locs hP hS => ?_)
      refine lv_istore_n (lv' := [(3, .int z48.1), (0, .ref (ad 0)), (1, .int x1), (2, .int x2)]) hx hb dX9_meet_51 rfl hl (by decide) rfl (fun ls hl => ?_)
      refine lv_iload_n hx hb dX9_meet_52 rfl (lv_at hl 0 rfl) ?_
      refine lv_bipush (v := -6) hx hb dX9_meet_53 (by decide) ?_
      refine lv_icmp_eq (tgt := 60) hx hb dX9_meet_55 (by decide) (fun hc => ?_) (fun hc => ?_)
      · have hM := if_pp hc hM
        refine lv_aload_n hx hb dX9_meet_60 rfl (lv_at hl 1 rfl) ?_
        obtain ⟨z61, hcr, hM⟩ := ob_s hM
        refine res_v (ws' := (wM cI cZ ad mb mo z61 z48.2.2 mf mt mz ml mi)) F hP hS rfl [0, 1, 2, 3, 4, 5, 6, 7, 8, 9, 10, 11, 12] rfl rfl rfl (runV_of (n := 0) (As := []) (rest := []) F hP hS rfl [0, 1, 2, 3, 4, 5, 6, 7, 8, 9, 10, 11, 12] rfl rfl (c_X9_begin l dC dI cI cC cZ sa ad mb mo z48.2.1 z48.2.2 mf mt mz ml mi hcr _) gX9_meet_X9_begin rfl (by decide +kernel) ⟨Nat.le_of_ble_eq_true rfl, Nat.le_of_ble_eq_true rfl⟩ 0 9 rfl rfl rfl hl.1 rfl (Nat.le_of_ble_eq_true rfl) dX9_meet_61 ⟨Nat.zero_le _, Nat.zero_le _⟩) rfl (fun H locs hP hS => ?_)
        refine lv_aload_n hx hb dX9_meet_64 rfl (lv_at hl 1 rfl) ?_
        refine g_get (ci := 9) (C := RX9) (T := TX9) (N := 32) (v := .int mb.2.2.2.1) F hP 0 rfl rfl inX9_meet_X9 4 (by decide) (List.mem_of_getElem? (i := 2) rfl) rfl dX9_meet_65 ?_
        refine lv_istore (lv' := [(4, .int mb.2.2.2.1), (3, .int z48.1), (0, .ref (ad 0)), (1, .int x1), (2, .int x2)]) hx hb dX9_meet_68 hl (by decide) rfl (fun ls hl => ?_)
        refine lv_iconst (v := 0) hx hb dX9_meet_70 (by decide) ?_
        refine lv_istore (lv' := [(5, .int (0 : Int32)), (4, .int mb.2.2.2.1), (3, .int z48.1), (0, .ref (ad 0)), (1, .int x1), (2, .int x2)]) hx hb dX9_meet_71 hl (by decide) rfl (fun ls hl => ?_)
        exact j73 200 (z61, z48.2.2, mb.2.2.2.1, (0 : Int32)) _ _ _ hP hS (lv_sub hl [3, 4, 5, 1, 0] rfl) hM
      · have hM := if_nn hc hM
        refine lv_iload_n hx hb dX9_meet_58 rfl (lv_at hl 0 rfl) ?_
        exact ret_i hx hb hr hlk dX9_meet_59 hM hP hS
    · have hM := if_pp hc hM
      refine lv_bipush (v := -2) hx hb dX9_meet_44 (by decide) ?_
      exact ret_i hx hb hr hlk dX9_meet_46 hM hP hS
  refine lv_iload_n hx hb dX9_meet_0 rfl (lv_at hl 2 rfl) ?_
  refine lv_i2l (v := x2.toInt64) hx hb dX9_meet_1 rfl ?_
  refine lv_lconst (v := 0) hx hb dX9_meet_2 (by decide) ?_
  refine lv_ldc2 (v := 8) hx hb hown (hts _ (List.mem_of_getElem? (i := 1) rfl)) dX9_meet_3 ?_
  obtain ⟨z6, hcr, hM⟩ := ob_s hM
  refine res_i0 F hP hS rfl [] rfl rfl (runS_of (n := 3) (As := [.long x2.toInt64, .long (0 : Int64), .long (8 : Int64)]) (rest := []) F hP hS rfl [] rfl rfl (c_X9_in l dC dI cI cC cZ sa x2.toInt64 (0 : Int64) (8 : Int64) hcr _) gX9_meet_X9_in rfl (by decide +kernel) ⟨Nat.le_of_ble_eq_true rfl, Nat.le_of_ble_eq_true rfl⟩ rfl hl.1 rfl (Nat.le_of_ble_eq_true rfl) dX9_meet_6 ⟨Nat.zero_le _, Nat.zero_le _⟩) (fun H locs hP hS => ?_)
  refine lv_if_eq (tgt := 44) hx hb dX9_meet_9 (by decide) (fun hc => ?_) (fun hc => ?_)
  · have hM := if_pp hc hM
    refine lv_bipush (v := -2) hx hb dX9_meet_44 (by decide) ?_
    exact ret_i hx hb hr hlk dX9_meet_46 hM hP hS
  · have hM := if_nn hc hM
    refine lv_iload_n hx hb dX9_meet_12 rfl (lv_at hl 1 rfl) ?_
    refine lv_i2l (v := x1.toInt64) hx hb dX9_meet_13 rfl ?_
    refine lv_lconst (v := 0) hx hb dX9_meet_14 (by decide) ?_
    refine lv_iload_n hx hb dX9_meet_15 rfl (lv_at hl 2 rfl) ?_
    refine lv_i2l (v := x2.toInt64) hx hb dX9_meet_16 rfl ?_
    refine lv_lconst (v := 0) hx hb dX9_meet_17 (by decide) ?_
    refine lv_ldc2 (v := 8) hx hb hown (hts _ (List.mem_of_getElem? (i := 1) rfl)) dX9_meet_18 ?_
    obtain ⟨z21, hcr, hM⟩ := ob_s hM
    refine res_i0 F hP hS rfl [] rfl rfl (runS_of (n := 3) (As := [.long x2.toInt64, .long (0 : Int64), .long (8 : Int64)]) (rest := [.long (0 : Int64), .long x1.toInt64]) F hP hS rfl [] rfl rfl (c_X9_in l dC dI cI cC cZ sa x2.toInt64 (0 : Int64) (8 : Int64) hcr _) gX9_meet_X9_in rfl (by decide +kernel) ⟨Nat.le_of_ble_eq_true rfl, Nat.le_of_ble_eq_true rfl⟩ rfl hl.1 rfl (Nat.le_of_ble_eq_true rfl) dX9_meet_21 ⟨Nat.zero_le _, Nat.zero_le _⟩) (fun H locs hP hS => ?_)
    refine lv_if_eq (tgt := 31) hx hb dX9_meet_24 (by decide) (fun hc => ?_) (fun hc => ?_)
    · have hM := if_pp hc hM
      refine lv_iconst (v := 0) hx hb dX9_meet_31 (by decide) ?_
      exact j32 (mn, mg, (0 : Int32), (0 : Int64), x1.toInt64) _ _ _ hP hS (lv_sub hl [0, 1, 2] rfl) hM
    · have hM := if_nn hc hM
      refine lv_iload_n hx hb dX9_meet_27 rfl (lv_at hl 2 rfl) ?_
      refine lv_goto (tgt := 32) hx hb dX9_meet_28 (by decide) ?_
      exact j32 (mn, mg, x2, (0 : Int64), x1.toInt64) _ _ _ hP hS (lv_sub hl [0, 1, 2] rfl) hM
theorem inX9_night_X9 : ∀ w ∈ wsX90, w ∈ wsX9_night := fun w h => List.mem_cons_of_mem _ (List.mem_append_right _ h)
set_option maxHeartbeats 4000000 in
set_option maxRecDepth 100000 in
theorem c_X9_night (l : Launch) (dC : Nat → ClassId) (dI : Nat → Nat → Nat) (cI cC cZ : ClassId) (sa : Nat → Nat) (ad : Nat → Nat) (mb : BT) (mo : OT) (mn : NT) (mg : GT) (mf : AR) (mt : TT) (mz : AR) (ml : LT) (mi : IT) (x1 : Int32) (x2 : Int32) (x3 : Int32) {res : Int32 × NT} (hM : M_X9_night mb mn x1 x2 x3 = some res) : CTi l (dC, dI) [(cI, .int), (cC, .char), (cZ, .boolean)] sa yX9_night wsX9_night (rmd 7) [.ref (ad 0), .int x1, .int x2, .int x3] (wM cI cZ ad mb mo mn mg mf mt mz ml mi) (fun (uu : NT) => (wM cI cZ ad mb mo uu mg mf mt mz ml mi)) res := by
  refine CTi.enter (own := RX9) (cc := cX9_night) (maxL := 7) (ret := (some .int)) (by decide) rfl rfl (Nat.le_of_ble_eq_true rfl) ?_
  intro pr e s m below meth c A F hr hlk hP hS ls hl
  obtain ⟨⟨hx, hb, hml, hown, hts⟩, hK, hDD, hA, hKC⟩ := id F
  have hl : lv_has ls 7 [(0, .ref (ad 0)), (1, .int x1), (2, .int x2), (3, .int x3)] := hl
  have hP : va_P (dC, dI) vwCl (wM cI cZ ad mb mo mn mg mf mt mz ml mi) s.heap := hP
  unfold M_X9_night at hM
  refine kloop (α := NT × Int32 × Int32 × Int32) (res := res) (fun k a => M_X9_night_52 mb x1 x2 x3 k a) (fun rec a => M_X9_night_52b mb x1 x2 x3 rec a) (fun _ => rfl) (fun _ _ => rfl) F (fun a => (wM cI cZ ad mb mo a.1 mg mf mt mz ml mi)) (fun a => [(0, .ref (ad 0)), (2, .int x2), (3, .int x3), (4, .int a.2.1), (5, .int a.2.2.1), (6, .int a.2.2.2)]) (fun a => []) 52 ?_ (fun j52 => ?_)
  · intro rc52 ih52 a52 H locs ls hP hS hl hM
    unfold M_X9_night_52b at hM
    refine kblk (α := NT × Int32 × Int32 × Int32 × Int32) (res := res) (fun a => M_X9_night_100 mb x1 x2 x3 rc52 a) F (fun a => (wM cI cZ ad mb mo a.1 mg mf mt mz ml mi)) (fun a => [(0, .ref (ad 0)), (2, .int x2), (3, .int x3), (4, .int a.2.1), (6, .int a.2.2.1)]) (fun a => [.int a.2.2.2.1, .int a.2.2.2.2]) 100 ?_ (fun j100 => ?_)
    · intro a100 H locs ls hP hS hl hM
      unfold M_X9_night_100 at hM
      refine lv_iadd hx hb dX9_night_100 ?_
      refine lv_istore (lv' := [(5, .int (a100.2.2.2.2 + a100.2.2.2.1)), (0, .ref (ad 0)), (2, .int x2), (3, .int x3), (4, .int a100.2.1), (6, .int a100.2.2.1)]) hx hb dX9_night_101 hl (by decide) rfl (fun ls hl => ?_)
      refine lv_iinc (v := (a100.2.2.1 + (1 : Int32))) (lv' := [(6, .int (a100.2.2.1 + (1 : Int32))), (5, .int (a100.2.2.2.2 + a100.2.2.2.1)), (0, .ref (ad 0)), (2, .int x2), (3, .int x3), (4, .int a100.2.1)]) hx hb dX9_night_103 hl (k := 5) rfl rfl (by decide) rfl (fun ls hl => ?_)
      refine lv_goto (tgt := 52) hx hb dX9_night_106 (by decide) ?_
      exact ih52 (a100.1, a100.2.1, (a100.2.2.2.2 + a100.2.2.2.1), (a100.2.2.1 + (1 : Int32))) _ _ _ hP hS (lv_sub hl [2, 3, 4, 5, 1, 0] rfl) hM
    refine lv_iload hx hb dX9_night_52 (lv_at hl 5 rfl) ?_
    refine lv_iload_n hx hb dX9_night_54 rfl (lv_at hl 1 rfl) ?_
    refine lv_icmp_ge (tgt := 109) hx hb dX9_night_55 (by decide) (fun hc => ?_) (fun hc => ?_)
    · have hM := if_pp hc hM
      refine lv_iload_n hx hb dX9_night_109 rfl (lv_at hl 2 rfl) ?_
      refine lv_if_ne (tgt := 118) hx hb dX9_night_110 (by decide) (fun hc => ?_) (fun hc => ?_)
      · have hM := if_nn hc hM
        refine lv_iload_n hx hb dX9_night_118 rfl (lv_at hl 2 rfl) ?_
        refine lv_iconst (v := 1) hx hb dX9_night_119 (by decide) ?_
        refine lv_icmp_ne (tgt := 130) hx hb dX9_night_120 (by decide) (fun hc => ?_) (fun hc => ?_)
        · have hM := if_nn hc hM
          refine lv_aload_n hx hb dX9_night_130 rfl (lv_at hl 0 rfl) ?_
          refine g_get (ci := 9) (C := RX9) (T := TX9) (N := 32) (v := .int a52.1.2.2.2) F hP 0 rfl rfl inX9_night_X9 15 (by decide) (List.mem_of_getElem? (i := 8) rfl) rfl dX9_night_131 ?_
          obtain ⟨z134, hcr, hM⟩ := ob_s hM
          refine res_i0 F hP hS rfl [] rfl rfl (runS_of (n := 1) (As := [.int a52.1.2.2.2]) (rest := []) F hP hS rfl [] rfl rfl (c_X9_ones l dC dI cI cC cZ sa a52.1.2.2.2 hcr _) gX9_night_X9_ones rfl (by decide +kernel) ⟨Nat.le_of_ble_eq_true rfl, Nat.le_of_ble_eq_true rfl⟩ rfl hl.1 rfl (Nat.le_of_ble_eq_true rfl) dX9_night_134 ⟨Nat.zero_le _, Nat.zero_le _⟩) (fun H locs hP hS => ?_)
          exact ret_i hx hb hr hlk dX9_night_137 hM hP hS
        · have hM := if_pp hc hM
          refine lv_aload_n hx hb dX9_night_123 rfl (lv_at hl 0 rfl) ?_
          refine g_get (ci := 9) (C := RX9) (T := TX9) (N := 32) (v := .int a52.1.1) F hP 0 rfl rfl inX9_night_X9 12 (by decide) (List.mem_of_getElem? (i := 7) rfl) rfl dX9_night_124 ?_
          refine lv_goto (tgt := 137) hx hb dX9_night_127 (by decide) ?_
          exact ret_i hx hb hr hlk dX9_night_137 hM hP hS
      · have hM := if_pp hc hM
        refine lv_iload hx hb dX9_night_113 (lv_at hl 4 rfl) ?_
        refine lv_goto (tgt := 137) hx hb dX9_night_115 (by decide) ?_
        exact ret_i hx hb hr hlk dX9_night_137 hM hP hS
    · have hM := if_nn hc hM
      refine lv_ldc2 (v := 75) hx hb hown (hts _ (List.mem_of_getElem? (i := 4) rfl)) dX9_night_58 ?_
      refine lv_iload hx hb dX9_night_61 (lv_at hl 3 rfl) ?_
      refine lv_i2l (v := a52.2.1.toInt64) hx hb dX9_night_63 rfl ?_
      refine lv_lmul hx hb dX9_night_64 ?_
      refine lv_ldc2 (v := 74) hx hb hown (hts _ (List.mem_of_getElem? (i := 5) rfl)) dX9_night_65 ?_
      refine lv_ladd hx hb dX9_night_68 ?_
      refine lv_ldc2 (v := 65537) hx hb hown (hts _ (List.mem_of_getElem? (i := 6) rfl)) dX9_night_69 ?_
      obtain ⟨hne, hM⟩ := if_ok hM
      refine lv_lrem hx hb dX9_night_72 hne ?_
      refine lv_l2i (v := ((((75 : Int64) * a52.2.1.toInt64) + (74 : Int64)) - (((75 : Int64) * a52.2.1.toInt64) + (74 : Int64)) / (65537 : Int64) * (65537 : Int64)).toInt32) hx hb dX9_night_73 rfl ?_
      refine lv_istore (lv' := [(4, .int (((((75 : Int64) * a52.2.1.toInt64) + (74 : Int64)) - (((75 : Int64) * a52.2.1.toInt64) + (74 : Int64)) / (65537 : Int64) * (65537 : Int64)).toInt32)), (0, .ref (ad 0)), (2, .int x2), (3, .int x3), (5, .int a52.2.2.1), (6, .int a52.2.2.2)]) hx hb dX9_night_74 hl (by decide) rfl (fun ls hl => ?_)
      refine lv_aload_n hx hb dX9_night_76 rfl (lv_at hl 1 rfl) ?_
      refine lv_iload hx hb dX9_night_77 (lv_at hl 0 rfl) ?_
      refine lv_iconst (v := 5) hx hb dX9_night_79 (by decide) ?_
      obtain ⟨hne, hM⟩ := if_ok hM
      refine lv_irem hx hb dX9_night_80 hne ?_
      obtain ⟨z81, hcr, hM⟩ := ob_s hM
      refine res_i (ws' := (wM cI cZ ad mb mo z81.2 mg mf mt mz ml mi)) F hP hS rfl [0, 1, 2, 3, 4, 5, 6, 7, 8, 9, 10, 11, 12] rfl rfl rfl (runV_of (n := 1) (As := [.int ((((((75 : Int64) * a52.2.1.toInt64) + (74 : Int64)) - (((75 : Int64) * a52.2.1.toInt64) + (74 : Int64)) / (65537 : Int64) * (65537 : Int64)).toInt32) - (((((75 : Int64) * a52.2.1.toInt64) + (74 : Int64)) - (((75 : Int64) * a52.2.1.toInt64) + (74 : Int64)) / (65537 : Int64) * (65537 : Int64)).toInt32) / (5 : Int32) * (5 : Int32))]) (rest := []) F hP hS rfl [0, 1, 2, 3, 4, 5, 6, 7, 8, 9, 10, 11, 12] rfl rfl (c_X9_step l dC dI cI cC cZ sa ad mb mo a52.1 mg mf mt mz ml mi ((((((75 : Int64) * a52.2.1.toInt64) + (74 : Int64)) - (((75 : Int64) * a52.2.1.toInt64) + (74 : Int64)) / (65537 : Int64) * (65537 : Int64)).toInt32) - (((((75 : Int64) * a52.2.1.toInt64) + (74 : Int64)) - (((75 : Int64) * a52.2.1.toInt64) + (74 : Int64)) / (65537 : Int64) * (65537 : Int64)).toInt32) / (5 : Int32) * (5 : Int32)) hcr _) gX9_night_X9_step rfl (by decide +kernel) ⟨Nat.le_of_ble_eq_true rfl, Nat.le_of_ble_eq_true rfl⟩ 0 9 rfl rfl rfl hl.1 rfl (Nat.le_of_ble_eq_true rfl) dX9_night_81 ⟨Nat.zero_le _, Nat.zero_le _⟩) rfl (fun H locs hP hS => ?_)
      refine lv_pop hx hb dX9_night_84 rfl ?_
      refine lv_iload hx hb dX9_night_85 (lv_at hl 4 rfl) ?_
      refine lv_aload_n hx hb dX9_night_87 rfl (lv_at hl 1 rfl) ?_
      refine lv_iconst (v := 1) hx hb dX9_night_88 (by decide) ?_
      obtain ⟨z89, hcr, hM⟩ := ob_s hM
      refine res_i0 F hP hS rfl [0, 1, 2, 3, 4, 5, 6, 7, 8, 9, 10, 11, 12] rfl rfl (runV_of (n := 1) (As := [.int (1 : Int32)]) (rest := [.int a52.2.2.1]) F hP hS rfl [0, 1, 2, 3, 4, 5, 6, 7, 8, 9, 10, 11, 12] rfl rfl (c_X9_shownTo l dC dI cI cC cZ sa ad mb mo z81.2 mg mf mt mz ml mi (1 : Int32) hcr _) gX9_night_X9_shownTo rfl (by decide +kernel) ⟨Nat.le_of_ble_eq_true rfl, Nat.le_of_ble_eq_true rfl⟩ 0 9 rfl rfl rfl hl.1 rfl (Nat.le_of_ble_eq_true rfl) dX9_night_89 ⟨Nat.zero_le _, Nat.zero_le _⟩) (fun H locs hP hS => ?_)
      refine lv_if_lt (tgt := 99) hx hb dX9_night_92 (by decide) (fun hc => ?_) (fun hc => ?_)
      · have hM := if_pp hc hM
        refine lv_iconst (v := 0) hx hb dX9_night_99 (by decide) ?_
        exact j100 (z81.2, ((((75 : Int64) * a52.2.1.toInt64) + (74 : Int64)) - (((75 : Int64) * a52.2.1.toInt64) + (74 : Int64)) / (65537 : Int64) * (65537 : Int64)).toInt32, a52.2.2.2, (0 : Int32), a52.2.2.1) _ _ _ hP hS (lv_sub hl [1, 2, 3, 0, 5] rfl) hM
      · have hM := if_nn hc hM
        refine lv_iconst (v := 1) hx hb dX9_night_95 (by decide) ?_
        refine lv_goto (tgt := 100) hx hb dX9_night_96 (by decide) ?_
        exact j100 (z81.2, ((((75 : Int64) * a52.2.1.toInt64) + (74 : Int64)) - (((75 : Int64) * a52.2.1.toInt64) + (74 : Int64)) / (65537 : Int64) * (65537 : Int64)).toInt32, a52.2.2.2, (1 : Int32), a52.2.2.1) _ _ _ hP hS (lv_sub hl [1, 2, 3, 0, 5] rfl) hM
  refine lv_iload_n hx hb dX9_night_0 rfl (lv_at hl 1 rfl) ?_
  refine lv_i2l (v := x1.toInt64) hx hb dX9_night_1 rfl ?_
  refine lv_lconst (v := 0) hx hb dX9_night_2 (by decide) ?_
  refine lv_ldc2 (v := 9999) hx hb hown (hts _ (List.mem_of_getElem? (i := 1) rfl)) dX9_night_3 ?_
  obtain ⟨z6, hcr, hM⟩ := ob_s hM
  refine res_i0 F hP hS rfl [] rfl rfl (runS_of (n := 3) (As := [.long x1.toInt64, .long (0 : Int64), .long (9999 : Int64)]) (rest := []) F hP hS rfl [] rfl rfl (c_X9_in l dC dI cI cC cZ sa x1.toInt64 (0 : Int64) (9999 : Int64) hcr _) gX9_night_X9_in rfl (by decide +kernel) ⟨Nat.le_of_ble_eq_true rfl, Nat.le_of_ble_eq_true rfl⟩ rfl hl.1 rfl (Nat.le_of_ble_eq_true rfl) dX9_night_6 ⟨Nat.zero_le _, Nat.zero_le _⟩) (fun H locs hP hS => ?_)
  refine lv_if_eq (tgt := 36) hx hb dX9_night_9 (by decide) (fun hc => ?_) (fun hc => ?_)
  · have hM := if_pp hc hM
    refine lv_bipush (v := -2) hx hb dX9_night_36 (by decide) ?_
    exact ret_i hx hb hr hlk dX9_night_38 hM hP hS
  · have hM := if_nn hc hM
    refine lv_iload_n hx hb dX9_night_12 rfl (lv_at hl 2 rfl) ?_
    refine lv_i2l (v := x2.toInt64) hx hb dX9_night_13 rfl ?_
    refine lv_lconst (v := 0) hx hb dX9_night_14 (by decide) ?_
    refine lv_ldc2 (v := 99) hx hb hown (hts _ (List.mem_of_getElem? (i := 2) rfl)) dX9_night_15 ?_
    obtain ⟨z18, hcr, hM⟩ := ob_s hM
    refine res_i0 F hP hS rfl [] rfl rfl (runS_of (n := 3) (As := [.long x2.toInt64, .long (0 : Int64), .long (99 : Int64)]) (rest := []) F hP hS rfl [] rfl rfl (c_X9_in l dC dI cI cC cZ sa x2.toInt64 (0 : Int64) (99 : Int64) hcr _) gX9_night_X9_in rfl (by decide +kernel) ⟨Nat.le_of_ble_eq_true rfl, Nat.le_of_ble_eq_true rfl⟩ rfl hl.1 rfl (Nat.le_of_ble_eq_true rfl) dX9_night_18 ⟨Nat.zero_le _, Nat.zero_le _⟩) (fun H locs hP hS => ?_)
    refine lv_if_eq (tgt := 36) hx hb dX9_night_21 (by decide) (fun hc => ?_) (fun hc => ?_)
    · have hM := if_pp hc hM
      refine lv_bipush (v := -2) hx hb dX9_night_36 (by decide) ?_
      exact ret_i hx hb hr hlk dX9_night_38 hM hP hS
    · have hM := if_nn hc hM
      refine lv_iload_n hx hb dX9_night_24 rfl (lv_at hl 3 rfl) ?_
      refine lv_i2l (v := x3.toInt64) hx hb dX9_night_25 rfl ?_
      refine lv_lconst (v := 0) hx hb dX9_night_26 (by decide) ?_
      refine lv_ldc2 (v := 2) hx hb hown (hts _ (List.mem_of_getElem? (i := 3) rfl)) dX9_night_27 ?_
      obtain ⟨z30, hcr, hM⟩ := ob_s hM
      refine res_i0 F hP hS rfl [] rfl rfl (runS_of (n := 3) (As := [.long x3.toInt64, .long (0 : Int64), .long (2 : Int64)]) (rest := []) F hP hS rfl [] rfl rfl (c_X9_in l dC dI cI cC cZ sa x3.toInt64 (0 : Int64) (2 : Int64) hcr _) gX9_night_X9_in rfl (by decide +kernel) ⟨Nat.le_of_ble_eq_true rfl, Nat.le_of_ble_eq_true rfl⟩ rfl hl.1 rfl (Nat.le_of_ble_eq_true rfl) dX9_night_30 ⟨Nat.zero_le _, Nat.zero_le _⟩) (fun H locs hP hS => ?_)
      refine lv_if_ne (tgt := 39) hx hb dX9_night_33 (by decide) (fun hc => ?_) (fun hc => ?_)
      · have hM := if_nn hc hM
        refine lv_aload_n hx hb dX9_night_39 rfl (lv_at hl 0 rfl) ?_
        obtain ⟨z40, hcr, hM⟩ := ob_s hM
        refine res_v (ws' := (wM cI cZ ad mb mo z40 mg mf mt mz ml mi)) F hP hS rfl [0, 1, 2, 3, 4, 5, 6, 7, 8, 9, 10, 11, 12] rfl rfl rfl (runV_of (n := 0) (As := []) (rest := []) F hP hS rfl [0, 1, 2, 3, 4, 5, 6, 7, 8, 9, 10, 11, 12] rfl rfl (c_X9_begin l dC dI cI cC cZ sa ad mb mo mn mg mf mt mz ml mi hcr _) gX9_night_X9_begin rfl (by decide +kernel) ⟨Nat.le_of_ble_eq_true rfl, Nat.le_of_ble_eq_true rfl⟩ 0 9 rfl rfl rfl hl.1 rfl (Nat.le_of_ble_eq_true rfl) dX9_night_40 ⟨Nat.zero_le _, Nat.zero_le _⟩) rfl (fun H locs hP hS => ?_)
        refine lv_iload_n hx hb dX9_night_43 rfl (lv_at hl 1 rfl) ?_
        refine lv_istore (lv' := [(4, .int x1), (0, .ref (ad 0)), (1, .int x1), (2, .int x2), (3, .int x3)]) hx hb dX9_night_44 hl (by decide) rfl (fun ls hl => ?_)
        refine lv_iconst (v := 0) hx hb dX9_night_46 (by decide) ?_
        refine lv_istore (lv' := [(5, .int (0 : Int32)), (4, .int x1), (0, .ref (ad 0)), (1, .int x1), (2, .int x2), (3, .int x3)]) hx hb dX9_night_47 hl (by decide) rfl (fun ls hl => ?_)
        refine lv_iconst (v := 0) hx hb dX9_night_49 (by decide) ?_
        refine lv_istore (lv' := [(6, .int (0 : Int32)), (5, .int (0 : Int32)), (4, .int x1), (0, .ref (ad 0)), (1, .int x1), (2, .int x2), (3, .int x3)]) hx hb dX9_night_50 hl (by decide) rfl (fun ls hl => ?_)
        exact j52 200 (z40, x1, (0 : Int32), (0 : Int32)) _ _ _ hP hS (lv_sub hl [3, 5, 6, 2, 1, 0] rfl) hM
      · have hM := if_pp hc hM
        refine lv_bipush (v := -2) hx hb dX9_night_36 (by decide) ?_
        exact ret_i hx hb hr hlk dX9_night_38 hM hP hS
theorem inX9_oneMinute_X9 : ∀ w ∈ wsX90, w ∈ wsX9_oneMinute := fun w h => List.mem_cons_of_mem _ (List.mem_append_right _ h)
set_option maxHeartbeats 4000000 in
set_option maxRecDepth 100000 in
theorem c_X9_oneMinute (l : Launch) (dC : Nat → ClassId) (dI : Nat → Nat → Nat) (cI cC cZ : ClassId) (sa : Nat → Nat) (ad : Nat → Nat) (mb : BT) (mo : OT) (mn : NT) (mg : GT) (mf : AR) (mt : TT) (mz : AR) (ml : LT) (mi : IT) (x1 : Int32) {res : LT} (hM : M_X9_oneMinute mb ml x1 = some res) : CTv l (dC, dI) [(cI, .int), (cC, .char), (cZ, .boolean)] sa yX9_oneMinute wsX9_oneMinute (rmd 7) [.ref (ad 0), .int x1] (wM cI cZ ad mb mo mn mg mf mt mz ml mi) (fun (uu : LT) => (wM cI cZ ad mb mo mn mg mf mt mz uu mi)) res := by
  refine CTv.enter (own := RX9) (cc := cX9_oneMinute) (maxL := 6) (ret := none) (by decide) rfl rfl (Nat.le_of_ble_eq_true rfl) ?_
  intro pr e s m below meth c A F hr hlk hP hS ls hl
  obtain ⟨⟨hx, hb, hml, hown, hts⟩, hK, hDD, hA, hKC⟩ := id F
  have hl : lv_has ls 6 [(0, .ref (ad 0)), (1, .int x1)] := hl
  have hP : va_P (dC, dI) vwCl (wM cI cZ ad mb mo mn mg mf mt mz ml mi) s.heap := hP
  unfold M_X9_oneMinute at hM
  refine kloop (α := LT × Int32) (res := res) (fun k a => M_X9_oneMinute_128 mb x1 k a) (fun rec a => M_X9_oneMinute_128b mb x1 rec a) (fun _ => rfl) (fun _ _ => rfl) F (fun a => (wM cI cZ ad mb mo mn mg mf mt mz a.1 mi)) (fun a => [(0, .ref (ad 0)), (3, .int a.2)]) (fun a => []) 128 ?_ (fun j128 => ?_)
  · intro rc128 ih128 a128 H locs ls hP hS hl hM
    unfold M_X9_oneMinute_128b at hM
    refine lv_iload_n hx hb dX9_oneMinute_128 rfl (lv_at hl 1 rfl) ?_
    refine lv_aload_n hx hb dX9_oneMinute_129 rfl (lv_at hl 0 rfl) ?_
    obtain ⟨z130, hcr, hM⟩ := ob_s hM
    refine res_i0 F hP hS rfl [0, 1, 2, 3, 4, 5, 6, 7, 8, 9, 10, 11, 12] rfl rfl (runV_of (n := 0) (As := []) (rest := [.int a128.2]) F hP hS rfl [0, 1, 2, 3, 4, 5, 6, 7, 8, 9, 10, 11, 12] rfl rfl (c_X9_cells l dC dI cI cC cZ sa ad mb mo mn mg mf mt mz a128.1 mi hcr _) gX9_oneMinute_X9_cells rfl (by decide +kernel) ⟨Nat.le_of_ble_eq_true rfl, Nat.le_of_ble_eq_true rfl⟩ 0 9 rfl rfl rfl hl.1 rfl (Nat.le_of_ble_eq_true rfl) dX9_oneMinute_130 ⟨Nat.zero_le _, Nat.zero_le _⟩) (fun H locs hP hS => ?_)
    refine lv_icmp_ge (tgt := 154) hx hb dX9_oneMinute_133 (by decide) (fun hc => ?_) (fun hc => ?_)
    · have hM := if_pp hc hM
      exact ret_v hx hb hr hlk dX9_oneMinute_154 hM hP hS
    · have hM := if_nn hc hM
      refine lv_aload_n hx hb dX9_oneMinute_136 rfl (lv_at hl 0 rfl) ?_
      refine g_get (ci := 9) (C := RX9) (T := TX9) (N := 32) (v := .ref (ad 9)) F hP 0 rfl rfl inX9_oneMinute_X9 26 (by decide) (List.mem_of_getElem? (i := 2) rfl) rfl dX9_oneMinute_137 ?_
      refine lv_iload_n hx hb dX9_oneMinute_140 rfl (lv_at hl 1 rfl) ?_
      refine lv_aload_n hx hb dX9_oneMinute_141 rfl (lv_at hl 0 rfl) ?_
      refine g_get (ci := 9) (C := RX9) (T := TX9) (N := 32) (v := .ref (ad 10)) F hP 0 rfl rfl inX9_oneMinute_X9 27 (by decide) (List.mem_of_getElem? (i := 1) rfl) rfl dX9_oneMinute_142 ?_
      refine lv_iload_n hx hb dX9_oneMinute_145 rfl (lv_at hl 1 rfl) ?_
      obtain ⟨hin, hM⟩ := if_ok hM
      refine va_iald hx hb hK hP 10 0 rfl rfl hin dX9_oneMinute_146 ?_
      obtain ⟨hin, hM⟩ := if_ok hM
      refine g_iast (ws' := (wM cI cZ ad mb mo mn mg mf mt mz ((upd a128.1.1 a128.2.toNatClampNeg (a128.1.2 a128.2.toNatClampNeg)), a128.1.2) mi)) F hP hS rfl 9 0 rfl rfl hin dX9_oneMinute_147 rfl (fun H locs hP hS => ?_)
      refine lv_iinc (v := (a128.2 + (1 : Int32))) (lv' := [(3, .int (a128.2 + (1 : Int32))), (0, .ref (ad 0))]) hx hb dX9_oneMinute_148 hl (k := 1) rfl rfl (by decide) rfl (fun ls hl => ?_)
      refine lv_goto (tgt := 128) hx hb dX9_oneMinute_151 (by decide) ?_
      exact ih128 (((upd a128.1.1 a128.2.toNatClampNeg (a128.1.2 a128.2.toNatClampNeg)), a128.1.2), (a128.2 + (1 : Int32))) _ _ _ hP hS (lv_sub hl [1, 0] rfl) hM
  refine kloop (α := LT × Int32 × Int32) (res := res) (fun k a => M_X9_oneMinute_30 mb x1 k a) (fun rec a => M_X9_oneMinute_30b mb x1 rec a) (fun _ => rfl) (fun _ _ => rfl) F (fun a => (wM cI cZ ad mb mo mn mg mf mt mz a.1 mi)) (fun a => [(0, .ref (ad 0)), (1, .int x1), (2, .int a.2.1), (3, .int a.2.2)]) (fun a => []) 30 ?_ (fun j30 => ?_)
  · intro rc30 ih30 a30 H locs ls hP hS hl hM
    unfold M_X9_oneMinute_30b at hM
    refine kblk (α := LT × Int32 × Int32) (res := res) (fun a => M_X9_oneMinute_120 mb x1 rc30 a) F (fun a => (wM cI cZ ad mb mo mn mg mf mt mz a.1 mi)) (fun a => [(0, .ref (ad 0)), (1, .int x1), (2, .int a.2.1), (3, .int a.2.2)]) (fun a => []) 120 ?_ (fun j120 => ?_)
    · intro a120 H locs ls hP hS hl hM
      unfold M_X9_oneMinute_120 at hM
      refine lv_iinc (v := (a120.2.2 + (1 : Int32))) (lv' := [(3, .int (a120.2.2 + (1 : Int32))), (0, .ref (ad 0)), (1, .int x1), (2, .int a120.2.1)]) hx hb dX9_oneMinute_120 hl (k := 3) rfl rfl (by decide) rfl (fun ls hl => ?_)
      refine lv_goto (tgt := 30) hx hb dX9_oneMinute_123 (by decide) ?_
      exact ih30 (a120.1, a120.2.1, (a120.2.2 + (1 : Int32))) _ _ _ hP hS (lv_sub hl [1, 2, 3, 0] rfl) hM
    refine kloop (α := LT × Int32 × Int32 × Int32) (res := res) (fun k a => M_X9_oneMinute_41 mb x1 rc30 k a) (fun rec a => M_X9_oneMinute_41b mb x1 rc30 rec a) (fun _ => rfl) (fun _ _ => rfl) F (fun a => (wM cI cZ ad mb mo mn mg mf mt mz a.1 mi)) (fun a => [(0, .ref (ad 0)), (1, .int x1), (2, .int a.2.1), (3, .int a.2.2.1), (4, .int a.2.2.2)]) (fun a => []) 41 ?_ (fun j41 => ?_)
    · intro rc41 ih41 a41 H locs ls hP hS hl hM
      unfold M_X9_oneMinute_41b at hM
      refine kblk (α := LT × Int32 × Int32 × Int32) (res := res) (fun a => M_X9_oneMinute_114 mb x1 rc30 rc41 a) F (fun a => (wM cI cZ ad mb mo mn mg mf mt mz a.1 mi)) (fun a => [(0, .ref (ad 0)), (1, .int x1), (2, .int a.2.1), (3, .int a.2.2.1), (4, .int a.2.2.2)]) (fun a => []) 114 ?_ (fun j114 => ?_)
      · intro a114 H locs ls hP hS hl hM
        unfold M_X9_oneMinute_114 at hM
        refine lv_iinc (v := (a114.2.2.2 + (1 : Int32))) (lv' := [(4, .int (a114.2.2.2 + (1 : Int32))), (0, .ref (ad 0)), (1, .int x1), (2, .int a114.2.1), (3, .int a114.2.2.1)]) hx hb dX9_oneMinute_114 hl (k := 4) rfl rfl (by decide) rfl (fun ls hl => ?_)
        refine lv_goto (tgt := 41) hx hb dX9_oneMinute_117 (by decide) ?_
        exact ih41 (a114.1, a114.2.1, a114.2.2.1, (a114.2.2.2 + (1 : Int32))) _ _ _ hP hS (lv_sub hl [1, 2, 3, 4, 0] rfl) hM
      refine kblk (α := LT × Int32 × Int32 × Int32 × Int32 × Int32 × Int32) (res := res) (fun a => M_X9_oneMinute_95 mb x1 rc30 rc41 a) F (fun a => (wM cI cZ ad mb mo mn mg mf mt mz a.1 mi)) (fun a => [(0, .ref (ad 0)), (1, .int x1), (2, .int a.2.1), (3, .int a.2.2.1), (4, .int a.2.2.2.1), (5, .int a.2.2.2.2.1)]) (fun a => [.int a.2.2.2.2.2.1, .int a.2.2.2.2.2.2]) 95 ?_ (fun j95 => ?_)
      · intro a95 H locs ls hP hS hl hM
        unfold M_X9_oneMinute_95 at hM
        refine lv_icmp_ne (tgt := 114) hx hb dX9_oneMinute_95 (by decide) (fun hc => ?_) (fun hc => ?_)
        · have hM := if_nn hc hM
          exact j114 (a95.1, a95.2.1, a95.2.2.1, a95.2.2.2.1) _ _ _ hP hS (lv_sub hl [0, 1, 2, 3, 4] rfl) hM
        · have hM := if_pp hc hM
          refine lv_aload_n hx hb dX9_oneMinute_98 rfl (lv_at hl 0 rfl) ?_
          refine g_get (ci := 9) (C := RX9) (T := TX9) (N := 32) (v := .ref (ad 10)) F hP 0 rfl rfl inX9_oneMinute_X9 27 (by decide) (List.mem_of_getElem? (i := 1) rfl) rfl dX9_oneMinute_99 ?_
          refine lv_iload hx hb dX9_oneMinute_102 (lv_at hl 5 rfl) ?_
          refine lv_dup2_11 hx hb dX9_oneMinute_104 rfl rfl ?_
          obtain ⟨hin, hM⟩ := if_ok hM
          refine va_iald hx hb hK hP 10 0 rfl rfl hin dX9_oneMinute_105 ?_
          refine lv_aload_n hx hb dX9_oneMinute_106 rfl (lv_at hl 0 rfl) ?_
          refine g_get (ci := 9) (C := RX9) (T := TX9) (N := 32) (v := .ref (ad 9)) F hP 0 rfl rfl inX9_oneMinute_X9 26 (by decide) (List.mem_of_getElem? (i := 2) rfl) rfl dX9_oneMinute_107 ?_
          refine lv_iload_n hx hb dX9_oneMinute_110 rfl (lv_at hl 3 rfl) ?_
          obtain ⟨hin, hM⟩ := if_ok hM
          refine va_iald hx hb hK hP 9 0 rfl rfl hin dX9_oneMinute_111 ?_
          refine lv_iadd hx hb dX9_oneMinute_112 ?_
          obtain ⟨hin, hM⟩ := if_ok hM
          refine g_iast (ws' := (wM cI cZ ad mb mo mn mg mf mt mz (a95.1.1, (upd a95.1.2 a95.2.2.2.2.1.toNatClampNeg ((a95.1.2 a95.2.2.2.2.1.toNatClampNeg) + (a95.1.1 a95.2.2.1.toNatClampNeg)))) mi)) F hP hS rfl 10 0 rfl rfl hin dX9_oneMinute_113 rfl (fun H locs hP hS => ?_)
          exact j114 ((a95.1.1, (upd a95.1.2 a95.2.2.2.2.1.toNatClampNeg ((a95.1.2 a95.2.2.2.2.1.toNatClampNeg) + (a95.1.1 a95.2.2.1.toNatClampNeg)))), a95.2.1, a95.2.2.1, a95.2.2.2.1) _ _ _ hP hS (lv_sub hl [0, 1, 2, 3, 4] rfl) hM
      refine kblk (α := LT × Int32 × Int32 × Int32 × Int32) (res := res) (fun a => M_X9_oneMinute_64 mb x1 rc30 rc41 a) F (fun a => (wM cI cZ ad mb mo mn mg mf mt mz a.1 mi)) (fun a => [(0, .ref (ad 0)), (1, .int x1), (2, .int a.2.1), (3, .int a.2.2.1), (4, .int a.2.2.2.1)]) (fun a => [.int a.2.2.2.2]) 64 ?_ (fun j64 => ?_)
      · intro a64 H locs ls hP hS hl hM
        unfold M_X9_oneMinute_64 at hM
        refine lv_istore (lv' := [(5, .int a64.2.2.2.2), (0, .ref (ad 0)), (1, .int x1), (2, .int a64.2.1), (3, .int a64.2.2.1), (4, .int a64.2.2.2.1)]) hx hb dX9_oneMinute_64 hl (by decide) rfl (fun ls hl => ?_)
        refine lv_iload hx hb dX9_oneMinute_66 (lv_at hl 0 rfl) ?_
        refine lv_if_lt (tgt := 114) hx hb dX9_oneMinute_68 (by decide) (fun hc => ?_) (fun hc => ?_)
        · have hM := if_pp hc hM
          exact j114 (a64.1, a64.2.1, a64.2.2.1, a64.2.2.2.1) _ _ _ hP hS (lv_sub hl [1, 2, 3, 4, 5] rfl) hM
        · have hM := if_nn hc hM
          refine lv_aload_n hx hb dX9_oneMinute_71 rfl (lv_at hl 1 rfl) ?_
          refine g_get (ci := 9) (C := RX9) (T := TX9) (N := 32) (v := .ref (ad 9)) F hP 0 rfl rfl inX9_oneMinute_X9 26 (by decide) (List.mem_of_getElem? (i := 2) rfl) rfl dX9_oneMinute_72 ?_
          refine lv_iload_n hx hb dX9_oneMinute_75 rfl (lv_at hl 4 rfl) ?_
          obtain ⟨hin, hM⟩ := if_ok hM
          refine va_iald hx hb hK hP 9 0 rfl rfl hin dX9_oneMinute_76 ?_
          refine lv_if_le (tgt := 114) hx hb dX9_oneMinute_77 (by decide) (fun hc => ?_) (fun hc => ?_)
          · have hM := if_pp hc hM
            exact j114 (a64.1, a64.2.1, a64.2.2.1, a64.2.2.2.1) _ _ _ hP hS (lv_sub hl [1, 2, 3, 4, 5] rfl) hM
          · have hM := if_nn hc hM
            refine lv_iload_n hx hb dX9_oneMinute_80 rfl (lv_at hl 3 rfl) ?_
            refine lv_iload hx hb dX9_oneMinute_81 (lv_at hl 0 rfl) ?_
            refine lv_ishr hx hb dX9_oneMinute_83 ?_
            refine lv_iconst (v := 1) hx hb dX9_oneMinute_84 (by decide) ?_
            refine lv_iand hx hb dX9_oneMinute_85 ?_
            refine lv_iload_n hx hb dX9_oneMinute_86 rfl (lv_at hl 2 rfl) ?_
            refine lv_if_eq (tgt := 94) hx hb dX9_oneMinute_87 (by decide) (fun hc => ?_) (fun hc => ?_)
            · have hM := if_pp hc hM
              refine lv_iconst (v := 1) hx hb dX9_oneMinute_94 (by decide) ?_
              exact j95 (a64.1, a64.2.1, a64.2.2.1, a64.2.2.2.1, a64.2.2.2.2, (1 : Int32), ((a64.2.1 >>> (a64.2.2.2.2 &&& 31)) &&& (1 : Int32))) _ _ _ hP hS (lv_sub hl [1, 2, 3, 4, 5, 0] rfl) hM
            · have hM := if_nn hc hM
              refine lv_iconst (v := 0) hx hb dX9_oneMinute_90 (by decide) ?_
              refine lv_goto (tgt := 95) hx hb dX9_oneMinute_91 (by decide) ?_
              exact j95 (a64.1, a64.2.1, a64.2.2.1, a64.2.2.2.1, a64.2.2.2.2, (0 : Int32), ((a64.2.1 >>> (a64.2.2.2.2 &&& 31)) &&& (1 : Int32))) _ _ _ hP hS (lv_sub hl [1, 2, 3, 4, 5, 0] rfl) hM
      refine lv_iload hx hb dX9_oneMinute_41 (lv_at hl 4 rfl) ?_
      refine lv_iconst (v := 5) hx hb dX9_oneMinute_43 (by decide) ?_
      refine lv_icmp_ge (tgt := 120) hx hb dX9_oneMinute_44 (by decide) (fun hc => ?_) (fun hc => ?_)
      · have hM := if_pp hc hM
        exact j120 (a41.1, a41.2.1, a41.2.2.1) _ _ _ hP hS (lv_sub hl [0, 1, 2, 3] rfl) hM
      · have hM := if_nn hc hM
        refine lv_iload hx hb dX9_oneMinute_47 (lv_at hl 4 rfl) ?_
        refine lv_iconst (v := 4) hx hb dX9_oneMinute_49 (by decide) ?_
        refine lv_icmp_ne (tgt := 57) hx hb dX9_oneMinute_50 (by decide) (fun hc => ?_) (fun hc => ?_)
        · have hM := if_nn hc hM
          refine lv_aload_n hx hb dX9_oneMinute_57 rfl (lv_at hl 0 rfl) ?_
          refine lv_iload_n hx hb dX9_oneMinute_58 rfl (lv_at hl 3 rfl) ?_
          refine lv_iload hx hb dX9_oneMinute_59 (lv_at hl 4 rfl) ?_
          obtain ⟨z61, hcr, hM⟩ := ob_s hM
          refine res_i0 F hP hS rfl [0, 1, 2, 3, 4, 5, 6, 7, 8, 9, 10, 11, 12] rfl rfl (runV_of (n := 2) (As := [.int a41.2.2.1, .int a41.2.2.2]) (rest := []) F hP hS rfl [0, 1, 2, 3, 4, 5, 6, 7, 8, 9, 10, 11, 12] rfl rfl (c_X9_beyond l dC dI cI cC cZ sa ad mb mo mn mg mf mt mz a41.1 mi a41.2.2.1 a41.2.2.2 hcr _) gX9_oneMinute_X9_beyond rfl (by decide +kernel) ⟨Nat.le_of_ble_eq_true rfl, Nat.le_of_ble_eq_true rfl⟩ 0 9 rfl rfl rfl hl.1 rfl (Nat.le_of_ble_eq_true rfl) dX9_oneMinute_61 ⟨Nat.zero_le _, Nat.zero_le _⟩) (fun H locs hP hS => ?_)
          exact j64 (a41.1, a41.2.1, a41.2.2.1, a41.2.2.2, z61) _ _ _ hP hS (lv_sub hl [0, 1, 2, 3, 4] rfl) hM
        · have hM := if_pp hc hM
          refine lv_iload_n hx hb dX9_oneMinute_53 rfl (lv_at hl 3 rfl) ?_
          refine lv_goto (tgt := 64) hx hb dX9_oneMinute_54 (by decide) ?_
          exact j64 (a41.1, a41.2.1, a41.2.2.1, a41.2.2.2, a41.2.2.1) _ _ _ hP hS (lv_sub hl [0, 1, 2, 3, 4] rfl) hM
    refine lv_iload_n hx hb dX9_oneMinute_30 rfl (lv_at hl 3 rfl) ?_
    refine lv_aload_n hx hb dX9_oneMinute_31 rfl (lv_at hl 0 rfl) ?_
    obtain ⟨z32, hcr, hM⟩ := ob_s hM
    refine res_i0 F hP hS rfl [0, 1, 2, 3, 4, 5, 6, 7, 8, 9, 10, 11, 12] rfl rfl (runV_of (n := 0) (As := []) (rest := [.int a30.2.2]) F hP hS rfl [0, 1, 2, 3, 4, 5, 6, 7, 8, 9, 10, 11, 12] rfl rfl (c_X9_cells l dC dI cI cC cZ sa ad mb mo mn mg mf mt mz a30.1 mi hcr _) gX9_oneMinute_X9_cells rfl (by decide +kernel) ⟨Nat.le_of_ble_eq_true rfl, Nat.le_of_ble_eq_true rfl⟩ 0 9 rfl rfl rfl hl.1 rfl (Nat.le_of_ble_eq_true rfl) dX9_oneMinute_32 ⟨Nat.zero_le _, Nat.zero_le _⟩) (fun H locs hP hS => ?_)
    refine lv_icmp_ge (tgt := 126) hx hb dX9_oneMinute_35 (by decide) (fun hc => ?_) (fun hc => ?_)
    · have hM := if_pp hc hM
      refine lv_iconst (v := 0) hx hb dX9_oneMinute_126 (by decide) ?_
      refine lv_istore_n (lv' := [(3, .int (0 : Int32)), (0, .ref (ad 0)), (1, .int x1), (2, .int a30.2.1)]) hx hb dX9_oneMinute_127 rfl hl (by decide) rfl (fun ls hl => ?_)
      exact j128 200 (a30.1, (0 : Int32)) _ _ _ hP hS (lv_sub hl [1, 0] rfl) hM
    · have hM := if_nn hc hM
      refine lv_iconst (v := 0) hx hb dX9_oneMinute_38 (by decide) ?_
      refine lv_istore (lv' := [(4, .int (0 : Int32)), (0, .ref (ad 0)), (1, .int x1), (2, .int a30.2.1), (3, .int a30.2.2)]) hx hb dX9_oneMinute_39 hl (by decide) rfl (fun ls hl => ?_)
      exact j41 200 (a30.1, a30.2.1, a30.2.2, (0 : Int32)) _ _ _ hP hS (lv_sub hl [1, 2, 3, 4, 0] rfl) hM
  refine kloop (α := LT × Int32 × Int32) (res := res) (fun k a => M_X9_oneMinute_7 mb x1 k a) (fun rec a => M_X9_oneMinute_7b mb x1 rec a) (fun _ => rfl) (fun _ _ => rfl) F (fun a => (wM cI cZ ad mb mo mn mg mf mt mz a.1 mi)) (fun a => [(0, .ref (ad 0)), (1, .int x1), (2, .int a.2.1), (3, .int a.2.2)]) (fun a => []) 7 ?_ (fun j7 => ?_)
  · intro rc7 ih7 a7 H locs ls hP hS hl hM
    unfold M_X9_oneMinute_7b at hM
    refine lv_iload_n hx hb dX9_oneMinute_7 rfl (lv_at hl 3 rfl) ?_
    refine lv_aload_n hx hb dX9_oneMinute_8 rfl (lv_at hl 0 rfl) ?_
    obtain ⟨z9, hcr, hM⟩ := ob_s hM
    refine res_i0 F hP hS rfl [0, 1, 2, 3, 4, 5, 6, 7, 8, 9, 10, 11, 12] rfl rfl (runV_of (n := 0) (As := []) (rest := [.int a7.2.2]) F hP hS rfl [0, 1, 2, 3, 4, 5, 6, 7, 8, 9, 10, 11, 12] rfl rfl (c_X9_cells l dC dI cI cC cZ sa ad mb mo mn mg mf mt mz a7.1 mi hcr _) gX9_oneMinute_X9_cells rfl (by decide +kernel) ⟨Nat.le_of_ble_eq_true rfl, Nat.le_of_ble_eq_true rfl⟩ 0 9 rfl rfl rfl hl.1 rfl (Nat.le_of_ble_eq_true rfl) dX9_oneMinute_9 ⟨Nat.zero_le _, Nat.zero_le _⟩) (fun H locs hP hS => ?_)
    refine lv_icmp_ge (tgt := 28) hx hb dX9_oneMinute_12 (by decide) (fun hc => ?_) (fun hc => ?_)
    · have hM := if_pp hc hM
      refine lv_iconst (v := 0) hx hb dX9_oneMinute_28 (by decide) ?_
      refine lv_istore_n (lv' := [(3, .int (0 : Int32)), (0, .ref (ad 0)), (1, .int x1), (2, .int a7.2.1)]) hx hb dX9_oneMinute_29 rfl hl (by decide) rfl (fun ls hl => ?_)
      exact j30 200 (a7.1, a7.2.1, (0 : Int32)) _ _ _ hP hS (lv_sub hl [1, 2, 3, 0] rfl) hM
    · have hM := if_nn hc hM
      refine lv_aload_n hx hb dX9_oneMinute_15 rfl (lv_at hl 0 rfl) ?_
      refine g_get (ci := 9) (C := RX9) (T := TX9) (N := 32) (v := .ref (ad 10)) F hP 0 rfl rfl inX9_oneMinute_X9 27 (by decide) (List.mem_of_getElem? (i := 1) rfl) rfl dX9_oneMinute_16 ?_
      refine lv_iload_n hx hb dX9_oneMinute_19 rfl (lv_at hl 3 rfl) ?_
      refine lv_iconst (v := 0) hx hb dX9_oneMinute_20 (by decide) ?_
      obtain ⟨hin, hM⟩ := if_ok hM
      refine g_iast (ws' := (wM cI cZ ad mb mo mn mg mf mt mz (a7.1.1, (upd a7.1.2 a7.2.2.toNatClampNeg (0 : Int32))) mi)) F hP hS rfl 10 0 rfl rfl hin dX9_oneMinute_21 rfl (fun H locs hP hS => ?_)
      refine lv_iinc (v := (a7.2.2 + (1 : Int32))) (lv' := [(3, .int (a7.2.2 + (1 : Int32))), (0, .ref (ad 0)), (1, .int x1), (2, .int a7.2.1)]) hx hb dX9_oneMinute_22 hl (k := 3) rfl rfl (by decide) rfl (fun ls hl => ?_)
      refine lv_goto (tgt := 7) hx hb dX9_oneMinute_25 (by decide) ?_
      exact ih7 ((a7.1.1, (upd a7.1.2 a7.2.2.toNatClampNeg (0 : Int32))), a7.2.1, (a7.2.2 + (1 : Int32))) _ _ _ hP hS (lv_sub hl [1, 2, 3, 0] rfl) hM
  refine lv_aload_n hx hb dX9_oneMinute_0 rfl (lv_at hl 0 rfl) ?_
  obtain ⟨z1, hcr, hM⟩ := ob_s hM
  refine res_i0 F hP hS rfl [0, 1, 2, 3, 4, 5, 6, 7, 8, 9, 10, 11, 12] rfl rfl (runV_of (n := 0) (As := []) (rest := []) F hP hS rfl [0, 1, 2, 3, 4, 5, 6, 7, 8, 9, 10, 11, 12] rfl rfl (c_X9_bare l dC dI cI cC cZ sa ad mb mo mn mg mf mt mz ml mi hcr _) gX9_oneMinute_X9_bare rfl (by decide +kernel) ⟨Nat.le_of_ble_eq_true rfl, Nat.le_of_ble_eq_true rfl⟩ 0 9 rfl rfl rfl hl.1 rfl (Nat.le_of_ble_eq_true rfl) dX9_oneMinute_1 ⟨Nat.zero_le _, Nat.zero_le _⟩) (fun H locs hP hS => ?_)
  refine lv_istore_n (lv' := [(2, .int z1), (0, .ref (ad 0)), (1, .int x1)]) hx hb dX9_oneMinute_4 rfl hl (by decide) rfl (fun ls hl => ?_)
  refine lv_iconst (v := 0) hx hb dX9_oneMinute_5 (by decide) ?_
  refine lv_istore_n (lv' := [(3, .int (0 : Int32)), (2, .int z1), (0, .ref (ad 0)), (1, .int x1)]) hx hb dX9_oneMinute_6 rfl hl (by decide) rfl (fun ls hl => ?_)
  exact j7 200 (ml, z1, (0 : Int32)) _ _ _ hP hS (lv_sub hl [2, 3, 1, 0] rfl) hM
theorem inX9_place_X9 : ∀ w ∈ wsX90, w ∈ wsX9_place := fun w h => List.mem_cons_of_mem _ (List.mem_append_right _ h)
set_option maxHeartbeats 4000000 in
set_option maxRecDepth 100000 in
theorem c_X9_place (l : Launch) (dC : Nat → ClassId) (dI : Nat → Nat → Nat) (cI cC cZ : ClassId) (sa : Nat → Nat) (ad : Nat → Nat) (mb : BT) (mo : OT) (mn : NT) (mg : GT) (mf : AR) (mt : TT) (mz : AR) (ml : LT) (mi : IT) (x1 : Int32) (x2 : Int32) {res : Int32 × BT} (hM : M_X9_place mb x1 x2 = some res) : CTi l (dC, dI) [(cI, .int), (cC, .char), (cZ, .boolean)] sa yX9_place wsX9_place (rmd 3) [.ref (ad 0), .int x1, .int x2] (wM cI cZ ad mb mo mn mg mf mt mz ml mi) (fun (uu : BT) => (wM cI cZ ad uu mo mn mg mf mt mz ml mi)) res := by
  refine CTi.enter (own := RX9) (cc := cX9_place) (maxL := 4) (ret := (some .int)) (by decide) rfl rfl (Nat.le_of_ble_eq_true rfl) ?_
  intro pr e s m below meth c A F hr hlk hP hS ls hl
  obtain ⟨⟨hx, hb, hml, hown, hts⟩, hK, hDD, hA, hKC⟩ := id F
  have hl : lv_has ls 4 [(0, .ref (ad 0)), (1, .int x1), (2, .int x2)] := hl
  have hP : va_P (dC, dI) vwCl (wM cI cZ ad mb mo mn mg mf mt mz ml mi) s.heap := hP
  unfold M_X9_place at hM
  refine kblk (α := BT × Int32 × Int32) (res := res) (fun a => M_X9_place_80 x1 x2 a) F (fun a => (wM cI cZ ad a.1 mo mn mg mf mt mz ml mi)) (fun a => [(0, .ref (ad 0)), (3, .int a.2.1)]) (fun a => [.int a.2.2, .ref (ad 0)]) 80 ?_ (fun j80 => ?_)
  · intro a80 H locs ls hP hS hl hM
    unfold M_X9_place_80 at hM
    refine g_put (ws' := (wM cI cZ ad (a80.1.1, a80.1.2.1, a80.1.2.2.1, a80.2.2, a80.1.2.2.2.2.1, a80.1.2.2.2.2.2.1, a80.1.2.2.2.2.2.2.1, a80.1.2.2.2.2.2.2.2.1, a80.1.2.2.2.2.2.2.2.2.1, a80.1.2.2.2.2.2.2.2.2.2) mo mn mg mf mt mz ml mi)) (ci := 9) (C := RX9) (T := TX9) (N := 32) (v := .int a80.2.2) (ty := .int) F hP hS rfl tyX9 tyX9_ok nmX9 0 rfl rfl inX9_place_X9 4 (by decide) (List.mem_of_getElem? (i := 2) rfl) rfl (by decide +kernel) rfl rfl (Nat.le_of_ble_eq_true rfl) dX9_place_80 rfl (fun H locs hP hS => ?_)
    refine lv_iload_n hx hb dX9_place_83 rfl (lv_at hl 1 rfl) ?_
    exact ret_i hx hb hr hlk dX9_place_84 hM hP hS
  refine kblk (α := BT × Int32 × Int32) (res := res) (fun a => M_X9_place_63 x1 x2 a) F (fun a => (wM cI cZ ad a.1 mo mn mg mf mt mz ml mi)) (fun a => [(0, .ref (ad 0)), (1, .int x1), (2, .int x2), (3, .int a.2.1)]) (fun a => [.int a.2.2, .ref (ad 0)]) 63 ?_ (fun j63 => ?_)
  · intro a63 H locs ls hP hS hl hM
    unfold M_X9_place_63 at hM
    refine g_put (ws' := (wM cI cZ ad (a63.1.1, a63.1.2.1, a63.2.2, a63.1.2.2.2.1, a63.1.2.2.2.2.1, a63.1.2.2.2.2.2.1, a63.1.2.2.2.2.2.2.1, a63.1.2.2.2.2.2.2.2.1, a63.1.2.2.2.2.2.2.2.2.1, a63.1.2.2.2.2.2.2.2.2.2) mo mn mg mf mt mz ml mi)) (ci := 9) (C := RX9) (T := TX9) (N := 32) (v := .int a63.2.2) (ty := .int) F hP hS rfl tyX9 tyX9_ok nmX9 0 rfl rfl inX9_place_X9 3 (by decide) (List.mem_of_getElem? (i := 1) rfl) rfl (by decide +kernel) rfl rfl (Nat.le_of_ble_eq_true rfl) dX9_place_63 rfl (fun H locs hP hS => ?_)
    refine lv_aload_n hx hb dX9_place_66 rfl (lv_at hl 0 rfl) ?_
    refine lv_iload_n hx hb dX9_place_67 rfl (lv_at hl 1 rfl) ?_
    refine lv_iconst (v := 1) hx hb dX9_place_68 (by decide) ?_
    refine lv_icmp_ne (tgt := 76) hx hb dX9_place_69 (by decide) (fun hc => ?_) (fun hc => ?_)
    · have hM := if_nn hc hM
      refine lv_aload_n hx hb dX9_place_76 rfl (lv_at hl 0 rfl) ?_
      refine g_get (ci := 9) (C := RX9) (T := TX9) (N := 32) (v := .int a63.1.2.2.2.1) F hP 0 rfl rfl inX9_place_X9 4 (by decide) (List.mem_of_getElem? (i := 2) rfl) rfl dX9_place_77 ?_
      exact j80 ((a63.1.1, a63.1.2.1, a63.2.2, a63.1.2.2.2.1, a63.1.2.2.2.2.1, a63.1.2.2.2.2.2.1, a63.1.2.2.2.2.2.2.1, a63.1.2.2.2.2.2.2.2.1, a63.1.2.2.2.2.2.2.2.2.1, a63.1.2.2.2.2.2.2.2.2.2), a63.2.1, a63.1.2.2.2.1) _ _ _ hP hS (lv_sub hl [0, 3] rfl) hM
    · have hM := if_pp hc hM
      refine lv_iload_n hx hb dX9_place_72 rfl (lv_at hl 2 rfl) ?_
      refine lv_goto (tgt := 80) hx hb dX9_place_73 (by decide) ?_
      exact j80 ((a63.1.1, a63.1.2.1, a63.2.2, a63.1.2.2.2.1, a63.1.2.2.2.2.1, a63.1.2.2.2.2.2.1, a63.1.2.2.2.2.2.2.1, a63.1.2.2.2.2.2.2.2.1, a63.1.2.2.2.2.2.2.2.2.1, a63.1.2.2.2.2.2.2.2.2.2), a63.2.1, x2) _ _ _ hP hS (lv_sub hl [0, 3] rfl) hM
  refine kblk (α := BT × Int32) (res := res) (fun a => M_X9_place_49 x1 x2 a) F (fun a => (wM cI cZ ad a.1 mo mn mg mf mt mz ml mi)) (fun a => [(0, .ref (ad 0)), (1, .int x1), (2, .int x2)]) (fun a => [.int a.2]) 49 ?_ (fun j49 => ?_)
  · intro a49 H locs ls hP hS hl hM
    unfold M_X9_place_49 at hM
    refine lv_istore_n (lv' := [(3, .int a49.2), (0, .ref (ad 0)), (1, .int x1), (2, .int x2)]) hx hb dX9_place_49 rfl hl (by decide) rfl (fun ls hl => ?_)
    refine lv_aload_n hx hb dX9_place_50 rfl (lv_at hl 1 rfl) ?_
    refine lv_iload_n hx hb dX9_place_51 rfl (lv_at hl 2 rfl) ?_
    refine lv_if_ne (tgt := 59) hx hb dX9_place_52 (by decide) (fun hc => ?_) (fun hc => ?_)
    · have hM := if_nn hc hM
      refine lv_aload_n hx hb dX9_place_59 rfl (lv_at hl 1 rfl) ?_
      refine g_get (ci := 9) (C := RX9) (T := TX9) (N := 32) (v := .int a49.1.2.2.1) F hP 0 rfl rfl inX9_place_X9 3 (by decide) (List.mem_of_getElem? (i := 1) rfl) rfl dX9_place_60 ?_
      exact j63 (a49.1, a49.2, a49.1.2.2.1) _ _ _ hP hS (lv_sub hl [1, 2, 3, 0] rfl) hM
    · have hM := if_pp hc hM
      refine lv_iload_n hx hb dX9_place_55 rfl (lv_at hl 3 rfl) ?_
      refine lv_goto (tgt := 63) hx hb dX9_place_56 (by decide) ?_
      exact j63 (a49.1, a49.2, x2) _ _ _ hP hS (lv_sub hl [1, 2, 3, 0] rfl) hM
  refine lv_aload_n hx hb dX9_place_0 rfl (lv_at hl 0 rfl) ?_
  refine lv_iload_n hx hb dX9_place_1 rfl (lv_at hl 2 rfl) ?_
  obtain ⟨z2, hcr, hM⟩ := ob_s hM
  refine res_i0 F hP hS rfl [0, 1, 2, 3, 4, 5, 6, 7, 8, 9, 10, 11, 12] rfl rfl (runV_of (n := 1) (As := [.int x2]) (rest := []) F hP hS rfl [0, 1, 2, 3, 4, 5, 6, 7, 8, 9, 10, 11, 12] rfl rfl (c_X9_isCell l dC dI cI cC cZ sa ad mb mo mn mg mf mt mz ml mi x2 hcr _) gX9_place_X9_isCell rfl (by decide +kernel) ⟨Nat.le_of_ble_eq_true rfl, Nat.le_of_ble_eq_true rfl⟩ 0 9 rfl rfl rfl hl.1 rfl (Nat.le_of_ble_eq_true rfl) dX9_place_2 ⟨Nat.zero_le _, Nat.zero_le _⟩) (fun H locs hP hS => ?_)
  refine lv_if_ne (tgt := 10) hx hb dX9_place_5 (by decide) (fun hc => ?_) (fun hc => ?_)
  · have hM := if_nn hc hM
    refine lv_iload_n hx hb dX9_place_10 rfl (lv_at hl 1 rfl) ?_
    refine lv_i2l (v := x1.toInt64) hx hb dX9_place_11 rfl ?_
    refine lv_lconst (v := 0) hx hb dX9_place_12 (by decide) ?_
    refine lv_lconst (v := 1) hx hb dX9_place_13 (by decide) ?_
    obtain ⟨z14, hcr, hM⟩ := ob_s hM
    refine res_i0 F hP hS rfl [] rfl rfl (runS_of (n := 3) (As := [.long x1.toInt64, .long (0 : Int64), .long (1 : Int64)]) (rest := []) F hP hS rfl [] rfl rfl (c_X9_in l dC dI cI cC cZ sa x1.toInt64 (0 : Int64) (1 : Int64) hcr _) gX9_place_X9_in rfl (by decide +kernel) ⟨Nat.le_of_ble_eq_true rfl, Nat.le_of_ble_eq_true rfl⟩ rfl hl.1 rfl (Nat.le_of_ble_eq_true rfl) dX9_place_14 ⟨Nat.zero_le _, Nat.zero_le _⟩) (fun H locs hP hS => ?_)
    refine lv_if_ne (tgt := 23) hx hb dX9_place_17 (by decide) (fun hc => ?_) (fun hc => ?_)
    · have hM := if_nn hc hM
      refine lv_aload_n hx hb dX9_place_23 rfl (lv_at hl 0 rfl) ?_
      refine lv_iload_n hx hb dX9_place_24 rfl (lv_at hl 2 rfl) ?_
      obtain ⟨z25, hcr, hM⟩ := ob_s hM
      refine res_i0 F hP hS rfl [0, 1, 2, 3, 4, 5, 6, 7, 8, 9, 10, 11, 12] rfl rfl (runV_of (n := 1) (As := [.int x2]) (rest := []) F hP hS rfl [0, 1, 2, 3, 4, 5, 6, 7, 8, 9, 10, 11, 12] rfl rfl (c_X9_isWall l dC dI cI cC cZ sa ad mb mo mn mg mf mt mz ml mi x2 hcr _) gX9_place_X9_isWall rfl (by decide +kernel) ⟨Nat.le_of_ble_eq_true rfl, Nat.le_of_ble_eq_true rfl⟩ 0 9 rfl rfl rfl hl.1 rfl (Nat.le_of_ble_eq_true rfl) dX9_place_25 ⟨Nat.zero_le _, Nat.zero_le _⟩) (fun H locs hP hS => ?_)
      refine lv_if_eq (tgt := 34) hx hb dX9_place_28 (by decide) (fun hc => ?_) (fun hc => ?_)
      · have hM := if_pp hc hM
        refine lv_iload_n hx hb dX9_place_34 rfl (lv_at hl 1 rfl) ?_
        refine lv_if_ne (tgt := 45) hx hb dX9_place_35 (by decide) (fun hc => ?_) (fun hc => ?_)
        · have hM := if_nn hc hM
          refine lv_aload_n hx hb dX9_place_45 rfl (lv_at hl 0 rfl) ?_
          refine g_get (ci := 9) (C := RX9) (T := TX9) (N := 32) (v := .int mb.2.2.2.1) F hP 0 rfl rfl inX9_place_X9 4 (by decide) (List.mem_of_getElem? (i := 2) rfl) rfl dX9_place_46 ?_
          exact j49 (mb, mb.2.2.2.1) _ _ _ hP hS (lv_sub hl [0, 1, 2] rfl) hM
        · have hM := if_pp hc hM
          refine lv_aload_n hx hb dX9_place_38 rfl (lv_at hl 0 rfl) ?_
          refine g_get (ci := 9) (C := RX9) (T := TX9) (N := 32) (v := .int mb.2.2.1) F hP 0 rfl rfl inX9_place_X9 3 (by decide) (List.mem_of_getElem? (i := 1) rfl) rfl dX9_place_39 ?_
          refine lv_goto (tgt := 49) hx hb dX9_place_42 (by decide) ?_
          exact j49 (mb, mb.2.2.1) _ _ _ hP hS (lv_sub hl [0, 1, 2] rfl) hM
      · have hM := if_nn hc hM
        refine lv_bipush (v := -3) hx hb dX9_place_31 (by decide) ?_
        exact ret_i hx hb hr hlk dX9_place_33 hM hP hS
    · have hM := if_pp hc hM
      refine lv_bipush (v := -2) hx hb dX9_place_20 (by decide) ?_
      exact ret_i hx hb hr hlk dX9_place_22 hM hP hS
  · have hM := if_pp hc hM
    refine lv_iconst (v := -1) hx hb dX9_place_8 (by decide) ?_
    exact ret_i hx hb hr hlk dX9_place_9 hM hP hS
theorem inX9_post_X9 : ∀ w ∈ wsX90, w ∈ wsX9_post := fun w h => List.mem_cons_of_mem _ (List.mem_append_right _ h)
set_option maxHeartbeats 4000000 in
set_option maxRecDepth 100000 in
theorem c_X9_post (l : Launch) (dC : Nat → ClassId) (dI : Nat → Nat → Nat) (cI cC cZ : ClassId) (sa : Nat → Nat) (ad : Nat → Nat) (mb : BT) (mo : OT) (mn : NT) (mg : GT) (mf : AR) (mt : TT) (mz : AR) (ml : LT) (mi : IT) (x1 : Int32) {res : Int32 × BT} (hM : M_X9_post mb x1 = some res) : CTi l (dC, dI) [(cI, .int), (cC, .char), (cZ, .boolean)] sa yX9_post wsX9_post (rmd 7) [.ref (ad 0), .int x1] (wM cI cZ ad mb mo mn mg mf mt mz ml mi) (fun (uu : BT) => (wM cI cZ ad uu mo mn mg mf mt mz ml mi)) res := by
  refine CTi.enter (own := RX9) (cc := cX9_post) (maxL := 6) (ret := (some .int)) (by decide) rfl rfl (Nat.le_of_ble_eq_true rfl) ?_
  intro pr e s m below meth c A F hr hlk hP hS ls hl
  obtain ⟨⟨hx, hb, hml, hown, hts⟩, hK, hDD, hA, hKC⟩ := id F
  have hl : lv_has ls 6 [(0, .ref (ad 0)), (1, .int x1)] := hl
  have hP : va_P (dC, dI) vwCl (wM cI cZ ad mb mo mn mg mf mt mz ml mi) s.heap := hP
  unfold M_X9_post at hM
  refine kloop (α := BT × Int32 × Int32 × Int32) (res := res) (fun k a => M_X9_post_56 x1 k a) (fun rec a => M_X9_post_56b x1 rec a) (fun _ => rfl) (fun _ _ => rfl) F (fun a => (wM cI cZ ad a.1 mo mn mg mf mt mz ml mi)) (fun a => [(0, .ref (ad 0)), (1, .int x1), (2, .int a.2.1), (3, .int a.2.2.1), (4, .int a.2.2.2)]) (fun a => []) 56 ?_ (fun j56 => ?_)
  · intro rc56 ih56 a56 H locs ls hP hS hl hM
    unfold M_X9_post_56b at hM
    refine kblk (α := BT × Int32 × Int32 × Int32) (res := res) (fun a => M_X9_post_143 x1 rc56 a) F (fun a => (wM cI cZ ad a.1 mo mn mg mf mt mz ml mi)) (fun a => [(0, .ref (ad 0)), (1, .int x1), (2, .int a.2.1), (3, .int a.2.2.1), (4, .int a.2.2.2)]) (fun a => []) 143 ?_ (fun j143 => ?_)
    · intro a143 H locs ls hP hS hl hM
      unfold M_X9_post_143 at hM
      refine lv_iinc (v := (a143.2.2.2 + (1 : Int32))) (lv' := [(4, .int (a143.2.2.2 + (1 : Int32))), (0, .ref (ad 0)), (1, .int x1), (2, .int a143.2.1), (3, .int a143.2.2.1)]) hx hb dX9_post_143 hl (k := 4) rfl rfl (by decide) rfl (fun ls hl => ?_)
      refine lv_goto (tgt := 56) hx hb dX9_post_146 (by decide) ?_
      exact ih56 (a143.1, a143.2.1, a143.2.2.1, (a143.2.2.2 + (1 : Int32))) _ _ _ hP hS (lv_sub hl [1, 2, 3, 4, 0] rfl) hM
    refine kblk (α := BT × Int32 × Int32 × Int32) (res := res) (fun a => M_X9_post_142 x1 rc56 a) F (fun a => (wM cI cZ ad a.1 mo mn mg mf mt mz ml mi)) (fun a => [(0, .ref (ad 0)), (1, .int x1), (2, .int a.2.1), (4, .int a.2.2.1)]) (fun a => [.int a.2.2.2]) 142 ?_ (fun j142 => ?_)
    · intro a142 H locs ls hP hS hl hM
      unfold M_X9_post_142 at hM
      refine lv_istore_n (lv' := [(3, .int a142.2.2.2), (0, .ref (ad 0)), (1, .int x1), (2, .int a142.2.1), (4, .int a142.2.2.1)]) hx hb dX9_post_142 rfl hl (by decide) rfl (fun ls hl => ?_)
      exact j143 (a142.1, a142.2.1, a142.2.2.2, a142.2.2.1) _ _ _ hP hS (lv_sub hl [1, 2, 3, 0, 4] rfl) hM
    refine kblk (α := BT × Int32 × Int32 × Int32 × Int32) (res := res) (fun a => M_X9_post_129 x1 rc56 a) F (fun a => (wM cI cZ ad a.1 mo mn mg mf mt mz ml mi)) (fun a => [(0, .ref (ad 0)), (1, .int x1), (3, .int a.2.1), (4, .int a.2.2.1), (5, .int a.2.2.2.1)]) (fun a => [.int a.2.2.2.2]) 129 ?_ (fun j129 => ?_)
    · intro a129 H locs ls hP hS hl hM
      unfold M_X9_post_129 at hM
      refine lv_istore_n (lv' := [(2, .int a129.2.2.2.2), (0, .ref (ad 0)), (1, .int x1), (3, .int a129.2.1), (4, .int a129.2.2.1), (5, .int a129.2.2.2.1)]) hx hb dX9_post_129 rfl hl (by decide) rfl (fun ls hl => ?_)
      refine lv_iload hx hb dX9_post_130 (lv_at hl 5 rfl) ?_
      refine lv_iload_n hx hb dX9_post_132 rfl (lv_at hl 3 rfl) ?_
      refine lv_icmp_ge (tgt := 141) hx hb dX9_post_133 (by decide) (fun hc => ?_) (fun hc => ?_)
      · have hM := if_pp hc hM
        refine lv_iload_n hx hb dX9_post_141 rfl (lv_at hl 3 rfl) ?_
        exact j142 (a129.1, a129.2.2.2.2, a129.2.2.1, a129.2.1) _ _ _ hP hS (lv_sub hl [1, 2, 0, 4] rfl) hM
      · have hM := if_nn hc hM
        refine lv_iload hx hb dX9_post_136 (lv_at hl 5 rfl) ?_
        refine lv_goto (tgt := 142) hx hb dX9_post_138 (by decide) ?_
        exact j142 (a129.1, a129.2.2.2.2, a129.2.2.1, a129.2.2.2.1) _ _ _ hP hS (lv_sub hl [1, 2, 0, 4] rfl) hM
    refine lv_iload hx hb dX9_post_56 (lv_at hl 4 rfl) ?_
    refine lv_iconst (v := 4) hx hb dX9_post_58 (by decide) ?_
    refine lv_aload_n hx hb dX9_post_59 rfl (lv_at hl 0 rfl) ?_
    obtain ⟨z60, hcr, hM⟩ := ob_s hM
    refine res_i0 F hP hS rfl [0, 1, 2, 3, 4, 5, 6, 7, 8, 9, 10, 11, 12] rfl rfl (runV_of (n := 0) (As := []) (rest := [.int (4 : Int32), .int a56.2.2.2]) F hP hS rfl [0, 1, 2, 3, 4, 5, 6, 7, 8, 9, 10, 11, 12] rfl rfl (c_X9_cells l dC dI cI cC cZ sa ad a56.1 mo mn mg mf mt mz ml mi hcr _) gX9_post_X9_cells rfl (by decide +kernel) ⟨Nat.le_of_ble_eq_true rfl, Nat.le_of_ble_eq_true rfl⟩ 0 9 rfl rfl rfl hl.1 rfl (Nat.le_of_ble_eq_true rfl) dX9_post_60 ⟨Nat.zero_le _, Nat.zero_le _⟩) (fun H locs hP hS => ?_)
    refine lv_imul hx hb dX9_post_63 ?_
    refine lv_icmp_ge (tgt := 149) hx hb dX9_post_64 (by decide) (fun hc => ?_) (fun hc => ?_)
    · have hM := if_pp hc hM
      refine lv_aload_n hx hb dX9_post_149 rfl (lv_at hl 0 rfl) ?_
      refine lv_dup hx hb dX9_post_150 rfl ?_
      refine g_get (ci := 9) (C := RX9) (T := TX9) (N := 32) (v := .int a56.1.2.2.2.2.1) F hP 0 rfl rfl inX9_post_X9 8 (by decide) (List.mem_of_getElem? (i := 1) rfl) rfl dX9_post_151 ?_
      refine lv_iconst (v := 1) hx hb dX9_post_154 (by decide) ?_
      refine lv_isub hx hb dX9_post_155 ?_
      refine g_put (ws' := (wM cI cZ ad (a56.1.1, a56.1.2.1, a56.1.2.2.1, a56.1.2.2.2.1, (a56.1.2.2.2.2.1 - (1 : Int32)), a56.1.2.2.2.2.2.1, a56.1.2.2.2.2.2.2.1, a56.1.2.2.2.2.2.2.2.1, a56.1.2.2.2.2.2.2.2.2.1, a56.1.2.2.2.2.2.2.2.2.2) mo mn mg mf mt mz ml mi)) (ci := 9) (C := RX9) (T := TX9) (N := 32) (v := .int (a56.1.2.2.2.2.1 - (1 : Int32))) (ty := .int) F hP hS rfl tyX9 tyX9_ok nmX9 0 rfl rfl inX9_post_X9 8 (by decide) (List.mem_of_getElem? (i := 1) rfl) rfl (by decide +kernel) rfl rfl (Nat.le_of_ble_eq_true rfl) dX9_post_156 rfl (fun H locs hP hS => ?_)
      refine lv_iload_n hx hb dX9_post_159 rfl (lv_at hl 1 rfl) ?_
      refine lv_if_ne (tgt := 167) hx hb dX9_post_160 (by decide) (fun hc => ?_) (fun hc => ?_)
      · have hM := if_nn hc hM
        refine lv_iload_n hx hb dX9_post_167 rfl (lv_at hl 3 rfl) ?_
        exact ret_i hx hb hr hlk dX9_post_168 hM hP hS
      · have hM := if_pp hc hM
        refine lv_iload_n hx hb dX9_post_163 rfl (lv_at hl 2 rfl) ?_
        refine lv_goto (tgt := 168) hx hb dX9_post_164 (by decide) ?_
        exact ret_i hx hb hr hlk dX9_post_168 hM hP hS
    · have hM := if_nn hc hM
      refine lv_aload_n hx hb dX9_post_67 rfl (lv_at hl 0 rfl) ?_
      refine lv_iload hx hb dX9_post_68 (lv_at hl 4 rfl) ?_
      refine lv_iconst (v := 4) hx hb dX9_post_70 (by decide) ?_
      obtain ⟨hne, hM⟩ := if_ok hM
      refine lv_idiv hx hb dX9_post_71 hne ?_
      obtain ⟨z72, hcr, hM⟩ := ob_s hM
      refine res_i0 F hP hS rfl [0, 1, 2, 3, 4, 5, 6, 7, 8, 9, 10, 11, 12] rfl rfl (runV_of (n := 1) (As := [.int (a56.2.2.2 / (4 : Int32))]) (rest := []) F hP hS rfl [0, 1, 2, 3, 4, 5, 6, 7, 8, 9, 10, 11, 12] rfl rfl (c_X9_isWall l dC dI cI cC cZ sa ad a56.1 mo mn mg mf mt mz ml mi (a56.2.2.2 / (4 : Int32)) hcr _) gX9_post_X9_isWall rfl (by decide +kernel) ⟨Nat.le_of_ble_eq_true rfl, Nat.le_of_ble_eq_true rfl⟩ 0 9 rfl rfl rfl hl.1 rfl (Nat.le_of_ble_eq_true rfl) dX9_post_72 ⟨Nat.zero_le _, Nat.zero_le _⟩) (fun H locs hP hS => ?_)
      refine lv_if_ne (tgt := 143) hx hb dX9_post_75 (by decide) (fun hc => ?_) (fun hc => ?_)
      · have hM := if_nn hc hM
        exact j143 (a56.1, a56.2.1, a56.2.2.1, a56.2.2.2) _ _ _ hP hS (lv_sub hl [0, 1, 2, 3, 4] rfl) hM
      · have hM := if_pp hc hM
        refine lv_aload_n hx hb dX9_post_78 rfl (lv_at hl 0 rfl) ?_
        refine g_get (ci := 9) (C := RX9) (T := TX9) (N := 32) (v := .ref (ad 2)) F hP 0 rfl rfl inX9_post_X9 5 (by decide) (List.mem_of_getElem? (i := 3) rfl) rfl dX9_post_79 ?_
        refine lv_aload_n hx hb dX9_post_82 rfl (lv_at hl 0 rfl) ?_
        refine g_get (ci := 9) (C := RX9) (T := TX9) (N := 32) (v := .int a56.1.2.2.2.2.1) F hP 0 rfl rfl inX9_post_X9 8 (by decide) (List.mem_of_getElem? (i := 1) rfl) rfl dX9_post_83 ?_
        refine lv_iconst (v := 1) hx hb dX9_post_86 (by decide) ?_
        refine lv_isub hx hb dX9_post_87 ?_
        refine lv_iload hx hb dX9_post_88 (lv_at hl 4 rfl) ?_
        refine lv_iconst (v := 4) hx hb dX9_post_90 (by decide) ?_
        obtain ⟨hne, hM⟩ := if_ok hM
        refine lv_idiv hx hb dX9_post_91 hne ?_
        obtain ⟨hin, hM⟩ := if_ok hM
        refine g_iast (ws' := (wM cI cZ ad (a56.1.1, a56.1.2.1, a56.1.2.2.1, a56.1.2.2.2.1, a56.1.2.2.2.2.1, a56.1.2.2.2.2.2.1, a56.1.2.2.2.2.2.2.1, (upd a56.1.2.2.2.2.2.2.2.1 (a56.1.2.2.2.2.1 - (1 : Int32)).toNatClampNeg (a56.2.2.2 / (4 : Int32))), a56.1.2.2.2.2.2.2.2.2.1, a56.1.2.2.2.2.2.2.2.2.2) mo mn mg mf mt mz ml mi)) F hP hS rfl 2 0 rfl rfl hin dX9_post_92 rfl (fun H locs hP hS => ?_)
        refine lv_aload_n hx hb dX9_post_93 rfl (lv_at hl 0 rfl) ?_
        refine g_get (ci := 9) (C := RX9) (T := TX9) (N := 32) (v := .ref (ad 3)) F hP 0 rfl rfl inX9_post_X9 6 (by decide) (List.mem_of_getElem? (i := 4) rfl) rfl dX9_post_94 ?_
        refine lv_aload_n hx hb dX9_post_97 rfl (lv_at hl 0 rfl) ?_
        refine g_get (ci := 9) (C := RX9) (T := TX9) (N := 32) (v := .int a56.1.2.2.2.2.1) F hP 0 rfl rfl inX9_post_X9 8 (by decide) (List.mem_of_getElem? (i := 1) rfl) rfl dX9_post_98 ?_
        refine lv_iconst (v := 1) hx hb dX9_post_101 (by decide) ?_
        refine lv_isub hx hb dX9_post_102 ?_
        refine lv_iload hx hb dX9_post_103 (lv_at hl 4 rfl) ?_
        refine lv_iconst (v := 4) hx hb dX9_post_105 (by decide) ?_
        obtain ⟨hne, hM⟩ := if_ok hM
        refine lv_irem hx hb dX9_post_106 hne ?_
        obtain ⟨hin, hM⟩ := if_ok hM
        refine g_iast (ws' := (wM cI cZ ad (a56.1.1, a56.1.2.1, a56.1.2.2.1, a56.1.2.2.2.1, a56.1.2.2.2.2.1, a56.1.2.2.2.2.2.1, a56.1.2.2.2.2.2.2.1, (upd a56.1.2.2.2.2.2.2.2.1 (a56.1.2.2.2.2.1 - (1 : Int32)).toNatClampNeg (a56.2.2.2 / (4 : Int32))), (upd a56.1.2.2.2.2.2.2.2.2.1 (a56.1.2.2.2.2.1 - (1 : Int32)).toNatClampNeg (a56.2.2.2 - a56.2.2.2 / (4 : Int32) * (4 : Int32))), a56.1.2.2.2.2.2.2.2.2.2) mo mn mg mf mt mz ml mi)) F hP hS rfl 3 0 rfl rfl hin dX9_post_107 rfl (fun H locs hP hS => ?_)
        refine lv_aload_n hx hb dX9_post_108 rfl (lv_at hl 0 rfl) ?_
        obtain ⟨z109, hcr, hM⟩ := ob_s hM
        refine res_i0 F hP hS rfl [0, 1, 2, 3, 4, 5, 6, 7, 8, 9, 10, 11, 12] rfl rfl (runV_of (n := 0) (As := []) (rest := []) F hP hS rfl [0, 1, 2, 3, 4, 5, 6, 7, 8, 9, 10, 11, 12] rfl rfl (c_X9_bare l dC dI cI cC cZ sa ad (a56.1.1, a56.1.2.1, a56.1.2.2.1, a56.1.2.2.2.1, a56.1.2.2.2.2.1, a56.1.2.2.2.2.2.1, a56.1.2.2.2.2.2.2.1, (upd a56.1.2.2.2.2.2.2.2.1 (a56.1.2.2.2.2.1 - (1 : Int32)).toNatClampNeg (a56.2.2.2 / (4 : Int32))), (upd a56.1.2.2.2.2.2.2.2.2.1 (a56.1.2.2.2.2.1 - (1 : Int32)).toNatClampNeg (a56.2.2.2 - a56.2.2.2 / (4 : Int32) * (4 : Int32))), a56.1.2.2.2.2.2.2.2.2.2) mo mn mg mf mt mz ml mi hcr _) gX9_post_X9_bare rfl (by decide +kernel) ⟨Nat.le_of_ble_eq_true rfl, Nat.le_of_ble_eq_true rfl⟩ 0 9 rfl rfl rfl hl.1 rfl (Nat.le_of_ble_eq_true rfl) dX9_post_109 ⟨Nat.zero_le _, Nat.zero_le _⟩) (fun H locs hP hS => ?_)
        obtain ⟨z112, hcr, hM⟩ := ob_s hM
        refine res_i0 F hP hS rfl [] rfl rfl (runS_of (n := 1) (As := [.int z109]) (rest := []) F hP hS rfl [] rfl rfl (c_X9_ones l dC dI cI cC cZ sa z109 hcr _) gX9_post_X9_ones rfl (by decide +kernel) ⟨Nat.le_of_ble_eq_true rfl, Nat.le_of_ble_eq_true rfl⟩ rfl hl.1 rfl (Nat.le_of_ble_eq_true rfl) dX9_post_112 ⟨Nat.zero_le _, Nat.zero_le _⟩) (fun H locs hP hS => ?_)
        refine lv_istore (lv' := [(5, .int z112), (0, .ref (ad 0)), (1, .int x1), (2, .int a56.2.1), (3, .int a56.2.2.1), (4, .int a56.2.2.2)]) hx hb dX9_post_115 hl (by decide) rfl (fun ls hl => ?_)
        refine lv_iload hx hb dX9_post_117 (lv_at hl 0 rfl) ?_
        refine lv_iload_n hx hb dX9_post_119 rfl (lv_at hl 4 rfl) ?_
        refine lv_icmp_ge (tgt := 128) hx hb dX9_post_120 (by decide) (fun hc => ?_) (fun hc => ?_)
        · have hM := if_pp hc hM
          refine lv_iload_n hx hb dX9_post_128 rfl (lv_at hl 3 rfl) ?_
          exact j129 ((a56.1.1, a56.1.2.1, a56.1.2.2.1, a56.1.2.2.2.1, a56.1.2.2.2.2.1, a56.1.2.2.2.2.2.1, a56.1.2.2.2.2.2.2.1, (upd a56.1.2.2.2.2.2.2.2.1 (a56.1.2.2.2.2.1 - (1 : Int32)).toNatClampNeg (a56.2.2.2 / (4 : Int32))), (upd a56.1.2.2.2.2.2.2.2.2.1 (a56.1.2.2.2.2.1 - (1 : Int32)).toNatClampNeg (a56.2.2.2 - a56.2.2.2 / (4 : Int32) * (4 : Int32))), a56.1.2.2.2.2.2.2.2.2.2), a56.2.2.1, a56.2.2.2, z112, a56.2.1) _ _ _ hP hS (lv_sub hl [1, 2, 4, 5, 0] rfl) hM
        · have hM := if_nn hc hM
          refine lv_iload hx hb dX9_post_123 (lv_at hl 5 rfl) ?_
          refine lv_goto (tgt := 129) hx hb dX9_post_125 (by decide) ?_
          exact j129 ((a56.1.1, a56.1.2.1, a56.1.2.2.1, a56.1.2.2.2.1, a56.1.2.2.2.2.1, a56.1.2.2.2.2.2.1, a56.1.2.2.2.2.2.2.1, (upd a56.1.2.2.2.2.2.2.2.1 (a56.1.2.2.2.2.1 - (1 : Int32)).toNatClampNeg (a56.2.2.2 / (4 : Int32))), (upd a56.1.2.2.2.2.2.2.2.2.1 (a56.1.2.2.2.2.1 - (1 : Int32)).toNatClampNeg (a56.2.2.2 - a56.2.2.2 / (4 : Int32) * (4 : Int32))), a56.1.2.2.2.2.2.2.2.2.2), a56.2.2.1, a56.2.2.2, z112, a56.2.2.2) _ _ _ hP hS (lv_sub hl [1, 2, 4, 5, 0] rfl) hM
  refine lv_iload_n hx hb dX9_post_0 rfl (lv_at hl 1 rfl) ?_
  refine lv_i2l (v := x1.toInt64) hx hb dX9_post_1 rfl ?_
  refine lv_lconst (v := 0) hx hb dX9_post_2 (by decide) ?_
  refine lv_lconst (v := 1) hx hb dX9_post_3 (by decide) ?_
  obtain ⟨z4, hcr, hM⟩ := ob_s hM
  refine res_i0 F hP hS rfl [] rfl rfl (runS_of (n := 3) (As := [.long x1.toInt64, .long (0 : Int64), .long (1 : Int64)]) (rest := []) F hP hS rfl [] rfl rfl (c_X9_in l dC dI cI cC cZ sa x1.toInt64 (0 : Int64) (1 : Int64) hcr _) gX9_post_X9_in rfl (by decide +kernel) ⟨Nat.le_of_ble_eq_true rfl, Nat.le_of_ble_eq_true rfl⟩ rfl hl.1 rfl (Nat.le_of_ble_eq_true rfl) dX9_post_4 ⟨Nat.zero_le _, Nat.zero_le _⟩) (fun H locs hP hS => ?_)
  refine lv_if_ne (tgt := 13) hx hb dX9_post_7 (by decide) (fun hc => ?_) (fun hc => ?_)
  · have hM := if_nn hc hM
    refine lv_aload_n hx hb dX9_post_13 rfl (lv_at hl 0 rfl) ?_
    refine g_get (ci := 9) (C := RX9) (T := TX9) (N := 32) (v := .int mb.2.2.2.2.1) F hP 0 rfl rfl inX9_post_X9 8 (by decide) (List.mem_of_getElem? (i := 1) rfl) rfl dX9_post_14 ?_
    refine lv_iconst (v := 4) hx hb dX9_post_17 (by decide) ?_
    refine lv_icmp_ne (tgt := 24) hx hb dX9_post_18 (by decide) (fun hc => ?_) (fun hc => ?_)
    · have hM := if_nn hc hM
      refine lv_bipush (v := -6) hx hb dX9_post_24 (by decide) ?_
      refine lv_istore_n (lv' := [(2, .int (-6 : Int32)), (0, .ref (ad 0)), (1, .int x1)]) hx hb dX9_post_26 rfl hl (by decide) rfl (fun ls hl => ?_)
      refine lv_sipush (v := 1000) hx hb dX9_post_27 (by decide) ?_
      refine lv_istore_n (lv' := [(3, .int (1000 : Int32)), (2, .int (-6 : Int32)), (0, .ref (ad 0)), (1, .int x1)]) hx hb dX9_post_30 rfl hl (by decide) rfl (fun ls hl => ?_)
      refine lv_aload_n hx hb dX9_post_31 rfl (lv_at hl 2 rfl) ?_
      refine lv_dup hx hb dX9_post_32 rfl ?_
      refine g_get (ci := 9) (C := RX9) (T := TX9) (N := 32) (v := .int mb.2.2.2.2.1) F hP 0 rfl rfl inX9_post_X9 8 (by decide) (List.mem_of_getElem? (i := 1) rfl) rfl dX9_post_33 ?_
      refine lv_iconst (v := 1) hx hb dX9_post_36 (by decide) ?_
      refine lv_iadd hx hb dX9_post_37 ?_
      refine g_put (ws' := (wM cI cZ ad (mb.1, mb.2.1, mb.2.2.1, mb.2.2.2.1, (mb.2.2.2.2.1 + (1 : Int32)), mb.2.2.2.2.2.1, mb.2.2.2.2.2.2.1, mb.2.2.2.2.2.2.2.1, mb.2.2.2.2.2.2.2.2.1, mb.2.2.2.2.2.2.2.2.2) mo mn mg mf mt mz ml mi)) (ci := 9) (C := RX9) (T := TX9) (N := 32) (v := .int (mb.2.2.2.2.1 + (1 : Int32))) (ty := .int) F hP hS rfl tyX9 tyX9_ok nmX9 0 rfl rfl inX9_post_X9 8 (by decide) (List.mem_of_getElem? (i := 1) rfl) rfl (by decide +kernel) rfl rfl (Nat.le_of_ble_eq_true rfl) dX9_post_38 rfl (fun H locs hP hS => ?_)
      refine lv_aload_n hx hb dX9_post_41 rfl (lv_at hl 2 rfl) ?_
      refine g_get (ci := 9) (C := RX9) (T := TX9) (N := 32) (v := .ref (ad 4)) F hP 0 rfl rfl inX9_post_X9 7 (by decide) (List.mem_of_getElem? (i := 2) rfl) rfl dX9_post_42 ?_
      refine lv_aload_n hx hb dX9_post_45 rfl (lv_at hl 2 rfl) ?_
      refine g_get (ci := 9) (C := RX9) (T := TX9) (N := 32) (v := .int (mb.2.2.2.2.1 + (1 : Int32))) F hP 0 rfl rfl inX9_post_X9 8 (by decide) (List.mem_of_getElem? (i := 1) rfl) rfl dX9_post_46 ?_
      refine lv_iconst (v := 1) hx hb dX9_post_49 (by decide) ?_
      refine lv_isub hx hb dX9_post_50 ?_
      refine lv_iconst (v := 0) hx hb dX9_post_51 (by decide) ?_
      obtain ⟨hin, hM⟩ := if_ok hM
      refine g_iast (ws' := (wM cI cZ ad (mb.1, mb.2.1, mb.2.2.1, mb.2.2.2.1, (mb.2.2.2.2.1 + (1 : Int32)), mb.2.2.2.2.2.1, mb.2.2.2.2.2.2.1, mb.2.2.2.2.2.2.2.1, mb.2.2.2.2.2.2.2.2.1, (upd mb.2.2.2.2.2.2.2.2.2 ((mb.2.2.2.2.1 + (1 : Int32)) - (1 : Int32)).toNatClampNeg (0 : Int32))) mo mn mg mf mt mz ml mi)) F hP hS rfl 4 0 rfl rfl hin dX9_post_52 rfl (fun H locs hP hS => ?_)
      refine lv_iconst (v := 0) hx hb dX9_post_53 (by decide) ?_
      refine lv_istore (lv' := [(4, .int (0 : Int32)), (3, .int (1000 : Int32)), (2, .int (-6 : Int32)), (0, .ref (ad 0)), (1, .int x1)]) hx hb dX9_post_54 hl (by decide) rfl (fun ls hl => ?_)
      exact j56 200 ((mb.1, mb.2.1, mb.2.2.1, mb.2.2.2.1, (mb.2.2.2.2.1 + (1 : Int32)), mb.2.2.2.2.2.1, mb.2.2.2.2.2.2.1, mb.2.2.2.2.2.2.2.1, mb.2.2.2.2.2.2.2.2.1, (upd mb.2.2.2.2.2.2.2.2.2 ((mb.2.2.2.2.1 + (1 : Int32)) - (1 : Int32)).toNatClampNeg (0 : Int32))), (-6 : Int32), (1000 : Int32), (0 : Int32)) _ _ _ hP hS (lv_sub hl [3, 4, 2, 1, 0] rfl) hM
    · have hM := if_pp hc hM
      refine lv_bipush (v := -4) hx hb dX9_post_21 (by decide) ?_
      exact ret_i hx hb hr hlk dX9_post_23 hM hP hS
  · have hM := if_pp hc hM
    refine lv_bipush (v := -2) hx hb dX9_post_10 (by decide) ?_
    exact ret_i hx hb hr hlk dX9_post_12 hM hP hS
theorem inX9_restore_X9 : ∀ w ∈ wsX90, w ∈ wsX9_restore := fun w h => List.mem_cons_of_mem _ (List.mem_append_right _ h)
set_option maxHeartbeats 4000000 in
set_option maxRecDepth 100000 in
theorem c_X9_restore (l : Launch) (dC : Nat → ClassId) (dI : Nat → Nat → Nat) (cI cC cZ : ClassId) (sa : Nat → Nat) (ad : Nat → Nat) (mb : BT) (mo : OT) (mn : NT) (mg : GT) (mf : AR) (mt : TT) (mz : AR) (ml : LT) (mi : IT) (x1 : Int32) {res : Int32 × BT × IT} (hM : M_X9_restore mb mi x1 = some res) : CTi l (dC, dI) [(cI, .int), (cC, .char), (cZ, .boolean)] sa yX9_restore wsX9_restore (rmd 3) [.ref (ad 0), .int x1] (wM cI cZ ad mb mo mn mg mf mt mz ml mi) (fun (uu : BT × IT) => (wM cI cZ ad uu.1 mo mn mg mf mt mz ml uu.2)) res := by
  refine CTi.enter (own := RX9) (cc := cX9_restore) (maxL := 2) (ret := (some .int)) (by decide) rfl rfl (Nat.le_of_ble_eq_true rfl) ?_
  intro pr e s m below meth c A F hr hlk hP hS ls hl
  obtain ⟨⟨hx, hb, hml, hown, hts⟩, hK, hDD, hA, hKC⟩ := id F
  have hl : lv_has ls 2 [(0, .ref (ad 0)), (1, .int x1)] := hl
  have hP : va_P (dC, dI) vwCl (wM cI cZ ad mb mo mn mg mf mt mz ml mi) s.heap := hP
  unfold M_X9_restore at hM
  refine lv_iload_n hx hb dX9_restore_0 rfl (lv_at hl 1 rfl) ?_
  refine lv_i2l (v := x1.toInt64) hx hb dX9_restore_1 rfl ?_
  refine lv_lconst (v := 0) hx hb dX9_restore_2 (by decide) ?_
  refine lv_lconst (v := 1) hx hb dX9_restore_3 (by decide) ?_
  obtain ⟨z4, hcr, hM⟩ := ob_s hM
  refine res_i0 F hP hS rfl [] rfl rfl (runS_of (n := 3) (As := [.long x1.toInt64, .long (0 : Int64), .long (1 : Int64)]) (rest := []) F hP hS rfl [] rfl rfl (c_X9_in l dC dI cI cC cZ sa x1.toInt64 (0 : Int64) (1 : Int64) hcr _) gX9_restore_X9_in rfl (by decide +kernel) ⟨Nat.le_of_ble_eq_true rfl, Nat.le_of_ble_eq_true rfl⟩ rfl hl.1 rfl (Nat.le_of_ble_eq_true rfl) dX9_restore_4 ⟨Nat.zero_le _, Nat.zero_le _⟩) (fun H locs hP hS => ?_)
  refine lv_if_ne (tgt := 13) hx hb dX9_restore_7 (by decide) (fun hc => ?_) (fun hc => ?_)
  · have hM := if_nn hc hM
    refine lv_aload_n hx hb dX9_restore_13 rfl (lv_at hl 0 rfl) ?_
    refine g_get (ci := 9) (C := RX9) (T := TX9) (N := 32) (v := .ref (ad 12)) F hP 0 rfl rfl inX9_restore_X9 29 (by decide) (List.mem_of_getElem? (i := 1) rfl) rfl dX9_restore_14 ?_
    refine lv_iload_n hx hb dX9_restore_17 rfl (lv_at hl 1 rfl) ?_
    obtain ⟨hin, hM⟩ := if_ok hM
    refine va_zald hx hb hK hP 12 2 rfl rfl hin dX9_restore_18 ?_
    refine lv_if_ne (tgt := 25) hx hb dX9_restore_19 (by decide) (fun hc => ?_) (fun hc => ?_)
    · have hM := if_nn hc hM
      refine lv_aload_n hx hb dX9_restore_25 rfl (lv_at hl 0 rfl) ?_
      refine lv_bipush (v := 40) hx hb dX9_restore_26 (by decide) ?_
      refine lv_iload_n hx hb dX9_restore_28 rfl (lv_at hl 1 rfl) ?_
      refine lv_imul hx hb dX9_restore_29 ?_
      refine g_put (ws' := (wM cI cZ ad mb mo mn mg mf mt mz ml (((40 : Int32) * x1), mi.2.1, mi.2.2.1, mi.2.2.2))) (ci := 9) (C := RX9) (T := TX9) (N := 32) (v := .int ((40 : Int32) * x1)) (ty := .int) F hP hS rfl tyX9 tyX9_ok nmX9 0 rfl rfl inX9_restore_X9 30 (by decide) (List.mem_of_getElem? (i := 2) rfl) rfl (by decide +kernel) rfl rfl (Nat.le_of_ble_eq_true rfl) dX9_restore_30 rfl (fun H locs hP hS => ?_)
      refine lv_aload_n hx hb dX9_restore_33 rfl (lv_at hl 0 rfl) ?_
      refine lv_iconst (v := 0) hx hb dX9_restore_34 (by decide) ?_
      obtain ⟨hnz, hM⟩ := if_ok hM
      refine g_put (ws' := (wM cI cZ ad mb mo mn mg mf mt mz ml (((40 : Int32) * x1), (0 : Int32), mi.2.2.1, mi.2.2.2))) (ci := 9) (C := RX9) (T := TX9) (N := 32) (v := .int (0 : Int32)) (ty := .boolean) F hP hS rfl tyX9 tyX9_ok nmX9 0 rfl rfl inX9_restore_X9 31 (by decide) (List.mem_of_getElem? (i := 3) rfl) rfl (by decide +kernel) (nar_z hnz) (fit_z hnz) (Nat.le_of_ble_eq_true rfl) dX9_restore_35 rfl (fun H locs hP hS => ?_)
      refine lv_aload_n hx hb dX9_restore_38 rfl (lv_at hl 0 rfl) ?_
      obtain ⟨z39, hcr, hM⟩ := ob_s hM
      refine res_v (ws' := (wM cI cZ ad z39.1 mo mn mg mf mt mz ml z39.2)) F hP hS rfl [0, 1, 2, 3, 4, 5, 6, 7, 8, 9, 10, 11, 12] rfl rfl rfl (runV_of (n := 0) (As := []) (rest := []) F hP hS rfl [0, 1, 2, 3, 4, 5, 6, 7, 8, 9, 10, 11, 12] rfl rfl (c_X9_passAll l dC dI cI cC cZ sa ad mb mo mn mg mf mt mz ml (((40 : Int32) * x1), (0 : Int32), mi.2.2.1, mi.2.2.2) hcr _) gX9_restore_X9_passAll rfl (by decide +kernel) ⟨Nat.le_of_ble_eq_true rfl, Nat.le_of_ble_eq_true rfl⟩ 0 9 rfl rfl rfl hl.1 rfl (Nat.le_of_ble_eq_true rfl) dX9_restore_39 ⟨Nat.zero_le _, Nat.zero_le _⟩) rfl (fun H locs hP hS => ?_)
      refine lv_iconst (v := 1) hx hb dX9_restore_42 (by decide) ?_
      exact ret_i hx hb hr hlk dX9_restore_43 hM hP hS
    · have hM := if_pp hc hM
      refine lv_bipush (v := -3) hx hb dX9_restore_22 (by decide) ?_
      exact ret_i hx hb hr hlk dX9_restore_24 hM hP hS
  · have hM := if_pp hc hM
    refine lv_bipush (v := -2) hx hb dX9_restore_10 (by decide) ?_
    exact ret_i hx hb hr hlk dX9_restore_12 hM hP hS
theorem inX9_safe_X9 : ∀ w ∈ wsX90, w ∈ wsX9_safe := fun w h => List.mem_cons_of_mem _ (List.mem_append_right _ h)
set_option maxHeartbeats 4000000 in
set_option maxRecDepth 100000 in
theorem c_X9_safe (l : Launch) (dC : Nat → ClassId) (dI : Nat → Nat → Nat) (cI cC cZ : ClassId) (sa : Nat → Nat) (ad : Nat → Nat) (mb : BT) (mo : OT) (mn : NT) (mg : GT) (mf : AR) (mt : TT) (mz : AR) (ml : LT) (mi : IT) (x1 : Int32) {res : Int32 × AR × TT} (hM : M_X9_safe mb mf mt x1 = some res) : CTi l (dC, dI) [(cI, .int), (cC, .char), (cZ, .boolean)] sa yX9_safe wsX9_safe (rmd 7) [.ref (ad 0), .int x1] (wM cI cZ ad mb mo mn mg mf mt mz ml mi) (fun (uu : AR × TT) => (wM cI cZ ad mb mo mn mg uu.1 uu.2 mz ml mi)) res := by
  refine CTi.enter (own := RX9) (cc := cX9_safe) (maxL := 4) (ret := (some .int)) (by decide) rfl rfl (Nat.le_of_ble_eq_true rfl) ?_
  intro pr e s m below meth c A F hr hlk hP hS ls hl
  obtain ⟨⟨hx, hb, hml, hown, hts⟩, hK, hDD, hA, hKC⟩ := id F
  have hl : lv_has ls 4 [(0, .ref (ad 0)), (1, .int x1)] := hl
  have hP : va_P (dC, dI) vwCl (wM cI cZ ad mb mo mn mg mf mt mz ml mi) s.heap := hP
  unfold M_X9_safe at hM
  refine lv_aload_n hx hb dX9_safe_0 rfl (lv_at hl 0 rfl) ?_
  obtain ⟨z1, hcr, hM⟩ := ob_s hM
  refine res_i0 F hP hS rfl [0, 1, 2, 3, 4, 5, 6, 7, 8, 9, 10, 11, 12] rfl rfl (runV_of (n := 0) (As := []) (rest := []) F hP hS rfl [0, 1, 2, 3, 4, 5, 6, 7, 8, 9, 10, 11, 12] rfl rfl (c_X9_bare l dC dI cI cC cZ sa ad mb mo mn mg mf mt mz ml mi hcr _) gX9_safe_X9_bare rfl (by decide +kernel) ⟨Nat.le_of_ble_eq_true rfl, Nat.le_of_ble_eq_true rfl⟩ 0 9 rfl rfl rfl hl.1 rfl (Nat.le_of_ble_eq_true rfl) dX9_safe_1 ⟨Nat.zero_le _, Nat.zero_le _⟩) (fun H locs hP hS => ?_)
  refine lv_istore_n (lv' := [(2, .int z1), (0, .ref (ad 0)), (1, .int x1)]) hx hb dX9_safe_4 rfl hl (by decide) rfl (fun ls hl => ?_)
  refine lv_aload_n hx hb dX9_safe_5 rfl (lv_at hl 1 rfl) ?_
  refine lv_iconst (v := 0) hx hb dX9_safe_6 (by decide) ?_
  refine g_put (ws' := (wM cI cZ ad mb mo mn mg mf ((0 : Int32), mt.2) mz ml mi)) (ci := 9) (C := RX9) (T := TX9) (N := 32) (v := .int (0 : Int32)) (ty := .int) F hP hS rfl tyX9 tyX9_ok nmX9 0 rfl rfl inX9_safe_X9 24 (by decide) (List.mem_of_getElem? (i := 1) rfl) rfl (by decide +kernel) rfl rfl (Nat.le_of_ble_eq_true rfl) dX9_safe_7 rfl (fun H locs hP hS => ?_)
  refine lv_aload_n hx hb dX9_safe_10 rfl (lv_at hl 1 rfl) ?_
  refine lv_aload_n hx hb dX9_safe_11 rfl (lv_at hl 1 rfl) ?_
  refine g_get (ci := 9) (C := RX9) (T := TX9) (N := 32) (v := .int mb.2.2.2.1) F hP 0 rfl rfl inX9_safe_X9 4 (by decide) (List.mem_of_getElem? (i := 2) rfl) rfl dX9_safe_12 ?_
  refine lv_iload_n hx hb dX9_safe_15 rfl (lv_at hl 0 rfl) ?_
  obtain ⟨z16, hcr, hM⟩ := ob_s hM
  refine res_v (ws' := (wM cI cZ ad mb mo mn mg z16 ((0 : Int32), mt.2) mz ml mi)) F hP hS rfl [0, 1, 2, 3, 4, 5, 6, 7, 8, 9, 10, 11, 12] rfl rfl rfl (runV_of (n := 2) (As := [.int mb.2.2.2.1, .int z1]) (rest := []) F hP hS rfl [0, 1, 2, 3, 4, 5, 6, 7, 8, 9, 10, 11, 12] rfl rfl (c_X9_findFar l dC dI cI cC cZ sa ad mb mo mn mg mf ((0 : Int32), mt.2) mz ml mi mb.2.2.2.1 z1 hcr _) gX9_safe_X9_findFar rfl (by decide +kernel) ⟨Nat.le_of_ble_eq_true rfl, Nat.le_of_ble_eq_true rfl⟩ 0 9 rfl rfl rfl hl.1 rfl (Nat.le_of_ble_eq_true rfl) dX9_safe_16 ⟨Nat.zero_le _, Nat.zero_le _⟩) rfl (fun H locs hP hS => ?_)
  refine lv_aload_n hx hb dX9_safe_19 rfl (lv_at hl 1 rfl) ?_
  refine g_get (ci := 9) (C := RX9) (T := TX9) (N := 32) (v := .ref (ad 6)) F hP 0 rfl rfl inX9_safe_X9 22 (by decide) (List.mem_of_getElem? (i := 3) rfl) rfl dX9_safe_20 ?_
  refine lv_aload_n hx hb dX9_safe_23 rfl (lv_at hl 1 rfl) ?_
  refine g_get (ci := 9) (C := RX9) (T := TX9) (N := 32) (v := .int mb.2.2.1) F hP 0 rfl rfl inX9_safe_X9 3 (by decide) (List.mem_of_getElem? (i := 4) rfl) rfl dX9_safe_24 ?_
  obtain ⟨hin, hM⟩ := if_ok hM
  refine va_iald hx hb hK hP 6 0 rfl rfl hin dX9_safe_27 ?_
  refine lv_sipush (v := 1000) hx hb dX9_safe_28 (by decide) ?_
  refine lv_icmp_ne (tgt := 37) hx hb dX9_safe_31 (by decide) (fun hc => ?_) (fun hc => ?_)
  · have hM := if_nn hc hM
    refine lv_aload_n hx hb dX9_safe_37 rfl (lv_at hl 1 rfl) ?_
    refine lv_aload_n hx hb dX9_safe_38 rfl (lv_at hl 1 rfl) ?_
    refine g_get (ci := 9) (C := RX9) (T := TX9) (N := 32) (v := .int mb.2.2.1) F hP 0 rfl rfl inX9_safe_X9 3 (by decide) (List.mem_of_getElem? (i := 4) rfl) rfl dX9_safe_39 ?_
    refine lv_aload_n hx hb dX9_safe_42 rfl (lv_at hl 1 rfl) ?_
    refine g_get (ci := 9) (C := RX9) (T := TX9) (N := 32) (v := .int mb.2.2.2.1) F hP 0 rfl rfl inX9_safe_X9 4 (by decide) (List.mem_of_getElem? (i := 2) rfl) rfl dX9_safe_43 ?_
    refine lv_iload_n hx hb dX9_safe_46 rfl (lv_at hl 0 rfl) ?_
    obtain ⟨z47, hcr, hM⟩ := ob_s hM
    refine res_v (ws' := (wM cI cZ ad mb mo mn mg z47.1 z47.2 mz ml mi)) F hP hS rfl [0, 1, 2, 3, 4, 5, 6, 7, 8, 9, 10, 11, 12] rfl rfl rfl (runV_of (n := 3) (As := [.int mb.2.2.1, .int mb.2.2.2.1, .int z1]) (rest := []) F hP hS rfl [0, 1, 2, 3, 4, 5, 6, 7, 8, 9, 10, 11, 12] rfl rfl (c_X9_layWay l dC dI cI cC cZ sa ad mb mo mn mg z16 ((0 : Int32), mt.2) mz ml mi mb.2.2.1 mb.2.2.2.1 z1 hcr _) gX9_safe_X9_layWay rfl (by decide +kernel) ⟨Nat.le_of_ble_eq_true rfl, Nat.le_of_ble_eq_true rfl⟩ 0 9 rfl rfl rfl hl.1 rfl (Nat.le_of_ble_eq_true rfl) dX9_safe_47 ⟨Nat.zero_le _, Nat.zero_le _⟩) rfl (fun H locs hP hS => ?_)
    refine lv_iload_n hx hb dX9_safe_50 rfl (lv_at hl 0 rfl) ?_
    refine lv_iconst (v := 1) hx hb dX9_safe_51 (by decide) ?_
    refine lv_aload_n hx hb dX9_safe_52 rfl (lv_at hl 1 rfl) ?_
    refine g_get (ci := 9) (C := RX9) (T := TX9) (N := 32) (v := .int mb.2.2.1) F hP 0 rfl rfl inX9_safe_X9 3 (by decide) (List.mem_of_getElem? (i := 4) rfl) rfl dX9_safe_53 ?_
    refine lv_ishl hx hb dX9_safe_56 ?_
    refine lv_ior hx hb dX9_safe_57 ?_
    refine lv_istore_n (lv' := [(3, .int (z1 ||| ((1 : Int32) <<< (mb.2.2.1 &&& 31)))), (2, .int z1), (0, .ref (ad 0)), (1, .int x1)]) hx hb dX9_safe_58 rfl hl (by decide) rfl (fun ls hl => ?_)
    refine lv_aload_n hx hb dX9_safe_59 rfl (lv_at hl 2 rfl) ?_
    refine lv_aload_n hx hb dX9_safe_60 rfl (lv_at hl 2 rfl) ?_
    refine g_get (ci := 9) (C := RX9) (T := TX9) (N := 32) (v := .int mb.2.2.1) F hP 0 rfl rfl inX9_safe_X9 3 (by decide) (List.mem_of_getElem? (i := 4) rfl) rfl dX9_safe_61 ?_
    refine lv_iload_n hx hb dX9_safe_64 rfl (lv_at hl 0 rfl) ?_
    obtain ⟨z65, hcr, hM⟩ := ob_s hM
    refine res_v (ws' := (wM cI cZ ad mb mo mn mg z65 z47.2 mz ml mi)) F hP hS rfl [0, 1, 2, 3, 4, 5, 6, 7, 8, 9, 10, 11, 12] rfl rfl rfl (runV_of (n := 2) (As := [.int mb.2.2.1, .int (z1 ||| ((1 : Int32) <<< (mb.2.2.1 &&& 31)))]) (rest := []) F hP hS rfl [0, 1, 2, 3, 4, 5, 6, 7, 8, 9, 10, 11, 12] rfl rfl (c_X9_findFar l dC dI cI cC cZ sa ad mb mo mn mg z47.1 z47.2 mz ml mi mb.2.2.1 (z1 ||| ((1 : Int32) <<< (mb.2.2.1 &&& 31))) hcr _) gX9_safe_X9_findFar rfl (by decide +kernel) ⟨Nat.le_of_ble_eq_true rfl, Nat.le_of_ble_eq_true rfl⟩ 0 9 rfl rfl rfl hl.1 rfl (Nat.le_of_ble_eq_true rfl) dX9_safe_65 ⟨Nat.zero_le _, Nat.zero_le _⟩) rfl (fun H locs hP hS => ?_)
    refine lv_aload_n hx hb dX9_safe_68 rfl (lv_at hl 2 rfl) ?_
    refine g_get (ci := 9) (C := RX9) (T := TX9) (N := 32) (v := .ref (ad 6)) F hP 0 rfl rfl inX9_safe_X9 22 (by decide) (List.mem_of_getElem? (i := 3) rfl) rfl dX9_safe_69 ?_
    refine lv_aload_n hx hb dX9_safe_72 rfl (lv_at hl 2 rfl) ?_
    refine g_get (ci := 9) (C := RX9) (T := TX9) (N := 32) (v := .int mb.2.2.2.1) F hP 0 rfl rfl inX9_safe_X9 4 (by decide) (List.mem_of_getElem? (i := 2) rfl) rfl dX9_safe_73 ?_
    obtain ⟨hin, hM⟩ := if_ok hM
    refine va_iald hx hb hK hP 6 0 rfl rfl hin dX9_safe_76 ?_
    refine lv_sipush (v := 1000) hx hb dX9_safe_77 (by decide) ?_
    refine lv_icmp_ne (tgt := 86) hx hb dX9_safe_80 (by decide) (fun hc => ?_) (fun hc => ?_)
    · have hM := if_nn hc hM
      refine lv_aload_n hx hb dX9_safe_86 rfl (lv_at hl 2 rfl) ?_
      refine lv_aload_n hx hb dX9_safe_87 rfl (lv_at hl 2 rfl) ?_
      refine g_get (ci := 9) (C := RX9) (T := TX9) (N := 32) (v := .int mb.2.2.2.1) F hP 0 rfl rfl inX9_safe_X9 4 (by decide) (List.mem_of_getElem? (i := 2) rfl) rfl dX9_safe_88 ?_
      refine lv_aload_n hx hb dX9_safe_91 rfl (lv_at hl 2 rfl) ?_
      refine g_get (ci := 9) (C := RX9) (T := TX9) (N := 32) (v := .int mb.2.2.1) F hP 0 rfl rfl inX9_safe_X9 3 (by decide) (List.mem_of_getElem? (i := 4) rfl) rfl dX9_safe_92 ?_
      refine lv_iload_n hx hb dX9_safe_95 rfl (lv_at hl 0 rfl) ?_
      obtain ⟨z96, hcr, hM⟩ := ob_s hM
      refine res_v (ws' := (wM cI cZ ad mb mo mn mg z96.1 z96.2 mz ml mi)) F hP hS rfl [0, 1, 2, 3, 4, 5, 6, 7, 8, 9, 10, 11, 12] rfl rfl rfl (runV_of (n := 3) (As := [.int mb.2.2.2.1, .int mb.2.2.1, .int (z1 ||| ((1 : Int32) <<< (mb.2.2.1 &&& 31)))]) (rest := []) F hP hS rfl [0, 1, 2, 3, 4, 5, 6, 7, 8, 9, 10, 11, 12] rfl rfl (c_X9_layWay l dC dI cI cC cZ sa ad mb mo mn mg z65 z47.2 mz ml mi mb.2.2.2.1 mb.2.2.1 (z1 ||| ((1 : Int32) <<< (mb.2.2.1 &&& 31))) hcr _) gX9_safe_X9_layWay rfl (by decide +kernel) ⟨Nat.le_of_ble_eq_true rfl, Nat.le_of_ble_eq_true rfl⟩ 0 9 rfl rfl rfl hl.1 rfl (Nat.le_of_ble_eq_true rfl) dX9_safe_96 ⟨Nat.zero_le _, Nat.zero_le _⟩) rfl (fun H locs hP hS => ?_)
      refine lv_iload_n hx hb dX9_safe_99 rfl (lv_at hl 3 rfl) ?_
      refine lv_iconst (v := -1) hx hb dX9_safe_100 (by decide) ?_
      refine lv_icmp_ne (tgt := 111) hx hb dX9_safe_101 (by decide) (fun hc => ?_) (fun hc => ?_)
      · have hM := if_nn hc hM
        refine lv_iload_n hx hb dX9_safe_111 rfl (lv_at hl 3 rfl) ?_
        refine lv_i2l (v := x1.toInt64) hx hb dX9_safe_112 rfl ?_
        refine lv_lconst (v := 0) hx hb dX9_safe_113 (by decide) ?_
        refine lv_aload_n hx hb dX9_safe_114 rfl (lv_at hl 2 rfl) ?_
        refine g_get (ci := 9) (C := RX9) (T := TX9) (N := 32) (v := .int z96.2.1) F hP 0 rfl rfl inX9_safe_X9 24 (by decide) (List.mem_of_getElem? (i := 1) rfl) rfl dX9_safe_115 ?_
        refine lv_iconst (v := 1) hx hb dX9_safe_118 (by decide) ?_
        refine lv_isub hx hb dX9_safe_119 ?_
        refine lv_i2l (v := (z96.2.1 - (1 : Int32)).toInt64) hx hb dX9_safe_120 rfl ?_
        obtain ⟨z121, hcr, hM⟩ := ob_s hM
        refine res_i0 F hP hS rfl [] rfl rfl (runS_of (n := 3) (As := [.long x1.toInt64, .long (0 : Int64), .long ((z96.2.1 - (1 : Int32)).toInt64)]) (rest := []) F hP hS rfl [] rfl rfl (c_X9_in l dC dI cI cC cZ sa x1.toInt64 (0 : Int64) ((z96.2.1 - (1 : Int32)).toInt64) hcr _) gX9_safe_X9_in rfl (by decide +kernel) ⟨Nat.le_of_ble_eq_true rfl, Nat.le_of_ble_eq_true rfl⟩ rfl hl.1 rfl (Nat.le_of_ble_eq_true rfl) dX9_safe_121 ⟨Nat.zero_le _, Nat.zero_le _⟩) (fun H locs hP hS => ?_)
        refine lv_if_eq (tgt := 136) hx hb dX9_safe_124 (by decide) (fun hc => ?_) (fun hc => ?_)
        · have hM := if_pp hc hM
          refine lv_bipush (v := -6) hx hb dX9_safe_136 (by decide) ?_
          exact ret_i hx hb hr hlk dX9_safe_138 hM hP hS
        · have hM := if_nn hc hM
          refine lv_aload_n hx hb dX9_safe_127 rfl (lv_at hl 2 rfl) ?_
          refine g_get (ci := 9) (C := RX9) (T := TX9) (N := 32) (v := .ref (ad 7)) F hP 0 rfl rfl inX9_safe_X9 23 (by decide) (List.mem_of_getElem? (i := 5) rfl) rfl dX9_safe_128 ?_
          refine lv_iload_n hx hb dX9_safe_131 rfl (lv_at hl 3 rfl) ?_
          obtain ⟨hin, hM⟩ := if_ok hM
          refine va_iald hx hb hK hP 7 0 rfl rfl hin dX9_safe_132 ?_
          refine lv_goto (tgt := 138) hx hb dX9_safe_133 (by decide) ?_
          exact ret_i hx hb hr hlk dX9_safe_138 hM hP hS
      · have hM := if_pp hc hM
        refine lv_aload_n hx hb dX9_safe_104 rfl (lv_at hl 2 rfl) ?_
        refine g_get (ci := 9) (C := RX9) (T := TX9) (N := 32) (v := .int z96.2.1) F hP 0 rfl rfl inX9_safe_X9 24 (by decide) (List.mem_of_getElem? (i := 1) rfl) rfl dX9_safe_105 ?_
        refine lv_goto (tgt := 138) hx hb dX9_safe_108 (by decide) ?_
        exact ret_i hx hb hr hlk dX9_safe_138 hM hP hS
    · have hM := if_pp hc hM
      refine lv_bipush (v := -6) hx hb dX9_safe_83 (by decide) ?_
      exact ret_i hx hb hr hlk dX9_safe_85 hM hP hS
  · have hM := if_pp hc hM
    refine lv_bipush (v := -6) hx hb dX9_safe_34 (by decide) ?_
    exact ret_i hx hb hr hlk dX9_safe_36 hM hP hS
theorem inX9_say_X9 : ∀ w ∈ wsX90, w ∈ wsX9_say := fun w h => List.mem_cons_of_mem _ (List.mem_append_right _ h)
set_option maxHeartbeats 4000000 in
set_option maxRecDepth 100000 in
theorem c_X9_say (l : Launch) (dC : Nat → ClassId) (dI : Nat → Nat → Nat) (cI cC cZ : ClassId) (sa : Nat → Nat) (ad : Nat → Nat) (mb : BT) (mo : OT) (mn : NT) (mg : GT) (mf : AR) (mt : TT) (mz : AR) (ml : LT) (mi : IT) (x1 : Int32) {res : Int32 × OT} (hM : M_X9_say mo x1 = some res) : CTi l (dC, dI) [(cI, .int), (cC, .char), (cZ, .boolean)] sa yX9_say wsX9_say (rmd 2) [.ref (ad 0), .int x1] (wM cI cZ ad mb mo mn mg mf mt mz ml mi) (fun (uu : OT) => (wM cI cZ ad mb uu mn mg mf mt mz ml mi)) res := by
  refine CTi.enter (own := RX9) (cc := cX9_say) (maxL := 2) (ret := (some .int)) (by decide) rfl rfl (Nat.le_of_ble_eq_true rfl) ?_
  intro pr e s m below meth c A F hr hlk hP hS ls hl
  obtain ⟨⟨hx, hb, hml, hown, hts⟩, hK, hDD, hA, hKC⟩ := id F
  have hl : lv_has ls 2 [(0, .ref (ad 0)), (1, .int x1)] := hl
  have hP : va_P (dC, dI) vwCl (wM cI cZ ad mb mo mn mg mf mt mz ml mi) s.heap := hP
  unfold M_X9_say at hM
  refine lv_iload_n hx hb dX9_say_0 rfl (lv_at hl 1 rfl) ?_
  refine lv_i2l (v := x1.toInt64) hx hb dX9_say_1 rfl ?_
  refine lv_ldc2 (v := 33) hx hb hown (hts _ (List.mem_of_getElem? (i := 1) rfl)) dX9_say_2 ?_
  refine lv_ldc2 (v := 126) hx hb hown (hts _ (List.mem_of_getElem? (i := 2) rfl)) dX9_say_5 ?_
  obtain ⟨z8, hcr, hM⟩ := ob_s hM
  refine res_i0 F hP hS rfl [] rfl rfl (runS_of (n := 3) (As := [.long x1.toInt64, .long (33 : Int64), .long (126 : Int64)]) (rest := []) F hP hS rfl [] rfl rfl (c_X9_in l dC dI cI cC cZ sa x1.toInt64 (33 : Int64) (126 : Int64) hcr _) gX9_say_X9_in rfl (by decide +kernel) ⟨Nat.le_of_ble_eq_true rfl, Nat.le_of_ble_eq_true rfl⟩ rfl hl.1 rfl (Nat.le_of_ble_eq_true rfl) dX9_say_8 ⟨Nat.zero_le _, Nat.zero_le _⟩) (fun H locs hP hS => ?_)
  refine lv_if_ne (tgt := 17) hx hb dX9_say_11 (by decide) (fun hc => ?_) (fun hc => ?_)
  · have hM := if_nn hc hM
    refine lv_aload_n hx hb dX9_say_17 rfl (lv_at hl 0 rfl) ?_
    refine g_get (ci := 9) (C := RX9) (T := TX9) (N := 32) (v := .int mo.1) F hP 0 rfl rfl inX9_say_X9 11 (by decide) (List.mem_of_getElem? (i := 3) rfl) rfl dX9_say_18 ?_
    refine lv_bipush (v := 40) hx hb dX9_say_21 (by decide) ?_
    refine lv_icmp_ne (tgt := 29) hx hb dX9_say_23 (by decide) (fun hc => ?_) (fun hc => ?_)
    · have hM := if_nn hc hM
      refine lv_aload_n hx hb dX9_say_29 rfl (lv_at hl 0 rfl) ?_
      refine g_get (ci := 9) (C := RX9) (T := TX9) (N := 32) (v := .ref (ad 5)) F hP 0 rfl rfl inX9_say_X9 10 (by decide) (List.mem_of_getElem? (i := 4) rfl) rfl dX9_say_30 ?_
      refine lv_aload_n hx hb dX9_say_33 rfl (lv_at hl 0 rfl) ?_
      refine g_get (ci := 9) (C := RX9) (T := TX9) (N := 32) (v := .int mo.1) F hP 0 rfl rfl inX9_say_X9 11 (by decide) (List.mem_of_getElem? (i := 3) rfl) rfl dX9_say_34 ?_
      refine lv_iload_n hx hb dX9_say_37 rfl (lv_at hl 1 rfl) ?_
      obtain ⟨hin, hM⟩ := if_ok hM
      refine g_iast (ws' := (wM cI cZ ad mb (mo.1, (upd mo.2 mo.1.toNatClampNeg x1)) mn mg mf mt mz ml mi)) F hP hS rfl 5 0 rfl rfl hin dX9_say_38 rfl (fun H locs hP hS => ?_)
      refine lv_aload_n hx hb dX9_say_39 rfl (lv_at hl 0 rfl) ?_
      refine lv_dup hx hb dX9_say_40 rfl ?_
      refine g_get (ci := 9) (C := RX9) (T := TX9) (N := 32) (v := .int mo.1) F hP 0 rfl rfl inX9_say_X9 11 (by decide) (List.mem_of_getElem? (i := 3) rfl) rfl dX9_say_41 ?_
      refine lv_iconst (v := 1) hx hb dX9_say_44 (by decide) ?_
      refine lv_iadd hx hb dX9_say_45 ?_
      refine g_put (ws' := (wM cI cZ ad mb ((mo.1 + (1 : Int32)), (upd mo.2 mo.1.toNatClampNeg x1)) mn mg mf mt mz ml mi)) (ci := 9) (C := RX9) (T := TX9) (N := 32) (v := .int (mo.1 + (1 : Int32))) (ty := .int) F hP hS rfl tyX9 tyX9_ok nmX9 0 rfl rfl inX9_say_X9 11 (by decide) (List.mem_of_getElem? (i := 3) rfl) rfl (by decide +kernel) rfl rfl (Nat.le_of_ble_eq_true rfl) dX9_say_46 rfl (fun H locs hP hS => ?_)
      refine lv_aload_n hx hb dX9_say_49 rfl (lv_at hl 0 rfl) ?_
      refine g_get (ci := 9) (C := RX9) (T := TX9) (N := 32) (v := .int (mo.1 + (1 : Int32))) F hP 0 rfl rfl inX9_say_X9 11 (by decide) (List.mem_of_getElem? (i := 3) rfl) rfl dX9_say_50 ?_
      exact ret_i hx hb hr hlk dX9_say_53 hM hP hS
    · have hM := if_pp hc hM
      refine lv_bipush (v := -4) hx hb dX9_say_26 (by decide) ?_
      exact ret_i hx hb hr hlk dX9_say_28 hM hP hS
  · have hM := if_pp hc hM
    refine lv_bipush (v := -2) hx hb dX9_say_14 (by decide) ?_
    exact ret_i hx hb hr hlk dX9_say_16 hM hP hS
theorem inX9_sees_X9 : ∀ w ∈ wsX90, w ∈ wsX9_sees := fun w h => List.mem_cons_of_mem _ (List.mem_append_right _ h)
set_option maxHeartbeats 4000000 in
set_option maxRecDepth 100000 in
theorem c_X9_sees (l : Launch) (dC : Nat → ClassId) (dI : Nat → Nat → Nat) (cI cC cZ : ClassId) (sa : Nat → Nat) (ad : Nat → Nat) (mb : BT) (mo : OT) (mn : NT) (mg : GT) (mf : AR) (mt : TT) (mz : AR) (ml : LT) (mi : IT) (x1 : Int32) {res : Int32} (hM : M_X9_sees mb x1 = some res) : CTi l (dC, dI) [(cI, .int), (cC, .char), (cZ, .boolean)] sa yX9_sees wsX9_sees (rmd 5) [.ref (ad 0), .int x1] (wM cI cZ ad mb mo mn mg mf mt mz ml mi) (fun (_ : Unit) => (wM cI cZ ad mb mo mn mg mf mt mz ml mi)) (res, ()) := by
  refine CTi.enter (own := RX9) (cc := cX9_sees) (maxL := 2) (ret := (some .int)) (by decide) rfl rfl (Nat.le_of_ble_eq_true rfl) ?_
  intro pr e s m below meth c A F hr hlk hP hS ls hl
  obtain ⟨⟨hx, hb, hml, hown, hts⟩, hK, hDD, hA, hKC⟩ := id F
  have hl : lv_has ls 2 [(0, .ref (ad 0)), (1, .int x1)] := hl
  have hP : va_P (dC, dI) vwCl (wM cI cZ ad mb mo mn mg mf mt mz ml mi) s.heap := hP
  unfold M_X9_sees at hM
  refine lv_iload_n hx hb dX9_sees_0 rfl (lv_at hl 1 rfl) ?_
  refine lv_i2l (v := x1.toInt64) hx hb dX9_sees_1 rfl ?_
  refine lv_lconst (v := 0) hx hb dX9_sees_2 (by decide) ?_
  refine lv_aload_n hx hb dX9_sees_3 rfl (lv_at hl 0 rfl) ?_
  refine g_get (ci := 9) (C := RX9) (T := TX9) (N := 32) (v := .int mb.2.2.2.2.1) F hP 0 rfl rfl inX9_sees_X9 8 (by decide) (List.mem_of_getElem? (i := 1) rfl) rfl dX9_sees_4 ?_
  refine lv_iconst (v := 1) hx hb dX9_sees_7 (by decide) ?_
  refine lv_isub hx hb dX9_sees_8 ?_
  refine lv_i2l (v := (mb.2.2.2.2.1 - (1 : Int32)).toInt64) hx hb dX9_sees_9 rfl ?_
  obtain ⟨z10, hcr, hM⟩ := ob_s hM
  refine res_i0 F hP hS rfl [] rfl rfl (runS_of (n := 3) (As := [.long x1.toInt64, .long (0 : Int64), .long ((mb.2.2.2.2.1 - (1 : Int32)).toInt64)]) (rest := []) F hP hS rfl [] rfl rfl (c_X9_in l dC dI cI cC cZ sa x1.toInt64 (0 : Int64) ((mb.2.2.2.2.1 - (1 : Int32)).toInt64) hcr _) gX9_sees_X9_in rfl (by decide +kernel) ⟨Nat.le_of_ble_eq_true rfl, Nat.le_of_ble_eq_true rfl⟩ rfl hl.1 rfl (Nat.le_of_ble_eq_true rfl) dX9_sees_10 ⟨Nat.zero_le _, Nat.zero_le _⟩) (fun H locs hP hS => ?_)
  refine lv_if_eq (tgt := 24) hx hb dX9_sees_13 (by decide) (fun hc => ?_) (fun hc => ?_)
  · have hM := if_pp hc hM
    refine lv_iconst (v := -1) hx hb dX9_sees_24 (by decide) ?_
    exact ret_i hx hb hr hlk dX9_sees_25 (some_u hM) hP hS
  · have hM := if_nn hc hM
    refine lv_aload_n hx hb dX9_sees_16 rfl (lv_at hl 0 rfl) ?_
    refine lv_iload_n hx hb dX9_sees_17 rfl (lv_at hl 1 rfl) ?_
    obtain ⟨z18, hcr, hM⟩ := ob_s hM
    refine res_i0 F hP hS rfl [0, 1, 2, 3, 4, 5, 6, 7, 8, 9, 10, 11, 12] rfl rfl (runV_of (n := 1) (As := [.int x1]) (rest := []) F hP hS rfl [0, 1, 2, 3, 4, 5, 6, 7, 8, 9, 10, 11, 12] rfl rfl (c_X9_seenBy l dC dI cI cC cZ sa ad mb mo mn mg mf mt mz ml mi x1 hcr _) gX9_sees_X9_seenBy rfl (by decide +kernel) ⟨Nat.le_of_ble_eq_true rfl, Nat.le_of_ble_eq_true rfl⟩ 0 9 rfl rfl rfl hl.1 rfl (Nat.le_of_ble_eq_true rfl) dX9_sees_18 ⟨Nat.zero_le _, Nat.zero_le _⟩) (fun H locs hP hS => ?_)
    refine lv_goto (tgt := 25) hx hb dX9_sees_21 (by decide) ?_
    exact ret_i hx hb hr hlk dX9_sees_25 (some_u hM) hP hS
theorem inX9_told_X9 : ∀ w ∈ wsX90, w ∈ wsX9_told := fun w h => List.mem_cons_of_mem _ (List.mem_append_right _ h)
set_option maxHeartbeats 4000000 in
set_option maxRecDepth 100000 in
theorem c_X9_told (l : Launch) (dC : Nat → ClassId) (dI : Nat → Nat → Nat) (cI cC cZ : ClassId) (sa : Nat → Nat) (ad : Nat → Nat) (mb : BT) (mo : OT) (mn : NT) (mg : GT) (mf : AR) (mt : TT) (mz : AR) (ml : LT) (mi : IT) (x1 : Int32) {res : Int32} (hM : M_X9_told mb mo x1 = some res) : CTi l (dC, dI) [(cI, .int), (cC, .char), (cZ, .boolean)] sa yX9_told wsX9_told (rmd 2) [.ref (ad 0), .int x1] (wM cI cZ ad mb mo mn mg mf mt mz ml mi) (fun (_ : Unit) => (wM cI cZ ad mb mo mn mg mf mt mz ml mi)) (res, ()) := by
  refine CTi.enter (own := RX9) (cc := cX9_told) (maxL := 4) (ret := (some .int)) (by decide) rfl rfl (Nat.le_of_ble_eq_true rfl) ?_
  intro pr e s m below meth c A F hr hlk hP hS ls hl
  obtain ⟨⟨hx, hb, hml, hown, hts⟩, hK, hDD, hA, hKC⟩ := id F
  have hl : lv_has ls 4 [(0, .ref (ad 0)), (1, .int x1)] := hl
  have hP : va_P (dC, dI) vwCl (wM cI cZ ad mb mo mn mg mf mt mz ml mi) s.heap := hP
  unfold M_X9_told at hM
  refine lv_iload_n hx hb dX9_told_0 rfl (lv_at hl 1 rfl) ?_
  refine lv_i2l (v := x1.toInt64) hx hb dX9_told_1 rfl ?_
  refine lv_ldc2 (v := 10) hx hb hown (hts _ (List.mem_of_getElem? (i := 1) rfl)) dX9_told_2 ?_
  refine lv_ldc2 (v := 49) hx hb hown (hts _ (List.mem_of_getElem? (i := 2) rfl)) dX9_told_5 ?_
  obtain ⟨z8, hcr, hM⟩ := ob_s hM
  refine res_i0 F hP hS rfl [] rfl rfl (runS_of (n := 3) (As := [.long x1.toInt64, .long (10 : Int64), .long (49 : Int64)]) (rest := []) F hP hS rfl [] rfl rfl (c_X9_in l dC dI cI cC cZ sa x1.toInt64 (10 : Int64) (49 : Int64) hcr _) gX9_told_X9_in rfl (by decide +kernel) ⟨Nat.le_of_ble_eq_true rfl, Nat.le_of_ble_eq_true rfl⟩ rfl hl.1 rfl (Nat.le_of_ble_eq_true rfl) dX9_told_8 ⟨Nat.zero_le _, Nat.zero_le _⟩) (fun H locs hP hS => ?_)
  refine lv_if_eq (tgt := 78) hx hb dX9_told_11 (by decide) (fun hc => ?_) (fun hc => ?_)
  · have hM := if_pp hc hM
    refine lv_iload_n hx hb dX9_told_78 rfl (lv_at hl 1 rfl) ?_
    by_cases hc0 : x1 = (0 : Int32)
    · have hM := if_pp hc0 hM
      refine lv_tableIn (off := 41) (tgt := 120) hx hb dX9_told_79 (by rw [hc0]; decide) (by rw [hc0]; decide) (by rw [hc0]; rfl) (by decide) ?_
      refine lv_aload_n hx hb dX9_told_120 rfl (lv_at hl 0 rfl) ?_
      refine g_get (ci := 9) (C := RX9) (T := TX9) (N := 32) (v := .int mo.1) F hP 0 rfl rfl inX9_told_X9 11 (by decide) (List.mem_of_getElem? (i := 7) rfl) rfl dX9_told_121 ?_
      exact ret_i hx hb hr hlk dX9_told_124 (some_u hM) hP hS
    · have hM := if_nn hc0 hM
      by_cases hc1 : x1 = (1 : Int32)
      · have hM := if_pp hc1 hM
        refine lv_tableIn (off := 46) (tgt := 125) hx hb dX9_told_79 (by rw [hc1]; decide) (by rw [hc1]; decide) (by rw [hc1]; rfl) (by decide) ?_
        refine lv_aload_n hx hb dX9_told_125 rfl (lv_at hl 0 rfl) ?_
        refine g_get (ci := 9) (C := RX9) (T := TX9) (N := 32) (v := .int mb.1) F hP 0 rfl rfl inX9_told_X9 0 (by decide) (List.mem_of_getElem? (i := 8) rfl) rfl dX9_told_126 ?_
        exact ret_i hx hb hr hlk dX9_told_129 (some_u hM) hP hS
      · have hM := if_nn hc1 hM
        by_cases hc2 : x1 = (2 : Int32)
        · have hM := if_pp hc2 hM
          refine lv_tableIn (off := 51) (tgt := 130) hx hb dX9_told_79 (by rw [hc2]; decide) (by rw [hc2]; decide) (by rw [hc2]; rfl) (by decide) ?_
          refine lv_aload_n hx hb dX9_told_130 rfl (lv_at hl 0 rfl) ?_
          refine g_get (ci := 9) (C := RX9) (T := TX9) (N := 32) (v := .int mb.2.1) F hP 0 rfl rfl inX9_told_X9 1 (by decide) (List.mem_of_getElem? (i := 9) rfl) rfl dX9_told_131 ?_
          exact ret_i hx hb hr hlk dX9_told_134 (some_u hM) hP hS
        · have hM := if_nn hc2 hM
          by_cases hc3 : x1 = (3 : Int32)
          · have hM := if_pp hc3 hM
            refine lv_tableIn (off := 56) (tgt := 135) hx hb dX9_told_79 (by rw [hc3]; decide) (by rw [hc3]; decide) (by rw [hc3]; rfl) (by decide) ?_
            refine lv_aload_n hx hb dX9_told_135 rfl (lv_at hl 0 rfl) ?_
            refine g_get (ci := 9) (C := RX9) (T := TX9) (N := 32) (v := .int mb.2.2.1) F hP 0 rfl rfl inX9_told_X9 3 (by decide) (List.mem_of_getElem? (i := 10) rfl) rfl dX9_told_136 ?_
            exact ret_i hx hb hr hlk dX9_told_139 (some_u hM) hP hS
          · have hM := if_nn hc3 hM
            by_cases hc4 : x1 = (4 : Int32)
            · have hM := if_pp hc4 hM
              refine lv_tableIn (off := 61) (tgt := 140) hx hb dX9_told_79 (by rw [hc4]; decide) (by rw [hc4]; decide) (by rw [hc4]; rfl) (by decide) ?_
              refine lv_aload_n hx hb dX9_told_140 rfl (lv_at hl 0 rfl) ?_
              refine g_get (ci := 9) (C := RX9) (T := TX9) (N := 32) (v := .int mb.2.2.2.1) F hP 0 rfl rfl inX9_told_X9 4 (by decide) (List.mem_of_getElem? (i := 11) rfl) rfl dX9_told_141 ?_
              exact ret_i hx hb hr hlk dX9_told_144 (some_u hM) hP hS
            · have hM := if_nn hc4 hM
              by_cases hc5 : x1 = (5 : Int32)
              · have hM := if_pp hc5 hM
                refine lv_tableIn (off := 66) (tgt := 145) hx hb dX9_told_79 (by rw [hc5]; decide) (by rw [hc5]; decide) (by rw [hc5]; rfl) (by decide) ?_
                refine lv_aload_n hx hb dX9_told_145 rfl (lv_at hl 0 rfl) ?_
                refine g_get (ci := 9) (C := RX9) (T := TX9) (N := 32) (v := .int mb.2.2.2.2.1) F hP 0 rfl rfl inX9_told_X9 8 (by decide) (List.mem_of_getElem? (i := 3) rfl) rfl dX9_told_146 ?_
                exact ret_i hx hb hr hlk dX9_told_149 (some_u hM) hP hS
              · have hM := if_nn hc5 hM
                by_cases hc6 : x1 = (6 : Int32)
                · have hM := if_pp hc6 hM
                  refine lv_tableIn (off := 71) (tgt := 150) hx hb dX9_told_79 (by rw [hc6]; decide) (by rw [hc6]; decide) (by rw [hc6]; rfl) (by decide) ?_
                  refine lv_aload_n hx hb dX9_told_150 rfl (lv_at hl 0 rfl) ?_
                  refine g_get (ci := 9) (C := RX9) (T := TX9) (N := 32) (v := .int mb.2.2.2.2.2.1) F hP 0 rfl rfl inX9_told_X9 9 (by decide) (List.mem_of_getElem? (i := 12) rfl) rfl dX9_told_151 ?_
                  exact ret_i hx hb hr hlk dX9_told_154 (some_u hM) hP hS
                · have hM := if_nn hc6 hM
                  have hn0 := lv_neT hc0 (a := 0) (by decide)
                  have hn1 := lv_neT hc1 (a := 1) (by decide)
                  have hn2 := lv_neT hc2 (a := 2) (by decide)
                  have hn3 := lv_neT hc3 (a := 3) (by decide)
                  have hn4 := lv_neT hc4 (a := 4) (by decide)
                  have hn5 := lv_neT hc5 (a := 5) (by decide)
                  have hn6 := lv_neT hc6 (a := 6) (by decide)
                  refine lv_tableOut (tgt := 155) hx hb dX9_told_79 (by omega) (by decide) ?_
                  refine lv_bipush (v := -2) hx hb dX9_told_155 (by decide) ?_
                  exact ret_i hx hb hr hlk dX9_told_157 (some_u hM) hP hS
  · have hM := if_nn hc hM
    refine lv_iload_n hx hb dX9_told_14 rfl (lv_at hl 1 rfl) ?_
    refine lv_bipush (v := 10) hx hb dX9_told_15 (by decide) ?_
    obtain ⟨hne, hM⟩ := if_ok hM
    refine lv_idiv hx hb dX9_told_17 hne ?_
    refine lv_iconst (v := 1) hx hb dX9_told_18 (by decide) ?_
    refine lv_isub hx hb dX9_told_19 ?_
    refine lv_istore_n (lv' := [(2, .int ((x1 / (10 : Int32)) - (1 : Int32))), (0, .ref (ad 0)), (1, .int x1)]) hx hb dX9_told_20 rfl hl (by decide) rfl (fun ls hl => ?_)
    refine lv_iload_n hx hb dX9_told_21 rfl (lv_at hl 2 rfl) ?_
    refine lv_bipush (v := 10) hx hb dX9_told_22 (by decide) ?_
    obtain ⟨hne, hM⟩ := if_ok hM
    refine lv_irem hx hb dX9_told_24 hne ?_
    refine lv_istore_n (lv' := [(3, .int (x1 - x1 / (10 : Int32) * (10 : Int32))), (2, .int ((x1 / (10 : Int32)) - (1 : Int32))), (0, .ref (ad 0)), (1, .int x1)]) hx hb dX9_told_25 rfl hl (by decide) rfl (fun ls hl => ?_)
    refine lv_iload_n hx hb dX9_told_26 rfl (lv_at hl 1 rfl) ?_
    refine lv_aload_n hx hb dX9_told_27 rfl (lv_at hl 2 rfl) ?_
    refine g_get (ci := 9) (C := RX9) (T := TX9) (N := 32) (v := .int mb.2.2.2.2.1) F hP 0 rfl rfl inX9_told_X9 8 (by decide) (List.mem_of_getElem? (i := 3) rfl) rfl dX9_told_28 ?_
    refine lv_icmp_ge (tgt := 39) hx hb dX9_told_31 (by decide) (fun hc => ?_) (fun hc => ?_)
    · have hM := if_pp hc hM
      refine lv_bipush (v := -2) hx hb dX9_told_39 (by decide) ?_
      refine lv_goto (tgt := 77) hx hb dX9_told_41 (by decide) ?_
      exact ret_i hx hb hr hlk dX9_told_77 (some_u hM) hP hS
    · have hM := if_nn hc hM
      refine lv_iload_n hx hb dX9_told_34 rfl (lv_at hl 0 rfl) ?_
      refine lv_iconst (v := 2) hx hb dX9_told_35 (by decide) ?_
      refine lv_icmp_le (tgt := 44) hx hb dX9_told_36 (by decide) (fun hc => ?_) (fun hc => ?_)
      · have hM := if_pp hc hM
        refine lv_iload_n hx hb dX9_told_44 rfl (lv_at hl 0 rfl) ?_
        refine lv_if_ne (tgt := 57) hx hb dX9_told_45 (by decide) (fun hc => ?_) (fun hc => ?_)
        · have hM := if_nn hc hM
          refine lv_iload_n hx hb dX9_told_57 rfl (lv_at hl 0 rfl) ?_
          refine lv_iconst (v := 1) hx hb dX9_told_58 (by decide) ?_
          refine lv_icmp_ne (tgt := 71) hx hb dX9_told_59 (by decide) (fun hc => ?_) (fun hc => ?_)
          · have hM := if_nn hc hM
            refine lv_aload_n hx hb dX9_told_71 rfl (lv_at hl 2 rfl) ?_
            refine g_get (ci := 9) (C := RX9) (T := TX9) (N := 32) (v := .ref (ad 4)) F hP 0 rfl rfl inX9_told_X9 7 (by decide) (List.mem_of_getElem? (i := 6) rfl) rfl dX9_told_72 ?_
            refine lv_iload_n hx hb dX9_told_75 rfl (lv_at hl 1 rfl) ?_
            obtain ⟨hin, hM⟩ := if_ok hM
            refine va_iald hx hb hK hP 4 0 rfl rfl hin dX9_told_76 ?_
            exact ret_i hx hb hr hlk dX9_told_77 (some_u hM) hP hS
          · have hM := if_pp hc hM
            refine lv_aload_n hx hb dX9_told_62 rfl (lv_at hl 2 rfl) ?_
            refine g_get (ci := 9) (C := RX9) (T := TX9) (N := 32) (v := .ref (ad 3)) F hP 0 rfl rfl inX9_told_X9 6 (by decide) (List.mem_of_getElem? (i := 5) rfl) rfl dX9_told_63 ?_
            refine lv_iload_n hx hb dX9_told_66 rfl (lv_at hl 1 rfl) ?_
            obtain ⟨hin, hM⟩ := if_ok hM
            refine va_iald hx hb hK hP 3 0 rfl rfl hin dX9_told_67 ?_
            refine lv_goto (tgt := 77) hx hb dX9_told_68 (by decide) ?_
            exact ret_i hx hb hr hlk dX9_told_77 (some_u hM) hP hS
        · have hM := if_pp hc hM
          refine lv_aload_n hx hb dX9_told_48 rfl (lv_at hl 2 rfl) ?_
          refine g_get (ci := 9) (C := RX9) (T := TX9) (N := 32) (v := .ref (ad 2)) F hP 0 rfl rfl inX9_told_X9 5 (by decide) (List.mem_of_getElem? (i := 4) rfl) rfl dX9_told_49 ?_
          refine lv_iload_n hx hb dX9_told_52 rfl (lv_at hl 1 rfl) ?_
          obtain ⟨hin, hM⟩ := if_ok hM
          refine va_iald hx hb hK hP 2 0 rfl rfl hin dX9_told_53 ?_
          refine lv_goto (tgt := 77) hx hb dX9_told_54 (by decide) ?_
          exact ret_i hx hb hr hlk dX9_told_77 (some_u hM) hP hS
      · have hM := if_nn hc hM
        refine lv_bipush (v := -2) hx hb dX9_told_39 (by decide) ?_
        refine lv_goto (tgt := 77) hx hb dX9_told_41 (by decide) ?_
        exact ret_i hx hb hr hlk dX9_told_77 (some_u hM) hP hS
theorem inX9_watch_X9 : ∀ w ∈ wsX90, w ∈ wsX9_watch := fun w h => List.mem_cons_of_mem _ (List.mem_append_right _ h)
set_option maxHeartbeats 4000000 in
set_option maxRecDepth 100000 in
theorem c_X9_watch (l : Launch) (dC : Nat → ClassId) (dI : Nat → Nat → Nat) (cI cC cZ : ClassId) (sa : Nat → Nat) (ad : Nat → Nat) (mb : BT) (mo : OT) (mn : NT) (mg : GT) (mf : AR) (mt : TT) (mz : AR) (ml : LT) (mi : IT) (x1 : Int32) (x2 : Int32) (x3 : Int32) {res : Int32 × BT} (hM : M_X9_watch mb x1 x2 x3 = some res) : CTi l (dC, dI) [(cI, .int), (cC, .char), (cZ, .boolean)] sa yX9_watch wsX9_watch (rmd 3) [.ref (ad 0), .int x1, .int x2, .int x3] (wM cI cZ ad mb mo mn mg mf mt mz ml mi) (fun (uu : BT) => (wM cI cZ ad uu mo mn mg mf mt mz ml mi)) res := by
  refine CTi.enter (own := RX9) (cc := cX9_watch) (maxL := 4) (ret := (some .int)) (by decide) rfl rfl (Nat.le_of_ble_eq_true rfl) ?_
  intro pr e s m below meth c A F hr hlk hP hS ls hl
  obtain ⟨⟨hx, hb, hml, hown, hts⟩, hK, hDD, hA, hKC⟩ := id F
  have hl : lv_has ls 4 [(0, .ref (ad 0)), (1, .int x1), (2, .int x2), (3, .int x3)] := hl
  have hP : va_P (dC, dI) vwCl (wM cI cZ ad mb mo mn mg mf mt mz ml mi) s.heap := hP
  unfold M_X9_watch at hM
  refine kblk (α := BT × Int32 × Int32) (res := res) (fun a => M_X9_watch_84 x1 x2 x3 a) F (fun a => (wM cI cZ ad a.1 mo mn mg mf mt mz ml mi)) (fun a => [(0, .ref (ad 0))]) (fun a => [.int a.2.1, .int a.2.2, .ref (ad 4)]) 84 ?_ (fun j84 => ?_)
  · intro a84 H locs ls hP hS hl hM
    unfold M_X9_watch_84 at hM
    obtain ⟨hin, hM⟩ := if_ok hM
    refine g_iast (ws' := (wM cI cZ ad (a84.1.1, a84.1.2.1, a84.1.2.2.1, a84.1.2.2.2.1, a84.1.2.2.2.2.1, a84.1.2.2.2.2.2.1, a84.1.2.2.2.2.2.2.1, a84.1.2.2.2.2.2.2.2.1, a84.1.2.2.2.2.2.2.2.2.1, (upd a84.1.2.2.2.2.2.2.2.2.2 a84.2.2.toNatClampNeg a84.2.1)) mo mn mg mf mt mz ml mi)) F hP hS rfl 4 0 rfl rfl hin dX9_watch_84 rfl (fun H locs hP hS => ?_)
    refine lv_aload_n hx hb dX9_watch_85 rfl (lv_at hl 0 rfl) ?_
    refine lv_dup hx hb dX9_watch_86 rfl ?_
    refine g_get (ci := 9) (C := RX9) (T := TX9) (N := 32) (v := .int a84.1.2.2.2.2.1) F hP 0 rfl rfl inX9_watch_X9 8 (by decide) (List.mem_of_getElem? (i := 2) rfl) rfl dX9_watch_87 ?_
    refine lv_iconst (v := 1) hx hb dX9_watch_90 (by decide) ?_
    refine lv_iadd hx hb dX9_watch_91 ?_
    refine g_put (ws' := (wM cI cZ ad (a84.1.1, a84.1.2.1, a84.1.2.2.1, a84.1.2.2.2.1, (a84.1.2.2.2.2.1 + (1 : Int32)), a84.1.2.2.2.2.2.1, a84.1.2.2.2.2.2.2.1, a84.1.2.2.2.2.2.2.2.1, a84.1.2.2.2.2.2.2.2.2.1, (upd a84.1.2.2.2.2.2.2.2.2.2 a84.2.2.toNatClampNeg a84.2.1)) mo mn mg mf mt mz ml mi)) (ci := 9) (C := RX9) (T := TX9) (N := 32) (v := .int (a84.1.2.2.2.2.1 + (1 : Int32))) (ty := .int) F hP hS rfl tyX9 tyX9_ok nmX9 0 rfl rfl inX9_watch_X9 8 (by decide) (List.mem_of_getElem? (i := 2) rfl) rfl (by decide +kernel) rfl rfl (Nat.le_of_ble_eq_true rfl) dX9_watch_92 rfl (fun H locs hP hS => ?_)
    refine lv_aload_n hx hb dX9_watch_95 rfl (lv_at hl 0 rfl) ?_
    refine g_get (ci := 9) (C := RX9) (T := TX9) (N := 32) (v := .int (a84.1.2.2.2.2.1 + (1 : Int32))) F hP 0 rfl rfl inX9_watch_X9 8 (by decide) (List.mem_of_getElem? (i := 2) rfl) rfl dX9_watch_96 ?_
    exact ret_i hx hb hr hlk dX9_watch_99 hM hP hS
  refine lv_aload_n hx hb dX9_watch_0 rfl (lv_at hl 0 rfl) ?_
  refine lv_iload_n hx hb dX9_watch_1 rfl (lv_at hl 1 rfl) ?_
  obtain ⟨z2, hcr, hM⟩ := ob_s hM
  refine res_i0 F hP hS rfl [0, 1, 2, 3, 4, 5, 6, 7, 8, 9, 10, 11, 12] rfl rfl (runV_of (n := 1) (As := [.int x1]) (rest := []) F hP hS rfl [0, 1, 2, 3, 4, 5, 6, 7, 8, 9, 10, 11, 12] rfl rfl (c_X9_isCell l dC dI cI cC cZ sa ad mb mo mn mg mf mt mz ml mi x1 hcr _) gX9_watch_X9_isCell rfl (by decide +kernel) ⟨Nat.le_of_ble_eq_true rfl, Nat.le_of_ble_eq_true rfl⟩ 0 9 rfl rfl rfl hl.1 rfl (Nat.le_of_ble_eq_true rfl) dX9_watch_2 ⟨Nat.zero_le _, Nat.zero_le _⟩) (fun H locs hP hS => ?_)
  refine lv_if_ne (tgt := 10) hx hb dX9_watch_5 (by decide) (fun hc => ?_) (fun hc => ?_)
  · have hM := if_nn hc hM
    refine lv_iload_n hx hb dX9_watch_10 rfl (lv_at hl 2 rfl) ?_
    refine lv_i2l (v := x2.toInt64) hx hb dX9_watch_11 rfl ?_
    refine lv_lconst (v := 0) hx hb dX9_watch_12 (by decide) ?_
    refine lv_ldc2 (v := 3) hx hb hown (hts _ (List.mem_of_getElem? (i := 1) rfl)) dX9_watch_13 ?_
    obtain ⟨z16, hcr, hM⟩ := ob_s hM
    refine res_i0 F hP hS rfl [] rfl rfl (runS_of (n := 3) (As := [.long x2.toInt64, .long (0 : Int64), .long (3 : Int64)]) (rest := []) F hP hS rfl [] rfl rfl (c_X9_in l dC dI cI cC cZ sa x2.toInt64 (0 : Int64) (3 : Int64) hcr _) gX9_watch_X9_in rfl (by decide +kernel) ⟨Nat.le_of_ble_eq_true rfl, Nat.le_of_ble_eq_true rfl⟩ rfl hl.1 rfl (Nat.le_of_ble_eq_true rfl) dX9_watch_16 ⟨Nat.zero_le _, Nat.zero_le _⟩) (fun H locs hP hS => ?_)
    refine lv_if_ne (tgt := 25) hx hb dX9_watch_19 (by decide) (fun hc => ?_) (fun hc => ?_)
    · have hM := if_nn hc hM
      refine lv_aload_n hx hb dX9_watch_25 rfl (lv_at hl 0 rfl) ?_
      refine lv_iload_n hx hb dX9_watch_26 rfl (lv_at hl 1 rfl) ?_
      obtain ⟨z27, hcr, hM⟩ := ob_s hM
      refine res_i0 F hP hS rfl [0, 1, 2, 3, 4, 5, 6, 7, 8, 9, 10, 11, 12] rfl rfl (runV_of (n := 1) (As := [.int x1]) (rest := []) F hP hS rfl [0, 1, 2, 3, 4, 5, 6, 7, 8, 9, 10, 11, 12] rfl rfl (c_X9_isWall l dC dI cI cC cZ sa ad mb mo mn mg mf mt mz ml mi x1 hcr _) gX9_watch_X9_isWall rfl (by decide +kernel) ⟨Nat.le_of_ble_eq_true rfl, Nat.le_of_ble_eq_true rfl⟩ 0 9 rfl rfl rfl hl.1 rfl (Nat.le_of_ble_eq_true rfl) dX9_watch_27 ⟨Nat.zero_le _, Nat.zero_le _⟩) (fun H locs hP hS => ?_)
      refine lv_if_eq (tgt := 36) hx hb dX9_watch_30 (by decide) (fun hc => ?_) (fun hc => ?_)
      · have hM := if_pp hc hM
        refine lv_aload_n hx hb dX9_watch_36 rfl (lv_at hl 0 rfl) ?_
        refine g_get (ci := 9) (C := RX9) (T := TX9) (N := 32) (v := .int mb.2.2.2.2.1) F hP 0 rfl rfl inX9_watch_X9 8 (by decide) (List.mem_of_getElem? (i := 2) rfl) rfl dX9_watch_37 ?_
        refine lv_iconst (v := 4) hx hb dX9_watch_40 (by decide) ?_
        refine lv_icmp_ne (tgt := 47) hx hb dX9_watch_41 (by decide) (fun hc => ?_) (fun hc => ?_)
        · have hM := if_nn hc hM
          refine lv_aload_n hx hb dX9_watch_47 rfl (lv_at hl 0 rfl) ?_
          refine g_get (ci := 9) (C := RX9) (T := TX9) (N := 32) (v := .ref (ad 2)) F hP 0 rfl rfl inX9_watch_X9 5 (by decide) (List.mem_of_getElem? (i := 3) rfl) rfl dX9_watch_48 ?_
          refine lv_aload_n hx hb dX9_watch_51 rfl (lv_at hl 0 rfl) ?_
          refine g_get (ci := 9) (C := RX9) (T := TX9) (N := 32) (v := .int mb.2.2.2.2.1) F hP 0 rfl rfl inX9_watch_X9 8 (by decide) (List.mem_of_getElem? (i := 2) rfl) rfl dX9_watch_52 ?_
          refine lv_iload_n hx hb dX9_watch_55 rfl (lv_at hl 1 rfl) ?_
          obtain ⟨hin, hM⟩ := if_ok hM
          refine g_iast (ws' := (wM cI cZ ad (mb.1, mb.2.1, mb.2.2.1, mb.2.2.2.1, mb.2.2.2.2.1, mb.2.2.2.2.2.1, mb.2.2.2.2.2.2.1, (upd mb.2.2.2.2.2.2.2.1 mb.2.2.2.2.1.toNatClampNeg x1), mb.2.2.2.2.2.2.2.2.1, mb.2.2.2.2.2.2.2.2.2) mo mn mg mf mt mz ml mi)) F hP hS rfl 2 0 rfl rfl hin dX9_watch_56 rfl (fun H locs hP hS => ?_)
          refine lv_aload_n hx hb dX9_watch_57 rfl (lv_at hl 0 rfl) ?_
          refine g_get (ci := 9) (C := RX9) (T := TX9) (N := 32) (v := .ref (ad 3)) F hP 0 rfl rfl inX9_watch_X9 6 (by decide) (List.mem_of_getElem? (i := 4) rfl) rfl dX9_watch_58 ?_
          refine lv_aload_n hx hb dX9_watch_61 rfl (lv_at hl 0 rfl) ?_
          refine g_get (ci := 9) (C := RX9) (T := TX9) (N := 32) (v := .int mb.2.2.2.2.1) F hP 0 rfl rfl inX9_watch_X9 8 (by decide) (List.mem_of_getElem? (i := 2) rfl) rfl dX9_watch_62 ?_
          refine lv_iload_n hx hb dX9_watch_65 rfl (lv_at hl 2 rfl) ?_
          obtain ⟨hin, hM⟩ := if_ok hM
          refine g_iast (ws' := (wM cI cZ ad (mb.1, mb.2.1, mb.2.2.1, mb.2.2.2.1, mb.2.2.2.2.1, mb.2.2.2.2.2.1, mb.2.2.2.2.2.2.1, (upd mb.2.2.2.2.2.2.2.1 mb.2.2.2.2.1.toNatClampNeg x1), (upd mb.2.2.2.2.2.2.2.2.1 mb.2.2.2.2.1.toNatClampNeg x2), mb.2.2.2.2.2.2.2.2.2) mo mn mg mf mt mz ml mi)) F hP hS rfl 3 0 rfl rfl hin dX9_watch_66 rfl (fun H locs hP hS => ?_)
          refine lv_aload_n hx hb dX9_watch_67 rfl (lv_at hl 0 rfl) ?_
          refine g_get (ci := 9) (C := RX9) (T := TX9) (N := 32) (v := .ref (ad 4)) F hP 0 rfl rfl inX9_watch_X9 7 (by decide) (List.mem_of_getElem? (i := 5) rfl) rfl dX9_watch_68 ?_
          refine lv_aload_n hx hb dX9_watch_71 rfl (lv_at hl 0 rfl) ?_
          refine g_get (ci := 9) (C := RX9) (T := TX9) (N := 32) (v := .int mb.2.2.2.2.1) F hP 0 rfl rfl inX9_watch_X9 8 (by decide) (List.mem_of_getElem? (i := 2) rfl) rfl dX9_watch_72 ?_
          refine lv_iload_n hx hb dX9_watch_75 rfl (lv_at hl 3 rfl) ?_
          refine lv_if_eq (tgt := 83) hx hb dX9_watch_76 (by decide) (fun hc => ?_) (fun hc => ?_)
          · have hM := if_pp hc hM
            refine lv_iconst (v := 0) hx hb dX9_watch_83 (by decide) ?_
            exact j84 ((mb.1, mb.2.1, mb.2.2.1, mb.2.2.2.1, mb.2.2.2.2.1, mb.2.2.2.2.2.1, mb.2.2.2.2.2.2.1, (upd mb.2.2.2.2.2.2.2.1 mb.2.2.2.2.1.toNatClampNeg x1), (upd mb.2.2.2.2.2.2.2.2.1 mb.2.2.2.2.1.toNatClampNeg x2), mb.2.2.2.2.2.2.2.2.2), (0 : Int32), mb.2.2.2.2.1) _ _ _ hP hS (lv_sub hl [0] rfl) hM
          · have hM := if_nn hc hM
            refine lv_iconst (v := 1) hx hb dX9_watch_79 (by decide) ?_
            refine lv_goto (tgt := 84) hx hb dX9_watch_80 (by decide) ?_
            exact j84 ((mb.1, mb.2.1, mb.2.2.1, mb.2.2.2.1, mb.2.2.2.2.1, mb.2.2.2.2.2.1, mb.2.2.2.2.2.2.1, (upd mb.2.2.2.2.2.2.2.1 mb.2.2.2.2.1.toNatClampNeg x1), (upd mb.2.2.2.2.2.2.2.2.1 mb.2.2.2.2.1.toNatClampNeg x2), mb.2.2.2.2.2.2.2.2.2), (1 : Int32), mb.2.2.2.2.1) _ _ _ hP hS (lv_sub hl [0] rfl) hM
        · have hM := if_pp hc hM
          refine lv_bipush (v := -4) hx hb dX9_watch_44 (by decide) ?_
          exact ret_i hx hb hr hlk dX9_watch_46 hM hP hS
      · have hM := if_nn hc hM
        refine lv_bipush (v := -3) hx hb dX9_watch_33 (by decide) ?_
        exact ret_i hx hb hr hlk dX9_watch_35 hM hP hS
    · have hM := if_pp hc hM
      refine lv_bipush (v := -2) hx hb dX9_watch_22 (by decide) ?_
      exact ret_i hx hb hr hlk dX9_watch_24 hM hP hS
  · have hM := if_pp hc hM
    refine lv_iconst (v := -1) hx hb dX9_watch_8 (by decide) ?_
    exact ret_i hx hb hr hlk dX9_watch_9 hM hP hS
theorem inX9_where_X9 : ∀ w ∈ wsX90, w ∈ wsX9_where := fun w h => List.mem_cons_of_mem _ (List.mem_append_right _ h)
set_option maxHeartbeats 4000000 in
set_option maxRecDepth 100000 in
theorem c_X9_where (l : Launch) (dC : Nat → ClassId) (dI : Nat → Nat → Nat) (cI cC cZ : ClassId) (sa : Nat → Nat) (ad : Nat → Nat) (mb : BT) (mo : OT) (mn : NT) (mg : GT) (mf : AR) (mt : TT) (mz : AR) (ml : LT) (mi : IT) (x1 : Int32) (x2 : Int32) (x3 : Int32) {res : Int32 × LT} (hM : M_X9_where mb ml x1 x2 x3 = some res) : CTi l (dC, dI) [(cI, .int), (cC, .char), (cZ, .boolean)] sa yX9_where wsX9_where (rmd 8) [.ref (ad 0), .int x1, .int x2, .int x3] (wM cI cZ ad mb mo mn mg mf mt mz ml mi) (fun (uu : LT) => (wM cI cZ ad mb mo mn mg mf mt mz uu mi)) res := by
  refine CTi.enter (own := RX9) (cc := cX9_where) (maxL := 7) (ret := (some .int)) (by decide) rfl rfl (Nat.le_of_ble_eq_true rfl) ?_
  intro pr e s m below meth c A F hr hlk hP hS ls hl
  obtain ⟨⟨hx, hb, hml, hown, hts⟩, hK, hDD, hA, hKC⟩ := id F
  have hl : lv_has ls 7 [(0, .ref (ad 0)), (1, .int x1), (2, .int x2), (3, .int x3)] := hl
  have hP : va_P (dC, dI) vwCl (wM cI cZ ad mb mo mn mg mf mt mz ml mi) s.heap := hP
  unfold M_X9_where at hM
  refine kloop (α := LT × Int32 × Int32 × Int32) (res := res) (fun k a => M_X9_where_136 mb x1 x2 x3 k a) (fun rec a => M_X9_where_136b mb x1 x2 x3 rec a) (fun _ => rfl) (fun _ _ => rfl) F (fun a => (wM cI cZ ad mb mo mn mg mf mt mz a.1 mi)) (fun a => [(0, .ref (ad 0)), (3, .int x3), (4, .int a.2.1), (5, .int a.2.2.1), (6, .int a.2.2.2)]) (fun a => []) 136 ?_ (fun j136 => ?_)
  · intro rc136 ih136 a136 H locs ls hP hS hl hM
    unfold M_X9_where_136b at hM
    refine kblk (α := LT × Int32 × Int32 × Int32 × Int32) (res := res) (fun a => M_X9_where_165 mb x1 x2 x3 rc136 a) F (fun a => (wM cI cZ ad mb mo mn mg mf mt mz a.1 mi)) (fun a => [(0, .ref (ad 0)), (3, .int x3), (5, .int a.2.1), (6, .int a.2.2.1)]) (fun a => [.int a.2.2.2.1, .int a.2.2.2.2]) 165 ?_ (fun j165 => ?_)
    · intro a165 H locs ls hP hS hl hM
      unfold M_X9_where_165 at hM
      refine lv_ior hx hb dX9_where_165 ?_
      refine lv_istore (lv' := [(4, .int (a165.2.2.2.2 ||| a165.2.2.2.1)), (0, .ref (ad 0)), (3, .int x3), (5, .int a165.2.1), (6, .int a165.2.2.1)]) hx hb dX9_where_166 hl (by decide) rfl (fun ls hl => ?_)
      refine lv_iload hx hb dX9_where_168 (lv_at hl 3 rfl) ?_
      refine lv_aload_n hx hb dX9_where_170 rfl (lv_at hl 1 rfl) ?_
      refine g_get (ci := 9) (C := RX9) (T := TX9) (N := 32) (v := .ref (ad 9)) F hP 0 rfl rfl inX9_where_X9 26 (by decide) (List.mem_of_getElem? (i := 2) rfl) rfl dX9_where_171 ?_
      refine lv_iload hx hb dX9_where_174 (lv_at hl 4 rfl) ?_
      obtain ⟨hin, hM⟩ := if_ok hM
      refine va_iald hx hb hK hP 9 0 rfl rfl hin dX9_where_176 ?_
      refine lv_iadd hx hb dX9_where_177 ?_
      refine lv_istore (lv' := [(5, .int (a165.2.1 + (a165.1.1 a165.2.2.1.toNatClampNeg))), (4, .int (a165.2.2.2.2 ||| a165.2.2.2.1)), (0, .ref (ad 0)), (3, .int x3), (6, .int a165.2.2.1)]) hx hb dX9_where_178 hl (by decide) rfl (fun ls hl => ?_)
      refine lv_iinc (v := (a165.2.2.1 + (1 : Int32))) (lv' := [(6, .int (a165.2.2.1 + (1 : Int32))), (5, .int (a165.2.1 + (a165.1.1 a165.2.2.1.toNatClampNeg))), (4, .int (a165.2.2.2.2 ||| a165.2.2.2.1)), (0, .ref (ad 0)), (3, .int x3)]) hx hb dX9_where_180 hl (k := 4) rfl rfl (by decide) rfl (fun ls hl => ?_)
      refine lv_goto (tgt := 136) hx hb dX9_where_183 (by decide) ?_
      exact ih136 (a165.1, (a165.2.2.2.2 ||| a165.2.2.2.1), (a165.2.1 + (a165.1.1 a165.2.2.1.toNatClampNeg)), (a165.2.2.1 + (1 : Int32))) _ _ _ hP hS (lv_sub hl [3, 4, 2, 1, 0] rfl) hM
    refine lv_iload hx hb dX9_where_136 (lv_at hl 4 rfl) ?_
    refine lv_aload_n hx hb dX9_where_138 rfl (lv_at hl 0 rfl) ?_
    obtain ⟨z139, hcr, hM⟩ := ob_s hM
    refine res_i0 F hP hS rfl [0, 1, 2, 3, 4, 5, 6, 7, 8, 9, 10, 11, 12] rfl rfl (runV_of (n := 0) (As := []) (rest := [.int a136.2.2.2]) F hP hS rfl [0, 1, 2, 3, 4, 5, 6, 7, 8, 9, 10, 11, 12] rfl rfl (c_X9_cells l dC dI cI cC cZ sa ad mb mo mn mg mf mt mz a136.1 mi hcr _) gX9_where_X9_cells rfl (by decide +kernel) ⟨Nat.le_of_ble_eq_true rfl, Nat.le_of_ble_eq_true rfl⟩ 0 9 rfl rfl rfl hl.1 rfl (Nat.le_of_ble_eq_true rfl) dX9_where_139 ⟨Nat.zero_le _, Nat.zero_le _⟩) (fun H locs hP hS => ?_)
    refine lv_icmp_ge (tgt := 186) hx hb dX9_where_142 (by decide) (fun hc => ?_) (fun hc => ?_)
    · have hM := if_pp hc hM
      refine lv_iload_n hx hb dX9_where_186 rfl (lv_at hl 1 rfl) ?_
      refine lv_if_ne (tgt := 195) hx hb dX9_where_187 (by decide) (fun hc => ?_) (fun hc => ?_)
      · have hM := if_nn hc hM
        refine lv_iload hx hb dX9_where_195 (lv_at hl 3 rfl) ?_
        exact ret_i hx hb hr hlk dX9_where_197 hM hP hS
      · have hM := if_pp hc hM
        refine lv_iload hx hb dX9_where_190 (lv_at hl 2 rfl) ?_
        refine lv_goto (tgt := 197) hx hb dX9_where_192 (by decide) ?_
        exact ret_i hx hb hr hlk dX9_where_197 hM hP hS
    · have hM := if_nn hc hM
      refine lv_iload hx hb dX9_where_145 (lv_at hl 2 rfl) ?_
      refine lv_aload_n hx hb dX9_where_147 rfl (lv_at hl 0 rfl) ?_
      refine g_get (ci := 9) (C := RX9) (T := TX9) (N := 32) (v := .ref (ad 9)) F hP 0 rfl rfl inX9_where_X9 26 (by decide) (List.mem_of_getElem? (i := 2) rfl) rfl dX9_where_148 ?_
      refine lv_iload hx hb dX9_where_151 (lv_at hl 4 rfl) ?_
      obtain ⟨hin, hM⟩ := if_ok hM
      refine va_iald hx hb hK hP 9 0 rfl rfl hin dX9_where_153 ?_
      refine lv_if_le (tgt := 164) hx hb dX9_where_154 (by decide) (fun hc => ?_) (fun hc => ?_)
      · have hM := if_pp hc hM
        refine lv_iconst (v := 0) hx hb dX9_where_164 (by decide) ?_
        exact j165 (a136.1, a136.2.2.1, a136.2.2.2, (0 : Int32), a136.2.1) _ _ _ hP hS (lv_sub hl [0, 1, 3, 4] rfl) hM
      · have hM := if_nn hc hM
        refine lv_iconst (v := 1) hx hb dX9_where_157 (by decide) ?_
        refine lv_iload hx hb dX9_where_158 (lv_at hl 4 rfl) ?_
        refine lv_ishl hx hb dX9_where_160 ?_
        refine lv_goto (tgt := 165) hx hb dX9_where_161 (by decide) ?_
        exact j165 (a136.1, a136.2.2.1, a136.2.2.2, ((1 : Int32) <<< (a136.2.2.2 &&& 31)), a136.2.1) _ _ _ hP hS (lv_sub hl [0, 1, 3, 4] rfl) hM
  refine kloop (α := LT × Int32) (res := res) (fun k a => M_X9_where_96 mb x1 x2 x3 k a) (fun rec a => M_X9_where_96b mb x1 x2 x3 rec a) (fun _ => rfl) (fun _ _ => rfl) F (fun a => (wM cI cZ ad mb mo mn mg mf mt mz a.1 mi)) (fun a => [(0, .ref (ad 0)), (1, .int x1), (2, .int x2), (3, .int x3), (4, .int a.2)]) (fun a => []) 96 ?_ (fun j96 => ?_)
  · intro rc96 ih96 a96 H locs ls hP hS hl hM
    unfold M_X9_where_96b at hM
    refine kblk (α := LT × Int32 × Int32) (res := res) (fun a => M_X9_where_118 mb x1 x2 x3 rc96 a) F (fun a => (wM cI cZ ad mb mo mn mg mf mt mz a.1 mi)) (fun a => [(0, .ref (ad 0)), (1, .int x1), (2, .int x2), (3, .int x3), (4, .int a.2.1)]) (fun a => [.int a.2.2, .ref (ad 0)]) 118 ?_ (fun j118 => ?_)
    · intro a118 H locs ls hP hS hl hM
      unfold M_X9_where_118 at hM
      obtain ⟨z118, hcr, hM⟩ := ob_s hM
      refine res_v (ws' := (wM cI cZ ad mb mo mn mg mf mt mz z118 mi)) F hP hS rfl [0, 1, 2, 3, 4, 5, 6, 7, 8, 9, 10, 11, 12] rfl rfl rfl (runV_of (n := 1) (As := [.int a118.2.2]) (rest := []) F hP hS rfl [0, 1, 2, 3, 4, 5, 6, 7, 8, 9, 10, 11, 12] rfl rfl (c_X9_oneMinute l dC dI cI cC cZ sa ad mb mo mn mg mf mt mz a118.1 mi a118.2.2 hcr _) gX9_where_X9_oneMinute rfl (by decide +kernel) ⟨Nat.le_of_ble_eq_true rfl, Nat.le_of_ble_eq_true rfl⟩ 0 9 rfl rfl rfl hl.1 rfl (Nat.le_of_ble_eq_true rfl) dX9_where_118 ⟨Nat.zero_le _, Nat.zero_le _⟩) rfl (fun H locs hP hS => ?_)
      refine lv_iinc (v := (a118.2.1 + (1 : Int32))) (lv' := [(4, .int (a118.2.1 + (1 : Int32))), (0, .ref (ad 0)), (1, .int x1), (2, .int x2), (3, .int x3)]) hx hb dX9_where_121 hl (k := 4) rfl rfl (by decide) rfl (fun ls hl => ?_)
      refine lv_goto (tgt := 96) hx hb dX9_where_124 (by decide) ?_
      exact ih96 (z118, (a118.2.1 + (1 : Int32))) _ _ _ hP hS (lv_sub hl [1, 2, 3, 4, 0] rfl) hM
    refine lv_iload hx hb dX9_where_96 (lv_at hl 4 rfl) ?_
    refine lv_iload_n hx hb dX9_where_98 rfl (lv_at hl 2 rfl) ?_
    refine lv_icmp_ge (tgt := 127) hx hb dX9_where_99 (by decide) (fun hc => ?_) (fun hc => ?_)
    · have hM := if_pp hc hM
      refine lv_iconst (v := 0) hx hb dX9_where_127 (by decide) ?_
      refine lv_istore (lv' := [(4, .int (0 : Int32)), (0, .ref (ad 0)), (1, .int x1), (2, .int x2), (3, .int x3)]) hx hb dX9_where_128 hl (by decide) rfl (fun ls hl => ?_)
      refine lv_iconst (v := 0) hx hb dX9_where_130 (by decide) ?_
      refine lv_istore (lv' := [(5, .int (0 : Int32)), (4, .int (0 : Int32)), (0, .ref (ad 0)), (1, .int x1), (2, .int x2), (3, .int x3)]) hx hb dX9_where_131 hl (by decide) rfl (fun ls hl => ?_)
      refine lv_iconst (v := 0) hx hb dX9_where_133 (by decide) ?_
      refine lv_istore (lv' := [(6, .int (0 : Int32)), (5, .int (0 : Int32)), (4, .int (0 : Int32)), (0, .ref (ad 0)), (1, .int x1), (2, .int x2), (3, .int x3)]) hx hb dX9_where_134 hl (by decide) rfl (fun ls hl => ?_)
      exact j136 200 (a96.1, (0 : Int32), (0 : Int32), (0 : Int32)) _ _ _ hP hS (lv_sub hl [3, 6, 2, 1, 0] rfl) hM
    · have hM := if_nn hc hM
      refine lv_aload_n hx hb dX9_where_102 rfl (lv_at hl 0 rfl) ?_
      refine lv_iload_n hx hb dX9_where_103 rfl (lv_at hl 1 rfl) ?_
      refine lv_iload hx hb dX9_where_104 (lv_at hl 4 rfl) ?_
      refine lv_ishr hx hb dX9_where_106 ?_
      refine lv_iconst (v := 1) hx hb dX9_where_107 (by decide) ?_
      refine lv_iand hx hb dX9_where_108 ?_
      refine lv_iconst (v := 1) hx hb dX9_where_109 (by decide) ?_
      refine lv_icmp_ne (tgt := 117) hx hb dX9_where_110 (by decide) (fun hc => ?_) (fun hc => ?_)
      · have hM := if_nn hc hM
        refine lv_iconst (v := 0) hx hb dX9_where_117 (by decide) ?_
        exact j118 (a96.1, a96.2, (0 : Int32)) _ _ _ hP hS (lv_sub hl [0, 1, 2, 3, 4] rfl) hM
      · have hM := if_pp hc hM
        refine lv_iconst (v := 1) hx hb dX9_where_113 (by decide) ?_
        refine lv_goto (tgt := 118) hx hb dX9_where_114 (by decide) ?_
        exact j118 (a96.1, a96.2, (1 : Int32)) _ _ _ hP hS (lv_sub hl [0, 1, 2, 3, 4] rfl) hM
  refine kloop (α := LT × Int32) (res := res) (fun k a => M_X9_where_59 mb x1 x2 x3 k a) (fun rec a => M_X9_where_59b mb x1 x2 x3 rec a) (fun _ => rfl) (fun _ _ => rfl) F (fun a => (wM cI cZ ad mb mo mn mg mf mt mz a.1 mi)) (fun a => [(0, .ref (ad 0)), (1, .int x1), (2, .int x2), (3, .int x3), (4, .int a.2)]) (fun a => []) 59 ?_ (fun j59 => ?_)
  · intro rc59 ih59 a59 H locs ls hP hS hl hM
    unfold M_X9_where_59b at hM
    refine kblk (α := LT × Int32 × Int32 × Int32) (res := res) (fun a => M_X9_where_86 mb x1 x2 x3 rc59 a) F (fun a => (wM cI cZ ad mb mo mn mg mf mt mz a.1 mi)) (fun a => [(0, .ref (ad 0)), (1, .int x1), (2, .int x2), (3, .int x3), (4, .int a.2.1)]) (fun a => [.int a.2.2.1, .int a.2.2.2, .ref (ad 9)]) 86 ?_ (fun j86 => ?_)
    · intro a86 H locs ls hP hS hl hM
      unfold M_X9_where_86 at hM
      obtain ⟨hin, hM⟩ := if_ok hM
      refine g_iast (ws' := (wM cI cZ ad mb mo mn mg mf mt mz ((upd a86.1.1 a86.2.2.2.toNatClampNeg a86.2.2.1), a86.1.2) mi)) F hP hS rfl 9 0 rfl rfl hin dX9_where_86 rfl (fun H locs hP hS => ?_)
      refine lv_iinc (v := (a86.2.1 + (1 : Int32))) (lv' := [(4, .int (a86.2.1 + (1 : Int32))), (0, .ref (ad 0)), (1, .int x1), (2, .int x2), (3, .int x3)]) hx hb dX9_where_87 hl (k := 4) rfl rfl (by decide) rfl (fun ls hl => ?_)
      refine lv_goto (tgt := 59) hx hb dX9_where_90 (by decide) ?_
      exact ih59 (((upd a86.1.1 a86.2.2.2.toNatClampNeg a86.2.2.1), a86.1.2), (a86.2.1 + (1 : Int32))) _ _ _ hP hS (lv_sub hl [1, 2, 3, 4, 0] rfl) hM
    refine lv_iload hx hb dX9_where_59 (lv_at hl 4 rfl) ?_
    refine lv_bipush (v := 16) hx hb dX9_where_61 (by decide) ?_
    refine lv_icmp_ge (tgt := 93) hx hb dX9_where_63 (by decide) (fun hc => ?_) (fun hc => ?_)
    · have hM := if_pp hc hM
      refine lv_iconst (v := 0) hx hb dX9_where_93 (by decide) ?_
      refine lv_istore (lv' := [(4, .int (0 : Int32)), (0, .ref (ad 0)), (1, .int x1), (2, .int x2), (3, .int x3)]) hx hb dX9_where_94 hl (by decide) rfl (fun ls hl => ?_)
      exact j96 200 (a59.1, (0 : Int32)) _ _ _ hP hS (lv_sub hl [1, 2, 3, 4, 0] rfl) hM
    · have hM := if_nn hc hM
      refine lv_aload_n hx hb dX9_where_66 rfl (lv_at hl 0 rfl) ?_
      refine g_get (ci := 9) (C := RX9) (T := TX9) (N := 32) (v := .ref (ad 9)) F hP 0 rfl rfl inX9_where_X9 26 (by decide) (List.mem_of_getElem? (i := 2) rfl) rfl dX9_where_67 ?_
      refine lv_iload hx hb dX9_where_70 (lv_at hl 4 rfl) ?_
      refine lv_iload hx hb dX9_where_72 (lv_at hl 4 rfl) ?_
      refine lv_aload_n hx hb dX9_where_74 rfl (lv_at hl 0 rfl) ?_
      refine g_get (ci := 9) (C := RX9) (T := TX9) (N := 32) (v := .int mb.2.2.1) F hP 0 rfl rfl inX9_where_X9 3 (by decide) (List.mem_of_getElem? (i := 3) rfl) rfl dX9_where_75 ?_
      refine lv_icmp_ne (tgt := 85) hx hb dX9_where_78 (by decide) (fun hc => ?_) (fun hc => ?_)
      · have hM := if_nn hc hM
        refine lv_iconst (v := 0) hx hb dX9_where_85 (by decide) ?_
        exact j86 (a59.1, a59.2, (0 : Int32), a59.2) _ _ _ hP hS (lv_sub hl [0, 1, 2, 3, 4] rfl) hM
      · have hM := if_pp hc hM
        refine lv_iconst (v := 1) hx hb dX9_where_81 (by decide) ?_
        refine lv_goto (tgt := 86) hx hb dX9_where_82 (by decide) ?_
        exact j86 (a59.1, a59.2, (1 : Int32), a59.2) _ _ _ hP hS (lv_sub hl [0, 1, 2, 3, 4] rfl) hM
  refine kblk (α := LT × Int32 × Int32 × Int64 × Int64) (res := res) (fun a => M_X9_where_43 mb x1 x2 x3 a) F (fun a => (wM cI cZ ad mb mo mn mg mf mt mz a.1 mi)) (fun a => [(0, .ref (ad 0)), (1, .int x1), (2, .int x2), (3, .int x3)]) (fun a => [.int a.2.1, .int a.2.2.1, .long a.2.2.2.1, .long a.2.2.2.2]) 43 ?_ (fun j43 => ?_)
  · intro a43 H locs ls hP hS hl hM
    unfold M_X9_where_43 at hM
    refine lv_ishl hx hb dX9_where_43 ?_
    refine lv_iconst (v := 1) hx hb dX9_where_44 (by decide) ?_
    refine lv_isub hx hb dX9_where_45 ?_
    refine lv_i2l (v := ((a43.2.2.1 <<< (a43.2.1 &&& 31)) - (1 : Int32)).toInt64) hx hb dX9_where_46 rfl ?_
    obtain ⟨z47, hcr, hM⟩ := ob_s hM
    refine res_i0 F hP hS rfl [] rfl rfl (runS_of (n := 3) (As := [.long a43.2.2.2.2, .long a43.2.2.2.1, .long (((a43.2.2.1 <<< (a43.2.1 &&& 31)) - (1 : Int32)).toInt64)]) (rest := []) F hP hS rfl [] rfl rfl (c_X9_in l dC dI cI cC cZ sa a43.2.2.2.2 a43.2.2.2.1 (((a43.2.2.1 <<< (a43.2.1 &&& 31)) - (1 : Int32)).toInt64) hcr _) gX9_where_X9_in rfl (by decide +kernel) ⟨Nat.le_of_ble_eq_true rfl, Nat.le_of_ble_eq_true rfl⟩ rfl hl.1 rfl (Nat.le_of_ble_eq_true rfl) dX9_where_47 ⟨Nat.zero_le _, Nat.zero_le _⟩) (fun H locs hP hS => ?_)
    refine lv_if_ne (tgt := 56) hx hb dX9_where_50 (by decide) (fun hc => ?_) (fun hc => ?_)
    · have hM := if_nn hc hM
      refine lv_iconst (v := 0) hx hb dX9_where_56 (by decide) ?_
      refine lv_istore (lv' := [(4, .int (0 : Int32)), (0, .ref (ad 0)), (1, .int x1), (2, .int x2), (3, .int x3)]) hx hb dX9_where_57 hl (by decide) rfl (fun ls hl => ?_)
      exact j59 200 (a43.1, (0 : Int32)) _ _ _ hP hS (lv_sub hl [1, 2, 3, 4, 0] rfl) hM
    · have hM := if_pp hc hM
      refine lv_bipush (v := -2) hx hb dX9_where_53 (by decide) ?_
      exact ret_i hx hb hr hlk dX9_where_55 hM hP hS
  refine lv_iload_n hx hb dX9_where_0 rfl (lv_at hl 2 rfl) ?_
  refine lv_i2l (v := x2.toInt64) hx hb dX9_where_1 rfl ?_
  refine lv_lconst (v := 0) hx hb dX9_where_2 (by decide) ?_
  refine lv_ldc2 (v := 8) hx hb hown (hts _ (List.mem_of_getElem? (i := 1) rfl)) dX9_where_3 ?_
  obtain ⟨z6, hcr, hM⟩ := ob_s hM
  refine res_i0 F hP hS rfl [] rfl rfl (runS_of (n := 3) (As := [.long x2.toInt64, .long (0 : Int64), .long (8 : Int64)]) (rest := []) F hP hS rfl [] rfl rfl (c_X9_in l dC dI cI cC cZ sa x2.toInt64 (0 : Int64) (8 : Int64) hcr _) gX9_where_X9_in rfl (by decide +kernel) ⟨Nat.le_of_ble_eq_true rfl, Nat.le_of_ble_eq_true rfl⟩ rfl hl.1 rfl (Nat.le_of_ble_eq_true rfl) dX9_where_6 ⟨Nat.zero_le _, Nat.zero_le _⟩) (fun H locs hP hS => ?_)
  refine lv_if_eq (tgt := 53) hx hb dX9_where_9 (by decide) (fun hc => ?_) (fun hc => ?_)
  · have hM := if_pp hc hM
    refine lv_bipush (v := -2) hx hb dX9_where_53 (by decide) ?_
    exact ret_i hx hb hr hlk dX9_where_55 hM hP hS
  · have hM := if_nn hc hM
    refine lv_iload_n hx hb dX9_where_12 rfl (lv_at hl 3 rfl) ?_
    refine lv_i2l (v := x3.toInt64) hx hb dX9_where_13 rfl ?_
    refine lv_lconst (v := 0) hx hb dX9_where_14 (by decide) ?_
    refine lv_lconst (v := 1) hx hb dX9_where_15 (by decide) ?_
    obtain ⟨z16, hcr, hM⟩ := ob_s hM
    refine res_i0 F hP hS rfl [] rfl rfl (runS_of (n := 3) (As := [.long x3.toInt64, .long (0 : Int64), .long (1 : Int64)]) (rest := []) F hP hS rfl [] rfl rfl (c_X9_in l dC dI cI cC cZ sa x3.toInt64 (0 : Int64) (1 : Int64) hcr _) gX9_where_X9_in rfl (by decide +kernel) ⟨Nat.le_of_ble_eq_true rfl, Nat.le_of_ble_eq_true rfl⟩ rfl hl.1 rfl (Nat.le_of_ble_eq_true rfl) dX9_where_16 ⟨Nat.zero_le _, Nat.zero_le _⟩) (fun H locs hP hS => ?_)
    refine lv_if_eq (tgt := 53) hx hb dX9_where_19 (by decide) (fun hc => ?_) (fun hc => ?_)
    · have hM := if_pp hc hM
      refine lv_bipush (v := -2) hx hb dX9_where_53 (by decide) ?_
      exact ret_i hx hb hr hlk dX9_where_55 hM hP hS
    · have hM := if_nn hc hM
      refine lv_iload_n hx hb dX9_where_22 rfl (lv_at hl 1 rfl) ?_
      refine lv_i2l (v := x1.toInt64) hx hb dX9_where_23 rfl ?_
      refine lv_lconst (v := 0) hx hb dX9_where_24 (by decide) ?_
      refine lv_iconst (v := 1) hx hb dX9_where_25 (by decide) ?_
      refine lv_iload_n hx hb dX9_where_26 rfl (lv_at hl 2 rfl) ?_
      refine lv_i2l (v := x2.toInt64) hx hb dX9_where_27 rfl ?_
      refine lv_lconst (v := 0) hx hb dX9_where_28 (by decide) ?_
      refine lv_ldc2 (v := 8) hx hb hown (hts _ (List.mem_of_getElem? (i := 1) rfl)) dX9_where_29 ?_
      obtain ⟨z32, hcr, hM⟩ := ob_s hM
      refine res_i0 F hP hS rfl [] rfl rfl (runS_of (n := 3) (As := [.long x2.toInt64, .long (0 : Int64), .long (8 : Int64)]) (rest := [.int (1 : Int32), .long (0 : Int64), .long x1.toInt64]) F hP hS rfl [] rfl rfl (c_X9_in l dC dI cI cC cZ sa x2.toInt64 (0 : Int64) (8 : Int64) hcr _) gX9_where_X9_in rfl (by decide +kernel) ⟨Nat.le_of_ble_eq_true rfl, Nat.le_of_ble_eq_true rfl⟩ rfl hl.1 rfl (Nat.le_of_ble_eq_true rfl) dX9_where_32 ⟨Nat.zero_le _, Nat.zero_le _⟩) (fun H locs hP hS => ?_)
      refine lv_if_eq (tgt := 42) hx hb dX9_where_35 (by decide) (fun hc => ?_) (fun hc => ?_)
      · have hM := if_pp hc hM
        refine lv_iconst (v := 0) hx hb dX9_where_42 (by decide) ?_
        exact j43 (ml, (0 : Int32), (1 : Int32), (0 : Int64), x1.toInt64) _ _ _ hP hS (lv_sub hl [0, 1, 2, 3] rfl) hM
      · have hM := if_nn hc hM
        refine lv_iload_n hx hb dX9_where_38 rfl (lv_at hl 2 rfl) ?_
        refine lv_goto (tgt := 43) hx hb dX9_where_39 (by decide) ?_
        exact j43 (ml, x2, (1 : Int32), (0 : Int64), x1.toInt64) _ _ _ hP hS (lv_sub hl [0, 1, 2, 3] rfl) hM
theorem inX9_wind_X9 : ∀ w ∈ wsX90, w ∈ wsX9_wind := fun w h => List.mem_cons_of_mem _ (List.mem_append_right _ h)
set_option maxHeartbeats 4000000 in
set_option maxRecDepth 100000 in
theorem c_X9_wind (l : Launch) (dC : Nat → ClassId) (dI : Nat → Nat → Nat) (cI cC cZ : ClassId) (sa : Nat → Nat) (ad : Nat → Nat) (mb : BT) (mo : OT) (mn : NT) (mg : GT) (mf : AR) (mt : TT) (mz : AR) (ml : LT) (mi : IT) (x1 : Int32) (x2 : Int32) {res : Int64 × NT × GT} (hM : M_X9_wind mb mo mn mg x1 x2 = some res) : CTl l (dC, dI) [(cI, .int), (cC, .char), (cZ, .boolean)] sa yX9_wind wsX9_wind (rmd 9) [.ref (ad 0), .int x1, .int x2] (wM cI cZ ad mb mo mn mg mf mt mz ml mi) (fun (uu : NT × GT) => (wM cI cZ ad mb mo uu.1 uu.2 mf mt mz ml mi)) res := by
  refine CTl.enter (own := RX9) (cc := cX9_wind) (maxL := 9) (ret := (some .long)) (by decide) rfl rfl (Nat.le_of_ble_eq_true rfl) ?_
  intro pr e s m below meth c A F hr hlk hP hS ls hl
  obtain ⟨⟨hx, hb, hml, hown, hts⟩, hK, hDD, hA, hKC⟩ := id F
  have hl : lv_has ls 9 [(0, .ref (ad 0)), (1, .int x1), (2, .int x2)] := hl
  have hP : va_P (dC, dI) vwCl (wM cI cZ ad mb mo mn mg mf mt mz ml mi) s.heap := hP
  unfold M_X9_wind at hM
  refine kblk (α := NT × GT) (res := res) (fun a => M_X9_wind_22 mb mo x1 x2 a) F (fun a => (wM cI cZ ad mb mo a.1 a.2 mf mt mz ml mi)) (fun a => [(0, .ref (ad 0))]) (fun a => []) 22 ?_ (fun j22 => ?_)
  · intro a22 H locs ls hP hS hl hM
    unfold M_X9_wind_22 at hM
    refine lv_ldc2 (v := -1000000000000000002) hx hb hown (hts _ (List.mem_of_getElem? (i := 2) rfl)) dX9_wind_22 ?_
    exact ret_l hx hb hr hlk dX9_wind_25 hM hP hS
  refine kloop (α := NT × GT × Int64 × Int64 × Int32) (res := res) (fun k a => M_X9_wind_80 mb mo x1 x2 k a) (fun rec a => M_X9_wind_80b mb mo x1 x2 rec a) (fun _ => rfl) (fun _ _ => rfl) F (fun a => (wM cI cZ ad mb mo a.1 a.2.1 mf mt mz ml mi)) (fun a => [(0, .ref (ad 0)), (1, .int x1), (2, .int x2), (4, .long a.2.2.1), (6, .long a.2.2.2.1), (8, .int a.2.2.2.2)]) (fun a => []) 80 ?_ (fun j80 => ?_)
  · intro rc80 ih80 a80 H locs ls hP hS hl hM
    unfold M_X9_wind_80b at hM
    refine lv_iload hx hb dX9_wind_80 (lv_at hl 5 rfl) ?_
    refine lv_aload_n hx hb dX9_wind_82 rfl (lv_at hl 0 rfl) ?_
    refine g_get (ci := 9) (C := RX9) (T := TX9) (N := 32) (v := .int a80.2.1.2.2.2.2.2) F hP 0 rfl rfl inX9_wind_X9 21 (by decide) (List.mem_of_getElem? (i := 4) rfl) rfl dX9_wind_83 ?_
    refine lv_icmp_ge (tgt := 110) hx hb dX9_wind_86 (by decide) (fun hc => ?_) (fun hc => ?_)
    · have hM := if_pp hc hM
      refine lv_lload hx hb dX9_wind_110 (lv_at hl 3 rfl) ?_
      refine lv_lload hx hb dX9_wind_112 (lv_at hl 4 rfl) ?_
      refine lv_iload_n hx hb dX9_wind_114 rfl (lv_at hl 2 rfl) ?_
      obtain ⟨z115, hcr, hM⟩ := ob_s hM
      refine res_l0 F hP hS rfl [] rfl rfl (runS_of (n := 3) (As := [.long a80.2.2.1, .long a80.2.2.2.1, .int x2]) (rest := []) F hP hS rfl [] rfl rfl (c_X9_lowest l dC dI cI cC cZ sa a80.2.2.1 a80.2.2.2.1 x2 hcr _) gX9_wind_X9_lowest rfl (by decide +kernel) ⟨Nat.le_of_ble_eq_true rfl, Nat.le_of_ble_eq_true rfl⟩ rfl hl.1 rfl (Nat.le_of_ble_eq_true rfl) dX9_wind_115 ⟨Nat.zero_le _, Nat.zero_le _⟩) (fun H locs hP hS => ?_)
      exact ret_l hx hb hr hlk dX9_wind_118 hM hP hS
    · have hM := if_nn hc hM
      refine lv_lload hx hb dX9_wind_89 (lv_at hl 3 rfl) ?_
      refine lv_iload_n hx hb dX9_wind_91 rfl (lv_at hl 1 rfl) ?_
      refine lv_i2l (v := x1.toInt64) hx hb dX9_wind_92 rfl ?_
      refine lv_lmul hx hb dX9_wind_93 ?_
      refine lv_lstore (lv' := [(4, .long (a80.2.2.1 * x1.toInt64)), (0, .ref (ad 0)), (1, .int x1), (2, .int x2), (6, .long a80.2.2.2.1), (8, .int a80.2.2.2.2)]) hx hb dX9_wind_94 hl (by decide) rfl (fun ls hl => ?_)
      refine lv_lload hx hb dX9_wind_96 (lv_at hl 4 rfl) ?_
      refine lv_ldc2 (v := 10) hx hb hown (hts _ (List.mem_of_getElem? (i := 1) rfl)) dX9_wind_98 ?_
      refine lv_lmul hx hb dX9_wind_101 ?_
      refine lv_lstore (lv' := [(6, .long (a80.2.2.2.1 * (10 : Int64))), (4, .long (a80.2.2.1 * x1.toInt64)), (0, .ref (ad 0)), (1, .int x1), (2, .int x2), (8, .int a80.2.2.2.2)]) hx hb dX9_wind_102 hl (by decide) rfl (fun ls hl => ?_)
      refine lv_iinc (v := (a80.2.2.2.2 + (1 : Int32))) (lv' := [(8, .int (a80.2.2.2.2 + (1 : Int32))), (6, .long (a80.2.2.2.1 * (10 : Int64))), (4, .long (a80.2.2.1 * x1.toInt64)), (0, .ref (ad 0)), (1, .int x1), (2, .int x2)]) hx hb dX9_wind_104 hl (k := 5) rfl rfl (by decide) rfl (fun ls hl => ?_)
      refine lv_goto (tgt := 80) hx hb dX9_wind_107 (by decide) ?_
      exact ih80 (a80.1, a80.2.1, (a80.2.2.1 * x1.toInt64), (a80.2.2.2.1 * (10 : Int64)), (a80.2.2.2.2 + (1 : Int32))) _ _ _ hP hS (lv_sub hl [3, 4, 5, 2, 1, 0] rfl) hM
  refine lv_iload_n hx hb dX9_wind_0 rfl (lv_at hl 1 rfl) ?_
  refine lv_i2l (v := x1.toInt64) hx hb dX9_wind_1 rfl ?_
  refine lv_lconst (v := 0) hx hb dX9_wind_2 (by decide) ?_
  refine lv_ldc2 (v := 10) hx hb hown (hts _ (List.mem_of_getElem? (i := 1) rfl)) dX9_wind_3 ?_
  obtain ⟨z6, hcr, hM⟩ := ob_s hM
  refine res_i0 F hP hS rfl [] rfl rfl (runS_of (n := 3) (As := [.long x1.toInt64, .long (0 : Int64), .long (10 : Int64)]) (rest := []) F hP hS rfl [] rfl rfl (c_X9_in l dC dI cI cC cZ sa x1.toInt64 (0 : Int64) (10 : Int64) hcr _) gX9_wind_X9_in rfl (by decide +kernel) ⟨Nat.le_of_ble_eq_true rfl, Nat.le_of_ble_eq_true rfl⟩ rfl hl.1 rfl (Nat.le_of_ble_eq_true rfl) dX9_wind_6 ⟨Nat.zero_le _, Nat.zero_le _⟩) (fun H locs hP hS => ?_)
  refine lv_if_eq (tgt := 22) hx hb dX9_wind_9 (by decide) (fun hc => ?_) (fun hc => ?_)
  · have hM := if_pp hc hM
    exact j22 (mn, mg) _ _ _ hP hS (lv_sub hl [0] rfl) hM
  · have hM := if_nn hc hM
    refine lv_iload_n hx hb dX9_wind_12 rfl (lv_at hl 2 rfl) ?_
    refine lv_i2l (v := x2.toInt64) hx hb dX9_wind_13 rfl ?_
    refine lv_lconst (v := 0) hx hb dX9_wind_14 (by decide) ?_
    refine lv_lconst (v := 1) hx hb dX9_wind_15 (by decide) ?_
    obtain ⟨z16, hcr, hM⟩ := ob_s hM
    refine res_i0 F hP hS rfl [] rfl rfl (runS_of (n := 3) (As := [.long x2.toInt64, .long (0 : Int64), .long (1 : Int64)]) (rest := []) F hP hS rfl [] rfl rfl (c_X9_in l dC dI cI cC cZ sa x2.toInt64 (0 : Int64) (1 : Int64) hcr _) gX9_wind_X9_in rfl (by decide +kernel) ⟨Nat.le_of_ble_eq_true rfl, Nat.le_of_ble_eq_true rfl⟩ rfl hl.1 rfl (Nat.le_of_ble_eq_true rfl) dX9_wind_16 ⟨Nat.zero_le _, Nat.zero_le _⟩) (fun H locs hP hS => ?_)
    refine lv_if_ne (tgt := 26) hx hb dX9_wind_19 (by decide) (fun hc => ?_) (fun hc => ?_)
    · have hM := if_nn hc hM
      refine lv_aload_n hx hb dX9_wind_26 rfl (lv_at hl 0 rfl) ?_
      obtain ⟨z27, hcr, hM⟩ := ob_s hM
      refine res_i (ws' := (wM cI cZ ad mb mo z27.2.1 z27.2.2 mf mt mz ml mi)) F hP hS rfl [0, 1, 2, 3, 4, 5, 6, 7, 8, 9, 10, 11, 12] rfl rfl rfl (runV_of (n := 0) (As := []) (rest := []) F hP hS rfl [0, 1, 2, 3, 4, 5, 6, 7, 8, 9, 10, 11, 12] rfl rfl (c_X9_refusal l dC dI cI cC cZ sa ad mb mo mn mg mf mt mz ml mi hcr _) gX9_wind_X9_refusal rfl (by decide +kernel) ⟨Nat.le_of_ble_eq_true rfl, Nat.le_of_ble_eq_true rfl⟩ 0 9 rfl rfl rfl hl.1 rfl (Nat.le_of_ble_eq_true rfl) dX9_wind_27 ⟨Nat.zero_le _, Nat.zero_le _⟩) rfl (fun H locs hP hS => ?_)
      refine lv_istore_n (lv' := [(3, .int z27.1), (0, .ref (ad 0)), (1, .int x1), (2, .int x2)]) hx hb dX9_wind_30 rfl hl (by decide) rfl (fun ls hl => ?_)
      refine lv_iload_n hx hb dX9_wind_31 rfl (lv_at hl 0 rfl) ?_
      refine lv_bipush (v := -6) hx hb dX9_wind_32 (by decide) ?_
      refine lv_icmp_eq (tgt := 44) hx hb dX9_wind_34 (by decide) (fun hc => ?_) (fun hc => ?_)
      · have hM := if_pp hc hM
        refine lv_aload_n hx hb dX9_wind_44 rfl (lv_at hl 1 rfl) ?_
        refine g_get (ci := 9) (C := RX9) (T := TX9) (N := 32) (v := .int z27.2.2.2.2.2.2.2) F hP 0 rfl rfl inX9_wind_X9 21 (by decide) (List.mem_of_getElem? (i := 4) rfl) rfl dX9_wind_45 ?_
        refine lv_bipush (v := 12) hx hb dX9_wind_48 (by decide) ?_
        refine lv_icmp_le (tgt := 57) hx hb dX9_wind_50 (by decide) (fun hc => ?_) (fun hc => ?_)
        · have hM := if_pp hc hM
          refine lv_aload_n hx hb dX9_wind_57 rfl (lv_at hl 1 rfl) ?_
          refine g_get (ci := 9) (C := RX9) (T := TX9) (N := 32) (v := .int z27.2.2.2.2.2.2.1) F hP 0 rfl rfl inX9_wind_X9 20 (by decide) (List.mem_of_getElem? (i := 6) rfl) rfl dX9_wind_58 ?_
          refine lv_aload_n hx hb dX9_wind_61 rfl (lv_at hl 1 rfl) ?_
          refine g_get (ci := 9) (C := RX9) (T := TX9) (N := 32) (v := .int z27.2.2.2.2.2.2.2) F hP 0 rfl rfl inX9_wind_X9 21 (by decide) (List.mem_of_getElem? (i := 4) rfl) rfl dX9_wind_62 ?_
          refine lv_icmp_le (tgt := 71) hx hb dX9_wind_65 (by decide) (fun hc => ?_) (fun hc => ?_)
          · have hM := if_pp hc hM
            refine lv_lconst (v := 1) hx hb dX9_wind_71 (by decide) ?_
            refine lv_lstore (lv' := [(4, .long (1 : Int64)), (3, .int z27.1), (0, .ref (ad 0)), (1, .int x1), (2, .int x2)]) hx hb dX9_wind_72 hl (by decide) rfl (fun ls hl => ?_)
            refine lv_lconst (v := 1) hx hb dX9_wind_74 (by decide) ?_
            refine lv_lstore (lv' := [(6, .long (1 : Int64)), (4, .long (1 : Int64)), (3, .int z27.1), (0, .ref (ad 0)), (1, .int x1), (2, .int x2)]) hx hb dX9_wind_75 hl (by decide) rfl (fun ls hl => ?_)
            refine lv_iconst (v := 0) hx hb dX9_wind_77 (by decide) ?_
            refine lv_istore (lv' := [(8, .int (0 : Int32)), (6, .long (1 : Int64)), (4, .long (1 : Int64)), (3, .int z27.1), (0, .ref (ad 0)), (1, .int x1), (2, .int x2)]) hx hb dX9_wind_78 hl (by decide) rfl (fun ls hl => ?_)
            exact j80 200 (z27.2.1, z27.2.2, (1 : Int64), (1 : Int64), (0 : Int32)) _ _ _ hP hS (lv_sub hl [4, 5, 6, 2, 1, 0] rfl) hM
          · have hM := if_nn hc hM
            refine lv_iload_n hx hb dX9_wind_68 rfl (lv_at hl 3 rfl) ?_
            refine lv_i2l (v := x2.toInt64) hx hb dX9_wind_69 rfl ?_
            exact ret_l hx hb hr hlk dX9_wind_70 hM hP hS
        · have hM := if_nn hc hM
          refine lv_ldc2 (v := -1000000000000000004) hx hb hown (hts _ (List.mem_of_getElem? (i := 5) rfl)) dX9_wind_53 ?_
          exact ret_l hx hb hr hlk dX9_wind_56 hM hP hS
      · have hM := if_nn hc hM
        refine lv_ldc2 (v := -1000000000000000000) hx hb hown (hts _ (List.mem_of_getElem? (i := 3) rfl)) dX9_wind_37 ?_
        refine lv_iload_n hx hb dX9_wind_40 rfl (lv_at hl 0 rfl) ?_
        refine lv_i2l (v := z27.1.toInt64) hx hb dX9_wind_41 rfl ?_
        refine lv_ladd hx hb dX9_wind_42 ?_
        exact ret_l hx hb hr hlk dX9_wind_43 hM hP hS
    · have hM := if_pp hc hM
      exact j22 (mn, mg) _ _ _ hP hS (lv_sub hl [0] rfl) hM
theorem inX9_wipe_X9 : ∀ w ∈ wsX90, w ∈ wsX9_wipe := fun w h => List.mem_cons_of_mem _ (List.mem_append_right _ h)
set_option maxHeartbeats 4000000 in
set_option maxRecDepth 100000 in
theorem c_X9_wipe (l : Launch) (dC : Nat → ClassId) (dI : Nat → Nat → Nat) (cI cC cZ : ClassId) (sa : Nat → Nat) (ad : Nat → Nat) (mb : BT) (mo : OT) (mn : NT) (mg : GT) (mf : AR) (mt : TT) (mz : AR) (ml : LT) (mi : IT)  {res : Int32 × OT} (hM : M_X9_wipe mo = some res) : CTi l (dC, dI) [(cI, .int), (cC, .char), (cZ, .boolean)] sa yX9_wipe wsX9_wipe (rmd 1) [.ref (ad 0)] (wM cI cZ ad mb mo mn mg mf mt mz ml mi) (fun (uu : OT) => (wM cI cZ ad mb uu mn mg mf mt mz ml mi)) res := by
  refine CTi.enter (own := RX9) (cc := cX9_wipe) (maxL := 2) (ret := (some .int)) (by decide) rfl rfl (Nat.le_of_ble_eq_true rfl) ?_
  intro pr e s m below meth c A F hr hlk hP hS ls hl
  obtain ⟨⟨hx, hb, hml, hown, hts⟩, hK, hDD, hA, hKC⟩ := id F
  have hl : lv_has ls 2 [(0, .ref (ad 0))] := hl
  have hP : va_P (dC, dI) vwCl (wM cI cZ ad mb mo mn mg mf mt mz ml mi) s.heap := hP
  unfold M_X9_wipe at hM
  refine lv_aload_n hx hb dX9_wipe_0 rfl (lv_at hl 0 rfl) ?_
  refine g_get (ci := 9) (C := RX9) (T := TX9) (N := 32) (v := .int mo.1) F hP 0 rfl rfl inX9_wipe_X9 11 (by decide) (List.mem_of_getElem? (i := 1) rfl) rfl dX9_wipe_1 ?_
  refine lv_istore_n (lv' := [(1, .int mo.1), (0, .ref (ad 0))]) hx hb dX9_wipe_4 rfl hl (by decide) rfl (fun ls hl => ?_)
  refine lv_aload_n hx hb dX9_wipe_5 rfl (lv_at hl 1 rfl) ?_
  refine lv_iconst (v := 0) hx hb dX9_wipe_6 (by decide) ?_
  refine g_put (ws' := (wM cI cZ ad mb ((0 : Int32), mo.2) mn mg mf mt mz ml mi)) (ci := 9) (C := RX9) (T := TX9) (N := 32) (v := .int (0 : Int32)) (ty := .int) F hP hS rfl tyX9 tyX9_ok nmX9 0 rfl rfl inX9_wipe_X9 11 (by decide) (List.mem_of_getElem? (i := 1) rfl) rfl (by decide +kernel) rfl rfl (Nat.le_of_ble_eq_true rfl) dX9_wipe_7 rfl (fun H locs hP hS => ?_)
  refine lv_iload_n hx hb dX9_wipe_10 rfl (lv_at hl 0 rfl) ?_
  exact ret_i hx hb hr hlk dX9_wipe_11 hM hP hS
