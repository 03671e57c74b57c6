/-! Walks, printed by wip/whole/gen.py -/
theorem inX9_least_X9 : ∀ w ∈ wsX90, w ∈ wsX9_least := fun w h => List.mem_cons_of_mem _ (List.mem_append_right _ h)
set_option maxHeartbeats 4000000 in
set_option maxRecDepth 100000 in
theorem c_X9_least (l : Launch) (dC : Nat → ClassId) (dI : Nat → Nat → Nat) (cI cC cZ : ClassId) (sa : Nat → Nat) (ad : Nat → Nat) (mb : BT) (mo : OT) (mn : NT) (mg : GT) (mf : AR) (mt : TT) (mz : AR) (ml : LT) (mi : IT) (x1 : Int32) {res : Int32 × AR × AR} (hM : M_X9_least mb mf mz x1 = some res) : CTi l (dC, dI) [(cI, .int), (cC, .char), (cZ, .boolean)] sa yX9_least wsX9_least (rmd 7) [.ref (ad 0), .int x1] (wM cI cZ ad mb mo mn mg mf mt mz ml mi) (fun (uu : AR × AR) => (wM cI cZ ad mb mo mn mg uu.1 mt uu.2 ml mi)) res := by
  refine CTi.enter (own := RX9) (cc := cX9_least) (maxL := 3) (ret := (some .int)) (by decide) rfl rfl (Nat.le_of_ble_eq_true rfl) ?_
  intro pr e s m below meth c A F hr hlk hP hS ls hl
  obtain ⟨⟨hx, hb, hml, hown, hts⟩, hK, hDD, hA, hKC⟩ := id F
  have hl : lv_has ls 3 [(0, .ref (ad 0)), (1, .int x1)] := hl
  have hP : va_P (dC, dI) vwCl (wM cI cZ ad mb mo mn mg mf mt mz ml mi) s.heap := hP
  unfold M_X9_least at hM
  refine lv_iload_n hx hb dX9_least_0 rfl (lv_at hl 1 rfl) ?_
  refine lv_i2l (v := x1.toInt64) hx hb dX9_least_1 rfl ?_
  refine lv_lconst (v := 0) hx hb dX9_least_2 (by decide) ?_
  refine lv_lconst (v := 1) hx hb dX9_least_3 (by decide) ?_
  obtain ⟨z4, hcr, hM⟩ := ob_s hM
  refine res_i0 F hP hS rfl [] rfl rfl (runS_of (n := 3) (As := [.long x1.toInt64, .long (0 : Int64), .long (1 : Int64)]) (rest := []) F hP hS rfl [] rfl rfl (c_X9_in l dC dI cI cC cZ sa x1.toInt64 (0 : Int64) (1 : Int64) hcr _) gX9_least_X9_in rfl (by decide +kernel) ⟨Nat.le_of_ble_eq_true rfl, Nat.le_of_ble_eq_true rfl⟩ rfl hl.1 rfl (Nat.le_of_ble_eq_true rfl) dX9_least_4 ⟨Nat.zero_le _, Nat.zero_le _⟩) (fun H locs hP hS => ?_)
  refine lv_if_ne (tgt := 13) hx hb dX9_least_7 (by decide) (fun hc => ?_) (fun hc => ?_)
  · have hM := if_nn hc hM
    refine lv_aload_n hx hb dX9_least_13 rfl (lv_at hl 0 rfl) ?_
    refine lv_aload_n hx hb dX9_least_14 rfl (lv_at hl 0 rfl) ?_
    refine g_get (ci := 9) (C := RX9) (T := TX9) (N := 32) (v := .int mb.2.2.2.1) F hP 0 rfl rfl inX9_least_X9 4 (by decide) (List.mem_of_getElem? (i := 1) rfl) rfl dX9_least_15 ?_
    refine lv_aload_n hx hb dX9_least_18 rfl (lv_at hl 0 rfl) ?_
    obtain ⟨z19, hcr, hM⟩ := ob_s hM
    refine res_i0 F hP hS rfl [0, 1, 2, 3, 4, 5, 6, 7, 8, 9, 10, 11, 12] rfl rfl (runV_of (n := 0) (As := []) (rest := [.int mb.2.2.2.1, .ref (ad 0)]) F hP hS rfl [0, 1, 2, 3, 4, 5, 6, 7, 8, 9, 10, 11, 12] rfl rfl (c_X9_floor l dC dI cI cC cZ sa ad mb mo mn mg mf mt mz ml mi hcr _) gX9_least_X9_floor rfl (by decide +kernel) ⟨Nat.le_of_ble_eq_true rfl, Nat.le_of_ble_eq_true rfl⟩ 0 9 rfl rfl rfl hl.1 rfl (Nat.le_of_ble_eq_true rfl) dX9_least_19 ⟨Nat.zero_le _, Nat.zero_le _⟩) (fun H locs hP hS => ?_)
    obtain ⟨z22, hcr, hM⟩ := ob_s hM
    refine res_v (ws' := (wM cI cZ ad mb mo mn mg z22 mt mz ml mi)) F hP hS rfl [0, 1, 2, 3, 4, 5, 6, 7, 8, 9, 10, 11, 12] rfl rfl (runV_of (n := 2) (As := [.int mb.2.2.2.1, .int z19]) (rest := []) F hP hS rfl [0, 1, 2, 3, 4, 5, 6, 7, 8, 9, 10, 11, 12] rfl rfl (c_X9_findFar l dC dI cI cC cZ sa ad mb mo mn mg mf mt mz ml mi mb.2.2.2.1 z19 hcr _) gX9_least_X9_findFar rfl (by decide +kernel) ⟨Nat.le_of_ble_eq_true rfl, Nat.le_of_ble_eq_true rfl⟩ 0 9 rfl rfl rfl hl.1 rfl (Nat.le_of_ble_eq_true rfl) dX9_least_22 ⟨Nat.zero_le _, Nat.zero_le _⟩) rep_full (fun H locs hP hS => ?_)
    refine lv_aload_n hx hb dX9_least_25 rfl (lv_at hl 0 rfl) ?_
    refine g_get (ci := 9) (C := RX9) (T := TX9) (N := 32) (v := .ref (ad 6)) F hP 0 rfl rfl inX9_least_X9 22 (by decide) (List.mem_of_getElem? (i := 2) rfl) rfl dX9_least_26 ?_
    refine lv_aload_n hx hb dX9_least_29 rfl (lv_at hl 0 rfl) ?_
    refine g_get (ci := 9) (C := RX9) (T := TX9) (N := 32) (v := .int mb.2.2.1) F hP 0 rfl rfl inX9_least_X9 3 (by decide) (List.mem_of_getElem? (i := 3) rfl) rfl dX9_least_30 ?_
    obtain ⟨hin, hM⟩ := if_ok hM
    refine va_iald hx hb hK hP 6 0 rfl rfl hin dX9_least_33 ?_
    refine lv_istore_n (lv' := [(2, .int (z22 mb.2.2.1.toNatClampNeg)), (0, .ref (ad 0)), (1, .int x1)]) hx hb dX9_least_34 rfl hl (by decide) rfl (fun ls hl => ?_)
    refine lv_iload_n hx hb dX9_least_35 rfl (lv_at hl 0 rfl) ?_
    refine lv_sipush (v := 1000) hx hb dX9_least_36 (by decide) ?_
    refine lv_icmp_ne (tgt := 45) hx hb dX9_least_39 (by decide) (fun hc => ?_) (fun hc => ?_)
    · have hM := if_nn hc hM
      refine lv_iload_n hx hb dX9_least_45 rfl (lv_at hl 2 rfl) ?_
      refine lv_iconst (v := 1) hx hb dX9_least_46 (by decide) ?_
      refine lv_icmp_ne (tgt := 56) hx hb dX9_least_47 (by decide) (fun hc => ?_) (fun hc => ?_)
      · have hM := if_nn hc hM
        refine lv_aload_n hx hb dX9_least_56 rfl (lv_at hl 1 rfl) ?_
        refine lv_aload_n hx hb dX9_least_57 rfl (lv_at hl 1 rfl) ?_
        refine g_get (ci := 9) (C := RX9) (T := TX9) (N := 32) (v := .int mb.2.2.1) F hP 0 rfl rfl inX9_least_X9 3 (by decide) (List.mem_of_getElem? (i := 3) rfl) rfl dX9_least_58 ?_
        refine lv_aload_n hx hb dX9_least_61 rfl (lv_at hl 1 rfl) ?_
        refine g_get (ci := 9) (C := RX9) (T := TX9) (N := 32) (v := .int mb.2.2.2.1) F hP 0 rfl rfl inX9_least_X9 4 (by decide) (List.mem_of_getElem? (i := 1) rfl) rfl dX9_least_62 ?_
        refine lv_iconst (v := 1) hx hb dX9_least_65 (by decide) ?_
        obtain ⟨z66, hcr, hM⟩ := ob_s hM
        refine res_i (ws' := (wM cI cZ ad mb mo mn mg z66.2.1 mt z66.2.2 ml mi)) F hP hS rfl [0, 1, 2, 3, 4, 5, 6, 7, 8, 9, 10, 11, 12] rfl rfl (runV_of (n := 3) (As := [.int mb.2.2.1, .int mb.2.2.2.1, .int (1 : Int32)]) (rest := []) F hP hS rfl [0, 1, 2, 3, 4, 5, 6, 7, 8, 9, 10, 11, 12] rfl rfl (c_X9_fewestShown l dC dI cI cC cZ sa ad mb mo mn mg z22 mt mz ml mi mb.2.2.1 mb.2.2.2.1 (1 : Int32) hcr _) gX9_least_X9_fewestShown rfl (by decide +kernel) ⟨Nat.le_of_ble_eq_true rfl, Nat.le_of_ble_eq_true rfl⟩ 0 9 rfl rfl rfl hl.1 rfl (Nat.le_of_ble_eq_true rfl) dX9_least_66 ⟨Nat.zero_le _, Nat.zero_le _⟩) rep_full (fun H locs hP hS => ?_)
        refine lv_aload_n hx hb dX9_least_69 rfl (lv_at hl 1 rfl) ?_
        refine lv_aload_n hx hb dX9_least_70 rfl (lv_at hl 1 rfl) ?_
        refine g_get (ci := 9) (C := RX9) (T := TX9) (N := 32) (v := .int mb.2.2.2.1) F hP 0 rfl rfl inX9_least_X9 4 (by decide) (List.mem_of_getElem? (i := 1) rfl) rfl dX9_least_71 ?_
        refine lv_aload_n hx hb dX9_least_74 rfl (lv_at hl 1 rfl) ?_
        refine g_get (ci := 9) (C := RX9) (T := TX9) (N := 32) (v := .int mb.2.2.1) F hP 0 rfl rfl inX9_least_X9 3 (by decide) (List.mem_of_getElem? (i := 3) rfl) rfl dX9_least_75 ?_
        refine lv_iconst (v := 0) hx hb dX9_least_78 (by decide) ?_
        obtain ⟨z79, hcr, hM⟩ := ob_s hM
        refine res_i (ws' := (wM cI cZ ad mb mo mn mg z79.2.1 mt z79.2.2 ml mi)) F hP hS rfl [0, 1, 2, 3, 4, 5, 6, 7, 8, 9, 10, 11, 12] rfl rfl (runV_of (n := 3) (As := [.int mb.2.2.2.1, .int mb.2.2.1, .int (0 : Int32)]) (rest := [.int z66.1]) F hP hS rfl [0, 1, 2, 3, 4, 5, 6, 7, 8, 9, 10, 11, 12] rfl rfl (c_X9_fewestShown l dC dI cI cC cZ sa ad mb mo mn mg z66.2.1 mt z66.2.2 ml mi mb.2.2.2.1 mb.2.2.1 (0 : Int32) hcr _) gX9_least_X9_fewestShown rfl (by decide +kernel) ⟨Nat.le_of_ble_eq_true rfl, Nat.le_of_ble_eq_true rfl⟩ 0 9 rfl rfl rfl hl.1 rfl (Nat.le_of_ble_eq_true rfl) dX9_least_79 ⟨Nat.zero_le _, Nat.zero_le _⟩) rep_full (fun H locs hP hS => ?_)
        refine lv_iadd hx hb dX9_least_82 ?_
        exact ret_i hx hb hr hlk dX9_least_83 hM hP hS
      · have hM := if_pp hc hM
        refine lv_iconst (v := 2) hx hb dX9_least_50 (by decide) ?_
        refine lv_iload_n hx hb dX9_least_51 rfl (lv_at hl 0 rfl) ?_
        refine lv_imul hx hb dX9_least_52 ?_
        refine lv_goto (tgt := 83) hx hb dX9_least_53 (by decide) ?_
        exact ret_i hx hb hr hlk dX9_least_83 hM hP hS
    · have hM := if_pp hc hM
      refine lv_bipush (v := -6) hx hb dX9_least_42 (by decide) ?_
      exact ret_i hx hb hr hlk dX9_least_44 hM hP hS
  · have hM := if_pp hc hM
    refine lv_bipush (v := -2) hx hb dX9_least_10 (by decide) ?_
    exact ret_i hx hb hr hlk dX9_least_12 hM hP hS
set_option maxHeartbeats 4000000 in
set_option maxRecDepth 100000 in
theorem c_X9_lowest (l : Launch) (dC : Nat → ClassId) (dI : Nat → Nat → Nat) (cI cC cZ : ClassId) (sa : Nat → Nat)  (x1 : Int64) (x2 : Int64) (x3 : Int32) {res : Int64} (hM : M_X9_lowest x1 x2 x3 = some res) : CTl l (dC, dI) [(cI, .int), (cC, .char), (cZ, .boolean)] sa yX9_lowest wsX9_lowest (rmd 1) [.long x1, .long x2, .int x3] ([] : va_W) (fun (_ : Unit) => ([] : va_W)) (res, ()) := by
  refine CTl.enter (own := RX9) (cc := cX9_lowest) (maxL := 11) (ret := (some .long)) (by decide) rfl rfl (Nat.le_of_ble_eq_true rfl) ?_
  intro pr e s m below meth c A F hr hlk hP hS ls hl
  obtain ⟨⟨hx, hb, hml, hown, hts⟩, hK, hDD, hA, hKC⟩ := id F
  have hl : lv_has ls 11 [(0, .long x1), (2, .long x2), (4, .int x3)] := hl
  have hP : va_P (dC, dI) vwCl ([] : va_W) s.heap := hP
  unfold M_X9_lowest at hM
  refine kloop (α := Int64 × Int64) (res := res) (fun k a => M_X9_lowest_6 x1 x2 x3 k a) (fun rec a => M_X9_lowest_6b x1 x2 x3 rec a) (fun _ => rfl) (fun _ _ => rfl) F (fun a => ([] : va_W)) (fun a => [(0, .long x1), (2, .long x2), (4, .int x3), (5, .long a.1), (7, .long a.2)]) (fun a => []) 6 ?_ (fun j6 => ?_)
  · intro rc6 ih6 a6 H locs ls hP hS hl hM
    unfold M_X9_lowest_6b at hM
    refine lv_lload hx hb dX9_lowest_6 (lv_at hl 4 rfl) ?_
    refine lv_lconst (v := 0) hx hb dX9_lowest_8 (by decide) ?_
    refine W.lcmp hx hb dX9_lowest_9 ?_
    refine lv_if_eq (tgt := 31) hx hb dX9_lowest_10 (by decide) (fun hc => ?_) (fun hc => ?_)
    · have hM := if_pp hc hM
      refine lv_iload hx hb dX9_lowest_31 (lv_at hl 2 rfl) ?_
      refine lv_if_ne (tgt := 43) hx hb dX9_lowest_33 (by decide) (fun hc => ?_) (fun hc => ?_)
      · have hM := if_nn hc hM
        refine lv_lload_n hx hb dX9_lowest_43 rfl (lv_at hl 1 rfl) ?_
        refine lv_lload hx hb dX9_lowest_44 (lv_at hl 3 rfl) ?_
        obtain ⟨hne, hM⟩ := if_ok hM
        refine lv_ldiv hx hb dX9_lowest_46 hne ?_
        exact ret_l hx hb hr hlk dX9_lowest_47 (some_u hM) hP hS
      · have hM := if_pp hc hM
        refine lv_lload_n hx hb dX9_lowest_36 rfl (lv_at hl 0 rfl) ?_
        refine lv_lload hx hb dX9_lowest_37 (lv_at hl 3 rfl) ?_
        obtain ⟨hne, hM⟩ := if_ok hM
        refine lv_ldiv hx hb dX9_lowest_39 hne ?_
        refine lv_goto (tgt := 47) hx hb dX9_lowest_40 (by decide) ?_
        exact ret_l hx hb hr hlk dX9_lowest_47 (some_u hM) hP hS
    · have hM := if_nn hc hM
      refine lv_lload hx hb dX9_lowest_13 (lv_at hl 3 rfl) ?_
      refine lv_lload hx hb dX9_lowest_15 (lv_at hl 4 rfl) ?_
      obtain ⟨hne, hM⟩ := if_ok hM
      refine lv_lrem hx hb dX9_lowest_17 hne ?_
      refine lv_lstore (lv' := [(9, .long (a6.1 - a6.1 / a6.2 * a6.2)), (0, .long x1), (2, .long x2), (4, .int x3), (5, .long a6.1), (7, .long a6.2)]) hx hb dX9_lowest_18 hl (by decide) rfl (fun ls hl => ?_)
      refine lv_lload hx hb dX9_lowest_20 (lv_at hl 5 rfl) ?_
      refine lv_lstore (lv' := [(5, .long a6.2), (9, .long (a6.1 - a6.1 / a6.2 * a6.2)), (0, .long x1), (2, .long x2), (4, .int x3), (7, .long a6.2)]) hx hb dX9_lowest_22 hl (by decide) rfl (fun ls hl => ?_)
      refine lv_lload hx hb dX9_lowest_24 (lv_at hl 1 rfl) ?_
      refine lv_lstore (lv' := [(7, .long (a6.1 - a6.1 / a6.2 * a6.2)), (5, .long a6.2), (9, .long (a6.1 - a6.1 / a6.2 * a6.2)), (0, .long x1), (2, .long x2), (4, .int x3)]) hx hb dX9_lowest_26 hl (by decide) rfl (fun ls hl => ?_)
      refine lv_goto (tgt := 6) hx hb dX9_lowest_28 (by decide) ?_
      exact ih6 (a6.2, (a6.1 - a6.1 / a6.2 * a6.2)) _ _ _ hP hS (lv_sub hl [3, 4, 5, 1, 0] rfl) hM
  refine lv_lload_n hx hb dX9_lowest_0 rfl (lv_at hl 1 rfl) ?_
  refine lv_lstore (lv' := [(5, .long x2), (0, .long x1), (2, .long x2), (4, .int x3)]) hx hb dX9_lowest_1 hl (by decide) rfl (fun ls hl => ?_)
  refine lv_lload_n hx hb dX9_lowest_3 rfl (lv_at hl 1 rfl) ?_
  refine lv_lstore (lv' := [(7, .long x1), (5, .long x2), (0, .long x1), (2, .long x2), (4, .int x3)]) hx hb dX9_lowest_4 hl (by decide) rfl (fun ls hl => ?_)
  exact j6 200 (x2, x1) _ _ _ hP hS (lv_sub hl [2, 3, 4, 1, 0] rfl) hM
theorem inX9_meet_X9 : ∀ w ∈ wsX90, w ∈ wsX9_meet := fun w h => List.mem_cons_of_mem _ (List.mem_append_right _ h)
set_option maxHeartbeats 4000000 in
set_option maxRecDepth 100000 in
theorem c_X9_meet (l : Launch) (dC : Nat → ClassId) (dI : Nat → Nat → Nat) (cI cC cZ : ClassId) (sa : Nat → Nat) (ad : Nat → Nat) (mb : BT) (mo : OT) (mn : NT) (mg : GT) (mf : AR) (mt : TT) (mz : AR) (ml : LT) (mi : IT) (x1 : Int32) (x2 : Int32) {res : Int32 × NT × GT} (hM : M_X9_meet mb mo mn mg x1 x2 = some res) : CTi l (dC, dI) [(cI, .int), (cC, .char), (cZ, .boolean)] sa yX9_meet wsX9_meet (rmd 9) [.ref (ad 0), .int x1, .int x2] (wM cI cZ ad mb mo mn mg mf mt mz ml mi) (fun (uu : NT × GT) => (wM cI cZ ad mb mo uu.1 uu.2 mf mt mz ml mi)) res := by
  refine CTi.enter (own := RX9) (cc := cX9_meet) (maxL := 10) (ret := (some .int)) (by decide) rfl rfl (Nat.le_of_ble_eq_true rfl) ?_
  intro pr e s m below meth c A F hr hlk hP hS ls hl
  obtain ⟨⟨hx, hb, hml, hown, hts⟩, hK, hDD, hA, hKC⟩ := id F
  have hl : lv_has ls 10 [(0, .ref (ad 0)), (1, .int x1), (2, .int x2)] := hl
  have hP : va_P (dC, dI) vwCl (wM cI cZ ad mb mo mn mg mf mt mz ml mi) s.heap := hP
  unfold M_X9_meet at hM
  refine kloop (α := NT × GT × Int32 × Int32) (res := res) (fun k a => M_X9_meet_73 mb mo x1 x2 k a) (fun rec a => M_X9_meet_73b mb mo x1 x2 rec a) (fun _ => rfl) (fun _ _ => rfl) F (fun a => (wM cI cZ ad mb mo a.1 a.2.1 mf mt mz ml mi)) (fun a => [(0, .ref (ad 0)), (1, .int x1), (2, .int x2), (4, .int a.2.2.1), (5, .int a.2.2.2)]) (fun a => []) 73 ?_ (fun j73 => ?_)
  · intro rc73 ih73 a73 H locs ls hP hS hl hM
    unfold M_X9_meet_73b at hM
    refine kblk (α := NT × GT × Int32 × Int32) (res := res) (fun a => M_X9_meet_191 mb mo x1 x2 rc73 a) F (fun a => (wM cI cZ ad mb mo a.1 a.2.1 mf mt mz ml mi)) (fun a => [(0, .ref (ad 0)), (1, .int x1), (2, .int x2), (4, .int a.2.2.1), (5, .int a.2.2.2)]) (fun a => []) 191 ?_ (fun j191 => ?_)
    · intro a191 H locs ls hP hS hl hM
      unfold M_X9_meet_191 at hM
      refine lv_iinc (v := (a191.2.2.2 + (1 : Int32))) (lv' := [(5, .int (a191.2.2.2 + (1 : Int32))), (0, .ref (ad 0)), (1, .int x1), (2, .int x2), (4, .int a191.2.2.1)]) hx hb dX9_meet_191 hl (k := 4) rfl rfl (by decide) rfl (fun ls hl => ?_)
      refine lv_goto (tgt := 73) hx hb dX9_meet_194 (by decide) ?_
      exact ih73 (a191.1, a191.2.1, a191.2.2.1, (a191.2.2.2 + (1 : Int32))) _ _ _ hP hS (lv_sub hl [1, 2, 3, 4, 0] rfl) hM
    refine kblk (α := NT × GT × Int32 × Int32 × Int32 × Int32) (res := res) (fun a => M_X9_meet_161 mb mo x1 x2 rc73 a) F (fun a => (wM cI cZ ad mb mo a.1 a.2.1 mf mt mz ml mi)) (fun a => [(0, .ref (ad 0)), (1, .int x1), (2, .int x2), (5, .int a.2.2.1), (6, .int a.2.2.2.1), (7, .int a.2.2.2.2.1)]) (fun a => [.int a.2.2.2.2.2]) 161 ?_ (fun j161 => ?_)
    · intro a161 H locs ls hP hS hl hM
      unfold M_X9_meet_161 at hM
      refine lv_istore (lv' := [(4, .int a161.2.2.2.2.2), (0, .ref (ad 0)), (1, .int x1), (2, .int x2), (5, .int a161.2.2.1), (6, .int a161.2.2.2.1), (7, .int a161.2.2.2.2.1)]) hx hb dX9_meet_161 hl (by decide) rfl (fun ls hl => ?_)
      refine lv_aload_n hx hb dX9_meet_163 rfl (lv_at hl 1 rfl) ?_
      refine g_get (ci := 9) (C := RX9) (T := TX9) (N := 32) (v := .int a161.1.1) F hP 0 rfl rfl inX9_meet_X9 12 (by decide) (List.mem_of_getElem? (i := 4) rfl) rfl dX9_meet_164 ?_
      refine lv_iload hx hb dX9_meet_167 (lv_at hl 0 rfl) ?_
      refine lv_icmp_eq (tgt := 188) hx hb dX9_meet_169 (by decide) (fun hc => ?_) (fun hc => ?_)
      · have hM := if_pp hc hM
        refine lv_iload hx hb dX9_meet_188 (lv_at hl 4 rfl) ?_
        exact ret_i hx hb hr hlk dX9_meet_190 hM hP hS
      · have hM := if_nn hc hM
        refine lv_aload_n hx hb dX9_meet_172 rfl (lv_at hl 1 rfl) ?_
        refine g_get (ci := 9) (C := RX9) (T := TX9) (N := 32) (v := .int a161.1.1) F hP 0 rfl rfl inX9_meet_X9 12 (by decide) (List.mem_of_getElem? (i := 4) rfl) rfl dX9_meet_173 ?_
        refine lv_iload hx hb dX9_meet_176 (lv_at hl 6 rfl) ?_
        refine lv_icmp_ne (tgt := 191) hx hb dX9_meet_178 (by decide) (fun hc => ?_) (fun hc => ?_)
        · have hM := if_nn hc hM
          exact j191 (a161.1, a161.2.1, a161.2.2.2.2.2, a161.2.2.1) _ _ _ hP hS (lv_sub hl [1, 2, 3, 0, 4] rfl) hM
        · have hM := if_pp hc hM
          refine lv_iload hx hb dX9_meet_181 (lv_at hl 0 rfl) ?_
          refine lv_iload hx hb dX9_meet_183 (lv_at hl 5 rfl) ?_
          refine lv_icmp_ne (tgt := 191) hx hb dX9_meet_185 (by decide) (fun hc => ?_) (fun hc => ?_)
          · have hM := if_nn hc hM
            exact j191 (a161.1, a161.2.1, a161.2.2.2.2.2, a161.2.2.1) _ _ _ hP hS (lv_sub hl [1, 2, 3, 0, 4] rfl) hM
          · have hM := if_pp hc hM
            refine lv_iload hx hb dX9_meet_188 (lv_at hl 4 rfl) ?_
            exact ret_i hx hb hr hlk dX9_meet_190 hM hP hS
    refine kblk (α := NT × GT × Int32 × Int32 × Int32 × Int32 × Int32) (res := res) (fun a => M_X9_meet_147 mb mo x1 x2 rc73 a) F (fun a => (wM cI cZ ad mb mo a.1 a.2.1 mf mt mz ml mi)) (fun a => [(0, .ref (ad 0)), (1, .int x1), (2, .int x2), (4, .int a.2.2.1), (5, .int a.2.2.2.1), (6, .int a.2.2.2.2.1), (7, .int a.2.2.2.2.2.1)]) (fun a => [.int a.2.2.2.2.2.2]) 147 ?_ (fun j147 => ?_)
    · intro a147 H locs ls hP hS hl hM
      unfold M_X9_meet_147 at hM
      refine lv_istore (lv' := [(9, .int a147.2.2.2.2.2.2), (0, .ref (ad 0)), (1, .int x1), (2, .int x2), (4, .int a147.2.2.1), (5, .int a147.2.2.2.1), (6, .int a147.2.2.2.2.1), (7, .int a147.2.2.2.2.2.1)]) hx hb dX9_meet_147 hl (by decide) rfl (fun ls hl => ?_)
      refine lv_iload hx hb dX9_meet_149 (lv_at hl 0 rfl) ?_
      refine lv_if_lt (tgt := 159) hx hb dX9_meet_151 (by decide) (fun hc => ?_) (fun hc => ?_)
      · have hM := if_pp hc hM
        refine lv_iload hx hb dX9_meet_159 (lv_at hl 4 rfl) ?_
        exact j161 (a147.1, a147.2.1, a147.2.2.2.1, a147.2.2.2.2.1, a147.2.2.2.2.2.1, a147.2.2.1) _ _ _ hP hS (lv_sub hl [1, 2, 3, 5, 6, 7] rfl) hM
      · have hM := if_nn hc hM
        refine lv_iload hx hb dX9_meet_154 (lv_at hl 0 rfl) ?_
        refine lv_goto (tgt := 161) hx hb dX9_meet_156 (by decide) ?_
        exact j161 (a147.1, a147.2.1, a147.2.2.2.1, a147.2.2.2.2.1, a147.2.2.2.2.2.1, a147.2.2.2.2.2.2) _ _ _ hP hS (lv_sub hl [1, 2, 3, 5, 6, 7] rfl) hM
    refine lv_iload hx hb dX9_meet_73 (lv_at hl 4 rfl) ?_
    refine lv_aload_n hx hb dX9_meet_75 rfl (lv_at hl 0 rfl) ?_
    refine g_get (ci := 9) (C := RX9) (T := TX9) (N := 32) (v := .int mo.1) F hP 0 rfl rfl inX9_meet_X9 11 (by decide) (List.mem_of_getElem? (i := 3) rfl) rfl dX9_meet_76 ?_
    refine lv_icmp_ge (tgt := 197) hx hb dX9_meet_79 (by decide) (fun hc => ?_) (fun hc => ?_)
    · have hM := if_pp hc hM
      refine lv_bipush (v := -6) hx hb dX9_meet_197 (by decide) ?_
      exact ret_i hx hb hr hlk dX9_meet_199 hM hP hS
    · have hM := if_nn hc hM
      refine lv_iload hx hb dX9_meet_82 (lv_at hl 4 rfl) ?_
      refine lv_iload_n hx hb dX9_meet_84 rfl (lv_at hl 2 rfl) ?_
      refine lv_icmp_ge (tgt := 197) hx hb dX9_meet_85 (by decide) (fun hc => ?_) (fun hc => ?_)
      · have hM := if_pp hc hM
        refine lv_bipush (v := -6) hx hb dX9_meet_197 (by decide) ?_
        exact ret_i hx hb hr hlk dX9_meet_199 hM hP hS
      · have hM := if_nn hc hM
        refine lv_aload_n hx hb dX9_meet_88 rfl (lv_at hl 0 rfl) ?_
        refine g_get (ci := 9) (C := RX9) (T := TX9) (N := 32) (v := .int a73.1.1) F hP 0 rfl rfl inX9_meet_X9 12 (by decide) (List.mem_of_getElem? (i := 4) rfl) rfl dX9_meet_89 ?_
        refine lv_istore (lv' := [(6, .int a73.1.1), (0, .ref (ad 0)), (1, .int x1), (2, .int x2), (4, .int a73.2.2.1), (5, .int a73.2.2.2)]) hx hb dX9_meet_92 hl (by decide) rfl (fun ls hl => ?_)
        refine lv_iload hx hb dX9_meet_94 (lv_at hl 4 rfl) ?_
        refine lv_istore (lv' := [(7, .int a73.2.2.1), (6, .int a73.1.1), (0, .ref (ad 0)), (1, .int x1), (2, .int x2), (4, .int a73.2.2.1), (5, .int a73.2.2.2)]) hx hb dX9_meet_96 hl (by decide) rfl (fun ls hl => ?_)
        refine lv_aload_n hx hb dX9_meet_98 rfl (lv_at hl 2 rfl) ?_
        refine lv_aload_n hx hb dX9_meet_99 rfl (lv_at hl 2 rfl) ?_
        refine g_get (ci := 9) (C := RX9) (T := TX9) (N := 32) (v := .ref (ad 5)) F hP 0 rfl rfl inX9_meet_X9 10 (by decide) (List.mem_of_getElem? (i := 5) rfl) rfl dX9_meet_100 ?_
        refine lv_iload hx hb dX9_meet_103 (lv_at hl 6 rfl) ?_
        obtain ⟨hin, hM⟩ := if_ok hM
        refine va_iald hx hb hK hP 5 0 rfl rfl hin dX9_meet_105 ?_
        obtain ⟨z106, hcr, hM⟩ := ob_s hM
        refine res_i0 F hP hS rfl [] rfl rfl (runS_of (n := 1) (As := [.int (mo.2 a73.2.2.2.toNatClampNeg)]) (rest := [.ref (ad 0)]) F hP hS rfl [] rfl rfl (c_X9_wayOf l dC dI cI cC cZ sa (mo.2 a73.2.2.2.toNatClampNeg) hcr _) gX9_meet_X9_wayOf rfl (by decide +kernel) ⟨Nat.le_of_ble_eq_true rfl, Nat.le_of_ble_eq_true rfl⟩ rfl hl.1 rfl (Nat.le_of_ble_eq_true rfl) dX9_meet_106 ⟨Nat.zero_le _, Nat.zero_le _⟩) (fun H locs hP hS => ?_)
        obtain ⟨z109, hcr, hM⟩ := ob_s hM
        refine res_i (ws' := (wM cI cZ ad mb mo z109.2 a73.2.1 mf mt mz ml mi)) F hP hS rfl [0, 1, 2, 3, 4, 5, 6, 7, 8, 9, 10, 11, 12] rfl rfl (runV_of (n := 1) (As := [.int z106]) (rest := []) F hP hS rfl [0, 1, 2, 3, 4, 5, 6, 7, 8, 9, 10, 11, 12] rfl rfl (c_X9_step l dC dI cI cC cZ sa ad mb mo a73.1 a73.2.1 mf mt mz ml mi z106 hcr _) gX9_meet_X9_step rfl (by decide +kernel) ⟨Nat.le_of_ble_eq_true rfl, Nat.le_of_ble_eq_true rfl⟩ 0 9 rfl rfl rfl hl.1 rfl (Nat.le_of_ble_eq_true rfl) dX9_meet_109 ⟨Nat.zero_le _, Nat.zero_le _⟩) rep_full (fun H locs hP hS => ?_)
        refine lv_pop hx hb dX9_meet_112 rfl ?_
        refine lv_iload_n hx hb dX9_meet_113 rfl (lv_at hl 3 rfl) ?_
        refine lv_iload_n hx hb dX9_meet_114 rfl (lv_at hl 4 rfl) ?_
        refine lv_iconst (v := 1) hx hb dX9_meet_115 (by decide) ?_
        refine lv_isub hx hb dX9_meet_116 ?_
        refine lv_iload hx hb dX9_meet_117 (lv_at hl 6 rfl) ?_
        refine lv_isub hx hb dX9_meet_119 ?_
        obtain ⟨z120, hcr, hM⟩ := ob_s hM
        refine res_i0 F hP hS rfl [] rfl rfl (runS_of (n := 1) (As := [.int ((x2 - (1 : Int32)) - a73.2.2.2)]) (rest := [.int x1]) F hP hS rfl [] rfl rfl (c_X9_fives l dC dI cI cC cZ sa ((x2 - (1 : Int32)) - a73.2.2.2) hcr _) gX9_meet_X9_fives rfl (by decide +kernel) ⟨Nat.le_of_ble_eq_true rfl, Nat.le_of_ble_eq_true rfl⟩ rfl hl.1 rfl (Nat.le_of_ble_eq_true rfl) dX9_meet_120 ⟨Nat.zero_le _, Nat.zero_le _⟩) (fun H locs hP hS => ?_)
        obtain ⟨hne, hM⟩ := if_ok hM
        refine lv_idiv hx hb dX9_meet_123 hne ?_
        refine lv_iconst (v := 5) hx hb dX9_meet_124 (by decide) ?_
        obtain ⟨hne, hM⟩ := if_ok hM
        refine lv_irem hx hb dX9_meet_125 hne ?_
        refine lv_istore (lv' := [(8, .int ((x1 / z120) - (x1 / z120) / (5 : Int32) * (5 : Int32))), (7, .int a73.2.2.1), (6, .int a73.1.1), (0, .ref (ad 0)), (1, .int x1), (2, .int x2), (4, .int a73.2.2.1), (5, .int a73.2.2.2)]) hx hb dX9_meet_126 hl (by decide) rfl (fun ls hl => ?_)
        refine lv_iload hx hb dX9_meet_128 (lv_at hl 0 rfl) ?_
        refine lv_iconst (v := 4) hx hb dX9_meet_130 (by decide) ?_
        refine lv_icmp_ne (tgt := 139) hx hb dX9_meet_131 (by decide) (fun hc => ?_) (fun hc => ?_)
        · have hM := if_nn hc hM
          refine lv_aload_n hx hb dX9_meet_139 rfl (lv_at hl 3 rfl) ?_
          refine lv_iload hx hb dX9_meet_140 (lv_at hl 6 rfl) ?_
          refine lv_iload hx hb dX9_meet_142 (lv_at hl 0 rfl) ?_
          obtain ⟨z144, hcr, hM⟩ := ob_s hM
          refine res_i0 F hP hS rfl [0, 1, 2, 3, 4, 5, 6, 7, 8, 9, 10, 11, 12] rfl rfl (runV_of (n := 2) (As := [.int a73.2.2.1, .int ((x1 / z120) - (x1 / z120) / (5 : Int32) * (5 : Int32))]) (rest := []) F hP hS rfl [0, 1, 2, 3, 4, 5, 6, 7, 8, 9, 10, 11, 12] rfl rfl (c_X9_beyond l dC dI cI cC cZ sa ad mb mo z109.2 a73.2.1 mf mt mz ml mi a73.2.2.1 ((x1 / z120) - (x1 / z120) / (5 : Int32) * (5 : Int32)) hcr _) gX9_meet_X9_beyond rfl (by decide +kernel) ⟨Nat.le_of_ble_eq_true rfl, Nat.le_of_ble_eq_true rfl⟩ 0 9 rfl rfl rfl hl.1 rfl (Nat.le_of_ble_eq_true rfl) dX9_meet_144 ⟨Nat.zero_le _, Nat.zero_le _⟩) (fun H locs hP hS => ?_)
          exact j147 (z109.2, a73.2.1, a73.2.2.1, a73.2.2.2, a73.1.1, a73.2.2.1, z144) _ _ _ hP hS (lv_sub hl [3, 4, 5, 6, 7, 2, 1] rfl) hM
        · have hM := if_pp hc hM
          refine lv_iload hx hb dX9_meet_134 (lv_at hl 6 rfl) ?_
          refine lv_goto (tgt := 147) hx hb dX9_meet_136 (by decide) ?_
          exact j147 (z109.2, a73.2.1, a73.2.2.1, a73.2.2.2, a73.1.1, a73.2.2.1, a73.2.2.1) _ _ _ hP hS (lv_sub hl [3, 4, 5, 6, 7, 2, 1] rfl) hM
  refine kblk (α := NT × GT × Int32 × Int64 × Int64) (res := res) (fun a => M_X9_meet_32 mb mo x1 x2 a) F (fun a => (wM cI cZ ad mb mo a.1 a.2.1 mf mt mz ml mi)) (fun a => [(0, .ref (ad 0)), (1, .int x1), (2, .int x2)]) (fun a => [.int a.2.2.1, .long a.2.2.2.1, .long a.2.2.2.2]) 32 ?_ (fun j32 => ?_)
  · intro a32 H locs ls hP hS hl hM
    unfold M_X9_meet_32 at hM
    obtain ⟨z32, hcr, hM⟩ := ob_s hM
    refine res_i0 F hP hS rfl [] rfl rfl (runS_of (n := 1) (As := [.int a32.2.2.1]) (rest := [.long a32.2.2.2.1, .long a32.2.2.2.2]) F hP hS rfl [] rfl rfl (c_X9_fives l dC dI cI cC cZ sa a32.2.2.1 hcr _) gX9_meet_X9_fives rfl (by decide +kernel) ⟨Nat.le_of_ble_eq_true rfl, Nat.le_of_ble_eq_true rfl⟩ rfl hl.1 rfl (Nat.le_of_ble_eq_true rfl) dX9_meet_32 ⟨Nat.zero_le _, Nat.zero_le _⟩) (fun H locs hP hS => ?_)
    refine lv_iconst (v := 1) hx hb dX9_meet_35 (by decide) ?_
    refine lv_isub hx hb dX9_meet_36 ?_
    refine lv_i2l (v := (z32 - (1 : Int32)).toInt64) hx hb dX9_meet_37 rfl ?_
    obtain ⟨z38, hcr, hM⟩ := ob_s hM
    refine res_i0 F hP hS rfl [] rfl rfl (runS_of (n := 3) (As := [.long a32.2.2.2.2, .long a32.2.2.2.1, .long ((z32 - (1 : Int32)).toInt64)]) (rest := []) F hP hS rfl [] rfl rfl (c_X9_in l dC dI cI cC cZ sa a32.2.2.2.2 a32.2.2.2.1 ((z32 - (1 : Int32)).toInt64) hcr _) gX9_meet_X9_in rfl (by decide +kernel) ⟨Nat.le_of_ble_eq_true rfl, Nat.le_of_ble_eq_true rfl⟩ rfl hl.1 rfl (Nat.le_of_ble_eq_true rfl) dX9_meet_38 ⟨Nat.zero_le _, Nat.zero_le _⟩) (fun H locs hP hS => ?_)
    refine lv_if_ne (tgt := 47) hx hb dX9_meet_41 (by decide) (fun hc => ?_) (fun hc => ?_)
    · have hM := if_nn hc hM
      refine lv_aload_n hx hb dX9_meet_47 rfl (lv_at hl 0 rfl) ?_
      obtain ⟨z48, hcr, hM⟩ := ob_s hM
      refine res_i (ws' := (wM cI cZ ad mb mo z48.2.1 z48.2.2 mf mt mz ml mi)) F hP hS rfl [0, 1, 2, 3, 4, 5, 6, 7, 8, 9, 10, 11, 12] rfl rfl (runV_of (n := 0) (As := []) (rest := []) F hP hS rfl [0, 1, 2, 3, 4, 5, 6, 7, 8, 9, 10, 11, 12] rfl rfl (c_X9_refusal l dC dI cI cC cZ sa ad mb mo a32.1 a32.2.1 mf mt mz ml mi hcr _) gX9_meet_X9_refusal rfl (by decide +kernel) ⟨Nat.le_of_ble_eq_true rfl, Nat.le_of_ble_eq_true rfl⟩ 0 9 rfl rfl rfl hl.1 rfl (Nat.le_of_ble_eq_true rfl) dX9_meet_48 ⟨Nat.zero_le _, Nat.zero_le _⟩) rep_full (fun H locs hP hS => ?_)
      refine lv_istore_n (lv' := [(3, .int z48.1), (0, .ref (ad 0)), (1, .int x1), (2, .int x2)]) hx hb dX9_meet_51 rfl hl (by decide) rfl (fun ls hl => ?_)
      refine lv_iload_n hx hb dX9_meet_52 rfl (lv_at hl 0 rfl) ?_
      refine lv_bipush (v := -6) hx hb dX9_meet_53 (by decide) ?_
      refine lv_icmp_eq (tgt := 60) hx hb dX9_meet_55 (by decide) (fun hc => ?_) (fun hc => ?_)
      · have hM := if_pp hc hM
        refine lv_aload_n hx hb dX9_meet_60 rfl (lv_at hl 1 rfl) ?_
        obtain ⟨z61, hcr, hM⟩ := ob_s hM
        refine res_v (ws' := (wM cI cZ ad mb mo z61 z48.2.2 mf mt mz ml mi)) F hP hS rfl [0, 1, 2, 3, 4, 5, 6, 7, 8, 9, 10, 11, 12] rfl rfl (runV_of (n := 0) (As := []) (rest := []) F hP hS rfl [0, 1, 2, 3, 4, 5, 6, 7, 8, 9, 10, 11, 12] rfl rfl (c_X9_begin l dC dI cI cC cZ sa ad mb mo z48.2.1 z48.2.2 mf mt mz ml mi hcr _) gX9_meet_X9_begin rfl (by decide +kernel) ⟨Nat.le_of_ble_eq_true rfl, Nat.le_of_ble_eq_true rfl⟩ 0 9 rfl rfl rfl hl.1 rfl (Nat.le_of_ble_eq_true rfl) dX9_meet_61 ⟨Nat.zero_le _, Nat.zero_le _⟩) rep_full (fun H locs hP hS => ?_)
        refine lv_aload_n hx hb dX9_meet_64 rfl (lv_at hl 1 rfl) ?_
        refine g_get (ci := 9) (C := RX9) (T := TX9) (N := 32) (v := .int mb.2.2.2.1) F hP 0 rfl rfl inX9_meet_X9 4 (by decide) (List.mem_of_getElem? (i := 2) rfl) rfl dX9_meet_65 ?_
        refine lv_istore (lv' := [(4, .int mb.2.2.2.1), (3, .int z48.1), (0, .ref (ad 0)), (1, .int x1), (2, .int x2)]) hx hb dX9_meet_68 hl (by decide) rfl (fun ls hl => ?_)
        refine lv_iconst (v := 0) hx hb dX9_meet_70 (by decide) ?_
        refine lv_istore (lv' := [(5, .int (0 : Int32)), (4, .int mb.2.2.2.1), (3, .int z48.1), (0, .ref (ad 0)), (1, .int x1), (2, .int x2)]) hx hb dX9_meet_71 hl (by decide) rfl (fun ls hl => ?_)
        exact j73 200 (z61, z48.2.2, mb.2.2.2.1, (0 : Int32)) _ _ _ hP hS (lv_sub hl [3, 4, 5, 1, 0] rfl) hM
      · have hM := if_nn hc hM
        refine lv_iload_n hx hb dX9_meet_58 rfl (lv_at hl 0 rfl) ?_
        exact ret_i hx hb hr hlk dX9_meet_59 hM hP hS
    · have hM := if_pp hc hM
      refine lv_bipush (v := -2) hx hb dX9_meet_44 (by decide) ?_
      exact ret_i hx hb hr hlk dX9_meet_46 hM hP hS
  refine lv_iload_n hx hb dX9_meet_0 rfl (lv_at hl 2 rfl) ?_
  refine lv_i2l (v := x2.toInt64) hx hb dX9_meet_1 rfl ?_
  refine lv_lconst (v := 0) hx hb dX9_meet_2 (by decide) ?_
  refine lv_ldc2 (v := 8) hx hb hown (hts _ (List.mem_of_getElem? (i := 1) rfl)) dX9_meet_3 ?_
  obtain ⟨z6, hcr, hM⟩ := ob_s hM
  refine res_i0 F hP hS rfl [] rfl rfl (runS_of (n := 3) (As := [.long x2.toInt64, .long (0 : Int64), .long (8 : Int64)]) (rest := []) F hP hS rfl [] rfl rfl (c_X9_in l dC dI cI cC cZ sa x2.toInt64 (0 : Int64) (8 : Int64) hcr _) gX9_meet_X9_in rfl (by decide +kernel) ⟨Nat.le_of_ble_eq_true rfl, Nat.le_of_ble_eq_true rfl⟩ rfl hl.1 rfl (Nat.le_of_ble_eq_true rfl) dX9_meet_6 ⟨Nat.zero_le _, Nat.zero_le _⟩) (fun H locs hP hS => ?_)
  refine lv_if_eq (tgt := 44) hx hb dX9_meet_9 (by decide) (fun hc => ?_) (fun hc => ?_)
  · have hM := if_pp hc hM
    refine lv_bipush (v := -2) hx hb dX9_meet_44 (by decide) ?_
    exact ret_i hx hb hr hlk dX9_meet_46 hM hP hS
  · have hM := if_nn hc hM
    refine lv_iload_n hx hb dX9_meet_12 rfl (lv_at hl 1 rfl) ?_
    refine lv_i2l (v := x1.toInt64) hx hb dX9_meet_13 rfl ?_
    refine lv_lconst (v := 0) hx hb dX9_meet_14 (by decide) ?_
    refine lv_iload_n hx hb dX9_meet_15 rfl (lv_at hl 2 rfl) ?_
    refine lv_i2l (v := x2.toInt64) hx hb dX9_meet_16 rfl ?_
    refine lv_lconst (v := 0) hx hb dX9_meet_17 (by decide) ?_
    refine lv_ldc2 (v := 8) hx hb hown (hts _ (List.mem_of_getElem? (i := 1) rfl)) dX9_meet_18 ?_
    obtain ⟨z21, hcr, hM⟩ := ob_s hM
    refine res_i0 F hP hS rfl [] rfl rfl (runS_of (n := 3) (As := [.long x2.toInt64, .long (0 : Int64), .long (8 : Int64)]) (rest := [.long (0 : Int64), .long x1.toInt64]) F hP hS rfl [] rfl rfl (c_X9_in l dC dI cI cC cZ sa x2.toInt64 (0 : Int64) (8 : Int64) hcr _) gX9_meet_X9_in rfl (by decide +kernel) ⟨Nat.le_of_ble_eq_true rfl, Nat.le_of_ble_eq_true rfl⟩ rfl hl.1 rfl (Nat.le_of_ble_eq_true rfl) dX9_meet_21 ⟨Nat.zero_le _, Nat.zero_le _⟩) (fun H locs hP hS => ?_)
    refine lv_if_eq (tgt := 31) hx hb dX9_meet_24 (by decide) (fun hc => ?_) (fun hc => ?_)
    · have hM := if_pp hc hM
      refine lv_iconst (v := 0) hx hb dX9_meet_31 (by decide) ?_
      exact j32 (mn, mg, (0 : Int32), (0 : Int64), x1.toInt64) _ _ _ hP hS (lv_sub hl [0, 1, 2] rfl) hM
    · have hM := if_nn hc hM
      refine lv_iload_n hx hb dX9_meet_27 rfl (lv_at hl 2 rfl) ?_
      refine lv_goto (tgt := 32) hx hb dX9_meet_28 (by decide) ?_
      exact j32 (mn, mg, x2, (0 : Int64), x1.toInt64) _ _ _ hP hS (lv_sub hl [0, 1, 2] rfl) hM
theorem inX9_night_X9 : ∀ w ∈ wsX90, w ∈ wsX9_night := fun w h => List.mem_cons_of_mem _ (List.mem_append_right _ h)
set_option maxHeartbeats 4000000 in
set_option maxRecDepth 100000 in
theorem c_X9_night (l : Launch) (dC : Nat → ClassId) (dI : Nat → Nat → Nat) (cI cC cZ : ClassId) (sa : Nat → Nat) (ad : Nat → Nat) (mb : BT) (mo : OT) (mn : NT) (mg : GT) (mf : AR) (mt : TT) (mz : AR) (ml : LT) (mi : IT) (x1 : Int32) (x2 : Int32) (x3 : Int32) {res : Int32 × NT} (hM : M_X9_night mb mn x1 x2 x3 = some res) : CTi l (dC, dI) [(cI, .int), (cC, .char), (cZ, .boolean)] sa yX9_night wsX9_night (rmd 7) [.ref (ad 0), .int x1, .int x2, .int x3] (wM cI cZ ad mb mo mn mg mf mt mz ml mi) (fun (uu : NT) => (wM cI cZ ad mb mo uu mg mf mt mz ml mi)) res := by
  refine CTi.enter (own := RX9) (cc := cX9_night) (maxL := 7) (ret := (some .int)) (by decide) rfl rfl (Nat.le_of_ble_eq_true rfl) ?_
  intro pr e s m below meth c A F hr hlk hP hS ls hl
  obtain ⟨⟨hx, hb, hml, hown, hts⟩, hK, hDD, hA, hKC⟩ := id F
  have hl : lv_has ls 7 [(0, .ref (ad 0)), (1, .int x1), (2, .int x2), (3, .int x3)] := hl
  have hP : va_P (dC, dI) vwCl (wM cI cZ ad mb mo mn mg mf mt mz ml mi) s.heap := hP
  unfold M_X9_night at hM
  refine kloop (α := NT × Int32 × Int32 × Int32) (res := res) (fun k a => M_X9_night_52 mb x1 x2 x3 k a) (fun rec a => M_X9_night_52b mb x1 x2 x3 rec a) (fun _ => rfl) (fun _ _ => rfl) F (fun a => (wM cI cZ ad mb mo a.1 mg mf mt mz ml mi)) (fun a => [(0, .ref (ad 0)), (2, .int x2), (3, .int x3), (4, .int a.2.1), (5, .int a.2.2.1), (6, .int a.2.2.2)]) (fun a => []) 52 ?_ (fun j52 => ?_)
  · intro rc52 ih52 a52 H locs ls hP hS hl hM
    unfold M_X9_night_52b at hM
    refine kblk (α := NT × Int32 × Int32 × Int32 × Int32) (res := res) (fun a => M_X9_night_100 mb x1 x2 x3 rc52 a) F (fun a => (wM cI cZ ad mb mo a.1 mg mf mt mz ml mi)) (fun a => [(0, .ref (ad 0)), (2, .int x2), (3, .int x3), (4, .int a.2.1), (6, .int a.2.2.1)]) (fun a => [.int a.2.2.2.1, .int a.2.2.2.2]) 100 ?_ (fun j100 => ?_)
    · intro a100 H locs ls hP hS hl hM
      unfold M_X9_night_100 at hM
      refine lv_iadd hx hb dX9_night_100 ?_
      refine lv_istore (lv' := [(5, .int (a100.2.2.2.2 + a100.2.2.2.1)), (0, .ref (ad 0)), (2, .int x2), (3, .int x3), (4, .int a100.2.1), (6, .int a100.2.2.1)]) hx hb dX9_night_101 hl (by decide) rfl (fun ls hl => ?_)
      refine lv_iinc (v := (a100.2.2.1 + (1 : Int32))) (lv' := [(6, .int (a100.2.2.1 + (1 : Int32))), (5, .int (a100.2.2.2.2 + a100.2.2.2.1)), (0, .ref (ad 0)), (2, .int x2), (3, .int x3), (4, .int a100.2.1)]) hx hb dX9_night_103 hl (k := 5) rfl rfl (by decide) rfl (fun ls hl => ?_)
      refine lv_goto (tgt := 52) hx hb dX9_night_106 (by decide) ?_
      exact ih52 (a100.1, a100.2.1, (a100.2.2.2.2 + a100.2.2.2.1), (a100.2.2.1 + (1 : Int32))) _ _ _ hP hS (lv_sub hl [2, 3, 4, 5, 1, 0] rfl) hM
    refine lv_iload hx hb dX9_night_52 (lv_at hl 5 rfl) ?_
    refine lv_iload_n hx hb dX9_night_54 rfl (lv_at hl 1 rfl) ?_
    refine lv_icmp_ge (tgt := 109) hx hb dX9_night_55 (by decide) (fun hc => ?_) (fun hc => ?_)
    · have hM := if_pp hc hM
      refine lv_iload_n hx hb dX9_night_109 rfl (lv_at hl 2 rfl) ?_
      refine lv_if_ne (tgt := 118) hx hb dX9_night_110 (by decide) (fun hc => ?_) (fun hc => ?_)
      · have hM := if_nn hc hM
        refine lv_iload_n hx hb dX9_night_118 rfl (lv_at hl 2 rfl) ?_
        refine lv_iconst (v := 1) hx hb dX9_night_119 (by decide) ?_
        refine lv_icmp_ne (tgt := 130) hx hb dX9_night_120 (by decide) (fun hc => ?_) (fun hc => ?_)
        · have hM := if_nn hc hM
          refine lv_aload_n hx hb dX9_night_130 rfl (lv_at hl 0 rfl) ?_
          refine g_get (ci := 9) (C := RX9) (T := TX9) (N := 32) (v := .int a52.1.2.2.2) F hP 0 rfl rfl inX9_night_X9 15 (by decide) (List.mem_of_getElem? (i := 8) rfl) rfl dX9_night_131 ?_
          obtain ⟨z134, hcr, hM⟩ := ob_s hM
          refine res_i0 F hP hS rfl [] rfl rfl (runS_of (n := 1) (As := [.int a52.1.2.2.2]) (rest := []) F hP hS rfl [] rfl rfl (c_X9_ones l dC dI cI cC cZ sa a52.1.2.2.2 hcr _) gX9_night_X9_ones rfl (by decide +kernel) ⟨Nat.le_of_ble_eq_true rfl, Nat.le_of_ble_eq_true rfl⟩ rfl hl.1 rfl (Nat.le_of_ble_eq_true rfl) dX9_night_134 ⟨Nat.zero_le _, Nat.zero_le _⟩) (fun H locs hP hS => ?_)
          exact ret_i hx hb hr hlk dX9_night_137 hM hP hS
        · have hM := if_pp hc hM
          refine lv_aload_n hx hb dX9_night_123 rfl (lv_at hl 0 rfl) ?_
          refine g_get (ci := 9) (C := RX9) (T := TX9) (N := 32) (v := .int a52.1.1) F hP 0 rfl rfl inX9_night_X9 12 (by decide) (List.mem_of_getElem? (i := 7) rfl) rfl dX9_night_124 ?_
          refine lv_goto (tgt := 137) hx hb dX9_night_127 (by decide) ?_
          exact ret_i hx hb hr hlk dX9_night_137 hM hP hS
      · have hM := if_pp hc hM
        refine lv_iload hx hb dX9_night_113 (lv_at hl 4 rfl) ?_
        refine lv_goto (tgt := 137) hx hb dX9_night_115 (by decide) ?_
        exact ret_i hx hb hr hlk dX9_night_137 hM hP hS
    · have hM := if_nn hc hM
      refine lv_ldc2 (v := 75) hx hb hown (hts _ (List.mem_of_getElem? (i := 4) rfl)) dX9_night_58 ?_
      refine lv_iload hx hb dX9_night_61 (lv_at hl 3 rfl) ?_
      refine lv_i2l (v := a52.2.1.toInt64) hx hb dX9_night_63 rfl ?_
      refine lv_lmul hx hb dX9_night_64 ?_
      refine lv_ldc2 (v := 74) hx hb hown (hts _ (List.mem_of_getElem? (i := 5) rfl)) dX9_night_65 ?_
      refine lv_ladd hx hb dX9_night_68 ?_
      refine lv_ldc2 (v := 65537) hx hb hown (hts _ (List.mem_of_getElem? (i := 6) rfl)) dX9_night_69 ?_
      obtain ⟨hne, hM⟩ := if_ok hM
      refine lv_lrem hx hb dX9_night_72 hne ?_
      refine lv_l2i (v := ((((75 : Int64) * a52.2.1.toInt64) + (74 : Int64)) - (((75 : Int64) * a52.2.1.toInt64) + (74 : Int64)) / (65537 : Int64) * (65537 : Int64)).toInt32) hx hb dX9_night_73 rfl ?_
      refine lv_istore (lv' := [(4, .int (((((75 : Int64) * a52.2.1.toInt64) + (74 : Int64)) - (((75 : Int64) * a52.2.1.toInt64) + (74 : Int64)) / (65537 : Int64) * (65537 : Int64)).toInt32)), (0, .ref (ad 0)), (2, .int x2), (3, .int x3), (5, .int a52.2.2.1), (6, .int a52.2.2.2)]) hx hb dX9_night_74 hl (by decide) rfl (fun ls hl => ?_)
      refine lv_aload_n hx hb dX9_night_76 rfl (lv_at hl 1 rfl) ?_
      refine lv_iload hx hb dX9_night_77 (lv_at hl 0 rfl) ?_
      refine lv_iconst (v := 5) hx hb dX9_night_79 (by decide) ?_
      obtain ⟨hne, hM⟩ := if_ok hM
      refine lv_irem hx hb dX9_night_80 hne ?_
      obtain ⟨z81, hcr, hM⟩ := ob_s hM
      refine res_i (ws' := (wM cI cZ ad mb mo z81.2 mg mf mt mz ml mi)) F hP hS rfl [0, 1, 2, 3, 4, 5, 6, 7, 8, 9, 10, 11, 12] rfl rfl (runV_of (n := 1) (As := [.int ((((((75 : Int64) * a52.2.1.toInt64) + (74 : Int64)) - (((75 : Int64) * a52.2.1.toInt64) + (74 : Int64)) / (65537 : Int64) * (65537 : Int64)).toInt32) - (((((75 : Int64) * a52.2.1.toInt64) + (74 : Int64)) - (((75 : Int64) * a52.2.1.toInt64) + (74 : Int64)) / (65537 : Int64) * (65537 : Int64)).toInt32) / (5 : Int32) * (5 : Int32))]) (rest := []) F hP hS rfl [0, 1, 2, 3, 4, 5, 6, 7, 8, 9, 10, 11, 12] rfl rfl (c_X9_step l dC dI cI cC cZ sa ad mb mo a52.1 mg mf mt mz ml mi ((((((75 : Int64) * a52.2.1.toInt64) + (74 : Int64)) - (((75 : Int64) * a52.2.1.toInt64) + (74 : Int64)) / (65537 : Int64) * (65537 : Int64)).toInt32) - (((((75 : Int64) * a52.2.1.toInt64) + (74 : Int64)) - (((75 : Int64) * a52.2.1.toInt64) + (74 : Int64)) / (65537 : Int64) * (65537 : Int64)).toInt32) / (5 : Int32) * (5 : Int32)) hcr _) gX9_night_X9_step rfl (by decide +kernel) ⟨Nat.le_of_ble_eq_true rfl, Nat.le_of_ble_eq_true rfl⟩ 0 9 rfl rfl rfl hl.1 rfl (Nat.le_of_ble_eq_true rfl) dX9_night_81 ⟨Nat.zero_le _, Nat.zero_le _⟩) rep_full (fun H locs hP hS => ?_)
      refine lv_pop hx hb dX9_night_84 rfl ?_
      refine lv_iload hx hb dX9_night_85 (lv_at hl 4 rfl) ?_
      refine lv_aload_n hx hb dX9_night_87 rfl (lv_at hl 1 rfl) ?_
      refine lv_iconst (v := 1) hx hb dX9_night_88 (by decide) ?_
      obtain ⟨z89, hcr, hM⟩ := ob_s hM
      refine res_i0 F hP hS rfl [0, 1, 2, 3, 4, 5, 6, 7, 8, 9, 10, 11, 12] rfl rfl (runV_of (n := 1) (As := [.int (1 : Int32)]) (rest := [.int a52.2.2.1]) F hP hS rfl [0, 1, 2, 3, 4, 5, 6, 7, 8, 9, 10, 11, 12] rfl rfl (c_X9_shownTo l dC dI cI cC cZ sa ad mb mo z81.2 mg mf mt mz ml mi (1 : Int32) hcr _) gX9_night_X9_shownTo rfl (by decide +kernel) ⟨Nat.le_of_ble_eq_true rfl, Nat.le_of_ble_eq_true rfl⟩ 0 9 rfl rfl rfl hl.1 rfl (Nat.le_of_ble_eq_true rfl) dX9_night_89 ⟨Nat.zero_le _, Nat.zero_le _⟩) (fun H locs hP hS => ?_)
      refine lv_if_lt (tgt := 99) hx hb dX9_night_92 (by decide) (fun hc => ?_) (fun hc => ?_)
      · have hM := if_pp hc hM
        refine lv_iconst (v := 0) hx hb dX9_night_99 (by decide) ?_
        exact j100 (z81.2, ((((75 : Int64) * a52.2.1.toInt64) + (74 : Int64)) - (((75 : Int64) * a52.2.1.toInt64) + (74 : Int64)) / (65537 : Int64) * (65537 : Int64)).toInt32, a52.2.2.2, (0 : Int32), a52.2.2.1) _ _ _ hP hS (lv_sub hl [1, 2, 3, 0, 5] rfl) hM
      · have hM := if_nn hc hM
        refine lv_iconst (v := 1) hx hb dX9_night_95 (by decide) ?_
        refine lv_goto (tgt := 100) hx hb dX9_night_96 (by decide) ?_
        exact j100 (z81.2, ((((75 : Int64) * a52.2.1.toInt64) + (74 : Int64)) - (((75 : Int64) * a52.2.1.toInt64) + (74 : Int64)) / (65537 : Int64) * (65537 : Int64)).toInt32, a52.2.2.2, (1 : Int32), a52.2.2.1) _ _ _ hP hS (lv_sub hl [1, 2, 3, 0, 5] rfl) hM
  refine lv_iload_n hx hb dX9_night_0 rfl (lv_at hl 1 rfl) ?_
  refine lv_i2l (v := x1.toInt64) hx hb dX9_night_1 rfl ?_
  refine lv_lconst (v := 0) hx hb dX9_night_2 (by decide) ?_
  refine lv_ldc2 (v := 9999) hx hb hown (hts _ (List.mem_of_getElem? (i := 1) rfl)) dX9_night_3 ?_
  obtain ⟨z6, hcr, hM⟩ := ob_s hM
  refine res_i0 F hP hS rfl [] rfl rfl (runS_of (n := 3) (As := [.long x1.toInt64, .long (0 : Int64), .long (9999 : Int64)]) (rest := []) F hP hS rfl [] rfl rfl (c_X9_in l dC dI cI cC cZ sa x1.toInt64 (0 : Int64) (9999 : Int64) hcr _) gX9_night_X9_in rfl (by decide +kernel) ⟨Nat.le_of_ble_eq_true rfl, Nat.le_of_ble_eq_true rfl⟩ rfl hl.1 rfl (Nat.le_of_ble_eq_true rfl) dX9_night_6 ⟨Nat.zero_le _, Nat.zero_le _⟩) (fun H locs hP hS => ?_)
  refine lv_if_eq (tgt := 36) hx hb dX9_night_9 (by decide) (fun hc => ?_) (fun hc => ?_)
  · have hM := if_pp hc hM
    refine lv_bipush (v := -2) hx hb dX9_night_36 (by decide) ?_
    exact ret_i hx hb hr hlk dX9_night_38 hM hP hS
  · have hM := if_nn hc hM
    refine lv_iload_n hx hb dX9_night_12 rfl (lv_at hl 2 rfl) ?_
    refine lv_i2l (v := x2.toInt64) hx hb dX9_night_13 rfl ?_
    refine lv_lconst (v := 0) hx hb dX9_night_14 (by decide) ?_
    refine lv_ldc2 (v := 99) hx hb hown (hts _ (List.mem_of_getElem? (i := 2) rfl)) dX9_night_15 ?_
    obtain ⟨z18, hcr, hM⟩ := ob_s hM
    refine res_i0 F hP hS rfl [] rfl rfl (runS_of (n := 3) (As := [.long x2.toInt64, .long (0 : Int64), .long (99 : Int64)]) (rest := []) F hP hS rfl [] rfl rfl (c_X9_in l dC dI cI cC cZ sa x2.toInt64 (0 : Int64) (99 : Int64) hcr _) gX9_night_X9_in rfl (by decide +kernel) ⟨Nat.le_of_ble_eq_true rfl, Nat.le_of_ble_eq_true rfl⟩ rfl hl.1 rfl (Nat.le_of_ble_eq_true rfl) dX9_night_18 ⟨Nat.zero_le _, Nat.zero_le _⟩) (fun H locs hP hS => ?_)
    refine lv_if_eq (tgt := 36) hx hb dX9_night_21 (by decide) (fun hc => ?_) (fun hc => ?_)
    · have hM := if_pp hc hM
      refine lv_bipush (v := -2) hx hb dX9_night_36 (by decide) ?_
      exact ret_i hx hb hr hlk dX9_night_38 hM hP hS
    · have hM := if_nn hc hM
      refine lv_iload_n hx hb dX9_night_24 rfl (lv_at hl 3 rfl) ?_
      refine lv_i2l (v := x3.toInt64) hx hb dX9_night_25 rfl ?_
      refine lv_lconst (v := 0) hx hb dX9_night_26 (by decide) ?_
      refine lv_ldc2 (v := 2) hx hb hown (hts _ (List.mem_of_getElem? (i := 3) rfl)) dX9_night_27 ?_
      obtain ⟨z30, hcr, hM⟩ := ob_s hM
      refine res_i0 F hP hS rfl [] rfl rfl (runS_of (n := 3) (As := [.long x3.toInt64, .long (0 : Int64), .long (2 : Int64)]) (rest := []) F hP hS rfl [] rfl rfl (c_X9_in l dC dI cI cC cZ sa x3.toInt64 (0 : Int64) (2 : Int64) hcr _) gX9_night_X9_in rfl (by decide +kernel) ⟨Nat.le_of_ble_eq_true rfl, Nat.le_of_ble_eq_true rfl⟩ rfl hl.1 rfl (Nat.le_of_ble_eq_true rfl) dX9_night_30 ⟨Nat.zero_le _, Nat.zero_le _⟩) (fun H locs hP hS => ?_)
      refine lv_if_ne (tgt := 39) hx hb dX9_night_33 (by decide) (fun hc => ?_) (fun hc => ?_)
      · have hM := if_nn hc hM
        refine lv_aload_n hx hb dX9_night_39 rfl (lv_at hl 0 rfl) ?_
        obtain ⟨z40, hcr, hM⟩ := ob_s hM
        refine res_v (ws' := (wM cI cZ ad mb mo z40 mg mf mt mz ml mi)) F hP hS rfl [0, 1, 2, 3, 4, 5, 6, 7, 8, 9, 10, 11, 12] rfl rfl (runV_of (n := 0) (As := []) (rest := []) F hP hS rfl [0, 1, 2, 3, 4, 5, 6, 7, 8, 9, 10, 11, 12] rfl rfl (c_X9_begin l dC dI cI cC cZ sa ad mb mo mn mg mf mt mz ml mi hcr _) gX9_night_X9_begin rfl (by decide +kernel) ⟨Nat.le_of_ble_eq_true rfl, Nat.le_of_ble_eq_true rfl⟩ 0 9 rfl rfl rfl hl.1 rfl (Nat.le_of_ble_eq_true rfl) dX9_night_40 ⟨Nat.zero_le _, Nat.zero_le _⟩) rep_full (fun H locs hP hS => ?_)
        refine lv_iload_n hx hb dX9_night_43 rfl (lv_at hl 1 rfl) ?_
        refine lv_istore (lv' := [(4, .int x1), (0, .ref (ad 0)), (1, .int x1), (2, .int x2), (3, .int x3)]) hx hb dX9_night_44 hl (by decide) rfl (fun ls hl => ?_)
        refine lv_iconst (v := 0) hx hb dX9_night_46 (by decide) ?_
        refine lv_istore (lv' := [(5, .int (0 : Int32)), (4, .int x1), (0, .ref (ad 0)), (1, .int x1), (2, .int x2), (3, .int x3)]) hx hb dX9_night_47 hl (by decide) rfl (fun ls hl => ?_)
        refine lv_iconst (v := 0) hx hb dX9_night_49 (by decide) ?_
        refine lv_istore (lv' := [(6, .int (0 : Int32)), (5, .int (0 : Int32)), (4, .int x1), (0, .ref (ad 0)), (1, .int x1), (2, .int x2), (3, .int x3)]) hx hb dX9_night_50 hl (by decide) rfl (fun ls hl => ?_)
        exact j52 200 (z40, x1, (0 : Int32), (0 : Int32)) _ _ _ hP hS (lv_sub hl [3, 5, 6, 2, 1, 0] rfl) hM
      · have hM := if_pp hc hM
        refine lv_bipush (v := -2) hx hb dX9_night_36 (by decide) ?_
        exact ret_i hx hb hr hlk dX9_night_38 hM hP hS
