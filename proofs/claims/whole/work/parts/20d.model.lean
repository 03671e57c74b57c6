/-! Walks, printed by wip/whole/gen.py -/
set_option maxHeartbeats 4000000 in
set_option maxRecDepth 100000 in
theorem c_X9_isStep (l : Launch) (dC : Nat → ClassId) (dI : Nat → Nat → Nat) (cI cC cZ : ClassId) (sa : Nat → Nat)  (x1 : Int32) {res : Int32} (hM : M_X9_isStep x1 = some res) : CTi l (dC, dI) [(cI, .int), (cC, .char), (cZ, .boolean)] sa yX9_isStep wsX9_isStep (rmd 1) [.int x1] ([] : va_W) (fun (_ : Unit) => ([] : va_W)) (res, ()) := by
  refine CTi.enter (own := RX9) (cc := cX9_isStep) (maxL := 1) (ret := (some .boolean)) (by decide) rfl rfl (Nat.le_of_ble_eq_true rfl) ?_
  intro pr e s m below meth c A F hr hlk hP hS ls hl
  obtain ⟨⟨hx, hb, hml, hown, hts⟩, hK, hDD, hA, hKC⟩ := id F
  have hl : lv_has ls 1 [(0, .int x1)] := hl
  have hP : va_P (dC, dI) vwCl ([] : va_W) s.heap := hP
  unfold M_X9_isStep at hM
  refine lv_iload_n hx hb dX9_isStep_0 rfl (lv_at hl 0 rfl) ?_
  refine lv_bipush (v := 110) hx hb dX9_isStep_1 (by decide) ?_
  refine lv_icmp_eq (tgt := 30) hx hb dX9_isStep_3 (by decide) (fun hc => ?_) (fun hc => ?_)
  · have hM := if_pp hc hM
    refine lv_iconst (v := 1) hx hb dX9_isStep_30 (by decide) ?_
    refine lv_goto (tgt := 35) hx hb dX9_isStep_31 (by decide) ?_
    exact ret_z hx hb hr hlk dX9_isStep_35 (by decide) (some_u hM) hP hS
  · have hM := if_nn hc hM
    refine lv_iload_n hx hb dX9_isStep_6 rfl (lv_at hl 0 rfl) ?_
    refine lv_bipush (v := 101) hx hb dX9_isStep_7 (by decide) ?_
    refine lv_icmp_eq (tgt := 30) hx hb dX9_isStep_9 (by decide) (fun hc => ?_) (fun hc => ?_)
    · have hM := if_pp hc hM
      refine lv_iconst (v := 1) hx hb dX9_isStep_30 (by decide) ?_
      refine lv_goto (tgt := 35) hx hb dX9_isStep_31 (by decide) ?_
      exact ret_z hx hb hr hlk dX9_isStep_35 (by decide) (some_u hM) hP hS
    · have hM := if_nn hc hM
      refine lv_iload_n hx hb dX9_isStep_12 rfl (lv_at hl 0 rfl) ?_
      refine lv_bipush (v := 115) hx hb dX9_isStep_13 (by decide) ?_
      refine lv_icmp_eq (tgt := 30) hx hb dX9_isStep_15 (by decide) (fun hc => ?_) (fun hc => ?_)
      · have hM := if_pp hc hM
        refine lv_iconst (v := 1) hx hb dX9_isStep_30 (by decide) ?_
        refine lv_goto (tgt := 35) hx hb dX9_isStep_31 (by decide) ?_
        exact ret_z hx hb hr hlk dX9_isStep_35 (by decide) (some_u hM) hP hS
      · have hM := if_nn hc hM
        refine lv_iload_n hx hb dX9_isStep_18 rfl (lv_at hl 0 rfl) ?_
        refine lv_bipush (v := 119) hx hb dX9_isStep_19 (by decide) ?_
        refine lv_icmp_eq (tgt := 30) hx hb dX9_isStep_21 (by decide) (fun hc => ?_) (fun hc => ?_)
        · have hM := if_pp hc hM
          refine lv_iconst (v := 1) hx hb dX9_isStep_30 (by decide) ?_
          refine lv_goto (tgt := 35) hx hb dX9_isStep_31 (by decide) ?_
          exact ret_z hx hb hr hlk dX9_isStep_35 (by decide) (some_u hM) hP hS
        · have hM := if_nn hc hM
          refine lv_iload_n hx hb dX9_isStep_24 rfl (lv_at hl 0 rfl) ?_
          refine lv_bipush (v := 45) hx hb dX9_isStep_25 (by decide) ?_
          refine lv_icmp_ne (tgt := 34) hx hb dX9_isStep_27 (by decide) (fun hc => ?_) (fun hc => ?_)
          · have hM := if_nn hc hM
            refine lv_iconst (v := 0) hx hb dX9_isStep_34 (by decide) ?_
            exact ret_z hx hb hr hlk dX9_isStep_35 (by decide) (some_u hM) hP hS
          · have hM := if_pp hc hM
            refine lv_iconst (v := 1) hx hb dX9_isStep_30 (by decide) ?_
            refine lv_goto (tgt := 35) hx hb dX9_isStep_31 (by decide) ?_
            exact ret_z hx hb hr hlk dX9_isStep_35 (by decide) (some_u hM) hP hS
theorem inX9_fault_X9 : ∀ w ∈ wsX90, w ∈ wsX9_fault := fun w h => List.mem_cons_of_mem _ (List.mem_append_right _ h)
set_option maxHeartbeats 4000000 in
set_option maxRecDepth 100000 in
theorem c_X9_fault (l : Launch) (dC : Nat → ClassId) (dI : Nat → Nat → Nat) (cI cC cZ : ClassId) (sa : Nat → Nat) (ad : Nat → Nat) (mb : BT) (mo : OT) (mn : NT) (mg : GT) (mf : AR) (mt : TT) (mz : AR) (ml : LT) (mi : IT) (x1 : Int32) {res : Int32} (hM : M_X9_fault mb mo x1 = some res) : CTi l (dC, dI) [(cI, .int), (cC, .char), (cZ, .boolean)] sa yX9_fault wsX9_fault (rmd 2) [.ref (ad 0), .int x1] (wM cI cZ ad mb mo mn mg mf mt mz ml mi) (fun (_ : Unit) => (wM cI cZ ad mb mo mn mg mf mt mz ml mi)) (res, ()) := by
  refine CTi.enter (own := RX9) (cc := cX9_fault) (maxL := 4) (ret := (some .int)) (by decide) rfl rfl (Nat.le_of_ble_eq_true rfl) ?_
  intro pr e s m below meth c A F hr hlk hP hS ls hl
  obtain ⟨⟨hx, hb, hml, hown, hts⟩, hK, hDD, hA, hKC⟩ := id F
  have hl : lv_has ls 4 [(0, .ref (ad 0)), (1, .int x1)] := hl
  have hP : va_P (dC, dI) vwCl (wM cI cZ ad mb mo mn mg mf mt mz ml mi) s.heap := hP
  unfold M_X9_fault at hM
  refine kloop (α := Int32) (res := res) (fun k a => M_X9_fault_15 mb mo x1 k a) (fun rec a => M_X9_fault_15b mb mo x1 rec a) (fun _ => rfl) (fun _ _ => rfl) F (fun a => (wM cI cZ ad mb mo mn mg mf mt mz ml mi)) (fun a => [(0, .ref (ad 0)), (1, .int x1), (2, .int a)]) (fun a => []) 15 ?_ (fun j15 => ?_)
  · intro rc15 ih15 a15 H locs ls hP hS hl hM
    unfold M_X9_fault_15b at hM
    refine kblk (α := Int32 × Int32) (res := res) (fun a => M_X9_fault_64 mb mo x1 rc15 a) F (fun a => (wM cI cZ ad mb mo mn mg mf mt mz ml mi)) (fun a => [(0, .ref (ad 0)), (1, .int x1), (2, .int a.1)]) (fun a => [.int a.2]) 64 ?_ (fun j64 => ?_)
    · intro a64 H locs ls hP hS hl hM
      unfold M_X9_fault_64 at hM
      refine lv_istore_n (lv' := [(3, .int a64.2), (0, .ref (ad 0)), (1, .int x1), (2, .int a64.1)]) hx hb dX9_fault_64 rfl hl (by decide) rfl (fun ls hl => ?_)
      refine lv_iload_n hx hb dX9_fault_65 rfl (lv_at hl 0 rfl) ?_
      refine lv_if_ne (tgt := 71) hx hb dX9_fault_66 (by decide) (fun hc => ?_) (fun hc => ?_)
      · have hM := if_nn hc hM
        refine lv_iinc (v := (a64.1 + (1 : Int32))) (lv' := [(2, .int (a64.1 + (1 : Int32))), (3, .int a64.2), (0, .ref (ad 0)), (1, .int x1)]) hx hb dX9_fault_71 hl (k := 3) rfl rfl (by decide) rfl (fun ls hl => ?_)
        refine lv_goto (tgt := 15) hx hb dX9_fault_74 (by decide) ?_
        exact ih15 (a64.1 + (1 : Int32)) _ _ _ hP hS (lv_sub hl [2, 3, 0] rfl) hM
      · have hM := if_pp hc hM
        refine lv_iload_n hx hb dX9_fault_69 rfl (lv_at hl 3 rfl) ?_
        exact ret_i hx hb hr hlk dX9_fault_70 (some_u hM) hP hS
    refine kblk (α := Int32) (res := res) (fun a => M_X9_fault_51 mb mo x1 rc15 a) F (fun a => (wM cI cZ ad mb mo mn mg mf mt mz ml mi)) (fun a => [(0, .ref (ad 0)), (1, .int x1), (2, .int a)]) (fun a => []) 51 ?_ (fun j51 => ?_)
    · intro a51 H locs ls hP hS hl hM
      unfold M_X9_fault_51 at hM
      refine lv_iconst (v := 0) hx hb dX9_fault_51 (by decide) ?_
      refine lv_goto (tgt := 64) hx hb dX9_fault_52 (by decide) ?_
      exact j64 (a51, (0 : Int32)) _ _ _ hP hS (lv_sub hl [0, 1, 2] rfl) hM
    refine lv_iload_n hx hb dX9_fault_15 rfl (lv_at hl 2 rfl) ?_
    refine lv_aload_n hx hb dX9_fault_16 rfl (lv_at hl 0 rfl) ?_
    refine g_get (ci := 9) (C := RX9) (T := TX9) (N := 32) (v := .int mo.1) F hP 0 rfl rfl inX9_fault_X9 11 (by decide) (List.mem_of_getElem? (i := 1) rfl) rfl dX9_fault_17 ?_
    refine lv_icmp_ge (tgt := 77) hx hb dX9_fault_20 (by decide) (fun hc => ?_) (fun hc => ?_)
    · have hM := if_pp hc hM
      refine lv_iload_n hx hb dX9_fault_77 rfl (lv_at hl 1 rfl) ?_
      refine lv_if_ne (tgt := 99) hx hb dX9_fault_78 (by decide) (fun hc => ?_) (fun hc => ?_)
      · have hM := if_nn hc hM
        refine lv_bipush (v := -6) hx hb dX9_fault_99 (by decide) ?_
        exact ret_i hx hb hr hlk dX9_fault_101 (some_u hM) hP hS
      · have hM := if_pp hc hM
        refine lv_aload_n hx hb dX9_fault_81 rfl (lv_at hl 0 rfl) ?_
        refine g_get (ci := 9) (C := RX9) (T := TX9) (N := 32) (v := .int mo.1) F hP 0 rfl rfl inX9_fault_X9 11 (by decide) (List.mem_of_getElem? (i := 1) rfl) rfl dX9_fault_82 ?_
        refine lv_aload_n hx hb dX9_fault_85 rfl (lv_at hl 0 rfl) ?_
        obtain ⟨z86, hcr, hM⟩ := ob_s hM
        refine res_i0 F hP hS rfl [0, 1, 2, 3, 4, 5, 6, 7, 8, 9, 10, 11, 12] rfl rfl (runV_of (n := 0) (As := []) (rest := [.int mo.1]) F hP hS rfl [0, 1, 2, 3, 4, 5, 6, 7, 8, 9, 10, 11, 12] rfl rfl (c_X9_cells l dC dI cI cC cZ sa ad mb mo mn mg mf mt mz ml mi hcr _) gX9_fault_X9_cells rfl (by decide +kernel) ⟨Nat.le_of_ble_eq_true rfl, Nat.le_of_ble_eq_true rfl⟩ 0 9 rfl rfl rfl hl.1 rfl (Nat.le_of_ble_eq_true rfl) dX9_fault_86 ⟨Nat.zero_le _, Nat.zero_le _⟩) (fun H locs hP hS => ?_)
        refine lv_icmp_ge (tgt := 99) hx hb dX9_fault_89 (by decide) (fun hc => ?_) (fun hc => ?_)
        · have hM := if_pp hc hM
          refine lv_bipush (v := -6) hx hb dX9_fault_99 (by decide) ?_
          exact ret_i hx hb hr hlk dX9_fault_101 (some_u hM) hP hS
        · have hM := if_nn hc hM
          refine lv_aload_n hx hb dX9_fault_92 rfl (lv_at hl 0 rfl) ?_
          refine g_get (ci := 9) (C := RX9) (T := TX9) (N := 32) (v := .int mo.1) F hP 0 rfl rfl inX9_fault_X9 11 (by decide) (List.mem_of_getElem? (i := 1) rfl) rfl dX9_fault_93 ?_
          refine lv_goto (tgt := 101) hx hb dX9_fault_96 (by decide) ?_
          exact ret_i hx hb hr hlk dX9_fault_101 (some_u hM) hP hS
    · have hM := if_nn hc hM
      refine lv_iload_n hx hb dX9_fault_23 rfl (lv_at hl 1 rfl) ?_
      refine lv_if_ne (tgt := 55) hx hb dX9_fault_24 (by decide) (fun hc => ?_) (fun hc => ?_)
      · have hM := if_nn hc hM
        refine lv_aload_n hx hb dX9_fault_55 rfl (lv_at hl 0 rfl) ?_
        refine g_get (ci := 9) (C := RX9) (T := TX9) (N := 32) (v := .ref (ad 5)) F hP 0 rfl rfl inX9_fault_X9 10 (by decide) (List.mem_of_getElem? (i := 2) rfl) rfl dX9_fault_56 ?_
        refine lv_iload_n hx hb dX9_fault_59 rfl (lv_at hl 2 rfl) ?_
        obtain ⟨hin, hM⟩ := if_ok hM
        refine va_iald hx hb hK hP 5 0 rfl rfl hin dX9_fault_60 ?_
        obtain ⟨z61, hcr, hM⟩ := ob_s hM
        refine res_i0 F hP hS rfl [] rfl rfl (runS_of (n := 1) (As := [.int (mo.2 a15.toNatClampNeg)]) (rest := []) F hP hS rfl [] rfl rfl (c_X9_isStep l dC dI cI cC cZ sa (mo.2 a15.toNatClampNeg) hcr _) gX9_fault_X9_isStep rfl (by decide +kernel) ⟨Nat.le_of_ble_eq_true rfl, Nat.le_of_ble_eq_true rfl⟩ rfl hl.1 rfl (Nat.le_of_ble_eq_true rfl) dX9_fault_61 ⟨Nat.zero_le _, Nat.zero_le _⟩) (fun H locs hP hS => ?_)
        exact j64 (a15, z61) _ _ _ hP hS (lv_sub hl [0, 1, 2] rfl) hM
      · have hM := if_pp hc hM
        refine lv_iload_n hx hb dX9_fault_27 rfl (lv_at hl 2 rfl) ?_
        refine lv_aload_n hx hb dX9_fault_28 rfl (lv_at hl 0 rfl) ?_
        obtain ⟨z29, hcr, hM⟩ := ob_s hM
        refine res_i0 F hP hS rfl [0, 1, 2, 3, 4, 5, 6, 7, 8, 9, 10, 11, 12] rfl rfl (runV_of (n := 0) (As := []) (rest := [.int a15]) F hP hS rfl [0, 1, 2, 3, 4, 5, 6, 7, 8, 9, 10, 11, 12] rfl rfl (c_X9_cells l dC dI cI cC cZ sa ad mb mo mn mg mf mt mz ml mi hcr _) gX9_fault_X9_cells rfl (by decide +kernel) ⟨Nat.le_of_ble_eq_true rfl, Nat.le_of_ble_eq_true rfl⟩ 0 9 rfl rfl rfl hl.1 rfl (Nat.le_of_ble_eq_true rfl) dX9_fault_29 ⟨Nat.zero_le _, Nat.zero_le _⟩) (fun H locs hP hS => ?_)
        refine lv_icmp_ge (tgt := 51) hx hb dX9_fault_32 (by decide) (fun hc => ?_) (fun hc => ?_)
        · have hM := if_pp hc hM
          exact j51 a15 _ _ _ hP hS (lv_sub hl [0, 1, 2] rfl) hM
        · have hM := if_nn hc hM
          refine lv_aload_n hx hb dX9_fault_35 rfl (lv_at hl 0 rfl) ?_
          refine g_get (ci := 9) (C := RX9) (T := TX9) (N := 32) (v := .ref (ad 5)) F hP 0 rfl rfl inX9_fault_X9 10 (by decide) (List.mem_of_getElem? (i := 2) rfl) rfl dX9_fault_36 ?_
          refine lv_iload_n hx hb dX9_fault_39 rfl (lv_at hl 2 rfl) ?_
          obtain ⟨hin, hM⟩ := if_ok hM
          refine va_iald hx hb hK hP 5 0 rfl rfl hin dX9_fault_40 ?_
          obtain ⟨z41, hcr, hM⟩ := ob_s hM
          refine res_i0 F hP hS rfl [] rfl rfl (runS_of (n := 1) (As := [.int (mo.2 a15.toNatClampNeg)]) (rest := []) F hP hS rfl [] rfl rfl (c_X9_isSort l dC dI cI cC cZ sa (mo.2 a15.toNatClampNeg) hcr _) gX9_fault_X9_isSort rfl (by decide +kernel) ⟨Nat.le_of_ble_eq_true rfl, Nat.le_of_ble_eq_true rfl⟩ rfl hl.1 rfl (Nat.le_of_ble_eq_true rfl) dX9_fault_41 ⟨Nat.zero_le _, Nat.zero_le _⟩) (fun H locs hP hS => ?_)
          refine lv_if_eq (tgt := 51) hx hb dX9_fault_44 (by decide) (fun hc => ?_) (fun hc => ?_)
          · have hM := if_pp hc hM
            exact j51 a15 _ _ _ hP hS (lv_sub hl [0, 1, 2] rfl) hM
          · have hM := if_nn hc hM
            refine lv_iconst (v := 1) hx hb dX9_fault_47 (by decide) ?_
            refine lv_goto (tgt := 64) hx hb dX9_fault_48 (by decide) ?_
            exact j64 (a15, (1 : Int32)) _ _ _ hP hS (lv_sub hl [0, 1, 2] rfl) hM
  refine lv_iload_n hx hb dX9_fault_0 rfl (lv_at hl 1 rfl) ?_
  refine lv_i2l (v := x1.toInt64) hx hb dX9_fault_1 rfl ?_
  refine lv_lconst (v := 0) hx hb dX9_fault_2 (by decide) ?_
  refine lv_lconst (v := 1) hx hb dX9_fault_3 (by decide) ?_
  obtain ⟨z4, hcr, hM⟩ := ob_s hM
  refine res_i0 F hP hS rfl [] rfl rfl (runS_of (n := 3) (As := [.long x1.toInt64, .long (0 : Int64), .long (1 : Int64)]) (rest := []) F hP hS rfl [] rfl rfl (c_X9_in l dC dI cI cC cZ sa x1.toInt64 (0 : Int64) (1 : Int64) hcr _) gX9_fault_X9_in rfl (by decide +kernel) ⟨Nat.le_of_ble_eq_true rfl, Nat.le_of_ble_eq_true rfl⟩ rfl hl.1 rfl (Nat.le_of_ble_eq_true rfl) dX9_fault_4 ⟨Nat.zero_le _, Nat.zero_le _⟩) (fun H locs hP hS => ?_)
  refine lv_if_ne (tgt := 13) hx hb dX9_fault_7 (by decide) (fun hc => ?_) (fun hc => ?_)
  · have hM := if_nn hc hM
    refine lv_iconst (v := 0) hx hb dX9_fault_13 (by decide) ?_
    refine lv_istore_n (lv' := [(2, .int (0 : Int32)), (0, .ref (ad 0)), (1, .int x1)]) hx hb dX9_fault_14 rfl hl (by decide) rfl (fun ls hl => ?_)
    exact j15 200 (0 : Int32) _ _ _ hP hS (lv_sub hl [1, 2, 0] rfl) hM
  · have hM := if_pp hc hM
    refine lv_bipush (v := -2) hx hb dX9_fault_10 (by decide) ?_
    exact ret_i hx hb hr hlk dX9_fault_12 (some_u hM) hP hS
theorem inX9_build_X9 : ∀ w ∈ wsX90, w ∈ wsX9_build := fun w h => List.mem_cons_of_mem _ (List.mem_append_right _ h)
set_option maxHeartbeats 4000000 in
set_option maxRecDepth 100000 in
theorem c_X9_build (l : Launch) (dC : Nat → ClassId) (dI : Nat → Nat → Nat) (cI cC cZ : ClassId) (sa : Nat → Nat) (ad : Nat → Nat) (mb : BT) (mo : OT) (mn : NT) (mg : GT) (mf : AR) (mt : TT) (mz : AR) (ml : LT) (mi : IT)  {res : Int32 × BT × OT} (hM : M_X9_build mb mo = some res) : CTi l (dC, dI) [(cI, .int), (cC, .char), (cZ, .boolean)] sa yX9_build wsX9_build (rmd 3) [.ref (ad 0)] (wM cI cZ ad mb mo mn mg mf mt mz ml mi) (fun (uu : BT × OT) => (wM cI cZ ad uu.1 uu.2 mn mg mf mt mz ml mi)) res := by
  refine CTi.enter (own := RX9) (cc := cX9_build) (maxL := 5) (ret := (some .int)) (by decide) rfl rfl (Nat.le_of_ble_eq_true rfl) ?_
  intro pr e s m below meth c A F hr hlk hP hS ls hl
  obtain ⟨⟨hx, hb, hml, hown, hts⟩, hK, hDD, hA, hKC⟩ := id F
  have hl : lv_has ls 5 [(0, .ref (ad 0))] := hl
  have hP : va_P (dC, dI) vwCl (wM cI cZ ad mb mo mn mg mf mt mz ml mi) s.heap := hP
  unfold M_X9_build at hM
  refine kloop (α := BT × OT × Int32 × Int32 × Int32 × Int32) (res := res) (fun k a => M_X9_build_76  k a) (fun rec a => M_X9_build_76b  rec a) (fun _ => rfl) (fun _ _ => rfl) F (fun a => (wM cI cZ ad a.1 a.2.1 mn mg mf mt mz ml mi)) (fun a => [(0, .ref (ad 0)), (1, .int a.2.2.1), (2, .int a.2.2.2.1), (3, .int a.2.2.2.2.1), (4, .int a.2.2.2.2.2)]) (fun a => []) 76 ?_ (fun j76 => ?_)
  · intro rc76 ih76 a76 H locs ls hP hS hl hM
    unfold M_X9_build_76b at hM
    refine lv_iload hx hb dX9_build_76 (lv_at hl 4 rfl) ?_
    refine lv_aload_n hx hb dX9_build_78 rfl (lv_at hl 0 rfl) ?_
    refine g_get (ci := 9) (C := RX9) (T := TX9) (N := 32) (v := .int a76.2.1.1) F hP 0 rfl rfl inX9_build_X9 11 (by decide) (List.mem_of_getElem? (i := 1) rfl) rfl dX9_build_79 ?_
    refine lv_icmp_ge (tgt := 105) hx hb dX9_build_82 (by decide) (fun hc => ?_) (fun hc => ?_)
    · have hM := if_pp hc hM
      refine lv_aload_n hx hb dX9_build_105 rfl (lv_at hl 0 rfl) ?_
      refine lv_iload_n hx hb dX9_build_106 rfl (lv_at hl 2 rfl) ?_
      refine g_put (ws' := (wM cI cZ ad (a76.1.1, a76.1.2.1, a76.2.2.2.1, a76.1.2.2.2.1, a76.1.2.2.2.2.1, a76.1.2.2.2.2.2.1, a76.1.2.2.2.2.2.2.1, a76.1.2.2.2.2.2.2.2.1, a76.1.2.2.2.2.2.2.2.2.1, a76.1.2.2.2.2.2.2.2.2.2) a76.2.1 mn mg mf mt mz ml mi)) (ci := 9) (C := RX9) (T := TX9) (N := 32) (v := .int a76.2.2.2.1) (ty := .int) F hP hS rfl tyX9 tyX9_ok nmX9 0 rfl rfl inX9_build_X9 3 (by decide) (List.mem_of_getElem? (i := 4) rfl) rfl (by decide +kernel) rfl rfl (Nat.le_of_ble_eq_true rfl) dX9_build_107 rfl (fun H locs hP hS => ?_)
      refine lv_aload_n hx hb dX9_build_110 rfl (lv_at hl 0 rfl) ?_
      refine lv_iload_n hx hb dX9_build_111 rfl (lv_at hl 3 rfl) ?_
      refine g_put (ws' := (wM cI cZ ad (a76.1.1, a76.1.2.1, a76.2.2.2.1, a76.2.2.2.2.1, a76.1.2.2.2.2.1, a76.1.2.2.2.2.2.1, a76.1.2.2.2.2.2.2.1, a76.1.2.2.2.2.2.2.2.1, a76.1.2.2.2.2.2.2.2.2.1, a76.1.2.2.2.2.2.2.2.2.2) a76.2.1 mn mg mf mt mz ml mi)) (ci := 9) (C := RX9) (T := TX9) (N := 32) (v := .int a76.2.2.2.2.1) (ty := .int) F hP hS rfl tyX9 tyX9_ok nmX9 0 rfl rfl inX9_build_X9 4 (by decide) (List.mem_of_getElem? (i := 5) rfl) rfl (by decide +kernel) rfl rfl (Nat.le_of_ble_eq_true rfl) dX9_build_112 rfl (fun H locs hP hS => ?_)
      refine lv_aload_n hx hb dX9_build_115 rfl (lv_at hl 0 rfl) ?_
      refine lv_iconst (v := 0) hx hb dX9_build_116 (by decide) ?_
      refine g_put (ws' := (wM cI cZ ad (a76.1.1, a76.1.2.1, a76.2.2.2.1, a76.2.2.2.2.1, (0 : Int32), a76.1.2.2.2.2.2.1, a76.1.2.2.2.2.2.2.1, a76.1.2.2.2.2.2.2.2.1, a76.1.2.2.2.2.2.2.2.2.1, a76.1.2.2.2.2.2.2.2.2.2) a76.2.1 mn mg mf mt mz ml mi)) (ci := 9) (C := RX9) (T := TX9) (N := 32) (v := .int (0 : Int32)) (ty := .int) F hP hS rfl tyX9 tyX9_ok nmX9 0 rfl rfl inX9_build_X9 8 (by decide) (List.mem_of_getElem? (i := 6) rfl) rfl (by decide +kernel) rfl rfl (Nat.le_of_ble_eq_true rfl) dX9_build_117 rfl (fun H locs hP hS => ?_)
      refine lv_aload_n hx hb dX9_build_120 rfl (lv_at hl 0 rfl) ?_
      refine lv_iconst (v := 0) hx hb dX9_build_121 (by decide) ?_
      refine g_put (ws' := (wM cI cZ ad (a76.1.1, a76.1.2.1, a76.2.2.2.1, a76.2.2.2.2.1, (0 : Int32), a76.1.2.2.2.2.2.1, a76.1.2.2.2.2.2.2.1, a76.1.2.2.2.2.2.2.2.1, a76.1.2.2.2.2.2.2.2.2.1, a76.1.2.2.2.2.2.2.2.2.2) ((0 : Int32), a76.2.1.2) mn mg mf mt mz ml mi)) (ci := 9) (C := RX9) (T := TX9) (N := 32) (v := .int (0 : Int32)) (ty := .int) F hP hS rfl tyX9 tyX9_ok nmX9 0 rfl rfl inX9_build_X9 11 (by decide) (List.mem_of_getElem? (i := 1) rfl) rfl (by decide +kernel) rfl rfl (Nat.le_of_ble_eq_true rfl) dX9_build_122 rfl (fun H locs hP hS => ?_)
      refine lv_iload_n hx hb dX9_build_125 rfl (lv_at hl 1 rfl) ?_
      exact ret_i hx hb hr hlk dX9_build_126 hM hP hS
    · have hM := if_nn hc hM
      refine lv_aload_n hx hb dX9_build_85 rfl (lv_at hl 0 rfl) ?_
      refine g_get (ci := 9) (C := RX9) (T := TX9) (N := 32) (v := .ref (ad 1)) F hP 0 rfl rfl inX9_build_X9 2 (by decide) (List.mem_of_getElem? (i := 3) rfl) rfl dX9_build_86 ?_
      refine lv_iload hx hb dX9_build_89 (lv_at hl 4 rfl) ?_
      refine lv_aload_n hx hb dX9_build_91 rfl (lv_at hl 0 rfl) ?_
      refine g_get (ci := 9) (C := RX9) (T := TX9) (N := 32) (v := .ref (ad 5)) F hP 0 rfl rfl inX9_build_X9 10 (by decide) (List.mem_of_getElem? (i := 2) rfl) rfl dX9_build_92 ?_
      refine lv_iload hx hb dX9_build_95 (lv_at hl 4 rfl) ?_
      obtain ⟨hin, hM⟩ := if_ok hM
      refine va_iald hx hb hK hP 5 0 rfl rfl hin dX9_build_97 ?_
      obtain ⟨hin, hM⟩ := if_ok hM
      refine g_iast (ws' := (wM cI cZ ad (a76.1.1, a76.1.2.1, a76.1.2.2.1, a76.1.2.2.2.1, a76.1.2.2.2.2.1, a76.1.2.2.2.2.2.1, (upd a76.1.2.2.2.2.2.2.1 a76.2.2.2.2.2.toNatClampNeg (a76.2.1.2 a76.2.2.2.2.2.toNatClampNeg)), a76.1.2.2.2.2.2.2.2.1, a76.1.2.2.2.2.2.2.2.2.1, a76.1.2.2.2.2.2.2.2.2.2) a76.2.1 mn mg mf mt mz ml mi)) F hP hS rfl 1 0 rfl rfl hin dX9_build_98 rfl (fun H locs hP hS => ?_)
      refine lv_iinc (v := (a76.2.2.2.2.2 + (1 : Int32))) (lv' := [(4, .int (a76.2.2.2.2.2 + (1 : Int32))), (0, .ref (ad 0)), (1, .int a76.2.2.1), (2, .int a76.2.2.2.1), (3, .int a76.2.2.2.2.1)]) hx hb dX9_build_99 hl (k := 4) rfl rfl (by decide) rfl (fun ls hl => ?_)
      refine lv_goto (tgt := 76) hx hb dX9_build_102 (by decide) ?_
      exact ih76 ((a76.1.1, a76.1.2.1, a76.1.2.2.1, a76.1.2.2.2.1, a76.1.2.2.2.2.1, a76.1.2.2.2.2.2.1, (upd a76.1.2.2.2.2.2.2.1 a76.2.2.2.2.2.toNatClampNeg (a76.2.1.2 a76.2.2.2.2.2.toNatClampNeg)), a76.1.2.2.2.2.2.2.2.1, a76.1.2.2.2.2.2.2.2.2.1, a76.1.2.2.2.2.2.2.2.2.2), a76.2.1, a76.2.2.1, a76.2.2.2.1, a76.2.2.2.2.1, (a76.2.2.2.2.2 + (1 : Int32))) _ _ _ hP hS (lv_sub hl [1, 2, 3, 4, 0] rfl) hM
  refine kloop (α := BT × OT × Int32 × Int32 × Int32 × Int32) (res := res) (fun k a => M_X9_build_22  k a) (fun rec a => M_X9_build_22b  rec a) (fun _ => rfl) (fun _ _ => rfl) F (fun a => (wM cI cZ ad a.1 a.2.1 mn mg mf mt mz ml mi)) (fun a => [(0, .ref (ad 0)), (1, .int a.2.2.1), (2, .int a.2.2.2.1), (3, .int a.2.2.2.2.1), (4, .int a.2.2.2.2.2)]) (fun a => []) 22 ?_ (fun j22 => ?_)
  · intro rc22 ih22 a22 H locs ls hP hS hl hM
    unfold M_X9_build_22b at hM
    refine kblk (α := BT × OT × Int32 × Int32 × Int32 × Int32) (res := res) (fun a => M_X9_build_60 rc22 a) F (fun a => (wM cI cZ ad a.1 a.2.1 mn mg mf mt mz ml mi)) (fun a => [(0, .ref (ad 0)), (1, .int a.2.2.1), (2, .int a.2.2.2.1), (3, .int a.2.2.2.2.1), (4, .int a.2.2.2.2.2)]) (fun a => []) 60 ?_ (fun j60 => ?_)
    · intro a60 H locs ls hP hS hl hM
      unfold M_X9_build_60 at hM
      refine lv_iinc (v := (a60.2.2.2.2.2 + (1 : Int32))) (lv' := [(4, .int (a60.2.2.2.2.2 + (1 : Int32))), (0, .ref (ad 0)), (1, .int a60.2.2.1), (2, .int a60.2.2.2.1), (3, .int a60.2.2.2.2.1)]) hx hb dX9_build_60 hl (k := 4) rfl rfl (by decide) rfl (fun ls hl => ?_)
      refine lv_goto (tgt := 22) hx hb dX9_build_63 (by decide) ?_
      exact ih22 (a60.1, a60.2.1, a60.2.2.1, a60.2.2.2.1, a60.2.2.2.2.1, (a60.2.2.2.2.2 + (1 : Int32))) _ _ _ hP hS (lv_sub hl [1, 2, 3, 4, 0] rfl) hM
    refine kblk (α := BT × OT × Int32 × Int32 × Int32) (res := res) (fun a => M_X9_build_56 rc22 a) F (fun a => (wM cI cZ ad a.1 a.2.1 mn mg mf mt mz ml mi)) (fun a => [(0, .ref (ad 0)), (1, .int a.2.2.1), (4, .int a.2.2.2.1)]) (fun a => [.int a.2.2.2.2]) 56 ?_ (fun j56 => ?_)
    · intro a56 H locs ls hP hS hl hM
      unfold M_X9_build_56 at hM
      refine lv_istore_n (lv' := [(2, .int a56.2.2.2.2), (0, .ref (ad 0)), (1, .int a56.2.2.1), (4, .int a56.2.2.2.1)]) hx hb dX9_build_56 rfl hl (by decide) rfl (fun ls hl => ?_)
      refine lv_iload hx hb dX9_build_57 (lv_at hl 3 rfl) ?_
      refine lv_istore_n (lv' := [(3, .int a56.2.2.2.1), (2, .int a56.2.2.2.2), (0, .ref (ad 0)), (1, .int a56.2.2.1), (4, .int a56.2.2.2.1)]) hx hb dX9_build_59 rfl hl (by decide) rfl (fun ls hl => ?_)
      exact j60 (a56.1, a56.2.1, a56.2.2.1, a56.2.2.2.2, a56.2.2.2.1, a56.2.2.2.1) _ _ _ hP hS (lv_sub hl [2, 3, 1, 0, 4] rfl) hM
    refine lv_iload hx hb dX9_build_22 (lv_at hl 4 rfl) ?_
    refine lv_aload_n hx hb dX9_build_24 rfl (lv_at hl 0 rfl) ?_
    refine g_get (ci := 9) (C := RX9) (T := TX9) (N := 32) (v := .int a22.2.1.1) F hP 0 rfl rfl inX9_build_X9 11 (by decide) (List.mem_of_getElem? (i := 1) rfl) rfl dX9_build_25 ?_
    refine lv_icmp_ge (tgt := 66) hx hb dX9_build_28 (by decide) (fun hc => ?_) (fun hc => ?_)
    · have hM := if_pp hc hM
      refine lv_iload_n hx hb dX9_build_66 rfl (lv_at hl 1 rfl) ?_
      refine lv_if_ne (tgt := 73) hx hb dX9_build_67 (by decide) (fun hc => ?_) (fun hc => ?_)
      · have hM := if_nn hc hM
        refine lv_iconst (v := 0) hx hb dX9_build_73 (by decide) ?_
        refine lv_istore (lv' := [(4, .int (0 : Int32)), (0, .ref (ad 0)), (1, .int a22.2.2.1), (2, .int a22.2.2.2.1), (3, .int a22.2.2.2.2.1)]) hx hb dX9_build_74 hl (by decide) rfl (fun ls hl => ?_)
        exact j76 200 (a22.1, a22.2.1, a22.2.2.1, a22.2.2.2.1, a22.2.2.2.2.1, (0 : Int32)) _ _ _ hP hS (lv_sub hl [1, 2, 3, 4, 0] rfl) hM
      · have hM := if_pp hc hM
        refine lv_bipush (v := -3) hx hb dX9_build_70 (by decide) ?_
        exact ret_i hx hb hr hlk dX9_build_72 hM hP hS
    · have hM := if_nn hc hM
      refine lv_aload_n hx hb dX9_build_31 rfl (lv_at hl 0 rfl) ?_
      refine g_get (ci := 9) (C := RX9) (T := TX9) (N := 32) (v := .ref (ad 5)) F hP 0 rfl rfl inX9_build_X9 10 (by decide) (List.mem_of_getElem? (i := 2) rfl) rfl dX9_build_32 ?_
      refine lv_iload hx hb dX9_build_35 (lv_at hl 4 rfl) ?_
      obtain ⟨hin, hM⟩ := if_ok hM
      refine va_iald hx hb hK hP 5 0 rfl rfl hin dX9_build_37 ?_
      refine lv_bipush (v := 35) hx hb dX9_build_38 (by decide) ?_
      refine lv_icmp_eq (tgt := 60) hx hb dX9_build_40 (by decide) (fun hc => ?_) (fun hc => ?_)
      · have hM := if_pp hc hM
        exact j60 (a22.1, a22.2.1, a22.2.2.1, a22.2.2.2.1, a22.2.2.2.2.1, a22.2.2.2.2.2) _ _ _ hP hS (lv_sub hl [0, 1, 2, 3, 4] rfl) hM
      · have hM := if_nn hc hM
        refine lv_iinc (v := (a22.2.2.1 + (1 : Int32))) (lv' := [(1, .int (a22.2.2.1 + (1 : Int32))), (0, .ref (ad 0)), (2, .int a22.2.2.2.1), (3, .int a22.2.2.2.2.1), (4, .int a22.2.2.2.2.2)]) hx hb dX9_build_43 hl (k := 1) rfl rfl (by decide) rfl (fun ls hl => ?_)
        refine lv_iload_n hx hb dX9_build_46 rfl (lv_at hl 2 rfl) ?_
        refine lv_if_ge (tgt := 55) hx hb dX9_build_47 (by decide) (fun hc => ?_) (fun hc => ?_)
        · have hM := if_pp hc hM
          refine lv_iload_n hx hb dX9_build_55 rfl (lv_at hl 2 rfl) ?_
          exact j56 (a22.1, a22.2.1, (a22.2.2.1 + (1 : Int32)), a22.2.2.2.2.2, a22.2.2.2.1) _ _ _ hP hS (lv_sub hl [1, 0, 4] rfl) hM
        · have hM := if_nn hc hM
          refine lv_iload hx hb dX9_build_50 (lv_at hl 4 rfl) ?_
          refine lv_goto (tgt := 56) hx hb dX9_build_52 (by decide) ?_
          exact j56 (a22.1, a22.2.1, (a22.2.2.1 + (1 : Int32)), a22.2.2.2.2.2, a22.2.2.2.2.2) _ _ _ hP hS (lv_sub hl [1, 0, 4] rfl) hM
  refine lv_aload_n hx hb dX9_build_0 rfl (lv_at hl 0 rfl) ?_
  refine lv_iconst (v := 0) hx hb dX9_build_1 (by decide) ?_
  obtain ⟨z2, hcr, hM⟩ := ob_s hM
  refine res_i0 F hP hS rfl [0, 1, 2, 3, 4, 5, 6, 7, 8, 9, 10, 11, 12] rfl rfl (runV_of (n := 1) (As := [.int (0 : Int32)]) (rest := []) F hP hS rfl [0, 1, 2, 3, 4, 5, 6, 7, 8, 9, 10, 11, 12] rfl rfl (c_X9_fault l dC dI cI cC cZ sa ad mb mo mn mg mf mt mz ml mi (0 : Int32) hcr _) gX9_build_X9_fault rfl (by decide +kernel) ⟨Nat.le_of_ble_eq_true rfl, Nat.le_of_ble_eq_true rfl⟩ 0 9 rfl rfl rfl hl.1 rfl (Nat.le_of_ble_eq_true rfl) dX9_build_2 ⟨Nat.zero_le _, Nat.zero_le _⟩) (fun H locs hP hS => ?_)
  refine lv_if_lt (tgt := 11) hx hb dX9_build_5 (by decide) (fun hc => ?_) (fun hc => ?_)
  · have hM := if_pp hc hM
    refine lv_iconst (v := 0) hx hb dX9_build_11 (by decide) ?_
    refine lv_istore_n (lv' := [(1, .int (0 : Int32)), (0, .ref (ad 0))]) hx hb dX9_build_12 rfl hl (by decide) rfl (fun ls hl => ?_)
    refine lv_bipush (v := -6) hx hb dX9_build_13 (by decide) ?_
    refine lv_istore_n (lv' := [(2, .int (-6 : Int32)), (1, .int (0 : Int32)), (0, .ref (ad 0))]) hx hb dX9_build_15 rfl hl (by decide) rfl (fun ls hl => ?_)
    refine lv_bipush (v := -6) hx hb dX9_build_16 (by decide) ?_
    refine lv_istore_n (lv' := [(3, .int (-6 : Int32)), (2, .int (-6 : Int32)), (1, .int (0 : Int32)), (0, .ref (ad 0))]) hx hb dX9_build_18 rfl hl (by decide) rfl (fun ls hl => ?_)
    refine lv_iconst (v := 0) hx hb dX9_build_19 (by decide) ?_
    refine lv_istore (lv' := [(4, .int (0 : Int32)), (3, .int (-6 : Int32)), (2, .int (-6 : Int32)), (1, .int (0 : Int32)), (0, .ref (ad 0))]) hx hb dX9_build_20 hl (by decide) rfl (fun ls hl => ?_)
    exact j22 200 (mb, mo, (0 : Int32), (-6 : Int32), (-6 : Int32), (0 : Int32)) _ _ _ hP hS (lv_sub hl [4, 3, 2, 1, 0] rfl) hM
  · have hM := if_nn hc hM
    refine lv_bipush (v := -5) hx hb dX9_build_8 (by decide) ?_
    exact ret_i hx hb hr hlk dX9_build_10 hM hP hS
set_option maxHeartbeats 4000000 in
set_option maxRecDepth 100000 in
theorem c_X9_isCell (l : Launch) (dC : Nat → ClassId) (dI : Nat → Nat → Nat) (cI cC cZ : ClassId) (sa : Nat → Nat) (ad : Nat → Nat) (mb : BT) (mo : OT) (mn : NT) (mg : GT) (mf : AR) (mt : TT) (mz : AR) (ml : LT) (mi : IT) (x1 : Int32) {res : Int32} (hM : M_X9_isCell mb x1 = some res) : CTi l (dC, dI) [(cI, .int), (cC, .char), (cZ, .boolean)] sa yX9_isCell wsX9_isCell (rmd 2) [.ref (ad 0), .int x1] (wM cI cZ ad mb mo mn mg mf mt mz ml mi) (fun (_ : Unit) => (wM cI cZ ad mb mo mn mg mf mt mz ml mi)) (res, ()) := by
  refine CTi.enter (own := RX9) (cc := cX9_isCell) (maxL := 2) (ret := (some .boolean)) (by decide) rfl rfl (Nat.le_of_ble_eq_true rfl) ?_
  intro pr e s m below meth c A F hr hlk hP hS ls hl
  obtain ⟨⟨hx, hb, hml, hown, hts⟩, hK, hDD, hA, hKC⟩ := id F
  have hl : lv_has ls 2 [(0, .ref (ad 0)), (1, .int x1)] := hl
  have hP : va_P (dC, dI) vwCl (wM cI cZ ad mb mo mn mg mf mt mz ml mi) s.heap := hP
  unfold M_X9_isCell at hM
  refine lv_iload_n hx hb dX9_isCell_0 rfl (lv_at hl 1 rfl) ?_
  refine lv_i2l (v := x1.toInt64) hx hb dX9_isCell_1 rfl ?_
  refine lv_lconst (v := 0) hx hb dX9_isCell_2 (by decide) ?_
  refine lv_aload_n hx hb dX9_isCell_3 rfl (lv_at hl 0 rfl) ?_
  obtain ⟨z4, hcr, hM⟩ := ob_s hM
  refine res_i0 F hP hS rfl [0, 1, 2, 3, 4, 5, 6, 7, 8, 9, 10, 11, 12] rfl rfl (runV_of (n := 0) (As := []) (rest := [.long (0 : Int64), .long x1.toInt64]) F hP hS rfl [0, 1, 2, 3, 4, 5, 6, 7, 8, 9, 10, 11, 12] rfl rfl (c_X9_cells l dC dI cI cC cZ sa ad mb mo mn mg mf mt mz ml mi hcr _) gX9_isCell_X9_cells rfl (by decide +kernel) ⟨Nat.le_of_ble_eq_true rfl, Nat.le_of_ble_eq_true rfl⟩ 0 9 rfl rfl rfl hl.1 rfl (Nat.le_of_ble_eq_true rfl) dX9_isCell_4 ⟨Nat.zero_le _, Nat.zero_le _⟩) (fun H locs hP hS => ?_)
  refine lv_iconst (v := 1) hx hb dX9_isCell_7 (by decide) ?_
  refine lv_isub hx hb dX9_isCell_8 ?_
  refine lv_i2l (v := (z4 - (1 : Int32)).toInt64) hx hb dX9_isCell_9 rfl ?_
  obtain ⟨z10, hcr, hM⟩ := ob_s hM
  refine res_i0 F hP hS rfl [] rfl rfl (runS_of (n := 3) (As := [.long x1.toInt64, .long (0 : Int64), .long ((z4 - (1 : Int32)).toInt64)]) (rest := []) F hP hS rfl [] rfl rfl (c_X9_in l dC dI cI cC cZ sa x1.toInt64 (0 : Int64) ((z4 - (1 : Int32)).toInt64) hcr _) gX9_isCell_X9_in rfl (by decide +kernel) ⟨Nat.le_of_ble_eq_true rfl, Nat.le_of_ble_eq_true rfl⟩ rfl hl.1 rfl (Nat.le_of_ble_eq_true rfl) dX9_isCell_10 ⟨Nat.zero_le _, Nat.zero_le _⟩) (fun H locs hP hS => ?_)
  obtain ⟨hnz, hM⟩ := if_ok hM
  exact ret_z hx hb hr hlk dX9_isCell_13 (nar_z hnz) (some_u hM) hP hS
