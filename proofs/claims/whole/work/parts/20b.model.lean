/-! Walks, printed by wip/whole/gen.py -/
set_option maxHeartbeats 4000000 in
set_option maxRecDepth 100000 in
theorem c_X9_in (l : Launch) (dC : Nat → ClassId) (dI : Nat → Nat → Nat) (cI cC cZ : ClassId) (sa : Nat → Nat)  (x1 : Int64) (x2 : Int64) (x3 : Int64) {res : Int32} (hM : M_X9_in x1 x2 x3 = some res) : CTi l (dC, dI) [(cI, .int), (cC, .char), (cZ, .boolean)] sa yX9_in wsX9_in (rmd 1) [.long x1, .long x2, .long x3] ([] : va_W) (fun (_ : Unit) => ([] : va_W)) (res, ()) := by
  refine CTi.enter (own := RX9) (cc := cX9_in) (maxL := 6) (ret := (some .boolean)) (by decide) rfl rfl (Nat.le_of_ble_eq_true rfl) ?_
  intro pr e s m below meth c A F hr hlk hP hS ls hl
  obtain ⟨⟨hx, hb, hml, hown, hts⟩, hK, hDD, hA, hKC⟩ := id F
  have hl : lv_has ls 6 [(0, .long x1), (2, .long x2), (4, .long x3)] := hl
  have hP : va_P (dC, dI) vwCl ([] : va_W) s.heap := hP
  unfold M_X9_in at hM
  refine lv_lload_n hx hb dX9_in_0 rfl (lv_at hl 0 rfl) ?_
  refine lv_lload_n hx hb dX9_in_1 rfl (lv_at hl 1 rfl) ?_
  refine W.lcmp hx hb dX9_in_2 ?_
  refine lv_if_lt (tgt := 17) hx hb dX9_in_3 (by decide) (fun hc => ?_) (fun hc => ?_)
  · have hM := if_pp hc hM
    refine lv_iconst (v := 0) hx hb dX9_in_17 (by decide) ?_
    exact ret_z hx hb hr hlk dX9_in_18 (by decide) (some_u hM) hP hS
  · have hM := if_nn hc hM
    refine lv_lload_n hx hb dX9_in_6 rfl (lv_at hl 0 rfl) ?_
    refine lv_lload hx hb dX9_in_7 (lv_at hl 2 rfl) ?_
    refine W.lcmp hx hb dX9_in_9 ?_
    refine lv_if_gt (tgt := 17) hx hb dX9_in_10 (by decide) (fun hc => ?_) (fun hc => ?_)
    · have hM := if_pp hc hM
      refine lv_iconst (v := 0) hx hb dX9_in_17 (by decide) ?_
      exact ret_z hx hb hr hlk dX9_in_18 (by decide) (some_u hM) hP hS
    · have hM := if_nn hc hM
      refine lv_iconst (v := 1) hx hb dX9_in_13 (by decide) ?_
      refine lv_goto (tgt := 18) hx hb dX9_in_14 (by decide) ?_
      exact ret_z hx hb hr hlk dX9_in_18 (by decide) (some_u hM) hP hS
theorem inX9_beyond_X9 : ∀ w ∈ wsX90, w ∈ wsX9_beyond := fun w h => List.mem_cons_of_mem _ (List.mem_append_right _ h)
set_option maxHeartbeats 4000000 in
set_option maxRecDepth 100000 in
theorem c_X9_beyond (l : Launch) (dC : Nat → ClassId) (dI : Nat → Nat → Nat) (cI cC cZ : ClassId) (sa : Nat → Nat) (ad : Nat → Nat) (mb : BT) (mo : OT) (mn : NT) (mg : GT) (mf : AR) (mt : TT) (mz : AR) (ml : LT) (mi : IT) (x1 : Int32) (x2 : Int32) {res : Int32} (hM : M_X9_beyond mb x1 x2 = some res) : CTi l (dC, dI) [(cI, .int), (cC, .char), (cZ, .boolean)] sa yX9_beyond wsX9_beyond (rmd 2) [.ref (ad 0), .int x1, .int x2] (wM cI cZ ad mb mo mn mg mf mt mz ml mi) (fun (_ : Unit) => (wM cI cZ ad mb mo mn mg mf mt mz ml mi)) (res, ()) := by
  refine CTi.enter (own := RX9) (cc := cX9_beyond) (maxL := 6) (ret := (some .int)) (by decide) rfl rfl (Nat.le_of_ble_eq_true rfl) ?_
  intro pr e s m below meth c A F hr hlk hP hS ls hl
  obtain ⟨⟨hx, hb, hml, hown, hts⟩, hK, hDD, hA, hKC⟩ := id F
  have hl : lv_has ls 6 [(0, .ref (ad 0)), (1, .int x1), (2, .int x2)] := hl
  have hP : va_P (dC, dI) vwCl (wM cI cZ ad mb mo mn mg mf mt mz ml mi) s.heap := hP
  unfold M_X9_beyond at hM
  refine kblk (α := Int32 × Int32 × Int32) (res := res) (fun a => M_X9_beyond_92 mb x1 x2 a) F (fun a => (wM cI cZ ad mb mo mn mg mf mt mz ml mi)) (fun a => [(0, .ref (ad 0)), (3, .int a.1), (4, .int a.2.1)]) (fun a => [.int a.2.2]) 92 ?_ (fun j92 => ?_)
  · intro a92 H locs ls hP hS hl hM
    unfold M_X9_beyond_92 at hM
    refine lv_istore (lv' := [(5, .int a92.2.2), (0, .ref (ad 0)), (3, .int a92.1), (4, .int a92.2.1)]) hx hb dX9_beyond_92 hl (by decide) rfl (fun ls hl => ?_)
    refine lv_iload hx hb dX9_beyond_94 (lv_at hl 0 rfl) ?_
    refine lv_if_eq (tgt := 127) hx hb dX9_beyond_96 (by decide) (fun hc => ?_) (fun hc => ?_)
    · have hM := if_pp hc hM
      refine lv_bipush (v := -6) hx hb dX9_beyond_127 (by decide) ?_
      exact ret_i hx hb hr hlk dX9_beyond_129 (some_u hM) hP hS
    · have hM := if_nn hc hM
      refine lv_aload_n hx hb dX9_beyond_99 rfl (lv_at hl 1 rfl) ?_
      refine lv_iload_n hx hb dX9_beyond_100 rfl (lv_at hl 2 rfl) ?_
      refine lv_aload_n hx hb dX9_beyond_101 rfl (lv_at hl 1 rfl) ?_
      refine g_get (ci := 9) (C := RX9) (T := TX9) (N := 32) (v := .int mb.2.1) F hP 0 rfl rfl inX9_beyond_X9 1 (by decide) (List.mem_of_getElem? (i := 1) rfl) rfl dX9_beyond_102 ?_
      refine lv_imul hx hb dX9_beyond_105 ?_
      refine lv_iload hx hb dX9_beyond_106 (lv_at hl 3 rfl) ?_
      refine lv_iadd hx hb dX9_beyond_108 ?_
      obtain ⟨z109, hcr, hM⟩ := ob_s hM
      refine res_i0 F hP hS rfl [0, 1, 2, 3, 4, 5, 6, 7, 8, 9, 10, 11, 12] rfl rfl (runV_of (n := 1) (As := [.int ((a92.1 * mb.2.1) + a92.2.1)]) (rest := []) F hP hS rfl [0, 1, 2, 3, 4, 5, 6, 7, 8, 9, 10, 11, 12] rfl rfl (c_X9_isWall l dC dI cI cC cZ sa ad mb mo mn mg mf mt mz ml mi ((a92.1 * mb.2.1) + a92.2.1) hcr _) gX9_beyond_X9_isWall rfl (by decide +kernel) ⟨Nat.le_of_ble_eq_true rfl, Nat.le_of_ble_eq_true rfl⟩ 0 9 rfl rfl rfl hl.1 rfl (Nat.le_of_ble_eq_true rfl) dX9_beyond_109 ⟨Nat.zero_le _, Nat.zero_le _⟩) (fun H locs hP hS => ?_)
      refine lv_if_ne (tgt := 127) hx hb dX9_beyond_112 (by decide) (fun hc => ?_) (fun hc => ?_)
      · have hM := if_nn hc hM
        refine lv_bipush (v := -6) hx hb dX9_beyond_127 (by decide) ?_
        exact ret_i hx hb hr hlk dX9_beyond_129 (some_u hM) hP hS
      · have hM := if_pp hc hM
        refine lv_iload_n hx hb dX9_beyond_115 rfl (lv_at hl 2 rfl) ?_
        refine lv_aload_n hx hb dX9_beyond_116 rfl (lv_at hl 1 rfl) ?_
        refine g_get (ci := 9) (C := RX9) (T := TX9) (N := 32) (v := .int mb.2.1) F hP 0 rfl rfl inX9_beyond_X9 1 (by decide) (List.mem_of_getElem? (i := 1) rfl) rfl dX9_beyond_117 ?_
        refine lv_imul hx hb dX9_beyond_120 ?_
        refine lv_iload hx hb dX9_beyond_121 (lv_at hl 3 rfl) ?_
        refine lv_iadd hx hb dX9_beyond_123 ?_
        refine lv_goto (tgt := 129) hx hb dX9_beyond_124 (by decide) ?_
        exact ret_i hx hb hr hlk dX9_beyond_129 (some_u hM) hP hS
  refine kblk (α := Int32 × Int32) (res := res) (fun a => M_X9_beyond_91 mb x1 x2 a) F (fun a => (wM cI cZ ad mb mo mn mg mf mt mz ml mi)) (fun a => [(0, .ref (ad 0)), (3, .int a.1), (4, .int a.2)]) (fun a => []) 91 ?_ (fun j91 => ?_)
  · intro a91 H locs ls hP hS hl hM
    unfold M_X9_beyond_91 at hM
    refine lv_iconst (v := 0) hx hb dX9_beyond_91 (by decide) ?_
    exact j92 (a91.1, a91.2, (0 : Int32)) _ _ _ hP hS (lv_sub hl [0, 1, 2] rfl) hM
  refine kblk (α := Int32 × Int32 × Int32) (res := res) (fun a => M_X9_beyond_51 mb x1 x2 a) F (fun a => (wM cI cZ ad mb mo mn mg mf mt mz ml mi)) (fun a => [(0, .ref (ad 0)), (3, .int a.1)]) (fun a => [.int a.2.1, .int a.2.2]) 51 ?_ (fun j51 => ?_)
  · intro a51 H locs ls hP hS hl hM
    unfold M_X9_beyond_51 at hM
    refine lv_iadd hx hb dX9_beyond_51 ?_
    refine lv_istore (lv' := [(4, .int (a51.2.2 + a51.2.1)), (0, .ref (ad 0)), (3, .int a51.1)]) hx hb dX9_beyond_52 hl (by decide) rfl (fun ls hl => ?_)
    refine lv_iload_n hx hb dX9_beyond_54 rfl (lv_at hl 2 rfl) ?_
    refine lv_i2l (v := a51.1.toInt64) hx hb dX9_beyond_55 rfl ?_
    refine lv_lconst (v := 0) hx hb dX9_beyond_56 (by decide) ?_
    refine lv_aload_n hx hb dX9_beyond_57 rfl (lv_at hl 1 rfl) ?_
    refine g_get (ci := 9) (C := RX9) (T := TX9) (N := 32) (v := .int mb.1) F hP 0 rfl rfl inX9_beyond_X9 0 (by decide) (List.mem_of_getElem? (i := 2) rfl) rfl dX9_beyond_58 ?_
    refine lv_iconst (v := 1) hx hb dX9_beyond_61 (by decide) ?_
    refine lv_isub hx hb dX9_beyond_62 ?_
    refine lv_i2l (v := (mb.1 - (1 : Int32)).toInt64) hx hb dX9_beyond_63 rfl ?_
    obtain ⟨z64, hcr, hM⟩ := ob_s hM
    refine res_i0 F hP hS rfl [] rfl rfl (runS_of (n := 3) (As := [.long a51.1.toInt64, .long (0 : Int64), .long ((mb.1 - (1 : Int32)).toInt64)]) (rest := []) F hP hS rfl [] rfl rfl (c_X9_in l dC dI cI cC cZ sa a51.1.toInt64 (0 : Int64) ((mb.1 - (1 : Int32)).toInt64) hcr _) gX9_beyond_X9_in rfl (by decide +kernel) ⟨Nat.le_of_ble_eq_true rfl, Nat.le_of_ble_eq_true rfl⟩ rfl hl.1 rfl (Nat.le_of_ble_eq_true rfl) dX9_beyond_64 ⟨Nat.zero_le _, Nat.zero_le _⟩) (fun H locs hP hS => ?_)
    refine lv_if_eq (tgt := 91) hx hb dX9_beyond_67 (by decide) (fun hc => ?_) (fun hc => ?_)
    · have hM := if_pp hc hM
      exact j91 (a51.1, (a51.2.2 + a51.2.1)) _ _ _ hP hS (lv_sub hl [1, 2, 0] rfl) hM
    · have hM := if_nn hc hM
      refine lv_iload hx hb dX9_beyond_70 (lv_at hl 0 rfl) ?_
      refine lv_i2l (v := (a51.2.2 + a51.2.1).toInt64) hx hb dX9_beyond_72 rfl ?_
      refine lv_lconst (v := 0) hx hb dX9_beyond_73 (by decide) ?_
      refine lv_aload_n hx hb dX9_beyond_74 rfl (lv_at hl 1 rfl) ?_
      refine g_get (ci := 9) (C := RX9) (T := TX9) (N := 32) (v := .int mb.2.1) F hP 0 rfl rfl inX9_beyond_X9 1 (by decide) (List.mem_of_getElem? (i := 1) rfl) rfl dX9_beyond_75 ?_
      refine lv_iconst (v := 1) hx hb dX9_beyond_78 (by decide) ?_
      refine lv_isub hx hb dX9_beyond_79 ?_
      refine lv_i2l (v := (mb.2.1 - (1 : Int32)).toInt64) hx hb dX9_beyond_80 rfl ?_
      obtain ⟨z81, hcr, hM⟩ := ob_s hM
      refine res_i0 F hP hS rfl [] rfl rfl (runS_of (n := 3) (As := [.long ((a51.2.2 + a51.2.1).toInt64), .long (0 : Int64), .long ((mb.2.1 - (1 : Int32)).toInt64)]) (rest := []) F hP hS rfl [] rfl rfl (c_X9_in l dC dI cI cC cZ sa ((a51.2.2 + a51.2.1).toInt64) (0 : Int64) ((mb.2.1 - (1 : Int32)).toInt64) hcr _) gX9_beyond_X9_in rfl (by decide +kernel) ⟨Nat.le_of_ble_eq_true rfl, Nat.le_of_ble_eq_true rfl⟩ rfl hl.1 rfl (Nat.le_of_ble_eq_true rfl) dX9_beyond_81 ⟨Nat.zero_le _, Nat.zero_le _⟩) (fun H locs hP hS => ?_)
      refine lv_if_eq (tgt := 91) hx hb dX9_beyond_84 (by decide) (fun hc => ?_) (fun hc => ?_)
      · have hM := if_pp hc hM
        exact j91 (a51.1, (a51.2.2 + a51.2.1)) _ _ _ hP hS (lv_sub hl [1, 2, 0] rfl) hM
      · have hM := if_nn hc hM
        refine lv_iconst (v := 1) hx hb dX9_beyond_87 (by decide) ?_
        refine lv_goto (tgt := 92) hx hb dX9_beyond_88 (by decide) ?_
        exact j92 (a51.1, (a51.2.2 + a51.2.1), (1 : Int32)) _ _ _ hP hS (lv_sub hl [1, 2, 0] rfl) hM
  refine kblk (α := Int32 × Int32) (res := res) (fun a => M_X9_beyond_24 mb x1 x2 a) F (fun a => (wM cI cZ ad mb mo mn mg mf mt mz ml mi)) (fun a => [(0, .ref (ad 0)), (1, .int x1), (2, .int x2)]) (fun a => [.int a.1, .int a.2]) 24 ?_ (fun j24 => ?_)
  · intro a24 H locs ls hP hS hl hM
    unfold M_X9_beyond_24 at hM
    refine lv_iadd hx hb dX9_beyond_24 ?_
    refine lv_istore_n (lv' := [(3, .int (a24.2 + a24.1)), (0, .ref (ad 0)), (1, .int x1), (2, .int x2)]) hx hb dX9_beyond_25 rfl hl (by decide) rfl (fun ls hl => ?_)
    refine lv_iload_n hx hb dX9_beyond_26 rfl (lv_at hl 2 rfl) ?_
    refine lv_aload_n hx hb dX9_beyond_27 rfl (lv_at hl 1 rfl) ?_
    refine g_get (ci := 9) (C := RX9) (T := TX9) (N := 32) (v := .int mb.2.1) F hP 0 rfl rfl inX9_beyond_X9 1 (by decide) (List.mem_of_getElem? (i := 1) rfl) rfl dX9_beyond_28 ?_
    obtain ⟨hne, hM⟩ := if_ok hM
    refine lv_irem hx hb dX9_beyond_31 hne ?_
    refine lv_iload_n hx hb dX9_beyond_32 rfl (lv_at hl 3 rfl) ?_
    refine lv_iconst (v := 1) hx hb dX9_beyond_33 (by decide) ?_
    refine lv_icmp_ne (tgt := 41) hx hb dX9_beyond_34 (by decide) (fun hc => ?_) (fun hc => ?_)
    · have hM := if_nn hc hM
      refine lv_iload_n hx hb dX9_beyond_41 rfl (lv_at hl 3 rfl) ?_
      refine lv_iconst (v := 3) hx hb dX9_beyond_42 (by decide) ?_
      refine lv_icmp_ne (tgt := 50) hx hb dX9_beyond_43 (by decide) (fun hc => ?_) (fun hc => ?_)
      · have hM := if_nn hc hM
        refine lv_iconst (v := 0) hx hb dX9_beyond_50 (by decide) ?_
        exact j51 ((a24.2 + a24.1), (0 : Int32), (x1 - x1 / mb.2.1 * mb.2.1)) _ _ _ hP hS (lv_sub hl [1, 0] rfl) hM
      · have hM := if_pp hc hM
        refine lv_iconst (v := -1) hx hb dX9_beyond_46 (by decide) ?_
        refine lv_goto (tgt := 51) hx hb dX9_beyond_47 (by decide) ?_
        exact j51 ((a24.2 + a24.1), (-1 : Int32), (x1 - x1 / mb.2.1 * mb.2.1)) _ _ _ hP hS (lv_sub hl [1, 0] rfl) hM
    · have hM := if_pp hc hM
      refine lv_iconst (v := 1) hx hb dX9_beyond_37 (by decide) ?_
      refine lv_goto (tgt := 51) hx hb dX9_beyond_38 (by decide) ?_
      exact j51 ((a24.2 + a24.1), (1 : Int32), (x1 - x1 / mb.2.1 * mb.2.1)) _ _ _ hP hS (lv_sub hl [1, 0] rfl) hM
  refine lv_iload_n hx hb dX9_beyond_0 rfl (lv_at hl 1 rfl) ?_
  refine lv_aload_n hx hb dX9_beyond_1 rfl (lv_at hl 0 rfl) ?_
  refine g_get (ci := 9) (C := RX9) (T := TX9) (N := 32) (v := .int mb.2.1) F hP 0 rfl rfl inX9_beyond_X9 1 (by decide) (List.mem_of_getElem? (i := 1) rfl) rfl dX9_beyond_2 ?_
  obtain ⟨hne, hM⟩ := if_ok hM
  refine lv_idiv hx hb dX9_beyond_5 hne ?_
  refine lv_iload_n hx hb dX9_beyond_6 rfl (lv_at hl 2 rfl) ?_
  refine lv_if_ne (tgt := 14) hx hb dX9_beyond_7 (by decide) (fun hc => ?_) (fun hc => ?_)
  · have hM := if_nn hc hM
    refine lv_iload_n hx hb dX9_beyond_14 rfl (lv_at hl 2 rfl) ?_
    refine lv_iconst (v := 2) hx hb dX9_beyond_15 (by decide) ?_
    refine lv_icmp_ne (tgt := 23) hx hb dX9_beyond_16 (by decide) (fun hc => ?_) (fun hc => ?_)
    · have hM := if_nn hc hM
      refine lv_iconst (v := 0) hx hb dX9_beyond_23 (by decide) ?_
      exact j24 ((0 : Int32), (x1 / mb.2.1)) _ _ _ hP hS (lv_sub hl [0, 1, 2] rfl) hM
    · have hM := if_pp hc hM
      refine lv_iconst (v := 1) hx hb dX9_beyond_19 (by decide) ?_
      refine lv_goto (tgt := 24) hx hb dX9_beyond_20 (by decide) ?_
      exact j24 ((1 : Int32), (x1 / mb.2.1)) _ _ _ hP hS (lv_sub hl [0, 1, 2] rfl) hM
  · have hM := if_pp hc hM
    refine lv_iconst (v := -1) hx hb dX9_beyond_10 (by decide) ?_
    refine lv_goto (tgt := 24) hx hb dX9_beyond_11 (by decide) ?_
    exact j24 ((-1 : Int32), (x1 / mb.2.1)) _ _ _ hP hS (lv_sub hl [0, 1, 2] rfl) hM
set_option maxHeartbeats 4000000 in
set_option maxRecDepth 100000 in
theorem c_X9_seenFrom (l : Launch) (dC : Nat → ClassId) (dI : Nat → Nat → Nat) (cI cC cZ : ClassId) (sa : Nat → Nat) (ad : Nat → Nat) (mb : BT) (mo : OT) (mn : NT) (mg : GT) (mf : AR) (mt : TT) (mz : AR) (ml : LT) (mi : IT) (x1 : Int32) (x2 : Int32) {res : Int32} (hM : M_X9_seenFrom mb x1 x2 = some res) : CTi l (dC, dI) [(cI, .int), (cC, .char), (cZ, .boolean)] sa yX9_seenFrom wsX9_seenFrom (rmd 3) [.ref (ad 0), .int x1, .int x2] (wM cI cZ ad mb mo mn mg mf mt mz ml mi) (fun (_ : Unit) => (wM cI cZ ad mb mo mn mg mf mt mz ml mi)) (res, ()) := by
  refine CTi.enter (own := RX9) (cc := cX9_seenFrom) (maxL := 5) (ret := (some .int)) (by decide) rfl rfl (Nat.le_of_ble_eq_true rfl) ?_
  intro pr e s m below meth c A F hr hlk hP hS ls hl
  obtain ⟨⟨hx, hb, hml, hown, hts⟩, hK, hDD, hA, hKC⟩ := id F
  have hl : lv_has ls 5 [(0, .ref (ad 0)), (1, .int x1), (2, .int x2)] := hl
  have hP : va_P (dC, dI) vwCl (wM cI cZ ad mb mo mn mg mf mt mz ml mi) s.heap := hP
  unfold M_X9_seenFrom at hM
  refine kloop (α := Int32 × Int32) (res := res) (fun k a => M_X9_seenFrom_5 mb x1 x2 k a) (fun rec a => M_X9_seenFrom_5b mb x1 x2 rec a) (fun _ => rfl) (fun _ _ => rfl) F (fun a => (wM cI cZ ad mb mo mn mg mf mt mz ml mi)) (fun a => [(0, .ref (ad 0)), (2, .int x2), (3, .int a.1), (4, .int a.2)]) (fun a => []) 5 ?_ (fun j5 => ?_)
  · intro rc5 ih5 a5 H locs ls hP hS hl hM
    unfold M_X9_seenFrom_5b at hM
    refine lv_iload hx hb dX9_seenFrom_5 (lv_at hl 3 rfl) ?_
    refine lv_if_lt (tgt := 29) hx hb dX9_seenFrom_7 (by decide) (fun hc => ?_) (fun hc => ?_)
    · have hM := if_pp hc hM
      refine lv_iload_n hx hb dX9_seenFrom_29 rfl (lv_at hl 2 rfl) ?_
      exact ret_i hx hb hr hlk dX9_seenFrom_30 (some_u hM) hP hS
    · have hM := if_nn hc hM
      refine lv_iload_n hx hb dX9_seenFrom_10 rfl (lv_at hl 2 rfl) ?_
      refine lv_iconst (v := 1) hx hb dX9_seenFrom_11 (by decide) ?_
      refine lv_iload hx hb dX9_seenFrom_12 (lv_at hl 3 rfl) ?_
      refine lv_ishl hx hb dX9_seenFrom_14 ?_
      refine lv_ior hx hb dX9_seenFrom_15 ?_
      refine lv_istore_n (lv' := [(3, .int (a5.1 ||| ((1 : Int32) <<< (a5.2 &&& 31)))), (0, .ref (ad 0)), (2, .int x2), (4, .int a5.2)]) hx hb dX9_seenFrom_16 rfl hl (by decide) rfl (fun ls hl => ?_)
      refine lv_aload_n hx hb dX9_seenFrom_17 rfl (lv_at hl 1 rfl) ?_
      refine lv_iload hx hb dX9_seenFrom_18 (lv_at hl 3 rfl) ?_
      refine lv_iload_n hx hb dX9_seenFrom_20 rfl (lv_at hl 2 rfl) ?_
      obtain ⟨z21, hcr, hM⟩ := ob_s hM
      refine res_i0 F hP hS rfl [0, 1, 2, 3, 4, 5, 6, 7, 8, 9, 10, 11, 12] rfl rfl (runV_of (n := 2) (As := [.int a5.2, .int x2]) (rest := []) F hP hS rfl [0, 1, 2, 3, 4, 5, 6, 7, 8, 9, 10, 11, 12] rfl rfl (c_X9_beyond l dC dI cI cC cZ sa ad mb mo mn mg mf mt mz ml mi a5.2 x2 hcr _) gX9_seenFrom_X9_beyond rfl (by decide +kernel) ⟨Nat.le_of_ble_eq_true rfl, Nat.le_of_ble_eq_true rfl⟩ 0 9 rfl rfl rfl hl.1 rfl (Nat.le_of_ble_eq_true rfl) dX9_seenFrom_21 ⟨Nat.zero_le _, Nat.zero_le _⟩) (fun H locs hP hS => ?_)
      refine lv_istore (lv' := [(4, .int z21), (3, .int (a5.1 ||| ((1 : Int32) <<< (a5.2 &&& 31)))), (0, .ref (ad 0)), (2, .int x2)]) hx hb dX9_seenFrom_24 hl (by decide) rfl (fun ls hl => ?_)
      refine lv_goto (tgt := 5) hx hb dX9_seenFrom_26 (by decide) ?_
      exact ih5 ((a5.1 ||| ((1 : Int32) <<< (a5.2 &&& 31))), z21) _ _ _ hP hS (lv_sub hl [2, 3, 1, 0] rfl) hM
  refine lv_iconst (v := 0) hx hb dX9_seenFrom_0 (by decide) ?_
  refine lv_istore_n (lv' := [(3, .int (0 : Int32)), (0, .ref (ad 0)), (1, .int x1), (2, .int x2)]) hx hb dX9_seenFrom_1 rfl hl (by decide) rfl (fun ls hl => ?_)
  refine lv_iload_n hx hb dX9_seenFrom_2 rfl (lv_at hl 2 rfl) ?_
  refine lv_istore (lv' := [(4, .int x1), (3, .int (0 : Int32)), (0, .ref (ad 0)), (1, .int x1), (2, .int x2)]) hx hb dX9_seenFrom_3 hl (by decide) rfl (fun ls hl => ?_)
  exact j5 200 ((0 : Int32), x1) _ _ _ hP hS (lv_sub hl [2, 4, 1, 0] rfl) hM
theorem inX9_seenBy_X9 : ∀ w ∈ wsX90, w ∈ wsX9_seenBy := fun w h => List.mem_cons_of_mem _ (List.mem_append_right _ h)
set_option maxHeartbeats 4000000 in
set_option maxRecDepth 100000 in
theorem c_X9_seenBy (l : Launch) (dC : Nat → ClassId) (dI : Nat → Nat → Nat) (cI cC cZ : ClassId) (sa : Nat → Nat) (ad : Nat → Nat) (mb : BT) (mo : OT) (mn : NT) (mg : GT) (mf : AR) (mt : TT) (mz : AR) (ml : LT) (mi : IT) (x1 : Int32) {res : Int32} (hM : M_X9_seenBy mb x1 = some res) : CTi l (dC, dI) [(cI, .int), (cC, .char), (cZ, .boolean)] sa yX9_seenBy wsX9_seenBy (rmd 4) [.ref (ad 0), .int x1] (wM cI cZ ad mb mo mn mg mf mt mz ml mi) (fun (_ : Unit) => (wM cI cZ ad mb mo mn mg mf mt mz ml mi)) (res, ()) := by
  refine CTi.enter (own := RX9) (cc := cX9_seenBy) (maxL := 2) (ret := (some .int)) (by decide) rfl rfl (Nat.le_of_ble_eq_true rfl) ?_
  intro pr e s m below meth c A F hr hlk hP hS ls hl
  obtain ⟨⟨hx, hb, hml, hown, hts⟩, hK, hDD, hA, hKC⟩ := id F
  have hl : lv_has ls 2 [(0, .ref (ad 0)), (1, .int x1)] := hl
  have hP : va_P (dC, dI) vwCl (wM cI cZ ad mb mo mn mg mf mt mz ml mi) s.heap := hP
  unfold M_X9_seenBy at hM
  refine lv_aload_n hx hb dX9_seenBy_0 rfl (lv_at hl 0 rfl) ?_
  refine lv_aload_n hx hb dX9_seenBy_1 rfl (lv_at hl 0 rfl) ?_
  refine g_get (ci := 9) (C := RX9) (T := TX9) (N := 32) (v := .ref (ad 2)) F hP 0 rfl rfl inX9_seenBy_X9 5 (by decide) (List.mem_of_getElem? (i := 1) rfl) rfl dX9_seenBy_2 ?_
  refine lv_iload_n hx hb dX9_seenBy_5 rfl (lv_at hl 1 rfl) ?_
  obtain ⟨hin, hM⟩ := if_ok hM
  refine va_iald hx hb hK hP 2 0 rfl rfl hin dX9_seenBy_6 ?_
  refine lv_aload_n hx hb dX9_seenBy_7 rfl (lv_at hl 0 rfl) ?_
  refine g_get (ci := 9) (C := RX9) (T := TX9) (N := 32) (v := .ref (ad 3)) F hP 0 rfl rfl inX9_seenBy_X9 6 (by decide) (List.mem_of_getElem? (i := 2) rfl) rfl dX9_seenBy_8 ?_
  refine lv_iload_n hx hb dX9_seenBy_11 rfl (lv_at hl 1 rfl) ?_
  obtain ⟨hin, hM⟩ := if_ok hM
  refine va_iald hx hb hK hP 3 0 rfl rfl hin dX9_seenBy_12 ?_
  obtain ⟨z13, hcr, hM⟩ := ob_s hM
  refine res_i0 F hP hS rfl [0, 1, 2, 3, 4, 5, 6, 7, 8, 9, 10, 11, 12] rfl rfl (runV_of (n := 2) (As := [.int (mb.2.2.2.2.2.2.2.1 x1.toNatClampNeg), .int (mb.2.2.2.2.2.2.2.2.1 x1.toNatClampNeg)]) (rest := []) F hP hS rfl [0, 1, 2, 3, 4, 5, 6, 7, 8, 9, 10, 11, 12] rfl rfl (c_X9_seenFrom l dC dI cI cC cZ sa ad mb mo mn mg mf mt mz ml mi (mb.2.2.2.2.2.2.2.1 x1.toNatClampNeg) (mb.2.2.2.2.2.2.2.2.1 x1.toNatClampNeg) hcr _) gX9_seenBy_X9_seenFrom rfl (by decide +kernel) ⟨Nat.le_of_ble_eq_true rfl, Nat.le_of_ble_eq_true rfl⟩ 0 9 rfl rfl rfl hl.1 rfl (Nat.le_of_ble_eq_true rfl) dX9_seenBy_13 ⟨Nat.zero_le _, Nat.zero_le _⟩) (fun H locs hP hS => ?_)
  exact ret_i hx hb hr hlk dX9_seenBy_16 (some_u hM) hP hS
