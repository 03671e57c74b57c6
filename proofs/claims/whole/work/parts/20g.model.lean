/-! Walks, printed by wip/whole/gen.py -/
set_option maxHeartbeats 4000000 in
set_option maxRecDepth 100000 in
theorem c_X9_ones (l : Launch) (dC : Nat → ClassId) (dI : Nat → Nat → Nat) (cI cC cZ : ClassId) (sa : Nat → Nat)  (x1 : Int32) {res : Int32} (hM : M_X9_ones x1 = some res) : CTi l (dC, dI) [(cI, .int), (cC, .char), (cZ, .boolean)] sa yX9_ones wsX9_ones (rmd 1) [.int x1] ([] : va_W) (fun (_ : Unit) => ([] : va_W)) (res, ()) := by
  refine CTi.enter (own := RX9) (cc := cX9_ones) (maxL := 3) (ret := (some .int)) (by decide) rfl rfl (Nat.le_of_ble_eq_true rfl) ?_
  intro pr e s m below meth c A F hr hlk hP hS ls hl
  obtain ⟨⟨hx, hb, hml, hown, hts⟩, hK, hDD, hA, hKC⟩ := id F
  have hl : lv_has ls 3 [(0, .int x1)] := hl
  have hP : va_P (dC, dI) vwCl ([] : va_W) s.heap := hP
  unfold M_X9_ones at hM
  refine kloop (α := Int32 × Int32) (res := res) (fun k a => M_X9_ones_4 x1 k a) (fun rec a => M_X9_ones_4b x1 rec a) (fun _ => rfl) (fun _ _ => rfl) F (fun a => ([] : va_W)) (fun a => [(1, .int a.1), (2, .int a.2)]) (fun a => []) 4 ?_ (fun j4 => ?_)
  · intro rc4 ih4 a4 H locs ls hP hS hl hM
    unfold M_X9_ones_4b at hM
    refine lv_iload_n hx hb dX9_ones_4 rfl (lv_at hl 1 rfl) ?_
    refine lv_if_eq (tgt := 20) hx hb dX9_ones_5 (by decide) (fun hc => ?_) (fun hc => ?_)
    · have hM := if_pp hc hM
      refine lv_iload_n hx hb dX9_ones_20 rfl (lv_at hl 0 rfl) ?_
      exact ret_i hx hb hr hlk dX9_ones_21 (some_u hM) hP hS
    · have hM := if_nn hc hM
      refine lv_iinc (v := (a4.1 + (1 : Int32))) (lv' := [(1, .int (a4.1 + (1 : Int32))), (2, .int a4.2)]) hx hb dX9_ones_8 hl (k := 0) rfl rfl (by decide) rfl (fun ls hl => ?_)
      refine lv_iload_n hx hb dX9_ones_11 rfl (lv_at hl 1 rfl) ?_
      refine lv_iload_n hx hb dX9_ones_12 rfl (lv_at hl 1 rfl) ?_
      refine lv_iconst (v := 1) hx hb dX9_ones_13 (by decide) ?_
      refine lv_isub hx hb dX9_ones_14 ?_
      refine lv_iand hx hb dX9_ones_15 ?_
      refine lv_istore_n (lv' := [(2, .int (a4.2 &&& (a4.2 - (1 : Int32)))), (1, .int (a4.1 + (1 : Int32)))]) hx hb dX9_ones_16 rfl hl (by decide) rfl (fun ls hl => ?_)
      refine lv_goto (tgt := 4) hx hb dX9_ones_17 (by decide) ?_
      exact ih4 ((a4.1 + (1 : Int32)), (a4.2 &&& (a4.2 - (1 : Int32)))) _ _ _ hP hS (lv_sub hl [1, 0] rfl) hM
  refine lv_iconst (v := 0) hx hb dX9_ones_0 (by decide) ?_
  refine lv_istore_n (lv' := [(1, .int (0 : Int32)), (0, .int x1)]) hx hb dX9_ones_1 rfl hl (by decide) rfl (fun ls hl => ?_)
  refine lv_iload_n hx hb dX9_ones_2 rfl (lv_at hl 1 rfl) ?_
  refine lv_istore_n (lv' := [(2, .int x1), (1, .int (0 : Int32)), (0, .int x1)]) hx hb dX9_ones_3 rfl hl (by decide) rfl (fun ls hl => ?_)
  exact j4 200 ((0 : Int32), x1) _ _ _ hP hS (lv_sub hl [1, 0] rfl) hM
theorem inX9_flour_X9 : ∀ w ∈ wsX90, w ∈ wsX9_flour := fun w h => List.mem_cons_of_mem _ (List.mem_append_right _ h)
set_option maxHeartbeats 4000000 in
set_option maxRecDepth 100000 in
theorem c_X9_flour (l : Launch) (dC : Nat → ClassId) (dI : Nat → Nat → Nat) (cI cC cZ : ClassId) (sa : Nat → Nat) (ad : Nat → Nat) (mb : BT) (mo : OT) (mn : NT) (mg : GT) (mf : AR) (mt : TT) (mz : AR) (ml : LT) (mi : IT) (x1 : Int32) {res : Int32 × AR} (hM : M_X9_flour mb mf x1 = some res) : CTi l (dC, dI) [(cI, .int), (cC, .char), (cZ, .boolean)] sa yX9_flour wsX9_flour (rmd 4) [.ref (ad 0), .int x1] (wM cI cZ ad mb mo mn mg mf mt mz ml mi) (fun (uu : AR) => (wM cI cZ ad mb mo mn mg uu mt mz ml mi)) res := by
  refine CTi.enter (own := RX9) (cc := cX9_flour) (maxL := 6) (ret := (some .int)) (by decide) rfl rfl (Nat.le_of_ble_eq_true rfl) ?_
  intro pr e s m below meth c A F hr hlk hP hS ls hl
  obtain ⟨⟨hx, hb, hml, hown, hts⟩, hK, hDD, hA, hKC⟩ := id F
  have hl : lv_has ls 6 [(0, .ref (ad 0)), (1, .int x1)] := hl
  have hP : va_P (dC, dI) vwCl (wM cI cZ ad mb mo mn mg mf mt mz ml mi) s.heap := hP
  unfold M_X9_flour at hM
  refine kloop (α := AR × Int32 × Int32 × Int32 × Int32) (res := res) (fun k a => M_X9_flour_70 mb x1 k a) (fun rec a => M_X9_flour_70b mb x1 rec a) (fun _ => rfl) (fun _ _ => rfl) F (fun a => (wM cI cZ ad mb mo mn mg a.1 mt mz ml mi)) (fun a => [(0, .ref (ad 0)), (1, .int x1), (2, .int a.2.1), (3, .int a.2.2.1), (4, .int a.2.2.2.1), (5, .int a.2.2.2.2)]) (fun a => []) 70 ?_ (fun j70 => ?_)
  · intro rc70 ih70 a70 H locs ls hP hS hl hM
    unfold M_X9_flour_70b at hM
    refine kblk (α := AR × Int32 × Int32 × Int32 × Int32) (res := res) (fun a => M_X9_flour_141 mb x1 rc70 a) F (fun a => (wM cI cZ ad mb mo mn mg a.1 mt mz ml mi)) (fun a => [(0, .ref (ad 0)), (1, .int x1), (2, .int a.2.1), (3, .int a.2.2.1), (4, .int a.2.2.2.1), (5, .int a.2.2.2.2)]) (fun a => []) 141 ?_ (fun j141 => ?_)
    · intro a141 H locs ls hP hS hl hM
      unfold M_X9_flour_141 at hM
      refine lv_iinc (v := (a141.2.2.2.2 + (1 : Int32))) (lv' := [(5, .int (a141.2.2.2.2 + (1 : Int32))), (0, .ref (ad 0)), (1, .int x1), (2, .int a141.2.1), (3, .int a141.2.2.1), (4, .int a141.2.2.2.1)]) hx hb dX9_flour_141 hl (k := 5) rfl rfl (by decide) rfl (fun ls hl => ?_)
      refine lv_goto (tgt := 70) hx hb dX9_flour_144 (by decide) ?_
      exact ih70 (a141.1, a141.2.1, a141.2.2.1, a141.2.2.2.1, (a141.2.2.2.2 + (1 : Int32))) _ _ _ hP hS (lv_sub hl [1, 2, 3, 4, 5, 0] rfl) hM
    refine kblk (α := AR × Int32 × Int32 × Int32 × Int32) (res := res) (fun a => M_X9_flour_139 mb x1 rc70 a) F (fun a => (wM cI cZ ad mb mo mn mg a.1 mt mz ml mi)) (fun a => [(0, .ref (ad 0)), (1, .int x1), (2, .int a.2.1), (3, .int a.2.2.1), (5, .int a.2.2.2.1)]) (fun a => [.int a.2.2.2.2]) 139 ?_ (fun j139 => ?_)
    · intro a139 H locs ls hP hS hl hM
      unfold M_X9_flour_139 at hM
      refine lv_istore (lv' := [(4, .int a139.2.2.2.2), (0, .ref (ad 0)), (1, .int x1), (2, .int a139.2.1), (3, .int a139.2.2.1), (5, .int a139.2.2.2.1)]) hx hb dX9_flour_139 hl (by decide) rfl (fun ls hl => ?_)
      exact j141 (a139.1, a139.2.1, a139.2.2.1, a139.2.2.2.2, a139.2.2.2.1) _ _ _ hP hS (lv_sub hl [1, 2, 3, 4, 0, 5] rfl) hM
    refine kblk (α := AR × Int32 × Int32 × Int32 × Int32) (res := res) (fun a => M_X9_flour_103 mb x1 rc70 a) F (fun a => (wM cI cZ ad mb mo mn mg a.1 mt mz ml mi)) (fun a => [(0, .ref (ad 0)), (1, .int x1), (2, .int a.2.1), (3, .int a.2.2.1), (4, .int a.2.2.2.1), (5, .int a.2.2.2.2)]) (fun a => []) 103 ?_ (fun j103 => ?_)
    · intro a103 H locs ls hP hS hl hM
      unfold M_X9_flour_103 at hM
      refine lv_aload_n hx hb dX9_flour_103 rfl (lv_at hl 0 rfl) ?_
      refine lv_aload_n hx hb dX9_flour_104 rfl (lv_at hl 0 rfl) ?_
      refine g_get (ci := 9) (C := RX9) (T := TX9) (N := 32) (v := .int mb.2.2.2.1) F hP 0 rfl rfl inX9_flour_X9 4 (by decide) (List.mem_of_getElem? (i := 1) rfl) rfl dX9_flour_105 ?_
      refine lv_iload_n hx hb dX9_flour_108 rfl (lv_at hl 2 rfl) ?_
      refine lv_iload hx hb dX9_flour_109 (lv_at hl 5 rfl) ?_
      refine lv_iconst (v := -1) hx hb dX9_flour_111 (by decide) ?_
      refine lv_ixor hx hb dX9_flour_112 ?_
      refine lv_iand hx hb dX9_flour_113 ?_
      obtain ⟨z114, hcr, hM⟩ := ob_s hM
      refine res_v (ws' := (wM cI cZ ad mb mo mn mg z114 mt mz ml mi)) F hP hS rfl [0, 1, 2, 3, 4, 5, 6, 7, 8, 9, 10, 11, 12] rfl rfl (runV_of (n := 2) (As := [.int mb.2.2.2.1, .int (a103.2.1 &&& (a103.2.2.2.2 ^^^ (-1 : Int32)))]) (rest := []) F hP hS rfl [0, 1, 2, 3, 4, 5, 6, 7, 8, 9, 10, 11, 12] rfl rfl (c_X9_findFar l dC dI cI cC cZ sa ad mb mo mn mg a103.1 mt mz ml mi mb.2.2.2.1 (a103.2.1 &&& (a103.2.2.2.2 ^^^ (-1 : Int32))) hcr _) gX9_flour_X9_findFar rfl (by decide +kernel) ⟨Nat.le_of_ble_eq_true rfl, Nat.le_of_ble_eq_true rfl⟩ 0 9 rfl rfl rfl hl.1 rfl (Nat.le_of_ble_eq_true rfl) dX9_flour_114 ⟨Nat.zero_le _, Nat.zero_le _⟩) rep_full (fun H locs hP hS => ?_)
      refine lv_aload_n hx hb dX9_flour_117 rfl (lv_at hl 0 rfl) ?_
      refine g_get (ci := 9) (C := RX9) (T := TX9) (N := 32) (v := .ref (ad 6)) F hP 0 rfl rfl inX9_flour_X9 22 (by decide) (List.mem_of_getElem? (i := 2) rfl) rfl dX9_flour_118 ?_
      refine lv_aload_n hx hb dX9_flour_121 rfl (lv_at hl 0 rfl) ?_
      refine g_get (ci := 9) (C := RX9) (T := TX9) (N := 32) (v := .int mb.2.2.1) F hP 0 rfl rfl inX9_flour_X9 3 (by decide) (List.mem_of_getElem? (i := 3) rfl) rfl dX9_flour_122 ?_
      obtain ⟨hin, hM⟩ := if_ok hM
      refine va_iald hx hb hK hP 6 0 rfl rfl hin dX9_flour_125 ?_
      refine lv_sipush (v := 1000) hx hb dX9_flour_126 (by decide) ?_
      refine lv_icmp_ne (tgt := 137) hx hb dX9_flour_129 (by decide) (fun hc => ?_) (fun hc => ?_)
      · have hM := if_nn hc hM
        refine lv_iload hx hb dX9_flour_137 (lv_at hl 4 rfl) ?_
        exact j139 (z114, a103.2.1, a103.2.2.1, a103.2.2.2.2, a103.2.2.2.1) _ _ _ hP hS (lv_sub hl [0, 1, 2, 3, 5] rfl) hM
      · have hM := if_pp hc hM
        refine lv_iload hx hb dX9_flour_132 (lv_at hl 5 rfl) ?_
        refine lv_goto (tgt := 139) hx hb dX9_flour_134 (by decide) ?_
        exact j139 (z114, a103.2.1, a103.2.2.1, a103.2.2.2.2, a103.2.2.2.2) _ _ _ hP hS (lv_sub hl [0, 1, 2, 3, 5] rfl) hM
    refine lv_iload hx hb dX9_flour_70 (lv_at hl 5 rfl) ?_
    refine lv_iload_n hx hb dX9_flour_72 rfl (lv_at hl 3 rfl) ?_
    refine lv_icmp_gt (tgt := 147) hx hb dX9_flour_73 (by decide) (fun hc => ?_) (fun hc => ?_)
    · have hM := if_pp hc hM
      refine lv_iload_n hx hb dX9_flour_147 rfl (lv_at hl 1 rfl) ?_
      refine lv_if_ne (tgt := 159) hx hb dX9_flour_148 (by decide) (fun hc => ?_) (fun hc => ?_)
      · have hM := if_nn hc hM
        refine lv_iload hx hb dX9_flour_159 (lv_at hl 4 rfl) ?_
        exact ret_i hx hb hr hlk dX9_flour_161 hM hP hS
      · have hM := if_pp hc hM
        refine lv_iload hx hb dX9_flour_151 (lv_at hl 4 rfl) ?_
        obtain ⟨z153, hcr, hM⟩ := ob_s hM
        refine res_i0 F hP hS rfl [] rfl rfl (runS_of (n := 1) (As := [.int a70.2.2.2.1]) (rest := []) F hP hS rfl [] rfl rfl (c_X9_ones l dC dI cI cC cZ sa a70.2.2.2.1 hcr _) gX9_flour_X9_ones rfl (by decide +kernel) ⟨Nat.le_of_ble_eq_true rfl, Nat.le_of_ble_eq_true rfl⟩ rfl hl.1 rfl (Nat.le_of_ble_eq_true rfl) dX9_flour_153 ⟨Nat.zero_le _, Nat.zero_le _⟩) (fun H locs hP hS => ?_)
        refine lv_goto (tgt := 161) hx hb dX9_flour_156 (by decide) ?_
        exact ret_i hx hb hr hlk dX9_flour_161 hM hP hS
    · have hM := if_nn hc hM
      refine lv_iload hx hb dX9_flour_76 (lv_at hl 5 rfl) ?_
      refine lv_iload_n hx hb dX9_flour_78 rfl (lv_at hl 3 rfl) ?_
      refine lv_iconst (v := -1) hx hb dX9_flour_79 (by decide) ?_
      refine lv_ixor hx hb dX9_flour_80 ?_
      refine lv_iand hx hb dX9_flour_81 ?_
      refine lv_if_ne (tgt := 141) hx hb dX9_flour_82 (by decide) (fun hc => ?_) (fun hc => ?_)
      · have hM := if_nn hc hM
        exact j141 (a70.1, a70.2.1, a70.2.2.1, a70.2.2.2.1, a70.2.2.2.2) _ _ _ hP hS (lv_sub hl [0, 1, 2, 3, 4, 5] rfl) hM
      · have hM := if_pp hc hM
        refine lv_iload hx hb dX9_flour_85 (lv_at hl 4 rfl) ?_
        refine lv_if_lt (tgt := 103) hx hb dX9_flour_87 (by decide) (fun hc => ?_) (fun hc => ?_)
        · have hM := if_pp hc hM
          exact j103 (a70.1, a70.2.1, a70.2.2.1, a70.2.2.2.1, a70.2.2.2.2) _ _ _ hP hS (lv_sub hl [0, 1, 2, 3, 4, 5] rfl) hM
        · have hM := if_nn hc hM
          refine lv_iload hx hb dX9_flour_90 (lv_at hl 5 rfl) ?_
          obtain ⟨z92, hcr, hM⟩ := ob_s hM
          refine res_i0 F hP hS rfl [] rfl rfl (runS_of (n := 1) (As := [.int a70.2.2.2.2]) (rest := []) F hP hS rfl [] rfl rfl (c_X9_ones l dC dI cI cC cZ sa a70.2.2.2.2 hcr _) gX9_flour_X9_ones rfl (by decide +kernel) ⟨Nat.le_of_ble_eq_true rfl, Nat.le_of_ble_eq_true rfl⟩ rfl hl.1 rfl (Nat.le_of_ble_eq_true rfl) dX9_flour_92 ⟨Nat.zero_le _, Nat.zero_le _⟩) (fun H locs hP hS => ?_)
          refine lv_iload hx hb dX9_flour_95 (lv_at hl 4 rfl) ?_
          obtain ⟨z97, hcr, hM⟩ := ob_s hM
          refine res_i0 F hP hS rfl [] rfl rfl (runS_of (n := 1) (As := [.int a70.2.2.2.1]) (rest := [.int z92]) F hP hS rfl [] rfl rfl (c_X9_ones l dC dI cI cC cZ sa a70.2.2.2.1 hcr _) gX9_flour_X9_ones rfl (by decide +kernel) ⟨Nat.le_of_ble_eq_true rfl, Nat.le_of_ble_eq_true rfl⟩ rfl hl.1 rfl (Nat.le_of_ble_eq_true rfl) dX9_flour_97 ⟨Nat.zero_le _, Nat.zero_le _⟩) (fun H locs hP hS => ?_)
          refine lv_icmp_ge (tgt := 141) hx hb dX9_flour_100 (by decide) (fun hc => ?_) (fun hc => ?_)
          · have hM := if_pp hc hM
            exact j141 (a70.1, a70.2.1, a70.2.2.1, a70.2.2.2.1, a70.2.2.2.2) _ _ _ hP hS (lv_sub hl [0, 1, 2, 3, 4, 5] rfl) hM
          · have hM := if_nn hc hM
            exact j103 (a70.1, a70.2.1, a70.2.2.1, a70.2.2.2.1, a70.2.2.2.2) _ _ _ hP hS (lv_sub hl [0, 1, 2, 3, 4, 5] rfl) hM
  refine lv_iload_n hx hb dX9_flour_0 rfl (lv_at hl 1 rfl) ?_
  refine lv_i2l (v := x1.toInt64) hx hb dX9_flour_1 rfl ?_
  refine lv_lconst (v := 0) hx hb dX9_flour_2 (by decide) ?_
  refine lv_lconst (v := 1) hx hb dX9_flour_3 (by decide) ?_
  obtain ⟨z4, hcr, hM⟩ := ob_s hM
  refine res_i0 F hP hS rfl [] rfl rfl (runS_of (n := 3) (As := [.long x1.toInt64, .long (0 : Int64), .long (1 : Int64)]) (rest := []) F hP hS rfl [] rfl rfl (c_X9_in l dC dI cI cC cZ sa x1.toInt64 (0 : Int64) (1 : Int64) hcr _) gX9_flour_X9_in rfl (by decide +kernel) ⟨Nat.le_of_ble_eq_true rfl, Nat.le_of_ble_eq_true rfl⟩ rfl hl.1 rfl (Nat.le_of_ble_eq_true rfl) dX9_flour_4 ⟨Nat.zero_le _, Nat.zero_le _⟩) (fun H locs hP hS => ?_)
  refine lv_if_ne (tgt := 13) hx hb dX9_flour_7 (by decide) (fun hc => ?_) (fun hc => ?_)
  · have hM := if_nn hc hM
    refine lv_aload_n hx hb dX9_flour_13 rfl (lv_at hl 0 rfl) ?_
    obtain ⟨z14, hcr, hM⟩ := ob_s hM
    refine res_i0 F hP hS rfl [0, 1, 2, 3, 4, 5, 6, 7, 8, 9, 10, 11, 12] rfl rfl (runV_of (n := 0) (As := []) (rest := []) F hP hS rfl [0, 1, 2, 3, 4, 5, 6, 7, 8, 9, 10, 11, 12] rfl rfl (c_X9_floor l dC dI cI cC cZ sa ad mb mo mn mg mf mt mz ml mi hcr _) gX9_flour_X9_floor rfl (by decide +kernel) ⟨Nat.le_of_ble_eq_true rfl, Nat.le_of_ble_eq_true rfl⟩ 0 9 rfl rfl rfl hl.1 rfl (Nat.le_of_ble_eq_true rfl) dX9_flour_14 ⟨Nat.zero_le _, Nat.zero_le _⟩) (fun H locs hP hS => ?_)
    refine lv_istore_n (lv' := [(2, .int z14), (0, .ref (ad 0)), (1, .int x1)]) hx hb dX9_flour_17 rfl hl (by decide) rfl (fun ls hl => ?_)
    refine lv_aload_n hx hb dX9_flour_18 rfl (lv_at hl 1 rfl) ?_
    refine lv_aload_n hx hb dX9_flour_19 rfl (lv_at hl 1 rfl) ?_
    refine g_get (ci := 9) (C := RX9) (T := TX9) (N := 32) (v := .int mb.2.2.2.1) F hP 0 rfl rfl inX9_flour_X9 4 (by decide) (List.mem_of_getElem? (i := 1) rfl) rfl dX9_flour_20 ?_
    refine lv_iload_n hx hb dX9_flour_23 rfl (lv_at hl 0 rfl) ?_
    obtain ⟨z24, hcr, hM⟩ := ob_s hM
    refine res_v (ws' := (wM cI cZ ad mb mo mn mg z24 mt mz ml mi)) F hP hS rfl [0, 1, 2, 3, 4, 5, 6, 7, 8, 9, 10, 11, 12] rfl rfl (runV_of (n := 2) (As := [.int mb.2.2.2.1, .int z14]) (rest := []) F hP hS rfl [0, 1, 2, 3, 4, 5, 6, 7, 8, 9, 10, 11, 12] rfl rfl (c_X9_findFar l dC dI cI cC cZ sa ad mb mo mn mg mf mt mz ml mi mb.2.2.2.1 z14 hcr _) gX9_flour_X9_findFar rfl (by decide +kernel) ⟨Nat.le_of_ble_eq_true rfl, Nat.le_of_ble_eq_true rfl⟩ 0 9 rfl rfl rfl hl.1 rfl (Nat.le_of_ble_eq_true rfl) dX9_flour_24 ⟨Nat.zero_le _, Nat.zero_le _⟩) rep_full (fun H locs hP hS => ?_)
    refine lv_aload_n hx hb dX9_flour_27 rfl (lv_at hl 1 rfl) ?_
    refine g_get (ci := 9) (C := RX9) (T := TX9) (N := 32) (v := .ref (ad 6)) F hP 0 rfl rfl inX9_flour_X9 22 (by decide) (List.mem_of_getElem? (i := 2) rfl) rfl dX9_flour_28 ?_
    refine lv_aload_n hx hb dX9_flour_31 rfl (lv_at hl 1 rfl) ?_
    refine g_get (ci := 9) (C := RX9) (T := TX9) (N := 32) (v := .int mb.2.2.1) F hP 0 rfl rfl inX9_flour_X9 3 (by decide) (List.mem_of_getElem? (i := 3) rfl) rfl dX9_flour_32 ?_
    obtain ⟨hin, hM⟩ := if_ok hM
    refine va_iald hx hb hK hP 6 0 rfl rfl hin dX9_flour_35 ?_
    refine lv_iconst (v := 2) hx hb dX9_flour_36 (by decide) ?_
    refine lv_icmp_ge (tgt := 43) hx hb dX9_flour_37 (by decide) (fun hc => ?_) (fun hc => ?_)
    · have hM := if_pp hc hM
      refine lv_iload_n hx hb dX9_flour_43 rfl (lv_at hl 0 rfl) ?_
      refine lv_iconst (v := 1) hx hb dX9_flour_44 (by decide) ?_
      refine lv_aload_n hx hb dX9_flour_45 rfl (lv_at hl 1 rfl) ?_
      refine g_get (ci := 9) (C := RX9) (T := TX9) (N := 32) (v := .int mb.2.2.1) F hP 0 rfl rfl inX9_flour_X9 3 (by decide) (List.mem_of_getElem? (i := 3) rfl) rfl dX9_flour_46 ?_
      refine lv_ishl hx hb dX9_flour_49 ?_
      refine lv_iconst (v := -1) hx hb dX9_flour_50 (by decide) ?_
      refine lv_ixor hx hb dX9_flour_51 ?_
      refine lv_iand hx hb dX9_flour_52 ?_
      refine lv_iconst (v := 1) hx hb dX9_flour_53 (by decide) ?_
      refine lv_aload_n hx hb dX9_flour_54 rfl (lv_at hl 1 rfl) ?_
      refine g_get (ci := 9) (C := RX9) (T := TX9) (N := 32) (v := .int mb.2.2.2.1) F hP 0 rfl rfl inX9_flour_X9 4 (by decide) (List.mem_of_getElem? (i := 1) rfl) rfl dX9_flour_55 ?_
      refine lv_ishl hx hb dX9_flour_58 ?_
      refine lv_iconst (v := -1) hx hb dX9_flour_59 (by decide) ?_
      refine lv_ixor hx hb dX9_flour_60 ?_
      refine lv_iand hx hb dX9_flour_61 ?_
      refine lv_istore_n (lv' := [(3, .int ((z14 &&& (((1 : Int32) <<< (mb.2.2.1 &&& 31)) ^^^ (-1 : Int32))) &&& (((1 : Int32) <<< (mb.2.2.2.1 &&& 31)) ^^^ (-1 : Int32)))), (2, .int z14), (0, .ref (ad 0)), (1, .int x1)]) hx hb dX9_flour_62 rfl hl (by decide) rfl (fun ls hl => ?_)
      refine lv_bipush (v := -6) hx hb dX9_flour_63 (by decide) ?_
      refine lv_istore (lv' := [(4, .int (-6 : Int32)), (3, .int ((z14 &&& (((1 : Int32) <<< (mb.2.2.1 &&& 31)) ^^^ (-1 : Int32))) &&& (((1 : Int32) <<< (mb.2.2.2.1 &&& 31)) ^^^ (-1 : Int32)))), (2, .int z14), (0, .ref (ad 0)), (1, .int x1)]) hx hb dX9_flour_65 hl (by decide) rfl (fun ls hl => ?_)
      refine lv_iconst (v := 0) hx hb dX9_flour_67 (by decide) ?_
      refine lv_istore (lv' := [(5, .int (0 : Int32)), (4, .int (-6 : Int32)), (3, .int ((z14 &&& (((1 : Int32) <<< (mb.2.2.1 &&& 31)) ^^^ (-1 : Int32))) &&& (((1 : Int32) <<< (mb.2.2.2.1 &&& 31)) ^^^ (-1 : Int32)))), (2, .int z14), (0, .ref (ad 0)), (1, .int x1)]) hx hb dX9_flour_68 hl (by decide) rfl (fun ls hl => ?_)
      exact j70 70000 (z24, z14, ((z14 &&& (((1 : Int32) <<< (mb.2.2.1 &&& 31)) ^^^ (-1 : Int32))) &&& (((1 : Int32) <<< (mb.2.2.2.1 &&& 31)) ^^^ (-1 : Int32))), (-6 : Int32), (0 : Int32)) _ _ _ hP hS (lv_sub hl [4, 5, 3, 2, 1, 0] rfl) hM
    · have hM := if_nn hc hM
      refine lv_bipush (v := -6) hx hb dX9_flour_40 (by decide) ?_
      exact ret_i hx hb hr hlk dX9_flour_42 hM hP hS
  · have hM := if_pp hc hM
    refine lv_bipush (v := -2) hx hb dX9_flour_10 (by decide) ?_
    exact ret_i hx hb hr hlk dX9_flour_12 hM hP hS
set_option maxHeartbeats 4000000 in
set_option maxRecDepth 100000 in
theorem c_X9_wayOf (l : Launch) (dC : Nat → ClassId) (dI : Nat → Nat → Nat) (cI cC cZ : ClassId) (sa : Nat → Nat)  (x1 : Int32) {res : Int32} (hM : M_X9_wayOf x1 = some res) : CTi l (dC, dI) [(cI, .int), (cC, .char), (cZ, .boolean)] sa yX9_wayOf wsX9_wayOf (rmd 1) [.int x1] ([] : va_W) (fun (_ : Unit) => ([] : va_W)) (res, ()) := by
  refine CTi.enter (own := RX9) (cc := cX9_wayOf) (maxL := 1) (ret := (some .int)) (by decide) rfl rfl (Nat.le_of_ble_eq_true rfl) ?_
  intro pr e s m below meth c A F hr hlk hP hS ls hl
  obtain ⟨⟨hx, hb, hml, hown, hts⟩, hK, hDD, hA, hKC⟩ := id F
  have hl : lv_has ls 1 [(0, .int x1)] := hl
  have hP : va_P (dC, dI) vwCl ([] : va_W) s.heap := hP
  unfold M_X9_wayOf at hM
  refine lv_iload_n hx hb dX9_wayOf_0 rfl (lv_at hl 0 rfl) ?_
  refine lv_bipush (v := 110) hx hb dX9_wayOf_1 (by decide) ?_
  refine lv_icmp_ne (tgt := 10) hx hb dX9_wayOf_3 (by decide) (fun hc => ?_) (fun hc => ?_)
  · have hM := if_nn hc hM
    refine lv_iload_n hx hb dX9_wayOf_10 rfl (lv_at hl 0 rfl) ?_
    refine lv_bipush (v := 101) hx hb dX9_wayOf_11 (by decide) ?_
    refine lv_icmp_ne (tgt := 20) hx hb dX9_wayOf_13 (by decide) (fun hc => ?_) (fun hc => ?_)
    · have hM := if_nn hc hM
      refine lv_iload_n hx hb dX9_wayOf_20 rfl (lv_at hl 0 rfl) ?_
      refine lv_bipush (v := 115) hx hb dX9_wayOf_21 (by decide) ?_
      refine lv_icmp_ne (tgt := 30) hx hb dX9_wayOf_23 (by decide) (fun hc => ?_) (fun hc => ?_)
      · have hM := if_nn hc hM
        refine lv_iload_n hx hb dX9_wayOf_30 rfl (lv_at hl 0 rfl) ?_
        refine lv_bipush (v := 119) hx hb dX9_wayOf_31 (by decide) ?_
        refine lv_icmp_ne (tgt := 40) hx hb dX9_wayOf_33 (by decide) (fun hc => ?_) (fun hc => ?_)
        · have hM := if_nn hc hM
          refine lv_iconst (v := 4) hx hb dX9_wayOf_40 (by decide) ?_
          exact ret_i hx hb hr hlk dX9_wayOf_41 (some_u hM) hP hS
        · have hM := if_pp hc hM
          refine lv_iconst (v := 3) hx hb dX9_wayOf_36 (by decide) ?_
          refine lv_goto (tgt := 41) hx hb dX9_wayOf_37 (by decide) ?_
          exact ret_i hx hb hr hlk dX9_wayOf_41 (some_u hM) hP hS
      · have hM := if_pp hc hM
        refine lv_iconst (v := 2) hx hb dX9_wayOf_26 (by decide) ?_
        refine lv_goto (tgt := 41) hx hb dX9_wayOf_27 (by decide) ?_
        exact ret_i hx hb hr hlk dX9_wayOf_41 (some_u hM) hP hS
    · have hM := if_pp hc hM
      refine lv_iconst (v := 1) hx hb dX9_wayOf_16 (by decide) ?_
      refine lv_goto (tgt := 41) hx hb dX9_wayOf_17 (by decide) ?_
      exact ret_i hx hb hr hlk dX9_wayOf_41 (some_u hM) hP hS
  · have hM := if_pp hc hM
    refine lv_iconst (v := 0) hx hb dX9_wayOf_6 (by decide) ?_
    refine lv_goto (tgt := 41) hx hb dX9_wayOf_7 (by decide) ?_
    exact ret_i hx hb hr hlk dX9_wayOf_41 (some_u hM) hP hS
theorem inX9_step_X9 : ∀ w ∈ wsX90, w ∈ wsX9_step := fun w h => List.mem_cons_of_mem _ (List.mem_append_right _ h)
set_option maxHeartbeats 4000000 in
set_option maxRecDepth 100000 in
theorem c_X9_step (l : Launch) (dC : Nat → ClassId) (dI : Nat → Nat → Nat) (cI cC cZ : ClassId) (sa : Nat → Nat) (ad : Nat → Nat) (mb : BT) (mo : OT) (mn : NT) (mg : GT) (mf : AR) (mt : TT) (mz : AR) (ml : LT) (mi : IT) (x1 : Int32) {res : Int32 × NT} (hM : M_X9_step mb mn x1 = some res) : CTi l (dC, dI) [(cI, .int), (cC, .char), (cZ, .boolean)] sa yX9_step wsX9_step (rmd 3) [.ref (ad 0), .int x1] (wM cI cZ ad mb mo mn mg mf mt mz ml mi) (fun (uu : NT) => (wM cI cZ ad mb mo uu mg mf mt mz ml mi)) res := by
  refine CTi.enter (own := RX9) (cc := cX9_step) (maxL := 3) (ret := (some .boolean)) (by decide) rfl rfl (Nat.le_of_ble_eq_true rfl) ?_
  intro pr e s m below meth c A F hr hlk hP hS ls hl
  obtain ⟨⟨hx, hb, hml, hown, hts⟩, hK, hDD, hA, hKC⟩ := id F
  have hl : lv_has ls 3 [(0, .ref (ad 0)), (1, .int x1)] := hl
  have hP : va_P (dC, dI) vwCl (wM cI cZ ad mb mo mn mg mf mt mz ml mi) s.heap := hP
  unfold M_X9_step at hM
  refine kblk (α := NT × Int32) (res := res) (fun a => M_X9_step_49 mb x1 a) F (fun a => (wM cI cZ ad mb mo a.1 mg mf mt mz ml mi)) (fun a => [(0, .ref (ad 0)), (2, .int a.2)]) (fun a => []) 49 ?_ (fun j49 => ?_)
  · intro a49 H locs ls hP hS hl hM
    unfold M_X9_step_49 at hM
    refine lv_iload_n hx hb dX9_step_49 rfl (lv_at hl 1 rfl) ?_
    refine lv_if_lt (tgt := 57) hx hb dX9_step_50 (by decide) (fun hc => ?_) (fun hc => ?_)
    · have hM := if_pp hc hM
      refine lv_iconst (v := 0) hx hb dX9_step_57 (by decide) ?_
      exact ret_z hx hb hr hlk dX9_step_58 (by decide) hM hP hS
    · have hM := if_nn hc hM
      refine lv_iconst (v := 1) hx hb dX9_step_53 (by decide) ?_
      refine lv_goto (tgt := 58) hx hb dX9_step_54 (by decide) ?_
      exact ret_z hx hb hr hlk dX9_step_58 (by decide) hM hP hS
  refine kblk (α := NT × Int32 × Int32) (res := res) (fun a => M_X9_step_37 mb x1 a) F (fun a => (wM cI cZ ad mb mo a.1 mg mf mt mz ml mi)) (fun a => [(0, .ref (ad 0)), (2, .int a.2.1)]) (fun a => [.int a.2.2, .ref (ad 0)]) 37 ?_ (fun j37 => ?_)
  · intro a37 H locs ls hP hS hl hM
    unfold M_X9_step_37 at hM
    obtain ⟨hnz, hM⟩ := if_ok hM
    refine g_put (ws' := (wM cI cZ ad mb mo (a37.1.1, a37.2.2, a37.1.2.2.1, a37.1.2.2.2) mg mf mt mz ml mi)) (ci := 9) (C := RX9) (T := TX9) (N := 32) (v := .int a37.2.2) (ty := .boolean) F hP hS rfl tyX9 tyX9_ok nmX9 0 rfl rfl inX9_step_X9 13 (by decide) (List.mem_of_getElem? (i := 2) rfl) rfl (by decide +kernel) (nar_z hnz) (fit_z hnz) (Nat.le_of_ble_eq_true rfl) dX9_step_37 rfl (fun H locs hP hS => ?_)
    refine lv_iload_n hx hb dX9_step_40 rfl (lv_at hl 1 rfl) ?_
    refine lv_if_lt (tgt := 49) hx hb dX9_step_41 (by decide) (fun hc => ?_) (fun hc => ?_)
    · have hM := if_pp hc hM
      exact j49 ((a37.1.1, a37.2.2, a37.1.2.2.1, a37.1.2.2.2), a37.2.1) _ _ _ hP hS (lv_sub hl [0, 1] rfl) hM
    · have hM := if_nn hc hM
      refine lv_aload_n hx hb dX9_step_44 rfl (lv_at hl 0 rfl) ?_
      refine lv_iload_n hx hb dX9_step_45 rfl (lv_at hl 1 rfl) ?_
      obtain ⟨z46, hcr, hM⟩ := ob_s hM
      refine res_v (ws' := (wM cI cZ ad mb mo z46 mg mf mt mz ml mi)) F hP hS rfl [0, 1, 2, 3, 4, 5, 6, 7, 8, 9, 10, 11, 12] rfl rfl (runV_of (n := 1) (As := [.int a37.2.1]) (rest := []) F hP hS rfl [0, 1, 2, 3, 4, 5, 6, 7, 8, 9, 10, 11, 12] rfl rfl (c_X9_arrive l dC dI cI cC cZ sa ad mb mo (a37.1.1, a37.2.2, a37.1.2.2.1, a37.1.2.2.2) mg mf mt mz ml mi a37.2.1 hcr _) gX9_step_X9_arrive rfl (by decide +kernel) ⟨Nat.le_of_ble_eq_true rfl, Nat.le_of_ble_eq_true rfl⟩ 0 9 rfl rfl rfl hl.1 rfl (Nat.le_of_ble_eq_true rfl) dX9_step_46 ⟨Nat.zero_le _, Nat.zero_le _⟩) rep_full (fun H locs hP hS => ?_)
      exact j49 (z46, a37.2.1) _ _ _ hP hS (lv_sub hl [0, 1] rfl) hM
  refine kblk (α := NT × Int32) (res := res) (fun a => M_X9_step_36 mb x1 a) F (fun a => (wM cI cZ ad mb mo a.1 mg mf mt mz ml mi)) (fun a => [(0, .ref (ad 0)), (2, .int a.2)]) (fun a => [.ref (ad 0)]) 36 ?_ (fun j36 => ?_)
  · intro a36 H locs ls hP hS hl hM
    unfold M_X9_step_36 at hM
    refine lv_iconst (v := 0) hx hb dX9_step_36 (by decide) ?_
    exact j37 (a36.1, a36.2, (0 : Int32)) _ _ _ hP hS (lv_sub hl [0, 1] rfl) hM
  refine kblk (α := NT × Int32) (res := res) (fun a => M_X9_step_21 mb x1 a) F (fun a => (wM cI cZ ad mb mo a.1 mg mf mt mz ml mi)) (fun a => [(0, .ref (ad 0)), (1, .int x1)]) (fun a => [.int a.2]) 21 ?_ (fun j21 => ?_)
  · intro a21 H locs ls hP hS hl hM
    unfold M_X9_step_21 at hM
    refine lv_istore_n (lv' := [(2, .int a21.2), (0, .ref (ad 0)), (1, .int x1)]) hx hb dX9_step_21 rfl hl (by decide) rfl (fun ls hl => ?_)
    refine lv_aload_n hx hb dX9_step_22 rfl (lv_at hl 1 rfl) ?_
    refine lv_iload_n hx hb dX9_step_23 rfl (lv_at hl 2 rfl) ?_
    refine lv_iconst (v := 4) hx hb dX9_step_24 (by decide) ?_
    refine lv_icmp_ge (tgt := 36) hx hb dX9_step_25 (by decide) (fun hc => ?_) (fun hc => ?_)
    · have hM := if_pp hc hM
      exact j36 (a21.1, a21.2) _ _ _ hP hS (lv_sub hl [1, 0] rfl) hM
    · have hM := if_nn hc hM
      refine lv_iload_n hx hb dX9_step_28 rfl (lv_at hl 0 rfl) ?_
      refine lv_if_lt (tgt := 36) hx hb dX9_step_29 (by decide) (fun hc => ?_) (fun hc => ?_)
      · have hM := if_pp hc hM
        exact j36 (a21.1, a21.2) _ _ _ hP hS (lv_sub hl [1, 0] rfl) hM
      · have hM := if_nn hc hM
        refine lv_iconst (v := 1) hx hb dX9_step_32 (by decide) ?_
        refine lv_goto (tgt := 37) hx hb dX9_step_33 (by decide) ?_
        exact j37 (a21.1, a21.2, (1 : Int32)) _ _ _ hP hS (lv_sub hl [1, 0] rfl) hM
  refine lv_iload_n hx hb dX9_step_0 rfl (lv_at hl 1 rfl) ?_
  refine lv_iconst (v := 4) hx hb dX9_step_1 (by decide) ?_
  refine lv_icmp_ne (tgt := 12) hx hb dX9_step_2 (by decide) (fun hc => ?_) (fun hc => ?_)
  · have hM := if_nn hc hM
    refine lv_aload_n hx hb dX9_step_12 rfl (lv_at hl 0 rfl) ?_
    refine lv_aload_n hx hb dX9_step_13 rfl (lv_at hl 0 rfl) ?_
    refine g_get (ci := 9) (C := RX9) (T := TX9) (N := 32) (v := .int mn.1) F hP 0 rfl rfl inX9_step_X9 12 (by decide) (List.mem_of_getElem? (i := 1) rfl) rfl dX9_step_14 ?_
    refine lv_iload_n hx hb dX9_step_17 rfl (lv_at hl 1 rfl) ?_
    obtain ⟨z18, hcr, hM⟩ := ob_s hM
    refine res_i0 F hP hS rfl [0, 1, 2, 3, 4, 5, 6, 7, 8, 9, 10, 11, 12] rfl rfl (runV_of (n := 2) (As := [.int mn.1, .int x1]) (rest := []) F hP hS rfl [0, 1, 2, 3, 4, 5, 6, 7, 8, 9, 10, 11, 12] rfl rfl (c_X9_beyond l dC dI cI cC cZ sa ad mb mo mn mg mf mt mz ml mi mn.1 x1 hcr _) gX9_step_X9_beyond rfl (by decide +kernel) ⟨Nat.le_of_ble_eq_true rfl, Nat.le_of_ble_eq_true rfl⟩ 0 9 rfl rfl rfl hl.1 rfl (Nat.le_of_ble_eq_true rfl) dX9_step_18 ⟨Nat.zero_le _, Nat.zero_le _⟩) (fun H locs hP hS => ?_)
    exact j21 (mn, z18) _ _ _ hP hS (lv_sub hl [0, 1] rfl) hM
  · have hM := if_pp hc hM
    refine lv_aload_n hx hb dX9_step_5 rfl (lv_at hl 0 rfl) ?_
    refine g_get (ci := 9) (C := RX9) (T := TX9) (N := 32) (v := .int mn.1) F hP 0 rfl rfl inX9_step_X9 12 (by decide) (List.mem_of_getElem? (i := 1) rfl) rfl dX9_step_6 ?_
    refine lv_goto (tgt := 21) hx hb dX9_step_9 (by decide) ?_
    exact j21 (mn, mn.1) _ _ _ hP hS (lv_sub hl [0, 1] rfl) hM
