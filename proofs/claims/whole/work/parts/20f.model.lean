/-! Walks, printed by wip/whole/gen.py -/
set_option maxHeartbeats 4000000 in
set_option maxRecDepth 100000 in
theorem c_X9_floor (l : Launch) (dC : Nat → ClassId) (dI : Nat → Nat → Nat) (cI cC cZ : ClassId) (sa : Nat → Nat) (ad : Nat → Nat) (mb : BT) (mo : OT) (mn : NT) (mg : GT) (mf : AR) (mt : TT) (mz : AR) (ml : LT) (mi : IT)  {res : Int32} (hM : M_X9_floor mb = some res) : CTi l (dC, dI) [(cI, .int), (cC, .char), (cZ, .boolean)] sa yX9_floor wsX9_floor (rmd 2) [.ref (ad 0)] (wM cI cZ ad mb mo mn mg mf mt mz ml mi) (fun (_ : Unit) => (wM cI cZ ad mb mo mn mg mf mt mz ml mi)) (res, ()) := by
  refine CTi.enter (own := RX9) (cc := cX9_floor) (maxL := 3) (ret := (some .int)) (by decide) rfl rfl (Nat.le_of_ble_eq_true rfl) ?_
  intro pr e s m below meth c A F hr hlk hP hS ls hl
  obtain ⟨⟨hx, hb, hml, hown, hts⟩, hK, hDD, hA, hKC⟩ := id F
  have hl : lv_has ls 3 [(0, .ref (ad 0))] := hl
  have hP : va_P (dC, dI) vwCl (wM cI cZ ad mb mo mn mg mf mt mz ml mi) s.heap := hP
  unfold M_X9_floor at hM
  refine kloop (α := Int32 × Int32) (res := res) (fun k a => M_X9_floor_4 mb k a) (fun rec a => M_X9_floor_4b mb rec a) (fun _ => rfl) (fun _ _ => rfl) F (fun a => (wM cI cZ ad mb mo mn mg mf mt mz ml mi)) (fun a => [(0, .ref (ad 0)), (1, .int a.1), (2, .int a.2)]) (fun a => []) 4 ?_ (fun j4 => ?_)
  · intro rc4 ih4 a4 H locs ls hP hS hl hM
    unfold M_X9_floor_4b at hM
    refine kblk (α := Int32 × Int32 × Int32) (res := res) (fun a => M_X9_floor_28 mb rc4 a) F (fun a => (wM cI cZ ad mb mo mn mg mf mt mz ml mi)) (fun a => [(0, .ref (ad 0)), (2, .int a.1)]) (fun a => [.int a.2.1, .int a.2.2]) 28 ?_ (fun j28 => ?_)
    · intro a28 H locs ls hP hS hl hM
      unfold M_X9_floor_28 at hM
      refine lv_ior hx hb dX9_floor_28 ?_
      refine lv_istore_n (lv' := [(1, .int (a28.2.2 ||| a28.2.1)), (0, .ref (ad 0)), (2, .int a28.1)]) hx hb dX9_floor_29 rfl hl (by decide) rfl (fun ls hl => ?_)
      refine lv_iinc (v := (a28.1 + (1 : Int32))) (lv' := [(2, .int (a28.1 + (1 : Int32))), (1, .int (a28.2.2 ||| a28.2.1)), (0, .ref (ad 0))]) hx hb dX9_floor_30 hl (k := 2) rfl rfl (by decide) rfl (fun ls hl => ?_)
      refine lv_goto (tgt := 4) hx hb dX9_floor_33 (by decide) ?_
      exact ih4 ((a28.2.2 ||| a28.2.1), (a28.1 + (1 : Int32))) _ _ _ hP hS (lv_sub hl [2, 1, 0] rfl) hM
    refine lv_iload_n hx hb dX9_floor_4 rfl (lv_at hl 2 rfl) ?_
    refine lv_aload_n hx hb dX9_floor_5 rfl (lv_at hl 0 rfl) ?_
    obtain ⟨z6, hcr, hM⟩ := ob_s hM
    refine res_i0 F hP hS rfl [0, 1, 2, 3, 4, 5, 6, 7, 8, 9, 10, 11, 12] rfl rfl (runV_of (n := 0) (As := []) (rest := [.int a4.2]) F hP hS rfl [0, 1, 2, 3, 4, 5, 6, 7, 8, 9, 10, 11, 12] rfl rfl (c_X9_cells l dC dI cI cC cZ sa ad mb mo mn mg mf mt mz ml mi hcr _) gX9_floor_X9_cells rfl (by decide +kernel) ⟨Nat.le_of_ble_eq_true rfl, Nat.le_of_ble_eq_true rfl⟩ 0 9 rfl rfl rfl hl.1 rfl (Nat.le_of_ble_eq_true rfl) dX9_floor_6 ⟨Nat.zero_le _, Nat.zero_le _⟩) (fun H locs hP hS => ?_)
    refine lv_icmp_ge (tgt := 36) hx hb dX9_floor_9 (by decide) (fun hc => ?_) (fun hc => ?_)
    · have hM := if_pp hc hM
      refine lv_iload_n hx hb dX9_floor_36 rfl (lv_at hl 1 rfl) ?_
      exact ret_i hx hb hr hlk dX9_floor_37 (some_u hM) hP hS
    · have hM := if_nn hc hM
      refine lv_iload_n hx hb dX9_floor_12 rfl (lv_at hl 1 rfl) ?_
      refine lv_aload_n hx hb dX9_floor_13 rfl (lv_at hl 0 rfl) ?_
      refine lv_iload_n hx hb dX9_floor_14 rfl (lv_at hl 2 rfl) ?_
      obtain ⟨z15, hcr, hM⟩ := ob_s hM
      refine res_i0 F hP hS rfl [0, 1, 2, 3, 4, 5, 6, 7, 8, 9, 10, 11, 12] rfl rfl (runV_of (n := 1) (As := [.int a4.2]) (rest := [.int a4.1]) F hP hS rfl [0, 1, 2, 3, 4, 5, 6, 7, 8, 9, 10, 11, 12] rfl rfl (c_X9_isWall l dC dI cI cC cZ sa ad mb mo mn mg mf mt mz ml mi a4.2 hcr _) gX9_floor_X9_isWall rfl (by decide +kernel) ⟨Nat.le_of_ble_eq_true rfl, Nat.le_of_ble_eq_true rfl⟩ 0 9 rfl rfl rfl hl.1 rfl (Nat.le_of_ble_eq_true rfl) dX9_floor_15 ⟨Nat.zero_le _, Nat.zero_le _⟩) (fun H locs hP hS => ?_)
      refine lv_if_eq (tgt := 25) hx hb dX9_floor_18 (by decide) (fun hc => ?_) (fun hc => ?_)
      · have hM := if_pp hc hM
        refine lv_iconst (v := 1) hx hb dX9_floor_25 (by decide) ?_
        refine lv_iload_n hx hb dX9_floor_26 rfl (lv_at hl 2 rfl) ?_
        refine lv_ishl hx hb dX9_floor_27 ?_
        exact j28 (a4.2, ((1 : Int32) <<< (a4.2 &&& 31)), a4.1) _ _ _ hP hS (lv_sub hl [0, 2] rfl) hM
      · have hM := if_nn hc hM
        refine lv_iconst (v := 0) hx hb dX9_floor_21 (by decide) ?_
        refine lv_goto (tgt := 28) hx hb dX9_floor_22 (by decide) ?_
        exact j28 (a4.2, (0 : Int32), a4.1) _ _ _ hP hS (lv_sub hl [0, 2] rfl) hM
  refine lv_iconst (v := 0) hx hb dX9_floor_0 (by decide) ?_
  refine lv_istore_n (lv' := [(1, .int (0 : Int32)), (0, .ref (ad 0))]) hx hb dX9_floor_1 rfl hl (by decide) rfl (fun ls hl => ?_)
  refine lv_iconst (v := 0) hx hb dX9_floor_2 (by decide) ?_
  refine lv_istore_n (lv' := [(2, .int (0 : Int32)), (1, .int (0 : Int32)), (0, .ref (ad 0))]) hx hb dX9_floor_3 rfl hl (by decide) rfl (fun ls hl => ?_)
  exact j4 200 ((0 : Int32), (0 : Int32)) _ _ _ hP hS (lv_sub hl [2, 1, 0] rfl) hM
theorem inX9_findFar_X9 : ∀ w ∈ wsX90, w ∈ wsX9_findFar := fun w h => List.mem_cons_of_mem _ (List.mem_append_right _ h)
set_option maxHeartbeats 4000000 in
set_option maxRecDepth 100000 in
theorem c_X9_findFar (l : Launch) (dC : Nat → ClassId) (dI : Nat → Nat → Nat) (cI cC cZ : ClassId) (sa : Nat → Nat) (ad : Nat → Nat) (mb : BT) (mo : OT) (mn : NT) (mg : GT) (mf : AR) (mt : TT) (mz : AR) (ml : LT) (mi : IT) (x1 : Int32) (x2 : Int32) {res : AR} (hM : M_X9_findFar mb mf x1 x2 = some res) : CTv l (dC, dI) [(cI, .int), (cC, .char), (cZ, .boolean)] sa yX9_findFar wsX9_findFar (rmd 3) [.ref (ad 0), .int x1, .int x2] (wM cI cZ ad mb mo mn mg mf mt mz ml mi) (fun (uu : AR) => (wM cI cZ ad mb mo mn mg uu mt mz ml mi)) res := by
  refine CTv.enter (own := RX9) (cc := cX9_findFar) (maxL := 8) (ret := none) (by decide) rfl rfl (Nat.le_of_ble_eq_true rfl) ?_
  intro pr e s m below meth c A F hr hlk hP hS ls hl
  obtain ⟨⟨hx, hb, hml, hown, hts⟩, hK, hDD, hA, hKC⟩ := id F
  have hl : lv_has ls 8 [(0, .ref (ad 0)), (1, .int x1), (2, .int x2)] := hl
  have hP : va_P (dC, dI) vwCl (wM cI cZ ad mb mo mn mg mf mt mz ml mi) s.heap := hP
  unfold M_X9_findFar at hM
  refine kloop (α := AR × Int32) (res := res) (fun k a => M_X9_findFar_32 mb x1 x2 k a) (fun rec a => M_X9_findFar_32b mb x1 x2 rec a) (fun _ => rfl) (fun _ _ => rfl) F (fun a => (wM cI cZ ad mb mo mn mg a.1 mt mz ml mi)) (fun a => [(0, .ref (ad 0)), (2, .int x2), (3, .int a.2)]) (fun a => []) 32 ?_ (fun j32 => ?_)
  · intro rc32 ih32 a32 H locs ls hP hS hl hM
    unfold M_X9_findFar_32b at hM
    refine kblk (α := AR × Int32) (res := res) (fun a => M_X9_findFar_162 mb x1 x2 rc32 a) F (fun a => (wM cI cZ ad mb mo mn mg a.1 mt mz ml mi)) (fun a => [(0, .ref (ad 0)), (2, .int x2), (3, .int a.2)]) (fun a => []) 162 ?_ (fun j162 => ?_)
    · intro a162 H locs ls hP hS hl hM
      unfold M_X9_findFar_162 at hM
      refine lv_iinc (v := (a162.2 + (1 : Int32))) (lv' := [(3, .int (a162.2 + (1 : Int32))), (0, .ref (ad 0)), (2, .int x2)]) hx hb dX9_findFar_162 hl (k := 2) rfl rfl (by decide) rfl (fun ls hl => ?_)
      refine lv_goto (tgt := 32) hx hb dX9_findFar_165 (by decide) ?_
      exact ih32 (a162.1, (a162.2 + (1 : Int32))) _ _ _ hP hS (lv_sub hl [1, 2, 0] rfl) hM
    refine kloop (α := AR × Int32 × Int32) (res := res) (fun k a => M_X9_findFar_41 mb x1 x2 rc32 k a) (fun rec a => M_X9_findFar_41b mb x1 x2 rc32 rec a) (fun _ => rfl) (fun _ _ => rfl) F (fun a => (wM cI cZ ad mb mo mn mg a.1 mt mz ml mi)) (fun a => [(0, .ref (ad 0)), (2, .int x2), (3, .int a.2.1), (4, .int a.2.2)]) (fun a => []) 41 ?_ (fun j41 => ?_)
    · intro rc41 ih41 a41 H locs ls hP hS hl hM
      unfold M_X9_findFar_41b at hM
      refine kblk (α := AR × Int32 × Int32) (res := res) (fun a => M_X9_findFar_156 mb x1 x2 rc32 rc41 a) F (fun a => (wM cI cZ ad mb mo mn mg a.1 mt mz ml mi)) (fun a => [(0, .ref (ad 0)), (2, .int x2), (3, .int a.2.1), (4, .int a.2.2)]) (fun a => []) 156 ?_ (fun j156 => ?_)
      · intro a156 H locs ls hP hS hl hM
        unfold M_X9_findFar_156 at hM
        refine lv_iinc (v := (a156.2.2 + (1 : Int32))) (lv' := [(4, .int (a156.2.2 + (1 : Int32))), (0, .ref (ad 0)), (2, .int x2), (3, .int a156.2.1)]) hx hb dX9_findFar_156 hl (k := 3) rfl rfl (by decide) rfl (fun ls hl => ?_)
        refine lv_goto (tgt := 41) hx hb dX9_findFar_159 (by decide) ?_
        exact ih41 (a156.1, a156.2.1, (a156.2.2 + (1 : Int32))) _ _ _ hP hS (lv_sub hl [1, 2, 3, 0] rfl) hM
      refine kloop (α := AR × Int32 × Int32 × Int32) (res := res) (fun k a => M_X9_findFar_53 mb x1 x2 rc32 rc41 k a) (fun rec a => M_X9_findFar_53b mb x1 x2 rc32 rc41 rec a) (fun _ => rfl) (fun _ _ => rfl) F (fun a => (wM cI cZ ad mb mo mn mg a.1 mt mz ml mi)) (fun a => [(0, .ref (ad 0)), (2, .int x2), (3, .int a.2.1), (4, .int a.2.2.1), (5, .int a.2.2.2)]) (fun a => []) 53 ?_ (fun j53 => ?_)
      · intro rc53 ih53 a53 H locs ls hP hS hl hM
        unfold M_X9_findFar_53b at hM
        refine kblk (α := AR × Int32 × Int32 × Int32 × Int32 × Int32) (res := res) (fun a => M_X9_findFar_149 mb x1 x2 rc32 rc41 rc53 a) F (fun a => (wM cI cZ ad mb mo mn mg a.1 mt mz ml mi)) (fun a => [(0, .ref (ad 0)), (2, .int x2), (3, .int a.2.1), (4, .int a.2.2.1), (5, .int a.2.2.2.1)]) (fun a => [.int a.2.2.2.2.1, .int a.2.2.2.2.2, .ref (ad 6)]) 149 ?_ (fun j149 => ?_)
        · intro a149 H locs ls hP hS hl hM
          unfold M_X9_findFar_149 at hM
          obtain ⟨hin, hM⟩ := if_ok hM
          refine g_iast (ws' := (wM cI cZ ad mb mo mn mg (upd a149.1 a149.2.2.2.2.2.toNatClampNeg a149.2.2.2.2.1) mt mz ml mi)) F hP hS rfl 6 0 rfl rfl hin dX9_findFar_149 rfl (fun H locs hP hS => ?_)
          refine lv_iinc (v := (a149.2.2.2.1 + (1 : Int32))) (lv' := [(5, .int (a149.2.2.2.1 + (1 : Int32))), (0, .ref (ad 0)), (2, .int x2), (3, .int a149.2.1), (4, .int a149.2.2.1)]) hx hb dX9_findFar_150 hl (k := 4) rfl rfl (by decide) rfl (fun ls hl => ?_)
          refine lv_goto (tgt := 53) hx hb dX9_findFar_153 (by decide) ?_
          exact ih53 ((upd a149.1 a149.2.2.2.2.2.toNatClampNeg a149.2.2.2.2.1), a149.2.1, a149.2.2.1, (a149.2.2.2.1 + (1 : Int32))) _ _ _ hP hS (lv_sub hl [1, 2, 3, 4, 0] rfl) hM
        refine kblk (α := AR × Int32 × Int32 × Int32 × Int32) (res := res) (fun a => M_X9_findFar_142 mb x1 x2 rc32 rc41 rc53 a) F (fun a => (wM cI cZ ad mb mo mn mg a.1 mt mz ml mi)) (fun a => [(0, .ref (ad 0)), (2, .int x2), (3, .int a.2.1), (4, .int a.2.2.1), (5, .int a.2.2.2.1)]) (fun a => [.int a.2.2.2.2, .ref (ad 6)]) 142 ?_ (fun j142 => ?_)
        · intro a142 H locs ls hP hS hl hM
          unfold M_X9_findFar_142 at hM
          refine lv_aload_n hx hb dX9_findFar_142 rfl (lv_at hl 0 rfl) ?_
          refine g_get (ci := 9) (C := RX9) (T := TX9) (N := 32) (v := .ref (ad 6)) F hP 0 rfl rfl inX9_findFar_X9 22 (by decide) (List.mem_of_getElem? (i := 1) rfl) rfl dX9_findFar_143 ?_
          refine lv_iload hx hb dX9_findFar_146 (lv_at hl 3 rfl) ?_
          obtain ⟨hin, hM⟩ := if_ok hM
          refine va_iald hx hb hK hP 6 0 rfl rfl hin dX9_findFar_148 ?_
          exact j149 (a142.1, a142.2.1, a142.2.2.1, a142.2.2.2.1, (a142.1 a142.2.2.1.toNatClampNeg), a142.2.2.2.2) _ _ _ hP hS (lv_sub hl [0, 1, 2, 3, 4] rfl) hM
        refine kblk (α := AR × Int32 × Int32 × Int32 × Int32 × Int32) (res := res) (fun a => M_X9_findFar_98 mb x1 x2 rc32 rc41 rc53 a) F (fun a => (wM cI cZ ad mb mo mn mg a.1 mt mz ml mi)) (fun a => [(0, .ref (ad 0)), (2, .int x2), (3, .int a.2.1), (4, .int a.2.2.1), (5, .int a.2.2.2.1), (6, .int a.2.2.2.2.1)]) (fun a => [.int a.2.2.2.2.2]) 98 ?_ (fun j98 => ?_)
        · intro a98 H locs ls hP hS hl hM
          unfold M_X9_findFar_98 at hM
          refine lv_istore (lv' := [(7, .int a98.2.2.2.2.2), (0, .ref (ad 0)), (2, .int x2), (3, .int a98.2.1), (4, .int a98.2.2.1), (5, .int a98.2.2.2.1), (6, .int a98.2.2.2.2.1)]) hx hb dX9_findFar_98 hl (by decide) rfl (fun ls hl => ?_)
          refine lv_aload_n hx hb dX9_findFar_100 rfl (lv_at hl 1 rfl) ?_
          refine g_get (ci := 9) (C := RX9) (T := TX9) (N := 32) (v := .ref (ad 6)) F hP 0 rfl rfl inX9_findFar_X9 22 (by decide) (List.mem_of_getElem? (i := 1) rfl) rfl dX9_findFar_101 ?_
          refine lv_iload hx hb dX9_findFar_104 (lv_at hl 4 rfl) ?_
          refine lv_iload hx hb dX9_findFar_106 (lv_at hl 0 rfl) ?_
          refine lv_if_eq (tgt := 142) hx hb dX9_findFar_108 (by decide) (fun hc => ?_) (fun hc => ?_)
          · have hM := if_pp hc hM
            exact j142 (a98.1, a98.2.1, a98.2.2.1, a98.2.2.2.1, a98.2.2.1) _ _ _ hP hS (lv_sub hl [1, 2, 3, 4, 5] rfl) hM
          · have hM := if_nn hc hM
            refine lv_aload_n hx hb dX9_findFar_111 rfl (lv_at hl 1 rfl) ?_
            refine g_get (ci := 9) (C := RX9) (T := TX9) (N := 32) (v := .ref (ad 6)) F hP 0 rfl rfl inX9_findFar_X9 22 (by decide) (List.mem_of_getElem? (i := 1) rfl) rfl dX9_findFar_112 ?_
            refine lv_iload hx hb dX9_findFar_115 (lv_at hl 6 rfl) ?_
            obtain ⟨hin, hM⟩ := if_ok hM
            refine va_iald hx hb hK hP 6 0 rfl rfl hin dX9_findFar_117 ?_
            refine lv_iconst (v := 1) hx hb dX9_findFar_118 (by decide) ?_
            refine lv_iadd hx hb dX9_findFar_119 ?_
            refine lv_aload_n hx hb dX9_findFar_120 rfl (lv_at hl 1 rfl) ?_
            refine g_get (ci := 9) (C := RX9) (T := TX9) (N := 32) (v := .ref (ad 6)) F hP 0 rfl rfl inX9_findFar_X9 22 (by decide) (List.mem_of_getElem? (i := 1) rfl) rfl dX9_findFar_121 ?_
            refine lv_iload hx hb dX9_findFar_124 (lv_at hl 4 rfl) ?_
            obtain ⟨hin, hM⟩ := if_ok hM
            refine va_iald hx hb hK hP 6 0 rfl rfl hin dX9_findFar_126 ?_
            refine lv_icmp_ge (tgt := 142) hx hb dX9_findFar_127 (by decide) (fun hc => ?_) (fun hc => ?_)
            · have hM := if_pp hc hM
              exact j142 (a98.1, a98.2.1, a98.2.2.1, a98.2.2.2.1, a98.2.2.1) _ _ _ hP hS (lv_sub hl [1, 2, 3, 4, 5] rfl) hM
            · have hM := if_nn hc hM
              refine lv_aload_n hx hb dX9_findFar_130 rfl (lv_at hl 1 rfl) ?_
              refine g_get (ci := 9) (C := RX9) (T := TX9) (N := 32) (v := .ref (ad 6)) F hP 0 rfl rfl inX9_findFar_X9 22 (by decide) (List.mem_of_getElem? (i := 1) rfl) rfl dX9_findFar_131 ?_
              refine lv_iload hx hb dX9_findFar_134 (lv_at hl 6 rfl) ?_
              obtain ⟨hin, hM⟩ := if_ok hM
              refine va_iald hx hb hK hP 6 0 rfl rfl hin dX9_findFar_136 ?_
              refine lv_iconst (v := 1) hx hb dX9_findFar_137 (by decide) ?_
              refine lv_iadd hx hb dX9_findFar_138 ?_
              refine lv_goto (tgt := 149) hx hb dX9_findFar_139 (by decide) ?_
              exact j149 (a98.1, a98.2.1, a98.2.2.1, a98.2.2.2.1, ((a98.1 a98.2.2.2.2.1.toNatClampNeg) + (1 : Int32)), a98.2.2.1) _ _ _ hP hS (lv_sub hl [1, 2, 3, 4, 5] rfl) hM
        refine kblk (α := AR × Int32 × Int32 × Int32 × Int32) (res := res) (fun a => M_X9_findFar_97 mb x1 x2 rc32 rc41 rc53 a) F (fun a => (wM cI cZ ad mb mo mn mg a.1 mt mz ml mi)) (fun a => [(0, .ref (ad 0)), (2, .int x2), (3, .int a.2.1), (4, .int a.2.2.1), (5, .int a.2.2.2.1), (6, .int a.2.2.2.2)]) (fun a => []) 97 ?_ (fun j97 => ?_)
        · intro a97 H locs ls hP hS hl hM
          unfold M_X9_findFar_97 at hM
          refine lv_iconst (v := 0) hx hb dX9_findFar_97 (by decide) ?_
          exact j98 (a97.1, a97.2.1, a97.2.2.1, a97.2.2.2.1, a97.2.2.2.2, (0 : Int32)) _ _ _ hP hS (lv_sub hl [0, 1, 2, 3, 4, 5] rfl) hM
        refine lv_iload hx hb dX9_findFar_53 (lv_at hl 4 rfl) ?_
        refine lv_iconst (v := 4) hx hb dX9_findFar_55 (by decide) ?_
        refine lv_icmp_ge (tgt := 156) hx hb dX9_findFar_56 (by decide) (fun hc => ?_) (fun hc => ?_)
        · have hM := if_pp hc hM
          exact j156 (a53.1, a53.2.1, a53.2.2.1) _ _ _ hP hS (lv_sub hl [0, 1, 2, 3] rfl) hM
        · have hM := if_nn hc hM
          refine lv_aload_n hx hb dX9_findFar_59 rfl (lv_at hl 0 rfl) ?_
          refine lv_iload hx hb dX9_findFar_60 (lv_at hl 3 rfl) ?_
          obtain ⟨z62, hcr, hM⟩ := ob_s hM
          refine res_i0 F hP hS rfl [0, 1, 2, 3, 4, 5, 6, 7, 8, 9, 10, 11, 12] rfl rfl (runV_of (n := 1) (As := [.int a53.2.2.1]) (rest := []) F hP hS rfl [0, 1, 2, 3, 4, 5, 6, 7, 8, 9, 10, 11, 12] rfl rfl (c_X9_isWall l dC dI cI cC cZ sa ad mb mo mn mg a53.1 mt mz ml mi a53.2.2.1 hcr _) gX9_findFar_X9_isWall rfl (by decide +kernel) ⟨Nat.le_of_ble_eq_true rfl, Nat.le_of_ble_eq_true rfl⟩ 0 9 rfl rfl rfl hl.1 rfl (Nat.le_of_ble_eq_true rfl) dX9_findFar_62 ⟨Nat.zero_le _, Nat.zero_le _⟩) (fun H locs hP hS => ?_)
          refine lv_if_ne (tgt := 156) hx hb dX9_findFar_65 (by decide) (fun hc => ?_) (fun hc => ?_)
          · have hM := if_nn hc hM
            exact j156 (a53.1, a53.2.1, a53.2.2.1) _ _ _ hP hS (lv_sub hl [0, 1, 2, 3] rfl) hM
          · have hM := if_pp hc hM
            refine lv_aload_n hx hb dX9_findFar_68 rfl (lv_at hl 0 rfl) ?_
            refine lv_iload hx hb dX9_findFar_69 (lv_at hl 3 rfl) ?_
            refine lv_iload hx hb dX9_findFar_71 (lv_at hl 4 rfl) ?_
            obtain ⟨z73, hcr, hM⟩ := ob_s hM
            refine res_i0 F hP hS rfl [0, 1, 2, 3, 4, 5, 6, 7, 8, 9, 10, 11, 12] rfl rfl (runV_of (n := 2) (As := [.int a53.2.2.1, .int a53.2.2.2]) (rest := []) F hP hS rfl [0, 1, 2, 3, 4, 5, 6, 7, 8, 9, 10, 11, 12] rfl rfl (c_X9_beyond l dC dI cI cC cZ sa ad mb mo mn mg a53.1 mt mz ml mi a53.2.2.1 a53.2.2.2 hcr _) gX9_findFar_X9_beyond rfl (by decide +kernel) ⟨Nat.le_of_ble_eq_true rfl, Nat.le_of_ble_eq_true rfl⟩ 0 9 rfl rfl rfl hl.1 rfl (Nat.le_of_ble_eq_true rfl) dX9_findFar_73 ⟨Nat.zero_le _, Nat.zero_le _⟩) (fun H locs hP hS => ?_)
            refine lv_istore (lv' := [(6, .int z73), (0, .ref (ad 0)), (2, .int x2), (3, .int a53.2.1), (4, .int a53.2.2.1), (5, .int a53.2.2.2)]) hx hb dX9_findFar_76 hl (by decide) rfl (fun ls hl => ?_)
            refine lv_iload hx hb dX9_findFar_78 (lv_at hl 0 rfl) ?_
            refine lv_if_lt (tgt := 97) hx hb dX9_findFar_80 (by decide) (fun hc => ?_) (fun hc => ?_)
            · have hM := if_pp hc hM
              exact j97 (a53.1, a53.2.1, a53.2.2.1, a53.2.2.2, z73) _ _ _ hP hS (lv_sub hl [1, 2, 3, 4, 5, 0] rfl) hM
            · have hM := if_nn hc hM
              refine lv_iload_n hx hb dX9_findFar_83 rfl (lv_at hl 2 rfl) ?_
              refine lv_iload hx hb dX9_findFar_84 (lv_at hl 0 rfl) ?_
              refine lv_ishr hx hb dX9_findFar_86 ?_
              refine lv_iconst (v := 1) hx hb dX9_findFar_87 (by decide) ?_
              refine lv_iand hx hb dX9_findFar_88 ?_
              refine lv_iconst (v := 1) hx hb dX9_findFar_89 (by decide) ?_
              refine lv_icmp_ne (tgt := 97) hx hb dX9_findFar_90 (by decide) (fun hc => ?_) (fun hc => ?_)
              · have hM := if_nn hc hM
                exact j97 (a53.1, a53.2.1, a53.2.2.1, a53.2.2.2, z73) _ _ _ hP hS (lv_sub hl [1, 2, 3, 4, 5, 0] rfl) hM
              · have hM := if_pp hc hM
                refine lv_iconst (v := 1) hx hb dX9_findFar_93 (by decide) ?_
                refine lv_goto (tgt := 98) hx hb dX9_findFar_94 (by decide) ?_
                exact j98 (a53.1, a53.2.1, a53.2.2.1, a53.2.2.2, z73, (1 : Int32)) _ _ _ hP hS (lv_sub hl [1, 2, 3, 4, 5, 0] rfl) hM
      refine lv_iload hx hb dX9_findFar_41 (lv_at hl 3 rfl) ?_
      refine lv_aload_n hx hb dX9_findFar_43 rfl (lv_at hl 0 rfl) ?_
      obtain ⟨z44, hcr, hM⟩ := ob_s hM
      refine res_i0 F hP hS rfl [0, 1, 2, 3, 4, 5, 6, 7, 8, 9, 10, 11, 12] rfl rfl (runV_of (n := 0) (As := []) (rest := [.int a41.2.2]) F hP hS rfl [0, 1, 2, 3, 4, 5, 6, 7, 8, 9, 10, 11, 12] rfl rfl (c_X9_cells l dC dI cI cC cZ sa ad mb mo mn mg a41.1 mt mz ml mi hcr _) gX9_findFar_X9_cells rfl (by decide +kernel) ⟨Nat.le_of_ble_eq_true rfl, Nat.le_of_ble_eq_true rfl⟩ 0 9 rfl rfl rfl hl.1 rfl (Nat.le_of_ble_eq_true rfl) dX9_findFar_44 ⟨Nat.zero_le _, Nat.zero_le _⟩) (fun H locs hP hS => ?_)
      refine lv_icmp_ge (tgt := 162) hx hb dX9_findFar_47 (by decide) (fun hc => ?_) (fun hc => ?_)
      · have hM := if_pp hc hM
        exact j162 (a41.1, a41.2.1) _ _ _ hP hS (lv_sub hl [0, 1, 2] rfl) hM
      · have hM := if_nn hc hM
        refine lv_iconst (v := 0) hx hb dX9_findFar_50 (by decide) ?_
        refine lv_istore (lv' := [(5, .int (0 : Int32)), (0, .ref (ad 0)), (2, .int x2), (3, .int a41.2.1), (4, .int a41.2.2)]) hx hb dX9_findFar_51 hl (by decide) rfl (fun ls hl => ?_)
        exact j53 200 (a41.1, a41.2.1, a41.2.2, (0 : Int32)) _ _ _ hP hS (lv_sub hl [1, 2, 3, 4, 0] rfl) hM
    refine lv_iload_n hx hb dX9_findFar_32 rfl (lv_at hl 2 rfl) ?_
    refine lv_bipush (v := 16) hx hb dX9_findFar_33 (by decide) ?_
    refine lv_icmp_ge (tgt := 168) hx hb dX9_findFar_35 (by decide) (fun hc => ?_) (fun hc => ?_)
    · have hM := if_pp hc hM
      exact ret_v hx hb hr hlk dX9_findFar_168 hM hP hS
    · have hM := if_nn hc hM
      refine lv_iconst (v := 0) hx hb dX9_findFar_38 (by decide) ?_
      refine lv_istore (lv' := [(4, .int (0 : Int32)), (0, .ref (ad 0)), (2, .int x2), (3, .int a32.2)]) hx hb dX9_findFar_39 hl (by decide) rfl (fun ls hl => ?_)
      exact j41 200 (a32.1, a32.2, (0 : Int32)) _ _ _ hP hS (lv_sub hl [1, 2, 3, 0] rfl) hM
  refine kloop (α := AR × Int32) (res := res) (fun k a => M_X9_findFar_2 mb x1 x2 k a) (fun rec a => M_X9_findFar_2b mb x1 x2 rec a) (fun _ => rfl) (fun _ _ => rfl) F (fun a => (wM cI cZ ad mb mo mn mg a.1 mt mz ml mi)) (fun a => [(0, .ref (ad 0)), (1, .int x1), (2, .int x2), (3, .int a.2)]) (fun a => []) 2 ?_ (fun j2 => ?_)
  · intro rc2 ih2 a2 H locs ls hP hS hl hM
    unfold M_X9_findFar_2b at hM
    refine lv_iload_n hx hb dX9_findFar_2 rfl (lv_at hl 3 rfl) ?_
    refine lv_bipush (v := 16) hx hb dX9_findFar_3 (by decide) ?_
    refine lv_icmp_ge (tgt := 23) hx hb dX9_findFar_5 (by decide) (fun hc => ?_) (fun hc => ?_)
    · have hM := if_pp hc hM
      refine lv_aload_n hx hb dX9_findFar_23 rfl (lv_at hl 0 rfl) ?_
      refine g_get (ci := 9) (C := RX9) (T := TX9) (N := 32) (v := .ref (ad 6)) F hP 0 rfl rfl inX9_findFar_X9 22 (by decide) (List.mem_of_getElem? (i := 1) rfl) rfl dX9_findFar_24 ?_
      refine lv_iload_n hx hb dX9_findFar_27 rfl (lv_at hl 1 rfl) ?_
      refine lv_iconst (v := 0) hx hb dX9_findFar_28 (by decide) ?_
      obtain ⟨hin, hM⟩ := if_ok hM
      refine g_iast (ws' := (wM cI cZ ad mb mo mn mg (upd a2.1 x1.toNatClampNeg (0 : Int32)) mt mz ml mi)) F hP hS rfl 6 0 rfl rfl hin dX9_findFar_29 rfl (fun H locs hP hS => ?_)
      refine lv_iconst (v := 0) hx hb dX9_findFar_30 (by decide) ?_
      refine lv_istore_n (lv' := [(3, .int (0 : Int32)), (0, .ref (ad 0)), (1, .int x1), (2, .int x2)]) hx hb dX9_findFar_31 rfl hl (by decide) rfl (fun ls hl => ?_)
      exact j32 200 ((upd a2.1 x1.toNatClampNeg (0 : Int32)), (0 : Int32)) _ _ _ hP hS (lv_sub hl [1, 3, 0] rfl) hM
    · have hM := if_nn hc hM
      refine lv_aload_n hx hb dX9_findFar_8 rfl (lv_at hl 0 rfl) ?_
      refine g_get (ci := 9) (C := RX9) (T := TX9) (N := 32) (v := .ref (ad 6)) F hP 0 rfl rfl inX9_findFar_X9 22 (by decide) (List.mem_of_getElem? (i := 1) rfl) rfl dX9_findFar_9 ?_
      refine lv_iload_n hx hb dX9_findFar_12 rfl (lv_at hl 3 rfl) ?_
      refine lv_sipush (v := 1000) hx hb dX9_findFar_13 (by decide) ?_
      obtain ⟨hin, hM⟩ := if_ok hM
      refine g_iast (ws' := (wM cI cZ ad mb mo mn mg (upd a2.1 a2.2.toNatClampNeg (1000 : Int32)) mt mz ml mi)) F hP hS rfl 6 0 rfl rfl hin dX9_findFar_16 rfl (fun H locs hP hS => ?_)
      refine lv_iinc (v := (a2.2 + (1 : Int32))) (lv' := [(3, .int (a2.2 + (1 : Int32))), (0, .ref (ad 0)), (1, .int x1), (2, .int x2)]) hx hb dX9_findFar_17 hl (k := 3) rfl rfl (by decide) rfl (fun ls hl => ?_)
      refine lv_goto (tgt := 2) hx hb dX9_findFar_20 (by decide) ?_
      exact ih2 ((upd a2.1 a2.2.toNatClampNeg (1000 : Int32)), (a2.2 + (1 : Int32))) _ _ _ hP hS (lv_sub hl [1, 2, 3, 0] rfl) hM
  refine lv_iconst (v := 0) hx hb dX9_findFar_0 (by decide) ?_
  refine lv_istore_n (lv' := [(3, .int (0 : Int32)), (0, .ref (ad 0)), (1, .int x1), (2, .int x2)]) hx hb dX9_findFar_1 rfl hl (by decide) rfl (fun ls hl => ?_)
  exact j2 200 (mf, (0 : Int32)) _ _ _ hP hS (lv_sub hl [1, 2, 3, 0] rfl) hM
theorem inX9_fewestShown_X9 : ∀ w ∈ wsX90, w ∈ wsX9_fewestShown := fun w h => List.mem_cons_of_mem _ (List.mem_append_right _ h)
set_option maxHeartbeats 4000000 in
set_option maxRecDepth 100000 in
theorem c_X9_fewestShown (l : Launch) (dC : Nat → ClassId) (dI : Nat → Nat → Nat) (cI cC cZ : ClassId) (sa : Nat → Nat) (ad : Nat → Nat) (mb : BT) (mo : OT) (mn : NT) (mg : GT) (mf : AR) (mt : TT) (mz : AR) (ml : LT) (mi : IT) (x1 : Int32) (x2 : Int32) (x3 : Int32) {res : Int32 × AR × AR} (hM : M_X9_fewestShown mb mf mz x1 x2 x3 = some res) : CTi l (dC, dI) [(cI, .int), (cC, .char), (cZ, .boolean)] sa yX9_fewestShown wsX9_fewestShown (rmd 6) [.ref (ad 0), .int x1, .int x2, .int x3] (wM cI cZ ad mb mo mn mg mf mt mz ml mi) (fun (uu : AR × AR) => (wM cI cZ ad mb mo mn mg uu.1 mt uu.2 ml mi)) res := by
  refine CTi.enter (own := RX9) (cc := cX9_fewestShown) (maxL := 10) (ret := (some .int)) (by decide) rfl rfl (Nat.le_of_ble_eq_true rfl) ?_
  intro pr e s m below meth c A F hr hlk hP hS ls hl
  obtain ⟨⟨hx, hb, hml, hown, hts⟩, hK, hDD, hA, hKC⟩ := id F
  have hl : lv_has ls 10 [(0, .ref (ad 0)), (1, .int x1), (2, .int x2), (3, .int x3)] := hl
  have hP : va_P (dC, dI) vwCl (wM cI cZ ad mb mo mn mg mf mt mz ml mi) s.heap := hP
  unfold M_X9_fewestShown at hM
  refine kloop (α := AR × AR × Int32) (res := res) (fun k a => M_X9_fewestShown_12 mb x1 x2 x3 k a) (fun rec a => M_X9_fewestShown_12b mb x1 x2 x3 rec a) (fun _ => rfl) (fun _ _ => rfl) F (fun a => (wM cI cZ ad mb mo mn mg a.1 mt a.2.1 ml mi)) (fun a => [(0, .ref (ad 0)), (1, .int x1), (2, .int x2), (3, .int x3), (4, .int a.2.2)]) (fun a => []) 12 ?_ (fun j12 => ?_)
  · intro rc12 ih12 a12 H locs ls hP hS hl hM
    unfold M_X9_fewestShown_12b at hM
    refine kblk (α := AR × AR × Int32) (res := res) (fun a => M_X9_fewestShown_200 mb x1 x2 x3 rc12 a) F (fun a => (wM cI cZ ad mb mo mn mg a.1 mt a.2.1 ml mi)) (fun a => [(0, .ref (ad 0)), (1, .int x1), (2, .int x2), (3, .int x3), (4, .int a.2.2)]) (fun a => []) 200 ?_ (fun j200 => ?_)
    · intro a200 H locs ls hP hS hl hM
      unfold M_X9_fewestShown_200 at hM
      refine lv_iinc (v := (a200.2.2 + (1 : Int32))) (lv' := [(4, .int (a200.2.2 + (1 : Int32))), (0, .ref (ad 0)), (1, .int x1), (2, .int x2), (3, .int x3)]) hx hb dX9_fewestShown_200 hl (k := 4) rfl rfl (by decide) rfl (fun ls hl => ?_)
      refine lv_goto (tgt := 12) hx hb dX9_fewestShown_203 (by decide) ?_
      exact ih12 (a200.1, a200.2.1, (a200.2.2 + (1 : Int32))) _ _ _ hP hS (lv_sub hl [1, 2, 3, 4, 0] rfl) hM
    refine kloop (α := AR × AR × Int32 × Int32) (res := res) (fun k a => M_X9_fewestShown_22 mb x1 x2 x3 rc12 k a) (fun rec a => M_X9_fewestShown_22b mb x1 x2 x3 rc12 rec a) (fun _ => rfl) (fun _ _ => rfl) F (fun a => (wM cI cZ ad mb mo mn mg a.1 mt a.2.1 ml mi)) (fun a => [(0, .ref (ad 0)), (1, .int x1), (2, .int x2), (3, .int x3), (4, .int a.2.2.1), (5, .int a.2.2.2)]) (fun a => []) 22 ?_ (fun j22 => ?_)
    · intro rc22 ih22 a22 H locs ls hP hS hl hM
      unfold M_X9_fewestShown_22b at hM
      refine kblk (α := AR × AR × Int32 × Int32) (res := res) (fun a => M_X9_fewestShown_194 mb x1 x2 x3 rc12 rc22 a) F (fun a => (wM cI cZ ad mb mo mn mg a.1 mt a.2.1 ml mi)) (fun a => [(0, .ref (ad 0)), (1, .int x1), (2, .int x2), (3, .int x3), (4, .int a.2.2.1), (5, .int a.2.2.2)]) (fun a => []) 194 ?_ (fun j194 => ?_)
      · intro a194 H locs ls hP hS hl hM
        unfold M_X9_fewestShown_194 at hM
        refine lv_iinc (v := (a194.2.2.2 + (1 : Int32))) (lv' := [(5, .int (a194.2.2.2 + (1 : Int32))), (0, .ref (ad 0)), (1, .int x1), (2, .int x2), (3, .int x3), (4, .int a194.2.2.1)]) hx hb dX9_fewestShown_194 hl (k := 5) rfl rfl (by decide) rfl (fun ls hl => ?_)
        refine lv_goto (tgt := 22) hx hb dX9_fewestShown_197 (by decide) ?_
        exact ih22 (a194.1, a194.2.1, a194.2.2.1, (a194.2.2.2 + (1 : Int32))) _ _ _ hP hS (lv_sub hl [1, 2, 3, 4, 5, 0] rfl) hM
      refine kloop (α := AR × AR × Int32 × Int32 × Int32) (res := res) (fun k a => M_X9_fewestShown_65 mb x1 x2 x3 rc12 rc22 k a) (fun rec a => M_X9_fewestShown_65b mb x1 x2 x3 rc12 rc22 rec a) (fun _ => rfl) (fun _ _ => rfl) F (fun a => (wM cI cZ ad mb mo mn mg a.1 mt a.2.1 ml mi)) (fun a => [(0, .ref (ad 0)), (1, .int x1), (2, .int x2), (3, .int x3), (4, .int a.2.2.1), (5, .int a.2.2.2.1), (6, .int a.2.2.2.2)]) (fun a => []) 65 ?_ (fun j65 => ?_)
      · intro rc65 ih65 a65 H locs ls hP hS hl hM
        unfold M_X9_fewestShown_65b at hM
        refine kblk (α := AR × AR × Int32 × Int32 × Int32 × Int32 × Int32) (res := res) (fun a => M_X9_fewestShown_187 mb x1 x2 x3 rc12 rc22 rc65 a) F (fun a => (wM cI cZ ad mb mo mn mg a.1 mt a.2.1 ml mi)) (fun a => [(0, .ref (ad 0)), (1, .int x1), (2, .int x2), (3, .int x3), (4, .int a.2.2.1), (5, .int a.2.2.2.1), (6, .int a.2.2.2.2.1)]) (fun a => [.int a.2.2.2.2.2.1, .int a.2.2.2.2.2.2, .ref (ad 8)]) 187 ?_ (fun j187 => ?_)
        · intro a187 H locs ls hP hS hl hM
          unfold M_X9_fewestShown_187 at hM
          obtain ⟨hin, hM⟩ := if_ok hM
          refine g_iast (ws' := (wM cI cZ ad mb mo mn mg a187.1 mt (upd a187.2.1 a187.2.2.2.2.2.2.toNatClampNeg a187.2.2.2.2.2.1) ml mi)) F hP hS rfl 8 0 rfl rfl hin dX9_fewestShown_187 rfl (fun H locs hP hS => ?_)
          refine lv_iinc (v := (a187.2.2.2.2.1 + (1 : Int32))) (lv' := [(6, .int (a187.2.2.2.2.1 + (1 : Int32))), (0, .ref (ad 0)), (1, .int x1), (2, .int x2), (3, .int x3), (4, .int a187.2.2.1), (5, .int a187.2.2.2.1)]) hx hb dX9_fewestShown_188 hl (k := 6) rfl rfl (by decide) rfl (fun ls hl => ?_)
          refine lv_goto (tgt := 65) hx hb dX9_fewestShown_191 (by decide) ?_
          exact ih65 (a187.1, (upd a187.2.1 a187.2.2.2.2.2.2.toNatClampNeg a187.2.2.2.2.2.1), a187.2.2.1, a187.2.2.2.1, (a187.2.2.2.2.1 + (1 : Int32))) _ _ _ hP hS (lv_sub hl [1, 2, 3, 4, 5, 6, 0] rfl) hM
        refine kblk (α := AR × AR × Int32 × Int32 × Int32 × Int32) (res := res) (fun a => M_X9_fewestShown_155 mb x1 x2 x3 rc12 rc22 rc65 a) F (fun a => (wM cI cZ ad mb mo mn mg a.1 mt a.2.1 ml mi)) (fun a => [(0, .ref (ad 0)), (1, .int x1), (2, .int x2), (3, .int x3), (4, .int a.2.2.1), (5, .int a.2.2.2.1), (6, .int a.2.2.2.2.1)]) (fun a => [.int a.2.2.2.2.2]) 155 ?_ (fun j155 => ?_)
        · intro a155 H locs ls hP hS hl hM
          unfold M_X9_fewestShown_155 at hM
          refine lv_istore (lv' := [(9, .int a155.2.2.2.2.2), (0, .ref (ad 0)), (1, .int x1), (2, .int x2), (3, .int x3), (4, .int a155.2.2.1), (5, .int a155.2.2.2.1), (6, .int a155.2.2.2.2.1)]) hx hb dX9_fewestShown_155 hl (by decide) rfl (fun ls hl => ?_)
          refine lv_aload_n hx hb dX9_fewestShown_157 rfl (lv_at hl 1 rfl) ?_
          refine g_get (ci := 9) (C := RX9) (T := TX9) (N := 32) (v := .ref (ad 8)) F hP 0 rfl rfl inX9_fewestShown_X9 25 (by decide) (List.mem_of_getElem? (i := 2) rfl) rfl dX9_fewestShown_158 ?_
          refine lv_iload hx hb dX9_fewestShown_161 (lv_at hl 6 rfl) ?_
          refine lv_iload hx hb dX9_fewestShown_163 (lv_at hl 0 rfl) ?_
          refine lv_aload_n hx hb dX9_fewestShown_165 rfl (lv_at hl 1 rfl) ?_
          refine g_get (ci := 9) (C := RX9) (T := TX9) (N := 32) (v := .ref (ad 8)) F hP 0 rfl rfl inX9_fewestShown_X9 25 (by decide) (List.mem_of_getElem? (i := 2) rfl) rfl dX9_fewestShown_166 ?_
          refine lv_iload hx hb dX9_fewestShown_169 (lv_at hl 6 rfl) ?_
          obtain ⟨hin, hM⟩ := if_ok hM
          refine va_iald hx hb hK hP 8 0 rfl rfl hin dX9_fewestShown_171 ?_
          refine lv_icmp_ge (tgt := 180) hx hb dX9_fewestShown_172 (by decide) (fun hc => ?_) (fun hc => ?_)
          · have hM := if_pp hc hM
            refine lv_aload_n hx hb dX9_fewestShown_180 rfl (lv_at hl 1 rfl) ?_
            refine g_get (ci := 9) (C := RX9) (T := TX9) (N := 32) (v := .ref (ad 8)) F hP 0 rfl rfl inX9_fewestShown_X9 25 (by decide) (List.mem_of_getElem? (i := 2) rfl) rfl dX9_fewestShown_181 ?_
            refine lv_iload hx hb dX9_fewestShown_184 (lv_at hl 6 rfl) ?_
            obtain ⟨hin, hM⟩ := if_ok hM
            refine va_iald hx hb hK hP 8 0 rfl rfl hin dX9_fewestShown_186 ?_
            exact j187 (a155.1, a155.2.1, a155.2.2.1, a155.2.2.2.1, a155.2.2.2.2.1, (a155.2.1 a155.2.2.2.1.toNatClampNeg), a155.2.2.2.1) _ _ _ hP hS (lv_sub hl [1, 2, 3, 4, 5, 6, 7] rfl) hM
          · have hM := if_nn hc hM
            refine lv_iload hx hb dX9_fewestShown_175 (lv_at hl 0 rfl) ?_
            refine lv_goto (tgt := 187) hx hb dX9_fewestShown_177 (by decide) ?_
            exact j187 (a155.1, a155.2.1, a155.2.2.1, a155.2.2.2.1, a155.2.2.2.2.1, a155.2.2.2.2.2, a155.2.2.2.1) _ _ _ hP hS (lv_sub hl [1, 2, 3, 4, 5, 6, 7] rfl) hM
        refine kblk (α := AR × AR × Int32 × Int32 × Int32 × Int32 × Int32) (res := res) (fun a => M_X9_fewestShown_154 mb x1 x2 x3 rc12 rc22 rc65 a) F (fun a => (wM cI cZ ad mb mo mn mg a.1 mt a.2.1 ml mi)) (fun a => [(0, .ref (ad 0)), (1, .int x1), (2, .int x2), (3, .int x3), (4, .int a.2.2.1), (5, .int a.2.2.2.1), (6, .int a.2.2.2.2.1)]) (fun a => [.int a.2.2.2.2.2.1, .int a.2.2.2.2.2.2]) 154 ?_ (fun j154 => ?_)
        · intro a154 H locs ls hP hS hl hM
          unfold M_X9_fewestShown_154 at hM
          refine lv_iadd hx hb dX9_fewestShown_154 ?_
          exact j155 (a154.1, a154.2.1, a154.2.2.1, a154.2.2.2.1, a154.2.2.2.2.1, (a154.2.2.2.2.2.2 + a154.2.2.2.2.2.1)) _ _ _ hP hS (lv_sub hl [0, 1, 2, 3, 4, 5, 6] rfl) hM
        refine kblk (α := AR × AR × Int32 × Int32 × Int32 × Int32) (res := res) (fun a => M_X9_fewestShown_149 mb x1 x2 x3 rc12 rc22 rc65 a) F (fun a => (wM cI cZ ad mb mo mn mg a.1 mt a.2.1 ml mi)) (fun a => [(0, .ref (ad 0)), (1, .int x1), (2, .int x2), (3, .int x3), (4, .int a.2.2.1), (5, .int a.2.2.2.1), (6, .int a.2.2.2.2.1)]) (fun a => [.int a.2.2.2.2.2]) 149 ?_ (fun j149 => ?_)
        · intro a149 H locs ls hP hS hl hM
          unfold M_X9_fewestShown_149 at hM
          refine lv_iconst (v := 0) hx hb dX9_fewestShown_149 (by decide) ?_
          refine lv_goto (tgt := 154) hx hb dX9_fewestShown_150 (by decide) ?_
          exact j154 (a149.1, a149.2.1, a149.2.2.1, a149.2.2.2.1, a149.2.2.2.2.1, (0 : Int32), a149.2.2.2.2.2) _ _ _ hP hS (lv_sub hl [0, 1, 2, 3, 4, 5, 6] rfl) hM
        refine kblk (α := AR × AR × Int32 × Int32 × Int32 × Int32) (res := res) (fun a => M_X9_fewestShown_153 mb x1 x2 x3 rc12 rc22 rc65 a) F (fun a => (wM cI cZ ad mb mo mn mg a.1 mt a.2.1 ml mi)) (fun a => [(0, .ref (ad 0)), (1, .int x1), (2, .int x2), (3, .int x3), (4, .int a.2.2.1), (5, .int a.2.2.2.1), (6, .int a.2.2.2.2.1)]) (fun a => [.int a.2.2.2.2.2]) 153 ?_ (fun j153 => ?_)
        · intro a153 H locs ls hP hS hl hM
          unfold M_X9_fewestShown_153 at hM
          refine lv_iconst (v := 1) hx hb dX9_fewestShown_153 (by decide) ?_
          exact j154 (a153.1, a153.2.1, a153.2.2.1, a153.2.2.2.1, a153.2.2.2.2.1, (1 : Int32), a153.2.2.2.2.2) _ _ _ hP hS (lv_sub hl [0, 1, 2, 3, 4, 5, 6] rfl) hM
        refine kblk (α := AR × AR × Int32 × Int32 × Int32 × Int32 × Int32) (res := res) (fun a => M_X9_fewestShown_110 mb x1 x2 x3 rc12 rc22 rc65 a) F (fun a => (wM cI cZ ad mb mo mn mg a.1 mt a.2.1 ml mi)) (fun a => [(0, .ref (ad 0)), (1, .int x1), (2, .int x2), (3, .int x3), (4, .int a.2.2.1), (5, .int a.2.2.2.1), (6, .int a.2.2.2.2.1), (7, .int a.2.2.2.2.2.1)]) (fun a => [.int a.2.2.2.2.2.2]) 110 ?_ (fun j110 => ?_)
        · intro a110 H locs ls hP hS hl hM
          unfold M_X9_fewestShown_110 at hM
          refine lv_istore (lv' := [(8, .int a110.2.2.2.2.2.2), (0, .ref (ad 0)), (1, .int x1), (2, .int x2), (3, .int x3), (4, .int a110.2.2.1), (5, .int a110.2.2.2.1), (6, .int a110.2.2.2.2.1), (7, .int a110.2.2.2.2.2.1)]) hx hb dX9_fewestShown_110 hl (by decide) rfl (fun ls hl => ?_)
          refine lv_iload hx hb dX9_fewestShown_112 (lv_at hl 0 rfl) ?_
          refine lv_if_ne (tgt := 123) hx hb dX9_fewestShown_114 (by decide) (fun hc => ?_) (fun hc => ?_)
          · have hM := if_nn hc hM
            refine lv_aload_n hx hb dX9_fewestShown_123 rfl (lv_at hl 1 rfl) ?_
            refine g_get (ci := 9) (C := RX9) (T := TX9) (N := 32) (v := .ref (ad 8)) F hP 0 rfl rfl inX9_fewestShown_X9 25 (by decide) (List.mem_of_getElem? (i := 2) rfl) rfl dX9_fewestShown_124 ?_
            refine lv_iload hx hb dX9_fewestShown_127 (lv_at hl 8 rfl) ?_
            obtain ⟨hin, hM⟩ := if_ok hM
            refine va_iald hx hb hK hP 8 0 rfl rfl hin dX9_fewestShown_129 ?_
            refine lv_aload_n hx hb dX9_fewestShown_130 rfl (lv_at hl 1 rfl) ?_
            refine lv_iload hx hb dX9_fewestShown_131 (lv_at hl 8 rfl) ?_
            obtain ⟨z133, hcr, hM⟩ := ob_s hM
            refine res_i0 F hP hS rfl [0, 1, 2, 3, 4, 5, 6, 7, 8, 9, 10, 11, 12] rfl rfl (runV_of (n := 1) (As := [.int a110.2.2.2.2.2.1]) (rest := [.int (a110.2.1 a110.2.2.2.2.2.1.toNatClampNeg)]) F hP hS rfl [0, 1, 2, 3, 4, 5, 6, 7, 8, 9, 10, 11, 12] rfl rfl (c_X9_isBare l dC dI cI cC cZ sa ad mb mo mn mg a110.1 mt a110.2.1 ml mi a110.2.2.2.2.2.1 hcr _) gX9_fewestShown_X9_isBare rfl (by decide +kernel) ⟨Nat.le_of_ble_eq_true rfl, Nat.le_of_ble_eq_true rfl⟩ 0 9 rfl rfl rfl hl.1 rfl (Nat.le_of_ble_eq_true rfl) dX9_fewestShown_133 ⟨Nat.zero_le _, Nat.zero_le _⟩) (fun H locs hP hS => ?_)
            refine lv_if_ne (tgt := 149) hx hb dX9_fewestShown_136 (by decide) (fun hc => ?_) (fun hc => ?_)
            · have hM := if_nn hc hM
              exact j149 (a110.1, a110.2.1, a110.2.2.1, a110.2.2.2.1, a110.2.2.2.2.1, (a110.2.1 a110.2.2.2.2.2.1.toNatClampNeg)) _ _ _ hP hS (lv_sub hl [1, 2, 3, 4, 5, 6, 7] rfl) hM
            · have hM := if_pp hc hM
              refine lv_iload hx hb dX9_fewestShown_139 (lv_at hl 8 rfl) ?_
              refine lv_iload_n hx hb dX9_fewestShown_141 rfl (lv_at hl 3 rfl) ?_
              refine lv_icmp_ne (tgt := 153) hx hb dX9_fewestShown_142 (by decide) (fun hc => ?_) (fun hc => ?_)
              · have hM := if_nn hc hM
                exact j153 (a110.1, a110.2.1, a110.2.2.1, a110.2.2.2.1, a110.2.2.2.2.1, (a110.2.1 a110.2.2.2.2.2.1.toNatClampNeg)) _ _ _ hP hS (lv_sub hl [1, 2, 3, 4, 5, 6, 7] rfl) hM
              · have hM := if_pp hc hM
                refine lv_iload_n hx hb dX9_fewestShown_145 rfl (lv_at hl 4 rfl) ?_
                refine lv_if_ne (tgt := 153) hx hb dX9_fewestShown_146 (by decide) (fun hc => ?_) (fun hc => ?_)
                · have hM := if_nn hc hM
                  exact j153 (a110.1, a110.2.1, a110.2.2.1, a110.2.2.2.1, a110.2.2.2.2.1, (a110.2.1 a110.2.2.2.2.2.1.toNatClampNeg)) _ _ _ hP hS (lv_sub hl [1, 2, 3, 4, 5, 6, 7] rfl) hM
                · have hM := if_pp hc hM
                  exact j149 (a110.1, a110.2.1, a110.2.2.1, a110.2.2.2.1, a110.2.2.2.2.1, (a110.2.1 a110.2.2.2.2.2.1.toNatClampNeg)) _ _ _ hP hS (lv_sub hl [1, 2, 3, 4, 5, 6, 7] rfl) hM
          · have hM := if_pp hc hM
            refine lv_sipush (v := 1000) hx hb dX9_fewestShown_117 (by decide) ?_
            refine lv_goto (tgt := 155) hx hb dX9_fewestShown_120 (by decide) ?_
            exact j155 (a110.1, a110.2.1, a110.2.2.1, a110.2.2.2.1, a110.2.2.2.2.1, (1000 : Int32)) _ _ _ hP hS (lv_sub hl [1, 2, 3, 4, 5, 6, 7] rfl) hM
        refine kblk (α := AR × AR × Int32 × Int32 × Int32 × Int32) (res := res) (fun a => M_X9_fewestShown_109 mb x1 x2 x3 rc12 rc22 rc65 a) F (fun a => (wM cI cZ ad mb mo mn mg a.1 mt a.2.1 ml mi)) (fun a => [(0, .ref (ad 0)), (1, .int x1), (2, .int x2), (3, .int x3), (4, .int a.2.2.1), (5, .int a.2.2.2.1), (6, .int a.2.2.2.2.1), (7, .int a.2.2.2.2.2)]) (fun a => []) 109 ?_ (fun j109 => ?_)
        · intro a109 H locs ls hP hS hl hM
          unfold M_X9_fewestShown_109 at hM
          refine lv_iconst (v := 0) hx hb dX9_fewestShown_109 (by decide) ?_
          exact j110 (a109.1, a109.2.1, a109.2.2.1, a109.2.2.2.1, a109.2.2.2.2.1, a109.2.2.2.2.2, (0 : Int32)) _ _ _ hP hS (lv_sub hl [0, 1, 2, 3, 4, 5, 6, 7] rfl) hM
        refine lv_iload hx hb dX9_fewestShown_65 (lv_at hl 6 rfl) ?_
        refine lv_iconst (v := 4) hx hb dX9_fewestShown_67 (by decide) ?_
        refine lv_icmp_ge (tgt := 194) hx hb dX9_fewestShown_68 (by decide) (fun hc => ?_) (fun hc => ?_)
        · have hM := if_pp hc hM
          exact j194 (a65.1, a65.2.1, a65.2.2.1, a65.2.2.2.1) _ _ _ hP hS (lv_sub hl [0, 1, 2, 3, 4, 5] rfl) hM
        · have hM := if_nn hc hM
          refine lv_iload hx hb dX9_fewestShown_71 (lv_at hl 4 rfl) ?_
          refine lv_if_le (tgt := 194) hx hb dX9_fewestShown_73 (by decide) (fun hc => ?_) (fun hc => ?_)
          · have hM := if_pp hc hM
            exact j194 (a65.1, a65.2.1, a65.2.2.1, a65.2.2.2.1) _ _ _ hP hS (lv_sub hl [0, 1, 2, 3, 4, 5] rfl) hM
          · have hM := if_nn hc hM
            refine lv_aload_n hx hb dX9_fewestShown_76 rfl (lv_at hl 0 rfl) ?_
            refine lv_iload hx hb dX9_fewestShown_77 (lv_at hl 5 rfl) ?_
            refine lv_iload hx hb dX9_fewestShown_79 (lv_at hl 6 rfl) ?_
            obtain ⟨z81, hcr, hM⟩ := ob_s hM
            refine res_i0 F hP hS rfl [0, 1, 2, 3, 4, 5, 6, 7, 8, 9, 10, 11, 12] rfl rfl (runV_of (n := 2) (As := [.int a65.2.2.2.1, .int a65.2.2.2.2]) (rest := []) F hP hS rfl [0, 1, 2, 3, 4, 5, 6, 7, 8, 9, 10, 11, 12] rfl rfl (c_X9_beyond l dC dI cI cC cZ sa ad mb mo mn mg a65.1 mt a65.2.1 ml mi a65.2.2.2.1 a65.2.2.2.2 hcr _) gX9_fewestShown_X9_beyond rfl (by decide +kernel) ⟨Nat.le_of_ble_eq_true rfl, Nat.le_of_ble_eq_true rfl⟩ 0 9 rfl rfl rfl hl.1 rfl (Nat.le_of_ble_eq_true rfl) dX9_fewestShown_81 ⟨Nat.zero_le _, Nat.zero_le _⟩) (fun H locs hP hS => ?_)
            refine lv_istore (lv' := [(7, .int z81), (0, .ref (ad 0)), (1, .int x1), (2, .int x2), (3, .int x3), (4, .int a65.2.2.1), (5, .int a65.2.2.2.1), (6, .int a65.2.2.2.2)]) hx hb dX9_fewestShown_84 hl (by decide) rfl (fun ls hl => ?_)
            refine lv_iload hx hb dX9_fewestShown_86 (lv_at hl 0 rfl) ?_
            refine lv_if_lt (tgt := 109) hx hb dX9_fewestShown_88 (by decide) (fun hc => ?_) (fun hc => ?_)
            · have hM := if_pp hc hM
              exact j109 (a65.1, a65.2.1, a65.2.2.1, a65.2.2.2.1, a65.2.2.2.2, z81) _ _ _ hP hS (lv_sub hl [1, 2, 3, 4, 5, 6, 7, 0] rfl) hM
            · have hM := if_nn hc hM
              refine lv_aload_n hx hb dX9_fewestShown_91 rfl (lv_at hl 1 rfl) ?_
              refine g_get (ci := 9) (C := RX9) (T := TX9) (N := 32) (v := .ref (ad 6)) F hP 0 rfl rfl inX9_fewestShown_X9 22 (by decide) (List.mem_of_getElem? (i := 1) rfl) rfl dX9_fewestShown_92 ?_
              refine lv_iload hx hb dX9_fewestShown_95 (lv_at hl 0 rfl) ?_
              obtain ⟨hin, hM⟩ := if_ok hM
              refine va_iald hx hb hK hP 6 0 rfl rfl hin dX9_fewestShown_97 ?_
              refine lv_iload hx hb dX9_fewestShown_98 (lv_at hl 5 rfl) ?_
              refine lv_iconst (v := 1) hx hb dX9_fewestShown_100 (by decide) ?_
              refine lv_isub hx hb dX9_fewestShown_101 ?_
              refine lv_icmp_ne (tgt := 109) hx hb dX9_fewestShown_102 (by decide) (fun hc => ?_) (fun hc => ?_)
              · have hM := if_nn hc hM
                exact j109 (a65.1, a65.2.1, a65.2.2.1, a65.2.2.2.1, a65.2.2.2.2, z81) _ _ _ hP hS (lv_sub hl [1, 2, 3, 4, 5, 6, 7, 0] rfl) hM
              · have hM := if_pp hc hM
                refine lv_iconst (v := 1) hx hb dX9_fewestShown_105 (by decide) ?_
                refine lv_goto (tgt := 110) hx hb dX9_fewestShown_106 (by decide) ?_
                exact j110 (a65.1, a65.2.1, a65.2.2.1, a65.2.2.2.1, a65.2.2.2.2, z81, (1 : Int32)) _ _ _ hP hS (lv_sub hl [1, 2, 3, 4, 5, 6, 7, 0] rfl) hM
      refine kblk (α := AR × AR × Int32 × Int32 × Int32 × Int32) (res := res) (fun a => M_X9_fewestShown_61 mb x1 x2 x3 rc12 rc22 a) F (fun a => (wM cI cZ ad mb mo mn mg a.1 mt a.2.1 ml mi)) (fun a => [(0, .ref (ad 0)), (1, .int x1), (2, .int x2), (3, .int x3), (4, .int a.2.2.1), (5, .int a.2.2.2.1)]) (fun a => [.int a.2.2.2.2.1, .int a.2.2.2.2.2, .ref (ad 8)]) 61 ?_ (fun j61 => ?_)
      · intro a61 H locs ls hP hS hl hM
        unfold M_X9_fewestShown_61 at hM
        obtain ⟨hin, hM⟩ := if_ok hM
        refine g_iast (ws' := (wM cI cZ ad mb mo mn mg a61.1 mt (upd a61.2.1 a61.2.2.2.2.2.toNatClampNeg a61.2.2.2.2.1) ml mi)) F hP hS rfl 8 0 rfl rfl hin dX9_fewestShown_61 rfl (fun H locs hP hS => ?_)
        refine lv_iconst (v := 0) hx hb dX9_fewestShown_62 (by decide) ?_
        refine lv_istore (lv' := [(6, .int (0 : Int32)), (0, .ref (ad 0)), (1, .int x1), (2, .int x2), (3, .int x3), (4, .int a61.2.2.1), (5, .int a61.2.2.2.1)]) hx hb dX9_fewestShown_63 hl (by decide) rfl (fun ls hl => ?_)
        exact j65 200 (a61.1, (upd a61.2.1 a61.2.2.2.2.2.toNatClampNeg a61.2.2.2.2.1), a61.2.2.1, a61.2.2.2.1, (0 : Int32)) _ _ _ hP hS (lv_sub hl [1, 2, 3, 4, 5, 6, 0] rfl) hM
      refine lv_iload hx hb dX9_fewestShown_22 (lv_at hl 5 rfl) ?_
      refine lv_aload_n hx hb dX9_fewestShown_24 rfl (lv_at hl 0 rfl) ?_
      obtain ⟨z25, hcr, hM⟩ := ob_s hM
      refine res_i0 F hP hS rfl [0, 1, 2, 3, 4, 5, 6, 7, 8, 9, 10, 11, 12] rfl rfl (runV_of (n := 0) (As := []) (rest := [.int a22.2.2.2]) F hP hS rfl [0, 1, 2, 3, 4, 5, 6, 7, 8, 9, 10, 11, 12] rfl rfl (c_X9_cells l dC dI cI cC cZ sa ad mb mo mn mg a22.1 mt a22.2.1 ml mi hcr _) gX9_fewestShown_X9_cells rfl (by decide +kernel) ⟨Nat.le_of_ble_eq_true rfl, Nat.le_of_ble_eq_true rfl⟩ 0 9 rfl rfl rfl hl.1 rfl (Nat.le_of_ble_eq_true rfl) dX9_fewestShown_25 ⟨Nat.zero_le _, Nat.zero_le _⟩) (fun H locs hP hS => ?_)
      refine lv_icmp_ge (tgt := 200) hx hb dX9_fewestShown_28 (by decide) (fun hc => ?_) (fun hc => ?_)
      · have hM := if_pp hc hM
        exact j200 (a22.1, a22.2.1, a22.2.2.1) _ _ _ hP hS (lv_sub hl [0, 1, 2, 3, 4] rfl) hM
      · have hM := if_nn hc hM
        refine lv_aload_n hx hb dX9_fewestShown_31 rfl (lv_at hl 0 rfl) ?_
        refine g_get (ci := 9) (C := RX9) (T := TX9) (N := 32) (v := .ref (ad 6)) F hP 0 rfl rfl inX9_fewestShown_X9 22 (by decide) (List.mem_of_getElem? (i := 1) rfl) rfl dX9_fewestShown_32 ?_
        refine lv_iload hx hb dX9_fewestShown_35 (lv_at hl 5 rfl) ?_
        obtain ⟨hin, hM⟩ := if_ok hM
        refine va_iald hx hb hK hP 6 0 rfl rfl hin dX9_fewestShown_37 ?_
        refine lv_iload hx hb dX9_fewestShown_38 (lv_at hl 4 rfl) ?_
        refine lv_icmp_ne (tgt := 194) hx hb dX9_fewestShown_40 (by decide) (fun hc => ?_) (fun hc => ?_)
        · have hM := if_nn hc hM
          exact j194 (a22.1, a22.2.1, a22.2.2.1, a22.2.2.2) _ _ _ hP hS (lv_sub hl [0, 1, 2, 3, 4, 5] rfl) hM
        · have hM := if_pp hc hM
          refine lv_aload_n hx hb dX9_fewestShown_43 rfl (lv_at hl 0 rfl) ?_
          refine g_get (ci := 9) (C := RX9) (T := TX9) (N := 32) (v := .ref (ad 8)) F hP 0 rfl rfl inX9_fewestShown_X9 25 (by decide) (List.mem_of_getElem? (i := 2) rfl) rfl dX9_fewestShown_44 ?_
          refine lv_iload hx hb dX9_fewestShown_47 (lv_at hl 5 rfl) ?_
          refine lv_iload hx hb dX9_fewestShown_49 (lv_at hl 4 rfl) ?_
          refine lv_if_ne (tgt := 58) hx hb dX9_fewestShown_51 (by decide) (fun hc => ?_) (fun hc => ?_)
          · have hM := if_nn hc hM
            refine lv_sipush (v := 1000) hx hb dX9_fewestShown_58 (by decide) ?_
            exact j61 (a22.1, a22.2.1, a22.2.2.1, a22.2.2.2, (1000 : Int32), a22.2.2.2) _ _ _ hP hS (lv_sub hl [0, 1, 2, 3, 4, 5] rfl) hM
          · have hM := if_pp hc hM
            refine lv_iconst (v := 0) hx hb dX9_fewestShown_54 (by decide) ?_
            refine lv_goto (tgt := 61) hx hb dX9_fewestShown_55 (by decide) ?_
            exact j61 (a22.1, a22.2.1, a22.2.2.1, a22.2.2.2, (0 : Int32), a22.2.2.2) _ _ _ hP hS (lv_sub hl [0, 1, 2, 3, 4, 5] rfl) hM
    refine lv_iload hx hb dX9_fewestShown_12 (lv_at hl 4 rfl) ?_
    refine lv_bipush (v := 16) hx hb dX9_fewestShown_14 (by decide) ?_
    refine lv_icmp_ge (tgt := 206) hx hb dX9_fewestShown_16 (by decide) (fun hc => ?_) (fun hc => ?_)
    · have hM := if_pp hc hM
      refine lv_aload_n hx hb dX9_fewestShown_206 rfl (lv_at hl 0 rfl) ?_
      refine g_get (ci := 9) (C := RX9) (T := TX9) (N := 32) (v := .ref (ad 8)) F hP 0 rfl rfl inX9_fewestShown_X9 25 (by decide) (List.mem_of_getElem? (i := 2) rfl) rfl dX9_fewestShown_207 ?_
      refine lv_iload_n hx hb dX9_fewestShown_210 rfl (lv_at hl 1 rfl) ?_
      obtain ⟨hin, hM⟩ := if_ok hM
      refine va_iald hx hb hK hP 8 0 rfl rfl hin dX9_fewestShown_211 ?_
      exact ret_i hx hb hr hlk dX9_fewestShown_212 hM hP hS
    · have hM := if_nn hc hM
      refine lv_iconst (v := 0) hx hb dX9_fewestShown_19 (by decide) ?_
      refine lv_istore (lv' := [(5, .int (0 : Int32)), (0, .ref (ad 0)), (1, .int x1), (2, .int x2), (3, .int x3), (4, .int a12.2.2)]) hx hb dX9_fewestShown_20 hl (by decide) rfl (fun ls hl => ?_)
      exact j22 200 (a12.1, a12.2.1, a12.2.2, (0 : Int32)) _ _ _ hP hS (lv_sub hl [1, 2, 3, 4, 5, 0] rfl) hM
  refine lv_aload_n hx hb dX9_fewestShown_0 rfl (lv_at hl 0 rfl) ?_
  refine lv_iload_n hx hb dX9_fewestShown_1 rfl (lv_at hl 2 rfl) ?_
  refine lv_aload_n hx hb dX9_fewestShown_2 rfl (lv_at hl 0 rfl) ?_
  obtain ⟨z3, hcr, hM⟩ := ob_s hM
  refine res_i0 F hP hS rfl [0, 1, 2, 3, 4, 5, 6, 7, 8, 9, 10, 11, 12] rfl rfl (runV_of (n := 0) (As := []) (rest := [.int x2, .ref (ad 0)]) F hP hS rfl [0, 1, 2, 3, 4, 5, 6, 7, 8, 9, 10, 11, 12] rfl rfl (c_X9_floor l dC dI cI cC cZ sa ad mb mo mn mg mf mt mz ml mi hcr _) gX9_fewestShown_X9_floor rfl (by decide +kernel) ⟨Nat.le_of_ble_eq_true rfl, Nat.le_of_ble_eq_true rfl⟩ 0 9 rfl rfl rfl hl.1 rfl (Nat.le_of_ble_eq_true rfl) dX9_fewestShown_3 ⟨Nat.zero_le _, Nat.zero_le _⟩) (fun H locs hP hS => ?_)
  obtain ⟨z6, hcr, hM⟩ := ob_s hM
  refine res_v (ws' := (wM cI cZ ad mb mo mn mg z6 mt mz ml mi)) F hP hS rfl [0, 1, 2, 3, 4, 5, 6, 7, 8, 9, 10, 11, 12] rfl rfl (runV_of (n := 2) (As := [.int x2, .int z3]) (rest := []) F hP hS rfl [0, 1, 2, 3, 4, 5, 6, 7, 8, 9, 10, 11, 12] rfl rfl (c_X9_findFar l dC dI cI cC cZ sa ad mb mo mn mg mf mt mz ml mi x2 z3 hcr _) gX9_fewestShown_X9_findFar rfl (by decide +kernel) ⟨Nat.le_of_ble_eq_true rfl, Nat.le_of_ble_eq_true rfl⟩ 0 9 rfl rfl rfl hl.1 rfl (Nat.le_of_ble_eq_true rfl) dX9_fewestShown_6 ⟨Nat.zero_le _, Nat.zero_le _⟩) rep_full (fun H locs hP hS => ?_)
  refine lv_iconst (v := 0) hx hb dX9_fewestShown_9 (by decide) ?_
  refine lv_istore (lv' := [(4, .int (0 : Int32)), (0, .ref (ad 0)), (1, .int x1), (2, .int x2), (3, .int x3)]) hx hb dX9_fewestShown_10 hl (by decide) rfl (fun ls hl => ?_)
  exact j12 200 (z6, mz, (0 : Int32)) _ _ _ hP hS (lv_sub hl [1, 2, 3, 4, 0] rfl) hM
set_option maxHeartbeats 4000000 in
set_option maxRecDepth 100000 in
theorem c_X9_fives (l : Launch) (dC : Nat → ClassId) (dI : Nat → Nat → Nat) (cI cC cZ : ClassId) (sa : Nat → Nat)  (x1 : Int32) {res : Int32} (hM : M_X9_fives x1 = some res) : CTi l (dC, dI) [(cI, .int), (cC, .char), (cZ, .boolean)] sa yX9_fives wsX9_fives (rmd 1) [.int x1] ([] : va_W) (fun (_ : Unit) => ([] : va_W)) (res, ()) := by
  refine CTi.enter (own := RX9) (cc := cX9_fives) (maxL := 3) (ret := (some .int)) (by decide) rfl rfl (Nat.le_of_ble_eq_true rfl) ?_
  intro pr e s m below meth c A F hr hlk hP hS ls hl
  obtain ⟨⟨hx, hb, hml, hown, hts⟩, hK, hDD, hA, hKC⟩ := id F
  have hl : lv_has ls 3 [(0, .int x1)] := hl
  have hP : va_P (dC, dI) vwCl ([] : va_W) s.heap := hP
  unfold M_X9_fives at hM
  refine kloop (α := Int32 × Int32) (res := res) (fun k a => M_X9_fives_4 x1 k a) (fun rec a => M_X9_fives_4b x1 rec a) (fun _ => rfl) (fun _ _ => rfl) F (fun a => ([] : va_W)) (fun a => [(0, .int x1), (1, .int a.1), (2, .int a.2)]) (fun a => []) 4 ?_ (fun j4 => ?_)
  · intro rc4 ih4 a4 H locs ls hP hS hl hM
    unfold M_X9_fives_4b at hM
    refine lv_iload_n hx hb dX9_fives_4 rfl (lv_at hl 2 rfl) ?_
    refine lv_iload_n hx hb dX9_fives_5 rfl (lv_at hl 0 rfl) ?_
    refine lv_icmp_ge (tgt := 19) hx hb dX9_fives_6 (by decide) (fun hc => ?_) (fun hc => ?_)
    · have hM := if_pp hc hM
      refine lv_iload_n hx hb dX9_fives_19 rfl (lv_at hl 1 rfl) ?_
      exact ret_i hx hb hr hlk dX9_fives_20 (some_u hM) hP hS
    · have hM := if_nn hc hM
      refine lv_iload_n hx hb dX9_fives_9 rfl (lv_at hl 1 rfl) ?_
      refine lv_iconst (v := 5) hx hb dX9_fives_10 (by decide) ?_
      refine lv_imul hx hb dX9_fives_11 ?_
      refine lv_istore_n (lv' := [(1, .int (a4.1 * (5 : Int32))), (0, .int x1), (2, .int a4.2)]) hx hb dX9_fives_12 rfl hl (by decide) rfl (fun ls hl => ?_)
      refine lv_iinc (v := (a4.2 + (1 : Int32))) (lv' := [(2, .int (a4.2 + (1 : Int32))), (1, .int (a4.1 * (5 : Int32))), (0, .int x1)]) hx hb dX9_fives_13 hl (k := 2) rfl rfl (by decide) rfl (fun ls hl => ?_)
      refine lv_goto (tgt := 4) hx hb dX9_fives_16 (by decide) ?_
      exact ih4 ((a4.1 * (5 : Int32)), (a4.2 + (1 : Int32))) _ _ _ hP hS (lv_sub hl [2, 1, 0] rfl) hM
  refine lv_iconst (v := 1) hx hb dX9_fives_0 (by decide) ?_
  refine lv_istore_n (lv' := [(1, .int (1 : Int32)), (0, .int x1)]) hx hb dX9_fives_1 rfl hl (by decide) rfl (fun ls hl => ?_)
  refine lv_iconst (v := 0) hx hb dX9_fives_2 (by decide) ?_
  refine lv_istore_n (lv' := [(2, .int (0 : Int32)), (1, .int (1 : Int32)), (0, .int x1)]) hx hb dX9_fives_3 rfl hl (by decide) rfl (fun ls hl => ?_)
  exact j4 200 ((1 : Int32), (0 : Int32)) _ _ _ hP hS (lv_sub hl [2, 1, 0] rfl) hM
