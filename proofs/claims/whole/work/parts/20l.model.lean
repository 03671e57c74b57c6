/-! Walks, printed by wip/whole/gen.py -/
theorem inX9_oneMinute_X9 : ∀ w ∈ wsX90, w ∈ wsX9_oneMinute := fun w h => List.mem_cons_of_mem _ (List.mem_append_right _ h)
set_option maxHeartbeats 4000000 in
set_option maxRecDepth 100000 in
theorem c_X9_oneMinute (l : Launch) (dC : Nat → ClassId) (dI : Nat → Nat → Nat) (cI cC cZ : ClassId) (sa : Nat → Nat) (ad : Nat → Nat) (mb : BT) (mo : OT) (mn : NT) (mg : GT) (mf : AR) (mt : TT) (mz : AR) (ml : LT) (mi : IT) (x1 : Int32) {res : LT} (hM : M_X9_oneMinute mb ml x1 = some res) : CTv l (dC, dI) [(cI, .int), (cC, .char), (cZ, .boolean)] sa yX9_oneMinute wsX9_oneMinute (rmd 7) [.ref (ad 0), .int x1] (wM cI cZ ad mb mo mn mg mf mt mz ml mi) (fun (uu : LT) => (wM cI cZ ad mb mo mn mg mf mt mz uu mi)) res := by
  refine CTv.enter (own := RX9) (cc := cX9_oneMinute) (maxL := 6) (ret := none) (by decide) rfl rfl (Nat.le_of_ble_eq_true rfl) ?_
  intro pr e s m below meth c A F hr hlk hP hS ls hl
  obtain ⟨⟨hx, hb, hml, hown, hts⟩, hK, hDD, hA, hKC⟩ := id F
  have hl : lv_has ls 6 [(0, .ref (ad 0)), (1, .int x1)] := hl
  have hP : va_P (dC, dI) vwCl (wM cI cZ ad mb mo mn mg mf mt mz ml mi) s.heap := hP
  unfold M_X9_oneMinute at hM
  refine kloop (α := LT × Int32) (res := res) (fun k a => M_X9_oneMinute_128 mb x1 k a) (fun rec a => M_X9_oneMinute_128b mb x1 rec a) (fun _ => rfl) (fun _ _ => rfl) F (fun a => (wM cI cZ ad mb mo mn mg mf mt mz a.1 mi)) (fun a => [(0, .ref (ad 0)), (3, .int a.2)]) (fun a => []) 128 ?_ (fun j128 => ?_)
  · intro rc128 ih128 a128 H locs ls hP hS hl hM
    unfold M_X9_oneMinute_128b at hM
    refine lv_iload_n hx hb dX9_oneMinute_128 rfl (lv_at hl 1 rfl) ?_
    refine lv_aload_n hx hb dX9_oneMinute_129 rfl (lv_at hl 0 rfl) ?_
    obtain ⟨z130, hcr, hM⟩ := ob_s hM
    refine res_i0 F hP hS rfl [0, 1, 2, 3, 4, 5, 6, 7, 8, 9, 10, 11, 12] rfl rfl (runV_of (n := 0) (As := []) (rest := [.int a128.2]) F hP hS rfl [0, 1, 2, 3, 4, 5, 6, 7, 8, 9, 10, 11, 12] rfl rfl (c_X9_cells l dC dI cI cC cZ sa ad mb mo mn mg mf mt mz a128.1 mi hcr _) gX9_oneMinute_X9_cells rfl (by decide +kernel) ⟨Nat.le_of_ble_eq_true rfl, Nat.le_of_ble_eq_true rfl⟩ 0 9 rfl rfl rfl hl.1 rfl (Nat.le_of_ble_eq_true rfl) dX9_oneMinute_130 ⟨Nat.zero_le _, Nat.zero_le _⟩) (fun H locs hP hS => ?_)
    refine lv_icmp_ge (tgt := 154) hx hb dX9_oneMinute_133 (by decide) (fun hc => ?_) (fun hc => ?_)
    · have hM := if_pp hc hM
      exact ret_v hx hb hr hlk dX9_oneMinute_154 hM hP hS
    · have hM := if_nn hc hM
      refine lv_aload_n hx hb dX9_oneMinute_136 rfl (lv_at hl 0 rfl) ?_
      refine g_get (ci := 9) (C := RX9) (T := TX9) (N := 32) (v := .ref (ad 9)) F hP 0 rfl rfl inX9_oneMinute_X9 26 (by decide) (List.mem_of_getElem? (i := 2) rfl) rfl dX9_oneMinute_137 ?_
      refine lv_iload_n hx hb dX9_oneMinute_140 rfl (lv_at hl 1 rfl) ?_
      refine lv_aload_n hx hb dX9_oneMinute_141 rfl (lv_at hl 0 rfl) ?_
      refine g_get (ci := 9) (C := RX9) (T := TX9) (N := 32) (v := .ref (ad 10)) F hP 0 rfl rfl inX9_oneMinute_X9 27 (by decide) (List.mem_of_getElem? (i := 1) rfl) rfl dX9_oneMinute_142 ?_
      refine lv_iload_n hx hb dX9_oneMinute_145 rfl (lv_at hl 1 rfl) ?_
      obtain ⟨hin, hM⟩ := if_ok hM
      refine va_iald hx hb hK hP 10 0 rfl rfl hin dX9_oneMinute_146 ?_
      obtain ⟨hin, hM⟩ := if_ok hM
      refine g_iast (ws' := (wM cI cZ ad mb mo mn mg mf mt mz ((upd a128.1.1 a128.2.toNatClampNeg (a128.1.2 a128.2.toNatClampNeg)), a128.1.2) mi)) F hP hS rfl 9 0 rfl rfl hin dX9_oneMinute_147 rfl (fun H locs hP hS => ?_)
      refine lv_iinc (v := (a128.2 + (1 : Int32))) (lv' := [(3, .int (a128.2 + (1 : Int32))), (0, .ref (ad 0))]) hx hb dX9_oneMinute_148 hl (k := 1) rfl rfl (by decide) rfl (fun ls hl => ?_)
      refine lv_goto (tgt := 128) hx hb dX9_oneMinute_151 (by decide) ?_
      exact ih128 (((upd a128.1.1 a128.2.toNatClampNeg (a128.1.2 a128.2.toNatClampNeg)), a128.1.2), (a128.2 + (1 : Int32))) _ _ _ hP hS (lv_sub hl [1, 0] rfl) hM
  refine kloop (α := LT × Int32 × Int32) (res := res) (fun k a => M_X9_oneMinute_30 mb x1 k a) (fun rec a => M_X9_oneMinute_30b mb x1 rec a) (fun _ => rfl) (fun _ _ => rfl) F (fun a => (wM cI cZ ad mb mo mn mg mf mt mz a.1 mi)) (fun a => [(0, .ref (ad 0)), (1, .int x1), (2, .int a.2.1), (3, .int a.2.2)]) (fun a => []) 30 ?_ (fun j30 => ?_)
  · intro rc30 ih30 a30 H locs ls hP hS hl hM
    unfold M_X9_oneMinute_30b at hM
    refine kblk (α := LT × Int32 × Int32) (res := res) (fun a => M_X9_oneMinute_120 mb x1 rc30 a) F (fun a => (wM cI cZ ad mb mo mn mg mf mt mz a.1 mi)) (fun a => [(0, .ref (ad 0)), (1, .int x1), (2, .int a.2.1), (3, .int a.2.2)]) (fun a => []) 120 ?_ (fun j120 => ?_)
    · intro a120 H locs ls hP hS hl hM
      unfold M_X9_oneMinute_120 at hM
      refine lv_iinc (v := (a120.2.2 + (1 : Int32))) (lv' := [(3, .int (a120.2.2 + (1 : Int32))), (0, .ref (ad 0)), (1, .int x1), (2, .int a120.2.1)]) hx hb dX9_oneMinute_120 hl (k := 3) rfl rfl (by decide) rfl (fun ls hl => ?_)
      refine lv_goto (tgt := 30) hx hb dX9_oneMinute_123 (by decide) ?_
      exact ih30 (a120.1, a120.2.1, (a120.2.2 + (1 : Int32))) _ _ _ hP hS (lv_sub hl [1, 2, 3, 0] rfl) hM
    refine kloop (α := LT × Int32 × Int32 × Int32) (res := res) (fun k a => M_X9_oneMinute_41 mb x1 rc30 k a) (fun rec a => M_X9_oneMinute_41b mb x1 rc30 rec a) (fun _ => rfl) (fun _ _ => rfl) F (fun a => (wM cI cZ ad mb mo mn mg mf mt mz a.1 mi)) (fun a => [(0, .ref (ad 0)), (1, .int x1), (2, .int a.2.1), (3, .int a.2.2.1), (4, .int a.2.2.2)]) (fun a => []) 41 ?_ (fun j41 => ?_)
    · intro rc41 ih41 a41 H locs ls hP hS hl hM
      unfold M_X9_oneMinute_41b at hM
      refine kblk (α := LT × Int32 × Int32 × Int32) (res := res) (fun a => M_X9_oneMinute_114 mb x1 rc30 rc41 a) F (fun a => (wM cI cZ ad mb mo mn mg mf mt mz a.1 mi)) (fun a => [(0, .ref (ad 0)), (1, .int x1), (2, .int a.2.1), (3, .int a.2.2.1), (4, .int a.2.2.2)]) (fun a => []) 114 ?_ (fun j114 => ?_)
      · intro a114 H locs ls hP hS hl hM
        unfold M_X9_oneMinute_114 at hM
        refine lv_iinc (v := (a114.2.2.2 + (1 : Int32))) (lv' := [(4, .int (a114.2.2.2 + (1 : Int32))), (0, .ref (ad 0)), (1, .int x1), (2, .int a114.2.1), (3, .int a114.2.2.1)]) hx hb dX9_oneMinute_114 hl (k := 4) rfl rfl (by decide) rfl (fun ls hl => ?_)
        refine lv_goto (tgt := 41) hx hb dX9_oneMinute_117 (by decide) ?_
        exact ih41 (a114.1, a114.2.1, a114.2.2.1, (a114.2.2.2 + (1 : Int32))) _ _ _ hP hS (lv_sub hl [1, 2, 3, 4, 0] rfl) hM
      refine kblk (α := LT × Int32 × Int32 × Int32 × Int32 × Int32 × Int32) (res := res) (fun a => M_X9_oneMinute_95 mb x1 rc30 rc41 a) F (fun a => (wM cI cZ ad mb mo mn mg mf mt mz a.1 mi)) (fun a => [(0, .ref (ad 0)), (1, .int x1), (2, .int a.2.1), (3, .int a.2.2.1), (4, .int a.2.2.2.1), (5, .int a.2.2.2.2.1)]) (fun a => [.int a.2.2.2.2.2.1, .int a.2.2.2.2.2.2]) 95 ?_ (fun j95 => ?_)
      · intro a95 H locs ls hP hS hl hM
        unfold M_X9_oneMinute_95 at hM
        refine lv_icmp_ne (tgt := 114) hx hb dX9_oneMinute_95 (by decide) (fun hc => ?_) (fun hc => ?_)
        · have hM := if_nn hc hM
          exact j114 (a95.1, a95.2.1, a95.2.2.1, a95.2.2.2.1) _ _ _ hP hS (lv_sub hl [0, 1, 2, 3, 4] rfl) hM
        · have hM := if_pp hc hM
          refine lv_aload_n hx hb dX9_oneMinute_98 rfl (lv_at hl 0 rfl) ?_
          refine g_get (ci := 9) (C := RX9) (T := TX9) (N := 32) (v := .ref (ad 10)) F hP 0 rfl rfl inX9_oneMinute_X9 27 (by decide) (List.mem_of_getElem? (i := 1) rfl) rfl dX9_oneMinute_99 ?_
          refine lv_iload hx hb dX9_oneMinute_102 (lv_at hl 5 rfl) ?_
          refine lv_dup2_11 hx hb dX9_oneMinute_104 rfl rfl ?_
          obtain ⟨hin, hM⟩ := if_ok hM
          refine va_iald hx hb hK hP 10 0 rfl rfl hin dX9_oneMinute_105 ?_
          refine lv_aload_n hx hb dX9_oneMinute_106 rfl (lv_at hl 0 rfl) ?_
          refine g_get (ci := 9) (C := RX9) (T := TX9) (N := 32) (v := .ref (ad 9)) F hP 0 rfl rfl inX9_oneMinute_X9 26 (by decide) (List.mem_of_getElem? (i := 2) rfl) rfl dX9_oneMinute_107 ?_
          refine lv_iload_n hx hb dX9_oneMinute_110 rfl (lv_at hl 3 rfl) ?_
          obtain ⟨hin, hM⟩ := if_ok hM
          refine va_iald hx hb hK hP 9 0 rfl rfl hin dX9_oneMinute_111 ?_
          refine lv_iadd hx hb dX9_oneMinute_112 ?_
          obtain ⟨hin, hM⟩ := if_ok hM
          refine g_iast (ws' := (wM cI cZ ad mb mo mn mg mf mt mz (a95.1.1, (upd a95.1.2 a95.2.2.2.2.1.toNatClampNeg ((a95.1.2 a95.2.2.2.2.1.toNatClampNeg) + (a95.1.1 a95.2.2.1.toNatClampNeg)))) mi)) F hP hS rfl 10 0 rfl rfl hin dX9_oneMinute_113 rfl (fun H locs hP hS => ?_)
          exact j114 ((a95.1.1, (upd a95.1.2 a95.2.2.2.2.1.toNatClampNeg ((a95.1.2 a95.2.2.2.2.1.toNatClampNeg) + (a95.1.1 a95.2.2.1.toNatClampNeg)))), a95.2.1, a95.2.2.1, a95.2.2.2.1) _ _ _ hP hS (lv_sub hl [0, 1, 2, 3, 4] rfl) hM
      refine kblk (α := LT × Int32 × Int32 × Int32 × Int32) (res := res) (fun a => M_X9_oneMinute_64 mb x1 rc30 rc41 a) F (fun a => (wM cI cZ ad mb mo mn mg mf mt mz a.1 mi)) (fun a => [(0, .ref (ad 0)), (1, .int x1), (2, .int a.2.1), (3, .int a.2.2.1), (4, .int a.2.2.2.1)]) (fun a => [.int a.2.2.2.2]) 64 ?_ (fun j64 => ?_)
      · intro a64 H locs ls hP hS hl hM
        unfold M_X9_oneMinute_64 at hM
        refine lv_istore (lv' := [(5, .int a64.2.2.2.2), (0, .ref (ad 0)), (1, .int x1), (2, .int a64.2.1), (3, .int a64.2.2.1), (4, .int a64.2.2.2.1)]) hx hb dX9_oneMinute_64 hl (by decide) rfl (fun ls hl => ?_)
        refine lv_iload hx hb dX9_oneMinute_66 (lv_at hl 0 rfl) ?_
        refine lv_if_lt (tgt := 114) hx hb dX9_oneMinute_68 (by decide) (fun hc => ?_) (fun hc => ?_)
        · have hM := if_pp hc hM
          exact j114 (a64.1, a64.2.1, a64.2.2.1, a64.2.2.2.1) _ _ _ hP hS (lv_sub hl [1, 2, 3, 4, 5] rfl) hM
        · have hM := if_nn hc hM
          refine lv_aload_n hx hb dX9_oneMinute_71 rfl (lv_at hl 1 rfl) ?_
          refine g_get (ci := 9) (C := RX9) (T := TX9) (N := 32) (v := .ref (ad 9)) F hP 0 rfl rfl inX9_oneMinute_X9 26 (by decide) (List.mem_of_getElem? (i := 2) rfl) rfl dX9_oneMinute_72 ?_
          refine lv_iload_n hx hb dX9_oneMinute_75 rfl (lv_at hl 4 rfl) ?_
          obtain ⟨hin, hM⟩ := if_ok hM
          refine va_iald hx hb hK hP 9 0 rfl rfl hin dX9_oneMinute_76 ?_
          refine lv_if_le (tgt := 114) hx hb dX9_oneMinute_77 (by decide) (fun hc => ?_) (fun hc => ?_)
          · have hM := if_pp hc hM
            exact j114 (a64.1, a64.2.1, a64.2.2.1, a64.2.2.2.1) _ _ _ hP hS (lv_sub hl [1, 2, 3, 4, 5] rfl) hM
          · have hM := if_nn hc hM
            refine lv_iload_n hx hb dX9_oneMinute_80 rfl (lv_at hl 3 rfl) ?_
            refine lv_iload hx hb dX9_oneMinute_81 (lv_at hl 0 rfl) ?_
            refine lv_ishr hx hb dX9_oneMinute_83 ?_
            refine lv_iconst (v := 1) hx hb dX9_oneMinute_84 (by decide) ?_
            refine lv_iand hx hb dX9_oneMinute_85 ?_
            refine lv_iload_n hx hb dX9_oneMinute_86 rfl (lv_at hl 2 rfl) ?_
            refine lv_if_eq (tgt := 94) hx hb dX9_oneMinute_87 (by decide) (fun hc => ?_) (fun hc => ?_)
            · have hM := if_pp hc hM
              refine lv_iconst (v := 1) hx hb dX9_oneMinute_94 (by decide) ?_
              exact j95 (a64.1, a64.2.1, a64.2.2.1, a64.2.2.2.1, a64.2.2.2.2, (1 : Int32), ((a64.2.1 >>> (a64.2.2.2.2 &&& 31)) &&& (1 : Int32))) _ _ _ hP hS (lv_sub hl [1, 2, 3, 4, 5, 0] rfl) hM
            · have hM := if_nn hc hM
              refine lv_iconst (v := 0) hx hb dX9_oneMinute_90 (by decide) ?_
              refine lv_goto (tgt := 95) hx hb dX9_oneMinute_91 (by decide) ?_
              exact j95 (a64.1, a64.2.1, a64.2.2.1, a64.2.2.2.1, a64.2.2.2.2, (0 : Int32), ((a64.2.1 >>> (a64.2.2.2.2 &&& 31)) &&& (1 : Int32))) _ _ _ hP hS (lv_sub hl [1, 2, 3, 4, 5, 0] rfl) hM
      refine lv_iload hx hb dX9_oneMinute_41 (lv_at hl 4 rfl) ?_
      refine lv_iconst (v := 5) hx hb dX9_oneMinute_43 (by decide) ?_
      refine lv_icmp_ge (tgt := 120) hx hb dX9_oneMinute_44 (by decide) (fun hc => ?_) (fun hc => ?_)
      · have hM := if_pp hc hM
        exact j120 (a41.1, a41.2.1, a41.2.2.1) _ _ _ hP hS (lv_sub hl [0, 1, 2, 3] rfl) hM
      · have hM := if_nn hc hM
        refine lv_iload hx hb dX9_oneMinute_47 (lv_at hl 4 rfl) ?_
        refine lv_iconst (v := 4) hx hb dX9_oneMinute_49 (by decide) ?_
        refine lv_icmp_ne (tgt := 57) hx hb dX9_oneMinute_50 (by decide) (fun hc => ?_) (fun hc => ?_)
        · have hM := if_nn hc hM
          refine lv_aload_n hx hb dX9_oneMinute_57 rfl (lv_at hl 0 rfl) ?_
          refine lv_iload_n hx hb dX9_oneMinute_58 rfl (lv_at hl 3 rfl) ?_
          refine lv_iload hx hb dX9_oneMinute_59 (lv_at hl 4 rfl) ?_
          obtain ⟨z61, hcr, hM⟩ := ob_s hM
          refine res_i0 F hP hS rfl [0, 1, 2, 3, 4, 5, 6, 7, 8, 9, 10, 11, 12] rfl rfl (runV_of (n := 2) (As := [.int a41.2.2.1, .int a41.2.2.2]) (rest := []) F hP hS rfl [0, 1, 2, 3, 4, 5, 6, 7, 8, 9, 10, 11, 12] rfl rfl (c_X9_beyond l dC dI cI cC cZ sa ad mb mo mn mg mf mt mz a41.1 mi a41.2.2.1 a41.2.2.2 hcr _) gX9_oneMinute_X9_beyond rfl (by decide +kernel) ⟨Nat.le_of_ble_eq_true rfl, Nat.le_of_ble_eq_true rfl⟩ 0 9 rfl rfl rfl hl.1 rfl (Nat.le_of_ble_eq_true rfl) dX9_oneMinute_61 ⟨Nat.zero_le _, Nat.zero_le _⟩) (fun H locs hP hS => ?_)
          exact j64 (a41.1, a41.2.1, a41.2.2.1, a41.2.2.2, z61) _ _ _ hP hS (lv_sub hl [0, 1, 2, 3, 4] rfl) hM
        · have hM := if_pp hc hM
          refine lv_iload_n hx hb dX9_oneMinute_53 rfl (lv_at hl 3 rfl) ?_
          refine lv_goto (tgt := 64) hx hb dX9_oneMinute_54 (by decide) ?_
          exact j64 (a41.1, a41.2.1, a41.2.2.1, a41.2.2.2, a41.2.2.1) _ _ _ hP hS (lv_sub hl [0, 1, 2, 3, 4] rfl) hM
    refine lv_iload_n hx hb dX9_oneMinute_30 rfl (lv_at hl 3 rfl) ?_
    refine lv_aload_n hx hb dX9_oneMinute_31 rfl (lv_at hl 0 rfl) ?_
    obtain ⟨z32, hcr, hM⟩ := ob_s hM
    refine res_i0 F hP hS rfl [0, 1, 2, 3, 4, 5, 6, 7, 8, 9, 10, 11, 12] rfl rfl (runV_of (n := 0) (As := []) (rest := [.int a30.2.2]) F hP hS rfl [0, 1, 2, 3, 4, 5, 6, 7, 8, 9, 10, 11, 12] rfl rfl (c_X9_cells l dC dI cI cC cZ sa ad mb mo mn mg mf mt mz a30.1 mi hcr _) gX9_oneMinute_X9_cells rfl (by decide +kernel) ⟨Nat.le_of_ble_eq_true rfl, Nat.le_of_ble_eq_true rfl⟩ 0 9 rfl rfl rfl hl.1 rfl (Nat.le_of_ble_eq_true rfl) dX9_oneMinute_32 ⟨Nat.zero_le _, Nat.zero_le _⟩) (fun H locs hP hS => ?_)
    refine lv_icmp_ge (tgt := 126) hx hb dX9_oneMinute_35 (by decide) (fun hc => ?_) (fun hc => ?_)
    · have hM := if_pp hc hM
      refine lv_iconst (v := 0) hx hb dX9_oneMinute_126 (by decide) ?_
      refine lv_istore_n (lv' := [(3, .int (0 : Int32)), (0, .ref (ad 0)), (1, .int x1), (2, .int a30.2.1)]) hx hb dX9_oneMinute_127 rfl hl (by decide) rfl (fun ls hl => ?_)
      exact j128 200 (a30.1, (0 : Int32)) _ _ _ hP hS (lv_sub hl [1, 0] rfl) hM
    · have hM := if_nn hc hM
      refine lv_iconst (v := 0) hx hb dX9_oneMinute_38 (by decide) ?_
      refine lv_istore (lv' := [(4, .int (0 : Int32)), (0, .ref (ad 0)), (1, .int x1), (2, .int a30.2.1), (3, .int a30.2.2)]) hx hb dX9_oneMinute_39 hl (by decide) rfl (fun ls hl => ?_)
      exact j41 200 (a30.1, a30.2.1, a30.2.2, (0 : Int32)) _ _ _ hP hS (lv_sub hl [1, 2, 3, 4, 0] rfl) hM
  refine kloop (α := LT × Int32 × Int32) (res := res) (fun k a => M_X9_oneMinute_7 mb x1 k a) (fun rec a => M_X9_oneMinute_7b mb x1 rec a) (fun _ => rfl) (fun _ _ => rfl) F (fun a => (wM cI cZ ad mb mo mn mg mf mt mz a.1 mi)) (fun a => [(0, .ref (ad 0)), (1, .int x1), (2, .int a.2.1), (3, .int a.2.2)]) (fun a => []) 7 ?_ (fun j7 => ?_)
  · intro rc7 ih7 a7 H locs ls hP hS hl hM
    unfold M_X9_oneMinute_7b at hM
    refine lv_iload_n hx hb dX9_oneMinute_7 rfl (lv_at hl 3 rfl) ?_
    refine lv_aload_n hx hb dX9_oneMinute_8 rfl (lv_at hl 0 rfl) ?_
    obtain ⟨z9, hcr, hM⟩ := ob_s hM
    refine res_i0 F hP hS rfl [0, 1, 2, 3, 4, 5, 6, 7, 8, 9, 10, 11, 12] rfl rfl (runV_of (n := 0) (As := []) (rest := [.int a7.2.2]) F hP hS rfl [0, 1, 2, 3, 4, 5, 6, 7, 8, 9, 10, 11, 12] rfl rfl (c_X9_cells l dC dI cI cC cZ sa ad mb mo mn mg mf mt mz a7.1 mi hcr _) gX9_oneMinute_X9_cells rfl (by decide +kernel) ⟨Nat.le_of_ble_eq_true rfl, Nat.le_of_ble_eq_true rfl⟩ 0 9 rfl rfl rfl hl.1 rfl (Nat.le_of_ble_eq_true rfl) dX9_oneMinute_9 ⟨Nat.zero_le _, Nat.zero_le _⟩) (fun H locs hP hS => ?_)
    refine lv_icmp_ge (tgt := 28) hx hb dX9_oneMinute_12 (by decide) (fun hc => ?_) (fun hc => ?_)
    · have hM := if_pp hc hM
      refine lv_iconst (v := 0) hx hb dX9_oneMinute_28 (by decide) ?_
      refine lv_istore_n (lv' := [(3, .int (0 : Int32)), (0, .ref (ad 0)), (1, .int x1), (2, .int a7.2.1)]) hx hb dX9_oneMinute_29 rfl hl (by decide) rfl (fun ls hl => ?_)
      exact j30 200 (a7.1, a7.2.1, (0 : Int32)) _ _ _ hP hS (lv_sub hl [1, 2, 3, 0] rfl) hM
    · have hM := if_nn hc hM
      refine lv_aload_n hx hb dX9_oneMinute_15 rfl (lv_at hl 0 rfl) ?_
      refine g_get (ci := 9) (C := RX9) (T := TX9) (N := 32) (v := .ref (ad 10)) F hP 0 rfl rfl inX9_oneMinute_X9 27 (by decide) (List.mem_of_getElem? (i := 1) rfl) rfl dX9_oneMinute_16 ?_
      refine lv_iload_n hx hb dX9_oneMinute_19 rfl (lv_at hl 3 rfl) ?_
      refine lv_iconst (v := 0) hx hb dX9_oneMinute_20 (by decide) ?_
      obtain ⟨hin, hM⟩ := if_ok hM
      refine g_iast (ws' := (wM cI cZ ad mb mo mn mg mf mt mz (a7.1.1, (upd a7.1.2 a7.2.2.toNatClampNeg (0 : Int32))) mi)) F hP hS rfl 10 0 rfl rfl hin dX9_oneMinute_21 rfl (fun H locs hP hS => ?_)
      refine lv_iinc (v := (a7.2.2 + (1 : Int32))) (lv' := [(3, .int (a7.2.2 + (1 : Int32))), (0, .ref (ad 0)), (1, .int x1), (2, .int a7.2.1)]) hx hb dX9_oneMinute_22 hl (k := 3) rfl rfl (by decide) rfl (fun ls hl => ?_)
      refine lv_goto (tgt := 7) hx hb dX9_oneMinute_25 (by decide) ?_
      exact ih7 ((a7.1.1, (upd a7.1.2 a7.2.2.toNatClampNeg (0 : Int32))), a7.2.1, (a7.2.2 + (1 : Int32))) _ _ _ hP hS (lv_sub hl [1, 2, 3, 0] rfl) hM
  refine lv_aload_n hx hb dX9_oneMinute_0 rfl (lv_at hl 0 rfl) ?_
  obtain ⟨z1, hcr, hM⟩ := ob_s hM
  refine res_i0 F hP hS rfl [0, 1, 2, 3, 4, 5, 6, 7, 8, 9, 10, 11, 12] rfl rfl (runV_of (n := 0) (As := []) (rest := []) F hP hS rfl [0, 1, 2, 3, 4, 5, 6, 7, 8, 9, 10, 11, 12] rfl rfl (c_X9_bare l dC dI cI cC cZ sa ad mb mo mn mg mf mt mz ml mi hcr _) gX9_oneMinute_X9_bare rfl (by decide +kernel) ⟨Nat.le_of_ble_eq_true rfl, Nat.le_of_ble_eq_true rfl⟩ 0 9 rfl rfl rfl hl.1 rfl (Nat.le_of_ble_eq_true rfl) dX9_oneMinute_1 ⟨Nat.zero_le _, Nat.zero_le _⟩) (fun H locs hP hS => ?_)
  refine lv_istore_n (lv' := [(2, .int z1), (0, .ref (ad 0)), (1, .int x1)]) hx hb dX9_oneMinute_4 rfl hl (by decide) rfl (fun ls hl => ?_)
  refine lv_iconst (v := 0) hx hb dX9_oneMinute_5 (by decide) ?_
  refine lv_istore_n (lv' := [(3, .int (0 : Int32)), (2, .int z1), (0, .ref (ad 0)), (1, .int x1)]) hx hb dX9_oneMinute_6 rfl hl (by decide) rfl (fun ls hl => ?_)
  exact j7 200 (ml, z1, (0 : Int32)) _ _ _ hP hS (lv_sub hl [2, 3, 1, 0] rfl) hM
theorem inX9_place_X9 : ∀ w ∈ wsX90, w ∈ wsX9_place := fun w h => List.mem_cons_of_mem _ (List.mem_append_right _ h)
set_option maxHeartbeats 4000000 in
set_option maxRecDepth 100000 in
theorem c_X9_place (l : Launch) (dC : Nat → ClassId) (dI : Nat → Nat → Nat) (cI cC cZ : ClassId) (sa : Nat → Nat) (ad : Nat → Nat) (mb : BT) (mo : OT) (mn : NT) (mg : GT) (mf : AR) (mt : TT) (mz : AR) (ml : LT) (mi : IT) (x1 : Int32) (x2 : Int32) {res : Int32 × BT} (hM : M_X9_place mb x1 x2 = some res) : CTi l (dC, dI) [(cI, .int), (cC, .char), (cZ, .boolean)] sa yX9_place wsX9_place (rmd 3) [.ref (ad 0), .int x1, .int x2] (wM cI cZ ad mb mo mn mg mf mt mz ml mi) (fun (uu : BT) => (wM cI cZ ad uu mo mn mg mf mt mz ml mi)) res := by
  refine CTi.enter (own := RX9) (cc := cX9_place) (maxL := 4) (ret := (some .int)) (by decide) rfl rfl (Nat.le_of_ble_eq_true rfl) ?_
  intro pr e s m below meth c A F hr hlk hP hS ls hl
  obtain ⟨⟨hx, hb, hml, hown, hts⟩, hK, hDD, hA, hKC⟩ := id F
  have hl : lv_has ls 4 [(0, .ref (ad 0)), (1, .int x1), (2, .int x2)] := hl
  have hP : va_P (dC, dI) vwCl (wM cI cZ ad mb mo mn mg mf mt mz ml mi) s.heap := hP
  unfold M_X9_place at hM
  refine kblk (α := BT × Int32 × Int32) (res := res) (fun a => M_X9_place_80 x1 x2 a) F (fun a => (wM cI cZ ad a.1 mo mn mg mf mt mz ml mi)) (fun a => [(0, .ref (ad 0)), (3, .int a.2.1)]) (fun a => [.int a.2.2, .ref (ad 0)]) 80 ?_ (fun j80 => ?_)
  · intro a80 H locs ls hP hS hl hM
    unfold M_X9_place_80 at hM
    refine g_put (ws' := (wM cI cZ ad (a80.1.1, a80.1.2.1, a80.1.2.2.1, a80.2.2, a80.1.2.2.2.2.1, a80.1.2.2.2.2.2.1, a80.1.2.2.2.2.2.2.1, a80.1.2.2.2.2.2.2.2.1, a80.1.2.2.2.2.2.2.2.2.1, a80.1.2.2.2.2.2.2.2.2.2) mo mn mg mf mt mz ml mi)) (ci := 9) (C := RX9) (T := TX9) (N := 32) (v := .int a80.2.2) (ty := .int) F hP hS rfl tyX9 tyX9_ok nmX9 0 rfl rfl inX9_place_X9 4 (by decide) (List.mem_of_getElem? (i := 2) rfl) rfl (by decide +kernel) rfl rfl (Nat.le_of_ble_eq_true rfl) dX9_place_80 rfl (fun H locs hP hS => ?_)
    refine lv_iload_n hx hb dX9_place_83 rfl (lv_at hl 1 rfl) ?_
    exact ret_i hx hb hr hlk dX9_place_84 hM hP hS
  refine kblk (α := BT × Int32 × Int32) (res := res) (fun a => M_X9_place_63 x1 x2 a) F (fun a => (wM cI cZ ad a.1 mo mn mg mf mt mz ml mi)) (fun a => [(0, .ref (ad 0)), (1, .int x1), (2, .int x2), (3, .int a.2.1)]) (fun a => [.int a.2.2, .ref (ad 0)]) 63 ?_ (fun j63 => ?_)
  · intro a63 H locs ls hP hS hl hM
    unfold M_X9_place_63 at hM
    refine g_put (ws' := (wM cI cZ ad (a63.1.1, a63.1.2.1, a63.2.2, a63.1.2.2.2.1, a63.1.2.2.2.2.1, a63.1.2.2.2.2.2.1, a63.1.2.2.2.2.2.2.1, a63.1.2.2.2.2.2.2.2.1, a63.1.2.2.2.2.2.2.2.2.1, a63.1.2.2.2.2.2.2.2.2.2) mo mn mg mf mt mz ml mi)) (ci := 9) (C := RX9) (T := TX9) (N := 32) (v := .int a63.2.2) (ty := .int) F hP hS rfl tyX9 tyX9_ok nmX9 0 rfl rfl inX9_place_X9 3 (by decide) (List.mem_of_getElem? (i := 1) rfl) rfl (by decide +kernel) rfl rfl (Nat.le_of_ble_eq_true rfl) dX9_place_63 rfl (fun H locs hP hS => ?_)
    refine lv_aload_n hx hb dX9_place_66 rfl (lv_at hl 0 rfl) ?_
    refine lv_iload_n hx hb dX9_place_67 rfl (lv_at hl 1 rfl) ?_
    refine lv_iconst (v := 1) hx hb dX9_place_68 (by decide) ?_
    refine lv_icmp_ne (tgt := 76) hx hb dX9_place_69 (by decide) (fun hc => ?_) (fun hc => ?_)
    · have hM := if_nn hc hM
      refine lv_aload_n hx hb dX9_place_76 rfl (lv_at hl 0 rfl) ?_
      refine g_get (ci := 9) (C := RX9) (T := TX9) (N := 32) (v := .int a63.1.2.2.2.1) F hP 0 rfl rfl inX9_place_X9 4 (by decide) (List.mem_of_getElem? (i := 2) rfl) rfl dX9_place_77 ?_
      exact j80 ((a63.1.1, a63.1.2.1, a63.2.2, a63.1.2.2.2.1, a63.1.2.2.2.2.1, a63.1.2.2.2.2.2.1, a63.1.2.2.2.2.2.2.1, a63.1.2.2.2.2.2.2.2.1, a63.1.2.2.2.2.2.2.2.2.1, a63.1.2.2.2.2.2.2.2.2.2), a63.2.1, a63.1.2.2.2.1) _ _ _ hP hS (lv_sub hl [0, 3] rfl) hM
    · have hM := if_pp hc hM
      refine lv_iload_n hx hb dX9_place_72 rfl (lv_at hl 2 rfl) ?_
      refine lv_goto (tgt := 80) hx hb dX9_place_73 (by decide) ?_
      exact j80 ((a63.1.1, a63.1.2.1, a63.2.2, a63.1.2.2.2.1, a63.1.2.2.2.2.1, a63.1.2.2.2.2.2.1, a63.1.2.2.2.2.2.2.1, a63.1.2.2.2.2.2.2.2.1, a63.1.2.2.2.2.2.2.2.2.1, a63.1.2.2.2.2.2.2.2.2.2), a63.2.1, x2) _ _ _ hP hS (lv_sub hl [0, 3] rfl) hM
  refine kblk (α := BT × Int32) (res := res) (fun a => M_X9_place_49 x1 x2 a) F (fun a => (wM cI cZ ad a.1 mo mn mg mf mt mz ml mi)) (fun a => [(0, .ref (ad 0)), (1, .int x1), (2, .int x2)]) (fun a => [.int a.2]) 49 ?_ (fun j49 => ?_)
  · intro a49 H locs ls hP hS hl hM
    unfold M_X9_place_49 at hM
    refine lv_istore_n (lv' := [(3, .int a49.2), (0, .ref (ad 0)), (1, .int x1), (2, .int x2)]) hx hb dX9_place_49 rfl hl (by decide) rfl (fun ls hl => ?_)
    refine lv_aload_n hx hb dX9_place_50 rfl (lv_at hl 1 rfl) ?_
    refine lv_iload_n hx hb dX9_place_51 rfl (lv_at hl 2 rfl) ?_
    refine lv_if_ne (tgt := 59) hx hb dX9_place_52 (by decide) (fun hc => ?_) (fun hc => ?_)
    · have hM := if_nn hc hM
      refine lv_aload_n hx hb dX9_place_59 rfl (lv_at hl 1 rfl) ?_
      refine g_get (ci := 9) (C := RX9) (T := TX9) (N := 32) (v := .int a49.1.2.2.1) F hP 0 rfl rfl inX9_place_X9 3 (by decide) (List.mem_of_getElem? (i := 1) rfl) rfl dX9_place_60 ?_
      exact j63 (a49.1, a49.2, a49.1.2.2.1) _ _ _ hP hS (lv_sub hl [1, 2, 3, 0] rfl) hM
    · have hM := if_pp hc hM
      refine lv_iload_n hx hb dX9_place_55 rfl (lv_at hl 3 rfl) ?_
      refine lv_goto (tgt := 63) hx hb dX9_place_56 (by decide) ?_
      exact j63 (a49.1, a49.2, x2) _ _ _ hP hS (lv_sub hl [1, 2, 3, 0] rfl) hM
  refine lv_aload_n hx hb dX9_place_0 rfl (lv_at hl 0 rfl) ?_
  refine lv_iload_n hx hb dX9_place_1 rfl (lv_at hl 2 rfl) ?_
  obtain ⟨z2, hcr, hM⟩ := ob_s hM
  refine res_i0 F hP hS rfl [0, 1, 2, 3, 4, 5, 6, 7, 8, 9, 10, 11, 12] rfl rfl (runV_of (n := 1) (As := [.int x2]) (rest := []) F hP hS rfl [0, 1, 2, 3, 4, 5, 6, 7, 8, 9, 10, 11, 12] rfl rfl (c_X9_isCell l dC dI cI cC cZ sa ad mb mo mn mg mf mt mz ml mi x2 hcr _) gX9_place_X9_isCell rfl (by decide +kernel) ⟨Nat.le_of_ble_eq_true rfl, Nat.le_of_ble_eq_true rfl⟩ 0 9 rfl rfl rfl hl.1 rfl (Nat.le_of_ble_eq_true rfl) dX9_place_2 ⟨Nat.zero_le _, Nat.zero_le _⟩) (fun H locs hP hS => ?_)
  refine lv_if_ne (tgt := 10) hx hb dX9_place_5 (by decide) (fun hc => ?_) (fun hc => ?_)
  · have hM := if_nn hc hM
    refine lv_iload_n hx hb dX9_place_10 rfl (lv_at hl 1 rfl) ?_
    refine lv_i2l (v := x1.toInt64) hx hb dX9_place_11 rfl ?_
    refine lv_lconst (v := 0) hx hb dX9_place_12 (by decide) ?_
    refine lv_lconst (v := 1) hx hb dX9_place_13 (by decide) ?_
    obtain ⟨z14, hcr, hM⟩ := ob_s hM
    refine res_i0 F hP hS rfl [] rfl rfl (runS_of (n := 3) (As := [.long x1.toInt64, .long (0 : Int64), .long (1 : Int64)]) (rest := []) F hP hS rfl [] rfl rfl (c_X9_in l dC dI cI cC cZ sa x1.toInt64 (0 : Int64) (1 : Int64) hcr _) gX9_place_X9_in rfl (by decide +kernel) ⟨Nat.le_of_ble_eq_true rfl, Nat.le_of_ble_eq_true rfl⟩ rfl hl.1 rfl (Nat.le_of_ble_eq_true rfl) dX9_place_14 ⟨Nat.zero_le _, Nat.zero_le _⟩) (fun H locs hP hS => ?_)
    refine lv_if_ne (tgt := 23) hx hb dX9_place_17 (by decide) (fun hc => ?_) (fun hc => ?_)
    · have hM := if_nn hc hM
      refine lv_aload_n hx hb dX9_place_23 rfl (lv_at hl 0 rfl) ?_
      refine lv_iload_n hx hb dX9_place_24 rfl (lv_at hl 2 rfl) ?_
      obtain ⟨z25, hcr, hM⟩ := ob_s hM
      refine res_i0 F hP hS rfl [0, 1, 2, 3, 4, 5, 6, 7, 8, 9, 10, 11, 12] rfl rfl (runV_of (n := 1) (As := [.int x2]) (rest := []) F hP hS rfl [0, 1, 2, 3, 4, 5, 6, 7, 8, 9, 10, 11, 12] rfl rfl (c_X9_isWall l dC dI cI cC cZ sa ad mb mo mn mg mf mt mz ml mi x2 hcr _) gX9_place_X9_isWall rfl (by decide +kernel) ⟨Nat.le_of_ble_eq_true rfl, Nat.le_of_ble_eq_true rfl⟩ 0 9 rfl rfl rfl hl.1 rfl (Nat.le_of_ble_eq_true rfl) dX9_place_25 ⟨Nat.zero_le _, Nat.zero_le _⟩) (fun H locs hP hS => ?_)
      refine lv_if_eq (tgt := 34) hx hb dX9_place_28 (by decide) (fun hc => ?_) (fun hc => ?_)
      · have hM := if_pp hc hM
        refine lv_iload_n hx hb dX9_place_34 rfl (lv_at hl 1 rfl) ?_
        refine lv_if_ne (tgt := 45) hx hb dX9_place_35 (by decide) (fun hc => ?_) (fun hc => ?_)
        · have hM := if_nn hc hM
          refine lv_aload_n hx hb dX9_place_45 rfl (lv_at hl 0 rfl) ?_
          refine g_get (ci := 9) (C := RX9) (T := TX9) (N := 32) (v := .int mb.2.2.2.1) F hP 0 rfl rfl inX9_place_X9 4 (by decide) (List.mem_of_getElem? (i := 2) rfl) rfl dX9_place_46 ?_
          exact j49 (mb, mb.2.2.2.1) _ _ _ hP hS (lv_sub hl [0, 1, 2] rfl) hM
        · have hM := if_pp hc hM
          refine lv_aload_n hx hb dX9_place_38 rfl (lv_at hl 0 rfl) ?_
          refine g_get (ci := 9) (C := RX9) (T := TX9) (N := 32) (v := .int mb.2.2.1) F hP 0 rfl rfl inX9_place_X9 3 (by decide) (List.mem_of_getElem? (i := 1) rfl) rfl dX9_place_39 ?_
          refine lv_goto (tgt := 49) hx hb dX9_place_42 (by decide) ?_
          exact j49 (mb, mb.2.2.1) _ _ _ hP hS (lv_sub hl [0, 1, 2] rfl) hM
      · have hM := if_nn hc hM
        refine lv_bipush (v := -3) hx hb dX9_place_31 (by decide) ?_
        exact ret_i hx hb hr hlk dX9_place_33 hM hP hS
    · have hM := if_pp hc hM
      refine lv_bipush (v := -2) hx hb dX9_place_20 (by decide) ?_
      exact ret_i hx hb hr hlk dX9_place_22 hM hP hS
  · have hM := if_pp hc hM
    refine lv_iconst (v := -1) hx hb dX9_place_8 (by decide) ?_
    exact ret_i hx hb hr hlk dX9_place_9 hM hP hS
theorem inX9_post_X9 : ∀ w ∈ wsX90, w ∈ wsX9_post := fun w h => List.mem_cons_of_mem _ (List.mem_append_right _ h)
set_option maxHeartbeats 4000000 in
set_option maxRecDepth 100000 in
theorem c_X9_post (l : Launch) (dC : Nat → ClassId) (dI : Nat → Nat → Nat) (cI cC cZ : ClassId) (sa : Nat → Nat) (ad : Nat → Nat) (mb : BT) (mo : OT) (mn : NT) (mg : GT) (mf : AR) (mt : TT) (mz : AR) (ml : LT) (mi : IT) (x1 : Int32) {res : Int32 × BT} (hM : M_X9_post mb x1 = some res) : CTi l (dC, dI) [(cI, .int), (cC, .char), (cZ, .boolean)] sa yX9_post wsX9_post (rmd 7) [.ref (ad 0), .int x1] (wM cI cZ ad mb mo mn mg mf mt mz ml mi) (fun (uu : BT) => (wM cI cZ ad uu mo mn mg mf mt mz ml mi)) res := by
  refine CTi.enter (own := RX9) (cc := cX9_post) (maxL := 6) (ret := (some .int)) (by decide) rfl rfl (Nat.le_of_ble_eq_true rfl) ?_
  intro pr e s m below meth c A F hr hlk hP hS ls hl
  obtain ⟨⟨hx, hb, hml, hown, hts⟩, hK, hDD, hA, hKC⟩ := id F
  have hl : lv_has ls 6 [(0, .ref (ad 0)), (1, .int x1)] := hl
  have hP : va_P (dC, dI) vwCl (wM cI cZ ad mb mo mn mg mf mt mz ml mi) s.heap := hP
  unfold M_X9_post at hM
  refine kloop (α := BT × Int32 × Int32 × Int32) (res := res) (fun k a => M_X9_post_56 x1 k a) (fun rec a => M_X9_post_56b x1 rec a) (fun _ => rfl) (fun _ _ => rfl) F (fun a => (wM cI cZ ad a.1 mo mn mg mf mt mz ml mi)) (fun a => [(0, .ref (ad 0)), (1, .int x1), (2, .int a.2.1), (3, .int a.2.2.1), (4, .int a.2.2.2)]) (fun a => []) 56 ?_ (fun j56 => ?_)
  · intro rc56 ih56 a56 H locs ls hP hS hl hM
    unfold M_X9_post_56b at hM
    refine kblk (α := BT × Int32 × Int32 × Int32) (res := res) (fun a => M_X9_post_143 x1 rc56 a) F (fun a => (wM cI cZ ad a.1 mo mn mg mf mt mz ml mi)) (fun a => [(0, .ref (ad 0)), (1, .int x1), (2, .int a.2.1), (3, .int a.2.2.1), (4, .int a.2.2.2)]) (fun a => []) 143 ?_ (fun j143 => ?_)
    · intro a143 H locs ls hP hS hl hM
      unfold M_X9_post_143 at hM
      refine lv_iinc (v := (a143.2.2.2 + (1 : Int32))) (lv' := [(4, .int (a143.2.2.2 + (1 : Int32))), (0, .ref (ad 0)), (1, .int x1), (2, .int a143.2.1), (3, .int a143.2.2.1)]) hx hb dX9_post_143 hl (k := 4) rfl rfl (by decide) rfl (fun ls hl => ?_)
      refine lv_goto (tgt := 56) hx hb dX9_post_146 (by decide) ?_
      exact ih56 (a143.1, a143.2.1, a143.2.2.1, (a143.2.2.2 + (1 : Int32))) _ _ _ hP hS (lv_sub hl [1, 2, 3, 4, 0] rfl) hM
    refine kblk (α := BT × Int32 × Int32 × Int32) (res := res) (fun a => M_X9_post_142 x1 rc56 a) F (fun a => (wM cI cZ ad a.1 mo mn mg mf mt mz ml mi)) (fun a => [(0, .ref (ad 0)), (1, .int x1), (2, .int a.2.1), (4, .int a.2.2.1)]) (fun a => [.int a.2.2.2]) 142 ?_ (fun j142 => ?_)
    · intro a142 H locs ls hP hS hl hM
      unfold M_X9_post_142 at hM
      refine lv_istore_n (lv' := [(3, .int a142.2.2.2), (0, .ref (ad 0)), (1, .int x1), (2, .int a142.2.1), (4, .int a142.2.2.1)]) hx hb dX9_post_142 rfl hl (by decide) rfl (fun ls hl => ?_)
      exact j143 (a142.1, a142.2.1, a142.2.2.2, a142.2.2.1) _ _ _ hP hS (lv_sub hl [1, 2, 3, 0, 4] rfl) hM
    refine kblk (α := BT × Int32 × Int32 × Int32 × Int32) (res := res) (fun a => M_X9_post_129 x1 rc56 a) F (fun a => (wM cI cZ ad a.1 mo mn mg mf mt mz ml mi)) (fun a => [(0, .ref (ad 0)), (1, .int x1), (3, .int a.2.1), (4, .int a.2.2.1), (5, .int a.2.2.2.1)]) (fun a => [.int a.2.2.2.2]) 129 ?_ (fun j129 => ?_)
    · intro a129 H locs ls hP hS hl hM
      unfold M_X9_post_129 at hM
      refine lv_istore_n (lv' := [(2, .int a129.2.2.2.2), (0, .ref (ad 0)), (1, .int x1), (3, .int a129.2.1), (4, .int a129.2.2.1), (5, .int a129.2.2.2.1)]) hx hb dX9_post_129 rfl hl (by decide) rfl (fun ls hl => ?_)
      refine lv_iload hx hb dX9_post_130 (lv_at hl 5 rfl) ?_
      refine lv_iload_n hx hb dX9_post_132 rfl (lv_at hl 3 rfl) ?_
      refine lv_icmp_ge (tgt := 141) hx hb dX9_post_133 (by decide) (fun hc => ?_) (fun hc => ?_)
      · have hM := if_pp hc hM
        refine lv_iload_n hx hb dX9_post_141 rfl (lv_at hl 3 rfl) ?_
        exact j142 (a129.1, a129.2.2.2.2, a129.2.2.1, a129.2.1) _ _ _ hP hS (lv_sub hl [1, 2, 0, 4] rfl) hM
      · have hM := if_nn hc hM
        refine lv_iload hx hb dX9_post_136 (lv_at hl 5 rfl) ?_
        refine lv_goto (tgt := 142) hx hb dX9_post_138 (by decide) ?_
        exact j142 (a129.1, a129.2.2.2.2, a129.2.2.1, a129.2.2.2.1) _ _ _ hP hS (lv_sub hl [1, 2, 0, 4] rfl) hM
    refine lv_iload hx hb dX9_post_56 (lv_at hl 4 rfl) ?_
    refine lv_iconst (v := 4) hx hb dX9_post_58 (by decide) ?_
    refine lv_aload_n hx hb dX9_post_59 rfl (lv_at hl 0 rfl) ?_
    obtain ⟨z60, hcr, hM⟩ := ob_s hM
    refine res_i0 F hP hS rfl [0, 1, 2, 3, 4, 5, 6, 7, 8, 9, 10, 11, 12] rfl rfl (runV_of (n := 0) (As := []) (rest := [.int (4 : Int32), .int a56.2.2.2]) F hP hS rfl [0, 1, 2, 3, 4, 5, 6, 7, 8, 9, 10, 11, 12] rfl rfl (c_X9_cells l dC dI cI cC cZ sa ad a56.1 mo mn mg mf mt mz ml mi hcr _) gX9_post_X9_cells rfl (by decide +kernel) ⟨Nat.le_of_ble_eq_true rfl, Nat.le_of_ble_eq_true rfl⟩ 0 9 rfl rfl rfl hl.1 rfl (Nat.le_of_ble_eq_true rfl) dX9_post_60 ⟨Nat.zero_le _, Nat.zero_le _⟩) (fun H locs hP hS => ?_)
    refine lv_imul hx hb dX9_post_63 ?_
    refine lv_icmp_ge (tgt := 149) hx hb dX9_post_64 (by decide) (fun hc => ?_) (fun hc => ?_)
    · have hM := if_pp hc hM
      refine lv_aload_n hx hb dX9_post_149 rfl (lv_at hl 0 rfl) ?_
      refine lv_dup hx hb dX9_post_150 rfl ?_
      refine g_get (ci := 9) (C := RX9) (T := TX9) (N := 32) (v := .int a56.1.2.2.2.2.1) F hP 0 rfl rfl inX9_post_X9 8 (by decide) (List.mem_of_getElem? (i := 1) rfl) rfl dX9_post_151 ?_
      refine lv_iconst (v := 1) hx hb dX9_post_154 (by decide) ?_
      refine lv_isub hx hb dX9_post_155 ?_
      refine g_put (ws' := (wM cI cZ ad (a56.1.1, a56.1.2.1, a56.1.2.2.1, a56.1.2.2.2.1, (a56.1.2.2.2.2.1 - (1 : Int32)), a56.1.2.2.2.2.2.1, a56.1.2.2.2.2.2.2.1, a56.1.2.2.2.2.2.2.2.1, a56.1.2.2.2.2.2.2.2.2.1, a56.1.2.2.2.2.2.2.2.2.2) mo mn mg mf mt mz ml mi)) (ci := 9) (C := RX9) (T := TX9) (N := 32) (v := .int (a56.1.2.2.2.2.1 - (1 : Int32))) (ty := .int) F hP hS rfl tyX9 tyX9_ok nmX9 0 rfl rfl inX9_post_X9 8 (by decide) (List.mem_of_getElem? (i := 1) rfl) rfl (by decide +kernel) rfl rfl (Nat.le_of_ble_eq_true rfl) dX9_post_156 rfl (fun H locs hP hS => ?_)
      refine lv_iload_n hx hb dX9_post_159 rfl (lv_at hl 1 rfl) ?_
      refine lv_if_ne (tgt := 167) hx hb dX9_post_160 (by decide) (fun hc => ?_) (fun hc => ?_)
      · have hM := if_nn hc hM
        refine lv_iload_n hx hb dX9_post_167 rfl (lv_at hl 3 rfl) ?_
        exact ret_i hx hb hr hlk dX9_post_168 hM hP hS
      · have hM := if_pp hc hM
        refine lv_iload_n hx hb dX9_post_163 rfl (lv_at hl 2 rfl) ?_
        refine lv_goto (tgt := 168) hx hb dX9_post_164 (by decide) ?_
        exact ret_i hx hb hr hlk dX9_post_168 hM hP hS
    · have hM := if_nn hc hM
      refine lv_aload_n hx hb dX9_post_67 rfl (lv_at hl 0 rfl) ?_
      refine lv_iload hx hb dX9_post_68 (lv_at hl 4 rfl) ?_
      refine lv_iconst (v := 4) hx hb dX9_post_70 (by decide) ?_
      obtain ⟨hne, hM⟩ := if_ok hM
      refine lv_idiv hx hb dX9_post_71 hne ?_
      obtain ⟨z72, hcr, hM⟩ := ob_s hM
      refine res_i0 F hP hS rfl [0, 1, 2, 3, 4, 5, 6, 7, 8, 9, 10, 11, 12] rfl rfl (runV_of (n := 1) (As := [.int (a56.2.2.2 / (4 : Int32))]) (rest := []) F hP hS rfl [0, 1, 2, 3, 4, 5, 6, 7, 8, 9, 10, 11, 12] rfl rfl (c_X9_isWall l dC dI cI cC cZ sa ad a56.1 mo mn mg mf mt mz ml mi (a56.2.2.2 / (4 : Int32)) hcr _) gX9_post_X9_isWall rfl (by decide +kernel) ⟨Nat.le_of_ble_eq_true rfl, Nat.le_of_ble_eq_true rfl⟩ 0 9 rfl rfl rfl hl.1 rfl (Nat.le_of_ble_eq_true rfl) dX9_post_72 ⟨Nat.zero_le _, Nat.zero_le _⟩) (fun H locs hP hS => ?_)
      refine lv_if_ne (tgt := 143) hx hb dX9_post_75 (by decide) (fun hc => ?_) (fun hc => ?_)
      · have hM := if_nn hc hM
        exact j143 (a56.1, a56.2.1, a56.2.2.1, a56.2.2.2) _ _ _ hP hS (lv_sub hl [0, 1, 2, 3, 4] rfl) hM
      · have hM := if_pp hc hM
        refine lv_aload_n hx hb dX9_post_78 rfl (lv_at hl 0 rfl) ?_
        refine g_get (ci := 9) (C := RX9) (T := TX9) (N := 32) (v := .ref (ad 2)) F hP 0 rfl rfl inX9_post_X9 5 (by decide) (List.mem_of_getElem? (i := 3) rfl) rfl dX9_post_79 ?_
        refine lv_aload_n hx hb dX9_post_82 rfl (lv_at hl 0 rfl) ?_
        refine g_get (ci := 9) (C := RX9) (T := TX9) (N := 32) (v := .int a56.1.2.2.2.2.1) F hP 0 rfl rfl inX9_post_X9 8 (by decide) (List.mem_of_getElem? (i := 1) rfl) rfl dX9_post_83 ?_
        refine lv_iconst (v := 1) hx hb dX9_post_86 (by decide) ?_
        refine lv_isub hx hb dX9_post_87 ?_
        refine lv_iload hx hb dX9_post_88 (lv_at hl 4 rfl) ?_
        refine lv_iconst (v := 4) hx hb dX9_post_90 (by decide) ?_
        obtain ⟨hne, hM⟩ := if_ok hM
        refine lv_idiv hx hb dX9_post_91 hne ?_
        obtain ⟨hin, hM⟩ := if_ok hM
        refine g_iast (ws' := (wM cI cZ ad (a56.1.1, a56.1.2.1, a56.1.2.2.1, a56.1.2.2.2.1, a56.1.2.2.2.2.1, a56.1.2.2.2.2.2.1, a56.1.2.2.2.2.2.2.1, (upd a56.1.2.2.2.2.2.2.2.1 (a56.1.2.2.2.2.1 - (1 : Int32)).toNatClampNeg (a56.2.2.2 / (4 : Int32))), a56.1.2.2.2.2.2.2.2.2.1, a56.1.2.2.2.2.2.2.2.2.2) mo mn mg mf mt mz ml mi)) F hP hS rfl 2 0 rfl rfl hin dX9_post_92 rfl (fun H locs hP hS => ?_)
        refine lv_aload_n hx hb dX9_post_93 rfl (lv_at hl 0 rfl) ?_
        refine g_get (ci := 9) (C := RX9) (T := TX9) (N := 32) (v := .ref (ad 3)) F hP 0 rfl rfl inX9_post_X9 6 (by decide) (List.mem_of_getElem? (i := 4) rfl) rfl dX9_post_94 ?_
        refine lv_aload_n hx hb dX9_post_97 rfl (lv_at hl 0 rfl) ?_
        refine g_get (ci := 9) (C := RX9) (T := TX9) (N := 32) (v := .int a56.1.2.2.2.2.1) F hP 0 rfl rfl inX9_post_X9 8 (by decide) (List.mem_of_getElem? (i := 1) rfl) rfl dX9_post_98 ?_
        refine lv_iconst (v := 1) hx hb dX9_post_101 (by decide) ?_
        refine lv_isub hx hb dX9_post_102 ?_
        refine lv_iload hx hb dX9_post_103 (lv_at hl 4 rfl) ?_
        refine lv_iconst (v := 4) hx hb dX9_post_105 (by decide) ?_
        obtain ⟨hne, hM⟩ := if_ok hM
        refine lv_irem hx hb dX9_post_106 hne ?_
        obtain ⟨hin, hM⟩ := if_ok hM
        refine g_iast (ws' := (wM cI cZ ad (a56.1.1, a56.1.2.1, a56.1.2.2.1, a56.1.2.2.2.1, a56.1.2.2.2.2.1, a56.1.2.2.2.2.2.1, a56.1.2.2.2.2.2.2.1, (upd a56.1.2.2.2.2.2.2.2.1 (a56.1.2.2.2.2.1 - (1 : Int32)).toNatClampNeg (a56.2.2.2 / (4 : Int32))), (upd a56.1.2.2.2.2.2.2.2.2.1 (a56.1.2.2.2.2.1 - (1 : Int32)).toNatClampNeg (a56.2.2.2 - a56.2.2.2 / (4 : Int32) * (4 : Int32))), a56.1.2.2.2.2.2.2.2.2.2) mo mn mg mf mt mz ml mi)) F hP hS rfl 3 0 rfl rfl hin dX9_post_107 rfl (fun H locs hP hS => ?_)
        refine lv_aload_n hx hb dX9_post_108 rfl (lv_at hl 0 rfl) ?_
        obtain ⟨z109, hcr, hM⟩ := ob_s hM
        refine res_i0 F hP hS rfl [0, 1, 2, 3, 4, 5, 6, 7, 8, 9, 10, 11, 12] rfl rfl (runV_of (n := 0) (As := []) (rest := []) F hP hS rfl [0, 1, 2, 3, 4, 5, 6, 7, 8, 9, 10, 11, 12] rfl rfl (c_X9_bare l dC dI cI cC cZ sa ad (a56.1.1, a56.1.2.1, a56.1.2.2.1, a56.1.2.2.2.1, a56.1.2.2.2.2.1, a56.1.2.2.2.2.2.1, a56.1.2.2.2.2.2.2.1, (upd a56.1.2.2.2.2.2.2.2.1 (a56.1.2.2.2.2.1 - (1 : Int32)).toNatClampNeg (a56.2.2.2 / (4 : Int32))), (upd a56.1.2.2.2.2.2.2.2.2.1 (a56.1.2.2.2.2.1 - (1 : Int32)).toNatClampNeg (a56.2.2.2 - a56.2.2.2 / (4 : Int32) * (4 : Int32))), a56.1.2.2.2.2.2.2.2.2.2) mo mn mg mf mt mz ml mi hcr _) gX9_post_X9_bare rfl (by decide +kernel) ⟨Nat.le_of_ble_eq_true rfl, Nat.le_of_ble_eq_true rfl⟩ 0 9 rfl rfl rfl hl.1 rfl (Nat.le_of_ble_eq_true rfl) dX9_post_109 ⟨Nat.zero_le _, Nat.zero_le _⟩) (fun H locs hP hS => ?_)
        obtain ⟨z112, hcr, hM⟩ := ob_s hM
        refine res_i0 F hP hS rfl [] rfl rfl (runS_of (n := 1) (As := [.int z109]) (rest := []) F hP hS rfl [] rfl rfl (c_X9_ones l dC dI cI cC cZ sa z109 hcr _) gX9_post_X9_ones rfl (by decide +kernel) ⟨Nat.le_of_ble_eq_true rfl, Nat.le_of_ble_eq_true rfl⟩ rfl hl.1 rfl (Nat.le_of_ble_eq_true rfl) dX9_post_112 ⟨Nat.zero_le _, Nat.zero_le _⟩) (fun H locs hP hS => ?_)
        refine lv_istore (lv' := [(5, .int z112), (0, .ref (ad 0)), (1, .int x1), (2, .int a56.2.1), (3, .int a56.2.2.1), (4, .int a56.2.2.2)]) hx hb dX9_post_115 hl (by decide) rfl (fun ls hl => ?_)
        refine lv_iload hx hb dX9_post_117 (lv_at hl 0 rfl) ?_
        refine lv_iload_n hx hb dX9_post_119 rfl (lv_at hl 4 rfl) ?_
        refine lv_icmp_ge (tgt := 128) hx hb dX9_post_120 (by decide) (fun hc => ?_) (fun hc => ?_)
        · have hM := if_pp hc hM
          refine lv_iload_n hx hb dX9_post_128 rfl (lv_at hl 3 rfl) ?_
          exact j129 ((a56.1.1, a56.1.2.1, a56.1.2.2.1, a56.1.2.2.2.1, a56.1.2.2.2.2.1, a56.1.2.2.2.2.2.1, a56.1.2.2.2.2.2.2.1, (upd a56.1.2.2.2.2.2.2.2.1 (a56.1.2.2.2.2.1 - (1 : Int32)).toNatClampNeg (a56.2.2.2 / (4 : Int32))), (upd a56.1.2.2.2.2.2.2.2.2.1 (a56.1.2.2.2.2.1 - (1 : Int32)).toNatClampNeg (a56.2.2.2 - a56.2.2.2 / (4 : Int32) * (4 : Int32))), a56.1.2.2.2.2.2.2.2.2.2), a56.2.2.1, a56.2.2.2, z112, a56.2.1) _ _ _ hP hS (lv_sub hl [1, 2, 4, 5, 0] rfl) hM
        · have hM := if_nn hc hM
          refine lv_iload hx hb dX9_post_123 (lv_at hl 5 rfl) ?_
          refine lv_goto (tgt := 129) hx hb dX9_post_125 (by decide) ?_
          exact j129 ((a56.1.1, a56.1.2.1, a56.1.2.2.1, a56.1.2.2.2.1, a56.1.2.2.2.2.1, a56.1.2.2.2.2.2.1, a56.1.2.2.2.2.2.2.1, (upd a56.1.2.2.2.2.2.2.2.1 (a56.1.2.2.2.2.1 - (1 : Int32)).toNatClampNeg (a56.2.2.2 / (4 : Int32))), (upd a56.1.2.2.2.2.2.2.2.2.1 (a56.1.2.2.2.2.1 - (1 : Int32)).toNatClampNeg (a56.2.2.2 - a56.2.2.2 / (4 : Int32) * (4 : Int32))), a56.1.2.2.2.2.2.2.2.2.2), a56.2.2.1, a56.2.2.2, z112, a56.2.2.2) _ _ _ hP hS (lv_sub hl [1, 2, 4, 5, 0] rfl) hM
  refine lv_iload_n hx hb dX9_post_0 rfl (lv_at hl 1 rfl) ?_
  refine lv_i2l (v := x1.toInt64) hx hb dX9_post_1 rfl ?_
  refine lv_lconst (v := 0) hx hb dX9_post_2 (by decide) ?_
  refine lv_lconst (v := 1) hx hb dX9_post_3 (by decide) ?_
  obtain ⟨z4, hcr, hM⟩ := ob_s hM
  refine res_i0 F hP hS rfl [] rfl rfl (runS_of (n := 3) (As := [.long x1.toInt64, .long (0 : Int64), .long (1 : Int64)]) (rest := []) F hP hS rfl [] rfl rfl (c_X9_in l dC dI cI cC cZ sa x1.toInt64 (0 : Int64) (1 : Int64) hcr _) gX9_post_X9_in rfl (by decide +kernel) ⟨Nat.le_of_ble_eq_true rfl, Nat.le_of_ble_eq_true rfl⟩ rfl hl.1 rfl (Nat.le_of_ble_eq_true rfl) dX9_post_4 ⟨Nat.zero_le _, Nat.zero_le _⟩) (fun H locs hP hS => ?_)
  refine lv_if_ne (tgt := 13) hx hb dX9_post_7 (by decide) (fun hc => ?_) (fun hc => ?_)
  · have hM := if_nn hc hM
    refine lv_aload_n hx hb dX9_post_13 rfl (lv_at hl 0 rfl) ?_
    refine g_get (ci := 9) (C := RX9) (T := TX9) (N := 32) (v := .int mb.2.2.2.2.1) F hP 0 rfl rfl inX9_post_X9 8 (by decide) (List.mem_of_getElem? (i := 1) rfl) rfl dX9_post_14 ?_
    refine lv_iconst (v := 4) hx hb dX9_post_17 (by decide) ?_
    refine lv_icmp_ne (tgt := 24) hx hb dX9_post_18 (by decide) (fun hc => ?_) (fun hc => ?_)
    · have hM := if_nn hc hM
      refine lv_bipush (v := -6) hx hb dX9_post_24 (by decide) ?_
      refine lv_istore_n (lv' := [(2, .int (-6 : Int32)), (0, .ref (ad 0)), (1, .int x1)]) hx hb dX9_post_26 rfl hl (by decide) rfl (fun ls hl => ?_)
      refine lv_sipush (v := 1000) hx hb dX9_post_27 (by decide) ?_
      refine lv_istore_n (lv' := [(3, .int (1000 : Int32)), (2, .int (-6 : Int32)), (0, .ref (ad 0)), (1, .int x1)]) hx hb dX9_post_30 rfl hl (by decide) rfl (fun ls hl => ?_)
      refine lv_aload_n hx hb dX9_post_31 rfl (lv_at hl 2 rfl) ?_
      refine lv_dup hx hb dX9_post_32 rfl ?_
      refine g_get (ci := 9) (C := RX9) (T := TX9) (N := 32) (v := .int mb.2.2.2.2.1) F hP 0 rfl rfl inX9_post_X9 8 (by decide) (List.mem_of_getElem? (i := 1) rfl) rfl dX9_post_33 ?_
      refine lv_iconst (v := 1) hx hb dX9_post_36 (by decide) ?_
      refine lv_iadd hx hb dX9_post_37 ?_
      refine g_put (ws' := (wM cI cZ ad (mb.1, mb.2.1, mb.2.2.1, mb.2.2.2.1, (mb.2.2.2.2.1 + (1 : Int32)), mb.2.2.2.2.2.1, mb.2.2.2.2.2.2.1, mb.2.2.2.2.2.2.2.1, mb.2.2.2.2.2.2.2.2.1, mb.2.2.2.2.2.2.2.2.2) mo mn mg mf mt mz ml mi)) (ci := 9) (C := RX9) (T := TX9) (N := 32) (v := .int (mb.2.2.2.2.1 + (1 : Int32))) (ty := .int) F hP hS rfl tyX9 tyX9_ok nmX9 0 rfl rfl inX9_post_X9 8 (by decide) (List.mem_of_getElem? (i := 1) rfl) rfl (by decide +kernel) rfl rfl (Nat.le_of_ble_eq_true rfl) dX9_post_38 rfl (fun H locs hP hS => ?_)
      refine lv_aload_n hx hb dX9_post_41 rfl (lv_at hl 2 rfl) ?_
      refine g_get (ci := 9) (C := RX9) (T := TX9) (N := 32) (v := .ref (ad 4)) F hP 0 rfl rfl inX9_post_X9 7 (by decide) (List.mem_of_getElem? (i := 2) rfl) rfl dX9_post_42 ?_
      refine lv_aload_n hx hb dX9_post_45 rfl (lv_at hl 2 rfl) ?_
      refine g_get (ci := 9) (C := RX9) (T := TX9) (N := 32) (v := .int (mb.2.2.2.2.1 + (1 : Int32))) F hP 0 rfl rfl inX9_post_X9 8 (by decide) (List.mem_of_getElem? (i := 1) rfl) rfl dX9_post_46 ?_
      refine lv_iconst (v := 1) hx hb dX9_post_49 (by decide) ?_
      refine lv_isub hx hb dX9_post_50 ?_
      refine lv_iconst (v := 0) hx hb dX9_post_51 (by decide) ?_
      obtain ⟨hin, hM⟩ := if_ok hM
      refine g_iast (ws' := (wM cI cZ ad (mb.1, mb.2.1, mb.2.2.1, mb.2.2.2.1, (mb.2.2.2.2.1 + (1 : Int32)), mb.2.2.2.2.2.1, mb.2.2.2.2.2.2.1, mb.2.2.2.2.2.2.2.1, mb.2.2.2.2.2.2.2.2.1, (upd mb.2.2.2.2.2.2.2.2.2 ((mb.2.2.2.2.1 + (1 : Int32)) - (1 : Int32)).toNatClampNeg (0 : Int32))) mo mn mg mf mt mz ml mi)) F hP hS rfl 4 0 rfl rfl hin dX9_post_52 rfl (fun H locs hP hS => ?_)
      refine lv_iconst (v := 0) hx hb dX9_post_53 (by decide) ?_
      refine lv_istore (lv' := [(4, .int (0 : Int32)), (3, .int (1000 : Int32)), (2, .int (-6 : Int32)), (0, .ref (ad 0)), (1, .int x1)]) hx hb dX9_post_54 hl (by decide) rfl (fun ls hl => ?_)
      exact j56 200 ((mb.1, mb.2.1, mb.2.2.1, mb.2.2.2.1, (mb.2.2.2.2.1 + (1 : Int32)), mb.2.2.2.2.2.1, mb.2.2.2.2.2.2.1, mb.2.2.2.2.2.2.2.1, mb.2.2.2.2.2.2.2.2.1, (upd mb.2.2.2.2.2.2.2.2.2 ((mb.2.2.2.2.1 + (1 : Int32)) - (1 : Int32)).toNatClampNeg (0 : Int32))), (-6 : Int32), (1000 : Int32), (0 : Int32)) _ _ _ hP hS (lv_sub hl [3, 4, 2, 1, 0] rfl) hM
    · have hM := if_pp hc hM
      refine lv_bipush (v := -4) hx hb dX9_post_21 (by decide) ?_
      exact ret_i hx hb hr hlk dX9_post_23 hM hP hS
  · have hM := if_pp hc hM
    refine lv_bipush (v := -2) hx hb dX9_post_10 (by decide) ?_
    exact ret_i hx hb hr hlk dX9_post_12 hM hP hS
theorem inX9_restore_X9 : ∀ w ∈ wsX90, w ∈ wsX9_restore := fun w h => List.mem_cons_of_mem _ (List.mem_append_right _ h)
set_option maxHeartbeats 4000000 in
set_option maxRecDepth 100000 in
theorem c_X9_restore (l : Launch) (dC : Nat → ClassId) (dI : Nat → Nat → Nat) (cI cC cZ : ClassId) (sa : Nat → Nat) (ad : Nat → Nat) (mb : BT) (mo : OT) (mn : NT) (mg : GT) (mf : AR) (mt : TT) (mz : AR) (ml : LT) (mi : IT) (x1 : Int32) {res : Int32 × BT × IT} (hM : M_X9_restore mb mi x1 = some res) : CTi l (dC, dI) [(cI, .int), (cC, .char), (cZ, .boolean)] sa yX9_restore wsX9_restore (rmd 3) [.ref (ad 0), .int x1] (wM cI cZ ad mb mo mn mg mf mt mz ml mi) (fun (uu : BT × IT) => (wM cI cZ ad uu.1 mo mn mg mf mt mz ml uu.2)) res := by
  refine CTi.enter (own := RX9) (cc := cX9_restore) (maxL := 2) (ret := (some .int)) (by decide) rfl rfl (Nat.le_of_ble_eq_true rfl) ?_
  intro pr e s m below meth c A F hr hlk hP hS ls hl
  obtain ⟨⟨hx, hb, hml, hown, hts⟩, hK, hDD, hA, hKC⟩ := id F
  have hl : lv_has ls 2 [(0, .ref (ad 0)), (1, .int x1)] := hl
  have hP : va_P (dC, dI) vwCl (wM cI cZ ad mb mo mn mg mf mt mz ml mi) s.heap := hP
  unfold M_X9_restore at hM
  refine lv_iload_n hx hb dX9_restore_0 rfl (lv_at hl 1 rfl) ?_
  refine lv_i2l (v := x1.toInt64) hx hb dX9_restore_1 rfl ?_
  refine lv_lconst (v := 0) hx hb dX9_restore_2 (by decide) ?_
  refine lv_lconst (v := 1) hx hb dX9_restore_3 (by decide) ?_
  obtain ⟨z4, hcr, hM⟩ := ob_s hM
  refine res_i0 F hP hS rfl [] rfl rfl (runS_of (n := 3) (As := [.long x1.toInt64, .long (0 : Int64), .long (1 : Int64)]) (rest := []) F hP hS rfl [] rfl rfl (c_X9_in l dC dI cI cC cZ sa x1.toInt64 (0 : Int64) (1 : Int64) hcr _) gX9_restore_X9_in rfl (by decide +kernel) ⟨Nat.le_of_ble_eq_true rfl, Nat.le_of_ble_eq_true rfl⟩ rfl hl.1 rfl (Nat.le_of_ble_eq_true rfl) dX9_restore_4 ⟨Nat.zero_le _, Nat.zero_le _⟩) (fun H locs hP hS => ?_)
  refine lv_if_ne (tgt := 13) hx hb dX9_restore_7 (by decide) (fun hc => ?_) (fun hc => ?_)
  · have hM := if_nn hc hM
    refine lv_aload_n hx hb dX9_restore_13 rfl (lv_at hl 0 rfl) ?_
    refine g_get (ci := 9) (C := RX9) (T := TX9) (N := 32) (v := .ref (ad 12)) F hP 0 rfl rfl inX9_restore_X9 29 (by decide) (List.mem_of_getElem? (i := 1) rfl) rfl dX9_restore_14 ?_
    refine lv_iload_n hx hb dX9_restore_17 rfl (lv_at hl 1 rfl) ?_
    obtain ⟨hin, hM⟩ := if_ok hM
    refine va_zald hx hb hK hP 12 2 rfl rfl hin dX9_restore_18 ?_
    refine lv_if_ne (tgt := 25) hx hb dX9_restore_19 (by decide) (fun hc => ?_) (fun hc => ?_)
    · have hM := if_nn hc hM
      refine lv_aload_n hx hb dX9_restore_25 rfl (lv_at hl 0 rfl) ?_
      refine lv_bipush (v := 40) hx hb dX9_restore_26 (by decide) ?_
      refine lv_iload_n hx hb dX9_restore_28 rfl (lv_at hl 1 rfl) ?_
      refine lv_imul hx hb dX9_restore_29 ?_
      refine g_put (ws' := (wM cI cZ ad mb mo mn mg mf mt mz ml (((40 : Int32) * x1), mi.2.1, mi.2.2.1, mi.2.2.2))) (ci := 9) (C := RX9) (T := TX9) (N := 32) (v := .int ((40 : Int32) * x1)) (ty := .int) F hP hS rfl tyX9 tyX9_ok nmX9 0 rfl rfl inX9_restore_X9 30 (by decide) (List.mem_of_getElem? (i := 2) rfl) rfl (by decide +kernel) rfl rfl (Nat.le_of_ble_eq_true rfl) dX9_restore_30 rfl (fun H locs hP hS => ?_)
      refine lv_aload_n hx hb dX9_restore_33 rfl (lv_at hl 0 rfl) ?_
      refine lv_iconst (v := 0) hx hb dX9_restore_34 (by decide) ?_
      obtain ⟨hnz, hM⟩ := if_ok hM
      refine g_put (ws' := (wM cI cZ ad mb mo mn mg mf mt mz ml (((40 : Int32) * x1), (0 : Int32), mi.2.2.1, mi.2.2.2))) (ci := 9) (C := RX9) (T := TX9) (N := 32) (v := .int (0 : Int32)) (ty := .boolean) F hP hS rfl tyX9 tyX9_ok nmX9 0 rfl rfl inX9_restore_X9 31 (by decide) (List.mem_of_getElem? (i := 3) rfl) rfl (by decide +kernel) (nar_z hnz) (fit_z hnz) (Nat.le_of_ble_eq_true rfl) dX9_restore_35 rfl (fun H locs hP hS => ?_)
      refine lv_aload_n hx hb dX9_restore_38 rfl (lv_at hl 0 rfl) ?_
      obtain ⟨z39, hcr, hM⟩ := ob_s hM
      refine res_v (ws' := (wM cI cZ ad z39.1 mo mn mg mf mt mz ml z39.2)) F hP hS rfl [0, 1, 2, 3, 4, 5, 6, 7, 8, 9, 10, 11, 12] rfl rfl (runV_of (n := 0) (As := []) (rest := []) F hP hS rfl [0, 1, 2, 3, 4, 5, 6, 7, 8, 9, 10, 11, 12] rfl rfl (c_X9_passAll l dC dI cI cC cZ sa ad mb mo mn mg mf mt mz ml (((40 : Int32) * x1), (0 : Int32), mi.2.2.1, mi.2.2.2) hcr _) gX9_restore_X9_passAll rfl (by decide +kernel) ⟨Nat.le_of_ble_eq_true rfl, Nat.le_of_ble_eq_true rfl⟩ 0 9 rfl rfl rfl hl.1 rfl (Nat.le_of_ble_eq_true rfl) dX9_restore_39 ⟨Nat.zero_le _, Nat.zero_le _⟩) rep_full (fun H locs hP hS => ?_)
      refine lv_iconst (v := 1) hx hb dX9_restore_42 (by decide) ?_
      exact ret_i hx hb hr hlk dX9_restore_43 hM hP hS
    · have hM := if_pp hc hM
      refine lv_bipush (v := -3) hx hb dX9_restore_22 (by decide) ?_
      exact ret_i hx hb hr hlk dX9_restore_24 hM hP hS
  · have hM := if_pp hc hM
    refine lv_bipush (v := -2) hx hb dX9_restore_10 (by decide) ?_
    exact ret_i hx hb hr hlk dX9_restore_12 hM hP hS
