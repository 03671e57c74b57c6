/-! Walks, printed by wip/whole/gen.py -/
theorem inX9_watch_X9 : ∀ w ∈ wsX90, w ∈ wsX9_watch := fun w h => List.mem_cons_of_mem _ (List.mem_append_right _ h)
set_option maxHeartbeats 4000000 in
set_option maxRecDepth 100000 in
theorem c_X9_watch (l : Launch) (dC : Nat → ClassId) (dI : Nat → Nat → Nat) (cI cC cZ : ClassId) (sa : Nat → Nat) (ad : Nat → Nat) (mb : BT) (mo : OT) (mn : NT) (mg : GT) (mf : AR) (mt : TT) (mz : AR) (ml : LT) (mi : IT) (x1 : Int32) (x2 : Int32) (x3 : Int32) {res : Int32 × BT} (hM : M_X9_watch mb x1 x2 x3 = some res) : CTi l (dC, dI) [(cI, .int), (cC, .char), (cZ, .boolean)] sa yX9_watch wsX9_watch (rmd 3) [.ref (ad 0), .int x1, .int x2, .int x3] (wM cI cZ ad mb mo mn mg mf mt mz ml mi) (fun (uu : BT) => (wM cI cZ ad uu mo mn mg mf mt mz ml mi)) res := by
  refine CTi.enter (own := RX9) (cc := cX9_watch) (maxL := 4) (ret := (some .int)) (by decide) rfl rfl (Nat.le_of_ble_eq_true rfl) ?_
  intro pr e s m below meth c A F hr hlk hP hS ls hl
  obtain ⟨⟨hx, hb, hml, hown, hts⟩, hK, hDD, hA, hKC⟩ := id F
  have hl : lv_has ls 4 [(0, .ref (ad 0)), (1, .int x1), (2, .int x2), (3, .int x3)] := hl
  have hP : va_P (dC, dI) vwCl (wM cI cZ ad mb mo mn mg mf mt mz ml mi) s.heap := hP
  unfold M_X9_watch at hM
  refine kblk (α := BT × Int32 × Int32) (res := res) (fun a => M_X9_watch_84 x1 x2 x3 a) F (fun a => (wM cI cZ ad a.1 mo mn mg mf mt mz ml mi)) (fun a => [(0, .ref (ad 0))]) (fun a => [.int a.2.1, .int a.2.2, .ref (ad 4)]) 84 ?_ (fun j84 => ?_)
  · intro a84 H locs ls hP hS hl hM
    unfold M_X9_watch_84 at hM
    obtain ⟨hin, hM⟩ := if_ok hM
    refine g_iast (ws' := (wM cI cZ ad (a84.1.1, a84.1.2.1, a84.1.2.2.1, a84.1.2.2.2.1, a84.1.2.2.2.2.1, a84.1.2.2.2.2.2.1, a84.1.2.2.2.2.2.2.1, a84.1.2.2.2.2.2.2.2.1, a84.1.2.2.2.2.2.2.2.2.1, (upd a84.1.2.2.2.2.2.2.2.2.2 a84.2.2.toNatClampNeg a84.2.1)) mo mn mg mf mt mz ml mi)) F hP hS rfl 4 0 rfl rfl hin dX9_watch_84 rfl (fun H locs hP hS => ?_)
    refine lv_aload_n hx hb dX9_watch_85 rfl (lv_at hl 0 rfl) ?_
    refine lv_dup hx hb dX9_watch_86 rfl ?_
    refine g_get (ci := 9) (C := RX9) (T := TX9) (N := 32) (v := .int a84.1.2.2.2.2.1) F hP 0 rfl rfl inX9_watch_X9 8 (by decide) (List.mem_of_getElem? (i := 2) rfl) rfl dX9_watch_87 ?_
    refine lv_iconst (v := 1) hx hb dX9_watch_90 (by decide) ?_
    refine lv_iadd hx hb dX9_watch_91 ?_
    refine g_put (ws' := (wM cI cZ ad (a84.1.1, a84.1.2.1, a84.1.2.2.1, a84.1.2.2.2.1, (a84.1.2.2.2.2.1 + (1 : Int32)), a84.1.2.2.2.2.2.1, a84.1.2.2.2.2.2.2.1, a84.1.2.2.2.2.2.2.2.1, a84.1.2.2.2.2.2.2.2.2.1, (upd a84.1.2.2.2.2.2.2.2.2.2 a84.2.2.toNatClampNeg a84.2.1)) mo mn mg mf mt mz ml mi)) (ci := 9) (C := RX9) (T := TX9) (N := 32) (v := .int (a84.1.2.2.2.2.1 + (1 : Int32))) (ty := .int) F hP hS rfl tyX9 tyX9_ok nmX9 0 rfl rfl inX9_watch_X9 8 (by decide) (List.mem_of_getElem? (i := 2) rfl) rfl (by decide +kernel) rfl rfl (Nat.le_of_ble_eq_true rfl) dX9_watch_92 rfl (fun H locs hP hS => ?_)
    refine lv_aload_n hx hb dX9_watch_95 rfl (lv_at hl 0 rfl) ?_
    refine g_get (ci := 9) (C := RX9) (T := TX9) (N := 32) (v := .int (a84.1.2.2.2.2.1 + (1 : Int32))) F hP 0 rfl rfl inX9_watch_X9 8 (by decide) (List.mem_of_getElem? (i := 2) rfl) rfl dX9_watch_96 ?_
    exact ret_i hx hb hr hlk dX9_watch_99 hM hP hS
  refine lv_aload_n hx hb dX9_watch_0 rfl (lv_at hl 0 rfl) ?_
  refine lv_iload_n hx hb dX9_watch_1 rfl (lv_at hl 1 rfl) ?_
  obtain ⟨z2, hcr, hM⟩ := ob_s hM
  refine res_i0 F hP hS rfl [0, 1, 2, 3, 4, 5, 6, 7, 8, 9, 10, 11, 12] rfl rfl (runV_of (n := 1) (As := [.int x1]) (rest := []) F hP hS rfl [0, 1, 2, 3, 4, 5, 6, 7, 8, 9, 10, 11, 12] rfl rfl (c_X9_isCell l dC dI cI cC cZ sa ad mb mo mn mg mf mt mz ml mi x1 hcr _) gX9_watch_X9_isCell rfl (by decide +kernel) ⟨Nat.le_of_ble_eq_true rfl, Nat.le_of_ble_eq_true rfl⟩ 0 9 rfl rfl rfl hl.1 rfl (Nat.le_of_ble_eq_true rfl) dX9_watch_2 ⟨Nat.zero_le _, Nat.zero_le _⟩) (fun H locs hP hS => ?_)
  refine lv_if_ne (tgt := 10) hx hb dX9_watch_5 (by decide) (fun hc => ?_) (fun hc => ?_)
  · have hM := if_nn hc hM
    refine lv_iload_n hx hb dX9_watch_10 rfl (lv_at hl 2 rfl) ?_
    refine lv_i2l (v := x2.toInt64) hx hb dX9_watch_11 rfl ?_
    refine lv_lconst (v := 0) hx hb dX9_watch_12 (by decide) ?_
    refine lv_ldc2 (v := 3) hx hb hown (hts _ (List.mem_of_getElem? (i := 1) rfl)) dX9_watch_13 ?_
    obtain ⟨z16, hcr, hM⟩ := ob_s hM
    refine res_i0 F hP hS rfl [] rfl rfl (runS_of (n := 3) (As := [.long x2.toInt64, .long (0 : Int64), .long (3 : Int64)]) (rest := []) F hP hS rfl [] rfl rfl (c_X9_in l dC dI cI cC cZ sa x2.toInt64 (0 : Int64) (3 : Int64) hcr _) gX9_watch_X9_in rfl (by decide +kernel) ⟨Nat.le_of_ble_eq_true rfl, Nat.le_of_ble_eq_true rfl⟩ rfl hl.1 rfl (Nat.le_of_ble_eq_true rfl) dX9_watch_16 ⟨Nat.zero_le _, Nat.zero_le _⟩) (fun H locs hP hS => ?_)
    refine lv_if_ne (tgt := 25) hx hb dX9_watch_19 (by decide) (fun hc => ?_) (fun hc => ?_)
    · have hM := if_nn hc hM
      refine lv_aload_n hx hb dX9_watch_25 rfl (lv_at hl 0 rfl) ?_
      refine lv_iload_n hx hb dX9_watch_26 rfl (lv_at hl 1 rfl) ?_
      obtain ⟨z27, hcr, hM⟩ := ob_s hM
      refine res_i0 F hP hS rfl [0, 1, 2, 3, 4, 5, 6, 7, 8, 9, 10, 11, 12] rfl rfl (runV_of (n := 1) (As := [.int x1]) (rest := []) F hP hS rfl [0, 1, 2, 3, 4, 5, 6, 7, 8, 9, 10, 11, 12] rfl rfl (c_X9_isWall l dC dI cI cC cZ sa ad mb mo mn mg mf mt mz ml mi x1 hcr _) gX9_watch_X9_isWall rfl (by decide +kernel) ⟨Nat.le_of_ble_eq_true rfl, Nat.le_of_ble_eq_true rfl⟩ 0 9 rfl rfl rfl hl.1 rfl (Nat.le_of_ble_eq_true rfl) dX9_watch_27 ⟨Nat.zero_le _, Nat.zero_le _⟩) (fun H locs hP hS => ?_)
      refine lv_if_eq (tgt := 36) hx hb dX9_watch_30 (by decide) (fun hc => ?_) (fun hc => ?_)
      · have hM := if_pp hc hM
        refine lv_aload_n hx hb dX9_watch_36 rfl (lv_at hl 0 rfl) ?_
        refine g_get (ci := 9) (C := RX9) (T := TX9) (N := 32) (v := .int mb.2.2.2.2.1) F hP 0 rfl rfl inX9_watch_X9 8 (by decide) (List.mem_of_getElem? (i := 2) rfl) rfl dX9_watch_37 ?_
        refine lv_iconst (v := 4) hx hb dX9_watch_40 (by decide) ?_
        refine lv_icmp_ne (tgt := 47) hx hb dX9_watch_41 (by decide) (fun hc => ?_) (fun hc => ?_)
        · have hM := if_nn hc hM
          refine lv_aload_n hx hb dX9_watch_47 rfl (lv_at hl 0 rfl) ?_
          refine g_get (ci := 9) (C := RX9) (T := TX9) (N := 32) (v := .ref (ad 2)) F hP 0 rfl rfl inX9_watch_X9 5 (by decide) (List.mem_of_getElem? (i := 3) rfl) rfl dX9_watch_48 ?_
          refine lv_aload_n hx hb dX9_watch_51 rfl (lv_at hl 0 rfl) ?_
          refine g_get (ci := 9) (C := RX9) (T := TX9) (N := 32) (v := .int mb.2.2.2.2.1) F hP 0 rfl rfl inX9_watch_X9 8 (by decide) (List.mem_of_getElem? (i := 2) rfl) rfl dX9_watch_52 ?_
          refine lv_iload_n hx hb dX9_watch_55 rfl (lv_at hl 1 rfl) ?_
          obtain ⟨hin, hM⟩ := if_ok hM
          refine g_iast (ws' := (wM cI cZ ad (mb.1, mb.2.1, mb.2.2.1, mb.2.2.2.1, mb.2.2.2.2.1, mb.2.2.2.2.2.1, mb.2.2.2.2.2.2.1, (upd mb.2.2.2.2.2.2.2.1 mb.2.2.2.2.1.toNatClampNeg x1), mb.2.2.2.2.2.2.2.2.1, mb.2.2.2.2.2.2.2.2.2) mo mn mg mf mt mz ml mi)) F hP hS rfl 2 0 rfl rfl hin dX9_watch_56 rfl (fun H locs hP hS => ?_)
          refine lv_aload_n hx hb dX9_watch_57 rfl (lv_at hl 0 rfl) ?_
          refine g_get (ci := 9) (C := RX9) (T := TX9) (N := 32) (v := .ref (ad 3)) F hP 0 rfl rfl inX9_watch_X9 6 (by decide) (List.mem_of_getElem? (i := 4) rfl) rfl dX9_watch_58 ?_
          refine lv_aload_n hx hb dX9_watch_61 rfl (lv_at hl 0 rfl) ?_
          refine g_get (ci := 9) (C := RX9) (T := TX9) (N := 32) (v := .int mb.2.2.2.2.1) F hP 0 rfl rfl inX9_watch_X9 8 (by decide) (List.mem_of_getElem? (i := 2) rfl) rfl dX9_watch_62 ?_
          refine lv_iload_n hx hb dX9_watch_65 rfl (lv_at hl 2 rfl) ?_
          obtain ⟨hin, hM⟩ := if_ok hM
          refine g_iast (ws' := (wM cI cZ ad (mb.1, mb.2.1, mb.2.2.1, mb.2.2.2.1, mb.2.2.2.2.1, mb.2.2.2.2.2.1, mb.2.2.2.2.2.2.1, (upd mb.2.2.2.2.2.2.2.1 mb.2.2.2.2.1.toNatClampNeg x1), (upd mb.2.2.2.2.2.2.2.2.1 mb.2.2.2.2.1.toNatClampNeg x2), mb.2.2.2.2.2.2.2.2.2) mo mn mg mf mt mz ml mi)) F hP hS rfl 3 0 rfl rfl hin dX9_watch_66 rfl (fun H locs hP hS => ?_)
          refine lv_aload_n hx hb dX9_watch_67 rfl (lv_at hl 0 rfl) ?_
          refine g_get (ci := 9) (C := RX9) (T := TX9) (N := 32) (v := .ref (ad 4)) F hP 0 rfl rfl inX9_watch_X9 7 (by decide) (List.mem_of_getElem? (i := 5) rfl) rfl dX9_watch_68 ?_
          refine lv_aload_n hx hb dX9_watch_71 rfl (lv_at hl 0 rfl) ?_
          refine g_get (ci := 9) (C := RX9) (T := TX9) (N := 32) (v := .int mb.2.2.2.2.1) F hP 0 rfl rfl inX9_watch_X9 8 (by decide) (List.mem_of_getElem? (i := 2) rfl) rfl dX9_watch_72 ?_
          refine lv_iload_n hx hb dX9_watch_75 rfl (lv_at hl 3 rfl) ?_
          refine lv_if_eq (tgt := 83) hx hb dX9_watch_76 (by decide) (fun hc => ?_) (fun hc => ?_)
          · have hM := if_pp hc hM
            refine lv_iconst (v := 0) hx hb dX9_watch_83 (by decide) ?_
            exact j84 ((mb.1, mb.2.1, mb.2.2.1, mb.2.2.2.1, mb.2.2.2.2.1, mb.2.2.2.2.2.1, mb.2.2.2.2.2.2.1, (upd mb.2.2.2.2.2.2.2.1 mb.2.2.2.2.1.toNatClampNeg x1), (upd mb.2.2.2.2.2.2.2.2.1 mb.2.2.2.2.1.toNatClampNeg x2), mb.2.2.2.2.2.2.2.2.2), (0 : Int32), mb.2.2.2.2.1) _ _ _ hP hS (lv_sub hl [0] rfl) hM
          · have hM := if_nn hc hM
            refine lv_iconst (v := 1) hx hb dX9_watch_79 (by decide) ?_
            refine lv_goto (tgt := 84) hx hb dX9_watch_80 (by decide) ?_
            exact j84 ((mb.1, mb.2.1, mb.2.2.1, mb.2.2.2.1, mb.2.2.2.2.1, mb.2.2.2.2.2.1, mb.2.2.2.2.2.2.1, (upd mb.2.2.2.2.2.2.2.1 mb.2.2.2.2.1.toNatClampNeg x1), (upd mb.2.2.2.2.2.2.2.2.1 mb.2.2.2.2.1.toNatClampNeg x2), mb.2.2.2.2.2.2.2.2.2), (1 : Int32), mb.2.2.2.2.1) _ _ _ hP hS (lv_sub hl [0] rfl) hM
        · have hM := if_pp hc hM
          refine lv_bipush (v := -4) hx hb dX9_watch_44 (by decide) ?_
          exact ret_i hx hb hr hlk dX9_watch_46 hM hP hS
      · have hM := if_nn hc hM
        refine lv_bipush (v := -3) hx hb dX9_watch_33 (by decide) ?_
        exact ret_i hx hb hr hlk dX9_watch_35 hM hP hS
    · have hM := if_pp hc hM
      refine lv_bipush (v := -2) hx hb dX9_watch_22 (by decide) ?_
      exact ret_i hx hb hr hlk dX9_watch_24 hM hP hS
  · have hM := if_pp hc hM
    refine lv_iconst (v := -1) hx hb dX9_watch_8 (by decide) ?_
    exact ret_i hx hb hr hlk dX9_watch_9 hM hP hS
theorem inX9_where_X9 : ∀ w ∈ wsX90, w ∈ wsX9_where := fun w h => List.mem_cons_of_mem _ (List.mem_append_right _ h)
set_option maxHeartbeats 4000000 in
set_option maxRecDepth 100000 in
theorem c_X9_where (l : Launch) (dC : Nat → ClassId) (dI : Nat → Nat → Nat) (cI cC cZ : ClassId) (sa : Nat → Nat) (ad : Nat → Nat) (mb : BT) (mo : OT) (mn : NT) (mg : GT) (mf : AR) (mt : TT) (mz : AR) (ml : LT) (mi : IT) (x1 : Int32) (x2 : Int32) (x3 : Int32) {res : Int32 × LT} (hM : M_X9_where mb ml x1 x2 x3 = some res) : CTi l (dC, dI) [(cI, .int), (cC, .char), (cZ, .boolean)] sa yX9_where wsX9_where (rmd 8) [.ref (ad 0), .int x1, .int x2, .int x3] (wM cI cZ ad mb mo mn mg mf mt mz ml mi) (fun (uu : LT) => (wM cI cZ ad mb mo mn mg mf mt mz uu mi)) res := by
  refine CTi.enter (own := RX9) (cc := cX9_where) (maxL := 7) (ret := (some .int)) (by decide) rfl rfl (Nat.le_of_ble_eq_true rfl) ?_
  intro pr e s m below meth c A F hr hlk hP hS ls hl
  obtain ⟨⟨hx, hb, hml, hown, hts⟩, hK, hDD, hA, hKC⟩ := id F
  have hl : lv_has ls 7 [(0, .ref (ad 0)), (1, .int x1), (2, .int x2), (3, .int x3)] := hl
  have hP : va_P (dC, dI) vwCl (wM cI cZ ad mb mo mn mg mf mt mz ml mi) s.heap := hP
  unfold M_X9_where at hM
  refine kloop (α := LT × Int32 × Int32 × Int32) (res := res) (fun k a => M_X9_where_136 mb x1 x2 x3 k a) (fun rec a => M_X9_where_136b mb x1 x2 x3 rec a) (fun _ => rfl) (fun _ _ => rfl) F (fun a => (wM cI cZ ad mb mo mn mg mf mt mz a.1 mi)) (fun a => [(0, .ref (ad 0)), (3, .int x3), (4, .int a.2.1), (5, .int a.2.2.1), (6, .int a.2.2.2)]) (fun a => []) 136 ?_ (fun j136 => ?_)
  · intro rc136 ih136 a136 H locs ls hP hS hl hM
    unfold M_X9_where_136b at hM
    refine kblk (α := LT × Int32 × Int32 × Int32 × Int32) (res := res) (fun a => M_X9_where_165 mb x1 x2 x3 rc136 a) F (fun a => (wM cI cZ ad mb mo mn mg mf mt mz a.1 mi)) (fun a => [(0, .ref (ad 0)), (3, .int x3), (5, .int a.2.1), (6, .int a.2.2.1)]) (fun a => [.int a.2.2.2.1, .int a.2.2.2.2]) 165 ?_ (fun j165 => ?_)
    · intro a165 H locs ls hP hS hl hM
      unfold M_X9_where_165 at hM
      refine lv_ior hx hb dX9_where_165 ?_
      refine lv_istore (lv' := [(4, .int (a165.2.2.2.2 ||| a165.2.2.2.1)), (0, .ref (ad 0)), (3, .int x3), (5, .int a165.2.1), (6, .int a165.2.2.1)]) hx hb dX9_where_166 hl (by decide) rfl (fun ls hl => ?_)
      refine lv_iload hx hb dX9_where_168 (lv_at hl 3 rfl) ?_
      refine lv_aload_n hx hb dX9_where_170 rfl (lv_at hl 1 rfl) ?_
      refine g_get (ci := 9) (C := RX9) (T := TX9) (N := 32) (v := .ref (ad 9)) F hP 0 rfl rfl inX9_where_X9 26 (by decide) (List.mem_of_getElem? (i := 2) rfl) rfl dX9_where_171 ?_
      refine lv_iload hx hb dX9_where_174 (lv_at hl 4 rfl) ?_
      obtain ⟨hin, hM⟩ := if_ok hM
      refine va_iald hx hb hK hP 9 0 rfl rfl hin dX9_where_176 ?_
      refine lv_iadd hx hb dX9_where_177 ?_
      refine lv_istore (lv' := [(5, .int (a165.2.1 + (a165.1.1 a165.2.2.1.toNatClampNeg))), (4, .int (a165.2.2.2.2 ||| a165.2.2.2.1)), (0, .ref (ad 0)), (3, .int x3), (6, .int a165.2.2.1)]) hx hb dX9_where_178 hl (by decide) rfl (fun ls hl => ?_)
      refine lv_iinc (v := (a165.2.2.1 + (1 : Int32))) (lv' := [(6, .int (a165.2.2.1 + (1 : Int32))), (5, .int (a165.2.1 + (a165.1.1 a165.2.2.1.toNatClampNeg))), (4, .int (a165.2.2.2.2 ||| a165.2.2.2.1)), (0, .ref (ad 0)), (3, .int x3)]) hx hb dX9_where_180 hl (k := 4) rfl rfl (by decide) rfl (fun ls hl => ?_)
      refine lv_goto (tgt := 136) hx hb dX9_where_183 (by decide) ?_
      exact ih136 (a165.1, (a165.2.2.2.2 ||| a165.2.2.2.1), (a165.2.1 + (a165.1.1 a165.2.2.1.toNatClampNeg)), (a165.2.2.1 + (1 : Int32))) _ _ _ hP hS (lv_sub hl [3, 4, 2, 1, 0] rfl) hM
    refine lv_iload hx hb dX9_where_136 (lv_at hl 4 rfl) ?_
    refine lv_aload_n hx hb dX9_where_138 rfl (lv_at hl 0 rfl) ?_
    obtain ⟨z139, hcr, hM⟩ := ob_s hM
    refine res_i0 F hP hS rfl [0, 1, 2, 3, 4, 5, 6, 7, 8, 9, 10, 11, 12] rfl rfl (runV_of (n := 0) (As := []) (rest := [.int a136.2.2.2]) F hP hS rfl [0, 1, 2, 3, 4, 5, 6, 7, 8, 9, 10, 11, 12] rfl rfl (c_X9_cells l dC dI cI cC cZ sa ad mb mo mn mg mf mt mz a136.1 mi hcr _) gX9_where_X9_cells rfl (by decide +kernel) ⟨Nat.le_of_ble_eq_true rfl, Nat.le_of_ble_eq_true rfl⟩ 0 9 rfl rfl rfl hl.1 rfl (Nat.le_of_ble_eq_true rfl) dX9_where_139 ⟨Nat.zero_le _, Nat.zero_le _⟩) (fun H locs hP hS => ?_)
    refine lv_icmp_ge (tgt := 186) hx hb dX9_where_142 (by decide) (fun hc => ?_) (fun hc => ?_)
    · have hM := if_pp hc hM
      refine lv_iload_n hx hb dX9_where_186 rfl (lv_at hl 1 rfl) ?_
      refine lv_if_ne (tgt := 195) hx hb dX9_where_187 (by decide) (fun hc => ?_) (fun hc => ?_)
      · have hM := if_nn hc hM
        refine lv_iload hx hb dX9_where_195 (lv_at hl 3 rfl) ?_
        exact ret_i hx hb hr hlk dX9_where_197 hM hP hS
      · have hM := if_pp hc hM
        refine lv_iload hx hb dX9_where_190 (lv_at hl 2 rfl) ?_
        refine lv_goto (tgt := 197) hx hb dX9_where_192 (by decide) ?_
        exact ret_i hx hb hr hlk dX9_where_197 hM hP hS
    · have hM := if_nn hc hM
      refine lv_iload hx hb dX9_where_145 (lv_at hl 2 rfl) ?_
      refine lv_aload_n hx hb dX9_where_147 rfl (lv_at hl 0 rfl) ?_
      refine g_get (ci := 9) (C := RX9) (T := TX9) (N := 32) (v := .ref (ad 9)) F hP 0 rfl rfl inX9_where_X9 26 (by decide) (List.mem_of_getElem? (i := 2) rfl) rfl dX9_where_148 ?_
      refine lv_iload hx hb dX9_where_151 (lv_at hl 4 rfl) ?_
      obtain ⟨hin, hM⟩ := if_ok hM
      refine va_iald hx hb hK hP 9 0 rfl rfl hin dX9_where_153 ?_
      refine lv_if_le (tgt := 164) hx hb dX9_where_154 (by decide) (fun hc => ?_) (fun hc => ?_)
      · have hM := if_pp hc hM
        refine lv_iconst (v := 0) hx hb dX9_where_164 (by decide) ?_
        exact j165 (a136.1, a136.2.2.1, a136.2.2.2, (0 : Int32), a136.2.1) _ _ _ hP hS (lv_sub hl [0, 1, 3, 4] rfl) hM
      · have hM := if_nn hc hM
        refine lv_iconst (v := 1) hx hb dX9_where_157 (by decide) ?_
        refine lv_iload hx hb dX9_where_158 (lv_at hl 4 rfl) ?_
        refine lv_ishl hx hb dX9_where_160 ?_
        refine lv_goto (tgt := 165) hx hb dX9_where_161 (by decide) ?_
        exact j165 (a136.1, a136.2.2.1, a136.2.2.2, ((1 : Int32) <<< (a136.2.2.2 &&& 31)), a136.2.1) _ _ _ hP hS (lv_sub hl [0, 1, 3, 4] rfl) hM
  refine kloop (α := LT × Int32) (res := res) (fun k a => M_X9_where_96 mb x1 x2 x3 k a) (fun rec a => M_X9_where_96b mb x1 x2 x3 rec a) (fun _ => rfl) (fun _ _ => rfl) F (fun a => (wM cI cZ ad mb mo mn mg mf mt mz a.1 mi)) (fun a => [(0, .ref (ad 0)), (1, .int x1), (2, .int x2), (3, .int x3), (4, .int a.2)]) (fun a => []) 96 ?_ (fun j96 => ?_)
  · intro rc96 ih96 a96 H locs ls hP hS hl hM
    unfold M_X9_where_96b at hM
    refine kblk (α := LT × Int32 × Int32) (res := res) (fun a => M_X9_where_118 mb x1 x2 x3 rc96 a) F (fun a => (wM cI cZ ad mb mo mn mg mf mt mz a.1 mi)) (fun a => [(0, .ref (ad 0)), (1, .int x1), (2, .int x2), (3, .int x3), (4, .int a.2.1)]) (fun a => [.int a.2.2, .ref (ad 0)]) 118 ?_ (fun j118 => ?_)
    · intro a118 H locs ls hP hS hl hM
      unfold M_X9_where_118 at hM
      obtain ⟨z118, hcr, hM⟩ := ob_s hM
      refine res_v (ws' := (wM cI cZ ad mb mo mn mg mf mt mz z118 mi)) F hP hS rfl [0, 1, 2, 3, 4, 5, 6, 7, 8, 9, 10, 11, 12] rfl rfl (runV_of (n := 1) (As := [.int a118.2.2]) (rest := []) F hP hS rfl [0, 1, 2, 3, 4, 5, 6, 7, 8, 9, 10, 11, 12] rfl rfl (c_X9_oneMinute l dC dI cI cC cZ sa ad mb mo mn mg mf mt mz a118.1 mi a118.2.2 hcr _) gX9_where_X9_oneMinute rfl (by decide +kernel) ⟨Nat.le_of_ble_eq_true rfl, Nat.le_of_ble_eq_true rfl⟩ 0 9 rfl rfl rfl hl.1 rfl (Nat.le_of_ble_eq_true rfl) dX9_where_118 ⟨Nat.zero_le _, Nat.zero_le _⟩) rep_full (fun H locs hP hS => ?_)
      refine lv_iinc (v := (a118.2.1 + (1 : Int32))) (lv' := [(4, .int (a118.2.1 + (1 : Int32))), (0, .ref (ad 0)), (1, .int x1), (2, .int x2), (3, .int x3)]) hx hb dX9_where_121 hl (k := 4) rfl rfl (by decide) rfl (fun ls hl => ?_)
      refine lv_goto (tgt := 96) hx hb dX9_where_124 (by decide) ?_
      exact ih96 (z118, (a118.2.1 + (1 : Int32))) _ _ _ hP hS (lv_sub hl [1, 2, 3, 4, 0] rfl) hM
    refine lv_iload hx hb dX9_where_96 (lv_at hl 4 rfl) ?_
    refine lv_iload_n hx hb dX9_where_98 rfl (lv_at hl 2 rfl) ?_
    refine lv_icmp_ge (tgt := 127) hx hb dX9_where_99 (by decide) (fun hc => ?_) (fun hc => ?_)
    · have hM := if_pp hc hM
      refine lv_iconst (v := 0) hx hb dX9_where_127 (by decide) ?_
      refine lv_istore (lv' := [(4, .int (0 : Int32)), (0, .ref (ad 0)), (1, .int x1), (2, .int x2), (3, .int x3)]) hx hb dX9_where_128 hl (by decide) rfl (fun ls hl => ?_)
      refine lv_iconst (v := 0) hx hb dX9_where_130 (by decide) ?_
      refine lv_istore (lv' := [(5, .int (0 : Int32)), (4, .int (0 : Int32)), (0, .ref (ad 0)), (1, .int x1), (2, .int x2), (3, .int x3)]) hx hb dX9_where_131 hl (by decide) rfl (fun ls hl => ?_)
      refine lv_iconst (v := 0) hx hb dX9_where_133 (by decide) ?_
      refine lv_istore (lv' := [(6, .int (0 : Int32)), (5, .int (0 : Int32)), (4, .int (0 : Int32)), (0, .ref (ad 0)), (1, .int x1), (2, .int x2), (3, .int x3)]) hx hb dX9_where_134 hl (by decide) rfl (fun ls hl => ?_)
      exact j136 200 (a96.1, (0 : Int32), (0 : Int32), (0 : Int32)) _ _ _ hP hS (lv_sub hl [3, 6, 2, 1, 0] rfl) hM
    · have hM := if_nn hc hM
      refine lv_aload_n hx hb dX9_where_102 rfl (lv_at hl 0 rfl) ?_
      refine lv_iload_n hx hb dX9_where_103 rfl (lv_at hl 1 rfl) ?_
      refine lv_iload hx hb dX9_where_104 (lv_at hl 4 rfl) ?_
      refine lv_ishr hx hb dX9_where_106 ?_
      refine lv_iconst (v := 1) hx hb dX9_where_107 (by decide) ?_
      refine lv_iand hx hb dX9_where_108 ?_
      refine lv_iconst (v := 1) hx hb dX9_where_109 (by decide) ?_
      refine lv_icmp_ne (tgt := 117) hx hb dX9_where_110 (by decide) (fun hc => ?_) (fun hc => ?_)
      · have hM := if_nn hc hM
        refine lv_iconst (v := 0) hx hb dX9_where_117 (by decide) ?_
        exact j118 (a96.1, a96.2, (0 : Int32)) _ _ _ hP hS (lv_sub hl [0, 1, 2, 3, 4] rfl) hM
      · have hM := if_pp hc hM
        refine lv_iconst (v := 1) hx hb dX9_where_113 (by decide) ?_
        refine lv_goto (tgt := 118) hx hb dX9_where_114 (by decide) ?_
        exact j118 (a96.1, a96.2, (1 : Int32)) _ _ _ hP hS (lv_sub hl [0, 1, 2, 3, 4] rfl) hM
  refine kloop (α := LT × Int32) (res := res) (fun k a => M_X9_where_59 mb x1 x2 x3 k a) (fun rec a => M_X9_where_59b mb x1 x2 x3 rec a) (fun _ => rfl) (fun _ _ => rfl) F (fun a => (wM cI cZ ad mb mo mn mg mf mt mz a.1 mi)) (fun a => [(0, .ref (ad 0)), (1, .int x1), (2, .int x2), (3, .int x3), (4, .int a.2)]) (fun a => []) 59 ?_ (fun j59 => ?_)
  · intro rc59 ih59 a59 H locs ls hP hS hl hM
    unfold M_X9_where_59b at hM
    refine kblk (α := LT × Int32 × Int32 × Int32) (res := res) (fun a => M_X9_where_86 mb x1 x2 x3 rc59 a) F (fun a => (wM cI cZ ad mb mo mn mg mf mt mz a.1 mi)) (fun a => [(0, .ref (ad 0)), (1, .int x1), (2, .int x2), (3, .int x3), (4, .int a.2.1)]) (fun a => [.int a.2.2.1, .int a.2.2.2, .ref (ad 9)]) 86 ?_ (fun j86 => ?_)
    · intro a86 H locs ls hP hS hl hM
      unfold M_X9_where_86 at hM
      obtain ⟨hin, hM⟩ := if_ok hM
      refine g_iast (ws' := (wM cI cZ ad mb mo mn mg mf mt mz ((upd a86.1.1 a86.2.2.2.toNatClampNeg a86.2.2.1), a86.1.2) mi)) F hP hS rfl 9 0 rfl rfl hin dX9_where_86 rfl (fun H locs hP hS => ?_)
      refine lv_iinc (v := (a86.2.1 + (1 : Int32))) (lv' := [(4, .int (a86.2.1 + (1 : Int32))), (0, .ref (ad 0)), (1, .int x1), (2, .int x2), (3, .int x3)]) hx hb dX9_where_87 hl (k := 4) rfl rfl (by decide) rfl (fun ls hl => ?_)
      refine lv_goto (tgt := 59) hx hb dX9_where_90 (by decide) ?_
      exact ih59 (((upd a86.1.1 a86.2.2.2.toNatClampNeg a86.2.2.1), a86.1.2), (a86.2.1 + (1 : Int32))) _ _ _ hP hS (lv_sub hl [1, 2, 3, 4, 0] rfl) hM
    refine lv_iload hx hb dX9_where_59 (lv_at hl 4 rfl) ?_
    refine lv_bipush (v := 16) hx hb dX9_where_61 (by decide) ?_
    refine lv_icmp_ge (tgt := 93) hx hb dX9_where_63 (by decide) (fun hc => ?_) (fun hc => ?_)
    · have hM := if_pp hc hM
      refine lv_iconst (v := 0) hx hb dX9_where_93 (by decide) ?_
      refine lv_istore (lv' := [(4, .int (0 : Int32)), (0, .ref (ad 0)), (1, .int x1), (2, .int x2), (3, .int x3)]) hx hb dX9_where_94 hl (by decide) rfl (fun ls hl => ?_)
      exact j96 200 (a59.1, (0 : Int32)) _ _ _ hP hS (lv_sub hl [1, 2, 3, 4, 0] rfl) hM
    · have hM := if_nn hc hM
      refine lv_aload_n hx hb dX9_where_66 rfl (lv_at hl 0 rfl) ?_
      refine g_get (ci := 9) (C := RX9) (T := TX9) (N := 32) (v := .ref (ad 9)) F hP 0 rfl rfl inX9_where_X9 26 (by decide) (List.mem_of_getElem? (i := 2) rfl) rfl dX9_where_67 ?_
      refine lv_iload hx hb dX9_where_70 (lv_at hl 4 rfl) ?_
      refine lv_iload hx hb dX9_where_72 (lv_at hl 4 rfl) ?_
      refine lv_aload_n hx hb dX9_where_74 rfl (lv_at hl 0 rfl) ?_
      refine g_get (ci := 9) (C := RX9) (T := TX9) (N := 32) (v := .int mb.2.2.1) F hP 0 rfl rfl inX9_where_X9 3 (by decide) (List.mem_of_getElem? (i := 3) rfl) rfl dX9_where_75 ?_
      refine lv_icmp_ne (tgt := 85) hx hb dX9_where_78 (by decide) (fun hc => ?_) (fun hc => ?_)
      · have hM := if_nn hc hM
        refine lv_iconst (v := 0) hx hb dX9_where_85 (by decide) ?_
        exact j86 (a59.1, a59.2, (0 : Int32), a59.2) _ _ _ hP hS (lv_sub hl [0, 1, 2, 3, 4] rfl) hM
      · have hM := if_pp hc hM
        refine lv_iconst (v := 1) hx hb dX9_where_81 (by decide) ?_
        refine lv_goto (tgt := 86) hx hb dX9_where_82 (by decide) ?_
        exact j86 (a59.1, a59.2, (1 : Int32), a59.2) _ _ _ hP hS (lv_sub hl [0, 1, 2, 3, 4] rfl) hM
  refine kblk (α := LT × Int32 × Int32 × Int64 × Int64) (res := res) (fun a => M_X9_where_43 mb x1 x2 x3 a) F (fun a => (wM cI cZ ad mb mo mn mg mf mt mz a.1 mi)) (fun a => [(0, .ref (ad 0)), (1, .int x1), (2, .int x2), (3, .int x3)]) (fun a => [.int a.2.1, .int a.2.2.1, .long a.2.2.2.1, .long a.2.2.2.2]) 43 ?_ (fun j43 => ?_)
  · intro a43 H locs ls hP hS hl hM
    unfold M_X9_where_43 at hM
    refine lv_ishl hx hb dX9_where_43 ?_
    refine lv_iconst (v := 1) hx hb dX9_where_44 (by decide) ?_
    refine lv_isub hx hb dX9_where_45 ?_
    refine lv_i2l (v := ((a43.2.2.1 <<< (a43.2.1 &&& 31)) - (1 : Int32)).toInt64) hx hb dX9_where_46 rfl ?_
    obtain ⟨z47, hcr, hM⟩ := ob_s hM
    refine res_i0 F hP hS rfl [] rfl rfl (runS_of (n := 3) (As := [.long a43.2.2.2.2, .long a43.2.2.2.1, .long (((a43.2.2.1 <<< (a43.2.1 &&& 31)) - (1 : Int32)).toInt64)]) (rest := []) F hP hS rfl [] rfl rfl (c_X9_in l dC dI cI cC cZ sa a43.2.2.2.2 a43.2.2.2.1 (((a43.2.2.1 <<< (a43.2.1 &&& 31)) - (1 : Int32)).toInt64) hcr _) gX9_where_X9_in rfl (by decide +kernel) ⟨Nat.le_of_ble_eq_true rfl, Nat.le_of_ble_eq_true rfl⟩ rfl hl.1 rfl (Nat.le_of_ble_eq_true rfl) dX9_where_47 ⟨Nat.zero_le _, Nat.zero_le _⟩) (fun H locs hP hS => ?_)
    refine lv_if_ne (tgt := 56) hx hb dX9_where_50 (by decide) (fun hc => ?_) (fun hc => ?_)
    · have hM := if_nn hc hM
      refine lv_iconst (v := 0) hx hb dX9_where_56 (by decide) ?_
      refine lv_istore (lv' := [(4, .int (0 : Int32)), (0, .ref (ad 0)), (1, .int x1), (2, .int x2), (3, .int x3)]) hx hb dX9_where_57 hl (by decide) rfl (fun ls hl => ?_)
      exact j59 200 (a43.1, (0 : Int32)) _ _ _ hP hS (lv_sub hl [1, 2, 3, 4, 0] rfl) hM
    · have hM := if_pp hc hM
      refine lv_bipush (v := -2) hx hb dX9_where_53 (by decide) ?_
      exact ret_i hx hb hr hlk dX9_where_55 hM hP hS
  refine lv_iload_n hx hb dX9_where_0 rfl (lv_at hl 2 rfl) ?_
  refine lv_i2l (v := x2.toInt64) hx hb dX9_where_1 rfl ?_
  refine lv_lconst (v := 0) hx hb dX9_where_2 (by decide) ?_
  refine lv_ldc2 (v := 8) hx hb hown (hts _ (List.mem_of_getElem? (i := 1) rfl)) dX9_where_3 ?_
  obtain ⟨z6, hcr, hM⟩ := ob_s hM
  refine res_i0 F hP hS rfl [] rfl rfl (runS_of (n := 3) (As := [.long x2.toInt64, .long (0 : Int64), .long (8 : Int64)]) (rest := []) F hP hS rfl [] rfl rfl (c_X9_in l dC dI cI cC cZ sa x2.toInt64 (0 : Int64) (8 : Int64) hcr _) gX9_where_X9_in rfl (by decide +kernel) ⟨Nat.le_of_ble_eq_true rfl, Nat.le_of_ble_eq_true rfl⟩ rfl hl.1 rfl (Nat.le_of_ble_eq_true rfl) dX9_where_6 ⟨Nat.zero_le _, Nat.zero_le _⟩) (fun H locs hP hS => ?_)
  refine lv_if_eq (tgt := 53) hx hb dX9_where_9 (by decide) (fun hc => ?_) (fun hc => ?_)
  · have hM := if_pp hc hM
    refine lv_bipush (v := -2) hx hb dX9_where_53 (by decide) ?_
    exact ret_i hx hb hr hlk dX9_where_55 hM hP hS
  · have hM := if_nn hc hM
    refine lv_iload_n hx hb dX9_where_12 rfl (lv_at hl 3 rfl) ?_
    refine lv_i2l (v := x3.toInt64) hx hb dX9_where_13 rfl ?_
    refine lv_lconst (v := 0) hx hb dX9_where_14 (by decide) ?_
    refine lv_lconst (v := 1) hx hb dX9_where_15 (by decide) ?_
    obtain ⟨z16, hcr, hM⟩ := ob_s hM
    refine res_i0 F hP hS rfl [] rfl rfl (runS_of (n := 3) (As := [.long x3.toInt64, .long (0 : Int64), .long (1 : Int64)]) (rest := []) F hP hS rfl [] rfl rfl (c_X9_in l dC dI cI cC cZ sa x3.toInt64 (0 : Int64) (1 : Int64) hcr _) gX9_where_X9_in rfl (by decide +kernel) ⟨Nat.le_of_ble_eq_true rfl, Nat.le_of_ble_eq_true rfl⟩ rfl hl.1 rfl (Nat.le_of_ble_eq_true rfl) dX9_where_16 ⟨Nat.zero_le _, Nat.zero_le _⟩) (fun H locs hP hS => ?_)
    refine lv_if_eq (tgt := 53) hx hb dX9_where_19 (by decide) (fun hc => ?_) (fun hc => ?_)
    · have hM := if_pp hc hM
      refine lv_bipush (v := -2) hx hb dX9_where_53 (by decide) ?_
      exact ret_i hx hb hr hlk dX9_where_55 hM hP hS
    · have hM := if_nn hc hM
      refine lv_iload_n hx hb dX9_where_22 rfl (lv_at hl 1 rfl) ?_
      refine lv_i2l (v := x1.toInt64) hx hb dX9_where_23 rfl ?_
      refine lv_lconst (v := 0) hx hb dX9_where_24 (by decide) ?_
      refine lv_iconst (v := 1) hx hb dX9_where_25 (by decide) ?_
      refine lv_iload_n hx hb dX9_where_26 rfl (lv_at hl 2 rfl) ?_
      refine lv_i2l (v := x2.toInt64) hx hb dX9_where_27 rfl ?_
      refine lv_lconst (v := 0) hx hb dX9_where_28 (by decide) ?_
      refine lv_ldc2 (v := 8) hx hb hown (hts _ (List.mem_of_getElem? (i := 1) rfl)) dX9_where_29 ?_
      obtain ⟨z32, hcr, hM⟩ := ob_s hM
      refine res_i0 F hP hS rfl [] rfl rfl (runS_of (n := 3) (As := [.long x2.toInt64, .long (0 : Int64), .long (8 : Int64)]) (rest := [.int (1 : Int32), .long (0 : Int64), .long x1.toInt64]) F hP hS rfl [] rfl rfl (c_X9_in l dC dI cI cC cZ sa x2.toInt64 (0 : Int64) (8 : Int64) hcr _) gX9_where_X9_in rfl (by decide +kernel) ⟨Nat.le_of_ble_eq_true rfl, Nat.le_of_ble_eq_true rfl⟩ rfl hl.1 rfl (Nat.le_of_ble_eq_true rfl) dX9_where_32 ⟨Nat.zero_le _, Nat.zero_le _⟩) (fun H locs hP hS => ?_)
      refine lv_if_eq (tgt := 42) hx hb dX9_where_35 (by decide) (fun hc => ?_) (fun hc => ?_)
      · have hM := if_pp hc hM
        refine lv_iconst (v := 0) hx hb dX9_where_42 (by decide) ?_
        exact j43 (ml, (0 : Int32), (1 : Int32), (0 : Int64), x1.toInt64) _ _ _ hP hS (lv_sub hl [0, 1, 2, 3] rfl) hM
      · have hM := if_nn hc hM
        refine lv_iload_n hx hb dX9_where_38 rfl (lv_at hl 2 rfl) ?_
        refine lv_goto (tgt := 43) hx hb dX9_where_39 (by decide) ?_
        exact j43 (ml, x2, (1 : Int32), (0 : Int64), x1.toInt64) _ _ _ hP hS (lv_sub hl [0, 1, 2, 3] rfl) hM
theorem inX9_wind_X9 : ∀ w ∈ wsX90, w ∈ wsX9_wind := fun w h => List.mem_cons_of_mem _ (List.mem_append_right _ h)
set_option maxHeartbeats 4000000 in
set_option maxRecDepth 100000 in
theorem c_X9_wind (l : Launch) (dC : Nat → ClassId) (dI : Nat → Nat → Nat) (cI cC cZ : ClassId) (sa : Nat → Nat) (ad : Nat → Nat) (mb : BT) (mo : OT) (mn : NT) (mg : GT) (mf : AR) (mt : TT) (mz : AR) (ml : LT) (mi : IT) (x1 : Int32) (x2 : Int32) {res : Int64 × NT × GT} (hM : M_X9_wind mb mo mn mg x1 x2 = some res) : CTl l (dC, dI) [(cI, .int), (cC, .char), (cZ, .boolean)] sa yX9_wind wsX9_wind (rmd 9) [.ref (ad 0), .int x1, .int x2] (wM cI cZ ad mb mo mn mg mf mt mz ml mi) (fun (uu : NT × GT) => (wM cI cZ ad mb mo uu.1 uu.2 mf mt mz ml mi)) res := by
  refine CTl.enter (own := RX9) (cc := cX9_wind) (maxL := 9) (ret := (some .long)) (by decide) rfl rfl (Nat.le_of_ble_eq_true rfl) ?_
  intro pr e s m below meth c A F hr hlk hP hS ls hl
  obtain ⟨⟨hx, hb, hml, hown, hts⟩, hK, hDD, hA, hKC⟩ := id F
  have hl : lv_has ls 9 [(0, .ref (ad 0)), (1, .int x1), (2, .int x2)] := hl
  have hP : va_P (dC, dI) vwCl (wM cI cZ ad mb mo mn mg mf mt mz ml mi) s.heap := hP
  unfold M_X9_wind at hM
  refine kblk (α := NT × GT) (res := res) (fun a => M_X9_wind_22 mb mo x1 x2 a) F (fun a => (wM cI cZ ad mb mo a.1 a.2 mf mt mz ml mi)) (fun a => [(0, .ref (ad 0))]) (fun a => []) 22 ?_ (fun j22 => ?_)
  · intro a22 H locs ls hP hS hl hM
    unfold M_X9_wind_22 at hM
    refine lv_ldc2 (v := -1000000000000000002) hx hb hown (hts _ (List.mem_of_getElem? (i := 2) rfl)) dX9_wind_22 ?_
    exact ret_l hx hb hr hlk dX9_wind_25 hM hP hS
  refine kloop (α := NT × GT × Int64 × Int64 × Int32) (res := res) (fun k a => M_X9_wind_80 mb mo x1 x2 k a) (fun rec a => M_X9_wind_80b mb mo x1 x2 rec a) (fun _ => rfl) (fun _ _ => rfl) F (fun a => (wM cI cZ ad mb mo a.1 a.2.1 mf mt mz ml mi)) (fun a => [(0, .ref (ad 0)), (1, .int x1), (2, .int x2), (4, .long a.2.2.1), (6, .long a.2.2.2.1), (8, .int a.2.2.2.2)]) (fun a => []) 80 ?_ (fun j80 => ?_)
  · intro rc80 ih80 a80 H locs ls hP hS hl hM
    unfold M_X9_wind_80b at hM
    refine lv_iload hx hb dX9_wind_80 (lv_at hl 5 rfl) ?_
    refine lv_aload_n hx hb dX9_wind_82 rfl (lv_at hl 0 rfl) ?_
    refine g_get (ci := 9) (C := RX9) (T := TX9) (N := 32) (v := .int a80.2.1.2.2.2.2.2) F hP 0 rfl rfl inX9_wind_X9 21 (by decide) (List.mem_of_getElem? (i := 4) rfl) rfl dX9_wind_83 ?_
    refine lv_icmp_ge (tgt := 110) hx hb dX9_wind_86 (by decide) (fun hc => ?_) (fun hc => ?_)
    · have hM := if_pp hc hM
      refine lv_lload hx hb dX9_wind_110 (lv_at hl 3 rfl) ?_
      refine lv_lload hx hb dX9_wind_112 (lv_at hl 4 rfl) ?_
      refine lv_iload_n hx hb dX9_wind_114 rfl (lv_at hl 2 rfl) ?_
      obtain ⟨z115, hcr, hM⟩ := ob_s hM
      refine res_l0 F hP hS rfl [] rfl rfl (runS_of (n := 3) (As := [.long a80.2.2.1, .long a80.2.2.2.1, .int x2]) (rest := []) F hP hS rfl [] rfl rfl (c_X9_lowest l dC dI cI cC cZ sa a80.2.2.1 a80.2.2.2.1 x2 hcr _) gX9_wind_X9_lowest rfl (by decide +kernel) ⟨Nat.le_of_ble_eq_true rfl, Nat.le_of_ble_eq_true rfl⟩ rfl hl.1 rfl (Nat.le_of_ble_eq_true rfl) dX9_wind_115 ⟨Nat.zero_le _, Nat.zero_le _⟩) (fun H locs hP hS => ?_)
      exact ret_l hx hb hr hlk dX9_wind_118 hM hP hS
    · have hM := if_nn hc hM
      refine lv_lload hx hb dX9_wind_89 (lv_at hl 3 rfl) ?_
      refine lv_iload_n hx hb dX9_wind_91 rfl (lv_at hl 1 rfl) ?_
      refine lv_i2l (v := x1.toInt64) hx hb dX9_wind_92 rfl ?_
      refine lv_lmul hx hb dX9_wind_93 ?_
      refine lv_lstore (lv' := [(4, .long (a80.2.2.1 * x1.toInt64)), (0, .ref (ad 0)), (1, .int x1), (2, .int x2), (6, .long a80.2.2.2.1), (8, .int a80.2.2.2.2)]) hx hb dX9_wind_94 hl (by decide) rfl (fun ls hl => ?_)
      refine lv_lload hx hb dX9_wind_96 (lv_at hl 4 rfl) ?_
      refine lv_ldc2 (v := 10) hx hb hown (hts _ (List.mem_of_getElem? (i := 1) rfl)) dX9_wind_98 ?_
      refine lv_lmul hx hb dX9_wind_101 ?_
      refine lv_lstore (lv' := [(6, .long (a80.2.2.2.1 * (10 : Int64))), (4, .long (a80.2.2.1 * x1.toInt64)), (0, .ref (ad 0)), (1, .int x1), (2, .int x2), (8, .int a80.2.2.2.2)]) hx hb dX9_wind_102 hl (by decide) rfl (fun ls hl => ?_)
      refine lv_iinc (v := (a80.2.2.2.2 + (1 : Int32))) (lv' := [(8, .int (a80.2.2.2.2 + (1 : Int32))), (6, .long (a80.2.2.2.1 * (10 : Int64))), (4, .long (a80.2.2.1 * x1.toInt64)), (0, .ref (ad 0)), (1, .int x1), (2, .int x2)]) hx hb dX9_wind_104 hl (k := 5) rfl rfl (by decide) rfl (fun ls hl => ?_)
      refine lv_goto (tgt := 80) hx hb dX9_wind_107 (by decide) ?_
      exact ih80 (a80.1, a80.2.1, (a80.2.2.1 * x1.toInt64), (a80.2.2.2.1 * (10 : Int64)), (a80.2.2.2.2 + (1 : Int32))) _ _ _ hP hS (lv_sub hl [3, 4, 5, 2, 1, 0] rfl) hM
  refine lv_iload_n hx hb dX9_wind_0 rfl (lv_at hl 1 rfl) ?_
  refine lv_i2l (v := x1.toInt64) hx hb dX9_wind_1 rfl ?_
  refine lv_lconst (v := 0) hx hb dX9_wind_2 (by decide) ?_
  refine lv_ldc2 (v := 10) hx hb hown (hts _ (List.mem_of_getElem? (i := 1) rfl)) dX9_wind_3 ?_
  obtain ⟨z6, hcr, hM⟩ := ob_s hM
  refine res_i0 F hP hS rfl [] rfl rfl (runS_of (n := 3) (As := [.long x1.toInt64, .long (0 : Int64), .long (10 : Int64)]) (rest := []) F hP hS rfl [] rfl rfl (c_X9_in l dC dI cI cC cZ sa x1.toInt64 (0 : Int64) (10 : Int64) hcr _) gX9_wind_X9_in rfl (by decide +kernel) ⟨Nat.le_of_ble_eq_true rfl, Nat.le_of_ble_eq_true rfl⟩ rfl hl.1 rfl (Nat.le_of_ble_eq_true rfl) dX9_wind_6 ⟨Nat.zero_le _, Nat.zero_le _⟩) (fun H locs hP hS => ?_)
  refine lv_if_eq (tgt := 22) hx hb dX9_wind_9 (by decide) (fun hc => ?_) (fun hc => ?_)
  · have hM := if_pp hc hM
    exact j22 (mn, mg) _ _ _ hP hS (lv_sub hl [0] rfl) hM
  · have hM := if_nn hc hM
    refine lv_iload_n hx hb dX9_wind_12 rfl (lv_at hl 2 rfl) ?_
    refine lv_i2l (v := x2.toInt64) hx hb dX9_wind_13 rfl ?_
    refine lv_lconst (v := 0) hx hb dX9_wind_14 (by decide) ?_
    refine lv_lconst (v := 1) hx hb dX9_wind_15 (by decide) ?_
    obtain ⟨z16, hcr, hM⟩ := ob_s hM
    refine res_i0 F hP hS rfl [] rfl rfl (runS_of (n := 3) (As := [.long x2.toInt64, .long (0 : Int64), .long (1 : Int64)]) (rest := []) F hP hS rfl [] rfl rfl (c_X9_in l dC dI cI cC cZ sa x2.toInt64 (0 : Int64) (1 : Int64) hcr _) gX9_wind_X9_in rfl (by decide +kernel) ⟨Nat.le_of_ble_eq_true rfl, Nat.le_of_ble_eq_true rfl⟩ rfl hl.1 rfl (Nat.le_of_ble_eq_true rfl) dX9_wind_16 ⟨Nat.zero_le _, Nat.zero_le _⟩) (fun H locs hP hS => ?_)
    refine lv_if_ne (tgt := 26) hx hb dX9_wind_19 (by decide) (fun hc => ?_) (fun hc => ?_)
    · have hM := if_nn hc hM
      refine lv_aload_n hx hb dX9_wind_26 rfl (lv_at hl 0 rfl) ?_
      obtain ⟨z27, hcr, hM⟩ := ob_s hM
      refine res_i (ws' := (wM cI cZ ad mb mo z27.2.1 z27.2.2 mf mt mz ml mi)) F hP hS rfl [0, 1, 2, 3, 4, 5, 6, 7, 8, 9, 10, 11, 12] rfl rfl (runV_of (n := 0) (As := []) (rest := []) F hP hS rfl [0, 1, 2, 3, 4, 5, 6, 7, 8, 9, 10, 11, 12] rfl rfl (c_X9_refusal l dC dI cI cC cZ sa ad mb mo mn mg mf mt mz ml mi hcr _) gX9_wind_X9_refusal rfl (by decide +kernel) ⟨Nat.le_of_ble_eq_true rfl, Nat.le_of_ble_eq_true rfl⟩ 0 9 rfl rfl rfl hl.1 rfl (Nat.le_of_ble_eq_true rfl) dX9_wind_27 ⟨Nat.zero_le _, Nat.zero_le _⟩) rep_full (fun H locs hP hS => ?_)
      refine lv_istore_n (lv' := [(3, .int z27.1), (0, .ref (ad 0)), (1, .int x1), (2, .int x2)]) hx hb dX9_wind_30 rfl hl (by decide) rfl (fun ls hl => ?_)
      refine lv_iload_n hx hb dX9_wind_31 rfl (lv_at hl 0 rfl) ?_
      refine lv_bipush (v := -6) hx hb dX9_wind_32 (by decide) ?_
      refine lv_icmp_eq (tgt := 44) hx hb dX9_wind_34 (by decide) (fun hc => ?_) (fun hc => ?_)
      · have hM := if_pp hc hM
        refine lv_aload_n hx hb dX9_wind_44 rfl (lv_at hl 1 rfl) ?_
        refine g_get (ci := 9) (C := RX9) (T := TX9) (N := 32) (v := .int z27.2.2.2.2.2.2.2) F hP 0 rfl rfl inX9_wind_X9 21 (by decide) (List.mem_of_getElem? (i := 4) rfl) rfl dX9_wind_45 ?_
        refine lv_bipush (v := 12) hx hb dX9_wind_48 (by decide) ?_
        refine lv_icmp_le (tgt := 57) hx hb dX9_wind_50 (by decide) (fun hc => ?_) (fun hc => ?_)
        · have hM := if_pp hc hM
          refine lv_aload_n hx hb dX9_wind_57 rfl (lv_at hl 1 rfl) ?_
          refine g_get (ci := 9) (C := RX9) (T := TX9) (N := 32) (v := .int z27.2.2.2.2.2.2.1) F hP 0 rfl rfl inX9_wind_X9 20 (by decide) (List.mem_of_getElem? (i := 6) rfl) rfl dX9_wind_58 ?_
          refine lv_aload_n hx hb dX9_wind_61 rfl (lv_at hl 1 rfl) ?_
          refine g_get (ci := 9) (C := RX9) (T := TX9) (N := 32) (v := .int z27.2.2.2.2.2.2.2) F hP 0 rfl rfl inX9_wind_X9 21 (by decide) (List.mem_of_getElem? (i := 4) rfl) rfl dX9_wind_62 ?_
          refine lv_icmp_le (tgt := 71) hx hb dX9_wind_65 (by decide) (fun hc => ?_) (fun hc => ?_)
          · have hM := if_pp hc hM
            refine lv_lconst (v := 1) hx hb dX9_wind_71 (by decide) ?_
            refine lv_lstore (lv' := [(4, .long (1 : Int64)), (3, .int z27.1), (0, .ref (ad 0)), (1, .int x1), (2, .int x2)]) hx hb dX9_wind_72 hl (by decide) rfl (fun ls hl => ?_)
            refine lv_lconst (v := 1) hx hb dX9_wind_74 (by decide) ?_
            refine lv_lstore (lv' := [(6, .long (1 : Int64)), (4, .long (1 : Int64)), (3, .int z27.1), (0, .ref (ad 0)), (1, .int x1), (2, .int x2)]) hx hb dX9_wind_75 hl (by decide) rfl (fun ls hl => ?_)
            refine lv_iconst (v := 0) hx hb dX9_wind_77 (by decide) ?_
            refine lv_istore (lv' := [(8, .int (0 : Int32)), (6, .long (1 : Int64)), (4, .long (1 : Int64)), (3, .int z27.1), (0, .ref (ad 0)), (1, .int x1), (2, .int x2)]) hx hb dX9_wind_78 hl (by decide) rfl (fun ls hl => ?_)
            exact j80 200 (z27.2.1, z27.2.2, (1 : Int64), (1 : Int64), (0 : Int32)) _ _ _ hP hS (lv_sub hl [4, 5, 6, 2, 1, 0] rfl) hM
          · have hM := if_nn hc hM
            refine lv_iload_n hx hb dX9_wind_68 rfl (lv_at hl 3 rfl) ?_
            refine lv_i2l (v := x2.toInt64) hx hb dX9_wind_69 rfl ?_
            exact ret_l hx hb hr hlk dX9_wind_70 hM hP hS
        · have hM := if_nn hc hM
          refine lv_ldc2 (v := -1000000000000000004) hx hb hown (hts _ (List.mem_of_getElem? (i := 5) rfl)) dX9_wind_53 ?_
          exact ret_l hx hb hr hlk dX9_wind_56 hM hP hS
      · have hM := if_nn hc hM
        refine lv_ldc2 (v := -1000000000000000000) hx hb hown (hts _ (List.mem_of_getElem? (i := 3) rfl)) dX9_wind_37 ?_
        refine lv_iload_n hx hb dX9_wind_40 rfl (lv_at hl 0 rfl) ?_
        refine lv_i2l (v := z27.1.toInt64) hx hb dX9_wind_41 rfl ?_
        refine lv_ladd hx hb dX9_wind_42 ?_
        exact ret_l hx hb hr hlk dX9_wind_43 hM hP hS
    · have hM := if_pp hc hM
      exact j22 (mn, mg) _ _ _ hP hS (lv_sub hl [0] rfl) hM
theorem inX9_wipe_X9 : ∀ w ∈ wsX90, w ∈ wsX9_wipe := fun w h => List.mem_cons_of_mem _ (List.mem_append_right _ h)
set_option maxHeartbeats 4000000 in
set_option maxRecDepth 100000 in
theorem c_X9_wipe (l : Launch) (dC : Nat → ClassId) (dI : Nat → Nat → Nat) (cI cC cZ : ClassId) (sa : Nat → Nat) (ad : Nat → Nat) (mb : BT) (mo : OT) (mn : NT) (mg : GT) (mf : AR) (mt : TT) (mz : AR) (ml : LT) (mi : IT)  {res : Int32 × OT} (hM : M_X9_wipe mo = some res) : CTi l (dC, dI) [(cI, .int), (cC, .char), (cZ, .boolean)] sa yX9_wipe wsX9_wipe (rmd 1) [.ref (ad 0)] (wM cI cZ ad mb mo mn mg mf mt mz ml mi) (fun (uu : OT) => (wM cI cZ ad mb uu mn mg mf mt mz ml mi)) res := by
  refine CTi.enter (own := RX9) (cc := cX9_wipe) (maxL := 2) (ret := (some .int)) (by decide) rfl rfl (Nat.le_of_ble_eq_true rfl) ?_
  intro pr e s m below meth c A F hr hlk hP hS ls hl
  obtain ⟨⟨hx, hb, hml, hown, hts⟩, hK, hDD, hA, hKC⟩ := id F
  have hl : lv_has ls 2 [(0, .ref (ad 0))] := hl
  have hP : va_P (dC, dI) vwCl (wM cI cZ ad mb mo mn mg mf mt mz ml mi) s.heap := hP
  unfold M_X9_wipe at hM
  refine lv_aload_n hx hb dX9_wipe_0 rfl (lv_at hl 0 rfl) ?_
  refine g_get (ci := 9) (C := RX9) (T := TX9) (N := 32) (v := .int mo.1) F hP 0 rfl rfl inX9_wipe_X9 11 (by decide) (List.mem_of_getElem? (i := 1) rfl) rfl dX9_wipe_1 ?_
  refine lv_istore_n (lv' := [(1, .int mo.1), (0, .ref (ad 0))]) hx hb dX9_wipe_4 rfl hl (by decide) rfl (fun ls hl => ?_)
  refine lv_aload_n hx hb dX9_wipe_5 rfl (lv_at hl 1 rfl) ?_
  refine lv_iconst (v := 0) hx hb dX9_wipe_6 (by decide) ?_
  refine g_put (ws' := (wM cI cZ ad mb ((0 : Int32), mo.2) mn mg mf mt mz ml mi)) (ci := 9) (C := RX9) (T := TX9) (N := 32) (v := .int (0 : Int32)) (ty := .int) F hP hS rfl tyX9 tyX9_ok nmX9 0 rfl rfl inX9_wipe_X9 11 (by decide) (List.mem_of_getElem? (i := 1) rfl) rfl (by decide +kernel) rfl rfl (Nat.le_of_ble_eq_true rfl) dX9_wipe_7 rfl (fun H locs hP hS => ?_)
  refine lv_iload_n hx hb dX9_wipe_10 rfl (lv_at hl 0 rfl) ?_
  exact ret_i hx hb hr hlk dX9_wipe_11 hM hP hS
