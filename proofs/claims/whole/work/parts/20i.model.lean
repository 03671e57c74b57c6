/-! Walks, printed by wip/whole/gen.py -/
set_option maxHeartbeats 4000000 in
set_option maxRecDepth 100000 in
theorem c_X9_house (l : Launch) (dC : Nat → ClassId) (dI : Nat → Nat → Nat) (cI cC cZ : ClassId) (sa : Nat → Nat) (ad : Nat → Nat) (mb : BT) (mo : OT) (mn : NT) (mg : GT) (mf : AR) (mt : TT) (mz : AR) (ml : LT) (mi : IT) (x1 : Int32) (x2 : Int32) {res : Int32 × BT} (hM : M_X9_house mb x1 x2 = some res) : CTi l (dC, dI) [(cI, .int), (cC, .char), (cZ, .boolean)] sa yX9_house wsX9_house (rmd 2) [.ref (ad 0), .int x1, .int x2] (wM cI cZ ad mb mo mn mg mf mt mz ml mi) (fun (uu : BT) => (wM cI cZ ad uu mo mn mg mf mt mz ml mi)) res := by
  refine CTi.enter (own := RX9) (cc := cX9_house) (maxL := 3) (ret := (some .int)) (by decide) rfl rfl (Nat.le_of_ble_eq_true rfl) ?_
  intro pr e s m below meth c A F hr hlk hP hS ls hl
  obtain ⟨⟨hx, hb, hml, hown, hts⟩, hK, hDD, hA, hKC⟩ := id F
  have hl : lv_has ls 3 [(0, .ref (ad 0)), (1, .int x1), (2, .int x2)] := hl
  have hP : va_P (dC, dI) vwCl (wM cI cZ ad mb mo mn mg mf mt mz ml mi) s.heap := hP
  unfold M_X9_house at hM
  refine lv_iload_n hx hb dX9_house_0 rfl (lv_at hl 1 rfl) ?_
  refine lv_i2l (v := x1.toInt64) hx hb dX9_house_1 rfl ?_
  refine lv_lconst (v := 1) hx hb dX9_house_2 (by decide) ?_
  refine lv_ldc2 (v := 4) hx hb hown (hts _ (List.mem_of_getElem? (i := 1) rfl)) dX9_house_3 ?_
  obtain ⟨z6, hcr, hM⟩ := ob_s hM
  refine res_i0 F hP hS rfl [] rfl rfl (runS_of (n := 3) (As := [.long x1.toInt64, .long (1 : Int64), .long (4 : Int64)]) (rest := []) F hP hS rfl [] rfl rfl (c_X9_in l dC dI cI cC cZ sa x1.toInt64 (1 : Int64) (4 : Int64) hcr _) gX9_house_X9_in rfl (by decide +kernel) ⟨Nat.le_of_ble_eq_true rfl, Nat.le_of_ble_eq_true rfl⟩ rfl hl.1 rfl (Nat.le_of_ble_eq_true rfl) dX9_house_6 ⟨Nat.zero_le _, Nat.zero_le _⟩) (fun H locs hP hS => ?_)
  refine lv_if_eq (tgt := 24) hx hb dX9_house_9 (by decide) (fun hc => ?_) (fun hc => ?_)
  · have hM := if_pp hc hM
    refine lv_bipush (v := -2) hx hb dX9_house_24 (by decide) ?_
    exact ret_i hx hb hr hlk dX9_house_26 hM hP hS
  · have hM := if_nn hc hM
    refine lv_iload_n hx hb dX9_house_12 rfl (lv_at hl 2 rfl) ?_
    refine lv_i2l (v := x2.toInt64) hx hb dX9_house_13 rfl ?_
    refine lv_lconst (v := 1) hx hb dX9_house_14 (by decide) ?_
    refine lv_ldc2 (v := 4) hx hb hown (hts _ (List.mem_of_getElem? (i := 1) rfl)) dX9_house_15 ?_
    obtain ⟨z18, hcr, hM⟩ := ob_s hM
    refine res_i0 F hP hS rfl [] rfl rfl (runS_of (n := 3) (As := [.long x2.toInt64, .long (1 : Int64), .long (4 : Int64)]) (rest := []) F hP hS rfl [] rfl rfl (c_X9_in l dC dI cI cC cZ sa x2.toInt64 (1 : Int64) (4 : Int64) hcr _) gX9_house_X9_in rfl (by decide +kernel) ⟨Nat.le_of_ble_eq_true rfl, Nat.le_of_ble_eq_true rfl⟩ rfl hl.1 rfl (Nat.le_of_ble_eq_true rfl) dX9_house_18 ⟨Nat.zero_le _, Nat.zero_le _⟩) (fun H locs hP hS => ?_)
    refine lv_if_ne (tgt := 27) hx hb dX9_house_21 (by decide) (fun hc => ?_) (fun hc => ?_)
    · have hM := if_nn hc hM
      refine lv_aload_n hx hb dX9_house_27 rfl (lv_at hl 0 rfl) ?_
      refine lv_iload_n hx hb dX9_house_28 rfl (lv_at hl 1 rfl) ?_
      refine lv_iload_n hx hb dX9_house_29 rfl (lv_at hl 2 rfl) ?_
      obtain ⟨z30, hcr, hM⟩ := ob_s hM
      refine res_v (ws' := (wM cI cZ ad z30 mo mn mg mf mt mz ml mi)) F hP hS rfl [0, 1, 2, 3, 4, 5, 6, 7, 8, 9, 10, 11, 12] rfl rfl (runV_of (n := 2) (As := [.int x1, .int x2]) (rest := []) F hP hS rfl [0, 1, 2, 3, 4, 5, 6, 7, 8, 9, 10, 11, 12] rfl rfl (c_X9_lay l dC dI cI cC cZ sa ad mb mo mn mg mf mt mz ml mi x1 x2 hcr _) gX9_house_X9_lay rfl (by decide +kernel) ⟨Nat.le_of_ble_eq_true rfl, Nat.le_of_ble_eq_true rfl⟩ 0 9 rfl rfl rfl hl.1 rfl (Nat.le_of_ble_eq_true rfl) dX9_house_30 ⟨Nat.zero_le _, Nat.zero_le _⟩) rep_full (fun H locs hP hS => ?_)
      refine lv_aload_n hx hb dX9_house_33 rfl (lv_at hl 0 rfl) ?_
      obtain ⟨z34, hcr, hM⟩ := ob_s hM
      refine res_i0 F hP hS rfl [0, 1, 2, 3, 4, 5, 6, 7, 8, 9, 10, 11, 12] rfl rfl (runV_of (n := 0) (As := []) (rest := []) F hP hS rfl [0, 1, 2, 3, 4, 5, 6, 7, 8, 9, 10, 11, 12] rfl rfl (c_X9_cells l dC dI cI cC cZ sa ad z30 mo mn mg mf mt mz ml mi hcr _) gX9_house_X9_cells rfl (by decide +kernel) ⟨Nat.le_of_ble_eq_true rfl, Nat.le_of_ble_eq_true rfl⟩ 0 9 rfl rfl rfl hl.1 rfl (Nat.le_of_ble_eq_true rfl) dX9_house_34 ⟨Nat.zero_le _, Nat.zero_le _⟩) (fun H locs hP hS => ?_)
      exact ret_i hx hb hr hlk dX9_house_37 hM hP hS
    · have hM := if_pp hc hM
      refine lv_bipush (v := -2) hx hb dX9_house_24 (by decide) ?_
      exact ret_i hx hb hr hlk dX9_house_26 hM hP hS
theorem inX9_pass_X9 : ∀ w ∈ wsX90, w ∈ wsX9_pass := fun w h => List.mem_cons_of_mem _ (List.mem_append_right _ h)
set_option maxHeartbeats 4000000 in
set_option maxRecDepth 100000 in
theorem c_X9_pass (l : Launch) (dC : Nat → ClassId) (dI : Nat → Nat → Nat) (cI cC cZ : ClassId) (sa : Nat → Nat) (ad : Nat → Nat) (mb : BT) (mo : OT) (mn : NT) (mg : GT) (mf : AR) (mt : TT) (mz : AR) (ml : LT) (mi : IT) (x1 : Int32) {res : Int32 × IT} (hM : M_X9_pass mi x1 = some res) : CTi l (dC, dI) [(cI, .int), (cC, .char), (cZ, .boolean)] sa yX9_pass wsX9_pass (rmd 1) [.ref (ad 0), .int x1] (wM cI cZ ad mb mo mn mg mf mt mz ml mi) (fun (uu : IT) => (wM cI cZ ad mb mo mn mg mf mt mz ml uu)) res := by
  refine CTi.enter (own := RX9) (cc := cX9_pass) (maxL := 3) (ret := (some .int)) (by decide) rfl rfl (Nat.le_of_ble_eq_true rfl) ?_
  intro pr e s m below meth c A F hr hlk hP hS ls hl
  obtain ⟨⟨hx, hb, hml, hown, hts⟩, hK, hDD, hA, hKC⟩ := id F
  have hl : lv_has ls 3 [(0, .ref (ad 0)), (1, .int x1)] := hl
  have hP : va_P (dC, dI) vwCl (wM cI cZ ad mb mo mn mg mf mt mz ml mi) s.heap := hP
  unfold M_X9_pass at hM
  refine kblk (α := IT × Int32) (res := res) (fun a => M_X9_pass_20 x1 a) F (fun a => (wM cI cZ ad mb mo mn mg mf mt mz ml a.1)) (fun a => [(0, .ref (ad 0))]) (fun a => [.int a.2]) 20 ?_ (fun j20 => ?_)
  · intro a20 H locs ls hP hS hl hM
    unfold M_X9_pass_20 at hM
    refine lv_istore_n (lv' := [(2, .int a20.2), (0, .ref (ad 0))]) hx hb dX9_pass_20 rfl hl (by decide) rfl (fun ls hl => ?_)
    refine lv_aload_n hx hb dX9_pass_21 rfl (lv_at hl 1 rfl) ?_
    refine g_get (ci := 9) (C := RX9) (T := TX9) (N := 32) (v := .ref (ad 11)) F hP 0 rfl rfl inX9_pass_X9 28 (by decide) (List.mem_of_getElem? (i := 2) rfl) rfl dX9_pass_22 ?_
    refine lv_aload_n hx hb dX9_pass_25 rfl (lv_at hl 1 rfl) ?_
    refine g_get (ci := 9) (C := RX9) (T := TX9) (N := 32) (v := .int a20.1.1) F hP 0 rfl rfl inX9_pass_X9 30 (by decide) (List.mem_of_getElem? (i := 3) rfl) rfl dX9_pass_26 ?_
    refine lv_iload_n hx hb dX9_pass_29 rfl (lv_at hl 0 rfl) ?_
    obtain ⟨hin, hM⟩ := if_ok hM
    refine g_iast (ws' := (wM cI cZ ad mb mo mn mg mf mt mz ml (a20.1.1, a20.1.2.1, (upd a20.1.2.2.1 a20.1.1.toNatClampNeg a20.2), a20.1.2.2.2))) F hP hS rfl 11 0 rfl rfl hin dX9_pass_30 rfl (fun H locs hP hS => ?_)
    refine lv_aload_n hx hb dX9_pass_31 rfl (lv_at hl 1 rfl) ?_
    refine lv_dup hx hb dX9_pass_32 rfl ?_
    refine g_get (ci := 9) (C := RX9) (T := TX9) (N := 32) (v := .int a20.1.1) F hP 0 rfl rfl inX9_pass_X9 30 (by decide) (List.mem_of_getElem? (i := 3) rfl) rfl dX9_pass_33 ?_
    refine lv_iconst (v := 1) hx hb dX9_pass_36 (by decide) ?_
    refine lv_iadd hx hb dX9_pass_37 ?_
    refine g_put (ws' := (wM cI cZ ad mb mo mn mg mf mt mz ml ((a20.1.1 + (1 : Int32)), a20.1.2.1, (upd a20.1.2.2.1 a20.1.1.toNatClampNeg a20.2), a20.1.2.2.2))) (ci := 9) (C := RX9) (T := TX9) (N := 32) (v := .int (a20.1.1 + (1 : Int32))) (ty := .int) F hP hS rfl tyX9 tyX9_ok nmX9 0 rfl rfl inX9_pass_X9 30 (by decide) (List.mem_of_getElem? (i := 3) rfl) rfl (by decide +kernel) rfl rfl (Nat.le_of_ble_eq_true rfl) dX9_pass_38 rfl (fun H locs hP hS => ?_)
    refine lv_iload_n hx hb dX9_pass_41 rfl (lv_at hl 0 rfl) ?_
    exact ret_i hx hb hr hlk dX9_pass_42 hM hP hS
  refine lv_aload_n hx hb dX9_pass_0 rfl (lv_at hl 0 rfl) ?_
  refine g_get (ci := 9) (C := RX9) (T := TX9) (N := 32) (v := .int mi.2.1) F hP 0 rfl rfl inX9_pass_X9 31 (by decide) (List.mem_of_getElem? (i := 1) rfl) rfl dX9_pass_1 ?_
  refine lv_if_eq (tgt := 11) hx hb dX9_pass_4 (by decide) (fun hc => ?_) (fun hc => ?_)
  · have hM := if_pp hc hM
    refine lv_aload_n hx hb dX9_pass_11 rfl (lv_at hl 0 rfl) ?_
    refine g_get (ci := 9) (C := RX9) (T := TX9) (N := 32) (v := .ref (ad 11)) F hP 0 rfl rfl inX9_pass_X9 28 (by decide) (List.mem_of_getElem? (i := 2) rfl) rfl dX9_pass_12 ?_
    refine lv_aload_n hx hb dX9_pass_15 rfl (lv_at hl 0 rfl) ?_
    refine g_get (ci := 9) (C := RX9) (T := TX9) (N := 32) (v := .int mi.1) F hP 0 rfl rfl inX9_pass_X9 30 (by decide) (List.mem_of_getElem? (i := 3) rfl) rfl dX9_pass_16 ?_
    obtain ⟨hin, hM⟩ := if_ok hM
    refine va_iald hx hb hK hP 11 0 rfl rfl hin dX9_pass_19 ?_
    exact j20 (mi, (mi.2.2.1 mi.1.toNatClampNeg)) _ _ _ hP hS (lv_sub hl [0] rfl) hM
  · have hM := if_nn hc hM
    refine lv_iload_n hx hb dX9_pass_7 rfl (lv_at hl 1 rfl) ?_
    refine lv_goto (tgt := 20) hx hb dX9_pass_8 (by decide) ?_
    exact j20 (mi, x1) _ _ _ hP hS (lv_sub hl [0] rfl) hM
theorem inX9_passAll_X9 : ∀ w ∈ wsX90, w ∈ wsX9_passAll := fun w h => List.mem_cons_of_mem _ (List.mem_append_right _ h)
set_option maxHeartbeats 4000000 in
set_option maxRecDepth 100000 in
theorem c_X9_passAll (l : Launch) (dC : Nat → ClassId) (dI : Nat → Nat → Nat) (cI cC cZ : ClassId) (sa : Nat → Nat) (ad : Nat → Nat) (mb : BT) (mo : OT) (mn : NT) (mg : GT) (mf : AR) (mt : TT) (mz : AR) (ml : LT) (mi : IT)  {res : BT × IT} (hM : M_X9_passAll mb mi = some res) : CTv l (dC, dI) [(cI, .int), (cC, .char), (cZ, .boolean)] sa yX9_passAll wsX9_passAll (rmd 2) [.ref (ad 0)] (wM cI cZ ad mb mo mn mg mf mt mz ml mi) (fun (uu : BT × IT) => (wM cI cZ ad uu.1 mo mn mg mf mt mz ml uu.2)) res := by
  refine CTv.enter (own := RX9) (cc := cX9_passAll) (maxL := 2) (ret := none) (by decide) rfl rfl (Nat.le_of_ble_eq_true rfl) ?_
  intro pr e s m below meth c A F hr hlk hP hS ls hl
  obtain ⟨⟨hx, hb, hml, hown, hts⟩, hK, hDD, hA, hKC⟩ := id F
  have hl : lv_has ls 2 [(0, .ref (ad 0))] := hl
  have hP : va_P (dC, dI) vwCl (wM cI cZ ad mb mo mn mg mf mt mz ml mi) s.heap := hP
  unfold M_X9_passAll at hM
  refine kloop (α := BT × IT × Int32) (res := res) (fun k a => M_X9_passAll_104  k a) (fun rec a => M_X9_passAll_104b  rec a) (fun _ => rfl) (fun _ _ => rfl) F (fun a => (wM cI cZ ad a.1 mo mn mg mf mt mz ml a.2.1)) (fun a => [(0, .ref (ad 0)), (1, .int a.2.2)]) (fun a => []) 104 ?_ (fun j104 => ?_)
  · intro rc104 ih104 a104 H locs ls hP hS hl hM
    unfold M_X9_passAll_104b at hM
    refine lv_iload_n hx hb dX9_passAll_104 rfl (lv_at hl 1 rfl) ?_
    refine lv_iconst (v := 4) hx hb dX9_passAll_105 (by decide) ?_
    refine lv_icmp_ge (tgt := 163) hx hb dX9_passAll_106 (by decide) (fun hc => ?_) (fun hc => ?_)
    · have hM := if_pp hc hM
      exact ret_v hx hb hr hlk dX9_passAll_163 hM hP hS
    · have hM := if_nn hc hM
      refine lv_aload_n hx hb dX9_passAll_109 rfl (lv_at hl 0 rfl) ?_
      refine g_get (ci := 9) (C := RX9) (T := TX9) (N := 32) (v := .ref (ad 2)) F hP 0 rfl rfl inX9_passAll_X9 5 (by decide) (List.mem_of_getElem? (i := 8) rfl) rfl dX9_passAll_110 ?_
      refine lv_iload_n hx hb dX9_passAll_113 rfl (lv_at hl 1 rfl) ?_
      refine lv_aload_n hx hb dX9_passAll_114 rfl (lv_at hl 0 rfl) ?_
      refine lv_aload_n hx hb dX9_passAll_115 rfl (lv_at hl 0 rfl) ?_
      refine g_get (ci := 9) (C := RX9) (T := TX9) (N := 32) (v := .ref (ad 2)) F hP 0 rfl rfl inX9_passAll_X9 5 (by decide) (List.mem_of_getElem? (i := 8) rfl) rfl dX9_passAll_116 ?_
      refine lv_iload_n hx hb dX9_passAll_119 rfl (lv_at hl 1 rfl) ?_
      obtain ⟨hin, hM⟩ := if_ok hM
      refine va_iald hx hb hK hP 2 0 rfl rfl hin dX9_passAll_120 ?_
      obtain ⟨z121, hcr, hM⟩ := ob_s hM
      refine res_i (ws' := (wM cI cZ ad a104.1 mo mn mg mf mt mz ml z121.2)) F hP hS rfl [0, 1, 2, 3, 4, 5, 6, 7, 8, 9, 10, 11, 12] rfl rfl (runV_of (n := 1) (As := [.int (a104.1.2.2.2.2.2.2.2.1 a104.2.2.toNatClampNeg)]) (rest := [.int a104.2.2, .ref (ad 2)]) F hP hS rfl [0, 1, 2, 3, 4, 5, 6, 7, 8, 9, 10, 11, 12] rfl rfl (c_X9_pass l dC dI cI cC cZ sa ad a104.1 mo mn mg mf mt mz ml a104.2.1 (a104.1.2.2.2.2.2.2.2.1 a104.2.2.toNatClampNeg) hcr _) gX9_passAll_X9_pass rfl (by decide +kernel) ⟨Nat.le_of_ble_eq_true rfl, Nat.le_of_ble_eq_true rfl⟩ 0 9 rfl rfl rfl hl.1 rfl (Nat.le_of_ble_eq_true rfl) dX9_passAll_121 ⟨Nat.zero_le _, Nat.zero_le _⟩) rep_full (fun H locs hP hS => ?_)
      obtain ⟨hin, hM⟩ := if_ok hM
      refine g_iast (ws' := (wM cI cZ ad (a104.1.1, a104.1.2.1, a104.1.2.2.1, a104.1.2.2.2.1, a104.1.2.2.2.2.1, a104.1.2.2.2.2.2.1, a104.1.2.2.2.2.2.2.1, (upd a104.1.2.2.2.2.2.2.2.1 a104.2.2.toNatClampNeg z121.1), a104.1.2.2.2.2.2.2.2.2.1, a104.1.2.2.2.2.2.2.2.2.2) mo mn mg mf mt mz ml z121.2)) F hP hS rfl 2 0 rfl rfl hin dX9_passAll_124 rfl (fun H locs hP hS => ?_)
      refine lv_aload_n hx hb dX9_passAll_125 rfl (lv_at hl 0 rfl) ?_
      refine g_get (ci := 9) (C := RX9) (T := TX9) (N := 32) (v := .ref (ad 3)) F hP 0 rfl rfl inX9_passAll_X9 6 (by decide) (List.mem_of_getElem? (i := 9) rfl) rfl dX9_passAll_126 ?_
      refine lv_iload_n hx hb dX9_passAll_129 rfl (lv_at hl 1 rfl) ?_
      refine lv_aload_n hx hb dX9_passAll_130 rfl (lv_at hl 0 rfl) ?_
      refine lv_aload_n hx hb dX9_passAll_131 rfl (lv_at hl 0 rfl) ?_
      refine g_get (ci := 9) (C := RX9) (T := TX9) (N := 32) (v := .ref (ad 3)) F hP 0 rfl rfl inX9_passAll_X9 6 (by decide) (List.mem_of_getElem? (i := 9) rfl) rfl dX9_passAll_132 ?_
      refine lv_iload_n hx hb dX9_passAll_135 rfl (lv_at hl 1 rfl) ?_
      obtain ⟨hin, hM⟩ := if_ok hM
      refine va_iald hx hb hK hP 3 0 rfl rfl hin dX9_passAll_136 ?_
      obtain ⟨z137, hcr, hM⟩ := ob_s hM
      refine res_i (ws' := (wM cI cZ ad (a104.1.1, a104.1.2.1, a104.1.2.2.1, a104.1.2.2.2.1, a104.1.2.2.2.2.1, a104.1.2.2.2.2.2.1, a104.1.2.2.2.2.2.2.1, (upd a104.1.2.2.2.2.2.2.2.1 a104.2.2.toNatClampNeg z121.1), a104.1.2.2.2.2.2.2.2.2.1, a104.1.2.2.2.2.2.2.2.2.2) mo mn mg mf mt mz ml z137.2)) F hP hS rfl [0, 1, 2, 3, 4, 5, 6, 7, 8, 9, 10, 11, 12] rfl rfl (runV_of (n := 1) (As := [.int (a104.1.2.2.2.2.2.2.2.2.1 a104.2.2.toNatClampNeg)]) (rest := [.int a104.2.2, .ref (ad 3)]) F hP hS rfl [0, 1, 2, 3, 4, 5, 6, 7, 8, 9, 10, 11, 12] rfl rfl (c_X9_pass l dC dI cI cC cZ sa ad (a104.1.1, a104.1.2.1, a104.1.2.2.1, a104.1.2.2.2.1, a104.1.2.2.2.2.1, a104.1.2.2.2.2.2.1, a104.1.2.2.2.2.2.2.1, (upd a104.1.2.2.2.2.2.2.2.1 a104.2.2.toNatClampNeg z121.1), a104.1.2.2.2.2.2.2.2.2.1, a104.1.2.2.2.2.2.2.2.2.2) mo mn mg mf mt mz ml z121.2 (a104.1.2.2.2.2.2.2.2.2.1 a104.2.2.toNatClampNeg) hcr _) gX9_passAll_X9_pass rfl (by decide +kernel) ⟨Nat.le_of_ble_eq_true rfl, Nat.le_of_ble_eq_true rfl⟩ 0 9 rfl rfl rfl hl.1 rfl (Nat.le_of_ble_eq_true rfl) dX9_passAll_137 ⟨Nat.zero_le _, Nat.zero_le _⟩) rep_full (fun H locs hP hS => ?_)
      obtain ⟨hin, hM⟩ := if_ok hM
      refine g_iast (ws' := (wM cI cZ ad (a104.1.1, a104.1.2.1, a104.1.2.2.1, a104.1.2.2.2.1, a104.1.2.2.2.2.1, a104.1.2.2.2.2.2.1, a104.1.2.2.2.2.2.2.1, (upd a104.1.2.2.2.2.2.2.2.1 a104.2.2.toNatClampNeg z121.1), (upd a104.1.2.2.2.2.2.2.2.2.1 a104.2.2.toNatClampNeg z137.1), a104.1.2.2.2.2.2.2.2.2.2) mo mn mg mf mt mz ml z137.2)) F hP hS rfl 3 0 rfl rfl hin dX9_passAll_140 rfl (fun H locs hP hS => ?_)
      refine lv_aload_n hx hb dX9_passAll_141 rfl (lv_at hl 0 rfl) ?_
      refine g_get (ci := 9) (C := RX9) (T := TX9) (N := 32) (v := .ref (ad 4)) F hP 0 rfl rfl inX9_passAll_X9 7 (by decide) (List.mem_of_getElem? (i := 10) rfl) rfl dX9_passAll_142 ?_
      refine lv_iload_n hx hb dX9_passAll_145 rfl (lv_at hl 1 rfl) ?_
      refine lv_aload_n hx hb dX9_passAll_146 rfl (lv_at hl 0 rfl) ?_
      refine lv_aload_n hx hb dX9_passAll_147 rfl (lv_at hl 0 rfl) ?_
      refine g_get (ci := 9) (C := RX9) (T := TX9) (N := 32) (v := .ref (ad 4)) F hP 0 rfl rfl inX9_passAll_X9 7 (by decide) (List.mem_of_getElem? (i := 10) rfl) rfl dX9_passAll_148 ?_
      refine lv_iload_n hx hb dX9_passAll_151 rfl (lv_at hl 1 rfl) ?_
      obtain ⟨hin, hM⟩ := if_ok hM
      refine va_iald hx hb hK hP 4 0 rfl rfl hin dX9_passAll_152 ?_
      obtain ⟨z153, hcr, hM⟩ := ob_s hM
      refine res_i (ws' := (wM cI cZ ad (a104.1.1, a104.1.2.1, a104.1.2.2.1, a104.1.2.2.2.1, a104.1.2.2.2.2.1, a104.1.2.2.2.2.2.1, a104.1.2.2.2.2.2.2.1, (upd a104.1.2.2.2.2.2.2.2.1 a104.2.2.toNatClampNeg z121.1), (upd a104.1.2.2.2.2.2.2.2.2.1 a104.2.2.toNatClampNeg z137.1), a104.1.2.2.2.2.2.2.2.2.2) mo mn mg mf mt mz ml z153.2)) F hP hS rfl [0, 1, 2, 3, 4, 5, 6, 7, 8, 9, 10, 11, 12] rfl rfl (runV_of (n := 1) (As := [.int (a104.1.2.2.2.2.2.2.2.2.2 a104.2.2.toNatClampNeg)]) (rest := [.int a104.2.2, .ref (ad 4)]) F hP hS rfl [0, 1, 2, 3, 4, 5, 6, 7, 8, 9, 10, 11, 12] rfl rfl (c_X9_pass l dC dI cI cC cZ sa ad (a104.1.1, a104.1.2.1, a104.1.2.2.1, a104.1.2.2.2.1, a104.1.2.2.2.2.1, a104.1.2.2.2.2.2.1, a104.1.2.2.2.2.2.2.1, (upd a104.1.2.2.2.2.2.2.2.1 a104.2.2.toNatClampNeg z121.1), (upd a104.1.2.2.2.2.2.2.2.2.1 a104.2.2.toNatClampNeg z137.1), a104.1.2.2.2.2.2.2.2.2.2) mo mn mg mf mt mz ml z137.2 (a104.1.2.2.2.2.2.2.2.2.2 a104.2.2.toNatClampNeg) hcr _) gX9_passAll_X9_pass rfl (by decide +kernel) ⟨Nat.le_of_ble_eq_true rfl, Nat.le_of_ble_eq_true rfl⟩ 0 9 rfl rfl rfl hl.1 rfl (Nat.le_of_ble_eq_true rfl) dX9_passAll_153 ⟨Nat.zero_le _, Nat.zero_le _⟩) rep_full (fun H locs hP hS => ?_)
      obtain ⟨hin, hM⟩ := if_ok hM
      refine g_iast (ws' := (wM cI cZ ad (a104.1.1, a104.1.2.1, a104.1.2.2.1, a104.1.2.2.2.1, a104.1.2.2.2.2.1, a104.1.2.2.2.2.2.1, a104.1.2.2.2.2.2.2.1, (upd a104.1.2.2.2.2.2.2.2.1 a104.2.2.toNatClampNeg z121.1), (upd a104.1.2.2.2.2.2.2.2.2.1 a104.2.2.toNatClampNeg z137.1), (upd a104.1.2.2.2.2.2.2.2.2.2 a104.2.2.toNatClampNeg z153.1)) mo mn mg mf mt mz ml z153.2)) F hP hS rfl 4 0 rfl rfl hin dX9_passAll_156 rfl (fun H locs hP hS => ?_)
      refine lv_iinc (v := (a104.2.2 + (1 : Int32))) (lv' := [(1, .int (a104.2.2 + (1 : Int32))), (0, .ref (ad 0))]) hx hb dX9_passAll_157 hl (k := 1) rfl rfl (by decide) rfl (fun ls hl => ?_)
      refine lv_goto (tgt := 104) hx hb dX9_passAll_160 (by decide) ?_
      exact ih104 ((a104.1.1, a104.1.2.1, a104.1.2.2.1, a104.1.2.2.2.1, a104.1.2.2.2.2.1, a104.1.2.2.2.2.2.1, a104.1.2.2.2.2.2.2.1, (upd a104.1.2.2.2.2.2.2.2.1 a104.2.2.toNatClampNeg z121.1), (upd a104.1.2.2.2.2.2.2.2.2.1 a104.2.2.toNatClampNeg z137.1), (upd a104.1.2.2.2.2.2.2.2.2.2 a104.2.2.toNatClampNeg z153.1)), z153.2, (a104.2.2 + (1 : Int32))) _ _ _ hP hS (lv_sub hl [1, 0] rfl) hM
  refine kloop (α := BT × IT × Int32) (res := res) (fun k a => M_X9_passAll_74  k a) (fun rec a => M_X9_passAll_74b  rec a) (fun _ => rfl) (fun _ _ => rfl) F (fun a => (wM cI cZ ad a.1 mo mn mg mf mt mz ml a.2.1)) (fun a => [(0, .ref (ad 0)), (1, .int a.2.2)]) (fun a => []) 74 ?_ (fun j74 => ?_)
  · intro rc74 ih74 a74 H locs ls hP hS hl hM
    unfold M_X9_passAll_74b at hM
    refine lv_iload_n hx hb dX9_passAll_74 rfl (lv_at hl 1 rfl) ?_
    refine lv_bipush (v := 16) hx hb dX9_passAll_75 (by decide) ?_
    refine lv_icmp_ge (tgt := 102) hx hb dX9_passAll_77 (by decide) (fun hc => ?_) (fun hc => ?_)
    · have hM := if_pp hc hM
      refine lv_iconst (v := 0) hx hb dX9_passAll_102 (by decide) ?_
      refine lv_istore_n (lv' := [(1, .int (0 : Int32)), (0, .ref (ad 0))]) hx hb dX9_passAll_103 rfl hl (by decide) rfl (fun ls hl => ?_)
      exact j104 200 (a74.1, a74.2.1, (0 : Int32)) _ _ _ hP hS (lv_sub hl [1, 0] rfl) hM
    · have hM := if_nn hc hM
      refine lv_aload_n hx hb dX9_passAll_80 rfl (lv_at hl 0 rfl) ?_
      refine g_get (ci := 9) (C := RX9) (T := TX9) (N := 32) (v := .ref (ad 1)) F hP 0 rfl rfl inX9_passAll_X9 2 (by decide) (List.mem_of_getElem? (i := 7) rfl) rfl dX9_passAll_81 ?_
      refine lv_iload_n hx hb dX9_passAll_84 rfl (lv_at hl 1 rfl) ?_
      refine lv_aload_n hx hb dX9_passAll_85 rfl (lv_at hl 0 rfl) ?_
      refine lv_aload_n hx hb dX9_passAll_86 rfl (lv_at hl 0 rfl) ?_
      refine g_get (ci := 9) (C := RX9) (T := TX9) (N := 32) (v := .ref (ad 1)) F hP 0 rfl rfl inX9_passAll_X9 2 (by decide) (List.mem_of_getElem? (i := 7) rfl) rfl dX9_passAll_87 ?_
      refine lv_iload_n hx hb dX9_passAll_90 rfl (lv_at hl 1 rfl) ?_
      obtain ⟨hin, hM⟩ := if_ok hM
      refine va_iald hx hb hK hP 1 0 rfl rfl hin dX9_passAll_91 ?_
      obtain ⟨z92, hcr, hM⟩ := ob_s hM
      refine res_i (ws' := (wM cI cZ ad a74.1 mo mn mg mf mt mz ml z92.2)) F hP hS rfl [0, 1, 2, 3, 4, 5, 6, 7, 8, 9, 10, 11, 12] rfl rfl (runV_of (n := 1) (As := [.int (a74.1.2.2.2.2.2.2.1 a74.2.2.toNatClampNeg)]) (rest := [.int a74.2.2, .ref (ad 1)]) F hP hS rfl [0, 1, 2, 3, 4, 5, 6, 7, 8, 9, 10, 11, 12] rfl rfl (c_X9_pass l dC dI cI cC cZ sa ad a74.1 mo mn mg mf mt mz ml a74.2.1 (a74.1.2.2.2.2.2.2.1 a74.2.2.toNatClampNeg) hcr _) gX9_passAll_X9_pass rfl (by decide +kernel) ⟨Nat.le_of_ble_eq_true rfl, Nat.le_of_ble_eq_true rfl⟩ 0 9 rfl rfl rfl hl.1 rfl (Nat.le_of_ble_eq_true rfl) dX9_passAll_92 ⟨Nat.zero_le _, Nat.zero_le _⟩) rep_full (fun H locs hP hS => ?_)
      obtain ⟨hin, hM⟩ := if_ok hM
      refine g_iast (ws' := (wM cI cZ ad (a74.1.1, a74.1.2.1, a74.1.2.2.1, a74.1.2.2.2.1, a74.1.2.2.2.2.1, a74.1.2.2.2.2.2.1, (upd a74.1.2.2.2.2.2.2.1 a74.2.2.toNatClampNeg z92.1), a74.1.2.2.2.2.2.2.2.1, a74.1.2.2.2.2.2.2.2.2.1, a74.1.2.2.2.2.2.2.2.2.2) mo mn mg mf mt mz ml z92.2)) F hP hS rfl 1 0 rfl rfl hin dX9_passAll_95 rfl (fun H locs hP hS => ?_)
      refine lv_iinc (v := (a74.2.2 + (1 : Int32))) (lv' := [(1, .int (a74.2.2 + (1 : Int32))), (0, .ref (ad 0))]) hx hb dX9_passAll_96 hl (k := 1) rfl rfl (by decide) rfl (fun ls hl => ?_)
      refine lv_goto (tgt := 74) hx hb dX9_passAll_99 (by decide) ?_
      exact ih74 ((a74.1.1, a74.1.2.1, a74.1.2.2.1, a74.1.2.2.2.1, a74.1.2.2.2.2.1, a74.1.2.2.2.2.2.1, (upd a74.1.2.2.2.2.2.2.1 a74.2.2.toNatClampNeg z92.1), a74.1.2.2.2.2.2.2.2.1, a74.1.2.2.2.2.2.2.2.2.1, a74.1.2.2.2.2.2.2.2.2.2), z92.2, (a74.2.2 + (1 : Int32))) _ _ _ hP hS (lv_sub hl [1, 0] rfl) hM
  refine lv_aload_n hx hb dX9_passAll_0 rfl (lv_at hl 0 rfl) ?_
  refine lv_aload_n hx hb dX9_passAll_1 rfl (lv_at hl 0 rfl) ?_
  refine lv_aload_n hx hb dX9_passAll_2 rfl (lv_at hl 0 rfl) ?_
  refine g_get (ci := 9) (C := RX9) (T := TX9) (N := 32) (v := .int mb.1) F hP 0 rfl rfl inX9_passAll_X9 0 (by decide) (List.mem_of_getElem? (i := 1) rfl) rfl dX9_passAll_3 ?_
  obtain ⟨z6, hcr, hM⟩ := ob_s hM
  refine res_i (ws' := (wM cI cZ ad mb mo mn mg mf mt mz ml z6.2)) F hP hS rfl [0, 1, 2, 3, 4, 5, 6, 7, 8, 9, 10, 11, 12] rfl rfl (runV_of (n := 1) (As := [.int mb.1]) (rest := [.ref (ad 0)]) F hP hS rfl [0, 1, 2, 3, 4, 5, 6, 7, 8, 9, 10, 11, 12] rfl rfl (c_X9_pass l dC dI cI cC cZ sa ad mb mo mn mg mf mt mz ml mi mb.1 hcr _) gX9_passAll_X9_pass rfl (by decide +kernel) ⟨Nat.le_of_ble_eq_true rfl, Nat.le_of_ble_eq_true rfl⟩ 0 9 rfl rfl rfl hl.1 rfl (Nat.le_of_ble_eq_true rfl) dX9_passAll_6 ⟨Nat.zero_le _, Nat.zero_le _⟩) rep_full (fun H locs hP hS => ?_)
  refine g_put (ws' := (wM cI cZ ad (z6.1, mb.2.1, mb.2.2.1, mb.2.2.2.1, mb.2.2.2.2.1, mb.2.2.2.2.2.1, mb.2.2.2.2.2.2.1, mb.2.2.2.2.2.2.2.1, mb.2.2.2.2.2.2.2.2.1, mb.2.2.2.2.2.2.2.2.2) mo mn mg mf mt mz ml z6.2)) (ci := 9) (C := RX9) (T := TX9) (N := 32) (v := .int z6.1) (ty := .int) F hP hS rfl tyX9 tyX9_ok nmX9 0 rfl rfl inX9_passAll_X9 0 (by decide) (List.mem_of_getElem? (i := 1) rfl) rfl (by decide +kernel) rfl rfl (Nat.le_of_ble_eq_true rfl) dX9_passAll_9 rfl (fun H locs hP hS => ?_)
  refine lv_aload_n hx hb dX9_passAll_12 rfl (lv_at hl 0 rfl) ?_
  refine lv_aload_n hx hb dX9_passAll_13 rfl (lv_at hl 0 rfl) ?_
  refine lv_aload_n hx hb dX9_passAll_14 rfl (lv_at hl 0 rfl) ?_
  refine g_get (ci := 9) (C := RX9) (T := TX9) (N := 32) (v := .int mb.2.1) F hP 0 rfl rfl inX9_passAll_X9 1 (by decide) (List.mem_of_getElem? (i := 2) rfl) rfl dX9_passAll_15 ?_
  obtain ⟨z18, hcr, hM⟩ := ob_s hM
  refine res_i (ws' := (wM cI cZ ad (z6.1, mb.2.1, mb.2.2.1, mb.2.2.2.1, mb.2.2.2.2.1, mb.2.2.2.2.2.1, mb.2.2.2.2.2.2.1, mb.2.2.2.2.2.2.2.1, mb.2.2.2.2.2.2.2.2.1, mb.2.2.2.2.2.2.2.2.2) mo mn mg mf mt mz ml z18.2)) F hP hS rfl [0, 1, 2, 3, 4, 5, 6, 7, 8, 9, 10, 11, 12] rfl rfl (runV_of (n := 1) (As := [.int mb.2.1]) (rest := [.ref (ad 0)]) F hP hS rfl [0, 1, 2, 3, 4, 5, 6, 7, 8, 9, 10, 11, 12] rfl rfl (c_X9_pass l dC dI cI cC cZ sa ad (z6.1, mb.2.1, mb.2.2.1, mb.2.2.2.1, mb.2.2.2.2.1, mb.2.2.2.2.2.1, mb.2.2.2.2.2.2.1, mb.2.2.2.2.2.2.2.1, mb.2.2.2.2.2.2.2.2.1, mb.2.2.2.2.2.2.2.2.2) mo mn mg mf mt mz ml z6.2 mb.2.1 hcr _) gX9_passAll_X9_pass rfl (by decide +kernel) ⟨Nat.le_of_ble_eq_true rfl, Nat.le_of_ble_eq_true rfl⟩ 0 9 rfl rfl rfl hl.1 rfl (Nat.le_of_ble_eq_true rfl) dX9_passAll_18 ⟨Nat.zero_le _, Nat.zero_le _⟩) rep_full (fun H locs hP hS => ?_)
  refine g_put (ws' := (wM cI cZ ad (z6.1, z18.1, mb.2.2.1, mb.2.2.2.1, mb.2.2.2.2.1, mb.2.2.2.2.2.1, mb.2.2.2.2.2.2.1, mb.2.2.2.2.2.2.2.1, mb.2.2.2.2.2.2.2.2.1, mb.2.2.2.2.2.2.2.2.2) mo mn mg mf mt mz ml z18.2)) (ci := 9) (C := RX9) (T := TX9) (N := 32) (v := .int z18.1) (ty := .int) F hP hS rfl tyX9 tyX9_ok nmX9 0 rfl rfl inX9_passAll_X9 1 (by decide) (List.mem_of_getElem? (i := 2) rfl) rfl (by decide +kernel) rfl rfl (Nat.le_of_ble_eq_true rfl) dX9_passAll_21 rfl (fun H locs hP hS => ?_)
  refine lv_aload_n hx hb dX9_passAll_24 rfl (lv_at hl 0 rfl) ?_
  refine lv_aload_n hx hb dX9_passAll_25 rfl (lv_at hl 0 rfl) ?_
  refine lv_aload_n hx hb dX9_passAll_26 rfl (lv_at hl 0 rfl) ?_
  refine g_get (ci := 9) (C := RX9) (T := TX9) (N := 32) (v := .int mb.2.2.1) F hP 0 rfl rfl inX9_passAll_X9 3 (by decide) (List.mem_of_getElem? (i := 3) rfl) rfl dX9_passAll_27 ?_
  obtain ⟨z30, hcr, hM⟩ := ob_s hM
  refine res_i (ws' := (wM cI cZ ad (z6.1, z18.1, mb.2.2.1, mb.2.2.2.1, mb.2.2.2.2.1, mb.2.2.2.2.2.1, mb.2.2.2.2.2.2.1, mb.2.2.2.2.2.2.2.1, mb.2.2.2.2.2.2.2.2.1, mb.2.2.2.2.2.2.2.2.2) mo mn mg mf mt mz ml z30.2)) F hP hS rfl [0, 1, 2, 3, 4, 5, 6, 7, 8, 9, 10, 11, 12] rfl rfl (runV_of (n := 1) (As := [.int mb.2.2.1]) (rest := [.ref (ad 0)]) F hP hS rfl [0, 1, 2, 3, 4, 5, 6, 7, 8, 9, 10, 11, 12] rfl rfl (c_X9_pass l dC dI cI cC cZ sa ad (z6.1, z18.1, mb.2.2.1, mb.2.2.2.1, mb.2.2.2.2.1, mb.2.2.2.2.2.1, mb.2.2.2.2.2.2.1, mb.2.2.2.2.2.2.2.1, mb.2.2.2.2.2.2.2.2.1, mb.2.2.2.2.2.2.2.2.2) mo mn mg mf mt mz ml z18.2 mb.2.2.1 hcr _) gX9_passAll_X9_pass rfl (by decide +kernel) ⟨Nat.le_of_ble_eq_true rfl, Nat.le_of_ble_eq_true rfl⟩ 0 9 rfl rfl rfl hl.1 rfl (Nat.le_of_ble_eq_true rfl) dX9_passAll_30 ⟨Nat.zero_le _, Nat.zero_le _⟩) rep_full (fun H locs hP hS => ?_)
  refine g_put (ws' := (wM cI cZ ad (z6.1, z18.1, z30.1, mb.2.2.2.1, mb.2.2.2.2.1, mb.2.2.2.2.2.1, mb.2.2.2.2.2.2.1, mb.2.2.2.2.2.2.2.1, mb.2.2.2.2.2.2.2.2.1, mb.2.2.2.2.2.2.2.2.2) mo mn mg mf mt mz ml z30.2)) (ci := 9) (C := RX9) (T := TX9) (N := 32) (v := .int z30.1) (ty := .int) F hP hS rfl tyX9 tyX9_ok nmX9 0 rfl rfl inX9_passAll_X9 3 (by decide) (List.mem_of_getElem? (i := 3) rfl) rfl (by decide +kernel) rfl rfl (Nat.le_of_ble_eq_true rfl) dX9_passAll_33 rfl (fun H locs hP hS => ?_)
  refine lv_aload_n hx hb dX9_passAll_36 rfl (lv_at hl 0 rfl) ?_
  refine lv_aload_n hx hb dX9_passAll_37 rfl (lv_at hl 0 rfl) ?_
  refine lv_aload_n hx hb dX9_passAll_38 rfl (lv_at hl 0 rfl) ?_
  refine g_get (ci := 9) (C := RX9) (T := TX9) (N := 32) (v := .int mb.2.2.2.1) F hP 0 rfl rfl inX9_passAll_X9 4 (by decide) (List.mem_of_getElem? (i := 4) rfl) rfl dX9_passAll_39 ?_
  obtain ⟨z42, hcr, hM⟩ := ob_s hM
  refine res_i (ws' := (wM cI cZ ad (z6.1, z18.1, z30.1, mb.2.2.2.1, mb.2.2.2.2.1, mb.2.2.2.2.2.1, mb.2.2.2.2.2.2.1, mb.2.2.2.2.2.2.2.1, mb.2.2.2.2.2.2.2.2.1, mb.2.2.2.2.2.2.2.2.2) mo mn mg mf mt mz ml z42.2)) F hP hS rfl [0, 1, 2, 3, 4, 5, 6, 7, 8, 9, 10, 11, 12] rfl rfl (runV_of (n := 1) (As := [.int mb.2.2.2.1]) (rest := [.ref (ad 0)]) F hP hS rfl [0, 1, 2, 3, 4, 5, 6, 7, 8, 9, 10, 11, 12] rfl rfl (c_X9_pass l dC dI cI cC cZ sa ad (z6.1, z18.1, z30.1, mb.2.2.2.1, mb.2.2.2.2.1, mb.2.2.2.2.2.1, mb.2.2.2.2.2.2.1, mb.2.2.2.2.2.2.2.1, mb.2.2.2.2.2.2.2.2.1, mb.2.2.2.2.2.2.2.2.2) mo mn mg mf mt mz ml z30.2 mb.2.2.2.1 hcr _) gX9_passAll_X9_pass rfl (by decide +kernel) ⟨Nat.le_of_ble_eq_true rfl, Nat.le_of_ble_eq_true rfl⟩ 0 9 rfl rfl rfl hl.1 rfl (Nat.le_of_ble_eq_true rfl) dX9_passAll_42 ⟨Nat.zero_le _, Nat.zero_le _⟩) rep_full (fun H locs hP hS => ?_)
  refine g_put (ws' := (wM cI cZ ad (z6.1, z18.1, z30.1, z42.1, mb.2.2.2.2.1, mb.2.2.2.2.2.1, mb.2.2.2.2.2.2.1, mb.2.2.2.2.2.2.2.1, mb.2.2.2.2.2.2.2.2.1, mb.2.2.2.2.2.2.2.2.2) mo mn mg mf mt mz ml z42.2)) (ci := 9) (C := RX9) (T := TX9) (N := 32) (v := .int z42.1) (ty := .int) F hP hS rfl tyX9 tyX9_ok nmX9 0 rfl rfl inX9_passAll_X9 4 (by decide) (List.mem_of_getElem? (i := 4) rfl) rfl (by decide +kernel) rfl rfl (Nat.le_of_ble_eq_true rfl) dX9_passAll_45 rfl (fun H locs hP hS => ?_)
  refine lv_aload_n hx hb dX9_passAll_48 rfl (lv_at hl 0 rfl) ?_
  refine lv_aload_n hx hb dX9_passAll_49 rfl (lv_at hl 0 rfl) ?_
  refine lv_aload_n hx hb dX9_passAll_50 rfl (lv_at hl 0 rfl) ?_
  refine g_get (ci := 9) (C := RX9) (T := TX9) (N := 32) (v := .int mb.2.2.2.2.1) F hP 0 rfl rfl inX9_passAll_X9 8 (by decide) (List.mem_of_getElem? (i := 5) rfl) rfl dX9_passAll_51 ?_
  obtain ⟨z54, hcr, hM⟩ := ob_s hM
  refine res_i (ws' := (wM cI cZ ad (z6.1, z18.1, z30.1, z42.1, mb.2.2.2.2.1, mb.2.2.2.2.2.1, mb.2.2.2.2.2.2.1, mb.2.2.2.2.2.2.2.1, mb.2.2.2.2.2.2.2.2.1, mb.2.2.2.2.2.2.2.2.2) mo mn mg mf mt mz ml z54.2)) F hP hS rfl [0, 1, 2, 3, 4, 5, 6, 7, 8, 9, 10, 11, 12] rfl rfl (runV_of (n := 1) (As := [.int mb.2.2.2.2.1]) (rest := [.ref (ad 0)]) F hP hS rfl [0, 1, 2, 3, 4, 5, 6, 7, 8, 9, 10, 11, 12] rfl rfl (c_X9_pass l dC dI cI cC cZ sa ad (z6.1, z18.1, z30.1, z42.1, mb.2.2.2.2.1, mb.2.2.2.2.2.1, mb.2.2.2.2.2.2.1, mb.2.2.2.2.2.2.2.1, mb.2.2.2.2.2.2.2.2.1, mb.2.2.2.2.2.2.2.2.2) mo mn mg mf mt mz ml z42.2 mb.2.2.2.2.1 hcr _) gX9_passAll_X9_pass rfl (by decide +kernel) ⟨Nat.le_of_ble_eq_true rfl, Nat.le_of_ble_eq_true rfl⟩ 0 9 rfl rfl rfl hl.1 rfl (Nat.le_of_ble_eq_true rfl) dX9_passAll_54 ⟨Nat.zero_le _, Nat.zero_le _⟩) rep_full (fun H locs hP hS => ?_)
  refine g_put (ws' := (wM cI cZ ad (z6.1, z18.1, z30.1, z42.1, z54.1, mb.2.2.2.2.2.1, mb.2.2.2.2.2.2.1, mb.2.2.2.2.2.2.2.1, mb.2.2.2.2.2.2.2.2.1, mb.2.2.2.2.2.2.2.2.2) mo mn mg mf mt mz ml z54.2)) (ci := 9) (C := RX9) (T := TX9) (N := 32) (v := .int z54.1) (ty := .int) F hP hS rfl tyX9 tyX9_ok nmX9 0 rfl rfl inX9_passAll_X9 8 (by decide) (List.mem_of_getElem? (i := 5) rfl) rfl (by decide +kernel) rfl rfl (Nat.le_of_ble_eq_true rfl) dX9_passAll_57 rfl (fun H locs hP hS => ?_)
  refine lv_aload_n hx hb dX9_passAll_60 rfl (lv_at hl 0 rfl) ?_
  refine lv_aload_n hx hb dX9_passAll_61 rfl (lv_at hl 0 rfl) ?_
  refine lv_aload_n hx hb dX9_passAll_62 rfl (lv_at hl 0 rfl) ?_
  refine g_get (ci := 9) (C := RX9) (T := TX9) (N := 32) (v := .int mb.2.2.2.2.2.1) F hP 0 rfl rfl inX9_passAll_X9 9 (by decide) (List.mem_of_getElem? (i := 6) rfl) rfl dX9_passAll_63 ?_
  obtain ⟨z66, hcr, hM⟩ := ob_s hM
  refine res_i (ws' := (wM cI cZ ad (z6.1, z18.1, z30.1, z42.1, z54.1, mb.2.2.2.2.2.1, mb.2.2.2.2.2.2.1, mb.2.2.2.2.2.2.2.1, mb.2.2.2.2.2.2.2.2.1, mb.2.2.2.2.2.2.2.2.2) mo mn mg mf mt mz ml z66.2)) F hP hS rfl [0, 1, 2, 3, 4, 5, 6, 7, 8, 9, 10, 11, 12] rfl rfl (runV_of (n := 1) (As := [.int mb.2.2.2.2.2.1]) (rest := [.ref (ad 0)]) F hP hS rfl [0, 1, 2, 3, 4, 5, 6, 7, 8, 9, 10, 11, 12] rfl rfl (c_X9_pass l dC dI cI cC cZ sa ad (z6.1, z18.1, z30.1, z42.1, z54.1, mb.2.2.2.2.2.1, mb.2.2.2.2.2.2.1, mb.2.2.2.2.2.2.2.1, mb.2.2.2.2.2.2.2.2.1, mb.2.2.2.2.2.2.2.2.2) mo mn mg mf mt mz ml z54.2 mb.2.2.2.2.2.1 hcr _) gX9_passAll_X9_pass rfl (by decide +kernel) ⟨Nat.le_of_ble_eq_true rfl, Nat.le_of_ble_eq_true rfl⟩ 0 9 rfl rfl rfl hl.1 rfl (Nat.le_of_ble_eq_true rfl) dX9_passAll_66 ⟨Nat.zero_le _, Nat.zero_le _⟩) rep_full (fun H locs hP hS => ?_)
  refine g_put (ws' := (wM cI cZ ad (z6.1, z18.1, z30.1, z42.1, z54.1, z66.1, mb.2.2.2.2.2.2.1, mb.2.2.2.2.2.2.2.1, mb.2.2.2.2.2.2.2.2.1, mb.2.2.2.2.2.2.2.2.2) mo mn mg mf mt mz ml z66.2)) (ci := 9) (C := RX9) (T := TX9) (N := 32) (v := .int z66.1) (ty := .int) F hP hS rfl tyX9 tyX9_ok nmX9 0 rfl rfl inX9_passAll_X9 9 (by decide) (List.mem_of_getElem? (i := 6) rfl) rfl (by decide +kernel) rfl rfl (Nat.le_of_ble_eq_true rfl) dX9_passAll_69 rfl (fun H locs hP hS => ?_)
  refine lv_iconst (v := 0) hx hb dX9_passAll_72 (by decide) ?_
  refine lv_istore_n (lv' := [(1, .int (0 : Int32)), (0, .ref (ad 0))]) hx hb dX9_passAll_73 rfl hl (by decide) rfl (fun ls hl => ?_)
  exact j74 200 ((z6.1, z18.1, z30.1, z42.1, z54.1, z66.1, mb.2.2.2.2.2.2.1, mb.2.2.2.2.2.2.2.1, mb.2.2.2.2.2.2.2.2.1, mb.2.2.2.2.2.2.2.2.2), z66.2, (0 : Int32)) _ _ _ hP hS (lv_sub hl [1, 0] rfl) hM
theorem inX9_image_X9 : ∀ w ∈ wsX90, w ∈ wsX9_image := fun w h => List.mem_cons_of_mem _ (List.mem_append_right _ h)
set_option maxHeartbeats 4000000 in
set_option maxRecDepth 100000 in
theorem c_X9_image (l : Launch) (dC : Nat → ClassId) (dI : Nat → Nat → Nat) (cI cC cZ : ClassId) (sa : Nat → Nat) (ad : Nat → Nat) (mb : BT) (mo : OT) (mn : NT) (mg : GT) (mf : AR) (mt : TT) (mz : AR) (ml : LT) (mi : IT) (x1 : Int32) {res : Int32 × BT × IT} (hM : M_X9_image mb mi x1 = some res) : CTi l (dC, dI) [(cI, .int), (cC, .char), (cZ, .boolean)] sa yX9_image wsX9_image (rmd 3) [.ref (ad 0), .int x1] (wM cI cZ ad mb mo mn mg mf mt mz ml mi) (fun (uu : BT × IT) => (wM cI cZ ad uu.1 mo mn mg mf mt mz ml uu.2)) res := by
  refine CTi.enter (own := RX9) (cc := cX9_image) (maxL := 2) (ret := (some .int)) (by decide) rfl rfl (Nat.le_of_ble_eq_true rfl) ?_
  intro pr e s m below meth c A F hr hlk hP hS ls hl
  obtain ⟨⟨hx, hb, hml, hown, hts⟩, hK, hDD, hA, hKC⟩ := id F
  have hl : lv_has ls 2 [(0, .ref (ad 0)), (1, .int x1)] := hl
  have hP : va_P (dC, dI) vwCl (wM cI cZ ad mb mo mn mg mf mt mz ml mi) s.heap := hP
  unfold M_X9_image at hM
  refine lv_iload_n hx hb dX9_image_0 rfl (lv_at hl 1 rfl) ?_
  refine lv_i2l (v := x1.toInt64) hx hb dX9_image_1 rfl ?_
  refine lv_lconst (v := 0) hx hb dX9_image_2 (by decide) ?_
  refine lv_lconst (v := 1) hx hb dX9_image_3 (by decide) ?_
  obtain ⟨z4, hcr, hM⟩ := ob_s hM
  refine res_i0 F hP hS rfl [] rfl rfl (runS_of (n := 3) (As := [.long x1.toInt64, .long (0 : Int64), .long (1 : Int64)]) (rest := []) F hP hS rfl [] rfl rfl (c_X9_in l dC dI cI cC cZ sa x1.toInt64 (0 : Int64) (1 : Int64) hcr _) gX9_image_X9_in rfl (by decide +kernel) ⟨Nat.le_of_ble_eq_true rfl, Nat.le_of_ble_eq_true rfl⟩ rfl hl.1 rfl (Nat.le_of_ble_eq_true rfl) dX9_image_4 ⟨Nat.zero_le _, Nat.zero_le _⟩) (fun H locs hP hS => ?_)
  refine lv_if_ne (tgt := 13) hx hb dX9_image_7 (by decide) (fun hc => ?_) (fun hc => ?_)
  · have hM := if_nn hc hM
    refine lv_aload_n hx hb dX9_image_13 rfl (lv_at hl 0 rfl) ?_
    refine lv_bipush (v := 40) hx hb dX9_image_14 (by decide) ?_
    refine lv_iload_n hx hb dX9_image_16 rfl (lv_at hl 1 rfl) ?_
    refine lv_imul hx hb dX9_image_17 ?_
    refine g_put (ws' := (wM cI cZ ad mb mo mn mg mf mt mz ml (((40 : Int32) * x1), mi.2.1, mi.2.2.1, mi.2.2.2))) (ci := 9) (C := RX9) (T := TX9) (N := 32) (v := .int ((40 : Int32) * x1)) (ty := .int) F hP hS rfl tyX9 tyX9_ok nmX9 0 rfl rfl inX9_image_X9 30 (by decide) (List.mem_of_getElem? (i := 1) rfl) rfl (by decide +kernel) rfl rfl (Nat.le_of_ble_eq_true rfl) dX9_image_18 rfl (fun H locs hP hS => ?_)
    refine lv_aload_n hx hb dX9_image_21 rfl (lv_at hl 0 rfl) ?_
    refine lv_iconst (v := 1) hx hb dX9_image_22 (by decide) ?_
    obtain ⟨hnz, hM⟩ := if_ok hM
    refine g_put (ws' := (wM cI cZ ad mb mo mn mg mf mt mz ml (((40 : Int32) * x1), (1 : Int32), mi.2.2.1, mi.2.2.2))) (ci := 9) (C := RX9) (T := TX9) (N := 32) (v := .int (1 : Int32)) (ty := .boolean) F hP hS rfl tyX9 tyX9_ok nmX9 0 rfl rfl inX9_image_X9 31 (by decide) (List.mem_of_getElem? (i := 2) rfl) rfl (by decide +kernel) (nar_z hnz) (fit_z hnz) (Nat.le_of_ble_eq_true rfl) dX9_image_23 rfl (fun H locs hP hS => ?_)
    refine lv_aload_n hx hb dX9_image_26 rfl (lv_at hl 0 rfl) ?_
    obtain ⟨z27, hcr, hM⟩ := ob_s hM
    refine res_v (ws' := (wM cI cZ ad z27.1 mo mn mg mf mt mz ml z27.2)) F hP hS rfl [0, 1, 2, 3, 4, 5, 6, 7, 8, 9, 10, 11, 12] rfl rfl (runV_of (n := 0) (As := []) (rest := []) F hP hS rfl [0, 1, 2, 3, 4, 5, 6, 7, 8, 9, 10, 11, 12] rfl rfl (c_X9_passAll l dC dI cI cC cZ sa ad mb mo mn mg mf mt mz ml (((40 : Int32) * x1), (1 : Int32), mi.2.2.1, mi.2.2.2) hcr _) gX9_image_X9_passAll rfl (by decide +kernel) ⟨Nat.le_of_ble_eq_true rfl, Nat.le_of_ble_eq_true rfl⟩ 0 9 rfl rfl rfl hl.1 rfl (Nat.le_of_ble_eq_true rfl) dX9_image_27 ⟨Nat.zero_le _, Nat.zero_le _⟩) rep_full (fun H locs hP hS => ?_)
    refine lv_aload_n hx hb dX9_image_30 rfl (lv_at hl 0 rfl) ?_
    refine g_get (ci := 9) (C := RX9) (T := TX9) (N := 32) (v := .ref (ad 12)) F hP 0 rfl rfl inX9_image_X9 29 (by decide) (List.mem_of_getElem? (i := 3) rfl) rfl dX9_image_31 ?_
    refine lv_iload_n hx hb dX9_image_34 rfl (lv_at hl 1 rfl) ?_
    refine lv_iconst (v := 1) hx hb dX9_image_35 (by decide) ?_
    obtain ⟨hin, hM⟩ := if_ok hM
    refine g_zast (ws' := (wM cI cZ ad z27.1 mo mn mg mf mt mz ml (z27.2.1, z27.2.2.1, z27.2.2.2.1, (upd z27.2.2.2.2 x1.toNatClampNeg (vp_nar .boolean (1 : Int32)))))) F hP hS rfl 12 2 rfl rfl hin dX9_image_36 rfl (fun H locs hP hS => ?_)
    refine lv_iconst (v := 1) hx hb dX9_image_37 (by decide) ?_
    exact ret_i hx hb hr hlk dX9_image_38 hM hP hS
  · have hM := if_pp hc hM
    refine lv_bipush (v := -2) hx hb dX9_image_10 (by decide) ?_
    exact ret_i hx hb hr hlk dX9_image_12 hM hP hS
