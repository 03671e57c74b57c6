/-! Walks, printed by wip/whole/gen.py -/
theorem inX9_safe_X9 : ∀ w ∈ wsX90, w ∈ wsX9_safe := fun w h => List.mem_cons_of_mem _ (List.mem_append_right _ h)
set_option maxHeartbeats 4000000 in
set_option maxRecDepth 100000 in
theorem c_X9_safe (l : Launch) (dC : Nat → ClassId) (dI : Nat → Nat → Nat) (cI cC cZ : ClassId) (sa : Nat → Nat) (ad : Nat → Nat) (mb : BT) (mo : OT) (mn : NT) (mg : GT) (mf : AR) (mt : TT) (mz : AR) (ml : LT) (mi : IT) (x1 : Int32) {res : Int32 × AR × TT} (hM : M_X9_safe mb mf mt x1 = some res) : CTi l (dC, dI) [(cI, .int), (cC, .char), (cZ, .boolean)] sa yX9_safe wsX9_safe (rmd 7) [.ref (ad 0), .int x1] (wM cI cZ ad mb mo mn mg mf mt mz ml mi) (fun (uu : AR × TT) => (wM cI cZ ad mb mo mn mg uu.1 uu.2 mz ml mi)) res := by
  refine CTi.enter (own := RX9) (cc := cX9_safe) (maxL := 4) (ret := (some .int)) (by decide) rfl rfl (Nat.le_of_ble_eq_true rfl) ?_
  intro pr e s m below meth c A F hr hlk hP hS ls hl
  obtain ⟨⟨hx, hb, hml, hown, hts⟩, hK, hDD, hA, hKC⟩ := id F
  have hl : lv_has ls 4 [(0, .ref (ad 0)), (1, .int x1)] := hl
  have hP : va_P (dC, dI) vwCl (wM cI cZ ad mb mo mn mg mf mt mz ml mi) s.heap := hP
  unfold M_X9_safe at hM
  refine lv_aload_n hx hb dX9_safe_0 rfl (lv_at hl 0 rfl) ?_
  obtain ⟨z1, hcr, hM⟩ := ob_s hM
  refine res_i0 F hP hS rfl [0, 1, 2, 3, 4, 5, 6, 7, 8, 9, 10, 11, 12] rfl rfl (runV_of (n := 0) (As := []) (rest := []) F hP hS rfl [0, 1, 2, 3, 4, 5, 6, 7, 8, 9, 10, 11, 12] rfl rfl (c_X9_bare l dC dI cI cC cZ sa ad mb mo mn mg mf mt mz ml mi hcr _) gX9_safe_X9_bare rfl (by decide +kernel) ⟨Nat.le_of_ble_eq_true rfl, Nat.le_of_ble_eq_true rfl⟩ 0 9 rfl rfl rfl hl.1 rfl (Nat.le_of_ble_eq_true rfl) dX9_safe_1 ⟨Nat.zero_le _, Nat.zero_le _⟩) (fun H locs hP hS => ?_)
  refine lv_istore_n (lv' := [(2, .int z1), (0, .ref (ad 0)), (1, .int x1)]) hx hb dX9_safe_4 rfl hl (by decide) rfl (fun ls hl => ?_)
  refine lv_aload_n hx hb dX9_safe_5 rfl (lv_at hl 1 rfl) ?_
  refine lv_iconst (v := 0) hx hb dX9_safe_6 (by decide) ?_
  refine g_put (ws' := (wM cI cZ ad mb mo mn mg mf ((0 : Int32), mt.2) mz ml mi)) (ci := 9) (C := RX9) (T := TX9) (N := 32) (v := .int (0 : Int32)) (ty := .int) F hP hS rfl tyX9 tyX9_ok nmX9 0 rfl rfl inX9_safe_X9 24 (by decide) (List.mem_of_getElem? (i := 1) rfl) rfl (by decide +kernel) rfl rfl (Nat.le_of_ble_eq_true rfl) dX9_safe_7 rfl (fun H locs hP hS => ?_)
  refine lv_aload_n hx hb dX9_safe_10 rfl (lv_at hl 1 rfl) ?_
  refine lv_aload_n hx hb dX9_safe_11 rfl (lv_at hl 1 rfl) ?_
  refine g_get (ci := 9) (C := RX9) (T := TX9) (N := 32) (v := .int mb.2.2.2.1) F hP 0 rfl rfl inX9_safe_X9 4 (by decide) (List.mem_of_getElem? (i := 2) rfl) rfl dX9_safe_12 ?_
  refine lv_iload_n hx hb dX9_safe_15 rfl (lv_at hl 0 rfl) ?_
  obtain ⟨z16, hcr, hM⟩ := ob_s hM
  refine res_v (ws' := (wM cI cZ ad mb mo mn mg z16 ((0 : Int32), mt.2) mz ml mi)) F hP hS rfl [0, 1, 2, 3, 4, 5, 6, 7, 8, 9, 10, 11, 12] rfl rfl (runV_of (n := 2) (As := [.int mb.2.2.2.1, .int z1]) (rest := []) F hP hS rfl [0, 1, 2, 3, 4, 5, 6, 7, 8, 9, 10, 11, 12] rfl rfl (c_X9_findFar l dC dI cI cC cZ sa ad mb mo mn mg mf ((0 : Int32), mt.2) mz ml mi mb.2.2.2.1 z1 hcr _) gX9_safe_X9_findFar rfl (by decide +kernel) ⟨Nat.le_of_ble_eq_true rfl, Nat.le_of_ble_eq_true rfl⟩ 0 9 rfl rfl rfl hl.1 rfl (Nat.le_of_ble_eq_true rfl) dX9_safe_16 ⟨Nat.zero_le _, Nat.zero_le _⟩) rep_full (fun H locs hP hS => ?_)
  refine lv_aload_n hx hb dX9_safe_19 rfl (lv_at hl 1 rfl) ?_
  refine g_get (ci := 9) (C := RX9) (T := TX9) (N := 32) (v := .ref (ad 6)) F hP 0 rfl rfl inX9_safe_X9 22 (by decide) (List.mem_of_getElem? (i := 3) rfl) rfl dX9_safe_20 ?_
  refine lv_aload_n hx hb dX9_safe_23 rfl (lv_at hl 1 rfl) ?_
  refine g_get (ci := 9) (C := RX9) (T := TX9) (N := 32) (v := .int mb.2.2.1) F hP 0 rfl rfl inX9_safe_X9 3 (by decide) (List.mem_of_getElem? (i := 4) rfl) rfl dX9_safe_24 ?_
  obtain ⟨hin, hM⟩ := if_ok hM
  refine va_iald hx hb hK hP 6 0 rfl rfl hin dX9_safe_27 ?_
  refine lv_sipush (v := 1000) hx hb dX9_safe_28 (by decide) ?_
  refine lv_icmp_ne (tgt := 37) hx hb dX9_safe_31 (by decide) (fun hc => ?_) (fun hc => ?_)
  · have hM := if_nn hc hM
    refine lv_aload_n hx hb dX9_safe_37 rfl (lv_at hl 1 rfl) ?_
    refine lv_aload_n hx hb dX9_safe_38 rfl (lv_at hl 1 rfl) ?_
    refine g_get (ci := 9) (C := RX9) (T := TX9) (N := 32) (v := .int mb.2.2.1) F hP 0 rfl rfl inX9_safe_X9 3 (by decide) (List.mem_of_getElem? (i := 4) rfl) rfl dX9_safe_39 ?_
    refine lv_aload_n hx hb dX9_safe_42 rfl (lv_at hl 1 rfl) ?_
    refine g_get (ci := 9) (C := RX9) (T := TX9) (N := 32) (v := .int mb.2.2.2.1) F hP 0 rfl rfl inX9_safe_X9 4 (by decide) (List.mem_of_getElem? (i := 2) rfl) rfl dX9_safe_43 ?_
    refine lv_iload_n hx hb dX9_safe_46 rfl (lv_at hl 0 rfl) ?_
    obtain ⟨z47, hcr, hM⟩ := ob_s hM
    refine res_v (ws' := (wM cI cZ ad mb mo mn mg z47.1 z47.2 mz ml mi)) F hP hS rfl [0, 1, 2, 3, 4, 5, 6, 7, 8, 9, 10, 11, 12] rfl rfl (runV_of (n := 3) (As := [.int mb.2.2.1, .int mb.2.2.2.1, .int z1]) (rest := []) F hP hS rfl [0, 1, 2, 3, 4, 5, 6, 7, 8, 9, 10, 11, 12] rfl rfl (c_X9_layWay l dC dI cI cC cZ sa ad mb mo mn mg z16 ((0 : Int32), mt.2) mz ml mi mb.2.2.1 mb.2.2.2.1 z1 hcr _) gX9_safe_X9_layWay rfl (by decide +kernel) ⟨Nat.le_of_ble_eq_true rfl, Nat.le_of_ble_eq_true rfl⟩ 0 9 rfl rfl rfl hl.1 rfl (Nat.le_of_ble_eq_true rfl) dX9_safe_47 ⟨Nat.zero_le _, Nat.zero_le _⟩) rep_full (fun H locs hP hS => ?_)
    refine lv_iload_n hx hb dX9_safe_50 rfl (lv_at hl 0 rfl) ?_
    refine lv_iconst (v := 1) hx hb dX9_safe_51 (by decide) ?_
    refine lv_aload_n hx hb dX9_safe_52 rfl (lv_at hl 1 rfl) ?_
    refine g_get (ci := 9) (C := RX9) (T := TX9) (N := 32) (v := .int mb.2.2.1) F hP 0 rfl rfl inX9_safe_X9 3 (by decide) (List.mem_of_getElem? (i := 4) rfl) rfl dX9_safe_53 ?_
    refine lv_ishl hx hb dX9_safe_56 ?_
    refine lv_ior hx hb dX9_safe_57 ?_
    refine lv_istore_n (lv' := [(3, .int (z1 ||| ((1 : Int32) <<< (mb.2.2.1 &&& 31)))), (2, .int z1), (0, .ref (ad 0)), (1, .int x1)]) hx hb dX9_safe_58 rfl hl (by decide) rfl (fun ls hl => ?_)
    refine lv_aload_n hx hb dX9_safe_59 rfl (lv_at hl 2 rfl) ?_
    refine lv_aload_n hx hb dX9_safe_60 rfl (lv_at hl 2 rfl) ?_
    refine g_get (ci := 9) (C := RX9) (T := TX9) (N := 32) (v := .int mb.2.2.1) F hP 0 rfl rfl inX9_safe_X9 3 (by decide) (List.mem_of_getElem? (i := 4) rfl) rfl dX9_safe_61 ?_
    refine lv_iload_n hx hb dX9_safe_64 rfl (lv_at hl 0 rfl) ?_
    obtain ⟨z65, hcr, hM⟩ := ob_s hM
    refine res_v (ws' := (wM cI cZ ad mb mo mn mg z65 z47.2 mz ml mi)) F hP hS rfl [0, 1, 2, 3, 4, 5, 6, 7, 8, 9, 10, 11, 12] rfl rfl (runV_of (n := 2) (As := [.int mb.2.2.1, .int (z1 ||| ((1 : Int32) <<< (mb.2.2.1 &&& 31)))]) (rest := []) F hP hS rfl [0, 1, 2, 3, 4, 5, 6, 7, 8, 9, 10, 11, 12] rfl rfl (c_X9_findFar l dC dI cI cC cZ sa ad mb mo mn mg z47.1 z47.2 mz ml mi mb.2.2.1 (z1 ||| ((1 : Int32) <<< (mb.2.2.1 &&& 31))) hcr _) gX9_safe_X9_findFar rfl (by decide +kernel) ⟨Nat.le_of_ble_eq_true rfl, Nat.le_of_ble_eq_true rfl⟩ 0 9 rfl rfl rfl hl.1 rfl (Nat.le_of_ble_eq_true rfl) dX9_safe_65 ⟨Nat.zero_le _, Nat.zero_le _⟩) rep_full (fun H locs hP hS => ?_)
    refine lv_aload_n hx hb dX9_safe_68 rfl (lv_at hl 2 rfl) ?_
    refine g_get (ci := 9) (C := RX9) (T := TX9) (N := 32) (v := .ref (ad 6)) F hP 0 rfl rfl inX9_safe_X9 22 (by decide) (List.mem_of_getElem? (i := 3) rfl) rfl dX9_safe_69 ?_
    refine lv_aload_n hx hb dX9_safe_72 rfl (lv_at hl 2 rfl) ?_
    refine g_get (ci := 9) (C := RX9) (T := TX9) (N := 32) (v := .int mb.2.2.2.1) F hP 0 rfl rfl inX9_safe_X9 4 (by decide) (List.mem_of_getElem? (i := 2) rfl) rfl dX9_safe_73 ?_
    obtain ⟨hin, hM⟩ := if_ok hM
    refine va_iald hx hb hK hP 6 0 rfl rfl hin dX9_safe_76 ?_
    refine lv_sipush (v := 1000) hx hb dX9_safe_77 (by decide) ?_
    refine lv_icmp_ne (tgt := 86) hx hb dX9_safe_80 (by decide) (fun hc => ?_) (fun hc => ?_)
    · have hM := if_nn hc hM
      refine lv_aload_n hx hb dX9_safe_86 rfl (lv_at hl 2 rfl) ?_
      refine lv_aload_n hx hb dX9_safe_87 rfl (lv_at hl 2 rfl) ?_
      refine g_get (ci := 9) (C := RX9) (T := TX9) (N := 32) (v := .int mb.2.2.2.1) F hP 0 rfl rfl inX9_safe_X9 4 (by decide) (List.mem_of_getElem? (i := 2) rfl) rfl dX9_safe_88 ?_
      refine lv_aload_n hx hb dX9_safe_91 rfl (lv_at hl 2 rfl) ?_
      refine g_get (ci := 9) (C := RX9) (T := TX9) (N := 32) (v := .int mb.2.2.1) F hP 0 rfl rfl inX9_safe_X9 3 (by decide) (List.mem_of_getElem? (i := 4) rfl) rfl dX9_safe_92 ?_
      refine lv_iload_n hx hb dX9_safe_95 rfl (lv_at hl 0 rfl) ?_
      obtain ⟨z96, hcr, hM⟩ := ob_s hM
      refine res_v (ws' := (wM cI cZ ad mb mo mn mg z96.1 z96.2 mz ml mi)) F hP hS rfl [0, 1, 2, 3, 4, 5, 6, 7, 8, 9, 10, 11, 12] rfl rfl (runV_of (n := 3) (As := [.int mb.2.2.2.1, .int mb.2.2.1, .int (z1 ||| ((1 : Int32) <<< (mb.2.2.1 &&& 31)))]) (rest := []) F hP hS rfl [0, 1, 2, 3, 4, 5, 6, 7, 8, 9, 10, 11, 12] rfl rfl (c_X9_layWay l dC dI cI cC cZ sa ad mb mo mn mg z65 z47.2 mz ml mi mb.2.2.2.1 mb.2.2.1 (z1 ||| ((1 : Int32) <<< (mb.2.2.1 &&& 31))) hcr _) gX9_safe_X9_layWay rfl (by decide +kernel) ⟨Nat.le_of_ble_eq_true rfl, Nat.le_of_ble_eq_true rfl⟩ 0 9 rfl rfl rfl hl.1 rfl (Nat.le_of_ble_eq_true rfl) dX9_safe_96 ⟨Nat.zero_le _, Nat.zero_le _⟩) rep_full (fun H locs hP hS => ?_)
      refine lv_iload_n hx hb dX9_safe_99 rfl (lv_at hl 3 rfl) ?_
      refine lv_iconst (v := -1) hx hb dX9_safe_100 (by decide) ?_
      refine lv_icmp_ne (tgt := 111) hx hb dX9_safe_101 (by decide) (fun hc => ?_) (fun hc => ?_)
      · have hM := if_nn hc hM
        refine lv_iload_n hx hb dX9_safe_111 rfl (lv_at hl 3 rfl) ?_
        refine lv_i2l (v := x1.toInt64) hx hb dX9_safe_112 rfl ?_
        refine lv_lconst (v := 0) hx hb dX9_safe_113 (by decide) ?_
        refine lv_aload_n hx hb dX9_safe_114 rfl (lv_at hl 2 rfl) ?_
        refine g_get (ci := 9) (C := RX9) (T := TX9) (N := 32) (v := .int z96.2.1) F hP 0 rfl rfl inX9_safe_X9 24 (by decide) (List.mem_of_getElem? (i := 1) rfl) rfl dX9_safe_115 ?_
        refine lv_iconst (v := 1) hx hb dX9_safe_118 (by decide) ?_
        refine lv_isub hx hb dX9_safe_119 ?_
        refine lv_i2l (v := (z96.2.1 - (1 : Int32)).toInt64) hx hb dX9_safe_120 rfl ?_
        obtain ⟨z121, hcr, hM⟩ := ob_s hM
        refine res_i0 F hP hS rfl [] rfl rfl (runS_of (n := 3) (As := [.long x1.toInt64, .long (0 : Int64), .long ((z96.2.1 - (1 : Int32)).toInt64)]) (rest := []) F hP hS rfl [] rfl rfl (c_X9_in l dC dI cI cC cZ sa x1.toInt64 (0 : Int64) ((z96.2.1 - (1 : Int32)).toInt64) hcr _) gX9_safe_X9_in rfl (by decide +kernel) ⟨Nat.le_of_ble_eq_true rfl, Nat.le_of_ble_eq_true rfl⟩ rfl hl.1 rfl (Nat.le_of_ble_eq_true rfl) dX9_safe_121 ⟨Nat.zero_le _, Nat.zero_le _⟩) (fun H locs hP hS => ?_)
        refine lv_if_eq (tgt := 136) hx hb dX9_safe_124 (by decide) (fun hc => ?_) (fun hc => ?_)
        · have hM := if_pp hc hM
          refine lv_bipush (v := -6) hx hb dX9_safe_136 (by decide) ?_
          exact ret_i hx hb hr hlk dX9_safe_138 hM hP hS
        · have hM := if_nn hc hM
          refine lv_aload_n hx hb dX9_safe_127 rfl (lv_at hl 2 rfl) ?_
          refine g_get (ci := 9) (C := RX9) (T := TX9) (N := 32) (v := .ref (ad 7)) F hP 0 rfl rfl inX9_safe_X9 23 (by decide) (List.mem_of_getElem? (i := 5) rfl) rfl dX9_safe_128 ?_
          refine lv_iload_n hx hb dX9_safe_131 rfl (lv_at hl 3 rfl) ?_
          obtain ⟨hin, hM⟩ := if_ok hM
          refine va_iald hx hb hK hP 7 0 rfl rfl hin dX9_safe_132 ?_
          refine lv_goto (tgt := 138) hx hb dX9_safe_133 (by decide) ?_
          exact ret_i hx hb hr hlk dX9_safe_138 hM hP hS
      · have hM := if_pp hc hM
        refine lv_aload_n hx hb dX9_safe_104 rfl (lv_at hl 2 rfl) ?_
        refine g_get (ci := 9) (C := RX9) (T := TX9) (N := 32) (v := .int z96.2.1) F hP 0 rfl rfl inX9_safe_X9 24 (by decide) (List.mem_of_getElem? (i := 1) rfl) rfl dX9_safe_105 ?_
        refine lv_goto (tgt := 138) hx hb dX9_safe_108 (by decide) ?_
        exact ret_i hx hb hr hlk dX9_safe_138 hM hP hS
    · have hM := if_pp hc hM
      refine lv_bipush (v := -6) hx hb dX9_safe_83 (by decide) ?_
      exact ret_i hx hb hr hlk dX9_safe_85 hM hP hS
  · have hM := if_pp hc hM
    refine lv_bipush (v := -6) hx hb dX9_safe_34 (by decide) ?_
    exact ret_i hx hb hr hlk dX9_safe_36 hM hP hS
theorem inX9_say_X9 : ∀ w ∈ wsX90, w ∈ wsX9_say := fun w h => List.mem_cons_of_mem _ (List.mem_append_right _ h)
set_option maxHeartbeats 4000000 in
set_option maxRecDepth 100000 in
theorem c_X9_say (l : Launch) (dC : Nat → ClassId) (dI : Nat → Nat → Nat) (cI cC cZ : ClassId) (sa : Nat → Nat) (ad : Nat → Nat) (mb : BT) (mo : OT) (mn : NT) (mg : GT) (mf : AR) (mt : TT) (mz : AR) (ml : LT) (mi : IT) (x1 : Int32) {res : Int32 × OT} (hM : M_X9_say mo x1 = some res) : CTi l (dC, dI) [(cI, .int), (cC, .char), (cZ, .boolean)] sa yX9_say wsX9_say (rmd 2) [.ref (ad 0), .int x1] (wM cI cZ ad mb mo mn mg mf mt mz ml mi) (fun (uu : OT) => (wM cI cZ ad mb uu mn mg mf mt mz ml mi)) res := by
  refine CTi.enter (own := RX9) (cc := cX9_say) (maxL := 2) (ret := (some .int)) (by decide) rfl rfl (Nat.le_of_ble_eq_true rfl) ?_
  intro pr e s m below meth c A F hr hlk hP hS ls hl
  obtain ⟨⟨hx, hb, hml, hown, hts⟩, hK, hDD, hA, hKC⟩ := id F
  have hl : lv_has ls 2 [(0, .ref (ad 0)), (1, .int x1)] := hl
  have hP : va_P (dC, dI) vwCl (wM cI cZ ad mb mo mn mg mf mt mz ml mi) s.heap := hP
  unfold M_X9_say at hM
  refine lv_iload_n hx hb dX9_say_0 rfl (lv_at hl 1 rfl) ?_
  refine lv_i2l (v := x1.toInt64) hx hb dX9_say_1 rfl ?_
  refine lv_ldc2 (v := 33) hx hb hown (hts _ (List.mem_of_getElem? (i := 1) rfl)) dX9_say_2 ?_
  refine lv_ldc2 (v := 126) hx hb hown (hts _ (List.mem_of_getElem? (i := 2) rfl)) dX9_say_5 ?_
  obtain ⟨z8, hcr, hM⟩ := ob_s hM
  refine res_i0 F hP hS rfl [] rfl rfl (runS_of (n := 3) (As := [.long x1.toInt64, .long (33 : Int64), .long (126 : Int64)]) (rest := []) F hP hS rfl [] rfl rfl (c_X9_in l dC dI cI cC cZ sa x1.toInt64 (33 : Int64) (126 : Int64) hcr _) gX9_say_X9_in rfl (by decide +kernel) ⟨Nat.le_of_ble_eq_true rfl, Nat.le_of_ble_eq_true rfl⟩ rfl hl.1 rfl (Nat.le_of_ble_eq_true rfl) dX9_say_8 ⟨Nat.zero_le _, Nat.zero_le _⟩) (fun H locs hP hS => ?_)
  refine lv_if_ne (tgt := 17) hx hb dX9_say_11 (by decide) (fun hc => ?_) (fun hc => ?_)
  · have hM := if_nn hc hM
    refine lv_aload_n hx hb dX9_say_17 rfl (lv_at hl 0 rfl) ?_
    refine g_get (ci := 9) (C := RX9) (T := TX9) (N := 32) (v := .int mo.1) F hP 0 rfl rfl inX9_say_X9 11 (by decide) (List.mem_of_getElem? (i := 3) rfl) rfl dX9_say_18 ?_
    refine lv_bipush (v := 40) hx hb dX9_say_21 (by decide) ?_
    refine lv_icmp_ne (tgt := 29) hx hb dX9_say_23 (by decide) (fun hc => ?_) (fun hc => ?_)
    · have hM := if_nn hc hM
      refine lv_aload_n hx hb dX9_say_29 rfl (lv_at hl 0 rfl) ?_
      refine g_get (ci := 9) (C := RX9) (T := TX9) (N := 32) (v := .ref (ad 5)) F hP 0 rfl rfl inX9_say_X9 10 (by decide) (List.mem_of_getElem? (i := 4) rfl) rfl dX9_say_30 ?_
      refine lv_aload_n hx hb dX9_say_33 rfl (lv_at hl 0 rfl) ?_
      refine g_get (ci := 9) (C := RX9) (T := TX9) (N := 32) (v := .int mo.1) F hP 0 rfl rfl inX9_say_X9 11 (by decide) (List.mem_of_getElem? (i := 3) rfl) rfl dX9_say_34 ?_
      refine lv_iload_n hx hb dX9_say_37 rfl (lv_at hl 1 rfl) ?_
      obtain ⟨hin, hM⟩ := if_ok hM
      refine g_iast (ws' := (wM cI cZ ad mb (mo.1, (upd mo.2 mo.1.toNatClampNeg x1)) mn mg mf mt mz ml mi)) F hP hS rfl 5 0 rfl rfl hin dX9_say_38 rfl (fun H locs hP hS => ?_)
      refine lv_aload_n hx hb dX9_say_39 rfl (lv_at hl 0 rfl) ?_
      refine lv_dup hx hb dX9_say_40 rfl ?_
      refine g_get (ci := 9) (C := RX9) (T := TX9) (N := 32) (v := .int mo.1) F hP 0 rfl rfl inX9_say_X9 11 (by decide) (List.mem_of_getElem? (i := 3) rfl) rfl dX9_say_41 ?_
      refine lv_iconst (v := 1) hx hb dX9_say_44 (by decide) ?_
      refine lv_iadd hx hb dX9_say_45 ?_
      refine g_put (ws' := (wM cI cZ ad mb ((mo.1 + (1 : Int32)), (upd mo.2 mo.1.toNatClampNeg x1)) mn mg mf mt mz ml mi)) (ci := 9) (C := RX9) (T := TX9) (N := 32) (v := .int (mo.1 + (1 : Int32))) (ty := .int) F hP hS rfl tyX9 tyX9_ok nmX9 0 rfl rfl inX9_say_X9 11 (by decide) (List.mem_of_getElem? (i := 3) rfl) rfl (by decide +kernel) rfl rfl (Nat.le_of_ble_eq_true rfl) dX9_say_46 rfl (fun H locs hP hS => ?_)
      refine lv_aload_n hx hb dX9_say_49 rfl (lv_at hl 0 rfl) ?_
      refine g_get (ci := 9) (C := RX9) (T := TX9) (N := 32) (v := .int (mo.1 + (1 : Int32))) F hP 0 rfl rfl inX9_say_X9 11 (by decide) (List.mem_of_getElem? (i := 3) rfl) rfl dX9_say_50 ?_
      exact ret_i hx hb hr hlk dX9_say_53 hM hP hS
    · have hM := if_pp hc hM
      refine lv_bipush (v := -4) hx hb dX9_say_26 (by decide) ?_
      exact ret_i hx hb hr hlk dX9_say_28 hM hP hS
  · have hM := if_pp hc hM
    refine lv_bipush (v := -2) hx hb dX9_say_14 (by decide) ?_
    exact ret_i hx hb hr hlk dX9_say_16 hM hP hS
theorem inX9_sees_X9 : ∀ w ∈ wsX90, w ∈ wsX9_sees := fun w h => List.mem_cons_of_mem _ (List.mem_append_right _ h)
set_option maxHeartbeats 4000000 in
set_option maxRecDepth 100000 in
theorem c_X9_sees (l : Launch) (dC : Nat → ClassId) (dI : Nat → Nat → Nat) (cI cC cZ : ClassId) (sa : Nat → Nat) (ad : Nat → Nat) (mb : BT) (mo : OT) (mn : NT) (mg : GT) (mf : AR) (mt : TT) (mz : AR) (ml : LT) (mi : IT) (x1 : Int32) {res : Int32} (hM : M_X9_sees mb x1 = some res) : CTi l (dC, dI) [(cI, .int), (cC, .char), (cZ, .boolean)] sa yX9_sees wsX9_sees (rmd 5) [.ref (ad 0), .int x1] (wM cI cZ ad mb mo mn mg mf mt mz ml mi) (fun (_ : Unit) => (wM cI cZ ad mb mo mn mg mf mt mz ml mi)) (res, ()) := by
  refine CTi.enter (own := RX9) (cc := cX9_sees) (maxL := 2) (ret := (some .int)) (by decide) rfl rfl (Nat.le_of_ble_eq_true rfl) ?_
  intro pr e s m below meth c A F hr hlk hP hS ls hl
  obtain ⟨⟨hx, hb, hml, hown, hts⟩, hK, hDD, hA, hKC⟩ := id F
  have hl : lv_has ls 2 [(0, .ref (ad 0)), (1, .int x1)] := hl
  have hP : va_P (dC, dI) vwCl (wM cI cZ ad mb mo mn mg mf mt mz ml mi) s.heap := hP
  unfold M_X9_sees at hM
  refine lv_iload_n hx hb dX9_sees_0 rfl (lv_at hl 1 rfl) ?_
  refine lv_i2l (v := x1.toInt64) hx hb dX9_sees_1 rfl ?_
  refine lv_lconst (v := 0) hx hb dX9_sees_2 (by decide) ?_
  refine lv_aload_n hx hb dX9_sees_3 rfl (lv_at hl 0 rfl) ?_
  refine g_get (ci := 9) (C := RX9) (T := TX9) (N := 32) (v := .int mb.2.2.2.2.1) F hP 0 rfl rfl inX9_sees_X9 8 (by decide) (List.mem_of_getElem? (i := 1) rfl) rfl dX9_sees_4 ?_
  refine lv_iconst (v := 1) hx hb dX9_sees_7 (by decide) ?_
  refine lv_isub hx hb dX9_sees_8 ?_
  refine lv_i2l (v := (mb.2.2.2.2.1 - (1 : Int32)).toInt64) hx hb dX9_sees_9 rfl ?_
  obtain ⟨z10, hcr, hM⟩ := ob_s hM
  refine res_i0 F hP hS rfl [] rfl rfl (runS_of (n := 3) (As := [.long x1.toInt64, .long (0 : Int64), .long ((mb.2.2.2.2.1 - (1 : Int32)).toInt64)]) (rest := []) F hP hS rfl [] rfl rfl (c_X9_in l dC dI cI cC cZ sa x1.toInt64 (0 : Int64) ((mb.2.2.2.2.1 - (1 : Int32)).toInt64) hcr _) gX9_sees_X9_in rfl (by decide +kernel) ⟨Nat.le_of_ble_eq_true rfl, Nat.le_of_ble_eq_true rfl⟩ rfl hl.1 rfl (Nat.le_of_ble_eq_true rfl) dX9_sees_10 ⟨Nat.zero_le _, Nat.zero_le _⟩) (fun H locs hP hS => ?_)
  refine lv_if_eq (tgt := 24) hx hb dX9_sees_13 (by decide) (fun hc => ?_) (fun hc => ?_)
  · have hM := if_pp hc hM
    refine lv_iconst (v := -1) hx hb dX9_sees_24 (by decide) ?_
    exact ret_i hx hb hr hlk dX9_sees_25 (some_u hM) hP hS
  · have hM := if_nn hc hM
    refine lv_aload_n hx hb dX9_sees_16 rfl (lv_at hl 0 rfl) ?_
    refine lv_iload_n hx hb dX9_sees_17 rfl (lv_at hl 1 rfl) ?_
    obtain ⟨z18, hcr, hM⟩ := ob_s hM
    refine res_i0 F hP hS rfl [0, 1, 2, 3, 4, 5, 6, 7, 8, 9, 10, 11, 12] rfl rfl (runV_of (n := 1) (As := [.int x1]) (rest := []) F hP hS rfl [0, 1, 2, 3, 4, 5, 6, 7, 8, 9, 10, 11, 12] rfl rfl (c_X9_seenBy l dC dI cI cC cZ sa ad mb mo mn mg mf mt mz ml mi x1 hcr _) gX9_sees_X9_seenBy rfl (by decide +kernel) ⟨Nat.le_of_ble_eq_true rfl, Nat.le_of_ble_eq_true rfl⟩ 0 9 rfl rfl rfl hl.1 rfl (Nat.le_of_ble_eq_true rfl) dX9_sees_18 ⟨Nat.zero_le _, Nat.zero_le _⟩) (fun H locs hP hS => ?_)
    refine lv_goto (tgt := 25) hx hb dX9_sees_21 (by decide) ?_
    exact ret_i hx hb hr hlk dX9_sees_25 (some_u hM) hP hS
theorem inX9_told_X9 : ∀ w ∈ wsX90, w ∈ wsX9_told := fun w h => List.mem_cons_of_mem _ (List.mem_append_right _ h)
set_option maxHeartbeats 4000000 in
set_option maxRecDepth 100000 in
theorem c_X9_told (l : Launch) (dC : Nat → ClassId) (dI : Nat → Nat → Nat) (cI cC cZ : ClassId) (sa : Nat → Nat) (ad : Nat → Nat) (mb : BT) (mo : OT) (mn : NT) (mg : GT) (mf : AR) (mt : TT) (mz : AR) (ml : LT) (mi : IT) (x1 : Int32) {res : Int32} (hM : M_X9_told mb mo x1 = some res) : CTi l (dC, dI) [(cI, .int), (cC, .char), (cZ, .boolean)] sa yX9_told wsX9_told (rmd 2) [.ref (ad 0), .int x1] (wM cI cZ ad mb mo mn mg mf mt mz ml mi) (fun (_ : Unit) => (wM cI cZ ad mb mo mn mg mf mt mz ml mi)) (res, ()) := by
  refine CTi.enter (own := RX9) (cc := cX9_told) (maxL := 4) (ret := (some .int)) (by decide) rfl rfl (Nat.le_of_ble_eq_true rfl) ?_
  intro pr e s m below meth c A F hr hlk hP hS ls hl
  obtain ⟨⟨hx, hb, hml, hown, hts⟩, hK, hDD, hA, hKC⟩ := id F
  have hl : lv_has ls 4 [(0, .ref (ad 0)), (1, .int x1)] := hl
  have hP : va_P (dC, dI) vwCl (wM cI cZ ad mb mo mn mg mf mt mz ml mi) s.heap := hP
  unfold M_X9_told at hM
  refine lv_iload_n hx hb dX9_told_0 rfl (lv_at hl 1 rfl) ?_
  refine lv_i2l (v := x1.toInt64) hx hb dX9_told_1 rfl ?_
  refine lv_ldc2 (v := 10) hx hb hown (hts _ (List.mem_of_getElem? (i := 1) rfl)) dX9_told_2 ?_
  refine lv_ldc2 (v := 49) hx hb hown (hts _ (List.mem_of_getElem? (i := 2) rfl)) dX9_told_5 ?_
  obtain ⟨z8, hcr, hM⟩ := ob_s hM
  refine res_i0 F hP hS rfl [] rfl rfl (runS_of (n := 3) (As := [.long x1.toInt64, .long (10 : Int64), .long (49 : Int64)]) (rest := []) F hP hS rfl [] rfl rfl (c_X9_in l dC dI cI cC cZ sa x1.toInt64 (10 : Int64) (49 : Int64) hcr _) gX9_told_X9_in rfl (by decide +kernel) ⟨Nat.le_of_ble_eq_true rfl, Nat.le_of_ble_eq_true rfl⟩ rfl hl.1 rfl (Nat.le_of_ble_eq_true rfl) dX9_told_8 ⟨Nat.zero_le _, Nat.zero_le _⟩) (fun H locs hP hS => ?_)
  refine lv_if_eq (tgt := 78) hx hb dX9_told_11 (by decide) (fun hc => ?_) (fun hc => ?_)
  · have hM := if_pp hc hM
    refine lv_iload_n hx hb dX9_told_78 rfl (lv_at hl 1 rfl) ?_
    by_cases hc0 : x1 = (0 : Int32)
    · have hM := if_pp hc0 hM
      refine lv_tableIn (off := 41) (tgt := 120) hx hb dX9_told_79 (by rw [hc0]; decide) (by rw [hc0]; decide) (by rw [hc0]; rfl) (by decide) ?_
      refine lv_aload_n hx hb dX9_told_120 rfl (lv_at hl 0 rfl) ?_
      refine g_get (ci := 9) (C := RX9) (T := TX9) (N := 32) (v := .int mo.1) F hP 0 rfl rfl inX9_told_X9 11 (by decide) (List.mem_of_getElem? (i := 7) rfl) rfl dX9_told_121 ?_
      exact ret_i hx hb hr hlk dX9_told_124 (some_u hM) hP hS
    · have hM := if_nn hc0 hM
      by_cases hc1 : x1 = (1 : Int32)
      · have hM := if_pp hc1 hM
        refine lv_tableIn (off := 46) (tgt := 125) hx hb dX9_told_79 (by rw [hc1]; decide) (by rw [hc1]; decide) (by rw [hc1]; rfl) (by decide) ?_
        refine lv_aload_n hx hb dX9_told_125 rfl (lv_at hl 0 rfl) ?_
        refine g_get (ci := 9) (C := RX9) (T := TX9) (N := 32) (v := .int mb.1) F hP 0 rfl rfl inX9_told_X9 0 (by decide) (List.mem_of_getElem? (i := 8) rfl) rfl dX9_told_126 ?_
        exact ret_i hx hb hr hlk dX9_told_129 (some_u hM) hP hS
      · have hM := if_nn hc1 hM
        by_cases hc2 : x1 = (2 : Int32)
        · have hM := if_pp hc2 hM
          refine lv_tableIn (off := 51) (tgt := 130) hx hb dX9_told_79 (by rw [hc2]; decide) (by rw [hc2]; decide) (by rw [hc2]; rfl) (by decide) ?_
          refine lv_aload_n hx hb dX9_told_130 rfl (lv_at hl 0 rfl) ?_
          refine g_get (ci := 9) (C := RX9) (T := TX9) (N := 32) (v := .int mb.2.1) F hP 0 rfl rfl inX9_told_X9 1 (by decide) (List.mem_of_getElem? (i := 9) rfl) rfl dX9_told_131 ?_
          exact ret_i hx hb hr hlk dX9_told_134 (some_u hM) hP hS
        · have hM := if_nn hc2 hM
          by_cases hc3 : x1 = (3 : Int32)
          · have hM := if_pp hc3 hM
            refine lv_tableIn (off := 56) (tgt := 135) hx hb dX9_told_79 (by rw [hc3]; decide) (by rw [hc3]; decide) (by rw [hc3]; rfl) (by decide) ?_
            refine lv_aload_n hx hb dX9_told_135 rfl (lv_at hl 0 rfl) ?_
            refine g_get (ci := 9) (C := RX9) (T := TX9) (N := 32) (v := .int mb.2.2.1) F hP 0 rfl rfl inX9_told_X9 3 (by decide) (List.mem_of_getElem? (i := 10) rfl) rfl dX9_told_136 ?_
            exact ret_i hx hb hr hlk dX9_told_139 (some_u hM) hP hS
          · have hM := if_nn hc3 hM
            by_cases hc4 : x1 = (4 : Int32)
            · have hM := if_pp hc4 hM
              refine lv_tableIn (off := 61) (tgt := 140) hx hb dX9_told_79 (by rw [hc4]; decide) (by rw [hc4]; decide) (by rw [hc4]; rfl) (by decide) ?_
              refine lv_aload_n hx hb dX9_told_140 rfl (lv_at hl 0 rfl) ?_
              refine g_get (ci := 9) (C := RX9) (T := TX9) (N := 32) (v := .int mb.2.2.2.1) F hP 0 rfl rfl inX9_told_X9 4 (by decide) (List.mem_of_getElem? (i := 11) rfl) rfl dX9_told_141 ?_
              exact ret_i hx hb hr hlk dX9_told_144 (some_u hM) hP hS
            · have hM := if_nn hc4 hM
              by_cases hc5 : x1 = (5 : Int32)
              · have hM := if_pp hc5 hM
                refine lv_tableIn (off := 66) (tgt := 145) hx hb dX9_told_79 (by rw [hc5]; decide) (by rw [hc5]; decide) (by rw [hc5]; rfl) (by decide) ?_
                refine lv_aload_n hx hb dX9_told_145 rfl (lv_at hl 0 rfl) ?_
                refine g_get (ci := 9) (C := RX9) (T := TX9) (N := 32) (v := .int mb.2.2.2.2.1) F hP 0 rfl rfl inX9_told_X9 8 (by decide) (List.mem_of_getElem? (i := 3) rfl) rfl dX9_told_146 ?_
                exact ret_i hx hb hr hlk dX9_told_149 (some_u hM) hP hS
              · have hM := if_nn hc5 hM
                by_cases hc6 : x1 = (6 : Int32)
                · have hM := if_pp hc6 hM
                  refine lv_tableIn (off := 71) (tgt := 150) hx hb dX9_told_79 (by rw [hc6]; decide) (by rw [hc6]; decide) (by rw [hc6]; rfl) (by decide) ?_
                  refine lv_aload_n hx hb dX9_told_150 rfl (lv_at hl 0 rfl) ?_
                  refine g_get (ci := 9) (C := RX9) (T := TX9) (N := 32) (v := .int mb.2.2.2.2.2.1) F hP 0 rfl rfl inX9_told_X9 9 (by decide) (List.mem_of_getElem? (i := 12) rfl) rfl dX9_told_151 ?_
                  exact ret_i hx hb hr hlk dX9_told_154 (some_u hM) hP hS
                · have hM := if_nn hc6 hM
                  have hn0 := lv_neT hc0 (a := 0) (by decide)
                  have hn1 := lv_neT hc1 (a := 1) (by decide)
                  have hn2 := lv_neT hc2 (a := 2) (by decide)
                  have hn3 := lv_neT hc3 (a := 3) (by decide)
                  have hn4 := lv_neT hc4 (a := 4) (by decide)
                  have hn5 := lv_neT hc5 (a := 5) (by decide)
                  have hn6 := lv_neT hc6 (a := 6) (by decide)
                  refine lv_tableOut (tgt := 155) hx hb dX9_told_79 (by omega) (by decide) ?_
                  refine lv_bipush (v := -2) hx hb dX9_told_155 (by decide) ?_
                  exact ret_i hx hb hr hlk dX9_told_157 (some_u hM) hP hS
  · have hM := if_nn hc hM
    refine lv_iload_n hx hb dX9_told_14 rfl (lv_at hl 1 rfl) ?_
    refine lv_bipush (v := 10) hx hb dX9_told_15 (by decide) ?_
    obtain ⟨hne, hM⟩ := if_ok hM
    refine lv_idiv hx hb dX9_told_17 hne ?_
    refine lv_iconst (v := 1) hx hb dX9_told_18 (by decide) ?_
    refine lv_isub hx hb dX9_told_19 ?_
    refine lv_istore_n (lv' := [(2, .int ((x1 / (10 : Int32)) - (1 : Int32))), (0, .ref (ad 0)), (1, .int x1)]) hx hb dX9_told_20 rfl hl (by decide) rfl (fun ls hl => ?_)
    refine lv_iload_n hx hb dX9_told_21 rfl (lv_at hl 2 rfl) ?_
    refine lv_bipush (v := 10) hx hb dX9_told_22 (by decide) ?_
    obtain ⟨hne, hM⟩ := if_ok hM
    refine lv_irem hx hb dX9_told_24 hne ?_
    refine lv_istore_n (lv' := [(3, .int (x1 - x1 / (10 : Int32) * (10 : Int32))), (2, .int ((x1 / (10 : Int32)) - (1 : Int32))), (0, .ref (ad 0)), (1, .int x1)]) hx hb dX9_told_25 rfl hl (by decide) rfl (fun ls hl => ?_)
    refine lv_iload_n hx hb dX9_told_26 rfl (lv_at hl 1 rfl) ?_
    refine lv_aload_n hx hb dX9_told_27 rfl (lv_at hl 2 rfl) ?_
    refine g_get (ci := 9) (C := RX9) (T := TX9) (N := 32) (v := .int mb.2.2.2.2.1) F hP 0 rfl rfl inX9_told_X9 8 (by decide) (List.mem_of_getElem? (i := 3) rfl) rfl dX9_told_28 ?_
    refine lv_icmp_ge (tgt := 39) hx hb dX9_told_31 (by decide) (fun hc => ?_) (fun hc => ?_)
    · have hM := if_pp hc hM
      refine lv_bipush (v := -2) hx hb dX9_told_39 (by decide) ?_
      refine lv_goto (tgt := 77) hx hb dX9_told_41 (by decide) ?_
      exact ret_i hx hb hr hlk dX9_told_77 (some_u hM) hP hS
    · have hM := if_nn hc hM
      refine lv_iload_n hx hb dX9_told_34 rfl (lv_at hl 0 rfl) ?_
      refine lv_iconst (v := 2) hx hb dX9_told_35 (by decide) ?_
      refine lv_icmp_le (tgt := 44) hx hb dX9_told_36 (by decide) (fun hc => ?_) (fun hc => ?_)
      · have hM := if_pp hc hM
        refine lv_iload_n hx hb dX9_told_44 rfl (lv_at hl 0 rfl) ?_
        refine lv_if_ne (tgt := 57) hx hb dX9_told_45 (by decide) (fun hc => ?_) (fun hc => ?_)
        · have hM := if_nn hc hM
          refine lv_iload_n hx hb dX9_told_57 rfl (lv_at hl 0 rfl) ?_
          refine lv_iconst (v := 1) hx hb dX9_told_58 (by decide) ?_
          refine lv_icmp_ne (tgt := 71) hx hb dX9_told_59 (by decide) (fun hc => ?_) (fun hc => ?_)
          · have hM := if_nn hc hM
            refine lv_aload_n hx hb dX9_told_71 rfl (lv_at hl 2 rfl) ?_
            refine g_get (ci := 9) (C := RX9) (T := TX9) (N := 32) (v := .ref (ad 4)) F hP 0 rfl rfl inX9_told_X9 7 (by decide) (List.mem_of_getElem? (i := 6) rfl) rfl dX9_told_72 ?_
            refine lv_iload_n hx hb dX9_told_75 rfl (lv_at hl 1 rfl) ?_
            obtain ⟨hin, hM⟩ := if_ok hM
            refine va_iald hx hb hK hP 4 0 rfl rfl hin dX9_told_76 ?_
            exact ret_i hx hb hr hlk dX9_told_77 (some_u hM) hP hS
          · have hM := if_pp hc hM
            refine lv_aload_n hx hb dX9_told_62 rfl (lv_at hl 2 rfl) ?_
            refine g_get (ci := 9) (C := RX9) (T := TX9) (N := 32) (v := .ref (ad 3)) F hP 0 rfl rfl inX9_told_X9 6 (by decide) (List.mem_of_getElem? (i := 5) rfl) rfl dX9_told_63 ?_
            refine lv_iload_n hx hb dX9_told_66 rfl (lv_at hl 1 rfl) ?_
            obtain ⟨hin, hM⟩ := if_ok hM
            refine va_iald hx hb hK hP 3 0 rfl rfl hin dX9_told_67 ?_
            refine lv_goto (tgt := 77) hx hb dX9_told_68 (by decide) ?_
            exact ret_i hx hb hr hlk dX9_told_77 (some_u hM) hP hS
        · have hM := if_pp hc hM
          refine lv_aload_n hx hb dX9_told_48 rfl (lv_at hl 2 rfl) ?_
          refine g_get (ci := 9) (C := RX9) (T := TX9) (N := 32) (v := .ref (ad 2)) F hP 0 rfl rfl inX9_told_X9 5 (by decide) (List.mem_of_getElem? (i := 4) rfl) rfl dX9_told_49 ?_
          refine lv_iload_n hx hb dX9_told_52 rfl (lv_at hl 1 rfl) ?_
          obtain ⟨hin, hM⟩ := if_ok hM
          refine va_iald hx hb hK hP 2 0 rfl rfl hin dX9_told_53 ?_
          refine lv_goto (tgt := 77) hx hb dX9_told_54 (by decide) ?_
          exact ret_i hx hb hr hlk dX9_told_77 (some_u hM) hP hS
      · have hM := if_nn hc hM
        refine lv_bipush (v := -2) hx hb dX9_told_39 (by decide) ?_
        refine lv_goto (tgt := 77) hx hb dX9_told_41 (by decide) ?_
        exact ret_i hx hb hr hlk dX9_told_77 (some_u hM) hP hS
