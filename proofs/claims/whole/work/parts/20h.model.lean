/-! Walks, printed by wip/whole/gen.py -/
theorem inX9_why_X9 : ∀ w ∈ wsX90, w ∈ wsX9_why := fun w h => List.mem_cons_of_mem _ (List.mem_append_right _ h)
set_option maxHeartbeats 4000000 in
set_option maxRecDepth 100000 in
theorem c_X9_why (l : Launch) (dC : Nat → ClassId) (dI : Nat → Nat → Nat) (cI cC cZ : ClassId) (sa : Nat → Nat) (ad : Nat → Nat) (mb : BT) (mo : OT) (mn : NT) (mg : GT) (mf : AR) (mt : TT) (mz : AR) (ml : LT) (mi : IT) (x1 : Int32) (x2 : Int32) {res : Int32} (hM : M_X9_why mb mn x1 x2 = some res) : CTi l (dC, dI) [(cI, .int), (cC, .char), (cZ, .boolean)] sa yX9_why wsX9_why (rmd 5) [.ref (ad 0), .int x1, .int x2] (wM cI cZ ad mb mo mn mg mf mt mz ml mi) (fun (_ : Unit) => (wM cI cZ ad mb mo mn mg mf mt mz ml mi)) (res, ()) := by
  refine CTi.enter (own := RX9) (cc := cX9_why) (maxL := 4) (ret := (some .int)) (by decide) rfl rfl (Nat.le_of_ble_eq_true rfl) ?_
  intro pr e s m below meth c A F hr hlk hP hS ls hl
  obtain ⟨⟨hx, hb, hml, hown, hts⟩, hK, hDD, hA, hKC⟩ := id F
  have hl : lv_has ls 4 [(0, .ref (ad 0)), (1, .int x1), (2, .int x2)] := hl
  have hP : va_P (dC, dI) vwCl (wM cI cZ ad mb mo mn mg mf mt mz ml mi) s.heap := hP
  unfold M_X9_why at hM
  refine kblk (α := Unit) (res := res) (fun a => M_X9_why_97 mb mn x1 x2 a) F (fun a => (wM cI cZ ad mb mo mn mg mf mt mz ml mi)) (fun a => [(0, .ref (ad 0)), (1, .int x1)]) (fun a => []) 97 ?_ (fun j97 => ?_)
  · intro a97 H locs ls hP hS hl hM
    unfold M_X9_why_97 at hM
    refine lv_aload_n hx hb dX9_why_97 rfl (lv_at hl 0 rfl) ?_
    refine lv_iload_n hx hb dX9_why_98 rfl (lv_at hl 1 rfl) ?_
    obtain ⟨z99, hcr, hM⟩ := ob_s hM
    refine res_i0 F hP hS rfl [0, 1, 2, 3, 4, 5, 6, 7, 8, 9, 10, 11, 12] rfl rfl (runV_of (n := 1) (As := [.int x1]) (rest := []) F hP hS rfl [0, 1, 2, 3, 4, 5, 6, 7, 8, 9, 10, 11, 12] rfl rfl (c_X9_seenBy l dC dI cI cC cZ sa ad mb mo mn mg mf mt mz ml mi x1 hcr _) gX9_why_X9_seenBy rfl (by decide +kernel) ⟨Nat.le_of_ble_eq_true rfl, Nat.le_of_ble_eq_true rfl⟩ 0 9 rfl rfl rfl hl.1 rfl (Nat.le_of_ble_eq_true rfl) dX9_why_99 ⟨Nat.zero_le _, Nat.zero_le _⟩) (fun H locs hP hS => ?_)
    refine lv_aload_n hx hb dX9_why_102 rfl (lv_at hl 0 rfl) ?_
    refine g_get (ci := 9) (C := RX9) (T := TX9) (N := 32) (v := .int mn.2.2.1) F hP 0 rfl rfl inX9_why_X9 14 (by decide) (List.mem_of_getElem? (i := 6) rfl) rfl dX9_why_103 ?_
    refine lv_iand hx hb dX9_why_106 ?_
    refine lv_if_eq (tgt := 112) hx hb dX9_why_107 (by decide) (fun hc => ?_) (fun hc => ?_)
    · have hM := if_pp hc hM
      refine lv_aload_n hx hb dX9_why_112 rfl (lv_at hl 0 rfl) ?_
      refine g_get (ci := 9) (C := RX9) (T := TX9) (N := 32) (v := .ref (ad 4)) F hP 0 rfl rfl inX9_why_X9 7 (by decide) (List.mem_of_getElem? (i := 7) rfl) rfl dX9_why_113 ?_
      refine lv_iload_n hx hb dX9_why_116 rfl (lv_at hl 1 rfl) ?_
      obtain ⟨hin, hM⟩ := if_ok hM
      refine va_iald hx hb hK hP 4 0 rfl rfl hin dX9_why_117 ?_
      refine lv_iconst (v := 1) hx hb dX9_why_118 (by decide) ?_
      refine lv_icmp_ne (tgt := 144) hx hb dX9_why_119 (by decide) (fun hc => ?_) (fun hc => ?_)
      · have hM := if_nn hc hM
        refine lv_bipush (v := -6) hx hb dX9_why_144 (by decide) ?_
        exact ret_i hx hb hr hlk dX9_why_146 (some_u hM) hP hS
      · have hM := if_pp hc hM
        refine lv_aload_n hx hb dX9_why_122 rfl (lv_at hl 0 rfl) ?_
        refine lv_aload_n hx hb dX9_why_123 rfl (lv_at hl 0 rfl) ?_
        refine g_get (ci := 9) (C := RX9) (T := TX9) (N := 32) (v := .int mn.1) F hP 0 rfl rfl inX9_why_X9 12 (by decide) (List.mem_of_getElem? (i := 1) rfl) rfl dX9_why_124 ?_
        refine lv_aload_n hx hb dX9_why_127 rfl (lv_at hl 0 rfl) ?_
        refine g_get (ci := 9) (C := RX9) (T := TX9) (N := 32) (v := .ref (ad 2)) F hP 0 rfl rfl inX9_why_X9 5 (by decide) (List.mem_of_getElem? (i := 4) rfl) rfl dX9_why_128 ?_
        refine lv_iload_n hx hb dX9_why_131 rfl (lv_at hl 1 rfl) ?_
        obtain ⟨hin, hM⟩ := if_ok hM
        refine va_iald hx hb hK hP 2 0 rfl rfl hin dX9_why_132 ?_
        obtain ⟨z133, hcr, hM⟩ := ob_s hM
        refine res_i0 F hP hS rfl [0, 1, 2, 3, 4, 5, 6, 7, 8, 9, 10, 11, 12] rfl rfl (runV_of (n := 2) (As := [.int mn.1, .int (mb.2.2.2.2.2.2.2.1 x1.toNatClampNeg)]) (rest := []) F hP hS rfl [0, 1, 2, 3, 4, 5, 6, 7, 8, 9, 10, 11, 12] rfl rfl (c_X9_apart l dC dI cI cC cZ sa ad mb mo mn mg mf mt mz ml mi mn.1 (mb.2.2.2.2.2.2.2.1 x1.toNatClampNeg) hcr _) gX9_why_X9_apart rfl (by decide +kernel) ⟨Nat.le_of_ble_eq_true rfl, Nat.le_of_ble_eq_true rfl⟩ 0 9 rfl rfl rfl hl.1 rfl (Nat.le_of_ble_eq_true rfl) dX9_why_133 ⟨Nat.zero_le _, Nat.zero_le _⟩) (fun H locs hP hS => ?_)
        refine lv_iconst (v := 1) hx hb dX9_why_136 (by decide) ?_
        refine lv_icmp_gt (tgt := 144) hx hb dX9_why_137 (by decide) (fun hc => ?_) (fun hc => ?_)
        · have hM := if_pp hc hM
          refine lv_bipush (v := -6) hx hb dX9_why_144 (by decide) ?_
          exact ret_i hx hb hr hlk dX9_why_146 (some_u hM) hP hS
        · have hM := if_nn hc hM
          refine lv_iconst (v := 4) hx hb dX9_why_140 (by decide) ?_
          refine lv_goto (tgt := 146) hx hb dX9_why_141 (by decide) ?_
          exact ret_i hx hb hr hlk dX9_why_146 (some_u hM) hP hS
    · have hM := if_nn hc hM
      refine lv_iconst (v := 3) hx hb dX9_why_110 (by decide) ?_
      exact ret_i hx hb hr hlk dX9_why_111 (some_u hM) hP hS
  refine kblk (α := Unit) (res := res) (fun a => M_X9_why_53 mb mn x1 x2 a) F (fun a => (wM cI cZ ad mb mo mn mg mf mt mz ml mi)) (fun a => [(0, .ref (ad 0)), (1, .int x1)]) (fun a => []) 53 ?_ (fun j53 => ?_)
  · intro a53 H locs ls hP hS hl hM
    unfold M_X9_why_53 at hM
    refine lv_aload_n hx hb dX9_why_53 rfl (lv_at hl 0 rfl) ?_
    refine g_get (ci := 9) (C := RX9) (T := TX9) (N := 32) (v := .int mn.2.1) F hP 0 rfl rfl inX9_why_X9 13 (by decide) (List.mem_of_getElem? (i := 2) rfl) rfl dX9_why_54 ?_
    refine lv_if_eq (tgt := 97) hx hb dX9_why_57 (by decide) (fun hc => ?_) (fun hc => ?_)
    · have hM := if_pp hc hM
      exact j97 () _ _ _ hP hS (lv_sub hl [0, 1] rfl) hM
    · have hM := if_nn hc hM
      refine lv_aload_n hx hb dX9_why_60 rfl (lv_at hl 0 rfl) ?_
      refine g_get (ci := 9) (C := RX9) (T := TX9) (N := 32) (v := .ref (ad 1)) F hP 0 rfl rfl inX9_why_X9 2 (by decide) (List.mem_of_getElem? (i := 3) rfl) rfl dX9_why_61 ?_
      refine lv_aload_n hx hb dX9_why_64 rfl (lv_at hl 0 rfl) ?_
      refine g_get (ci := 9) (C := RX9) (T := TX9) (N := 32) (v := .int mn.1) F hP 0 rfl rfl inX9_why_X9 12 (by decide) (List.mem_of_getElem? (i := 1) rfl) rfl dX9_why_65 ?_
      obtain ⟨hin, hM⟩ := if_ok hM
      refine va_iald hx hb hK hP 1 0 rfl rfl hin dX9_why_68 ?_
      refine lv_bipush (v := 99) hx hb dX9_why_69 (by decide) ?_
      refine lv_icmp_ne (tgt := 97) hx hb dX9_why_71 (by decide) (fun hc => ?_) (fun hc => ?_)
      · have hM := if_nn hc hM
        exact j97 () _ _ _ hP hS (lv_sub hl [0, 1] rfl) hM
      · have hM := if_pp hc hM
        refine lv_aload_n hx hb dX9_why_74 rfl (lv_at hl 0 rfl) ?_
        refine lv_aload_n hx hb dX9_why_75 rfl (lv_at hl 0 rfl) ?_
        refine g_get (ci := 9) (C := RX9) (T := TX9) (N := 32) (v := .int mn.1) F hP 0 rfl rfl inX9_why_X9 12 (by decide) (List.mem_of_getElem? (i := 1) rfl) rfl dX9_why_76 ?_
        refine lv_aload_n hx hb dX9_why_79 rfl (lv_at hl 0 rfl) ?_
        refine g_get (ci := 9) (C := RX9) (T := TX9) (N := 32) (v := .ref (ad 2)) F hP 0 rfl rfl inX9_why_X9 5 (by decide) (List.mem_of_getElem? (i := 4) rfl) rfl dX9_why_80 ?_
        refine lv_iload_n hx hb dX9_why_83 rfl (lv_at hl 1 rfl) ?_
        obtain ⟨hin, hM⟩ := if_ok hM
        refine va_iald hx hb hK hP 2 0 rfl rfl hin dX9_why_84 ?_
        obtain ⟨z85, hcr, hM⟩ := ob_s hM
        refine res_i0 F hP hS rfl [0, 1, 2, 3, 4, 5, 6, 7, 8, 9, 10, 11, 12] rfl rfl (runV_of (n := 2) (As := [.int mn.1, .int (mb.2.2.2.2.2.2.2.1 x1.toNatClampNeg)]) (rest := []) F hP hS rfl [0, 1, 2, 3, 4, 5, 6, 7, 8, 9, 10, 11, 12] rfl rfl (c_X9_apart l dC dI cI cC cZ sa ad mb mo mn mg mf mt mz ml mi mn.1 (mb.2.2.2.2.2.2.2.1 x1.toNatClampNeg) hcr _) gX9_why_X9_apart rfl (by decide +kernel) ⟨Nat.le_of_ble_eq_true rfl, Nat.le_of_ble_eq_true rfl⟩ 0 9 rfl rfl rfl hl.1 rfl (Nat.le_of_ble_eq_true rfl) dX9_why_85 ⟨Nat.zero_le _, Nat.zero_le _⟩) (fun H locs hP hS => ?_)
        refine lv_aload_n hx hb dX9_why_88 rfl (lv_at hl 0 rfl) ?_
        refine g_get (ci := 9) (C := RX9) (T := TX9) (N := 32) (v := .int mb.2.2.2.2.2.1) F hP 0 rfl rfl inX9_why_X9 9 (by decide) (List.mem_of_getElem? (i := 5) rfl) rfl dX9_why_89 ?_
        refine lv_icmp_gt (tgt := 97) hx hb dX9_why_92 (by decide) (fun hc => ?_) (fun hc => ?_)
        · have hM := if_pp hc hM
          exact j97 () _ _ _ hP hS (lv_sub hl [0, 1] rfl) hM
        · have hM := if_nn hc hM
          refine lv_iconst (v := 2) hx hb dX9_why_95 (by decide) ?_
          exact ret_i hx hb hr hlk dX9_why_96 (some_u hM) hP hS
  refine kblk (α := Int32) (res := res) (fun a => M_X9_why_21 mb mn x1 x2 a) F (fun a => (wM cI cZ ad mb mo mn mg mf mt mz ml mi)) (fun a => [(0, .ref (ad 0)), (1, .int x1), (2, .int x2)]) (fun a => [.int a]) 21 ?_ (fun j21 => ?_)
  · intro a21 H locs ls hP hS hl hM
    unfold M_X9_why_21 at hM
    refine lv_istore_n (lv' := [(3, .int a21), (0, .ref (ad 0)), (1, .int x1), (2, .int x2)]) hx hb dX9_why_21 rfl hl (by decide) rfl (fun ls hl => ?_)
    refine lv_iload_n hx hb dX9_why_22 rfl (lv_at hl 3 rfl) ?_
    refine lv_if_eq (tgt := 53) hx hb dX9_why_23 (by decide) (fun hc => ?_) (fun hc => ?_)
    · have hM := if_pp hc hM
      exact j53 () _ _ _ hP hS (lv_sub hl [1, 2] rfl) hM
    · have hM := if_nn hc hM
      refine lv_aload_n hx hb dX9_why_26 rfl (lv_at hl 1 rfl) ?_
      refine g_get (ci := 9) (C := RX9) (T := TX9) (N := 32) (v := .int mn.2.1) F hP 0 rfl rfl inX9_why_X9 13 (by decide) (List.mem_of_getElem? (i := 2) rfl) rfl dX9_why_27 ?_
      refine lv_if_eq (tgt := 53) hx hb dX9_why_30 (by decide) (fun hc => ?_) (fun hc => ?_)
      · have hM := if_pp hc hM
        exact j53 () _ _ _ hP hS (lv_sub hl [1, 2] rfl) hM
      · have hM := if_nn hc hM
        refine lv_aload_n hx hb dX9_why_33 rfl (lv_at hl 1 rfl) ?_
        refine g_get (ci := 9) (C := RX9) (T := TX9) (N := 32) (v := .ref (ad 1)) F hP 0 rfl rfl inX9_why_X9 2 (by decide) (List.mem_of_getElem? (i := 3) rfl) rfl dX9_why_34 ?_
        refine lv_aload_n hx hb dX9_why_37 rfl (lv_at hl 1 rfl) ?_
        refine g_get (ci := 9) (C := RX9) (T := TX9) (N := 32) (v := .int mn.1) F hP 0 rfl rfl inX9_why_X9 12 (by decide) (List.mem_of_getElem? (i := 1) rfl) rfl dX9_why_38 ?_
        obtain ⟨hin, hM⟩ := if_ok hM
        refine va_iald hx hb hK hP 1 0 rfl rfl hin dX9_why_41 ?_
        refine lv_bipush (v := 103) hx hb dX9_why_42 (by decide) ?_
        refine lv_icmp_ne (tgt := 53) hx hb dX9_why_44 (by decide) (fun hc => ?_) (fun hc => ?_)
        · have hM := if_nn hc hM
          exact j53 () _ _ _ hP hS (lv_sub hl [1, 2] rfl) hM
        · have hM := if_pp hc hM
          refine lv_iload_n hx hb dX9_why_47 rfl (lv_at hl 0 rfl) ?_
          refine lv_if_eq (tgt := 53) hx hb dX9_why_48 (by decide) (fun hc => ?_) (fun hc => ?_)
          · have hM := if_pp hc hM
            exact j53 () _ _ _ hP hS (lv_sub hl [1, 2] rfl) hM
          · have hM := if_nn hc hM
            refine lv_iconst (v := 1) hx hb dX9_why_51 (by decide) ?_
            exact ret_i hx hb hr hlk dX9_why_52 (some_u hM) hP hS
  refine lv_aload_n hx hb dX9_why_0 rfl (lv_at hl 0 rfl) ?_
  refine lv_iload_n hx hb dX9_why_1 rfl (lv_at hl 1 rfl) ?_
  obtain ⟨z2, hcr, hM⟩ := ob_s hM
  refine res_i0 F hP hS rfl [0, 1, 2, 3, 4, 5, 6, 7, 8, 9, 10, 11, 12] rfl rfl (runV_of (n := 1) (As := [.int x1]) (rest := []) F hP hS rfl [0, 1, 2, 3, 4, 5, 6, 7, 8, 9, 10, 11, 12] rfl rfl (c_X9_seenBy l dC dI cI cC cZ sa ad mb mo mn mg mf mt mz ml mi x1 hcr _) gX9_why_X9_seenBy rfl (by decide +kernel) ⟨Nat.le_of_ble_eq_true rfl, Nat.le_of_ble_eq_true rfl⟩ 0 9 rfl rfl rfl hl.1 rfl (Nat.le_of_ble_eq_true rfl) dX9_why_2 ⟨Nat.zero_le _, Nat.zero_le _⟩) (fun H locs hP hS => ?_)
  refine lv_aload_n hx hb dX9_why_5 rfl (lv_at hl 0 rfl) ?_
  refine g_get (ci := 9) (C := RX9) (T := TX9) (N := 32) (v := .int mn.1) F hP 0 rfl rfl inX9_why_X9 12 (by decide) (List.mem_of_getElem? (i := 1) rfl) rfl dX9_why_6 ?_
  refine lv_ishr hx hb dX9_why_9 ?_
  refine lv_iconst (v := 1) hx hb dX9_why_10 (by decide) ?_
  refine lv_iand hx hb dX9_why_11 ?_
  refine lv_iconst (v := 1) hx hb dX9_why_12 (by decide) ?_
  refine lv_icmp_ne (tgt := 20) hx hb dX9_why_13 (by decide) (fun hc => ?_) (fun hc => ?_)
  · have hM := if_nn hc hM
    refine lv_iconst (v := 0) hx hb dX9_why_20 (by decide) ?_
    exact j21 (0 : Int32) _ _ _ hP hS (lv_sub hl [0, 1, 2] rfl) hM
  · have hM := if_pp hc hM
    refine lv_iconst (v := 1) hx hb dX9_why_16 (by decide) ?_
    refine lv_goto (tgt := 21) hx hb dX9_why_17 (by decide) ?_
    exact j21 (1 : Int32) _ _ _ hP hS (lv_sub hl [0, 1, 2] rfl) hM
theorem inX9_shownTo_X9 : ∀ w ∈ wsX90, w ∈ wsX9_shownTo := fun w h => List.mem_cons_of_mem _ (List.mem_append_right _ h)
set_option maxHeartbeats 4000000 in
set_option maxRecDepth 100000 in
theorem c_X9_shownTo (l : Launch) (dC : Nat → ClassId) (dI : Nat → Nat → Nat) (cI cC cZ : ClassId) (sa : Nat → Nat) (ad : Nat → Nat) (mb : BT) (mo : OT) (mn : NT) (mg : GT) (mf : AR) (mt : TT) (mz : AR) (ml : LT) (mi : IT) (x1 : Int32) {res : Int32} (hM : M_X9_shownTo mb mn x1 = some res) : CTi l (dC, dI) [(cI, .int), (cC, .char), (cZ, .boolean)] sa yX9_shownTo wsX9_shownTo (rmd 6) [.ref (ad 0), .int x1] (wM cI cZ ad mb mo mn mg mf mt mz ml mi) (fun (_ : Unit) => (wM cI cZ ad mb mo mn mg mf mt mz ml mi)) (res, ()) := by
  refine CTi.enter (own := RX9) (cc := cX9_shownTo) (maxL := 3) (ret := (some .int)) (by decide) rfl rfl (Nat.le_of_ble_eq_true rfl) ?_
  intro pr e s m below meth c A F hr hlk hP hS ls hl
  obtain ⟨⟨hx, hb, hml, hown, hts⟩, hK, hDD, hA, hKC⟩ := id F
  have hl : lv_has ls 3 [(0, .ref (ad 0)), (1, .int x1)] := hl
  have hP : va_P (dC, dI) vwCl (wM cI cZ ad mb mo mn mg mf mt mz ml mi) s.heap := hP
  unfold M_X9_shownTo at hM
  refine kloop (α := Int32) (res := res) (fun k a => M_X9_shownTo_2 mb mn x1 k a) (fun rec a => M_X9_shownTo_2b mb mn x1 rec a) (fun _ => rfl) (fun _ _ => rfl) F (fun a => (wM cI cZ ad mb mo mn mg mf mt mz ml mi)) (fun a => [(0, .ref (ad 0)), (1, .int x1), (2, .int a)]) (fun a => []) 2 ?_ (fun j2 => ?_)
  · intro rc2 ih2 a2 H locs ls hP hS hl hM
    unfold M_X9_shownTo_2b at hM
    refine lv_iload_n hx hb dX9_shownTo_2 rfl (lv_at hl 2 rfl) ?_
    refine lv_aload_n hx hb dX9_shownTo_3 rfl (lv_at hl 0 rfl) ?_
    refine g_get (ci := 9) (C := RX9) (T := TX9) (N := 32) (v := .int mb.2.2.2.2.1) F hP 0 rfl rfl inX9_shownTo_X9 8 (by decide) (List.mem_of_getElem? (i := 1) rfl) rfl dX9_shownTo_4 ?_
    refine lv_icmp_ge (tgt := 27) hx hb dX9_shownTo_7 (by decide) (fun hc => ?_) (fun hc => ?_)
    · have hM := if_pp hc hM
      refine lv_bipush (v := -6) hx hb dX9_shownTo_27 (by decide) ?_
      exact ret_i hx hb hr hlk dX9_shownTo_29 (some_u hM) hP hS
    · have hM := if_nn hc hM
      refine lv_aload_n hx hb dX9_shownTo_10 rfl (lv_at hl 0 rfl) ?_
      refine lv_iload_n hx hb dX9_shownTo_11 rfl (lv_at hl 2 rfl) ?_
      refine lv_iload_n hx hb dX9_shownTo_12 rfl (lv_at hl 1 rfl) ?_
      obtain ⟨z13, hcr, hM⟩ := ob_s hM
      refine res_i0 F hP hS rfl [0, 1, 2, 3, 4, 5, 6, 7, 8, 9, 10, 11, 12] rfl rfl (runV_of (n := 2) (As := [.int a2, .int x1]) (rest := []) F hP hS rfl [0, 1, 2, 3, 4, 5, 6, 7, 8, 9, 10, 11, 12] rfl rfl (c_X9_why l dC dI cI cC cZ sa ad mb mo mn mg mf mt mz ml mi a2 x1 hcr _) gX9_shownTo_X9_why rfl (by decide +kernel) ⟨Nat.le_of_ble_eq_true rfl, Nat.le_of_ble_eq_true rfl⟩ 0 9 rfl rfl rfl hl.1 rfl (Nat.le_of_ble_eq_true rfl) dX9_shownTo_13 ⟨Nat.zero_le _, Nat.zero_le _⟩) (fun H locs hP hS => ?_)
      refine lv_if_le (tgt := 21) hx hb dX9_shownTo_16 (by decide) (fun hc => ?_) (fun hc => ?_)
      · have hM := if_pp hc hM
        refine lv_iinc (v := (a2 + (1 : Int32))) (lv' := [(2, .int (a2 + (1 : Int32))), (0, .ref (ad 0)), (1, .int x1)]) hx hb dX9_shownTo_21 hl (k := 2) rfl rfl (by decide) rfl (fun ls hl => ?_)
        refine lv_goto (tgt := 2) hx hb dX9_shownTo_24 (by decide) ?_
        exact ih2 (a2 + (1 : Int32)) _ _ _ hP hS (lv_sub hl [1, 2, 0] rfl) hM
      · have hM := if_nn hc hM
        refine lv_iload_n hx hb dX9_shownTo_19 rfl (lv_at hl 2 rfl) ?_
        exact ret_i hx hb hr hlk dX9_shownTo_20 (some_u hM) hP hS
  refine lv_iconst (v := 0) hx hb dX9_shownTo_0 (by decide) ?_
  refine lv_istore_n (lv' := [(2, .int (0 : Int32)), (0, .ref (ad 0)), (1, .int x1)]) hx hb dX9_shownTo_1 rfl hl (by decide) rfl (fun ls hl => ?_)
  exact j2 200 (0 : Int32) _ _ _ hP hS (lv_sub hl [1, 2, 0] rfl) hM
theorem inX9_goWalk_X9 : ∀ w ∈ wsX90, w ∈ wsX9_goWalk := fun w h => List.mem_cons_of_mem _ (List.mem_append_right _ h)
set_option maxHeartbeats 4000000 in
set_option maxRecDepth 100000 in
theorem c_X9_goWalk (l : Launch) (dC : Nat → ClassId) (dI : Nat → Nat → Nat) (cI cC cZ : ClassId) (sa : Nat → Nat) (ad : Nat → Nat) (mb : BT) (mo : OT) (mn : NT) (mg : GT) (mf : AR) (mt : TT) (mz : AR) (ml : LT) (mi : IT)  {res : NT × GT} (hM : M_X9_goWalk mb mo mn mg = some res) : CTv l (dC, dI) [(cI, .int), (cC, .char), (cZ, .boolean)] sa yX9_goWalk wsX9_goWalk (rmd 7) [.ref (ad 0)] (wM cI cZ ad mb mo mn mg mf mt mz ml mi) (fun (uu : NT × GT) => (wM cI cZ ad mb mo uu.1 uu.2 mf mt mz ml mi)) res := by
  refine CTv.enter (own := RX9) (cc := cX9_goWalk) (maxL := 3) (ret := none) (by decide) rfl rfl (Nat.le_of_ble_eq_true rfl) ?_
  intro pr e s m below meth c A F hr hlk hP hS ls hl
  obtain ⟨⟨hx, hb, hml, hown, hts⟩, hK, hDD, hA, hKC⟩ := id F
  have hl : lv_has ls 3 [(0, .ref (ad 0))] := hl
  have hP : va_P (dC, dI) vwCl (wM cI cZ ad mb mo mn mg mf mt mz ml mi) s.heap := hP
  unfold M_X9_goWalk at hM
  refine kloop (α := NT × GT × Int32) (res := res) (fun k a => M_X9_goWalk_40 mb mo k a) (fun rec a => M_X9_goWalk_40b mb mo rec a) (fun _ => rfl) (fun _ _ => rfl) F (fun a => (wM cI cZ ad mb mo a.1 a.2.1 mf mt mz ml mi)) (fun a => [(0, .ref (ad 0)), (1, .int a.2.2)]) (fun a => []) 40 ?_ (fun j40 => ?_)
  · intro rc40 ih40 a40 H locs ls hP hS hl hM
    unfold M_X9_goWalk_40b at hM
    refine kblk (α := NT × GT × Int32) (res := res) (fun a => M_X9_goWalk_160 mb mo rc40 a) F (fun a => (wM cI cZ ad mb mo a.1 a.2.1 mf mt mz ml mi)) (fun a => [(0, .ref (ad 0)), (1, .int a.2.2)]) (fun a => []) 160 ?_ (fun j160 => ?_)
    · intro a160 H locs ls hP hS hl hM
      unfold M_X9_goWalk_160 at hM
      refine lv_iinc (v := (a160.2.2 + (1 : Int32))) (lv' := [(1, .int (a160.2.2 + (1 : Int32))), (0, .ref (ad 0))]) hx hb dX9_goWalk_160 hl (k := 1) rfl rfl (by decide) rfl (fun ls hl => ?_)
      refine lv_goto (tgt := 40) hx hb dX9_goWalk_163 (by decide) ?_
      exact ih40 (a160.1, a160.2.1, (a160.2.2 + (1 : Int32))) _ _ _ hP hS (lv_sub hl [1, 0] rfl) hM
    refine kblk (α := NT × GT × Int32 × Int32 × Int32) (res := res) (fun a => M_X9_goWalk_156 mb mo rc40 a) F (fun a => (wM cI cZ ad mb mo a.1 a.2.1 mf mt mz ml mi)) (fun a => [(0, .ref (ad 0)), (1, .int a.2.2.1)]) (fun a => [.int a.2.2.2.1, .int a.2.2.2.2, .ref (ad 0)]) 156 ?_ (fun j156 => ?_)
    · intro a156 H locs ls hP hS hl hM
      unfold M_X9_goWalk_156 at hM
      refine lv_iadd hx hb dX9_goWalk_156 ?_
      refine g_put (ws' := (wM cI cZ ad mb mo a156.1 (a156.2.1.1, a156.2.1.2.1, a156.2.1.2.2.1, a156.2.1.2.2.2.1, a156.2.1.2.2.2.2.1, (a156.2.2.2.2 + a156.2.2.2.1)) mf mt mz ml mi)) (ci := 9) (C := RX9) (T := TX9) (N := 32) (v := .int (a156.2.2.2.2 + a156.2.2.2.1)) (ty := .int) F hP hS rfl tyX9 tyX9_ok nmX9 0 rfl rfl inX9_goWalk_X9 21 (by decide) (List.mem_of_getElem? (i := 6) rfl) rfl (by decide +kernel) rfl rfl (Nat.le_of_ble_eq_true rfl) dX9_goWalk_157 rfl (fun H locs hP hS => ?_)
      exact j160 (a156.1, (a156.2.1.1, a156.2.1.2.1, a156.2.1.2.2.1, a156.2.1.2.2.2.1, a156.2.1.2.2.2.2.1, (a156.2.2.2.2 + a156.2.2.2.1)), a156.2.2.1) _ _ _ hP hS (lv_sub hl [0, 1] rfl) hM
    refine kblk (α := NT × GT × Int32 × Int32) (res := res) (fun a => M_X9_goWalk_155 mb mo rc40 a) F (fun a => (wM cI cZ ad mb mo a.1 a.2.1 mf mt mz ml mi)) (fun a => [(0, .ref (ad 0)), (1, .int a.2.2.1)]) (fun a => [.int a.2.2.2, .ref (ad 0)]) 155 ?_ (fun j155 => ?_)
    · intro a155 H locs ls hP hS hl hM
      unfold M_X9_goWalk_155 at hM
      refine lv_iconst (v := 0) hx hb dX9_goWalk_155 (by decide) ?_
      exact j156 (a155.1, a155.2.1, a155.2.2.1, (0 : Int32), a155.2.2.2) _ _ _ hP hS (lv_sub hl [0, 1] rfl) hM
    refine kblk (α := NT × GT × Int32 × Int32 × Int32 × Int32) (res := res) (fun a => M_X9_goWalk_130 mb mo rc40 a) F (fun a => (wM cI cZ ad mb mo a.1 a.2.1 mf mt mz ml mi)) (fun a => [(0, .ref (ad 0)), (1, .int a.2.2.1), (2, .int a.2.2.2.1)]) (fun a => [.int a.2.2.2.2.1, .int a.2.2.2.2.2, .ref (ad 0)]) 130 ?_ (fun j130 => ?_)
    · intro a130 H locs ls hP hS hl hM
      unfold M_X9_goWalk_130 at hM
      refine lv_iadd hx hb dX9_goWalk_130 ?_
      refine g_put (ws' := (wM cI cZ ad mb mo a130.1 (a130.2.1.1, a130.2.1.2.1, a130.2.1.2.2.1, a130.2.1.2.2.2.1, (a130.2.2.2.2.2 + a130.2.2.2.2.1), a130.2.1.2.2.2.2.2) mf mt mz ml mi)) (ci := 9) (C := RX9) (T := TX9) (N := 32) (v := .int (a130.2.2.2.2.2 + a130.2.2.2.2.1)) (ty := .int) F hP hS rfl tyX9 tyX9_ok nmX9 0 rfl rfl inX9_goWalk_X9 20 (by decide) (List.mem_of_getElem? (i := 5) rfl) rfl (by decide +kernel) rfl rfl (Nat.le_of_ble_eq_true rfl) dX9_goWalk_131 rfl (fun H locs hP hS => ?_)
      refine lv_aload_n hx hb dX9_goWalk_134 rfl (lv_at hl 0 rfl) ?_
      refine lv_dup hx hb dX9_goWalk_135 rfl ?_
      refine g_get (ci := 9) (C := RX9) (T := TX9) (N := 32) (v := .int a130.2.1.2.2.2.2.2) F hP 0 rfl rfl inX9_goWalk_X9 21 (by decide) (List.mem_of_getElem? (i := 6) rfl) rfl dX9_goWalk_136 ?_
      refine lv_iload_n hx hb dX9_goWalk_139 rfl (lv_at hl 2 rfl) ?_
      refine lv_if_lt (tgt := 155) hx hb dX9_goWalk_140 (by decide) (fun hc => ?_) (fun hc => ?_)
      · have hM := if_pp hc hM
        exact j155 (a130.1, (a130.2.1.1, a130.2.1.2.1, a130.2.1.2.2.1, a130.2.1.2.2.2.1, (a130.2.2.2.2.2 + a130.2.2.2.2.1), a130.2.1.2.2.2.2.2), a130.2.2.1, a130.2.1.2.2.2.2.2) _ _ _ hP hS (lv_sub hl [0, 1] rfl) hM
      · have hM := if_nn hc hM
        refine lv_aload_n hx hb dX9_goWalk_143 rfl (lv_at hl 0 rfl) ?_
        refine lv_iconst (v := 0) hx hb dX9_goWalk_144 (by decide) ?_
        obtain ⟨z145, hcr, hM⟩ := ob_s hM
        refine res_i0 F hP hS rfl [0, 1, 2, 3, 4, 5, 6, 7, 8, 9, 10, 11, 12] rfl rfl (runV_of (n := 1) (As := [.int (0 : Int32)]) (rest := [.int a130.2.1.2.2.2.2.2, .ref (ad 0)]) F hP hS rfl [0, 1, 2, 3, 4, 5, 6, 7, 8, 9, 10, 11, 12] rfl rfl (c_X9_shownTo l dC dI cI cC cZ sa ad mb mo a130.1 (a130.2.1.1, a130.2.1.2.1, a130.2.1.2.2.1, a130.2.1.2.2.2.1, (a130.2.2.2.2.2 + a130.2.2.2.2.1), a130.2.1.2.2.2.2.2) mf mt mz ml mi (0 : Int32) hcr _) gX9_goWalk_X9_shownTo rfl (by decide +kernel) ⟨Nat.le_of_ble_eq_true rfl, Nat.le_of_ble_eq_true rfl⟩ 0 9 rfl rfl rfl hl.1 rfl (Nat.le_of_ble_eq_true rfl) dX9_goWalk_145 ⟨Nat.zero_le _, Nat.zero_le _⟩) (fun H locs hP hS => ?_)
        refine lv_if_ge (tgt := 155) hx hb dX9_goWalk_148 (by decide) (fun hc => ?_) (fun hc => ?_)
        · have hM := if_pp hc hM
          exact j155 (a130.1, (a130.2.1.1, a130.2.1.2.1, a130.2.1.2.2.1, a130.2.1.2.2.2.1, (a130.2.2.2.2.2 + a130.2.2.2.2.1), a130.2.1.2.2.2.2.2), a130.2.2.1, a130.2.1.2.2.2.2.2) _ _ _ hP hS (lv_sub hl [0, 1] rfl) hM
        · have hM := if_nn hc hM
          refine lv_iconst (v := 1) hx hb dX9_goWalk_151 (by decide) ?_
          refine lv_goto (tgt := 156) hx hb dX9_goWalk_152 (by decide) ?_
          exact j156 (a130.1, (a130.2.1.1, a130.2.1.2.1, a130.2.1.2.2.1, a130.2.1.2.2.2.1, (a130.2.2.2.2.2 + a130.2.2.2.2.1), a130.2.1.2.2.2.2.2), a130.2.2.1, (1 : Int32), a130.2.1.2.2.2.2.2) _ _ _ hP hS (lv_sub hl [0, 1] rfl) hM
    refine kblk (α := NT × GT × Int32 × Int32) (res := res) (fun a => M_X9_goWalk_116 mb mo rc40 a) F (fun a => (wM cI cZ ad mb mo a.1 a.2.1 mf mt mz ml mi)) (fun a => [(0, .ref (ad 0)), (1, .int a.2.2.1), (2, .int a.2.2.2)]) (fun a => []) 116 ?_ (fun j116 => ?_)
    · intro a116 H locs ls hP hS hl hM
      unfold M_X9_goWalk_116 at hM
      refine lv_aload_n hx hb dX9_goWalk_116 rfl (lv_at hl 0 rfl) ?_
      refine lv_dup hx hb dX9_goWalk_117 rfl ?_
      refine g_get (ci := 9) (C := RX9) (T := TX9) (N := 32) (v := .int a116.2.1.2.2.2.2.1) F hP 0 rfl rfl inX9_goWalk_X9 20 (by decide) (List.mem_of_getElem? (i := 5) rfl) rfl dX9_goWalk_118 ?_
      refine lv_iload_n hx hb dX9_goWalk_121 rfl (lv_at hl 2 rfl) ?_
      refine lv_if_lt (tgt := 129) hx hb dX9_goWalk_122 (by decide) (fun hc => ?_) (fun hc => ?_)
      · have hM := if_pp hc hM
        refine lv_iconst (v := 0) hx hb dX9_goWalk_129 (by decide) ?_
        exact j130 (a116.1, a116.2.1, a116.2.2.1, a116.2.2.2, (0 : Int32), a116.2.1.2.2.2.2.1) _ _ _ hP hS (lv_sub hl [0, 1, 2] rfl) hM
      · have hM := if_nn hc hM
        refine lv_iconst (v := 1) hx hb dX9_goWalk_125 (by decide) ?_
        refine lv_goto (tgt := 130) hx hb dX9_goWalk_126 (by decide) ?_
        exact j130 (a116.1, a116.2.1, a116.2.2.1, a116.2.2.2, (1 : Int32), a116.2.1.2.2.2.2.1) _ _ _ hP hS (lv_sub hl [0, 1, 2] rfl) hM
    refine lv_iload_n hx hb dX9_goWalk_40 rfl (lv_at hl 1 rfl) ?_
    refine lv_aload_n hx hb dX9_goWalk_41 rfl (lv_at hl 0 rfl) ?_
    refine g_get (ci := 9) (C := RX9) (T := TX9) (N := 32) (v := .int mo.1) F hP 0 rfl rfl inX9_goWalk_X9 11 (by decide) (List.mem_of_getElem? (i := 7) rfl) rfl dX9_goWalk_42 ?_
    refine lv_icmp_ge (tgt := 166) hx hb dX9_goWalk_45 (by decide) (fun hc => ?_) (fun hc => ?_)
    · have hM := if_pp hc hM
      exact ret_v hx hb hr hlk dX9_goWalk_166 hM hP hS
    · have hM := if_nn hc hM
      refine lv_aload_n hx hb dX9_goWalk_48 rfl (lv_at hl 0 rfl) ?_
      refine g_get (ci := 9) (C := RX9) (T := TX9) (N := 32) (v := .int a40.2.1.1) F hP 0 rfl rfl inX9_goWalk_X9 16 (by decide) (List.mem_of_getElem? (i := 1) rfl) rfl dX9_goWalk_49 ?_
      refine lv_if_ge (tgt := 166) hx hb dX9_goWalk_52 (by decide) (fun hc => ?_) (fun hc => ?_)
      · have hM := if_pp hc hM
        exact ret_v hx hb hr hlk dX9_goWalk_166 hM hP hS
      · have hM := if_nn hc hM
        refine lv_aload_n hx hb dX9_goWalk_55 rfl (lv_at hl 0 rfl) ?_
        refine lv_aload_n hx hb dX9_goWalk_56 rfl (lv_at hl 0 rfl) ?_
        refine g_get (ci := 9) (C := RX9) (T := TX9) (N := 32) (v := .ref (ad 5)) F hP 0 rfl rfl inX9_goWalk_X9 10 (by decide) (List.mem_of_getElem? (i := 8) rfl) rfl dX9_goWalk_57 ?_
        refine lv_iload_n hx hb dX9_goWalk_60 rfl (lv_at hl 1 rfl) ?_
        obtain ⟨hin, hM⟩ := if_ok hM
        refine va_iald hx hb hK hP 5 0 rfl rfl hin dX9_goWalk_61 ?_
        obtain ⟨z62, hcr, hM⟩ := ob_s hM
        refine res_i0 F hP hS rfl [] rfl rfl (runS_of (n := 1) (As := [.int (mo.2 a40.2.2.toNatClampNeg)]) (rest := [.ref (ad 0)]) F hP hS rfl [] rfl rfl (c_X9_wayOf l dC dI cI cC cZ sa (mo.2 a40.2.2.toNatClampNeg) hcr _) gX9_goWalk_X9_wayOf rfl (by decide +kernel) ⟨Nat.le_of_ble_eq_true rfl, Nat.le_of_ble_eq_true rfl⟩ rfl hl.1 rfl (Nat.le_of_ble_eq_true rfl) dX9_goWalk_62 ⟨Nat.zero_le _, Nat.zero_le _⟩) (fun H locs hP hS => ?_)
        obtain ⟨z65, hcr, hM⟩ := ob_s hM
        refine res_i (ws' := (wM cI cZ ad mb mo z65.2 a40.2.1 mf mt mz ml mi)) F hP hS rfl [0, 1, 2, 3, 4, 5, 6, 7, 8, 9, 10, 11, 12] rfl rfl (runV_of (n := 1) (As := [.int z62]) (rest := []) F hP hS rfl [0, 1, 2, 3, 4, 5, 6, 7, 8, 9, 10, 11, 12] rfl rfl (c_X9_step l dC dI cI cC cZ sa ad mb mo a40.1 a40.2.1 mf mt mz ml mi z62 hcr _) gX9_goWalk_X9_step rfl (by decide +kernel) ⟨Nat.le_of_ble_eq_true rfl, Nat.le_of_ble_eq_true rfl⟩ 0 9 rfl rfl rfl hl.1 rfl (Nat.le_of_ble_eq_true rfl) dX9_goWalk_65 ⟨Nat.zero_le _, Nat.zero_le _⟩) rep_full (fun H locs hP hS => ?_)
        refine lv_if_ne (tgt := 79) hx hb dX9_goWalk_68 (by decide) (fun hc => ?_) (fun hc => ?_)
        · have hM := if_nn hc hM
          refine lv_aload_n hx hb dX9_goWalk_79 rfl (lv_at hl 0 rfl) ?_
          refine lv_iconst (v := 1) hx hb dX9_goWalk_80 (by decide) ?_
          obtain ⟨z81, hcr, hM⟩ := ob_s hM
          refine res_i0 F hP hS rfl [0, 1, 2, 3, 4, 5, 6, 7, 8, 9, 10, 11, 12] rfl rfl (runV_of (n := 1) (As := [.int (1 : Int32)]) (rest := []) F hP hS rfl [0, 1, 2, 3, 4, 5, 6, 7, 8, 9, 10, 11, 12] rfl rfl (c_X9_shownTo l dC dI cI cC cZ sa ad mb mo z65.2 a40.2.1 mf mt mz ml mi (1 : Int32) hcr _) gX9_goWalk_X9_shownTo rfl (by decide +kernel) ⟨Nat.le_of_ble_eq_true rfl, Nat.le_of_ble_eq_true rfl⟩ 0 9 rfl rfl rfl hl.1 rfl (Nat.le_of_ble_eq_true rfl) dX9_goWalk_81 ⟨Nat.zero_le _, Nat.zero_le _⟩) (fun H locs hP hS => ?_)
          refine lv_istore_n (lv' := [(2, .int z81), (0, .ref (ad 0)), (1, .int a40.2.2)]) hx hb dX9_goWalk_84 rfl hl (by decide) rfl (fun ls hl => ?_)
          refine lv_iload_n hx hb dX9_goWalk_85 rfl (lv_at hl 0 rfl) ?_
          refine lv_if_lt (tgt := 116) hx hb dX9_goWalk_86 (by decide) (fun hc => ?_) (fun hc => ?_)
          · have hM := if_pp hc hM
            exact j116 (z65.2, a40.2.1, a40.2.2, z81) _ _ _ hP hS (lv_sub hl [1, 2, 0] rfl) hM
          · have hM := if_nn hc hM
            refine lv_aload_n hx hb dX9_goWalk_89 rfl (lv_at hl 1 rfl) ?_
            refine g_get (ci := 9) (C := RX9) (T := TX9) (N := 32) (v := .int a40.2.1.2.1) F hP 0 rfl rfl inX9_goWalk_X9 17 (by decide) (List.mem_of_getElem? (i := 2) rfl) rfl dX9_goWalk_90 ?_
            refine lv_if_ge (tgt := 116) hx hb dX9_goWalk_93 (by decide) (fun hc => ?_) (fun hc => ?_)
            · have hM := if_pp hc hM
              exact j116 (z65.2, a40.2.1, a40.2.2, z81) _ _ _ hP hS (lv_sub hl [1, 2, 0] rfl) hM
            · have hM := if_nn hc hM
              refine lv_aload_n hx hb dX9_goWalk_96 rfl (lv_at hl 1 rfl) ?_
              refine lv_iload_n hx hb dX9_goWalk_97 rfl (lv_at hl 2 rfl) ?_
              refine g_put (ws' := (wM cI cZ ad mb mo z65.2 (a40.2.1.1, a40.2.2, a40.2.1.2.2.1, a40.2.1.2.2.2.1, a40.2.1.2.2.2.2.1, a40.2.1.2.2.2.2.2) mf mt mz ml mi)) (ci := 9) (C := RX9) (T := TX9) (N := 32) (v := .int a40.2.2) (ty := .int) F hP hS rfl tyX9 tyX9_ok nmX9 0 rfl rfl inX9_goWalk_X9 17 (by decide) (List.mem_of_getElem? (i := 2) rfl) rfl (by decide +kernel) rfl rfl (Nat.le_of_ble_eq_true rfl) dX9_goWalk_98 rfl (fun H locs hP hS => ?_)
              refine lv_aload_n hx hb dX9_goWalk_101 rfl (lv_at hl 1 rfl) ?_
              refine lv_iload_n hx hb dX9_goWalk_102 rfl (lv_at hl 0 rfl) ?_
              refine g_put (ws' := (wM cI cZ ad mb mo z65.2 (a40.2.1.1, a40.2.2, z81, a40.2.1.2.2.2.1, a40.2.1.2.2.2.2.1, a40.2.1.2.2.2.2.2) mf mt mz ml mi)) (ci := 9) (C := RX9) (T := TX9) (N := 32) (v := .int z81) (ty := .int) F hP hS rfl tyX9 tyX9_ok nmX9 0 rfl rfl inX9_goWalk_X9 18 (by decide) (List.mem_of_getElem? (i := 3) rfl) rfl (by decide +kernel) rfl rfl (Nat.le_of_ble_eq_true rfl) dX9_goWalk_103 rfl (fun H locs hP hS => ?_)
              refine lv_aload_n hx hb dX9_goWalk_106 rfl (lv_at hl 1 rfl) ?_
              refine lv_aload_n hx hb dX9_goWalk_107 rfl (lv_at hl 1 rfl) ?_
              refine lv_iload_n hx hb dX9_goWalk_108 rfl (lv_at hl 0 rfl) ?_
              refine lv_iconst (v := 1) hx hb dX9_goWalk_109 (by decide) ?_
              obtain ⟨z110, hcr, hM⟩ := ob_s hM
              refine res_i0 F hP hS rfl [0, 1, 2, 3, 4, 5, 6, 7, 8, 9, 10, 11, 12] rfl rfl (runV_of (n := 2) (As := [.int z81, .int (1 : Int32)]) (rest := [.ref (ad 0)]) F hP hS rfl [0, 1, 2, 3, 4, 5, 6, 7, 8, 9, 10, 11, 12] rfl rfl (c_X9_why l dC dI cI cC cZ sa ad mb mo z65.2 (a40.2.1.1, a40.2.2, z81, a40.2.1.2.2.2.1, a40.2.1.2.2.2.2.1, a40.2.1.2.2.2.2.2) mf mt mz ml mi z81 (1 : Int32) hcr _) gX9_goWalk_X9_why rfl (by decide +kernel) ⟨Nat.le_of_ble_eq_true rfl, Nat.le_of_ble_eq_true rfl⟩ 0 9 rfl rfl rfl hl.1 rfl (Nat.le_of_ble_eq_true rfl) dX9_goWalk_110 ⟨Nat.zero_le _, Nat.zero_le _⟩) (fun H locs hP hS => ?_)
              refine g_put (ws' := (wM cI cZ ad mb mo z65.2 (a40.2.1.1, a40.2.2, z81, z110, a40.2.1.2.2.2.2.1, a40.2.1.2.2.2.2.2) mf mt mz ml mi)) (ci := 9) (C := RX9) (T := TX9) (N := 32) (v := .int z110) (ty := .int) F hP hS rfl tyX9 tyX9_ok nmX9 0 rfl rfl inX9_goWalk_X9 19 (by decide) (List.mem_of_getElem? (i := 4) rfl) rfl (by decide +kernel) rfl rfl (Nat.le_of_ble_eq_true rfl) dX9_goWalk_113 rfl (fun H locs hP hS => ?_)
              exact j116 (z65.2, (a40.2.1.1, a40.2.2, z81, z110, a40.2.1.2.2.2.2.1, a40.2.1.2.2.2.2.2), a40.2.2, z81) _ _ _ hP hS (lv_sub hl [1, 2, 0] rfl) hM
        · have hM := if_pp hc hM
          refine lv_aload_n hx hb dX9_goWalk_71 rfl (lv_at hl 0 rfl) ?_
          refine lv_iload_n hx hb dX9_goWalk_72 rfl (lv_at hl 1 rfl) ?_
          refine g_put (ws' := (wM cI cZ ad mb mo z65.2 (a40.2.2, a40.2.1.2.1, a40.2.1.2.2.1, a40.2.1.2.2.2.1, a40.2.1.2.2.2.2.1, a40.2.1.2.2.2.2.2) mf mt mz ml mi)) (ci := 9) (C := RX9) (T := TX9) (N := 32) (v := .int a40.2.2) (ty := .int) F hP hS rfl tyX9 tyX9_ok nmX9 0 rfl rfl inX9_goWalk_X9 16 (by decide) (List.mem_of_getElem? (i := 1) rfl) rfl (by decide +kernel) rfl rfl (Nat.le_of_ble_eq_true rfl) dX9_goWalk_73 rfl (fun H locs hP hS => ?_)
          refine lv_goto (tgt := 160) hx hb dX9_goWalk_76 (by decide) ?_
          exact j160 (z65.2, (a40.2.2, a40.2.1.2.1, a40.2.1.2.2.1, a40.2.1.2.2.2.1, a40.2.1.2.2.2.2.1, a40.2.1.2.2.2.2.2), a40.2.2) _ _ _ hP hS (lv_sub hl [0, 1] rfl) hM
  refine lv_aload_n hx hb dX9_goWalk_0 rfl (lv_at hl 0 rfl) ?_
  obtain ⟨z1, hcr, hM⟩ := ob_s hM
  refine res_v (ws' := (wM cI cZ ad mb mo z1 mg mf mt mz ml mi)) F hP hS rfl [0, 1, 2, 3, 4, 5, 6, 7, 8, 9, 10, 11, 12] rfl rfl (runV_of (n := 0) (As := []) (rest := []) F hP hS rfl [0, 1, 2, 3, 4, 5, 6, 7, 8, 9, 10, 11, 12] rfl rfl (c_X9_begin l dC dI cI cC cZ sa ad mb mo mn mg mf mt mz ml mi hcr _) gX9_goWalk_X9_begin rfl (by decide +kernel) ⟨Nat.le_of_ble_eq_true rfl, Nat.le_of_ble_eq_true rfl⟩ 0 9 rfl rfl rfl hl.1 rfl (Nat.le_of_ble_eq_true rfl) dX9_goWalk_1 ⟨Nat.zero_le _, Nat.zero_le _⟩) rep_full (fun H locs hP hS => ?_)
  refine lv_aload_n hx hb dX9_goWalk_4 rfl (lv_at hl 0 rfl) ?_
  refine lv_bipush (v := -6) hx hb dX9_goWalk_5 (by decide) ?_
  refine g_put (ws' := (wM cI cZ ad mb mo z1 ((-6 : Int32), mg.2.1, mg.2.2.1, mg.2.2.2.1, mg.2.2.2.2.1, mg.2.2.2.2.2) mf mt mz ml mi)) (ci := 9) (C := RX9) (T := TX9) (N := 32) (v := .int (-6 : Int32)) (ty := .int) F hP hS rfl tyX9 tyX9_ok nmX9 0 rfl rfl inX9_goWalk_X9 16 (by decide) (List.mem_of_getElem? (i := 1) rfl) rfl (by decide +kernel) rfl rfl (Nat.le_of_ble_eq_true rfl) dX9_goWalk_7 rfl (fun H locs hP hS => ?_)
  refine lv_aload_n hx hb dX9_goWalk_10 rfl (lv_at hl 0 rfl) ?_
  refine lv_bipush (v := -6) hx hb dX9_goWalk_11 (by decide) ?_
  refine g_put (ws' := (wM cI cZ ad mb mo z1 ((-6 : Int32), (-6 : Int32), mg.2.2.1, mg.2.2.2.1, mg.2.2.2.2.1, mg.2.2.2.2.2) mf mt mz ml mi)) (ci := 9) (C := RX9) (T := TX9) (N := 32) (v := .int (-6 : Int32)) (ty := .int) F hP hS rfl tyX9 tyX9_ok nmX9 0 rfl rfl inX9_goWalk_X9 17 (by decide) (List.mem_of_getElem? (i := 2) rfl) rfl (by decide +kernel) rfl rfl (Nat.le_of_ble_eq_true rfl) dX9_goWalk_13 rfl (fun H locs hP hS => ?_)
  refine lv_aload_n hx hb dX9_goWalk_16 rfl (lv_at hl 0 rfl) ?_
  refine lv_bipush (v := -6) hx hb dX9_goWalk_17 (by decide) ?_
  refine g_put (ws' := (wM cI cZ ad mb mo z1 ((-6 : Int32), (-6 : Int32), (-6 : Int32), mg.2.2.2.1, mg.2.2.2.2.1, mg.2.2.2.2.2) mf mt mz ml mi)) (ci := 9) (C := RX9) (T := TX9) (N := 32) (v := .int (-6 : Int32)) (ty := .int) F hP hS rfl tyX9 tyX9_ok nmX9 0 rfl rfl inX9_goWalk_X9 18 (by decide) (List.mem_of_getElem? (i := 3) rfl) rfl (by decide +kernel) rfl rfl (Nat.le_of_ble_eq_true rfl) dX9_goWalk_19 rfl (fun H locs hP hS => ?_)
  refine lv_aload_n hx hb dX9_goWalk_22 rfl (lv_at hl 0 rfl) ?_
  refine lv_bipush (v := -6) hx hb dX9_goWalk_23 (by decide) ?_
  refine g_put (ws' := (wM cI cZ ad mb mo z1 ((-6 : Int32), (-6 : Int32), (-6 : Int32), (-6 : Int32), mg.2.2.2.2.1, mg.2.2.2.2.2) mf mt mz ml mi)) (ci := 9) (C := RX9) (T := TX9) (N := 32) (v := .int (-6 : Int32)) (ty := .int) F hP hS rfl tyX9 tyX9_ok nmX9 0 rfl rfl inX9_goWalk_X9 19 (by decide) (List.mem_of_getElem? (i := 4) rfl) rfl (by decide +kernel) rfl rfl (Nat.le_of_ble_eq_true rfl) dX9_goWalk_25 rfl (fun H locs hP hS => ?_)
  refine lv_aload_n hx hb dX9_goWalk_28 rfl (lv_at hl 0 rfl) ?_
  refine lv_iconst (v := 0) hx hb dX9_goWalk_29 (by decide) ?_
  refine g_put (ws' := (wM cI cZ ad mb mo z1 ((-6 : Int32), (-6 : Int32), (-6 : Int32), (-6 : Int32), (0 : Int32), mg.2.2.2.2.2) mf mt mz ml mi)) (ci := 9) (C := RX9) (T := TX9) (N := 32) (v := .int (0 : Int32)) (ty := .int) F hP hS rfl tyX9 tyX9_ok nmX9 0 rfl rfl inX9_goWalk_X9 20 (by decide) (List.mem_of_getElem? (i := 5) rfl) rfl (by decide +kernel) rfl rfl (Nat.le_of_ble_eq_true rfl) dX9_goWalk_30 rfl (fun H locs hP hS => ?_)
  refine lv_aload_n hx hb dX9_goWalk_33 rfl (lv_at hl 0 rfl) ?_
  refine lv_iconst (v := 0) hx hb dX9_goWalk_34 (by decide) ?_
  refine g_put (ws' := (wM cI cZ ad mb mo z1 ((-6 : Int32), (-6 : Int32), (-6 : Int32), (-6 : Int32), (0 : Int32), (0 : Int32)) mf mt mz ml mi)) (ci := 9) (C := RX9) (T := TX9) (N := 32) (v := .int (0 : Int32)) (ty := .int) F hP hS rfl tyX9 tyX9_ok nmX9 0 rfl rfl inX9_goWalk_X9 21 (by decide) (List.mem_of_getElem? (i := 6) rfl) rfl (by decide +kernel) rfl rfl (Nat.le_of_ble_eq_true rfl) dX9_goWalk_35 rfl (fun H locs hP hS => ?_)
  refine lv_iconst (v := 0) hx hb dX9_goWalk_38 (by decide) ?_
  refine lv_istore_n (lv' := [(1, .int (0 : Int32)), (0, .ref (ad 0))]) hx hb dX9_goWalk_39 rfl hl (by decide) rfl (fun ls hl => ?_)
  exact j40 200 (z1, ((-6 : Int32), (-6 : Int32), (-6 : Int32), (-6 : Int32), (0 : Int32), (0 : Int32)), (0 : Int32)) _ _ _ hP hS (lv_sub hl [1, 0] rfl) hM
theorem inX9_lay_X9 : ∀ w ∈ wsX90, w ∈ wsX9_lay := fun w h => List.mem_cons_of_mem _ (List.mem_append_right _ h)
set_option maxHeartbeats 4000000 in
set_option maxRecDepth 100000 in
theorem c_X9_lay (l : Launch) (dC : Nat → ClassId) (dI : Nat → Nat → Nat) (cI cC cZ : ClassId) (sa : Nat → Nat) (ad : Nat → Nat) (mb : BT) (mo : OT) (mn : NT) (mg : GT) (mf : AR) (mt : TT) (mz : AR) (ml : LT) (mi : IT) (x1 : Int32) (x2 : Int32) {res : BT} (hM : M_X9_lay mb x1 x2 = some res) : CTv l (dC, dI) [(cI, .int), (cC, .char), (cZ, .boolean)] sa yX9_lay wsX9_lay (rmd 1) [.ref (ad 0), .int x1, .int x2] (wM cI cZ ad mb mo mn mg mf mt mz ml mi) (fun (uu : BT) => (wM cI cZ ad uu mo mn mg mf mt mz ml mi)) res := by
  refine CTv.enter (own := RX9) (cc := cX9_lay) (maxL := 4) (ret := none) (by decide) rfl rfl (Nat.le_of_ble_eq_true rfl) ?_
  intro pr e s m below meth c A F hr hlk hP hS ls hl
  obtain ⟨⟨hx, hb, hml, hown, hts⟩, hK, hDD, hA, hKC⟩ := id F
  have hl : lv_has ls 4 [(0, .ref (ad 0)), (1, .int x1), (2, .int x2)] := hl
  have hP : va_P (dC, dI) vwCl (wM cI cZ ad mb mo mn mg mf mt mz ml mi) s.heap := hP
  unfold M_X9_lay at hM
  refine kloop (α := BT × Int32) (res := res) (fun k a => M_X9_lay_12 x1 x2 k a) (fun rec a => M_X9_lay_12b x1 x2 rec a) (fun _ => rfl) (fun _ _ => rfl) F (fun a => (wM cI cZ ad a.1 mo mn mg mf mt mz ml mi)) (fun a => [(0, .ref (ad 0)), (1, .int x1), (2, .int x2), (3, .int a.2)]) (fun a => []) 12 ?_ (fun j12 => ?_)
  · intro rc12 ih12 a12 H locs ls hP hS hl hM
    unfold M_X9_lay_12b at hM
    refine lv_iload_n hx hb dX9_lay_12 rfl (lv_at hl 3 rfl) ?_
    refine lv_bipush (v := 16) hx hb dX9_lay_13 (by decide) ?_
    refine lv_icmp_ge (tgt := 32) hx hb dX9_lay_15 (by decide) (fun hc => ?_) (fun hc => ?_)
    · have hM := if_pp hc hM
      refine lv_aload_n hx hb dX9_lay_32 rfl (lv_at hl 0 rfl) ?_
      refine lv_iconst (v := 0) hx hb dX9_lay_33 (by decide) ?_
      refine g_put (ws' := (wM cI cZ ad (a12.1.1, a12.1.2.1, (0 : Int32), a12.1.2.2.2.1, a12.1.2.2.2.2.1, a12.1.2.2.2.2.2.1, a12.1.2.2.2.2.2.2.1, a12.1.2.2.2.2.2.2.2.1, a12.1.2.2.2.2.2.2.2.2.1, a12.1.2.2.2.2.2.2.2.2.2) mo mn mg mf mt mz ml mi)) (ci := 9) (C := RX9) (T := TX9) (N := 32) (v := .int (0 : Int32)) (ty := .int) F hP hS rfl tyX9 tyX9_ok nmX9 0 rfl rfl inX9_lay_X9 3 (by decide) (List.mem_of_getElem? (i := 4) rfl) rfl (by decide +kernel) rfl rfl (Nat.le_of_ble_eq_true rfl) dX9_lay_34 rfl (fun H locs hP hS => ?_)
      refine lv_aload_n hx hb dX9_lay_37 rfl (lv_at hl 0 rfl) ?_
      refine lv_iload_n hx hb dX9_lay_38 rfl (lv_at hl 1 rfl) ?_
      refine lv_iload_n hx hb dX9_lay_39 rfl (lv_at hl 2 rfl) ?_
      refine lv_imul hx hb dX9_lay_40 ?_
      refine lv_iconst (v := 1) hx hb dX9_lay_41 (by decide) ?_
      refine lv_isub hx hb dX9_lay_42 ?_
      refine g_put (ws' := (wM cI cZ ad (a12.1.1, a12.1.2.1, (0 : Int32), ((x1 * x2) - (1 : Int32)), a12.1.2.2.2.2.1, a12.1.2.2.2.2.2.1, a12.1.2.2.2.2.2.2.1, a12.1.2.2.2.2.2.2.2.1, a12.1.2.2.2.2.2.2.2.2.1, a12.1.2.2.2.2.2.2.2.2.2) mo mn mg mf mt mz ml mi)) (ci := 9) (C := RX9) (T := TX9) (N := 32) (v := .int ((x1 * x2) - (1 : Int32))) (ty := .int) F hP hS rfl tyX9 tyX9_ok nmX9 0 rfl rfl inX9_lay_X9 4 (by decide) (List.mem_of_getElem? (i := 5) rfl) rfl (by decide +kernel) rfl rfl (Nat.le_of_ble_eq_true rfl) dX9_lay_43 rfl (fun H locs hP hS => ?_)
      refine lv_aload_n hx hb dX9_lay_46 rfl (lv_at hl 0 rfl) ?_
      refine lv_iconst (v := 0) hx hb dX9_lay_47 (by decide) ?_
      refine g_put (ws' := (wM cI cZ ad (a12.1.1, a12.1.2.1, (0 : Int32), ((x1 * x2) - (1 : Int32)), (0 : Int32), a12.1.2.2.2.2.2.1, a12.1.2.2.2.2.2.2.1, a12.1.2.2.2.2.2.2.2.1, a12.1.2.2.2.2.2.2.2.2.1, a12.1.2.2.2.2.2.2.2.2.2) mo mn mg mf mt mz ml mi)) (ci := 9) (C := RX9) (T := TX9) (N := 32) (v := .int (0 : Int32)) (ty := .int) F hP hS rfl tyX9 tyX9_ok nmX9 0 rfl rfl inX9_lay_X9 8 (by decide) (List.mem_of_getElem? (i := 6) rfl) rfl (by decide +kernel) rfl rfl (Nat.le_of_ble_eq_true rfl) dX9_lay_48 rfl (fun H locs hP hS => ?_)
      exact ret_v hx hb hr hlk dX9_lay_51 hM hP hS
    · have hM := if_nn hc hM
      refine lv_aload_n hx hb dX9_lay_18 rfl (lv_at hl 0 rfl) ?_
      refine g_get (ci := 9) (C := RX9) (T := TX9) (N := 32) (v := .ref (ad 1)) F hP 0 rfl rfl inX9_lay_X9 2 (by decide) (List.mem_of_getElem? (i := 3) rfl) rfl dX9_lay_19 ?_
      refine lv_iload_n hx hb dX9_lay_22 rfl (lv_at hl 3 rfl) ?_
      refine lv_bipush (v := 46) hx hb dX9_lay_23 (by decide) ?_
      obtain ⟨hin, hM⟩ := if_ok hM
      refine g_iast (ws' := (wM cI cZ ad (a12.1.1, a12.1.2.1, a12.1.2.2.1, a12.1.2.2.2.1, a12.1.2.2.2.2.1, a12.1.2.2.2.2.2.1, (upd a12.1.2.2.2.2.2.2.1 a12.2.toNatClampNeg (46 : Int32)), a12.1.2.2.2.2.2.2.2.1, a12.1.2.2.2.2.2.2.2.2.1, a12.1.2.2.2.2.2.2.2.2.2) mo mn mg mf mt mz ml mi)) F hP hS rfl 1 0 rfl rfl hin dX9_lay_25 rfl (fun H locs hP hS => ?_)
      refine lv_iinc (v := (a12.2 + (1 : Int32))) (lv' := [(3, .int (a12.2 + (1 : Int32))), (0, .ref (ad 0)), (1, .int x1), (2, .int x2)]) hx hb dX9_lay_26 hl (k := 3) rfl rfl (by decide) rfl (fun ls hl => ?_)
      refine lv_goto (tgt := 12) hx hb dX9_lay_29 (by decide) ?_
      exact ih12 ((a12.1.1, a12.1.2.1, a12.1.2.2.1, a12.1.2.2.2.1, a12.1.2.2.2.2.1, a12.1.2.2.2.2.2.1, (upd a12.1.2.2.2.2.2.2.1 a12.2.toNatClampNeg (46 : Int32)), a12.1.2.2.2.2.2.2.2.1, a12.1.2.2.2.2.2.2.2.2.1, a12.1.2.2.2.2.2.2.2.2.2), (a12.2 + (1 : Int32))) _ _ _ hP hS (lv_sub hl [1, 2, 3, 0] rfl) hM
  refine lv_aload_n hx hb dX9_lay_0 rfl (lv_at hl 0 rfl) ?_
  refine lv_iload_n hx hb dX9_lay_1 rfl (lv_at hl 1 rfl) ?_
  refine g_put (ws' := (wM cI cZ ad (x1, mb.2.1, mb.2.2.1, mb.2.2.2.1, mb.2.2.2.2.1, mb.2.2.2.2.2.1, mb.2.2.2.2.2.2.1, mb.2.2.2.2.2.2.2.1, mb.2.2.2.2.2.2.2.2.1, mb.2.2.2.2.2.2.2.2.2) mo mn mg mf mt mz ml mi)) (ci := 9) (C := RX9) (T := TX9) (N := 32) (v := .int x1) (ty := .int) F hP hS rfl tyX9 tyX9_ok nmX9 0 rfl rfl inX9_lay_X9 0 (by decide) (List.mem_of_getElem? (i := 1) rfl) rfl (by decide +kernel) rfl rfl (Nat.le_of_ble_eq_true rfl) dX9_lay_2 rfl (fun H locs hP hS => ?_)
  refine lv_aload_n hx hb dX9_lay_5 rfl (lv_at hl 0 rfl) ?_
  refine lv_iload_n hx hb dX9_lay_6 rfl (lv_at hl 2 rfl) ?_
  refine g_put (ws' := (wM cI cZ ad (x1, x2, mb.2.2.1, mb.2.2.2.1, mb.2.2.2.2.1, mb.2.2.2.2.2.1, mb.2.2.2.2.2.2.1, mb.2.2.2.2.2.2.2.1, mb.2.2.2.2.2.2.2.2.1, mb.2.2.2.2.2.2.2.2.2) mo mn mg mf mt mz ml mi)) (ci := 9) (C := RX9) (T := TX9) (N := 32) (v := .int x2) (ty := .int) F hP hS rfl tyX9 tyX9_ok nmX9 0 rfl rfl inX9_lay_X9 1 (by decide) (List.mem_of_getElem? (i := 2) rfl) rfl (by decide +kernel) rfl rfl (Nat.le_of_ble_eq_true rfl) dX9_lay_7 rfl (fun H locs hP hS => ?_)
  refine lv_iconst (v := 0) hx hb dX9_lay_10 (by decide) ?_
  refine lv_istore_n (lv' := [(3, .int (0 : Int32)), (0, .ref (ad 0)), (1, .int x1), (2, .int x2)]) hx hb dX9_lay_11 rfl hl (by decide) rfl (fun ls hl => ?_)
  exact j12 200 ((x1, x2, mb.2.2.1, mb.2.2.2.1, mb.2.2.2.2.1, mb.2.2.2.2.2.1, mb.2.2.2.2.2.2.1, mb.2.2.2.2.2.2.2.1, mb.2.2.2.2.2.2.2.2.1, mb.2.2.2.2.2.2.2.2.2), (0 : Int32)) _ _ _ hP hS (lv_sub hl [1, 2, 3, 0] rfl) hM
