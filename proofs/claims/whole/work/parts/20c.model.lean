/-! Walks, printed by wip/whole/gen.py -/
theorem inX9_isBare_X9 : ∀ w ∈ wsX90, w ∈ wsX9_isBare := fun w h => List.mem_cons_of_mem _ (List.mem_append_right _ h)
set_option maxHeartbeats 4000000 in
set_option maxRecDepth 100000 in
theorem c_X9_isBare (l : Launch) (dC : Nat → ClassId) (dI : Nat → Nat → Nat) (cI cC cZ : ClassId) (sa : Nat → Nat) (ad : Nat → Nat) (mb : BT) (mo : OT) (mn : NT) (mg : GT) (mf : AR) (mt : TT) (mz : AR) (ml : LT) (mi : IT) (x1 : Int32) {res : Int32} (hM : M_X9_isBare mb x1 = some res) : CTi l (dC, dI) [(cI, .int), (cC, .char), (cZ, .boolean)] sa yX9_isBare wsX9_isBare (rmd 5) [.ref (ad 0), .int x1] (wM cI cZ ad mb mo mn mg mf mt mz ml mi) (fun (_ : Unit) => (wM cI cZ ad mb mo mn mg mf mt mz ml mi)) (res, ()) := by
  refine CTi.enter (own := RX9) (cc := cX9_isBare) (maxL := 6) (ret := (some .boolean)) (by decide) rfl rfl (Nat.le_of_ble_eq_true rfl) ?_
  intro pr e s m below meth c A F hr hlk hP hS ls hl
  obtain ⟨⟨hx, hb, hml, hown, hts⟩, hK, hDD, hA, hKC⟩ := id F
  have hl : lv_has ls 6 [(0, .ref (ad 0)), (1, .int x1)] := hl
  have hP : va_P (dC, dI) vwCl (wM cI cZ ad mb mo mn mg mf mt mz ml mi) s.heap := hP
  unfold M_X9_isBare at hM
  refine kloop (α := Int32 × Int32) (res := res) (fun k a => M_X9_isBare_16 mb x1 k a) (fun rec a => M_X9_isBare_16b mb x1 rec a) (fun _ => rfl) (fun _ _ => rfl) F (fun a => (wM cI cZ ad mb mo mn mg mf mt mz ml mi)) (fun a => [(0, .ref (ad 0)), (1, .int x1), (2, .int a.1), (3, .int a.2)]) (fun a => []) 16 ?_ (fun j16 => ?_)
  · intro rc16 ih16 a16 H locs ls hP hS hl hM
    unfold M_X9_isBare_16b at hM
    refine kblk (α := Int32 × Int32) (res := res) (fun a => M_X9_isBare_146 mb x1 rc16 a) F (fun a => (wM cI cZ ad mb mo mn mg mf mt mz ml mi)) (fun a => [(0, .ref (ad 0)), (1, .int x1), (3, .int a.1)]) (fun a => [.int a.2]) 146 ?_ (fun j146 => ?_)
    · intro a146 H locs ls hP hS hl hM
      unfold M_X9_isBare_146 at hM
      refine lv_istore_n (lv' := [(2, .int a146.2), (0, .ref (ad 0)), (1, .int x1), (3, .int a146.1)]) hx hb dX9_isBare_146 rfl hl (by decide) rfl (fun ls hl => ?_)
      refine lv_iinc (v := (a146.1 + (1 : Int32))) (lv' := [(3, .int (a146.1 + (1 : Int32))), (2, .int a146.2), (0, .ref (ad 0)), (1, .int x1)]) hx hb dX9_isBare_147 hl (k := 3) rfl rfl (by decide) rfl (fun ls hl => ?_)
      refine lv_goto (tgt := 16) hx hb dX9_isBare_150 (by decide) ?_
      exact ih16 (a146.2, (a146.1 + (1 : Int32))) _ _ _ hP hS (lv_sub hl [2, 3, 1, 0] rfl) hM
    refine kblk (α := Int32) (res := res) (fun a => M_X9_isBare_145 mb x1 rc16 a) F (fun a => (wM cI cZ ad mb mo mn mg mf mt mz ml mi)) (fun a => [(0, .ref (ad 0)), (1, .int x1), (3, .int a)]) (fun a => []) 145 ?_ (fun j145 => ?_)
    · intro a145 H locs ls hP hS hl hM
      unfold M_X9_isBare_145 at hM
      refine lv_iconst (v := 0) hx hb dX9_isBare_145 (by decide) ?_
      exact j146 (a145, (0 : Int32)) _ _ _ hP hS (lv_sub hl [0, 1, 2] rfl) hM
    refine kblk (α := Int32 × Int32 × Int32) (res := res) (fun a => M_X9_isBare_130 mb x1 rc16 a) F (fun a => (wM cI cZ ad mb mo mn mg mf mt mz ml mi)) (fun a => [(0, .ref (ad 0)), (1, .int x1), (2, .int a.1), (3, .int a.2.1)]) (fun a => [.int a.2.2]) 130 ?_ (fun j130 => ?_)
    · intro a130 H locs ls hP hS hl hM
      unfold M_X9_isBare_130 at hM
      refine lv_istore (lv' := [(5, .int a130.2.2), (0, .ref (ad 0)), (1, .int x1), (2, .int a130.1), (3, .int a130.2.1)]) hx hb dX9_isBare_130 hl (by decide) rfl (fun ls hl => ?_)
      refine lv_iload_n hx hb dX9_isBare_132 rfl (lv_at hl 3 rfl) ?_
      refine lv_if_eq (tgt := 145) hx hb dX9_isBare_133 (by decide) (fun hc => ?_) (fun hc => ?_)
      · have hM := if_pp hc hM
        exact j145 a130.2.1 _ _ _ hP hS (lv_sub hl [1, 2, 4] rfl) hM
      · have hM := if_nn hc hM
        refine lv_iload hx hb dX9_isBare_136 (lv_at hl 0 rfl) ?_
        refine lv_if_ne (tgt := 145) hx hb dX9_isBare_138 (by decide) (fun hc => ?_) (fun hc => ?_)
        · have hM := if_nn hc hM
          exact j145 a130.2.1 _ _ _ hP hS (lv_sub hl [1, 2, 4] rfl) hM
        · have hM := if_pp hc hM
          refine lv_iconst (v := 1) hx hb dX9_isBare_141 (by decide) ?_
          refine lv_goto (tgt := 146) hx hb dX9_isBare_142 (by decide) ?_
          exact j146 (a130.2.1, (1 : Int32)) _ _ _ hP hS (lv_sub hl [1, 2, 4] rfl) hM
    refine kblk (α := Int32 × Int32) (res := res) (fun a => M_X9_isBare_125 mb x1 rc16 a) F (fun a => (wM cI cZ ad mb mo mn mg mf mt mz ml mi)) (fun a => [(0, .ref (ad 0)), (1, .int x1), (2, .int a.1), (3, .int a.2)]) (fun a => []) 125 ?_ (fun j125 => ?_)
    · intro a125 H locs ls hP hS hl hM
      unfold M_X9_isBare_125 at hM
      refine lv_iconst (v := 1) hx hb dX9_isBare_125 (by decide) ?_
      refine lv_goto (tgt := 130) hx hb dX9_isBare_126 (by decide) ?_
      exact j130 (a125.1, a125.2, (1 : Int32)) _ _ _ hP hS (lv_sub hl [0, 1, 2, 3] rfl) hM
    refine kblk (α := Int32 × Int32) (res := res) (fun a => M_X9_isBare_129 mb x1 rc16 a) F (fun a => (wM cI cZ ad mb mo mn mg mf mt mz ml mi)) (fun a => [(0, .ref (ad 0)), (1, .int x1), (2, .int a.1), (3, .int a.2)]) (fun a => []) 129 ?_ (fun j129 => ?_)
    · intro a129 H locs ls hP hS hl hM
      unfold M_X9_isBare_129 at hM
      refine lv_iconst (v := 0) hx hb dX9_isBare_129 (by decide) ?_
      exact j130 (a129.1, a129.2, (0 : Int32)) _ _ _ hP hS (lv_sub hl [0, 1, 2, 3] rfl) hM
    refine kblk (α := Int32 × Int32) (res := res) (fun a => M_X9_isBare_100 mb x1 rc16 a) F (fun a => (wM cI cZ ad mb mo mn mg mf mt mz ml mi)) (fun a => [(0, .ref (ad 0)), (1, .int x1), (2, .int a.1), (3, .int a.2)]) (fun a => []) 100 ?_ (fun j100 => ?_)
    · intro a100 H locs ls hP hS hl hM
      unfold M_X9_isBare_100 at hM
      refine lv_aload_n hx hb dX9_isBare_100 rfl (lv_at hl 0 rfl) ?_
      refine g_get (ci := 9) (C := RX9) (T := TX9) (N := 32) (v := .ref (ad 4)) F hP 0 rfl rfl inX9_isBare_X9 7 (by decide) (List.mem_of_getElem? (i := 5) rfl) rfl dX9_isBare_101 ?_
      refine lv_iload_n hx hb dX9_isBare_104 rfl (lv_at hl 3 rfl) ?_
      obtain ⟨hin, hM⟩ := if_ok hM
      refine va_iald hx hb hK hP 4 0 rfl rfl hin dX9_isBare_105 ?_
      refine lv_iconst (v := 1) hx hb dX9_isBare_106 (by decide) ?_
      refine lv_icmp_ne (tgt := 129) hx hb dX9_isBare_107 (by decide) (fun hc => ?_) (fun hc => ?_)
      · have hM := if_nn hc hM
        exact j129 (a100.1, a100.2) _ _ _ hP hS (lv_sub hl [0, 1, 2, 3] rfl) hM
      · have hM := if_pp hc hM
        refine lv_aload_n hx hb dX9_isBare_110 rfl (lv_at hl 0 rfl) ?_
        refine lv_iload_n hx hb dX9_isBare_111 rfl (lv_at hl 1 rfl) ?_
        refine lv_aload_n hx hb dX9_isBare_112 rfl (lv_at hl 0 rfl) ?_
        refine g_get (ci := 9) (C := RX9) (T := TX9) (N := 32) (v := .ref (ad 2)) F hP 0 rfl rfl inX9_isBare_X9 5 (by decide) (List.mem_of_getElem? (i := 3) rfl) rfl dX9_isBare_113 ?_
        refine lv_iload_n hx hb dX9_isBare_116 rfl (lv_at hl 3 rfl) ?_
        obtain ⟨hin, hM⟩ := if_ok hM
        refine va_iald hx hb hK hP 2 0 rfl rfl hin dX9_isBare_117 ?_
        obtain ⟨z118, hcr, hM⟩ := ob_s hM
        refine res_i0 F hP hS rfl [0, 1, 2, 3, 4, 5, 6, 7, 8, 9, 10, 11, 12] rfl rfl (runV_of (n := 2) (As := [.int x1, .int (mb.2.2.2.2.2.2.2.1 a100.2.toNatClampNeg)]) (rest := []) F hP hS rfl [0, 1, 2, 3, 4, 5, 6, 7, 8, 9, 10, 11, 12] rfl rfl (c_X9_apart l dC dI cI cC cZ sa ad mb mo mn mg mf mt mz ml mi x1 (mb.2.2.2.2.2.2.2.1 a100.2.toNatClampNeg) hcr _) gX9_isBare_X9_apart rfl (by decide +kernel) ⟨Nat.le_of_ble_eq_true rfl, Nat.le_of_ble_eq_true rfl⟩ 0 9 rfl rfl rfl hl.1 rfl (Nat.le_of_ble_eq_true rfl) dX9_isBare_118 ⟨Nat.zero_le _, Nat.zero_le _⟩) (fun H locs hP hS => ?_)
        refine lv_iconst (v := 1) hx hb dX9_isBare_121 (by decide) ?_
        refine lv_icmp_gt (tgt := 129) hx hb dX9_isBare_122 (by decide) (fun hc => ?_) (fun hc => ?_)
        · have hM := if_pp hc hM
          exact j129 (a100.1, a100.2) _ _ _ hP hS (lv_sub hl [0, 1, 2, 3] rfl) hM
        · have hM := if_nn hc hM
          exact j125 (a100.1, a100.2) _ _ _ hP hS (lv_sub hl [0, 1, 2, 3] rfl) hM
    refine kblk (α := Int32 × Int32) (res := res) (fun a => M_X9_isBare_71 mb x1 rc16 a) F (fun a => (wM cI cZ ad mb mo mn mg mf mt mz ml mi)) (fun a => [(0, .ref (ad 0)), (1, .int x1), (2, .int a.1), (3, .int a.2)]) (fun a => []) 71 ?_ (fun j71 => ?_)
    · intro a71 H locs ls hP hS hl hM
      unfold M_X9_isBare_71 at hM
      refine lv_aload_n hx hb dX9_isBare_71 rfl (lv_at hl 0 rfl) ?_
      refine g_get (ci := 9) (C := RX9) (T := TX9) (N := 32) (v := .ref (ad 1)) F hP 0 rfl rfl inX9_isBare_X9 2 (by decide) (List.mem_of_getElem? (i := 2) rfl) rfl dX9_isBare_72 ?_
      refine lv_iload_n hx hb dX9_isBare_75 rfl (lv_at hl 1 rfl) ?_
      obtain ⟨hin, hM⟩ := if_ok hM
      refine va_iald hx hb hK hP 1 0 rfl rfl hin dX9_isBare_76 ?_
      refine lv_bipush (v := 99) hx hb dX9_isBare_77 (by decide) ?_
      refine lv_icmp_ne (tgt := 100) hx hb dX9_isBare_79 (by decide) (fun hc => ?_) (fun hc => ?_)
      · have hM := if_nn hc hM
        exact j100 (a71.1, a71.2) _ _ _ hP hS (lv_sub hl [0, 1, 2, 3] rfl) hM
      · have hM := if_pp hc hM
        refine lv_aload_n hx hb dX9_isBare_82 rfl (lv_at hl 0 rfl) ?_
        refine lv_iload_n hx hb dX9_isBare_83 rfl (lv_at hl 1 rfl) ?_
        refine lv_aload_n hx hb dX9_isBare_84 rfl (lv_at hl 0 rfl) ?_
        refine g_get (ci := 9) (C := RX9) (T := TX9) (N := 32) (v := .ref (ad 2)) F hP 0 rfl rfl inX9_isBare_X9 5 (by decide) (List.mem_of_getElem? (i := 3) rfl) rfl dX9_isBare_85 ?_
        refine lv_iload_n hx hb dX9_isBare_88 rfl (lv_at hl 3 rfl) ?_
        obtain ⟨hin, hM⟩ := if_ok hM
        refine va_iald hx hb hK hP 2 0 rfl rfl hin dX9_isBare_89 ?_
        obtain ⟨z90, hcr, hM⟩ := ob_s hM
        refine res_i0 F hP hS rfl [0, 1, 2, 3, 4, 5, 6, 7, 8, 9, 10, 11, 12] rfl rfl (runV_of (n := 2) (As := [.int x1, .int (mb.2.2.2.2.2.2.2.1 a71.2.toNatClampNeg)]) (rest := []) F hP hS rfl [0, 1, 2, 3, 4, 5, 6, 7, 8, 9, 10, 11, 12] rfl rfl (c_X9_apart l dC dI cI cC cZ sa ad mb mo mn mg mf mt mz ml mi x1 (mb.2.2.2.2.2.2.2.1 a71.2.toNatClampNeg) hcr _) gX9_isBare_X9_apart rfl (by decide +kernel) ⟨Nat.le_of_ble_eq_true rfl, Nat.le_of_ble_eq_true rfl⟩ 0 9 rfl rfl rfl hl.1 rfl (Nat.le_of_ble_eq_true rfl) dX9_isBare_90 ⟨Nat.zero_le _, Nat.zero_le _⟩) (fun H locs hP hS => ?_)
        refine lv_aload_n hx hb dX9_isBare_93 rfl (lv_at hl 0 rfl) ?_
        refine g_get (ci := 9) (C := RX9) (T := TX9) (N := 32) (v := .int mb.2.2.2.2.2.1) F hP 0 rfl rfl inX9_isBare_X9 9 (by decide) (List.mem_of_getElem? (i := 4) rfl) rfl dX9_isBare_94 ?_
        refine lv_icmp_le (tgt := 125) hx hb dX9_isBare_97 (by decide) (fun hc => ?_) (fun hc => ?_)
        · have hM := if_pp hc hM
          exact j125 (a71.1, a71.2) _ _ _ hP hS (lv_sub hl [0, 1, 2, 3] rfl) hM
        · have hM := if_nn hc hM
          exact j100 (a71.1, a71.2) _ _ _ hP hS (lv_sub hl [0, 1, 2, 3] rfl) hM
    refine kblk (α := Int32 × Int32 × Int32) (res := res) (fun a => M_X9_isBare_42 mb x1 rc16 a) F (fun a => (wM cI cZ ad mb mo mn mg mf mt mz ml mi)) (fun a => [(0, .ref (ad 0)), (1, .int x1), (2, .int a.1), (3, .int a.2.1)]) (fun a => [.int a.2.2]) 42 ?_ (fun j42 => ?_)
    · intro a42 H locs ls hP hS hl hM
      unfold M_X9_isBare_42 at hM
      refine lv_istore (lv' := [(4, .int a42.2.2), (0, .ref (ad 0)), (1, .int x1), (2, .int a42.1), (3, .int a42.2.1)]) hx hb dX9_isBare_42 hl (by decide) rfl (fun ls hl => ?_)
      refine lv_iload hx hb dX9_isBare_44 (lv_at hl 0 rfl) ?_
      refine lv_if_eq (tgt := 71) hx hb dX9_isBare_46 (by decide) (fun hc => ?_) (fun hc => ?_)
      · have hM := if_pp hc hM
        exact j71 (a42.1, a42.2.1) _ _ _ hP hS (lv_sub hl [1, 2, 3, 4] rfl) hM
      · have hM := if_nn hc hM
        refine lv_aload_n hx hb dX9_isBare_49 rfl (lv_at hl 1 rfl) ?_
        refine g_get (ci := 9) (C := RX9) (T := TX9) (N := 32) (v := .ref (ad 1)) F hP 0 rfl rfl inX9_isBare_X9 2 (by decide) (List.mem_of_getElem? (i := 2) rfl) rfl dX9_isBare_50 ?_
        refine lv_iload_n hx hb dX9_isBare_53 rfl (lv_at hl 2 rfl) ?_
        obtain ⟨hin, hM⟩ := if_ok hM
        refine va_iald hx hb hK hP 1 0 rfl rfl hin dX9_isBare_54 ?_
        refine lv_bipush (v := 103) hx hb dX9_isBare_55 (by decide) ?_
        refine lv_icmp_eq (tgt := 125) hx hb dX9_isBare_57 (by decide) (fun hc => ?_) (fun hc => ?_)
        · have hM := if_pp hc hM
          exact j125 (a42.1, a42.2.1) _ _ _ hP hS (lv_sub hl [1, 2, 3, 4] rfl) hM
        · have hM := if_nn hc hM
          refine lv_aload_n hx hb dX9_isBare_60 rfl (lv_at hl 1 rfl) ?_
          refine g_get (ci := 9) (C := RX9) (T := TX9) (N := 32) (v := .ref (ad 1)) F hP 0 rfl rfl inX9_isBare_X9 2 (by decide) (List.mem_of_getElem? (i := 2) rfl) rfl dX9_isBare_61 ?_
          refine lv_iload_n hx hb dX9_isBare_64 rfl (lv_at hl 2 rfl) ?_
          obtain ⟨hin, hM⟩ := if_ok hM
          refine va_iald hx hb hK hP 1 0 rfl rfl hin dX9_isBare_65 ?_
          refine lv_bipush (v := 100) hx hb dX9_isBare_66 (by decide) ?_
          refine lv_icmp_eq (tgt := 125) hx hb dX9_isBare_68 (by decide) (fun hc => ?_) (fun hc => ?_)
          · have hM := if_pp hc hM
            exact j125 (a42.1, a42.2.1) _ _ _ hP hS (lv_sub hl [1, 2, 3, 4] rfl) hM
          · have hM := if_nn hc hM
            exact j71 (a42.1, a42.2.1) _ _ _ hP hS (lv_sub hl [1, 2, 3, 4] rfl) hM
    refine lv_iload_n hx hb dX9_isBare_16 rfl (lv_at hl 3 rfl) ?_
    refine lv_aload_n hx hb dX9_isBare_17 rfl (lv_at hl 0 rfl) ?_
    refine g_get (ci := 9) (C := RX9) (T := TX9) (N := 32) (v := .int mb.2.2.2.2.1) F hP 0 rfl rfl inX9_isBare_X9 8 (by decide) (List.mem_of_getElem? (i := 1) rfl) rfl dX9_isBare_18 ?_
    refine lv_icmp_ge (tgt := 153) hx hb dX9_isBare_21 (by decide) (fun hc => ?_) (fun hc => ?_)
    · have hM := if_pp hc hM
      refine lv_iload_n hx hb dX9_isBare_153 rfl (lv_at hl 2 rfl) ?_
      obtain ⟨hnz, hM⟩ := if_ok hM
      exact ret_z hx hb hr hlk dX9_isBare_154 (nar_z hnz) (some_u hM) hP hS
    · have hM := if_nn hc hM
      refine lv_aload_n hx hb dX9_isBare_24 rfl (lv_at hl 0 rfl) ?_
      refine lv_iload_n hx hb dX9_isBare_25 rfl (lv_at hl 3 rfl) ?_
      obtain ⟨z26, hcr, hM⟩ := ob_s hM
      refine res_i0 F hP hS rfl [0, 1, 2, 3, 4, 5, 6, 7, 8, 9, 10, 11, 12] rfl rfl (runV_of (n := 1) (As := [.int a16.2]) (rest := []) F hP hS rfl [0, 1, 2, 3, 4, 5, 6, 7, 8, 9, 10, 11, 12] rfl rfl (c_X9_seenBy l dC dI cI cC cZ sa ad mb mo mn mg mf mt mz ml mi a16.2 hcr _) gX9_isBare_X9_seenBy rfl (by decide +kernel) ⟨Nat.le_of_ble_eq_true rfl, Nat.le_of_ble_eq_true rfl⟩ 0 9 rfl rfl rfl hl.1 rfl (Nat.le_of_ble_eq_true rfl) dX9_isBare_26 ⟨Nat.zero_le _, Nat.zero_le _⟩) (fun H locs hP hS => ?_)
      refine lv_iload_n hx hb dX9_isBare_29 rfl (lv_at hl 1 rfl) ?_
      refine lv_ishr hx hb dX9_isBare_30 ?_
      refine lv_iconst (v := 1) hx hb dX9_isBare_31 (by decide) ?_
      refine lv_iand hx hb dX9_isBare_32 ?_
      refine lv_iconst (v := 1) hx hb dX9_isBare_33 (by decide) ?_
      refine lv_icmp_ne (tgt := 41) hx hb dX9_isBare_34 (by decide) (fun hc => ?_) (fun hc => ?_)
      · have hM := if_nn hc hM
        refine lv_iconst (v := 0) hx hb dX9_isBare_41 (by decide) ?_
        exact j42 (a16.1, a16.2, (0 : Int32)) _ _ _ hP hS (lv_sub hl [0, 1, 2, 3] rfl) hM
      · have hM := if_pp hc hM
        refine lv_iconst (v := 1) hx hb dX9_isBare_37 (by decide) ?_
        refine lv_goto (tgt := 42) hx hb dX9_isBare_38 (by decide) ?_
        exact j42 (a16.1, a16.2, (1 : Int32)) _ _ _ hP hS (lv_sub hl [0, 1, 2, 3] rfl) hM
  refine kblk (α := Int32) (res := res) (fun a => M_X9_isBare_13 mb x1 a) F (fun a => (wM cI cZ ad mb mo mn mg mf mt mz ml mi)) (fun a => [(0, .ref (ad 0)), (1, .int x1)]) (fun a => [.int a]) 13 ?_ (fun j13 => ?_)
  · intro a13 H locs ls hP hS hl hM
    unfold M_X9_isBare_13 at hM
    refine lv_istore_n (lv' := [(2, .int a13), (0, .ref (ad 0)), (1, .int x1)]) hx hb dX9_isBare_13 rfl hl (by decide) rfl (fun ls hl => ?_)
    refine lv_iconst (v := 0) hx hb dX9_isBare_14 (by decide) ?_
    refine lv_istore_n (lv' := [(3, .int (0 : Int32)), (2, .int a13), (0, .ref (ad 0)), (1, .int x1)]) hx hb dX9_isBare_15 rfl hl (by decide) rfl (fun ls hl => ?_)
    exact j16 200 (a13, (0 : Int32)) _ _ _ hP hS (lv_sub hl [2, 3, 1, 0] rfl) hM
  refine lv_aload_n hx hb dX9_isBare_0 rfl (lv_at hl 0 rfl) ?_
  refine lv_iload_n hx hb dX9_isBare_1 rfl (lv_at hl 1 rfl) ?_
  obtain ⟨z2, hcr, hM⟩ := ob_s hM
  refine res_i0 F hP hS rfl [0, 1, 2, 3, 4, 5, 6, 7, 8, 9, 10, 11, 12] rfl rfl (runV_of (n := 1) (As := [.int x1]) (rest := []) F hP hS rfl [0, 1, 2, 3, 4, 5, 6, 7, 8, 9, 10, 11, 12] rfl rfl (c_X9_isWall l dC dI cI cC cZ sa ad mb mo mn mg mf mt mz ml mi x1 hcr _) gX9_isBare_X9_isWall rfl (by decide +kernel) ⟨Nat.le_of_ble_eq_true rfl, Nat.le_of_ble_eq_true rfl⟩ 0 9 rfl rfl rfl hl.1 rfl (Nat.le_of_ble_eq_true rfl) dX9_isBare_2 ⟨Nat.zero_le _, Nat.zero_le _⟩) (fun H locs hP hS => ?_)
  refine lv_if_ne (tgt := 12) hx hb dX9_isBare_5 (by decide) (fun hc => ?_) (fun hc => ?_)
  · have hM := if_nn hc hM
    refine lv_iconst (v := 0) hx hb dX9_isBare_12 (by decide) ?_
    exact j13 (0 : Int32) _ _ _ hP hS (lv_sub hl [0, 1] rfl) hM
  · have hM := if_pp hc hM
    refine lv_iconst (v := 1) hx hb dX9_isBare_8 (by decide) ?_
    refine lv_goto (tgt := 13) hx hb dX9_isBare_9 (by decide) ?_
    exact j13 (1 : Int32) _ _ _ hP hS (lv_sub hl [0, 1] rfl) hM
set_option maxHeartbeats 4000000 in
set_option maxRecDepth 100000 in
theorem c_X9_bare (l : Launch) (dC : Nat → ClassId) (dI : Nat → Nat → Nat) (cI cC cZ : ClassId) (sa : Nat → Nat) (ad : Nat → Nat) (mb : BT) (mo : OT) (mn : NT) (mg : GT) (mf : AR) (mt : TT) (mz : AR) (ml : LT) (mi : IT)  {res : Int32} (hM : M_X9_bare mb = some res) : CTi l (dC, dI) [(cI, .int), (cC, .char), (cZ, .boolean)] sa yX9_bare wsX9_bare (rmd 6) [.ref (ad 0)] (wM cI cZ ad mb mo mn mg mf mt mz ml mi) (fun (_ : Unit) => (wM cI cZ ad mb mo mn mg mf mt mz ml mi)) (res, ()) := by
  refine CTi.enter (own := RX9) (cc := cX9_bare) (maxL := 3) (ret := (some .int)) (by decide) rfl rfl (Nat.le_of_ble_eq_true rfl) ?_
  intro pr e s m below meth c A F hr hlk hP hS ls hl
  obtain ⟨⟨hx, hb, hml, hown, hts⟩, hK, hDD, hA, hKC⟩ := id F
  have hl : lv_has ls 3 [(0, .ref (ad 0))] := hl
  have hP : va_P (dC, dI) vwCl (wM cI cZ ad mb mo mn mg mf mt mz ml mi) s.heap := hP
  unfold M_X9_bare at hM
  refine kloop (α := Int32 × Int32) (res := res) (fun k a => M_X9_bare_4 mb k a) (fun rec a => M_X9_bare_4b mb rec a) (fun _ => rfl) (fun _ _ => rfl) F (fun a => (wM cI cZ ad mb mo mn mg mf mt mz ml mi)) (fun a => [(0, .ref (ad 0)), (1, .int a.1), (2, .int a.2)]) (fun a => []) 4 ?_ (fun j4 => ?_)
  · intro rc4 ih4 a4 H locs ls hP hS hl hM
    unfold M_X9_bare_4b at hM
    refine kblk (α := Int32 × Int32 × Int32) (res := res) (fun a => M_X9_bare_28 mb rc4 a) F (fun a => (wM cI cZ ad mb mo mn mg mf mt mz ml mi)) (fun a => [(0, .ref (ad 0)), (2, .int a.1)]) (fun a => [.int a.2.1, .int a.2.2]) 28 ?_ (fun j28 => ?_)
    · intro a28 H locs ls hP hS hl hM
      unfold M_X9_bare_28 at hM
      refine lv_ior hx hb dX9_bare_28 ?_
      refine lv_istore_n (lv' := [(1, .int (a28.2.2 ||| a28.2.1)), (0, .ref (ad 0)), (2, .int a28.1)]) hx hb dX9_bare_29 rfl hl (by decide) rfl (fun ls hl => ?_)
      refine lv_iinc (v := (a28.1 + (1 : Int32))) (lv' := [(2, .int (a28.1 + (1 : Int32))), (1, .int (a28.2.2 ||| a28.2.1)), (0, .ref (ad 0))]) hx hb dX9_bare_30 hl (k := 2) rfl rfl (by decide) rfl (fun ls hl => ?_)
      refine lv_goto (tgt := 4) hx hb dX9_bare_33 (by decide) ?_
      exact ih4 ((a28.2.2 ||| a28.2.1), (a28.1 + (1 : Int32))) _ _ _ hP hS (lv_sub hl [2, 1, 0] rfl) hM
    refine lv_iload_n hx hb dX9_bare_4 rfl (lv_at hl 2 rfl) ?_
    refine lv_aload_n hx hb dX9_bare_5 rfl (lv_at hl 0 rfl) ?_
    obtain ⟨z6, hcr, hM⟩ := ob_s hM
    refine res_i0 F hP hS rfl [0, 1, 2, 3, 4, 5, 6, 7, 8, 9, 10, 11, 12] rfl rfl (runV_of (n := 0) (As := []) (rest := [.int a4.2]) F hP hS rfl [0, 1, 2, 3, 4, 5, 6, 7, 8, 9, 10, 11, 12] rfl rfl (c_X9_cells l dC dI cI cC cZ sa ad mb mo mn mg mf mt mz ml mi hcr _) gX9_bare_X9_cells rfl (by decide +kernel) ⟨Nat.le_of_ble_eq_true rfl, Nat.le_of_ble_eq_true rfl⟩ 0 9 rfl rfl rfl hl.1 rfl (Nat.le_of_ble_eq_true rfl) dX9_bare_6 ⟨Nat.zero_le _, Nat.zero_le _⟩) (fun H locs hP hS => ?_)
    refine lv_icmp_ge (tgt := 36) hx hb dX9_bare_9 (by decide) (fun hc => ?_) (fun hc => ?_)
    · have hM := if_pp hc hM
      refine lv_iload_n hx hb dX9_bare_36 rfl (lv_at hl 1 rfl) ?_
      exact ret_i hx hb hr hlk dX9_bare_37 (some_u hM) hP hS
    · have hM := if_nn hc hM
      refine lv_iload_n hx hb dX9_bare_12 rfl (lv_at hl 1 rfl) ?_
      refine lv_aload_n hx hb dX9_bare_13 rfl (lv_at hl 0 rfl) ?_
      refine lv_iload_n hx hb dX9_bare_14 rfl (lv_at hl 2 rfl) ?_
      obtain ⟨z15, hcr, hM⟩ := ob_s hM
      refine res_i0 F hP hS rfl [0, 1, 2, 3, 4, 5, 6, 7, 8, 9, 10, 11, 12] rfl rfl (runV_of (n := 1) (As := [.int a4.2]) (rest := [.int a4.1]) F hP hS rfl [0, 1, 2, 3, 4, 5, 6, 7, 8, 9, 10, 11, 12] rfl rfl (c_X9_isBare l dC dI cI cC cZ sa ad mb mo mn mg mf mt mz ml mi a4.2 hcr _) gX9_bare_X9_isBare rfl (by decide +kernel) ⟨Nat.le_of_ble_eq_true rfl, Nat.le_of_ble_eq_true rfl⟩ 0 9 rfl rfl rfl hl.1 rfl (Nat.le_of_ble_eq_true rfl) dX9_bare_15 ⟨Nat.zero_le _, Nat.zero_le _⟩) (fun H locs hP hS => ?_)
      refine lv_if_eq (tgt := 27) hx hb dX9_bare_18 (by decide) (fun hc => ?_) (fun hc => ?_)
      · have hM := if_pp hc hM
        refine lv_iconst (v := 0) hx hb dX9_bare_27 (by decide) ?_
        exact j28 (a4.2, (0 : Int32), a4.1) _ _ _ hP hS (lv_sub hl [0, 2] rfl) hM
      · have hM := if_nn hc hM
        refine lv_iconst (v := 1) hx hb dX9_bare_21 (by decide) ?_
        refine lv_iload_n hx hb dX9_bare_22 rfl (lv_at hl 2 rfl) ?_
        refine lv_ishl hx hb dX9_bare_23 ?_
        refine lv_goto (tgt := 28) hx hb dX9_bare_24 (by decide) ?_
        exact j28 (a4.2, ((1 : Int32) <<< (a4.2 &&& 31)), a4.1) _ _ _ hP hS (lv_sub hl [0, 2] rfl) hM
  refine lv_iconst (v := 0) hx hb dX9_bare_0 (by decide) ?_
  refine lv_istore_n (lv' := [(1, .int (0 : Int32)), (0, .ref (ad 0))]) hx hb dX9_bare_1 rfl hl (by decide) rfl (fun ls hl => ?_)
  refine lv_iconst (v := 0) hx hb dX9_bare_2 (by decide) ?_
  refine lv_istore_n (lv' := [(2, .int (0 : Int32)), (1, .int (0 : Int32)), (0, .ref (ad 0))]) hx hb dX9_bare_3 rfl hl (by decide) rfl (fun ls hl => ?_)
  exact j4 200 ((0 : Int32), (0 : Int32)) _ _ _ hP hS (lv_sub hl [2, 1, 0] rfl) hM
theorem inX9_begin_X9 : ∀ w ∈ wsX90, w ∈ wsX9_begin := fun w h => List.mem_cons_of_mem _ (List.mem_append_right _ h)
set_option maxHeartbeats 4000000 in
set_option maxRecDepth 100000 in
theorem c_X9_begin (l : Launch) (dC : Nat → ClassId) (dI : Nat → Nat → Nat) (cI cC cZ : ClassId) (sa : Nat → Nat) (ad : Nat → Nat) (mb : BT) (mo : OT) (mn : NT) (mg : GT) (mf : AR) (mt : TT) (mz : AR) (ml : LT) (mi : IT)  {res : NT} (hM : M_X9_begin mb mn = some res) : CTv l (dC, dI) [(cI, .int), (cC, .char), (cZ, .boolean)] sa yX9_begin wsX9_begin (rmd 2) [.ref (ad 0)] (wM cI cZ ad mb mo mn mg mf mt mz ml mi) (fun (uu : NT) => (wM cI cZ ad mb mo uu mg mf mt mz ml mi)) res := by
  refine CTv.enter (own := RX9) (cc := cX9_begin) (maxL := 1) (ret := none) (by decide) rfl rfl (Nat.le_of_ble_eq_true rfl) ?_
  intro pr e s m below meth c A F hr hlk hP hS ls hl
  obtain ⟨⟨hx, hb, hml, hown, hts⟩, hK, hDD, hA, hKC⟩ := id F
  have hl : lv_has ls 1 [(0, .ref (ad 0))] := hl
  have hP : va_P (dC, dI) vwCl (wM cI cZ ad mb mo mn mg mf mt mz ml mi) s.heap := hP
  unfold M_X9_begin at hM
  refine lv_aload_n hx hb dX9_begin_0 rfl (lv_at hl 0 rfl) ?_
  refine lv_iconst (v := 0) hx hb dX9_begin_1 (by decide) ?_
  obtain ⟨hnz, hM⟩ := if_ok hM
  refine g_put (ws' := (wM cI cZ ad mb mo (mn.1, (0 : Int32), mn.2.2.1, mn.2.2.2) mg mf mt mz ml mi)) (ci := 9) (C := RX9) (T := TX9) (N := 32) (v := .int (0 : Int32)) (ty := .boolean) F hP hS rfl tyX9 tyX9_ok nmX9 0 rfl rfl inX9_begin_X9 13 (by decide) (List.mem_of_getElem? (i := 1) rfl) rfl (by decide +kernel) (nar_z hnz) (fit_z hnz) (Nat.le_of_ble_eq_true rfl) dX9_begin_2 rfl (fun H locs hP hS => ?_)
  refine lv_aload_n hx hb dX9_begin_5 rfl (lv_at hl 0 rfl) ?_
  refine lv_iconst (v := 0) hx hb dX9_begin_6 (by decide) ?_
  refine g_put (ws' := (wM cI cZ ad mb mo (mn.1, (0 : Int32), (0 : Int32), mn.2.2.2) mg mf mt mz ml mi)) (ci := 9) (C := RX9) (T := TX9) (N := 32) (v := .int (0 : Int32)) (ty := .int) F hP hS rfl tyX9 tyX9_ok nmX9 0 rfl rfl inX9_begin_X9 14 (by decide) (List.mem_of_getElem? (i := 2) rfl) rfl (by decide +kernel) rfl rfl (Nat.le_of_ble_eq_true rfl) dX9_begin_7 rfl (fun H locs hP hS => ?_)
  refine lv_aload_n hx hb dX9_begin_10 rfl (lv_at hl 0 rfl) ?_
  refine lv_iconst (v := 0) hx hb dX9_begin_11 (by decide) ?_
  refine g_put (ws' := (wM cI cZ ad mb mo (mn.1, (0 : Int32), (0 : Int32), (0 : Int32)) mg mf mt mz ml mi)) (ci := 9) (C := RX9) (T := TX9) (N := 32) (v := .int (0 : Int32)) (ty := .int) F hP hS rfl tyX9 tyX9_ok nmX9 0 rfl rfl inX9_begin_X9 15 (by decide) (List.mem_of_getElem? (i := 3) rfl) rfl (by decide +kernel) rfl rfl (Nat.le_of_ble_eq_true rfl) dX9_begin_12 rfl (fun H locs hP hS => ?_)
  refine lv_aload_n hx hb dX9_begin_15 rfl (lv_at hl 0 rfl) ?_
  refine lv_aload_n hx hb dX9_begin_16 rfl (lv_at hl 0 rfl) ?_
  refine g_get (ci := 9) (C := RX9) (T := TX9) (N := 32) (v := .int mb.2.2.1) F hP 0 rfl rfl inX9_begin_X9 3 (by decide) (List.mem_of_getElem? (i := 4) rfl) rfl dX9_begin_17 ?_
  obtain ⟨z20, hcr, hM⟩ := ob_s hM
  refine res_v (ws' := (wM cI cZ ad mb mo z20 mg mf mt mz ml mi)) F hP hS rfl [0, 1, 2, 3, 4, 5, 6, 7, 8, 9, 10, 11, 12] rfl rfl (runV_of (n := 1) (As := [.int mb.2.2.1]) (rest := []) F hP hS rfl [0, 1, 2, 3, 4, 5, 6, 7, 8, 9, 10, 11, 12] rfl rfl (c_X9_arrive l dC dI cI cC cZ sa ad mb mo (mn.1, (0 : Int32), (0 : Int32), (0 : Int32)) mg mf mt mz ml mi mb.2.2.1 hcr _) gX9_begin_X9_arrive rfl (by decide +kernel) ⟨Nat.le_of_ble_eq_true rfl, Nat.le_of_ble_eq_true rfl⟩ 0 9 rfl rfl rfl hl.1 rfl (Nat.le_of_ble_eq_true rfl) dX9_begin_20 ⟨Nat.zero_le _, Nat.zero_le _⟩) rep_full (fun H locs hP hS => ?_)
  exact ret_v hx hb hr hlk dX9_begin_23 hM hP hS
set_option maxHeartbeats 4000000 in
set_option maxRecDepth 100000 in
theorem c_X9_isSort (l : Launch) (dC : Nat → ClassId) (dI : Nat → Nat → Nat) (cI cC cZ : ClassId) (sa : Nat → Nat)  (x1 : Int32) {res : Int32} (hM : M_X9_isSort x1 = some res) : CTi l (dC, dI) [(cI, .int), (cC, .char), (cZ, .boolean)] sa yX9_isSort wsX9_isSort (rmd 1) [.int x1] ([] : va_W) (fun (_ : Unit) => ([] : va_W)) (res, ()) := by
  refine CTi.enter (own := RX9) (cc := cX9_isSort) (maxL := 1) (ret := (some .boolean)) (by decide) rfl rfl (Nat.le_of_ble_eq_true rfl) ?_
  intro pr e s m below meth c A F hr hlk hP hS ls hl
  obtain ⟨⟨hx, hb, hml, hown, hts⟩, hK, hDD, hA, hKC⟩ := id F
  have hl : lv_has ls 1 [(0, .int x1)] := hl
  have hP : va_P (dC, dI) vwCl ([] : va_W) s.heap := hP
  unfold M_X9_isSort at hM
  refine lv_iload_n hx hb dX9_isSort_0 rfl (lv_at hl 0 rfl) ?_
  refine lv_bipush (v := 46) hx hb dX9_isSort_1 (by decide) ?_
  refine lv_icmp_eq (tgt := 30) hx hb dX9_isSort_3 (by decide) (fun hc => ?_) (fun hc => ?_)
  · have hM := if_pp hc hM
    refine lv_iconst (v := 1) hx hb dX9_isSort_30 (by decide) ?_
    refine lv_goto (tgt := 35) hx hb dX9_isSort_31 (by decide) ?_
    exact ret_z hx hb hr hlk dX9_isSort_35 (by decide) (some_u hM) hP hS
  · have hM := if_nn hc hM
    refine lv_iload_n hx hb dX9_isSort_6 rfl (lv_at hl 0 rfl) ?_
    refine lv_bipush (v := 103) hx hb dX9_isSort_7 (by decide) ?_
    refine lv_icmp_eq (tgt := 30) hx hb dX9_isSort_9 (by decide) (fun hc => ?_) (fun hc => ?_)
    · have hM := if_pp hc hM
      refine lv_iconst (v := 1) hx hb dX9_isSort_30 (by decide) ?_
      refine lv_goto (tgt := 35) hx hb dX9_isSort_31 (by decide) ?_
      exact ret_z hx hb hr hlk dX9_isSort_35 (by decide) (some_u hM) hP hS
    · have hM := if_nn hc hM
      refine lv_iload_n hx hb dX9_isSort_12 rfl (lv_at hl 0 rfl) ?_
      refine lv_bipush (v := 99) hx hb dX9_isSort_13 (by decide) ?_
      refine lv_icmp_eq (tgt := 30) hx hb dX9_isSort_15 (by decide) (fun hc => ?_) (fun hc => ?_)
      · have hM := if_pp hc hM
        refine lv_iconst (v := 1) hx hb dX9_isSort_30 (by decide) ?_
        refine lv_goto (tgt := 35) hx hb dX9_isSort_31 (by decide) ?_
        exact ret_z hx hb hr hlk dX9_isSort_35 (by decide) (some_u hM) hP hS
      · have hM := if_nn hc hM
        refine lv_iload_n hx hb dX9_isSort_18 rfl (lv_at hl 0 rfl) ?_
        refine lv_bipush (v := 100) hx hb dX9_isSort_19 (by decide) ?_
        refine lv_icmp_eq (tgt := 30) hx hb dX9_isSort_21 (by decide) (fun hc => ?_) (fun hc => ?_)
        · have hM := if_pp hc hM
          refine lv_iconst (v := 1) hx hb dX9_isSort_30 (by decide) ?_
          refine lv_goto (tgt := 35) hx hb dX9_isSort_31 (by decide) ?_
          exact ret_z hx hb hr hlk dX9_isSort_35 (by decide) (some_u hM) hP hS
        · have hM := if_nn hc hM
          refine lv_iload_n hx hb dX9_isSort_24 rfl (lv_at hl 0 rfl) ?_
          refine lv_bipush (v := 35) hx hb dX9_isSort_25 (by decide) ?_
          refine lv_icmp_ne (tgt := 34) hx hb dX9_isSort_27 (by decide) (fun hc => ?_) (fun hc => ?_)
          · have hM := if_nn hc hM
            refine lv_iconst (v := 0) hx hb dX9_isSort_34 (by decide) ?_
            exact ret_z hx hb hr hlk dX9_isSort_35 (by decide) (some_u hM) hP hS
          · have hM := if_pp hc hM
            refine lv_iconst (v := 1) hx hb dX9_isSort_30 (by decide) ?_
            refine lv_goto (tgt := 35) hx hb dX9_isSort_31 (by decide) ?_
            exact ret_z hx hb hr hlk dX9_isSort_35 (by decide) (some_u hM) hP hS
