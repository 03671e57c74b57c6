/-! Walks, printed by wip/whole/gen.py -/
theorem inX9_refusal_X9 : ∀ w ∈ wsX90, w ∈ wsX9_refusal := fun w h => List.mem_cons_of_mem _ (List.mem_append_right _ h)
set_option maxHeartbeats 4000000 in
set_option maxRecDepth 100000 in
theorem c_X9_refusal (l : Launch) (dC : Nat → ClassId) (dI : Nat → Nat → Nat) (cI cC cZ : ClassId) (sa : Nat → Nat) (ad : Nat → Nat) (mb : BT) (mo : OT) (mn : NT) (mg : GT) (mf : AR) (mt : TT) (mz : AR) (ml : LT) (mi : IT)  {res : Int32 × NT × GT} (hM : M_X9_refusal mb mo mn mg = some res) : CTi l (dC, dI) [(cI, .int), (cC, .char), (cZ, .boolean)] sa yX9_refusal wsX9_refusal (rmd 8) [.ref (ad 0)] (wM cI cZ ad mb mo mn mg mf mt mz ml mi) (fun (uu : NT × GT) => (wM cI cZ ad mb mo uu.1 uu.2 mf mt mz ml mi)) res := by
  refine CTi.enter (own := RX9) (cc := cX9_refusal) (maxL := 1) (ret := (some .int)) (by decide) rfl rfl (Nat.le_of_ble_eq_true rfl) ?_
  intro pr e s m below meth c A F hr hlk hP hS ls hl
  obtain ⟨⟨hx, hb, hml, hown, hts⟩, hK, hDD, hA, hKC⟩ := id F
  have hl : lv_has ls 1 [(0, .ref (ad 0))] := hl
  have hP : va_P (dC, dI) vwCl (wM cI cZ ad mb mo mn mg mf mt mz ml mi) s.heap := hP
  unfold M_X9_refusal at hM
  refine lv_aload_n hx hb dX9_refusal_0 rfl (lv_at hl 0 rfl) ?_
  refine lv_iconst (v := 1) hx hb dX9_refusal_1 (by decide) ?_
  obtain ⟨z2, hcr, hM⟩ := ob_s hM
  refine res_i0 F hP hS rfl [0, 1, 2, 3, 4, 5, 6, 7, 8, 9, 10, 11, 12] rfl rfl (runV_of (n := 1) (As := [.int (1 : Int32)]) (rest := []) F hP hS rfl [0, 1, 2, 3, 4, 5, 6, 7, 8, 9, 10, 11, 12] rfl rfl (c_X9_fault l dC dI cI cC cZ sa ad mb mo mn mg mf mt mz ml mi (1 : Int32) hcr _) gX9_refusal_X9_fault rfl (by decide +kernel) ⟨Nat.le_of_ble_eq_true rfl, Nat.le_of_ble_eq_true rfl⟩ 0 9 rfl rfl rfl hl.1 rfl (Nat.le_of_ble_eq_true rfl) dX9_refusal_2 ⟨Nat.zero_le _, Nat.zero_le _⟩) (fun H locs hP hS => ?_)
  refine lv_if_lt (tgt := 11) hx hb dX9_refusal_5 (by decide) (fun hc => ?_) (fun hc => ?_)
  · have hM := if_pp hc hM
    refine lv_aload_n hx hb dX9_refusal_11 rfl (lv_at hl 0 rfl) ?_
    obtain ⟨z12, hcr, hM⟩ := ob_s hM
    refine res_v (ws' := (wM cI cZ ad mb mo z12.1 z12.2 mf mt mz ml mi)) F hP hS rfl [0, 1, 2, 3, 4, 5, 6, 7, 8, 9, 10, 11, 12] rfl rfl (runV_of (n := 0) (As := []) (rest := []) F hP hS rfl [0, 1, 2, 3, 4, 5, 6, 7, 8, 9, 10, 11, 12] rfl rfl (c_X9_goWalk l dC dI cI cC cZ sa ad mb mo mn mg mf mt mz ml mi hcr _) gX9_refusal_X9_goWalk rfl (by decide +kernel) ⟨Nat.le_of_ble_eq_true rfl, Nat.le_of_ble_eq_true rfl⟩ 0 9 rfl rfl rfl hl.1 rfl (Nat.le_of_ble_eq_true rfl) dX9_refusal_12 ⟨Nat.zero_le _, Nat.zero_le _⟩) rep_full (fun H locs hP hS => ?_)
    refine lv_aload_n hx hb dX9_refusal_15 rfl (lv_at hl 0 rfl) ?_
    refine g_get (ci := 9) (C := RX9) (T := TX9) (N := 32) (v := .int z12.2.1) F hP 0 rfl rfl inX9_refusal_X9 16 (by decide) (List.mem_of_getElem? (i := 1) rfl) rfl dX9_refusal_16 ?_
    refine lv_if_lt (tgt := 27) hx hb dX9_refusal_19 (by decide) (fun hc => ?_) (fun hc => ?_)
    · have hM := if_pp hc hM
      refine lv_bipush (v := -6) hx hb dX9_refusal_27 (by decide) ?_
      exact ret_i hx hb hr hlk dX9_refusal_29 hM hP hS
    · have hM := if_nn hc hM
      refine lv_bipush (v := -3) hx hb dX9_refusal_22 (by decide) ?_
      refine lv_goto (tgt := 29) hx hb dX9_refusal_24 (by decide) ?_
      exact ret_i hx hb hr hlk dX9_refusal_29 hM hP hS
  · have hM := if_nn hc hM
    refine lv_bipush (v := -5) hx hb dX9_refusal_8 (by decide) ?_
    exact ret_i hx hb hr hlk dX9_refusal_10 hM hP hS
theorem inX9_judge_X9 : ∀ w ∈ wsX90, w ∈ wsX9_judge := fun w h => List.mem_cons_of_mem _ (List.mem_append_right _ h)
set_option maxHeartbeats 4000000 in
set_option maxRecDepth 100000 in
theorem c_X9_judge (l : Launch) (dC : Nat → ClassId) (dI : Nat → Nat → Nat) (cI cC cZ : ClassId) (sa : Nat → Nat) (ad : Nat → Nat) (mb : BT) (mo : OT) (mn : NT) (mg : GT) (mf : AR) (mt : TT) (mz : AR) (ml : LT) (mi : IT) (x1 : Int32) {res : Int32 × NT × GT} (hM : M_X9_judge mb mo mn mg x1 = some res) : CTi l (dC, dI) [(cI, .int), (cC, .char), (cZ, .boolean)] sa yX9_judge wsX9_judge (rmd 9) [.ref (ad 0), .int x1] (wM cI cZ ad mb mo mn mg mf mt mz ml mi) (fun (uu : NT × GT) => (wM cI cZ ad mb mo uu.1 uu.2 mf mt mz ml mi)) res := by
  refine CTi.enter (own := RX9) (cc := cX9_judge) (maxL := 3) (ret := (some .int)) (by decide) rfl rfl (Nat.le_of_ble_eq_true rfl) ?_
  intro pr e s m below meth c A F hr hlk hP hS ls hl
  obtain ⟨⟨hx, hb, hml, hown, hts⟩, hK, hDD, hA, hKC⟩ := id F
  have hl : lv_has ls 3 [(0, .ref (ad 0)), (1, .int x1)] := hl
  have hP : va_P (dC, dI) vwCl (wM cI cZ ad mb mo mn mg mf mt mz ml mi) s.heap := hP
  unfold M_X9_judge at hM
  refine kblk (α := NT × GT) (res := res) (fun a => M_X9_judge_38 mb mo x1 a) F (fun a => (wM cI cZ ad mb mo a.1 a.2 mf mt mz ml mi)) (fun a => [(0, .ref (ad 0)), (1, .int x1)]) (fun a => []) 38 ?_ (fun j38 => ?_)
  · intro a38 H locs ls hP hS hl hM
    unfold M_X9_judge_38 at hM
    refine lv_iload_n hx hb dX9_judge_38 rfl (lv_at hl 1 rfl) ?_
    by_cases hc0 : x1 = (0 : Int32)
    · have hM := if_pp hc0 hM
      refine lv_tableIn (off := 33) (tgt := 72) hx hb dX9_judge_39 (by rw [hc0]; decide) (by rw [hc0]; decide) (by rw [hc0]; rfl) (by decide) ?_
      refine lv_aload_n hx hb dX9_judge_72 rfl (lv_at hl 0 rfl) ?_
      refine g_get (ci := 9) (C := RX9) (T := TX9) (N := 32) (v := .int a38.2.1) F hP 0 rfl rfl inX9_judge_X9 16 (by decide) (List.mem_of_getElem? (i := 2) rfl) rfl dX9_judge_73 ?_
      exact ret_i hx hb hr hlk dX9_judge_76 hM hP hS
    · have hM := if_nn hc0 hM
      by_cases hc1 : x1 = (1 : Int32)
      · have hM := if_pp hc1 hM
        refine lv_tableIn (off := 38) (tgt := 77) hx hb dX9_judge_39 (by rw [hc1]; decide) (by rw [hc1]; decide) (by rw [hc1]; rfl) (by decide) ?_
        refine lv_aload_n hx hb dX9_judge_77 rfl (lv_at hl 0 rfl) ?_
        refine g_get (ci := 9) (C := RX9) (T := TX9) (N := 32) (v := .int a38.2.2.1) F hP 0 rfl rfl inX9_judge_X9 17 (by decide) (List.mem_of_getElem? (i := 3) rfl) rfl dX9_judge_78 ?_
        exact ret_i hx hb hr hlk dX9_judge_81 hM hP hS
      · have hM := if_nn hc1 hM
        by_cases hc2 : x1 = (2 : Int32)
        · have hM := if_pp hc2 hM
          refine lv_tableIn (off := 43) (tgt := 82) hx hb dX9_judge_39 (by rw [hc2]; decide) (by rw [hc2]; decide) (by rw [hc2]; rfl) (by decide) ?_
          refine lv_aload_n hx hb dX9_judge_82 rfl (lv_at hl 0 rfl) ?_
          refine g_get (ci := 9) (C := RX9) (T := TX9) (N := 32) (v := .int a38.2.2.2.1) F hP 0 rfl rfl inX9_judge_X9 18 (by decide) (List.mem_of_getElem? (i := 4) rfl) rfl dX9_judge_83 ?_
          exact ret_i hx hb hr hlk dX9_judge_86 hM hP hS
        · have hM := if_nn hc2 hM
          by_cases hc3 : x1 = (3 : Int32)
          · have hM := if_pp hc3 hM
            refine lv_tableIn (off := 48) (tgt := 87) hx hb dX9_judge_39 (by rw [hc3]; decide) (by rw [hc3]; decide) (by rw [hc3]; rfl) (by decide) ?_
            refine lv_aload_n hx hb dX9_judge_87 rfl (lv_at hl 0 rfl) ?_
            refine g_get (ci := 9) (C := RX9) (T := TX9) (N := 32) (v := .int a38.2.2.2.2.1) F hP 0 rfl rfl inX9_judge_X9 19 (by decide) (List.mem_of_getElem? (i := 5) rfl) rfl dX9_judge_88 ?_
            exact ret_i hx hb hr hlk dX9_judge_91 hM hP hS
          · have hM := if_nn hc3 hM
            by_cases hc4 : x1 = (4 : Int32)
            · have hM := if_pp hc4 hM
              refine lv_tableIn (off := 53) (tgt := 92) hx hb dX9_judge_39 (by rw [hc4]; decide) (by rw [hc4]; decide) (by rw [hc4]; rfl) (by decide) ?_
              refine lv_aload_n hx hb dX9_judge_92 rfl (lv_at hl 0 rfl) ?_
              refine g_get (ci := 9) (C := RX9) (T := TX9) (N := 32) (v := .int a38.2.2.2.2.2.1) F hP 0 rfl rfl inX9_judge_X9 20 (by decide) (List.mem_of_getElem? (i := 6) rfl) rfl dX9_judge_93 ?_
              exact ret_i hx hb hr hlk dX9_judge_96 hM hP hS
            · have hM := if_nn hc4 hM
              have hn0 := lv_neT hc0 (a := 0) (by decide)
              have hn1 := lv_neT hc1 (a := 1) (by decide)
              have hn2 := lv_neT hc2 (a := 2) (by decide)
              have hn3 := lv_neT hc3 (a := 3) (by decide)
              have hn4 := lv_neT hc4 (a := 4) (by decide)
              refine lv_tableOut (tgt := 97) hx hb dX9_judge_39 (by omega) (by decide) ?_
              refine lv_aload_n hx hb dX9_judge_97 rfl (lv_at hl 0 rfl) ?_
              refine g_get (ci := 9) (C := RX9) (T := TX9) (N := 32) (v := .int a38.1.1) F hP 0 rfl rfl inX9_judge_X9 12 (by decide) (List.mem_of_getElem? (i := 7) rfl) rfl dX9_judge_98 ?_
              exact ret_i hx hb hr hlk dX9_judge_101 hM hP hS
  refine lv_iload_n hx hb dX9_judge_0 rfl (lv_at hl 1 rfl) ?_
  refine lv_i2l (v := x1.toInt64) hx hb dX9_judge_1 rfl ?_
  refine lv_lconst (v := 0) hx hb dX9_judge_2 (by decide) ?_
  refine lv_ldc2 (v := 5) hx hb hown (hts _ (List.mem_of_getElem? (i := 1) rfl)) dX9_judge_3 ?_
  obtain ⟨z6, hcr, hM⟩ := ob_s hM
  refine res_i0 F hP hS rfl [] rfl rfl (runS_of (n := 3) (As := [.long x1.toInt64, .long (0 : Int64), .long (5 : Int64)]) (rest := []) F hP hS rfl [] rfl rfl (c_X9_in l dC dI cI cC cZ sa x1.toInt64 (0 : Int64) (5 : Int64) hcr _) gX9_judge_X9_in rfl (by decide +kernel) ⟨Nat.le_of_ble_eq_true rfl, Nat.le_of_ble_eq_true rfl⟩ rfl hl.1 rfl (Nat.le_of_ble_eq_true rfl) dX9_judge_6 ⟨Nat.zero_le _, Nat.zero_le _⟩) (fun H locs hP hS => ?_)
  refine lv_if_ne (tgt := 15) hx hb dX9_judge_9 (by decide) (fun hc => ?_) (fun hc => ?_)
  · have hM := if_nn hc hM
    refine lv_aload_n hx hb dX9_judge_15 rfl (lv_at hl 0 rfl) ?_
    obtain ⟨z16, hcr, hM⟩ := ob_s hM
    refine res_i (ws' := (wM cI cZ ad mb mo z16.2.1 z16.2.2 mf mt mz ml mi)) F hP hS rfl [0, 1, 2, 3, 4, 5, 6, 7, 8, 9, 10, 11, 12] rfl rfl (runV_of (n := 0) (As := []) (rest := []) F hP hS rfl [0, 1, 2, 3, 4, 5, 6, 7, 8, 9, 10, 11, 12] rfl rfl (c_X9_refusal l dC dI cI cC cZ sa ad mb mo mn mg mf mt mz ml mi hcr _) gX9_judge_X9_refusal rfl (by decide +kernel) ⟨Nat.le_of_ble_eq_true rfl, Nat.le_of_ble_eq_true rfl⟩ 0 9 rfl rfl rfl hl.1 rfl (Nat.le_of_ble_eq_true rfl) dX9_judge_16 ⟨Nat.zero_le _, Nat.zero_le _⟩) rep_full (fun H locs hP hS => ?_)
    refine lv_istore_n (lv' := [(2, .int z16.1), (0, .ref (ad 0)), (1, .int x1)]) hx hb dX9_judge_19 rfl hl (by decide) rfl (fun ls hl => ?_)
    refine lv_iload_n hx hb dX9_judge_20 rfl (lv_at hl 0 rfl) ?_
    refine lv_bipush (v := -5) hx hb dX9_judge_21 (by decide) ?_
    refine lv_icmp_eq (tgt := 36) hx hb dX9_judge_23 (by decide) (fun hc => ?_) (fun hc => ?_)
    · have hM := if_pp hc hM
      refine lv_iload_n hx hb dX9_judge_36 rfl (lv_at hl 0 rfl) ?_
      exact ret_i hx hb hr hlk dX9_judge_37 hM hP hS
    · have hM := if_nn hc hM
      refine lv_iload_n hx hb dX9_judge_26 rfl (lv_at hl 2 rfl) ?_
      refine lv_if_le (tgt := 38) hx hb dX9_judge_27 (by decide) (fun hc => ?_) (fun hc => ?_)
      · have hM := if_pp hc hM
        exact j38 (z16.2.1, z16.2.2) _ _ _ hP hS (lv_sub hl [1, 2] rfl) hM
      · have hM := if_nn hc hM
        refine lv_iload_n hx hb dX9_judge_30 rfl (lv_at hl 0 rfl) ?_
        refine lv_bipush (v := -6) hx hb dX9_judge_31 (by decide) ?_
        refine lv_icmp_eq (tgt := 38) hx hb dX9_judge_33 (by decide) (fun hc => ?_) (fun hc => ?_)
        · have hM := if_pp hc hM
          exact j38 (z16.2.1, z16.2.2) _ _ _ hP hS (lv_sub hl [1, 2] rfl) hM
        · have hM := if_nn hc hM
          refine lv_iload_n hx hb dX9_judge_36 rfl (lv_at hl 0 rfl) ?_
          exact ret_i hx hb hr hlk dX9_judge_37 hM hP hS
  · have hM := if_pp hc hM
    refine lv_bipush (v := -2) hx hb dX9_judge_12 (by decide) ?_
    exact ret_i hx hb hr hlk dX9_judge_14 hM hP hS
theorem inX9_leads_X9 : ∀ w ∈ wsX90, w ∈ wsX9_leads := fun w h => List.mem_cons_of_mem _ (List.mem_append_right _ h)
set_option maxHeartbeats 4000000 in
set_option maxRecDepth 100000 in
theorem c_X9_leads (l : Launch) (dC : Nat → ClassId) (dI : Nat → Nat → Nat) (cI cC cZ : ClassId) (sa : Nat → Nat) (ad : Nat → Nat) (mb : BT) (mo : OT) (mn : NT) (mg : GT) (mf : AR) (mt : TT) (mz : AR) (ml : LT) (mi : IT) (x1 : Int32) (x2 : Int32) (x3 : Int32) {res : Int32} (hM : M_X9_leads mb mf x1 x2 x3 = some res) : CTi l (dC, dI) [(cI, .int), (cC, .char), (cZ, .boolean)] sa yX9_leads wsX9_leads (rmd 3) [.ref (ad 0), .int x1, .int x2, .int x3] (wM cI cZ ad mb mo mn mg mf mt mz ml mi) (fun (_ : Unit) => (wM cI cZ ad mb mo mn mg mf mt mz ml mi)) (res, ()) := by
  refine CTi.enter (own := RX9) (cc := cX9_leads) (maxL := 5) (ret := (some .boolean)) (by decide) rfl rfl (Nat.le_of_ble_eq_true rfl) ?_
  intro pr e s m below meth c A F hr hlk hP hS ls hl
  obtain ⟨⟨hx, hb, hml, hown, hts⟩, hK, hDD, hA, hKC⟩ := id F
  have hl : lv_has ls 5 [(0, .ref (ad 0)), (1, .int x1), (2, .int x2), (3, .int x3)] := hl
  have hP : va_P (dC, dI) vwCl (wM cI cZ ad mb mo mn mg mf mt mz ml mi) s.heap := hP
  unfold M_X9_leads at hM
  refine lv_aload_n hx hb dX9_leads_0 rfl (lv_at hl 0 rfl) ?_
  refine lv_iload_n hx hb dX9_leads_1 rfl (lv_at hl 1 rfl) ?_
  refine lv_iload_n hx hb dX9_leads_2 rfl (lv_at hl 2 rfl) ?_
  obtain ⟨z3, hcr, hM⟩ := ob_s hM
  refine res_i0 F hP hS rfl [0, 1, 2, 3, 4, 5, 6, 7, 8, 9, 10, 11, 12] rfl rfl (runV_of (n := 2) (As := [.int x1, .int x2]) (rest := []) F hP hS rfl [0, 1, 2, 3, 4, 5, 6, 7, 8, 9, 10, 11, 12] rfl rfl (c_X9_beyond l dC dI cI cC cZ sa ad mb mo mn mg mf mt mz ml mi x1 x2 hcr _) gX9_leads_X9_beyond rfl (by decide +kernel) ⟨Nat.le_of_ble_eq_true rfl, Nat.le_of_ble_eq_true rfl⟩ 0 9 rfl rfl rfl hl.1 rfl (Nat.le_of_ble_eq_true rfl) dX9_leads_3 ⟨Nat.zero_le _, Nat.zero_le _⟩) (fun H locs hP hS => ?_)
  refine lv_istore (lv' := [(4, .int z3), (0, .ref (ad 0)), (1, .int x1), (2, .int x2), (3, .int x3)]) hx hb dX9_leads_6 hl (by decide) rfl (fun ls hl => ?_)
  refine lv_iload hx hb dX9_leads_8 (lv_at hl 0 rfl) ?_
  refine lv_if_lt (tgt := 45) hx hb dX9_leads_10 (by decide) (fun hc => ?_) (fun hc => ?_)
  · have hM := if_pp hc hM
    refine lv_iconst (v := 0) hx hb dX9_leads_45 (by decide) ?_
    exact ret_z hx hb hr hlk dX9_leads_46 (by decide) (some_u hM) hP hS
  · have hM := if_nn hc hM
    refine lv_iload_n hx hb dX9_leads_13 rfl (lv_at hl 4 rfl) ?_
    refine lv_iload hx hb dX9_leads_14 (lv_at hl 0 rfl) ?_
    refine lv_ishr hx hb dX9_leads_16 ?_
    refine lv_iconst (v := 1) hx hb dX9_leads_17 (by decide) ?_
    refine lv_iand hx hb dX9_leads_18 ?_
    refine lv_iconst (v := 1) hx hb dX9_leads_19 (by decide) ?_
    refine lv_icmp_ne (tgt := 45) hx hb dX9_leads_20 (by decide) (fun hc => ?_) (fun hc => ?_)
    · have hM := if_nn hc hM
      refine lv_iconst (v := 0) hx hb dX9_leads_45 (by decide) ?_
      exact ret_z hx hb hr hlk dX9_leads_46 (by decide) (some_u hM) hP hS
    · have hM := if_pp hc hM
      refine lv_aload_n hx hb dX9_leads_23 rfl (lv_at hl 1 rfl) ?_
      refine g_get (ci := 9) (C := RX9) (T := TX9) (N := 32) (v := .ref (ad 6)) F hP 0 rfl rfl inX9_leads_X9 22 (by decide) (List.mem_of_getElem? (i := 1) rfl) rfl dX9_leads_24 ?_
      refine lv_iload hx hb dX9_leads_27 (lv_at hl 0 rfl) ?_
      obtain ⟨hin, hM⟩ := if_ok hM
      refine va_iald hx hb hK hP 6 0 rfl rfl hin dX9_leads_29 ?_
      refine lv_aload_n hx hb dX9_leads_30 rfl (lv_at hl 1 rfl) ?_
      refine g_get (ci := 9) (C := RX9) (T := TX9) (N := 32) (v := .ref (ad 6)) F hP 0 rfl rfl inX9_leads_X9 22 (by decide) (List.mem_of_getElem? (i := 1) rfl) rfl dX9_leads_31 ?_
      refine lv_iload_n hx hb dX9_leads_34 rfl (lv_at hl 2 rfl) ?_
      obtain ⟨hin, hM⟩ := if_ok hM
      refine va_iald hx hb hK hP 6 0 rfl rfl hin dX9_leads_35 ?_
      refine lv_iconst (v := 1) hx hb dX9_leads_36 (by decide) ?_
      refine lv_isub hx hb dX9_leads_37 ?_
      refine lv_icmp_ne (tgt := 45) hx hb dX9_leads_38 (by decide) (fun hc => ?_) (fun hc => ?_)
      · have hM := if_nn hc hM
        refine lv_iconst (v := 0) hx hb dX9_leads_45 (by decide) ?_
        exact ret_z hx hb hr hlk dX9_leads_46 (by decide) (some_u hM) hP hS
      · have hM := if_pp hc hM
        refine lv_iconst (v := 1) hx hb dX9_leads_41 (by decide) ?_
        refine lv_goto (tgt := 46) hx hb dX9_leads_42 (by decide) ?_
        exact ret_z hx hb hr hlk dX9_leads_46 (by decide) (some_u hM) hP hS
theorem inX9_layWay_X9 : ∀ w ∈ wsX90, w ∈ wsX9_layWay := fun w h => List.mem_cons_of_mem _ (List.mem_append_right _ h)
set_option maxHeartbeats 4000000 in
set_option maxRecDepth 100000 in
theorem c_X9_layWay (l : Launch) (dC : Nat → ClassId) (dI : Nat → Nat → Nat) (cI cC cZ : ClassId) (sa : Nat → Nat) (ad : Nat → Nat) (mb : BT) (mo : OT) (mn : NT) (mg : GT) (mf : AR) (mt : TT) (mz : AR) (ml : LT) (mi : IT) (x1 : Int32) (x2 : Int32) (x3 : Int32) {res : AR × TT} (hM : M_X9_layWay mb mf mt x1 x2 x3 = some res) : CTv l (dC, dI) [(cI, .int), (cC, .char), (cZ, .boolean)] sa yX9_layWay wsX9_layWay (rmd 4) [.ref (ad 0), .int x1, .int x2, .int x3] (wM cI cZ ad mb mo mn mg mf mt mz ml mi) (fun (uu : AR × TT) => (wM cI cZ ad mb mo mn mg uu.1 uu.2 mz ml mi)) res := by
  refine CTv.enter (own := RX9) (cc := cX9_layWay) (maxL := 6) (ret := none) (by decide) rfl rfl (Nat.le_of_ble_eq_true rfl) ?_
  intro pr e s m below meth c A F hr hlk hP hS ls hl
  obtain ⟨⟨hx, hb, hml, hown, hts⟩, hK, hDD, hA, hKC⟩ := id F
  have hl : lv_has ls 6 [(0, .ref (ad 0)), (1, .int x1), (2, .int x2), (3, .int x3)] := hl
  have hP : va_P (dC, dI) vwCl (wM cI cZ ad mb mo mn mg mf mt mz ml mi) s.heap := hP
  unfold M_X9_layWay at hM
  refine kloop (α := AR × TT × Int32) (res := res) (fun k a => M_X9_layWay_9 mb x1 x2 x3 k a) (fun rec a => M_X9_layWay_9b mb x1 x2 x3 rec a) (fun _ => rfl) (fun _ _ => rfl) F (fun a => (wM cI cZ ad mb mo mn mg a.1 a.2.1 mz ml mi)) (fun a => [(0, .ref (ad 0)), (2, .int x2), (3, .int x3), (4, .int a.2.2)]) (fun a => []) 9 ?_ (fun j9 => ?_)
  · intro rc9 ih9 a9 H locs ls hP hS hl hM
    unfold M_X9_layWay_9b at hM
    refine kblk (α := AR × TT × Int32 × Int32) (res := res) (fun a => M_X9_layWay_36 mb x1 x2 x3 rc9 a) F (fun a => (wM cI cZ ad mb mo mn mg a.1 a.2.1 mz ml mi)) (fun a => [(0, .ref (ad 0)), (2, .int x2), (3, .int x3), (4, .int a.2.2.1), (5, .int a.2.2.2)]) (fun a => []) 36 ?_ (fun j36 => ?_)
    · intro a36 H locs ls hP hS hl hM
      unfold M_X9_layWay_36 at hM
      refine lv_aload_n hx hb dX9_layWay_36 rfl (lv_at hl 0 rfl) ?_
      refine g_get (ci := 9) (C := RX9) (T := TX9) (N := 32) (v := .ref (ad 7)) F hP 0 rfl rfl inX9_layWay_X9 23 (by decide) (List.mem_of_getElem? (i := 1) rfl) rfl dX9_layWay_37 ?_
      refine lv_aload_n hx hb dX9_layWay_40 rfl (lv_at hl 0 rfl) ?_
      refine g_get (ci := 9) (C := RX9) (T := TX9) (N := 32) (v := .int a36.2.1.1) F hP 0 rfl rfl inX9_layWay_X9 24 (by decide) (List.mem_of_getElem? (i := 2) rfl) rfl dX9_layWay_41 ?_
      refine lv_iload hx hb dX9_layWay_44 (lv_at hl 4 rfl) ?_
      obtain ⟨z46, hcr, hM⟩ := ob_s hM
      refine res_i0 F hP hS rfl [] rfl rfl (runS_of (n := 1) (As := [.int a36.2.2.2]) (rest := [.int a36.2.1.1, .ref (ad 7)]) F hP hS rfl [] rfl rfl (c_X9_codeOf l dC dI cI cC cZ sa a36.2.2.2 hcr _) gX9_layWay_X9_codeOf rfl (by decide +kernel) ⟨Nat.le_of_ble_eq_true rfl, Nat.le_of_ble_eq_true rfl⟩ rfl hl.1 rfl (Nat.le_of_ble_eq_true rfl) dX9_layWay_46 ⟨Nat.zero_le _, Nat.zero_le _⟩) (fun H locs hP hS => ?_)
      obtain ⟨hin, hM⟩ := if_ok hM
      refine g_iast (ws' := (wM cI cZ ad mb mo mn mg a36.1 (a36.2.1.1, (upd a36.2.1.2 a36.2.1.1.toNatClampNeg z46)) mz ml mi)) F hP hS rfl 7 0 rfl rfl hin dX9_layWay_49 rfl (fun H locs hP hS => ?_)
      refine lv_aload_n hx hb dX9_layWay_50 rfl (lv_at hl 0 rfl) ?_
      refine lv_dup hx hb dX9_layWay_51 rfl ?_
      refine g_get (ci := 9) (C := RX9) (T := TX9) (N := 32) (v := .int a36.2.1.1) F hP 0 rfl rfl inX9_layWay_X9 24 (by decide) (List.mem_of_getElem? (i := 2) rfl) rfl dX9_layWay_52 ?_
      refine lv_iconst (v := 1) hx hb dX9_layWay_55 (by decide) ?_
      refine lv_iadd hx hb dX9_layWay_56 ?_
      refine g_put (ws' := (wM cI cZ ad mb mo mn mg a36.1 ((a36.2.1.1 + (1 : Int32)), (upd a36.2.1.2 a36.2.1.1.toNatClampNeg z46)) mz ml mi)) (ci := 9) (C := RX9) (T := TX9) (N := 32) (v := .int (a36.2.1.1 + (1 : Int32))) (ty := .int) F hP hS rfl tyX9 tyX9_ok nmX9 0 rfl rfl inX9_layWay_X9 24 (by decide) (List.mem_of_getElem? (i := 2) rfl) rfl (by decide +kernel) rfl rfl (Nat.le_of_ble_eq_true rfl) dX9_layWay_57 rfl (fun H locs hP hS => ?_)
      refine lv_aload_n hx hb dX9_layWay_60 rfl (lv_at hl 0 rfl) ?_
      refine lv_iload hx hb dX9_layWay_61 (lv_at hl 3 rfl) ?_
      refine lv_iload hx hb dX9_layWay_63 (lv_at hl 4 rfl) ?_
      obtain ⟨z65, hcr, hM⟩ := ob_s hM
      refine res_i0 F hP hS rfl [0, 1, 2, 3, 4, 5, 6, 7, 8, 9, 10, 11, 12] rfl rfl (runV_of (n := 2) (As := [.int a36.2.2.1, .int a36.2.2.2]) (rest := []) F hP hS rfl [0, 1, 2, 3, 4, 5, 6, 7, 8, 9, 10, 11, 12] rfl rfl (c_X9_beyond l dC dI cI cC cZ sa ad mb mo mn mg a36.1 ((a36.2.1.1 + (1 : Int32)), (upd a36.2.1.2 a36.2.1.1.toNatClampNeg z46)) mz ml mi a36.2.2.1 a36.2.2.2 hcr _) gX9_layWay_X9_beyond rfl (by decide +kernel) ⟨Nat.le_of_ble_eq_true rfl, Nat.le_of_ble_eq_true rfl⟩ 0 9 rfl rfl rfl hl.1 rfl (Nat.le_of_ble_eq_true rfl) dX9_layWay_65 ⟨Nat.zero_le _, Nat.zero_le _⟩) (fun H locs hP hS => ?_)
      refine lv_istore (lv' := [(4, .int z65), (0, .ref (ad 0)), (2, .int x2), (3, .int x3), (5, .int a36.2.2.2)]) hx hb dX9_layWay_68 hl (by decide) rfl (fun ls hl => ?_)
      refine lv_goto (tgt := 9) hx hb dX9_layWay_70 (by decide) ?_
      exact ih9 (a36.1, ((a36.2.1.1 + (1 : Int32)), (upd a36.2.1.2 a36.2.1.1.toNatClampNeg z46)), z65) _ _ _ hP hS (lv_sub hl [1, 2, 3, 0] rfl) hM
    refine kloop (α := AR × TT × Int32 × Int32) (res := res) (fun k a => M_X9_layWay_18 mb x1 x2 x3 rc9 k a) (fun rec a => M_X9_layWay_18b mb x1 x2 x3 rc9 rec a) (fun _ => rfl) (fun _ _ => rfl) F (fun a => (wM cI cZ ad mb mo mn mg a.1 a.2.1 mz ml mi)) (fun a => [(0, .ref (ad 0)), (2, .int x2), (3, .int x3), (4, .int a.2.2.1), (5, .int a.2.2.2)]) (fun a => []) 18 ?_ (fun j18 => ?_)
    · intro rc18 ih18 a18 H locs ls hP hS hl hM
      unfold M_X9_layWay_18b at hM
      refine lv_aload_n hx hb dX9_layWay_18 rfl (lv_at hl 0 rfl) ?_
      refine lv_iload hx hb dX9_layWay_19 (lv_at hl 3 rfl) ?_
      refine lv_iload hx hb dX9_layWay_21 (lv_at hl 4 rfl) ?_
      refine lv_iload_n hx hb dX9_layWay_23 rfl (lv_at hl 2 rfl) ?_
      obtain ⟨z24, hcr, hM⟩ := ob_s hM
      refine res_i0 F hP hS rfl [0, 1, 2, 3, 4, 5, 6, 7, 8, 9, 10, 11, 12] rfl rfl (runV_of (n := 3) (As := [.int a18.2.2.1, .int a18.2.2.2, .int x3]) (rest := []) F hP hS rfl [0, 1, 2, 3, 4, 5, 6, 7, 8, 9, 10, 11, 12] rfl rfl (c_X9_leads l dC dI cI cC cZ sa ad mb mo mn mg a18.1 a18.2.1 mz ml mi a18.2.2.1 a18.2.2.2 x3 hcr _) gX9_layWay_X9_leads rfl (by decide +kernel) ⟨Nat.le_of_ble_eq_true rfl, Nat.le_of_ble_eq_true rfl⟩ 0 9 rfl rfl rfl hl.1 rfl (Nat.le_of_ble_eq_true rfl) dX9_layWay_24 ⟨Nat.zero_le _, Nat.zero_le _⟩) (fun H locs hP hS => ?_)
      refine lv_if_ne (tgt := 36) hx hb dX9_layWay_27 (by decide) (fun hc => ?_) (fun hc => ?_)
      · have hM := if_nn hc hM
        exact j36 (a18.1, a18.2.1, a18.2.2.1, a18.2.2.2) _ _ _ hP hS (lv_sub hl [0, 1, 2, 3, 4] rfl) hM
      · have hM := if_pp hc hM
        refine lv_iinc (v := (a18.2.2.2 + (1 : Int32))) (lv' := [(5, .int (a18.2.2.2 + (1 : Int32))), (0, .ref (ad 0)), (2, .int x2), (3, .int x3), (4, .int a18.2.2.1)]) hx hb dX9_layWay_30 hl (k := 4) rfl rfl (by decide) rfl (fun ls hl => ?_)
        refine lv_goto (tgt := 18) hx hb dX9_layWay_33 (by decide) ?_
        exact ih18 (a18.1, a18.2.1, a18.2.2.1, (a18.2.2.2 + (1 : Int32))) _ _ _ hP hS (lv_sub hl [1, 2, 3, 4, 0] rfl) hM
    refine lv_iload hx hb dX9_layWay_9 (lv_at hl 3 rfl) ?_
    refine lv_iload_n hx hb dX9_layWay_11 rfl (lv_at hl 1 rfl) ?_
    refine lv_icmp_eq (tgt := 73) hx hb dX9_layWay_12 (by decide) (fun hc => ?_) (fun hc => ?_)
    · have hM := if_pp hc hM
      exact ret_v hx hb hr hlk dX9_layWay_73 hM hP hS
    · have hM := if_nn hc hM
      refine lv_iconst (v := 0) hx hb dX9_layWay_15 (by decide) ?_
      refine lv_istore (lv' := [(5, .int (0 : Int32)), (0, .ref (ad 0)), (2, .int x2), (3, .int x3), (4, .int a9.2.2)]) hx hb dX9_layWay_16 hl (by decide) rfl (fun ls hl => ?_)
      exact j18 200 (a9.1, a9.2.1, a9.2.2, (0 : Int32)) _ _ _ hP hS (lv_sub hl [1, 2, 3, 4, 0] rfl) hM
  refine lv_aload_n hx hb dX9_layWay_0 rfl (lv_at hl 0 rfl) ?_
  refine lv_iload_n hx hb dX9_layWay_1 rfl (lv_at hl 2 rfl) ?_
  refine lv_iload_n hx hb dX9_layWay_2 rfl (lv_at hl 3 rfl) ?_
  obtain ⟨z3, hcr, hM⟩ := ob_s hM
  refine res_v (ws' := (wM cI cZ ad mb mo mn mg z3 mt mz ml mi)) F hP hS rfl [0, 1, 2, 3, 4, 5, 6, 7, 8, 9, 10, 11, 12] rfl rfl (runV_of (n := 2) (As := [.int x2, .int x3]) (rest := []) F hP hS rfl [0, 1, 2, 3, 4, 5, 6, 7, 8, 9, 10, 11, 12] rfl rfl (c_X9_findFar l dC dI cI cC cZ sa ad mb mo mn mg mf mt mz ml mi x2 x3 hcr _) gX9_layWay_X9_findFar rfl (by decide +kernel) ⟨Nat.le_of_ble_eq_true rfl, Nat.le_of_ble_eq_true rfl⟩ 0 9 rfl rfl rfl hl.1 rfl (Nat.le_of_ble_eq_true rfl) dX9_layWay_3 ⟨Nat.zero_le _, Nat.zero_le _⟩) rep_full (fun H locs hP hS => ?_)
  refine lv_iload_n hx hb dX9_layWay_6 rfl (lv_at hl 1 rfl) ?_
  refine lv_istore (lv' := [(4, .int x1), (0, .ref (ad 0)), (1, .int x1), (2, .int x2), (3, .int x3)]) hx hb dX9_layWay_7 hl (by decide) rfl (fun ls hl => ?_)
  exact j9 200 (z3, mt, x1) _ _ _ hP hS (lv_sub hl [1, 3, 4, 0] rfl) hM
