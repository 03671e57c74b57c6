/-! The law's walk, printed -/
set_option maxHeartbeats 40000000 in
set_option maxRecDepth 100000 in
theorem law_walk {pr : Program} {e : Env} {s : State} {m : MethodId} {below : List Frame} {meth : Method} {c : Code} (l : Launch) (dC : Nat → ClassId) (dI : Nat → Nat → Nat) (cI cC cZ : ClassId) (sa : Nat → Nat) {b L : Nat} {xs : Nat → Int32} (C0 : lw_At pr s m meth c b L xs) (ax am : Nat → Nat) (p : PT) (h : HT) (v : VT) (k1 : Int32) (h1 : HT) (v1 : VT) (k2 : Int32) (h2 : HT) (v2 : VT) (r : RT) (d : DT) (y : YT) (q : QT) (mb : BT) (mo : OT) (mn : NT) (mg : GT) (mf : AR) (mt : TT) (mz : AR) (ml : LT) (mi : IT) (F : FX pr s m #[Value.ref b] c code 4 wsL_law RL (dC, dI) [(cI, .int), (cC, .char), (cZ, .boolean)] (fun q => s.heap.size ≤ q) [(ax 0), (ax 1), (ax 2), (ax 3), (ax 4), (ax 5), (ax 6), (ax 7), (ax 8), (ax 9), (ax 10), (ax 11), (ax 12), (ax 13), (ax 14), (ax 15), (ax 16), (ax 17), (ax 18), (ax 19), (ax 20), (ax 21), (ax 22), (ax 23), (ax 24), (ax 25), (ax 26), (ax 27), (ax 28), (ax 29), (ax 30), (am 0), (am 1), (am 2), (am 3), (am 4), (am 5), (am 6), (am 7), (am 8), (am 9), (am 10), (am 11), (am 12)] sa) {H : Heap} {locs : List Loc} {ls : Array Slot} (hP : va_P (dC, dI) vwCl (wX cI cC ax p h v k1 h1 v1 k2 h2 v2 r d y q ++ wM cI cZ am mb mo mn mg mf mt mz ml mi) H) (hS : va_S (fun q => s.heap.size ≤ q) s.heap H locs) (hl : lv_has ls 4 [(0, .ref b), (1, .ref (ax 0)), (2, .ref (am 0)), (3, .int 0)]) (hM : M_L_law_18 L xs 200 (p, h, v, k1, h1, v1, k2, h2, v2, r, d, y, q, mb, mo, mn, mg, mf, mt, mz, ml, mi, (0 : Int32)) = some ()) :
    W pr l e room_1 s m #[Value.ref b] below meth c H locs 44 512 (lw_Z below #[Value.ref b] s) (F0 m 18 ls []) := by
  obtain ⟨-, -, hr, -, -, -, hX, hbl, hlk, -⟩ := id C0
  obtain ⟨⟨hx, hb, hml, hown, hts⟩, hK, hDD, hA, hKC⟩ := id F
  have hbA : ¬ (fun q : Nat => s.heap.size ≤ q) b := Nat.not_le.mpr hbl
  generalize hres : () = res at hM
  refine kloop (α := PT × HT × VT × Int32 × HT × VT × Int32 × HT × VT × RT × DT × YT × QT × BT × OT × NT × GT × AR × TT × AR × LT × IT × Int32) (res := res) (fun k a => M_L_law_18 L xs k a) (fun rec a => M_L_law_18b L xs rec a) (fun _ => rfl) (fun _ _ => rfl) F (fun a => (wX cI cC ax a.1 a.2.1 a.2.2.1 a.2.2.2.1 a.2.2.2.2.1 a.2.2.2.2.2.1 a.2.2.2.2.2.2.1 a.2.2.2.2.2.2.2.1 a.2.2.2.2.2.2.2.2.1 a.2.2.2.2.2.2.2.2.2.1 a.2.2.2.2.2.2.2.2.2.2.1 a.2.2.2.2.2.2.2.2.2.2.2.1 a.2.2.2.2.2.2.2.2.2.2.2.2.1 ++ wM cI cZ am a.2.2.2.2.2.2.2.2.2.2.2.2.2.1 a.2.2.2.2.2.2.2.2.2.2.2.2.2.2.1 a.2.2.2.2.2.2.2.2.2.2.2.2.2.2.2.1 a.2.2.2.2.2.2.2.2.2.2.2.2.2.2.2.2.1 a.2.2.2.2.2.2.2.2.2.2.2.2.2.2.2.2.2.1 a.2.2.2.2.2.2.2.2.2.2.2.2.2.2.2.2.2.2.1 a.2.2.2.2.2.2.2.2.2.2.2.2.2.2.2.2.2.2.2.1 a.2.2.2.2.2.2.2.2.2.2.2.2.2.2.2.2.2.2.2.2.1 a.2.2.2.2.2.2.2.2.2.2.2.2.2.2.2.2.2.2.2.2.2.1)) (fun a => [(0, .ref b), (1, .ref (ax 0)), (2, .ref (am 0)), (3, .int a.2.2.2.2.2.2.2.2.2.2.2.2.2.2.2.2.2.2.2.2.2.2)]) (fun a => []) 18 ?_ (fun j18 => ?_)
  · intro rc18 ih18 a18 H locs ls hP hS hl hM
    unfold M_L_law_18b at hM
    refine kblk (α := PT × HT × VT × Int32 × HT × VT × Int32 × HT × VT × RT × DT × YT × QT × BT × OT × NT × GT × AR × TT × AR × LT × IT × Int32) (res := res) (fun a => M_L_law_773 L xs rc18 a) F (fun a => (wX cI cC ax a.1 a.2.1 a.2.2.1 a.2.2.2.1 a.2.2.2.2.1 a.2.2.2.2.2.1 a.2.2.2.2.2.2.1 a.2.2.2.2.2.2.2.1 a.2.2.2.2.2.2.2.2.1 a.2.2.2.2.2.2.2.2.2.1 a.2.2.2.2.2.2.2.2.2.2.1 a.2.2.2.2.2.2.2.2.2.2.2.1 a.2.2.2.2.2.2.2.2.2.2.2.2.1 ++ wM cI cZ am a.2.2.2.2.2.2.2.2.2.2.2.2.2.1 a.2.2.2.2.2.2.2.2.2.2.2.2.2.2.1 a.2.2.2.2.2.2.2.2.2.2.2.2.2.2.2.1 a.2.2.2.2.2.2.2.2.2.2.2.2.2.2.2.2.1 a.2.2.2.2.2.2.2.2.2.2.2.2.2.2.2.2.2.1 a.2.2.2.2.2.2.2.2.2.2.2.2.2.2.2.2.2.2.1 a.2.2.2.2.2.2.2.2.2.2.2.2.2.2.2.2.2.2.2.1 a.2.2.2.2.2.2.2.2.2.2.2.2.2.2.2.2.2.2.2.2.1 a.2.2.2.2.2.2.2.2.2.2.2.2.2.2.2.2.2.2.2.2.2.1)) (fun a => [(0, .ref b), (1, .ref (ax 0)), (2, .ref (am 0)), (3, .int a.2.2.2.2.2.2.2.2.2.2.2.2.2.2.2.2.2.2.2.2.2.2)]) (fun a => []) 773 ?_ (fun j773 => ?_)
    · intro a773 H locs ls hP hS hl hM
      unfold M_L_law_773 at hM
      refine lv_iinc (v := (a773.2.2.2.2.2.2.2.2.2.2.2.2.2.2.2.2.2.2.2.2.2.2 + (4 : Int32))) (lv' := [(3, .int (a773.2.2.2.2.2.2.2.2.2.2.2.2.2.2.2.2.2.2.2.2.2.2 + (4 : Int32))), (0, .ref b), (1, .ref (ax 0)), (2, .ref (am 0))]) hx hb dL_law_773 hl (k := 3) rfl rfl (by decide) rfl (fun ls hl => ?_)
      refine lv_goto (tgt := 18) hx hb dL_law_776 (by decide) ?_
      exact ih18 (a773.1, a773.2.1, a773.2.2.1, a773.2.2.2.1, a773.2.2.2.2.1, a773.2.2.2.2.2.1, a773.2.2.2.2.2.2.1, a773.2.2.2.2.2.2.2.1, a773.2.2.2.2.2.2.2.2.1, a773.2.2.2.2.2.2.2.2.2.1, a773.2.2.2.2.2.2.2.2.2.2.1, a773.2.2.2.2.2.2.2.2.2.2.2.1, a773.2.2.2.2.2.2.2.2.2.2.2.2.1, a773.2.2.2.2.2.2.2.2.2.2.2.2.2.1, a773.2.2.2.2.2.2.2.2.2.2.2.2.2.2.1, a773.2.2.2.2.2.2.2.2.2.2.2.2.2.2.2.1, a773.2.2.2.2.2.2.2.2.2.2.2.2.2.2.2.2.1, a773.2.2.2.2.2.2.2.2.2.2.2.2.2.2.2.2.2.1, a773.2.2.2.2.2.2.2.2.2.2.2.2.2.2.2.2.2.2.1, a773.2.2.2.2.2.2.2.2.2.2.2.2.2.2.2.2.2.2.2.1, a773.2.2.2.2.2.2.2.2.2.2.2.2.2.2.2.2.2.2.2.2.1, a773.2.2.2.2.2.2.2.2.2.2.2.2.2.2.2.2.2.2.2.2.2.1, (a773.2.2.2.2.2.2.2.2.2.2.2.2.2.2.2.2.2.2.2.2.2.2 + (4 : Int32))) _ _ _ hP hS (lv_sub hl [1, 2, 3, 0] rfl) hM
    refine kblk (α := PT × HT × VT × Int32 × HT × VT × Int32 × HT × VT × RT × DT × YT × QT × BT × OT × NT × GT × AR × TT × AR × LT × IT × Int32 × Int32 × Int32 × Int32 × Int32) (res := res) (fun a => M_L_law_356 L xs rc18 a) F (fun a => (wX cI cC ax a.1 a.2.1 a.2.2.1 a.2.2.2.1 a.2.2.2.2.1 a.2.2.2.2.2.1 a.2.2.2.2.2.2.1 a.2.2.2.2.2.2.2.1 a.2.2.2.2.2.2.2.2.1 a.2.2.2.2.2.2.2.2.2.1 a.2.2.2.2.2.2.2.2.2.2.1 a.2.2.2.2.2.2.2.2.2.2.2.1 a.2.2.2.2.2.2.2.2.2.2.2.2.1 ++ wM cI cZ am a.2.2.2.2.2.2.2.2.2.2.2.2.2.1 a.2.2.2.2.2.2.2.2.2.2.2.2.2.2.1 a.2.2.2.2.2.2.2.2.2.2.2.2.2.2.2.1 a.2.2.2.2.2.2.2.2.2.2.2.2.2.2.2.2.1 a.2.2.2.2.2.2.2.2.2.2.2.2.2.2.2.2.2.1 a.2.2.2.2.2.2.2.2.2.2.2.2.2.2.2.2.2.2.1 a.2.2.2.2.2.2.2.2.2.2.2.2.2.2.2.2.2.2.2.1 a.2.2.2.2.2.2.2.2.2.2.2.2.2.2.2.2.2.2.2.2.1 a.2.2.2.2.2.2.2.2.2.2.2.2.2.2.2.2.2.2.2.2.2.1)) (fun a => [(0, .ref b), (1, .ref (ax 0)), (2, .ref (am 0)), (3, .int a.2.2.2.2.2.2.2.2.2.2.2.2.2.2.2.2.2.2.2.2.2.2.1)]) (fun a => [.int a.2.2.2.2.2.2.2.2.2.2.2.2.2.2.2.2.2.2.2.2.2.2.2.1, .int a.2.2.2.2.2.2.2.2.2.2.2.2.2.2.2.2.2.2.2.2.2.2.2.2.1, .int a.2.2.2.2.2.2.2.2.2.2.2.2.2.2.2.2.2.2.2.2.2.2.2.2.2.1, .ref (am 0), .int a.2.2.2.2.2.2.2.2.2.2.2.2.2.2.2.2.2.2.2.2.2.2.2.2.2.2]) 356 ?_ (fun j356 => ?_)
    · intro a356 H locs ls hP hS hl hM
      unfold M_L_law_356 at hM
      obtain ⟨z356, hcr, hM⟩ := ob_s hM
      refine res_i (ws' := (wX cI cC ax a356.1 a356.2.1 a356.2.2.1 a356.2.2.2.1 a356.2.2.2.2.1 a356.2.2.2.2.2.1 a356.2.2.2.2.2.2.1 a356.2.2.2.2.2.2.2.1 a356.2.2.2.2.2.2.2.2.1 a356.2.2.2.2.2.2.2.2.2.1 a356.2.2.2.2.2.2.2.2.2.2.1 a356.2.2.2.2.2.2.2.2.2.2.2.1 a356.2.2.2.2.2.2.2.2.2.2.2.2.1 ++ wM cI cZ am z356.2 a356.2.2.2.2.2.2.2.2.2.2.2.2.2.2.1 a356.2.2.2.2.2.2.2.2.2.2.2.2.2.2.2.1 a356.2.2.2.2.2.2.2.2.2.2.2.2.2.2.2.2.1 a356.2.2.2.2.2.2.2.2.2.2.2.2.2.2.2.2.2.1 a356.2.2.2.2.2.2.2.2.2.2.2.2.2.2.2.2.2.2.1 a356.2.2.2.2.2.2.2.2.2.2.2.2.2.2.2.2.2.2.2.1 a356.2.2.2.2.2.2.2.2.2.2.2.2.2.2.2.2.2.2.2.2.1 a356.2.2.2.2.2.2.2.2.2.2.2.2.2.2.2.2.2.2.2.2.2.1)) F hP hS rfl [31, 32, 33, 34, 35, 36, 37, 38, 39, 40, 41, 42, 43] rfl rfl (runV_of (n := 3) (As := [.int a356.2.2.2.2.2.2.2.2.2.2.2.2.2.2.2.2.2.2.2.2.2.2.2.2.2.1, .int a356.2.2.2.2.2.2.2.2.2.2.2.2.2.2.2.2.2.2.2.2.2.2.2.2.1, .int a356.2.2.2.2.2.2.2.2.2.2.2.2.2.2.2.2.2.2.2.2.2.2.2.1]) (rest := [.int a356.2.2.2.2.2.2.2.2.2.2.2.2.2.2.2.2.2.2.2.2.2.2.2.2.2.2]) F hP hS rfl [31, 32, 33, 34, 35, 36, 37, 38, 39, 40, 41, 42, 43] rfl rfl (c_X9_watch l dC dI cI cC cZ sa am a356.2.2.2.2.2.2.2.2.2.2.2.2.2.1 a356.2.2.2.2.2.2.2.2.2.2.2.2.2.2.1 a356.2.2.2.2.2.2.2.2.2.2.2.2.2.2.2.1 a356.2.2.2.2.2.2.2.2.2.2.2.2.2.2.2.2.1 a356.2.2.2.2.2.2.2.2.2.2.2.2.2.2.2.2.2.1 a356.2.2.2.2.2.2.2.2.2.2.2.2.2.2.2.2.2.2.1 a356.2.2.2.2.2.2.2.2.2.2.2.2.2.2.2.2.2.2.2.1 a356.2.2.2.2.2.2.2.2.2.2.2.2.2.2.2.2.2.2.2.2.1 a356.2.2.2.2.2.2.2.2.2.2.2.2.2.2.2.2.2.2.2.2.2.1 a356.2.2.2.2.2.2.2.2.2.2.2.2.2.2.2.2.2.2.2.2.2.2.2.2.2.1 a356.2.2.2.2.2.2.2.2.2.2.2.2.2.2.2.2.2.2.2.2.2.2.2.2.1 a356.2.2.2.2.2.2.2.2.2.2.2.2.2.2.2.2.2.2.2.2.2.2.2.1 hcr _) gL_law_X9_watch rfl (by decide +kernel) ⟨Nat.le_of_ble_eq_true rfl, Nat.le_of_ble_eq_true rfl⟩ 31 9 rfl rfl rfl hl.1 rfl (Nat.le_of_ble_eq_true rfl) dL_law_356 ⟨Nat.le_of_ble_eq_true rfl, Nat.le_of_ble_eq_true rfl⟩) (rep_suf _ _ _ (show ∀ k ∈ _, 31 ≤ k by decide)) (fun H locs hP hS => ?_)
      refine lv_icmp_eq (tgt := 773) hx hb dL_law_359 (by decide) (fun hc => ?_) (fun hc => ?_)
      · have hM := if_pp hc hM
        exact j773 (a356.1, a356.2.1, a356.2.2.1, a356.2.2.2.1, a356.2.2.2.2.1, a356.2.2.2.2.2.1, a356.2.2.2.2.2.2.1, a356.2.2.2.2.2.2.2.1, a356.2.2.2.2.2.2.2.2.1, a356.2.2.2.2.2.2.2.2.2.1, a356.2.2.2.2.2.2.2.2.2.2.1, a356.2.2.2.2.2.2.2.2.2.2.2.1, a356.2.2.2.2.2.2.2.2.2.2.2.2.1, z356.2, a356.2.2.2.2.2.2.2.2.2.2.2.2.2.2.1, a356.2.2.2.2.2.2.2.2.2.2.2.2.2.2.2.1, a356.2.2.2.2.2.2.2.2.2.2.2.2.2.2.2.2.1, a356.2.2.2.2.2.2.2.2.2.2.2.2.2.2.2.2.2.1, a356.2.2.2.2.2.2.2.2.2.2.2.2.2.2.2.2.2.2.1, a356.2.2.2.2.2.2.2.2.2.2.2.2.2.2.2.2.2.2.2.1, a356.2.2.2.2.2.2.2.2.2.2.2.2.2.2.2.2.2.2.2.2.1, a356.2.2.2.2.2.2.2.2.2.2.2.2.2.2.2.2.2.2.2.2.2.1, a356.2.2.2.2.2.2.2.2.2.2.2.2.2.2.2.2.2.2.2.2.2.2.1) _ _ _ hP hS (lv_sub hl [0, 1, 2, 3] rfl) hM
      · have hM := if_nn hc hM
        refine lv_iconst (v := 0) hx hb dL_law_362 (by decide) ?_
        exact no_s hM
    refine kblk (α := PT × HT × VT × Int32 × HT × VT × Int32 × HT × VT × RT × DT × YT × QT × BT × OT × NT × GT × AR × TT × AR × LT × IT × Int32 × Int32 × Int32 × Int32) (res := res) (fun a => M_L_law_329 L xs rc18 a) F (fun a => (wX cI cC ax a.1 a.2.1 a.2.2.1 a.2.2.2.1 a.2.2.2.2.1 a.2.2.2.2.2.1 a.2.2.2.2.2.2.1 a.2.2.2.2.2.2.2.1 a.2.2.2.2.2.2.2.2.1 a.2.2.2.2.2.2.2.2.2.1 a.2.2.2.2.2.2.2.2.2.2.1 a.2.2.2.2.2.2.2.2.2.2.2.1 a.2.2.2.2.2.2.2.2.2.2.2.2.1 ++ wM cI cZ am a.2.2.2.2.2.2.2.2.2.2.2.2.2.1 a.2.2.2.2.2.2.2.2.2.2.2.2.2.2.1 a.2.2.2.2.2.2.2.2.2.2.2.2.2.2.2.1 a.2.2.2.2.2.2.2.2.2.2.2.2.2.2.2.2.1 a.2.2.2.2.2.2.2.2.2.2.2.2.2.2.2.2.2.1 a.2.2.2.2.2.2.2.2.2.2.2.2.2.2.2.2.2.2.1 a.2.2.2.2.2.2.2.2.2.2.2.2.2.2.2.2.2.2.2.1 a.2.2.2.2.2.2.2.2.2.2.2.2.2.2.2.2.2.2.2.2.1 a.2.2.2.2.2.2.2.2.2.2.2.2.2.2.2.2.2.2.2.2.2.1)) (fun a => [(0, .ref b), (1, .ref (ax 0)), (2, .ref (am 0)), (3, .int a.2.2.2.2.2.2.2.2.2.2.2.2.2.2.2.2.2.2.2.2.2.2.1)]) (fun a => [.int a.2.2.2.2.2.2.2.2.2.2.2.2.2.2.2.2.2.2.2.2.2.2.2.1, .int a.2.2.2.2.2.2.2.2.2.2.2.2.2.2.2.2.2.2.2.2.2.2.2.2.1, .int a.2.2.2.2.2.2.2.2.2.2.2.2.2.2.2.2.2.2.2.2.2.2.2.2.2, .ref (ax 0)]) 329 ?_ (fun j329 => ?_)
    · intro a329 H locs ls hP hS hl hM
      unfold M_L_law_329 at hM
      obtain ⟨z329, hcr, hM⟩ := ob_s hM
      refine res_i (ws' := (wX cI cC ax a329.1 a329.2.1 z329.2 a329.2.2.2.1 a329.2.2.2.2.1 a329.2.2.2.2.2.1 a329.2.2.2.2.2.2.1 a329.2.2.2.2.2.2.2.1 a329.2.2.2.2.2.2.2.2.1 a329.2.2.2.2.2.2.2.2.2.1 a329.2.2.2.2.2.2.2.2.2.2.1 a329.2.2.2.2.2.2.2.2.2.2.2.1 a329.2.2.2.2.2.2.2.2.2.2.2.2.1 ++ wM cI cZ am a329.2.2.2.2.2.2.2.2.2.2.2.2.2.1 a329.2.2.2.2.2.2.2.2.2.2.2.2.2.2.1 a329.2.2.2.2.2.2.2.2.2.2.2.2.2.2.2.1 a329.2.2.2.2.2.2.2.2.2.2.2.2.2.2.2.2.1 a329.2.2.2.2.2.2.2.2.2.2.2.2.2.2.2.2.2.1 a329.2.2.2.2.2.2.2.2.2.2.2.2.2.2.2.2.2.2.1 a329.2.2.2.2.2.2.2.2.2.2.2.2.2.2.2.2.2.2.2.1 a329.2.2.2.2.2.2.2.2.2.2.2.2.2.2.2.2.2.2.2.2.1 a329.2.2.2.2.2.2.2.2.2.2.2.2.2.2.2.2.2.2.2.2.2.1)) F hP hS rfl [0, 1, 2, 3, 4, 5, 6, 7, 8, 9, 10, 11, 12, 13, 14, 15, 16, 17, 18, 19, 20, 21, 22, 23, 24, 25, 26, 27, 28, 29, 30] rfl rfl (runV_of (n := 3) (As := [.int a329.2.2.2.2.2.2.2.2.2.2.2.2.2.2.2.2.2.2.2.2.2.2.2.2.2, .int a329.2.2.2.2.2.2.2.2.2.2.2.2.2.2.2.2.2.2.2.2.2.2.2.2.1, .int a329.2.2.2.2.2.2.2.2.2.2.2.2.2.2.2.2.2.2.2.2.2.2.2.1]) (rest := []) F hP hS rfl [0, 1, 2, 3, 4, 5, 6, 7, 8, 9, 10, 11, 12, 13, 14, 15, 16, 17, 18, 19, 20, 21, 22, 23, 24, 25, 26, 27, 28, 29, 30] rfl rfl (c_X8_watch l dC dI cI cC cZ sa ax a329.1 a329.2.1 a329.2.2.1 a329.2.2.2.1 a329.2.2.2.2.1 a329.2.2.2.2.2.1 a329.2.2.2.2.2.2.1 a329.2.2.2.2.2.2.2.1 a329.2.2.2.2.2.2.2.2.1 a329.2.2.2.2.2.2.2.2.2.1 a329.2.2.2.2.2.2.2.2.2.2.1 a329.2.2.2.2.2.2.2.2.2.2.2.1 a329.2.2.2.2.2.2.2.2.2.2.2.2.1 a329.2.2.2.2.2.2.2.2.2.2.2.2.2.2.2.2.2.2.2.2.2.2.2.2.2 a329.2.2.2.2.2.2.2.2.2.2.2.2.2.2.2.2.2.2.2.2.2.2.2.2.1 a329.2.2.2.2.2.2.2.2.2.2.2.2.2.2.2.2.2.2.2.2.2.2.2.1 hcr _) gL_law_X8_watch rfl (by decide +kernel) ⟨Nat.le_of_ble_eq_true rfl, Nat.le_of_ble_eq_true rfl⟩ 0 8 rfl rfl rfl hl.1 rfl (Nat.le_of_ble_eq_true rfl) dL_law_329 ⟨Nat.le_of_ble_eq_true rfl, Nat.le_of_ble_eq_true rfl⟩) (rep_pre _ _ _ rfl (show ∀ k ∈ _, k < 31 by decide)) (fun H locs hP hS => ?_)
      refine lv_aload_n hx hb dL_law_332 rfl (lv_at hl 2 rfl) ?_
      refine lv_aload_n hx hb dL_law_333 rfl (lv_at hl 0 rfl) ?_
      refine lv_iload_n hx hb dL_law_334 rfl (lv_at hl 3 rfl) ?_
      refine lv_iconst (v := 1) hx hb dL_law_335 (by decide) ?_
      refine lv_iadd hx hb dL_law_336 ?_
      obtain ⟨hin, hM⟩ := if_ok hM
      refine va_sld hx hb hX hbl hbA hS hin dL_law_337 ?_
      refine lv_aload_n hx hb dL_law_338 rfl (lv_at hl 0 rfl) ?_
      refine lv_iload_n hx hb dL_law_339 rfl (lv_at hl 3 rfl) ?_
      refine lv_iconst (v := 2) hx hb dL_law_340 (by decide) ?_
      refine lv_iadd hx hb dL_law_341 ?_
      obtain ⟨hin, hM⟩ := if_ok hM
      refine va_sld hx hb hX hbl hbA hS hin dL_law_342 ?_
      refine lv_aload_n hx hb dL_law_343 rfl (lv_at hl 0 rfl) ?_
      refine lv_iload_n hx hb dL_law_344 rfl (lv_at hl 3 rfl) ?_
      refine lv_iconst (v := 3) hx hb dL_law_345 (by decide) ?_
      refine lv_iadd hx hb dL_law_346 ?_
      obtain ⟨hin, hM⟩ := if_ok hM
      refine va_sld hx hb hX hbl hbA hS hin dL_law_347 ?_
      refine lv_if_eq (tgt := 355) hx hb dL_law_348 (by decide) (fun hc => ?_) (fun hc => ?_)
      · have hM := if_pp hc hM
        refine lv_iconst (v := 0) hx hb dL_law_355 (by decide) ?_
        exact j356 (a329.1, a329.2.1, z329.2, a329.2.2.2.1, a329.2.2.2.2.1, a329.2.2.2.2.2.1, a329.2.2.2.2.2.2.1, a329.2.2.2.2.2.2.2.1, a329.2.2.2.2.2.2.2.2.1, a329.2.2.2.2.2.2.2.2.2.1, a329.2.2.2.2.2.2.2.2.2.2.1, a329.2.2.2.2.2.2.2.2.2.2.2.1, a329.2.2.2.2.2.2.2.2.2.2.2.2.1, a329.2.2.2.2.2.2.2.2.2.2.2.2.2.1, a329.2.2.2.2.2.2.2.2.2.2.2.2.2.2.1, a329.2.2.2.2.2.2.2.2.2.2.2.2.2.2.2.1, a329.2.2.2.2.2.2.2.2.2.2.2.2.2.2.2.2.1, a329.2.2.2.2.2.2.2.2.2.2.2.2.2.2.2.2.2.1, a329.2.2.2.2.2.2.2.2.2.2.2.2.2.2.2.2.2.2.1, a329.2.2.2.2.2.2.2.2.2.2.2.2.2.2.2.2.2.2.2.1, a329.2.2.2.2.2.2.2.2.2.2.2.2.2.2.2.2.2.2.2.2.1, a329.2.2.2.2.2.2.2.2.2.2.2.2.2.2.2.2.2.2.2.2.2.1, a329.2.2.2.2.2.2.2.2.2.2.2.2.2.2.2.2.2.2.2.2.2.2.1, (0 : Int32), (xs (a329.2.2.2.2.2.2.2.2.2.2.2.2.2.2.2.2.2.2.2.2.2.2.1 + (2 : Int32)).toNatClampNeg), (xs (a329.2.2.2.2.2.2.2.2.2.2.2.2.2.2.2.2.2.2.2.2.2.2.1 + (1 : Int32)).toNatClampNeg), z329.1) _ _ _ hP hS (lv_sub hl [0, 1, 2, 3] rfl) hM
      · have hM := if_nn hc hM
        refine lv_iconst (v := 1) hx hb dL_law_351 (by decide) ?_
        refine lv_goto (tgt := 356) hx hb dL_law_352 (by decide) ?_
        exact j356 (a329.1, a329.2.1, z329.2, a329.2.2.2.1, a329.2.2.2.2.1, a329.2.2.2.2.2.1, a329.2.2.2.2.2.2.1, a329.2.2.2.2.2.2.2.1, a329.2.2.2.2.2.2.2.2.1, a329.2.2.2.2.2.2.2.2.2.1, a329.2.2.2.2.2.2.2.2.2.2.1, a329.2.2.2.2.2.2.2.2.2.2.2.1, a329.2.2.2.2.2.2.2.2.2.2.2.2.1, a329.2.2.2.2.2.2.2.2.2.2.2.2.2.1, a329.2.2.2.2.2.2.2.2.2.2.2.2.2.2.1, a329.2.2.2.2.2.2.2.2.2.2.2.2.2.2.2.1, a329.2.2.2.2.2.2.2.2.2.2.2.2.2.2.2.2.1, a329.2.2.2.2.2.2.2.2.2.2.2.2.2.2.2.2.2.1, a329.2.2.2.2.2.2.2.2.2.2.2.2.2.2.2.2.2.2.1, a329.2.2.2.2.2.2.2.2.2.2.2.2.2.2.2.2.2.2.2.1, a329.2.2.2.2.2.2.2.2.2.2.2.2.2.2.2.2.2.2.2.2.1, a329.2.2.2.2.2.2.2.2.2.2.2.2.2.2.2.2.2.2.2.2.2.1, a329.2.2.2.2.2.2.2.2.2.2.2.2.2.2.2.2.2.2.2.2.2.2.1, (1 : Int32), (xs (a329.2.2.2.2.2.2.2.2.2.2.2.2.2.2.2.2.2.2.2.2.2.2.1 + (2 : Int32)).toNatClampNeg), (xs (a329.2.2.2.2.2.2.2.2.2.2.2.2.2.2.2.2.2.2.2.2.2.2.1 + (1 : Int32)).toNatClampNeg), z329.1) _ _ _ hP hS (lv_sub hl [0, 1, 2, 3] rfl) hM
    refine lv_iload_n hx hb dL_law_18 rfl (lv_at hl 3 rfl) ?_
    refine lv_aload_n hx hb dL_law_19 rfl (lv_at hl 0 rfl) ?_
    refine va_slen hx hb hX hbl hbA hS dL_law_20 ?_
    refine lv_iconst (v := 4) hx hb dL_law_21 (by decide) ?_
    refine lv_isub hx hb dL_law_22 ?_
    refine lv_icmp_gt (tgt := 779) hx hb dL_law_23 (by decide) (fun hc => ?_) (fun hc => ?_)
    · have hM := if_pp hc hM
      refine lv_iconst (v := 1) hx hb dL_law_779 (by decide) ?_
      refine va_forget (fun q hq => hS.2.2 q hq) ?_
      refine W.widen (k := 600000) (n := 7302250) (Nat.le_of_ble_eq_true rfl) (Nat.le_of_ble_eq_true rfl) ?_
      exact lw_ret hx hb hr hlk dL_law_780
    · have hM := if_nn hc hM
      refine lv_aload_n hx hb dL_law_26 rfl (lv_at hl 0 rfl) ?_
      refine lv_iload_n hx hb dL_law_27 rfl (lv_at hl 3 rfl) ?_
      obtain ⟨hin, hM⟩ := if_ok hM
      refine va_sld hx hb hX hbl hbA hS hin dL_law_28 ?_
      refine lv_bipush (v := 31) hx hb dL_law_29 (by decide) ?_
      refine lv_iand hx hb dL_law_31 ?_
      by_cases hc0 : ((xs a18.2.2.2.2.2.2.2.2.2.2.2.2.2.2.2.2.2.2.2.2.2.2.toNatClampNeg) &&& (31 : Int32)) = (0 : Int32)
      · have hM := if_pp hc0 hM
        refine lv_tableIn (off := 112) (tgt := 144) hx hb dL_law_32 (by rw [hc0]; decide) (by rw [hc0]; decide) (by rw [hc0]; rfl) (by decide) ?_
        refine lv_aload_n hx hb dL_law_144 rfl (lv_at hl 1 rfl) ?_
        refine lv_aload_n hx hb dL_law_145 rfl (lv_at hl 0 rfl) ?_
        refine lv_iload_n hx hb dL_law_146 rfl (lv_at hl 3 rfl) ?_
        refine lv_iconst (v := 1) hx hb dL_law_147 (by decide) ?_
        refine lv_iadd hx hb dL_law_148 ?_
        obtain ⟨hin, hM⟩ := if_ok hM
        refine va_sld hx hb hX hbl hbA hS hin dL_law_149 ?_
        refine lv_aload_n hx hb dL_law_150 rfl (lv_at hl 0 rfl) ?_
        refine lv_iload_n hx hb dL_law_151 rfl (lv_at hl 3 rfl) ?_
        refine lv_iconst (v := 2) hx hb dL_law_152 (by decide) ?_
        refine lv_iadd hx hb dL_law_153 ?_
        obtain ⟨hin, hM⟩ := if_ok hM
        refine va_sld hx hb hX hbl hbA hS hin dL_law_154 ?_
        obtain ⟨z155, hcr, hM⟩ := ob_s hM
        refine res_i (ws' := (wX cI cC ax a18.1 z155.2.1 z155.2.2 a18.2.2.2.1 a18.2.2.2.2.1 a18.2.2.2.2.2.1 a18.2.2.2.2.2.2.1 a18.2.2.2.2.2.2.2.1 a18.2.2.2.2.2.2.2.2.1 a18.2.2.2.2.2.2.2.2.2.1 a18.2.2.2.2.2.2.2.2.2.2.1 a18.2.2.2.2.2.2.2.2.2.2.2.1 a18.2.2.2.2.2.2.2.2.2.2.2.2.1 ++ wM cI cZ am a18.2.2.2.2.2.2.2.2.2.2.2.2.2.1 a18.2.2.2.2.2.2.2.2.2.2.2.2.2.2.1 a18.2.2.2.2.2.2.2.2.2.2.2.2.2.2.2.1 a18.2.2.2.2.2.2.2.2.2.2.2.2.2.2.2.2.1 a18.2.2.2.2.2.2.2.2.2.2.2.2.2.2.2.2.2.1 a18.2.2.2.2.2.2.2.2.2.2.2.2.2.2.2.2.2.2.1 a18.2.2.2.2.2.2.2.2.2.2.2.2.2.2.2.2.2.2.2.1 a18.2.2.2.2.2.2.2.2.2.2.2.2.2.2.2.2.2.2.2.2.1 a18.2.2.2.2.2.2.2.2.2.2.2.2.2.2.2.2.2.2.2.2.2.1)) F hP hS rfl [0, 1, 2, 3, 4, 5, 6, 7, 8, 9, 10, 11, 12, 13, 14, 15, 16, 17, 18, 19, 20, 21, 22, 23, 24, 25, 26, 27, 28, 29, 30] rfl rfl (runV_of (n := 2) (As := [.int (xs (a18.2.2.2.2.2.2.2.2.2.2.2.2.2.2.2.2.2.2.2.2.2.2 + (1 : Int32)).toNatClampNeg), .int (xs (a18.2.2.2.2.2.2.2.2.2.2.2.2.2.2.2.2.2.2.2.2.2.2 + (2 : Int32)).toNatClampNeg)]) (rest := []) F hP hS rfl [0, 1, 2, 3, 4, 5, 6, 7, 8, 9, 10, 11, 12, 13, 14, 15, 16, 17, 18, 19, 20, 21, 22, 23, 24, 25, 26, 27, 28, 29, 30] rfl rfl (c_X8_house l dC dI cI cC cZ sa ax a18.1 a18.2.1 a18.2.2.1 a18.2.2.2.1 a18.2.2.2.2.1 a18.2.2.2.2.2.1 a18.2.2.2.2.2.2.1 a18.2.2.2.2.2.2.2.1 a18.2.2.2.2.2.2.2.2.1 a18.2.2.2.2.2.2.2.2.2.1 a18.2.2.2.2.2.2.2.2.2.2.1 a18.2.2.2.2.2.2.2.2.2.2.2.1 a18.2.2.2.2.2.2.2.2.2.2.2.2.1 (xs (a18.2.2.2.2.2.2.2.2.2.2.2.2.2.2.2.2.2.2.2.2.2.2 + (1 : Int32)).toNatClampNeg) (xs (a18.2.2.2.2.2.2.2.2.2.2.2.2.2.2.2.2.2.2.2.2.2.2 + (2 : Int32)).toNatClampNeg) hcr _) gL_law_X8_house rfl (by decide +kernel) ⟨Nat.le_of_ble_eq_true rfl, Nat.le_of_ble_eq_true rfl⟩ 0 8 rfl rfl rfl hl.1 rfl (Nat.le_of_ble_eq_true rfl) dL_law_155 ⟨Nat.le_of_ble_eq_true rfl, Nat.le_of_ble_eq_true rfl⟩) (rep_pre _ _ _ rfl (show ∀ k ∈ _, k < 31 by decide)) (fun H locs hP hS => ?_)
        refine lv_aload_n hx hb dL_law_158 rfl (lv_at hl 2 rfl) ?_
        refine lv_aload_n hx hb dL_law_159 rfl (lv_at hl 0 rfl) ?_
        refine lv_iload_n hx hb dL_law_160 rfl (lv_at hl 3 rfl) ?_
        refine lv_iconst (v := 1) hx hb dL_law_161 (by decide) ?_
        refine lv_iadd hx hb dL_law_162 ?_
        obtain ⟨hin, hM⟩ := if_ok hM
        refine va_sld hx hb hX hbl hbA hS hin dL_law_163 ?_
        refine lv_aload_n hx hb dL_law_164 rfl (lv_at hl 0 rfl) ?_
        refine lv_iload_n hx hb dL_law_165 rfl (lv_at hl 3 rfl) ?_
        refine lv_iconst (v := 2) hx hb dL_law_166 (by decide) ?_
        refine lv_iadd hx hb dL_law_167 ?_
        obtain ⟨hin, hM⟩ := if_ok hM
        refine va_sld hx hb hX hbl hbA hS hin dL_law_168 ?_
        obtain ⟨z169, hcr, hM⟩ := ob_s hM
        refine res_i (ws' := (wX cI cC ax a18.1 z155.2.1 z155.2.2 a18.2.2.2.1 a18.2.2.2.2.1 a18.2.2.2.2.2.1 a18.2.2.2.2.2.2.1 a18.2.2.2.2.2.2.2.1 a18.2.2.2.2.2.2.2.2.1 a18.2.2.2.2.2.2.2.2.2.1 a18.2.2.2.2.2.2.2.2.2.2.1 a18.2.2.2.2.2.2.2.2.2.2.2.1 a18.2.2.2.2.2.2.2.2.2.2.2.2.1 ++ wM cI cZ am z169.2 a18.2.2.2.2.2.2.2.2.2.2.2.2.2.2.1 a18.2.2.2.2.2.2.2.2.2.2.2.2.2.2.2.1 a18.2.2.2.2.2.2.2.2.2.2.2.2.2.2.2.2.1 a18.2.2.2.2.2.2.2.2.2.2.2.2.2.2.2.2.2.1 a18.2.2.2.2.2.2.2.2.2.2.2.2.2.2.2.2.2.2.1 a18.2.2.2.2.2.2.2.2.2.2.2.2.2.2.2.2.2.2.2.1 a18.2.2.2.2.2.2.2.2.2.2.2.2.2.2.2.2.2.2.2.2.1 a18.2.2.2.2.2.2.2.2.2.2.2.2.2.2.2.2.2.2.2.2.2.1)) F hP hS rfl [31, 32, 33, 34, 35, 36, 37, 38, 39, 40, 41, 42, 43] rfl rfl (runV_of (n := 2) (As := [.int (xs (a18.2.2.2.2.2.2.2.2.2.2.2.2.2.2.2.2.2.2.2.2.2.2 + (1 : Int32)).toNatClampNeg), .int (xs (a18.2.2.2.2.2.2.2.2.2.2.2.2.2.2.2.2.2.2.2.2.2.2 + (2 : Int32)).toNatClampNeg)]) (rest := [.int z155.1]) F hP hS rfl [31, 32, 33, 34, 35, 36, 37, 38, 39, 40, 41, 42, 43] rfl rfl (c_X9_house l dC dI cI cC cZ sa am a18.2.2.2.2.2.2.2.2.2.2.2.2.2.1 a18.2.2.2.2.2.2.2.2.2.2.2.2.2.2.1 a18.2.2.2.2.2.2.2.2.2.2.2.2.2.2.2.1 a18.2.2.2.2.2.2.2.2.2.2.2.2.2.2.2.2.1 a18.2.2.2.2.2.2.2.2.2.2.2.2.2.2.2.2.2.1 a18.2.2.2.2.2.2.2.2.2.2.2.2.2.2.2.2.2.2.1 a18.2.2.2.2.2.2.2.2.2.2.2.2.2.2.2.2.2.2.2.1 a18.2.2.2.2.2.2.2.2.2.2.2.2.2.2.2.2.2.2.2.2.1 a18.2.2.2.2.2.2.2.2.2.2.2.2.2.2.2.2.2.2.2.2.2.1 (xs (a18.2.2.2.2.2.2.2.2.2.2.2.2.2.2.2.2.2.2.2.2.2.2 + (1 : Int32)).toNatClampNeg) (xs (a18.2.2.2.2.2.2.2.2.2.2.2.2.2.2.2.2.2.2.2.2.2.2 + (2 : Int32)).toNatClampNeg) hcr _) gL_law_X9_house rfl (by decide +kernel) ⟨Nat.le_of_ble_eq_true rfl, Nat.le_of_ble_eq_true rfl⟩ 31 9 rfl rfl rfl hl.1 rfl (Nat.le_of_ble_eq_true rfl) dL_law_169 ⟨Nat.le_of_ble_eq_true rfl, Nat.le_of_ble_eq_true rfl⟩) (rep_suf _ _ _ (show ∀ k ∈ _, 31 ≤ k by decide)) (fun H locs hP hS => ?_)
        refine lv_icmp_eq (tgt := 773) hx hb dL_law_172 (by decide) (fun hc => ?_) (fun hc => ?_)
        · have hM := if_pp hc hM
          exact j773 (a18.1, z155.2.1, z155.2.2, a18.2.2.2.1, a18.2.2.2.2.1, a18.2.2.2.2.2.1, a18.2.2.2.2.2.2.1, a18.2.2.2.2.2.2.2.1, a18.2.2.2.2.2.2.2.2.1, a18.2.2.2.2.2.2.2.2.2.1, a18.2.2.2.2.2.2.2.2.2.2.1, a18.2.2.2.2.2.2.2.2.2.2.2.1, a18.2.2.2.2.2.2.2.2.2.2.2.2.1, z169.2, a18.2.2.2.2.2.2.2.2.2.2.2.2.2.2.1, a18.2.2.2.2.2.2.2.2.2.2.2.2.2.2.2.1, a18.2.2.2.2.2.2.2.2.2.2.2.2.2.2.2.2.1, a18.2.2.2.2.2.2.2.2.2.2.2.2.2.2.2.2.2.1, a18.2.2.2.2.2.2.2.2.2.2.2.2.2.2.2.2.2.2.1, a18.2.2.2.2.2.2.2.2.2.2.2.2.2.2.2.2.2.2.2.1, a18.2.2.2.2.2.2.2.2.2.2.2.2.2.2.2.2.2.2.2.2.1, a18.2.2.2.2.2.2.2.2.2.2.2.2.2.2.2.2.2.2.2.2.2.1, a18.2.2.2.2.2.2.2.2.2.2.2.2.2.2.2.2.2.2.2.2.2.2) _ _ _ hP hS (lv_sub hl [0, 1, 2, 3] rfl) hM
        · have hM := if_nn hc hM
          refine lv_iconst (v := 0) hx hb dL_law_175 (by decide) ?_
          exact no_s hM
      · have hM := if_nn hc0 hM
        by_cases hc1 : ((xs a18.2.2.2.2.2.2.2.2.2.2.2.2.2.2.2.2.2.2.2.2.2.2.toNatClampNeg) &&& (31 : Int32)) = (1 : Int32)
        · have hM := if_pp hc1 hM
          refine lv_tableIn (off := 145) (tgt := 177) hx hb dL_law_32 (by rw [hc1]; decide) (by rw [hc1]; decide) (by rw [hc1]; rfl) (by decide) ?_
          refine lv_aload_n hx hb dL_law_177 rfl (lv_at hl 1 rfl) ?_
          refine lv_aload_n hx hb dL_law_178 rfl (lv_at hl 0 rfl) ?_
          refine lv_iload_n hx hb dL_law_179 rfl (lv_at hl 3 rfl) ?_
          refine lv_iconst (v := 1) hx hb dL_law_180 (by decide) ?_
          refine lv_iadd hx hb dL_law_181 ?_
          obtain ⟨hin, hM⟩ := if_ok hM
          refine va_sld hx hb hX hbl hbA hS hin dL_law_182 ?_
          obtain ⟨z183, hcr, hM⟩ := ob_s hM
          refine res_i (ws' := (wX cI cC ax z183.2 a18.2.1 a18.2.2.1 a18.2.2.2.1 a18.2.2.2.2.1 a18.2.2.2.2.2.1 a18.2.2.2.2.2.2.1 a18.2.2.2.2.2.2.2.1 a18.2.2.2.2.2.2.2.2.1 a18.2.2.2.2.2.2.2.2.2.1 a18.2.2.2.2.2.2.2.2.2.2.1 a18.2.2.2.2.2.2.2.2.2.2.2.1 a18.2.2.2.2.2.2.2.2.2.2.2.2.1 ++ wM cI cZ am a18.2.2.2.2.2.2.2.2.2.2.2.2.2.1 a18.2.2.2.2.2.2.2.2.2.2.2.2.2.2.1 a18.2.2.2.2.2.2.2.2.2.2.2.2.2.2.2.1 a18.2.2.2.2.2.2.2.2.2.2.2.2.2.2.2.2.1 a18.2.2.2.2.2.2.2.2.2.2.2.2.2.2.2.2.2.1 a18.2.2.2.2.2.2.2.2.2.2.2.2.2.2.2.2.2.2.1 a18.2.2.2.2.2.2.2.2.2.2.2.2.2.2.2.2.2.2.2.1 a18.2.2.2.2.2.2.2.2.2.2.2.2.2.2.2.2.2.2.2.2.1 a18.2.2.2.2.2.2.2.2.2.2.2.2.2.2.2.2.2.2.2.2.2.1)) F hP hS rfl [0, 1, 2, 3, 4, 5, 6, 7, 8, 9, 10, 11, 12, 13, 14, 15, 16, 17, 18, 19, 20, 21, 22, 23, 24, 25, 26, 27, 28, 29, 30] rfl rfl (runV_of (n := 1) (As := [.int (xs (a18.2.2.2.2.2.2.2.2.2.2.2.2.2.2.2.2.2.2.2.2.2.2 + (1 : Int32)).toNatClampNeg)]) (rest := []) F hP hS rfl [0, 1, 2, 3, 4, 5, 6, 7, 8, 9, 10, 11, 12, 13, 14, 15, 16, 17, 18, 19, 20, 21, 22, 23, 24, 25, 26, 27, 28, 29, 30] rfl rfl (c_X8_say l dC dI cI cC cZ sa ax a18.1 a18.2.1 a18.2.2.1 a18.2.2.2.1 a18.2.2.2.2.1 a18.2.2.2.2.2.1 a18.2.2.2.2.2.2.1 a18.2.2.2.2.2.2.2.1 a18.2.2.2.2.2.2.2.2.1 a18.2.2.2.2.2.2.2.2.2.1 a18.2.2.2.2.2.2.2.2.2.2.1 a18.2.2.2.2.2.2.2.2.2.2.2.1 a18.2.2.2.2.2.2.2.2.2.2.2.2.1 (xs (a18.2.2.2.2.2.2.2.2.2.2.2.2.2.2.2.2.2.2.2.2.2.2 + (1 : Int32)).toNatClampNeg) hcr _) gL_law_X8_say rfl (by decide +kernel) ⟨Nat.le_of_ble_eq_true rfl, Nat.le_of_ble_eq_true rfl⟩ 0 8 rfl rfl rfl hl.1 rfl (Nat.le_of_ble_eq_true rfl) dL_law_183 ⟨Nat.le_of_ble_eq_true rfl, Nat.le_of_ble_eq_true rfl⟩) (rep_pre _ _ _ rfl (show ∀ k ∈ _, k < 31 by decide)) (fun H locs hP hS => ?_)
          refine lv_aload_n hx hb dL_law_186 rfl (lv_at hl 2 rfl) ?_
          refine lv_aload_n hx hb dL_law_187 rfl (lv_at hl 0 rfl) ?_
          refine lv_iload_n hx hb dL_law_188 rfl (lv_at hl 3 rfl) ?_
          refine lv_iconst (v := 1) hx hb dL_law_189 (by decide) ?_
          refine lv_iadd hx hb dL_law_190 ?_
          obtain ⟨hin, hM⟩ := if_ok hM
          refine va_sld hx hb hX hbl hbA hS hin dL_law_191 ?_
          obtain ⟨z192, hcr, hM⟩ := ob_s hM
          refine res_i (ws' := (wX cI cC ax z183.2 a18.2.1 a18.2.2.1 a18.2.2.2.1 a18.2.2.2.2.1 a18.2.2.2.2.2.1 a18.2.2.2.2.2.2.1 a18.2.2.2.2.2.2.2.1 a18.2.2.2.2.2.2.2.2.1 a18.2.2.2.2.2.2.2.2.2.1 a18.2.2.2.2.2.2.2.2.2.2.1 a18.2.2.2.2.2.2.2.2.2.2.2.1 a18.2.2.2.2.2.2.2.2.2.2.2.2.1 ++ wM cI cZ am a18.2.2.2.2.2.2.2.2.2.2.2.2.2.1 z192.2 a18.2.2.2.2.2.2.2.2.2.2.2.2.2.2.2.1 a18.2.2.2.2.2.2.2.2.2.2.2.2.2.2.2.2.1 a18.2.2.2.2.2.2.2.2.2.2.2.2.2.2.2.2.2.1 a18.2.2.2.2.2.2.2.2.2.2.2.2.2.2.2.2.2.2.1 a18.2.2.2.2.2.2.2.2.2.2.2.2.2.2.2.2.2.2.2.1 a18.2.2.2.2.2.2.2.2.2.2.2.2.2.2.2.2.2.2.2.2.1 a18.2.2.2.2.2.2.2.2.2.2.2.2.2.2.2.2.2.2.2.2.2.1)) F hP hS rfl [31, 32, 33, 34, 35, 36, 37, 38, 39, 40, 41, 42, 43] rfl rfl (runV_of (n := 1) (As := [.int (xs (a18.2.2.2.2.2.2.2.2.2.2.2.2.2.2.2.2.2.2.2.2.2.2 + (1 : Int32)).toNatClampNeg)]) (rest := [.int z183.1]) F hP hS rfl [31, 32, 33, 34, 35, 36, 37, 38, 39, 40, 41, 42, 43] rfl rfl (c_X9_say l dC dI cI cC cZ sa am a18.2.2.2.2.2.2.2.2.2.2.2.2.2.1 a18.2.2.2.2.2.2.2.2.2.2.2.2.2.2.1 a18.2.2.2.2.2.2.2.2.2.2.2.2.2.2.2.1 a18.2.2.2.2.2.2.2.2.2.2.2.2.2.2.2.2.1 a18.2.2.2.2.2.2.2.2.2.2.2.2.2.2.2.2.2.1 a18.2.2.2.2.2.2.2.2.2.2.2.2.2.2.2.2.2.2.1 a18.2.2.2.2.2.2.2.2.2.2.2.2.2.2.2.2.2.2.2.1 a18.2.2.2.2.2.2.2.2.2.2.2.2.2.2.2.2.2.2.2.2.1 a18.2.2.2.2.2.2.2.2.2.2.2.2.2.2.2.2.2.2.2.2.2.1 (xs (a18.2.2.2.2.2.2.2.2.2.2.2.2.2.2.2.2.2.2.2.2.2.2 + (1 : Int32)).toNatClampNeg) hcr _) gL_law_X9_say rfl (by decide +kernel) ⟨Nat.le_of_ble_eq_true rfl, Nat.le_of_ble_eq_true rfl⟩ 31 9 rfl rfl rfl hl.1 rfl (Nat.le_of_ble_eq_true rfl) dL_law_192 ⟨Nat.le_of_ble_eq_true rfl, Nat.le_of_ble_eq_true rfl⟩) (rep_suf _ _ _ (show ∀ k ∈ _, 31 ≤ k by decide)) (fun H locs hP hS => ?_)
          refine lv_icmp_eq (tgt := 773) hx hb dL_law_195 (by decide) (fun hc => ?_) (fun hc => ?_)
          · have hM := if_pp hc hM
            exact j773 (z183.2, a18.2.1, a18.2.2.1, a18.2.2.2.1, a18.2.2.2.2.1, a18.2.2.2.2.2.1, a18.2.2.2.2.2.2.1, a18.2.2.2.2.2.2.2.1, a18.2.2.2.2.2.2.2.2.1, a18.2.2.2.2.2.2.2.2.2.1, a18.2.2.2.2.2.2.2.2.2.2.1, a18.2.2.2.2.2.2.2.2.2.2.2.1, a18.2.2.2.2.2.2.2.2.2.2.2.2.1, a18.2.2.2.2.2.2.2.2.2.2.2.2.2.1, z192.2, a18.2.2.2.2.2.2.2.2.2.2.2.2.2.2.2.1, a18.2.2.2.2.2.2.2.2.2.2.2.2.2.2.2.2.1, a18.2.2.2.2.2.2.2.2.2.2.2.2.2.2.2.2.2.1, a18.2.2.2.2.2.2.2.2.2.2.2.2.2.2.2.2.2.2.1, a18.2.2.2.2.2.2.2.2.2.2.2.2.2.2.2.2.2.2.2.1, a18.2.2.2.2.2.2.2.2.2.2.2.2.2.2.2.2.2.2.2.2.1, a18.2.2.2.2.2.2.2.2.2.2.2.2.2.2.2.2.2.2.2.2.2.1, a18.2.2.2.2.2.2.2.2.2.2.2.2.2.2.2.2.2.2.2.2.2.2) _ _ _ hP hS (lv_sub hl [0, 1, 2, 3] rfl) hM
          · have hM := if_nn hc hM
            refine lv_iconst (v := 0) hx hb dL_law_198 (by decide) ?_
            exact no_s hM
        · have hM := if_nn hc1 hM
          by_cases hc2 : ((xs a18.2.2.2.2.2.2.2.2.2.2.2.2.2.2.2.2.2.2.2.2.2.2.toNatClampNeg) &&& (31 : Int32)) = (2 : Int32)
          · have hM := if_pp hc2 hM
            refine lv_tableIn (off := 168) (tgt := 200) hx hb dL_law_32 (by rw [hc2]; decide) (by rw [hc2]; decide) (by rw [hc2]; rfl) (by decide) ?_
            refine lv_aload_n hx hb dL_law_200 rfl (lv_at hl 1 rfl) ?_
            obtain ⟨z201, hcr, hM⟩ := ob_s hM
            refine res_i (ws' := (wX cI cC ax z201.2 a18.2.1 a18.2.2.1 a18.2.2.2.1 a18.2.2.2.2.1 a18.2.2.2.2.2.1 a18.2.2.2.2.2.2.1 a18.2.2.2.2.2.2.2.1 a18.2.2.2.2.2.2.2.2.1 a18.2.2.2.2.2.2.2.2.2.1 a18.2.2.2.2.2.2.2.2.2.2.1 a18.2.2.2.2.2.2.2.2.2.2.2.1 a18.2.2.2.2.2.2.2.2.2.2.2.2.1 ++ wM cI cZ am a18.2.2.2.2.2.2.2.2.2.2.2.2.2.1 a18.2.2.2.2.2.2.2.2.2.2.2.2.2.2.1 a18.2.2.2.2.2.2.2.2.2.2.2.2.2.2.2.1 a18.2.2.2.2.2.2.2.2.2.2.2.2.2.2.2.2.1 a18.2.2.2.2.2.2.2.2.2.2.2.2.2.2.2.2.2.1 a18.2.2.2.2.2.2.2.2.2.2.2.2.2.2.2.2.2.2.1 a18.2.2.2.2.2.2.2.2.2.2.2.2.2.2.2.2.2.2.2.1 a18.2.2.2.2.2.2.2.2.2.2.2.2.2.2.2.2.2.2.2.2.1 a18.2.2.2.2.2.2.2.2.2.2.2.2.2.2.2.2.2.2.2.2.2.1)) F hP hS rfl [0, 1, 2, 3, 4, 5, 6, 7, 8, 9, 10, 11, 12, 13, 14, 15, 16, 17, 18, 19, 20, 21, 22, 23, 24, 25, 26, 27, 28, 29, 30] rfl rfl (runV_of (n := 0) (As := []) (rest := []) F hP hS rfl [0, 1, 2, 3, 4, 5, 6, 7, 8, 9, 10, 11, 12, 13, 14, 15, 16, 17, 18, 19, 20, 21, 22, 23, 24, 25, 26, 27, 28, 29, 30] rfl rfl (c_X8_wipe l dC dI cI cC cZ sa ax a18.1 a18.2.1 a18.2.2.1 a18.2.2.2.1 a18.2.2.2.2.1 a18.2.2.2.2.2.1 a18.2.2.2.2.2.2.1 a18.2.2.2.2.2.2.2.1 a18.2.2.2.2.2.2.2.2.1 a18.2.2.2.2.2.2.2.2.2.1 a18.2.2.2.2.2.2.2.2.2.2.1 a18.2.2.2.2.2.2.2.2.2.2.2.1 a18.2.2.2.2.2.2.2.2.2.2.2.2.1 hcr _) gL_law_X8_wipe rfl (by decide +kernel) ⟨Nat.le_of_ble_eq_true rfl, Nat.le_of_ble_eq_true rfl⟩ 0 8 rfl rfl rfl hl.1 rfl (Nat.le_of_ble_eq_true rfl) dL_law_201 ⟨Nat.le_of_ble_eq_true rfl, Nat.le_of_ble_eq_true rfl⟩) (rep_pre _ _ _ rfl (show ∀ k ∈ _, k < 31 by decide)) (fun H locs hP hS => ?_)
            refine lv_aload_n hx hb dL_law_204 rfl (lv_at hl 2 rfl) ?_
            obtain ⟨z205, hcr, hM⟩ := ob_s hM
            refine res_i (ws' := (wX cI cC ax z201.2 a18.2.1 a18.2.2.1 a18.2.2.2.1 a18.2.2.2.2.1 a18.2.2.2.2.2.1 a18.2.2.2.2.2.2.1 a18.2.2.2.2.2.2.2.1 a18.2.2.2.2.2.2.2.2.1 a18.2.2.2.2.2.2.2.2.2.1 a18.2.2.2.2.2.2.2.2.2.2.1 a18.2.2.2.2.2.2.2.2.2.2.2.1 a18.2.2.2.2.2.2.2.2.2.2.2.2.1 ++ wM cI cZ am a18.2.2.2.2.2.2.2.2.2.2.2.2.2.1 z205.2 a18.2.2.2.2.2.2.2.2.2.2.2.2.2.2.2.1 a18.2.2.2.2.2.2.2.2.2.2.2.2.2.2.2.2.1 a18.2.2.2.2.2.2.2.2.2.2.2.2.2.2.2.2.2.1 a18.2.2.2.2.2.2.2.2.2.2.2.2.2.2.2.2.2.2.1 a18.2.2.2.2.2.2.2.2.2.2.2.2.2.2.2.2.2.2.2.1 a18.2.2.2.2.2.2.2.2.2.2.2.2.2.2.2.2.2.2.2.2.1 a18.2.2.2.2.2.2.2.2.2.2.2.2.2.2.2.2.2.2.2.2.2.1)) F hP hS rfl [31, 32, 33, 34, 35, 36, 37, 38, 39, 40, 41, 42, 43] rfl rfl (runV_of (n := 0) (As := []) (rest := [.int z201.1]) F hP hS rfl [31, 32, 33, 34, 35, 36, 37, 38, 39, 40, 41, 42, 43] rfl rfl (c_X9_wipe l dC dI cI cC cZ sa am a18.2.2.2.2.2.2.2.2.2.2.2.2.2.1 a18.2.2.2.2.2.2.2.2.2.2.2.2.2.2.1 a18.2.2.2.2.2.2.2.2.2.2.2.2.2.2.2.1 a18.2.2.2.2.2.2.2.2.2.2.2.2.2.2.2.2.1 a18.2.2.2.2.2.2.2.2.2.2.2.2.2.2.2.2.2.1 a18.2.2.2.2.2.2.2.2.2.2.2.2.2.2.2.2.2.2.1 a18.2.2.2.2.2.2.2.2.2.2.2.2.2.2.2.2.2.2.2.1 a18.2.2.2.2.2.2.2.2.2.2.2.2.2.2.2.2.2.2.2.2.1 a18.2.2.2.2.2.2.2.2.2.2.2.2.2.2.2.2.2.2.2.2.2.1 hcr _) gL_law_X9_wipe rfl (by decide +kernel) ⟨Nat.le_of_ble_eq_true rfl, Nat.le_of_ble_eq_true rfl⟩ 31 9 rfl rfl rfl hl.1 rfl (Nat.le_of_ble_eq_true rfl) dL_law_205 ⟨Nat.le_of_ble_eq_true rfl, Nat.le_of_ble_eq_true rfl⟩) (rep_suf _ _ _ (show ∀ k ∈ _, 31 ≤ k by decide)) (fun H locs hP hS => ?_)
            refine lv_icmp_eq (tgt := 773) hx hb dL_law_208 (by decide) (fun hc => ?_) (fun hc => ?_)
            · have hM := if_pp hc hM
              exact j773 (z201.2, a18.2.1, a18.2.2.1, a18.2.2.2.1, a18.2.2.2.2.1, a18.2.2.2.2.2.1, a18.2.2.2.2.2.2.1, a18.2.2.2.2.2.2.2.1, a18.2.2.2.2.2.2.2.2.1, a18.2.2.2.2.2.2.2.2.2.1, a18.2.2.2.2.2.2.2.2.2.2.1, a18.2.2.2.2.2.2.2.2.2.2.2.1, a18.2.2.2.2.2.2.2.2.2.2.2.2.1, a18.2.2.2.2.2.2.2.2.2.2.2.2.2.1, z205.2, a18.2.2.2.2.2.2.2.2.2.2.2.2.2.2.2.1, a18.2.2.2.2.2.2.2.2.2.2.2.2.2.2.2.2.1, a18.2.2.2.2.2.2.2.2.2.2.2.2.2.2.2.2.2.1, a18.2.2.2.2.2.2.2.2.2.2.2.2.2.2.2.2.2.2.1, a18.2.2.2.2.2.2.2.2.2.2.2.2.2.2.2.2.2.2.2.1, a18.2.2.2.2.2.2.2.2.2.2.2.2.2.2.2.2.2.2.2.2.1, a18.2.2.2.2.2.2.2.2.2.2.2.2.2.2.2.2.2.2.2.2.2.1, a18.2.2.2.2.2.2.2.2.2.2.2.2.2.2.2.2.2.2.2.2.2.2) _ _ _ hP hS (lv_sub hl [0, 1, 2, 3] rfl) hM
            · have hM := if_nn hc hM
              refine lv_iconst (v := 0) hx hb dL_law_211 (by decide) ?_
              exact no_s hM
          · have hM := if_nn hc2 hM
            by_cases hc3 : ((xs a18.2.2.2.2.2.2.2.2.2.2.2.2.2.2.2.2.2.2.2.2.2.2.toNatClampNeg) &&& (31 : Int32)) = (3 : Int32)
            · have hM := if_pp hc3 hM
              refine lv_tableIn (off := 181) (tgt := 213) hx hb dL_law_32 (by rw [hc3]; decide) (by rw [hc3]; decide) (by rw [hc3]; rfl) (by decide) ?_
              refine lv_aload_n hx hb dL_law_213 rfl (lv_at hl 1 rfl) ?_
              refine lv_aload_n hx hb dL_law_214 rfl (lv_at hl 0 rfl) ?_
              refine lv_iload_n hx hb dL_law_215 rfl (lv_at hl 3 rfl) ?_
              refine lv_iconst (v := 1) hx hb dL_law_216 (by decide) ?_
              refine lv_iadd hx hb dL_law_217 ?_
              obtain ⟨hin, hM⟩ := if_ok hM
              refine va_sld hx hb hX hbl hbA hS hin dL_law_218 ?_
              obtain ⟨z219, hcr, hM⟩ := ob_s hM
              refine res_i0 F hP hS rfl [0, 1, 2, 3, 4, 5, 6, 7, 8, 9, 10, 11, 12, 13, 14, 15, 16, 17, 18, 19, 20, 21, 22, 23, 24, 25, 26, 27, 28, 29, 30] rfl rfl (runV_of (n := 1) (As := [.int (xs (a18.2.2.2.2.2.2.2.2.2.2.2.2.2.2.2.2.2.2.2.2.2.2 + (1 : Int32)).toNatClampNeg)]) (rest := []) F hP hS rfl [0, 1, 2, 3, 4, 5, 6, 7, 8, 9, 10, 11, 12, 13, 14, 15, 16, 17, 18, 19, 20, 21, 22, 23, 24, 25, 26, 27, 28, 29, 30] rfl rfl (c_X8_fault l dC dI cI cC cZ sa ax a18.1 a18.2.1 a18.2.2.1 a18.2.2.2.1 a18.2.2.2.2.1 a18.2.2.2.2.2.1 a18.2.2.2.2.2.2.1 a18.2.2.2.2.2.2.2.1 a18.2.2.2.2.2.2.2.2.1 a18.2.2.2.2.2.2.2.2.2.1 a18.2.2.2.2.2.2.2.2.2.2.1 a18.2.2.2.2.2.2.2.2.2.2.2.1 a18.2.2.2.2.2.2.2.2.2.2.2.2.1 (xs (a18.2.2.2.2.2.2.2.2.2.2.2.2.2.2.2.2.2.2.2.2.2.2 + (1 : Int32)).toNatClampNeg) hcr _) gL_law_X8_fault rfl (by decide +kernel) ⟨Nat.le_of_ble_eq_true rfl, Nat.le_of_ble_eq_true rfl⟩ 0 8 rfl rfl rfl hl.1 rfl (Nat.le_of_ble_eq_true rfl) dL_law_219 ⟨Nat.le_of_ble_eq_true rfl, Nat.le_of_ble_eq_true rfl⟩) (fun H locs hP hS => ?_)
              refine lv_aload_n hx hb dL_law_222 rfl (lv_at hl 2 rfl) ?_
              refine lv_aload_n hx hb dL_law_223 rfl (lv_at hl 0 rfl) ?_
              refine lv_iload_n hx hb dL_law_224 rfl (lv_at hl 3 rfl) ?_
              refine lv_iconst (v := 1) hx hb dL_law_225 (by decide) ?_
              refine lv_iadd hx hb dL_law_226 ?_
              obtain ⟨hin, hM⟩ := if_ok hM
              refine va_sld hx hb hX hbl hbA hS hin dL_law_227 ?_
              obtain ⟨z228, hcr, hM⟩ := ob_s hM
              refine res_i0 F hP hS rfl [31, 32, 33, 34, 35, 36, 37, 38, 39, 40, 41, 42, 43] rfl rfl (runV_of (n := 1) (As := [.int (xs (a18.2.2.2.2.2.2.2.2.2.2.2.2.2.2.2.2.2.2.2.2.2.2 + (1 : Int32)).toNatClampNeg)]) (rest := [.int z219]) F hP hS rfl [31, 32, 33, 34, 35, 36, 37, 38, 39, 40, 41, 42, 43] rfl rfl (c_X9_fault l dC dI cI cC cZ sa am a18.2.2.2.2.2.2.2.2.2.2.2.2.2.1 a18.2.2.2.2.2.2.2.2.2.2.2.2.2.2.1 a18.2.2.2.2.2.2.2.2.2.2.2.2.2.2.2.1 a18.2.2.2.2.2.2.2.2.2.2.2.2.2.2.2.2.1 a18.2.2.2.2.2.2.2.2.2.2.2.2.2.2.2.2.2.1 a18.2.2.2.2.2.2.2.2.2.2.2.2.2.2.2.2.2.2.1 a18.2.2.2.2.2.2.2.2.2.2.2.2.2.2.2.2.2.2.2.1 a18.2.2.2.2.2.2.2.2.2.2.2.2.2.2.2.2.2.2.2.2.1 a18.2.2.2.2.2.2.2.2.2.2.2.2.2.2.2.2.2.2.2.2.2.1 (xs (a18.2.2.2.2.2.2.2.2.2.2.2.2.2.2.2.2.2.2.2.2.2.2 + (1 : Int32)).toNatClampNeg) hcr _) gL_law_X9_fault rfl (by decide +kernel) ⟨Nat.le_of_ble_eq_true rfl, Nat.le_of_ble_eq_true rfl⟩ 31 9 rfl rfl rfl hl.1 rfl (Nat.le_of_ble_eq_true rfl) dL_law_228 ⟨Nat.le_of_ble_eq_true rfl, Nat.le_of_ble_eq_true rfl⟩) (fun H locs hP hS => ?_)
              refine lv_icmp_eq (tgt := 773) hx hb dL_law_231 (by decide) (fun hc => ?_) (fun hc => ?_)
              · have hM := if_pp hc hM
                exact j773 (a18.1, a18.2.1, a18.2.2.1, a18.2.2.2.1, a18.2.2.2.2.1, a18.2.2.2.2.2.1, a18.2.2.2.2.2.2.1, a18.2.2.2.2.2.2.2.1, a18.2.2.2.2.2.2.2.2.1, a18.2.2.2.2.2.2.2.2.2.1, a18.2.2.2.2.2.2.2.2.2.2.1, a18.2.2.2.2.2.2.2.2.2.2.2.1, a18.2.2.2.2.2.2.2.2.2.2.2.2.1, a18.2.2.2.2.2.2.2.2.2.2.2.2.2.1, a18.2.2.2.2.2.2.2.2.2.2.2.2.2.2.1, a18.2.2.2.2.2.2.2.2.2.2.2.2.2.2.2.1, a18.2.2.2.2.2.2.2.2.2.2.2.2.2.2.2.2.1, a18.2.2.2.2.2.2.2.2.2.2.2.2.2.2.2.2.2.1, a18.2.2.2.2.2.2.2.2.2.2.2.2.2.2.2.2.2.2.1, a18.2.2.2.2.2.2.2.2.2.2.2.2.2.2.2.2.2.2.2.1, a18.2.2.2.2.2.2.2.2.2.2.2.2.2.2.2.2.2.2.2.2.1, a18.2.2.2.2.2.2.2.2.2.2.2.2.2.2.2.2.2.2.2.2.2.1, a18.2.2.2.2.2.2.2.2.2.2.2.2.2.2.2.2.2.2.2.2.2.2) _ _ _ hP hS (lv_sub hl [0, 1, 2, 3] rfl) hM
              · have hM := if_nn hc hM
                refine lv_iconst (v := 0) hx hb dL_law_234 (by decide) ?_
                exact no_s hM
            · have hM := if_nn hc3 hM
              by_cases hc4 : ((xs a18.2.2.2.2.2.2.2.2.2.2.2.2.2.2.2.2.2.2.2.2.2.2.toNatClampNeg) &&& (31 : Int32)) = (4 : Int32)
              · have hM := if_pp hc4 hM
                refine lv_tableIn (off := 204) (tgt := 236) hx hb dL_law_32 (by rw [hc4]; decide) (by rw [hc4]; decide) (by rw [hc4]; rfl) (by decide) ?_
                refine lv_aload_n hx hb dL_law_236 rfl (lv_at hl 1 rfl) ?_
                obtain ⟨z237, hcr, hM⟩ := ob_s hM
                refine res_i (ws' := (wX cI cC ax z237.2.1 z237.2.2.1 z237.2.2.2 a18.2.2.2.1 a18.2.2.2.2.1 a18.2.2.2.2.2.1 a18.2.2.2.2.2.2.1 a18.2.2.2.2.2.2.2.1 a18.2.2.2.2.2.2.2.2.1 a18.2.2.2.2.2.2.2.2.2.1 a18.2.2.2.2.2.2.2.2.2.2.1 a18.2.2.2.2.2.2.2.2.2.2.2.1 a18.2.2.2.2.2.2.2.2.2.2.2.2.1 ++ wM cI cZ am a18.2.2.2.2.2.2.2.2.2.2.2.2.2.1 a18.2.2.2.2.2.2.2.2.2.2.2.2.2.2.1 a18.2.2.2.2.2.2.2.2.2.2.2.2.2.2.2.1 a18.2.2.2.2.2.2.2.2.2.2.2.2.2.2.2.2.1 a18.2.2.2.2.2.2.2.2.2.2.2.2.2.2.2.2.2.1 a18.2.2.2.2.2.2.2.2.2.2.2.2.2.2.2.2.2.2.1 a18.2.2.2.2.2.2.2.2.2.2.2.2.2.2.2.2.2.2.2.1 a18.2.2.2.2.2.2.2.2.2.2.2.2.2.2.2.2.2.2.2.2.1 a18.2.2.2.2.2.2.2.2.2.2.2.2.2.2.2.2.2.2.2.2.2.1)) F hP hS rfl [0, 1, 2, 3, 4, 5, 6, 7, 8, 9, 10, 11, 12, 13, 14, 15, 16, 17, 18, 19, 20, 21, 22, 23, 24, 25, 26, 27, 28, 29, 30] rfl rfl (runV_of (n := 0) (As := []) (rest := []) F hP hS rfl [0, 1, 2, 3, 4, 5, 6, 7, 8, 9, 10, 11, 12, 13, 14, 15, 16, 17, 18, 19, 20, 21, 22, 23, 24, 25, 26, 27, 28, 29, 30] rfl rfl (c_X8_build l dC dI cI cC cZ sa ax a18.1 a18.2.1 a18.2.2.1 a18.2.2.2.1 a18.2.2.2.2.1 a18.2.2.2.2.2.1 a18.2.2.2.2.2.2.1 a18.2.2.2.2.2.2.2.1 a18.2.2.2.2.2.2.2.2.1 a18.2.2.2.2.2.2.2.2.2.1 a18.2.2.2.2.2.2.2.2.2.2.1 a18.2.2.2.2.2.2.2.2.2.2.2.1 a18.2.2.2.2.2.2.2.2.2.2.2.2.1 hcr _) gL_law_X8_build rfl (by decide +kernel) ⟨Nat.le_of_ble_eq_true rfl, Nat.le_of_ble_eq_true rfl⟩ 0 8 rfl rfl rfl hl.1 rfl (Nat.le_of_ble_eq_true rfl) dL_law_237 ⟨Nat.le_of_ble_eq_true rfl, Nat.le_of_ble_eq_true rfl⟩) (rep_pre _ _ _ rfl (show ∀ k ∈ _, k < 31 by decide)) (fun H locs hP hS => ?_)
                refine lv_aload_n hx hb dL_law_240 rfl (lv_at hl 2 rfl) ?_
                obtain ⟨z241, hcr, hM⟩ := ob_s hM
                refine res_i (ws' := (wX cI cC ax z237.2.1 z237.2.2.1 z237.2.2.2 a18.2.2.2.1 a18.2.2.2.2.1 a18.2.2.2.2.2.1 a18.2.2.2.2.2.2.1 a18.2.2.2.2.2.2.2.1 a18.2.2.2.2.2.2.2.2.1 a18.2.2.2.2.2.2.2.2.2.1 a18.2.2.2.2.2.2.2.2.2.2.1 a18.2.2.2.2.2.2.2.2.2.2.2.1 a18.2.2.2.2.2.2.2.2.2.2.2.2.1 ++ wM cI cZ am z241.2.1 z241.2.2 a18.2.2.2.2.2.2.2.2.2.2.2.2.2.2.2.1 a18.2.2.2.2.2.2.2.2.2.2.2.2.2.2.2.2.1 a18.2.2.2.2.2.2.2.2.2.2.2.2.2.2.2.2.2.1 a18.2.2.2.2.2.2.2.2.2.2.2.2.2.2.2.2.2.2.1 a18.2.2.2.2.2.2.2.2.2.2.2.2.2.2.2.2.2.2.2.1 a18.2.2.2.2.2.2.2.2.2.2.2.2.2.2.2.2.2.2.2.2.1 a18.2.2.2.2.2.2.2.2.2.2.2.2.2.2.2.2.2.2.2.2.2.1)) F hP hS rfl [31, 32, 33, 34, 35, 36, 37, 38, 39, 40, 41, 42, 43] rfl rfl (runV_of (n := 0) (As := []) (rest := [.int z237.1]) F hP hS rfl [31, 32, 33, 34, 35, 36, 37, 38, 39, 40, 41, 42, 43] rfl rfl (c_X9_build l dC dI cI cC cZ sa am a18.2.2.2.2.2.2.2.2.2.2.2.2.2.1 a18.2.2.2.2.2.2.2.2.2.2.2.2.2.2.1 a18.2.2.2.2.2.2.2.2.2.2.2.2.2.2.2.1 a18.2.2.2.2.2.2.2.2.2.2.2.2.2.2.2.2.1 a18.2.2.2.2.2.2.2.2.2.2.2.2.2.2.2.2.2.1 a18.2.2.2.2.2.2.2.2.2.2.2.2.2.2.2.2.2.2.1 a18.2.2.2.2.2.2.2.2.2.2.2.2.2.2.2.2.2.2.2.1 a18.2.2.2.2.2.2.2.2.2.2.2.2.2.2.2.2.2.2.2.2.1 a18.2.2.2.2.2.2.2.2.2.2.2.2.2.2.2.2.2.2.2.2.2.1 hcr _) gL_law_X9_build rfl (by decide +kernel) ⟨Nat.le_of_ble_eq_true rfl, Nat.le_of_ble_eq_true rfl⟩ 31 9 rfl rfl rfl hl.1 rfl (Nat.le_of_ble_eq_true rfl) dL_law_241 ⟨Nat.le_of_ble_eq_true rfl, Nat.le_of_ble_eq_true rfl⟩) (rep_suf _ _ _ (show ∀ k ∈ _, 31 ≤ k by decide)) (fun H locs hP hS => ?_)
                refine lv_icmp_eq (tgt := 773) hx hb dL_law_244 (by decide) (fun hc => ?_) (fun hc => ?_)
                · have hM := if_pp hc hM
                  exact j773 (z237.2.1, z237.2.2.1, z237.2.2.2, a18.2.2.2.1, a18.2.2.2.2.1, a18.2.2.2.2.2.1, a18.2.2.2.2.2.2.1, a18.2.2.2.2.2.2.2.1, a18.2.2.2.2.2.2.2.2.1, a18.2.2.2.2.2.2.2.2.2.1, a18.2.2.2.2.2.2.2.2.2.2.1, a18.2.2.2.2.2.2.2.2.2.2.2.1, a18.2.2.2.2.2.2.2.2.2.2.2.2.1, z241.2.1, z241.2.2, a18.2.2.2.2.2.2.2.2.2.2.2.2.2.2.2.1, a18.2.2.2.2.2.2.2.2.2.2.2.2.2.2.2.2.1, a18.2.2.2.2.2.2.2.2.2.2.2.2.2.2.2.2.2.1, a18.2.2.2.2.2.2.2.2.2.2.2.2.2.2.2.2.2.2.1, a18.2.2.2.2.2.2.2.2.2.2.2.2.2.2.2.2.2.2.2.1, a18.2.2.2.2.2.2.2.2.2.2.2.2.2.2.2.2.2.2.2.2.1, a18.2.2.2.2.2.2.2.2.2.2.2.2.2.2.2.2.2.2.2.2.2.1, a18.2.2.2.2.2.2.2.2.2.2.2.2.2.2.2.2.2.2.2.2.2.2) _ _ _ hP hS (lv_sub hl [0, 1, 2, 3] rfl) hM
                · have hM := if_nn hc hM
                  refine lv_iconst (v := 0) hx hb dL_law_247 (by decide) ?_
                  exact no_s hM
              · have hM := if_nn hc4 hM
                by_cases hc5 : ((xs a18.2.2.2.2.2.2.2.2.2.2.2.2.2.2.2.2.2.2.2.2.2.2.toNatClampNeg) &&& (31 : Int32)) = (5 : Int32)
                · have hM := if_pp hc5 hM
                  refine lv_tableIn (off := 217) (tgt := 249) hx hb dL_law_32 (by rw [hc5]; decide) (by rw [hc5]; decide) (by rw [hc5]; rfl) (by decide) ?_
                  refine lv_aload_n hx hb dL_law_249 rfl (lv_at hl 1 rfl) ?_
                  refine lv_aload_n hx hb dL_law_250 rfl (lv_at hl 0 rfl) ?_
                  refine lv_iload_n hx hb dL_law_251 rfl (lv_at hl 3 rfl) ?_
                  refine lv_iconst (v := 1) hx hb dL_law_252 (by decide) ?_
                  refine lv_iadd hx hb dL_law_253 ?_
                  obtain ⟨hin, hM⟩ := if_ok hM
                  refine va_sld hx hb hX hbl hbA hS hin dL_law_254 ?_
                  obtain ⟨z255, hcr, hM⟩ := ob_s hM
                  refine res_i0 F hP hS rfl [0, 1, 2, 3, 4, 5, 6, 7, 8, 9, 10, 11, 12, 13, 14, 15, 16, 17, 18, 19, 20, 21, 22, 23, 24, 25, 26, 27, 28, 29, 30] rfl rfl (runV_of (n := 1) (As := [.int (xs (a18.2.2.2.2.2.2.2.2.2.2.2.2.2.2.2.2.2.2.2.2.2.2 + (1 : Int32)).toNatClampNeg)]) (rest := []) F hP hS rfl [0, 1, 2, 3, 4, 5, 6, 7, 8, 9, 10, 11, 12, 13, 14, 15, 16, 17, 18, 19, 20, 21, 22, 23, 24, 25, 26, 27, 28, 29, 30] rfl rfl (c_X8_cell l dC dI cI cC cZ sa ax a18.1 a18.2.1 a18.2.2.1 a18.2.2.2.1 a18.2.2.2.2.1 a18.2.2.2.2.2.1 a18.2.2.2.2.2.2.1 a18.2.2.2.2.2.2.2.1 a18.2.2.2.2.2.2.2.2.1 a18.2.2.2.2.2.2.2.2.2.1 a18.2.2.2.2.2.2.2.2.2.2.1 a18.2.2.2.2.2.2.2.2.2.2.2.1 a18.2.2.2.2.2.2.2.2.2.2.2.2.1 (xs (a18.2.2.2.2.2.2.2.2.2.2.2.2.2.2.2.2.2.2.2.2.2.2 + (1 : Int32)).toNatClampNeg) hcr _) gL_law_X8_cell rfl (by decide +kernel) ⟨Nat.le_of_ble_eq_true rfl, Nat.le_of_ble_eq_true rfl⟩ 0 8 rfl rfl rfl hl.1 rfl (Nat.le_of_ble_eq_true rfl) dL_law_255 ⟨Nat.le_of_ble_eq_true rfl, Nat.le_of_ble_eq_true rfl⟩) (fun H locs hP hS => ?_)
                  refine lv_aload_n hx hb dL_law_258 rfl (lv_at hl 2 rfl) ?_
                  refine lv_aload_n hx hb dL_law_259 rfl (lv_at hl 0 rfl) ?_
                  refine lv_iload_n hx hb dL_law_260 rfl (lv_at hl 3 rfl) ?_
                  refine lv_iconst (v := 1) hx hb dL_law_261 (by decide) ?_
                  refine lv_iadd hx hb dL_law_262 ?_
                  obtain ⟨hin, hM⟩ := if_ok hM
                  refine va_sld hx hb hX hbl hbA hS hin dL_law_263 ?_
                  obtain ⟨z264, hcr, hM⟩ := ob_s hM
                  refine res_i0 F hP hS rfl [31, 32, 33, 34, 35, 36, 37, 38, 39, 40, 41, 42, 43] rfl rfl (runV_of (n := 1) (As := [.int (xs (a18.2.2.2.2.2.2.2.2.2.2.2.2.2.2.2.2.2.2.2.2.2.2 + (1 : Int32)).toNatClampNeg)]) (rest := [.int z255]) F hP hS rfl [31, 32, 33, 34, 35, 36, 37, 38, 39, 40, 41, 42, 43] rfl rfl (c_X9_cell l dC dI cI cC cZ sa am a18.2.2.2.2.2.2.2.2.2.2.2.2.2.1 a18.2.2.2.2.2.2.2.2.2.2.2.2.2.2.1 a18.2.2.2.2.2.2.2.2.2.2.2.2.2.2.2.1 a18.2.2.2.2.2.2.2.2.2.2.2.2.2.2.2.2.1 a18.2.2.2.2.2.2.2.2.2.2.2.2.2.2.2.2.2.1 a18.2.2.2.2.2.2.2.2.2.2.2.2.2.2.2.2.2.2.1 a18.2.2.2.2.2.2.2.2.2.2.2.2.2.2.2.2.2.2.2.1 a18.2.2.2.2.2.2.2.2.2.2.2.2.2.2.2.2.2.2.2.2.1 a18.2.2.2.2.2.2.2.2.2.2.2.2.2.2.2.2.2.2.2.2.2.1 (xs (a18.2.2.2.2.2.2.2.2.2.2.2.2.2.2.2.2.2.2.2.2.2.2 + (1 : Int32)).toNatClampNeg) hcr _) gL_law_X9_cell rfl (by decide +kernel) ⟨Nat.le_of_ble_eq_true rfl, Nat.le_of_ble_eq_true rfl⟩ 31 9 rfl rfl rfl hl.1 rfl (Nat.le_of_ble_eq_true rfl) dL_law_264 ⟨Nat.le_of_ble_eq_true rfl, Nat.le_of_ble_eq_true rfl⟩) (fun H locs hP hS => ?_)
                  refine lv_icmp_eq (tgt := 773) hx hb dL_law_267 (by decide) (fun hc => ?_) (fun hc => ?_)
                  · have hM := if_pp hc hM
                    exact j773 (a18.1, a18.2.1, a18.2.2.1, a18.2.2.2.1, a18.2.2.2.2.1, a18.2.2.2.2.2.1, a18.2.2.2.2.2.2.1, a18.2.2.2.2.2.2.2.1, a18.2.2.2.2.2.2.2.2.1, a18.2.2.2.2.2.2.2.2.2.1, a18.2.2.2.2.2.2.2.2.2.2.1, a18.2.2.2.2.2.2.2.2.2.2.2.1, a18.2.2.2.2.2.2.2.2.2.2.2.2.1, a18.2.2.2.2.2.2.2.2.2.2.2.2.2.1, a18.2.2.2.2.2.2.2.2.2.2.2.2.2.2.1, a18.2.2.2.2.2.2.2.2.2.2.2.2.2.2.2.1, a18.2.2.2.2.2.2.2.2.2.2.2.2.2.2.2.2.1, a18.2.2.2.2.2.2.2.2.2.2.2.2.2.2.2.2.2.1, a18.2.2.2.2.2.2.2.2.2.2.2.2.2.2.2.2.2.2.1, a18.2.2.2.2.2.2.2.2.2.2.2.2.2.2.2.2.2.2.2.1, a18.2.2.2.2.2.2.2.2.2.2.2.2.2.2.2.2.2.2.2.2.1, a18.2.2.2.2.2.2.2.2.2.2.2.2.2.2.2.2.2.2.2.2.2.1, a18.2.2.2.2.2.2.2.2.2.2.2.2.2.2.2.2.2.2.2.2.2.2) _ _ _ hP hS (lv_sub hl [0, 1, 2, 3] rfl) hM
                  · have hM := if_nn hc hM
                    refine lv_iconst (v := 0) hx hb dL_law_270 (by decide) ?_
                    exact no_s hM
                · have hM := if_nn hc5 hM
                  by_cases hc6 : ((xs a18.2.2.2.2.2.2.2.2.2.2.2.2.2.2.2.2.2.2.2.2.2.2.toNatClampNeg) &&& (31 : Int32)) = (6 : Int32)
                  · have hM := if_pp hc6 hM
                    refine lv_tableIn (off := 240) (tgt := 272) hx hb dL_law_32 (by rw [hc6]; decide) (by rw [hc6]; decide) (by rw [hc6]; rfl) (by decide) ?_
                    refine lv_aload_n hx hb dL_law_272 rfl (lv_at hl 1 rfl) ?_
                    refine lv_aload_n hx hb dL_law_273 rfl (lv_at hl 0 rfl) ?_
                    refine lv_iload_n hx hb dL_law_274 rfl (lv_at hl 3 rfl) ?_
                    refine lv_iconst (v := 1) hx hb dL_law_275 (by decide) ?_
                    refine lv_iadd hx hb dL_law_276 ?_
                    obtain ⟨hin, hM⟩ := if_ok hM
                    refine va_sld hx hb hX hbl hbA hS hin dL_law_277 ?_
                    refine lv_aload_n hx hb dL_law_278 rfl (lv_at hl 0 rfl) ?_
                    refine lv_iload_n hx hb dL_law_279 rfl (lv_at hl 3 rfl) ?_
                    refine lv_iconst (v := 2) hx hb dL_law_280 (by decide) ?_
                    refine lv_iadd hx hb dL_law_281 ?_
                    obtain ⟨hin, hM⟩ := if_ok hM
                    refine va_sld hx hb hX hbl hbA hS hin dL_law_282 ?_
                    obtain ⟨z283, hcr, hM⟩ := ob_s hM
                    refine res_i (ws' := (wX cI cC ax a18.1 z283.2 a18.2.2.1 a18.2.2.2.1 a18.2.2.2.2.1 a18.2.2.2.2.2.1 a18.2.2.2.2.2.2.1 a18.2.2.2.2.2.2.2.1 a18.2.2.2.2.2.2.2.2.1 a18.2.2.2.2.2.2.2.2.2.1 a18.2.2.2.2.2.2.2.2.2.2.1 a18.2.2.2.2.2.2.2.2.2.2.2.1 a18.2.2.2.2.2.2.2.2.2.2.2.2.1 ++ wM cI cZ am a18.2.2.2.2.2.2.2.2.2.2.2.2.2.1 a18.2.2.2.2.2.2.2.2.2.2.2.2.2.2.1 a18.2.2.2.2.2.2.2.2.2.2.2.2.2.2.2.1 a18.2.2.2.2.2.2.2.2.2.2.2.2.2.2.2.2.1 a18.2.2.2.2.2.2.2.2.2.2.2.2.2.2.2.2.2.1 a18.2.2.2.2.2.2.2.2.2.2.2.2.2.2.2.2.2.2.1 a18.2.2.2.2.2.2.2.2.2.2.2.2.2.2.2.2.2.2.2.1 a18.2.2.2.2.2.2.2.2.2.2.2.2.2.2.2.2.2.2.2.2.1 a18.2.2.2.2.2.2.2.2.2.2.2.2.2.2.2.2.2.2.2.2.2.1)) F hP hS rfl [0, 1, 2, 3, 4, 5, 6, 7, 8, 9, 10, 11, 12, 13, 14, 15, 16, 17, 18, 19, 20, 21, 22, 23, 24, 25, 26, 27, 28, 29, 30] rfl rfl (runV_of (n := 2) (As := [.int (xs (a18.2.2.2.2.2.2.2.2.2.2.2.2.2.2.2.2.2.2.2.2.2.2 + (1 : Int32)).toNatClampNeg), .int (xs (a18.2.2.2.2.2.2.2.2.2.2.2.2.2.2.2.2.2.2.2.2.2.2 + (2 : Int32)).toNatClampNeg)]) (rest := []) F hP hS rfl [0, 1, 2, 3, 4, 5, 6, 7, 8, 9, 10, 11, 12, 13, 14, 15, 16, 17, 18, 19, 20, 21, 22, 23, 24, 25, 26, 27, 28, 29, 30] rfl rfl (c_X8_place l dC dI cI cC cZ sa ax a18.1 a18.2.1 a18.2.2.1 a18.2.2.2.1 a18.2.2.2.2.1 a18.2.2.2.2.2.1 a18.2.2.2.2.2.2.1 a18.2.2.2.2.2.2.2.1 a18.2.2.2.2.2.2.2.2.1 a18.2.2.2.2.2.2.2.2.2.1 a18.2.2.2.2.2.2.2.2.2.2.1 a18.2.2.2.2.2.2.2.2.2.2.2.1 a18.2.2.2.2.2.2.2.2.2.2.2.2.1 (xs (a18.2.2.2.2.2.2.2.2.2.2.2.2.2.2.2.2.2.2.2.2.2.2 + (1 : Int32)).toNatClampNeg) (xs (a18.2.2.2.2.2.2.2.2.2.2.2.2.2.2.2.2.2.2.2.2.2.2 + (2 : Int32)).toNatClampNeg) hcr _) gL_law_X8_place rfl (by decide +kernel) ⟨Nat.le_of_ble_eq_true rfl, Nat.le_of_ble_eq_true rfl⟩ 0 8 rfl rfl rfl hl.1 rfl (Nat.le_of_ble_eq_true rfl) dL_law_283 ⟨Nat.le_of_ble_eq_true rfl, Nat.le_of_ble_eq_true rfl⟩) (rep_pre _ _ _ rfl (show ∀ k ∈ _, k < 31 by decide)) (fun H locs hP hS => ?_)
                    refine lv_aload_n hx hb dL_law_286 rfl (lv_at hl 2 rfl) ?_
                    refine lv_aload_n hx hb dL_law_287 rfl (lv_at hl 0 rfl) ?_
                    refine lv_iload_n hx hb dL_law_288 rfl (lv_at hl 3 rfl) ?_
                    refine lv_iconst (v := 1) hx hb dL_law_289 (by decide) ?_
                    refine lv_iadd hx hb dL_law_290 ?_
                    obtain ⟨hin, hM⟩ := if_ok hM
                    refine va_sld hx hb hX hbl hbA hS hin dL_law_291 ?_
                    refine lv_aload_n hx hb dL_law_292 rfl (lv_at hl 0 rfl) ?_
                    refine lv_iload_n hx hb dL_law_293 rfl (lv_at hl 3 rfl) ?_
                    refine lv_iconst (v := 2) hx hb dL_law_294 (by decide) ?_
                    refine lv_iadd hx hb dL_law_295 ?_
                    obtain ⟨hin, hM⟩ := if_ok hM
                    refine va_sld hx hb hX hbl hbA hS hin dL_law_296 ?_
                    obtain ⟨z297, hcr, hM⟩ := ob_s hM
                    refine res_i (ws' := (wX cI cC ax a18.1 z283.2 a18.2.2.1 a18.2.2.2.1 a18.2.2.2.2.1 a18.2.2.2.2.2.1 a18.2.2.2.2.2.2.1 a18.2.2.2.2.2.2.2.1 a18.2.2.2.2.2.2.2.2.1 a18.2.2.2.2.2.2.2.2.2.1 a18.2.2.2.2.2.2.2.2.2.2.1 a18.2.2.2.2.2.2.2.2.2.2.2.1 a18.2.2.2.2.2.2.2.2.2.2.2.2.1 ++ wM cI cZ am z297.2 a18.2.2.2.2.2.2.2.2.2.2.2.2.2.2.1 a18.2.2.2.2.2.2.2.2.2.2.2.2.2.2.2.1 a18.2.2.2.2.2.2.2.2.2.2.2.2.2.2.2.2.1 a18.2.2.2.2.2.2.2.2.2.2.2.2.2.2.2.2.2.1 a18.2.2.2.2.2.2.2.2.2.2.2.2.2.2.2.2.2.2.1 a18.2.2.2.2.2.2.2.2.2.2.2.2.2.2.2.2.2.2.2.1 a18.2.2.2.2.2.2.2.2.2.2.2.2.2.2.2.2.2.2.2.2.1 a18.2.2.2.2.2.2.2.2.2.2.2.2.2.2.2.2.2.2.2.2.2.1)) F hP hS rfl [31, 32, 33, 34, 35, 36, 37, 38, 39, 40, 41, 42, 43] rfl rfl (runV_of (n := 2) (As := [.int (xs (a18.2.2.2.2.2.2.2.2.2.2.2.2.2.2.2.2.2.2.2.2.2.2 + (1 : Int32)).toNatClampNeg), .int (xs (a18.2.2.2.2.2.2.2.2.2.2.2.2.2.2.2.2.2.2.2.2.2.2 + (2 : Int32)).toNatClampNeg)]) (rest := [.int z283.1]) F hP hS rfl [31, 32, 33, 34, 35, 36, 37, 38, 39, 40, 41, 42, 43] rfl rfl (c_X9_place l dC dI cI cC cZ sa am a18.2.2.2.2.2.2.2.2.2.2.2.2.2.1 a18.2.2.2.2.2.2.2.2.2.2.2.2.2.2.1 a18.2.2.2.2.2.2.2.2.2.2.2.2.2.2.2.1 a18.2.2.2.2.2.2.2.2.2.2.2.2.2.2.2.2.1 a18.2.2.2.2.2.2.2.2.2.2.2.2.2.2.2.2.2.1 a18.2.2.2.2.2.2.2.2.2.2.2.2.2.2.2.2.2.2.1 a18.2.2.2.2.2.2.2.2.2.2.2.2.2.2.2.2.2.2.2.1 a18.2.2.2.2.2.2.2.2.2.2.2.2.2.2.2.2.2.2.2.2.1 a18.2.2.2.2.2.2.2.2.2.2.2.2.2.2.2.2.2.2.2.2.2.1 (xs (a18.2.2.2.2.2.2.2.2.2.2.2.2.2.2.2.2.2.2.2.2.2.2 + (1 : Int32)).toNatClampNeg) (xs (a18.2.2.2.2.2.2.2.2.2.2.2.2.2.2.2.2.2.2.2.2.2.2 + (2 : Int32)).toNatClampNeg) hcr _) gL_law_X9_place rfl (by decide +kernel) ⟨Nat.le_of_ble_eq_true rfl, Nat.le_of_ble_eq_true rfl⟩ 31 9 rfl rfl rfl hl.1 rfl (Nat.le_of_ble_eq_true rfl) dL_law_297 ⟨Nat.le_of_ble_eq_true rfl, Nat.le_of_ble_eq_true rfl⟩) (rep_suf _ _ _ (show ∀ k ∈ _, 31 ≤ k by decide)) (fun H locs hP hS => ?_)
                    refine lv_icmp_eq (tgt := 773) hx hb dL_law_300 (by decide) (fun hc => ?_) (fun hc => ?_)
                    · have hM := if_pp hc hM
                      exact j773 (a18.1, z283.2, a18.2.2.1, a18.2.2.2.1, a18.2.2.2.2.1, a18.2.2.2.2.2.1, a18.2.2.2.2.2.2.1, a18.2.2.2.2.2.2.2.1, a18.2.2.2.2.2.2.2.2.1, a18.2.2.2.2.2.2.2.2.2.1, a18.2.2.2.2.2.2.2.2.2.2.1, a18.2.2.2.2.2.2.2.2.2.2.2.1, a18.2.2.2.2.2.2.2.2.2.2.2.2.1, z297.2, a18.2.2.2.2.2.2.2.2.2.2.2.2.2.2.1, a18.2.2.2.2.2.2.2.2.2.2.2.2.2.2.2.1, a18.2.2.2.2.2.2.2.2.2.2.2.2.2.2.2.2.1, a18.2.2.2.2.2.2.2.2.2.2.2.2.2.2.2.2.2.1, a18.2.2.2.2.2.2.2.2.2.2.2.2.2.2.2.2.2.2.1, a18.2.2.2.2.2.2.2.2.2.2.2.2.2.2.2.2.2.2.2.1, a18.2.2.2.2.2.2.2.2.2.2.2.2.2.2.2.2.2.2.2.2.1, a18.2.2.2.2.2.2.2.2.2.2.2.2.2.2.2.2.2.2.2.2.2.1, a18.2.2.2.2.2.2.2.2.2.2.2.2.2.2.2.2.2.2.2.2.2.2) _ _ _ hP hS (lv_sub hl [0, 1, 2, 3] rfl) hM
                    · have hM := if_nn hc hM
                      refine lv_iconst (v := 0) hx hb dL_law_303 (by decide) ?_
                      exact no_s hM
                  · have hM := if_nn hc6 hM
                    by_cases hc7 : ((xs a18.2.2.2.2.2.2.2.2.2.2.2.2.2.2.2.2.2.2.2.2.2.2.toNatClampNeg) &&& (31 : Int32)) = (7 : Int32)
                    · have hM := if_pp hc7 hM
                      refine lv_tableIn (off := 273) (tgt := 305) hx hb dL_law_32 (by rw [hc7]; decide) (by rw [hc7]; decide) (by rw [hc7]; rfl) (by decide) ?_
                      refine lv_aload_n hx hb dL_law_305 rfl (lv_at hl 1 rfl) ?_
                      refine lv_aload_n hx hb dL_law_306 rfl (lv_at hl 0 rfl) ?_
                      refine lv_iload_n hx hb dL_law_307 rfl (lv_at hl 3 rfl) ?_
                      refine lv_iconst (v := 1) hx hb dL_law_308 (by decide) ?_
                      refine lv_iadd hx hb dL_law_309 ?_
                      obtain ⟨hin, hM⟩ := if_ok hM
                      refine va_sld hx hb hX hbl hbA hS hin dL_law_310 ?_
                      refine lv_aload_n hx hb dL_law_311 rfl (lv_at hl 0 rfl) ?_
                      refine lv_iload_n hx hb dL_law_312 rfl (lv_at hl 3 rfl) ?_
                      refine lv_iconst (v := 2) hx hb dL_law_313 (by decide) ?_
                      refine lv_iadd hx hb dL_law_314 ?_
                      obtain ⟨hin, hM⟩ := if_ok hM
                      refine va_sld hx hb hX hbl hbA hS hin dL_law_315 ?_
                      refine lv_aload_n hx hb dL_law_316 rfl (lv_at hl 0 rfl) ?_
                      refine lv_iload_n hx hb dL_law_317 rfl (lv_at hl 3 rfl) ?_
                      refine lv_iconst (v := 3) hx hb dL_law_318 (by decide) ?_
                      refine lv_iadd hx hb dL_law_319 ?_
                      obtain ⟨hin, hM⟩ := if_ok hM
                      refine va_sld hx hb hX hbl hbA hS hin dL_law_320 ?_
                      refine lv_if_eq (tgt := 328) hx hb dL_law_321 (by decide) (fun hc => ?_) (fun hc => ?_)
                      · have hM := if_pp hc hM
                        refine lv_iconst (v := 0) hx hb dL_law_328 (by decide) ?_
                        exact j329 (a18.1, a18.2.1, a18.2.2.1, a18.2.2.2.1, a18.2.2.2.2.1, a18.2.2.2.2.2.1, a18.2.2.2.2.2.2.1, a18.2.2.2.2.2.2.2.1, a18.2.2.2.2.2.2.2.2.1, a18.2.2.2.2.2.2.2.2.2.1, a18.2.2.2.2.2.2.2.2.2.2.1, a18.2.2.2.2.2.2.2.2.2.2.2.1, a18.2.2.2.2.2.2.2.2.2.2.2.2.1, a18.2.2.2.2.2.2.2.2.2.2.2.2.2.1, a18.2.2.2.2.2.2.2.2.2.2.2.2.2.2.1, a18.2.2.2.2.2.2.2.2.2.2.2.2.2.2.2.1, a18.2.2.2.2.2.2.2.2.2.2.2.2.2.2.2.2.1, a18.2.2.2.2.2.2.2.2.2.2.2.2.2.2.2.2.2.1, a18.2.2.2.2.2.2.2.2.2.2.2.2.2.2.2.2.2.2.1, a18.2.2.2.2.2.2.2.2.2.2.2.2.2.2.2.2.2.2.2.1, a18.2.2.2.2.2.2.2.2.2.2.2.2.2.2.2.2.2.2.2.2.1, a18.2.2.2.2.2.2.2.2.2.2.2.2.2.2.2.2.2.2.2.2.2.1, a18.2.2.2.2.2.2.2.2.2.2.2.2.2.2.2.2.2.2.2.2.2.2, (0 : Int32), (xs (a18.2.2.2.2.2.2.2.2.2.2.2.2.2.2.2.2.2.2.2.2.2.2 + (2 : Int32)).toNatClampNeg), (xs (a18.2.2.2.2.2.2.2.2.2.2.2.2.2.2.2.2.2.2.2.2.2.2 + (1 : Int32)).toNatClampNeg)) _ _ _ hP hS (lv_sub hl [0, 1, 2, 3] rfl) hM
                      · have hM := if_nn hc hM
                        refine lv_iconst (v := 1) hx hb dL_law_324 (by decide) ?_
                        refine lv_goto (tgt := 329) hx hb dL_law_325 (by decide) ?_
                        exact j329 (a18.1, a18.2.1, a18.2.2.1, a18.2.2.2.1, a18.2.2.2.2.1, a18.2.2.2.2.2.1, a18.2.2.2.2.2.2.1, a18.2.2.2.2.2.2.2.1, a18.2.2.2.2.2.2.2.2.1, a18.2.2.2.2.2.2.2.2.2.1, a18.2.2.2.2.2.2.2.2.2.2.1, a18.2.2.2.2.2.2.2.2.2.2.2.1, a18.2.2.2.2.2.2.2.2.2.2.2.2.1, a18.2.2.2.2.2.2.2.2.2.2.2.2.2.1, a18.2.2.2.2.2.2.2.2.2.2.2.2.2.2.1, a18.2.2.2.2.2.2.2.2.2.2.2.2.2.2.2.1, a18.2.2.2.2.2.2.2.2.2.2.2.2.2.2.2.2.1, a18.2.2.2.2.2.2.2.2.2.2.2.2.2.2.2.2.2.1, a18.2.2.2.2.2.2.2.2.2.2.2.2.2.2.2.2.2.2.1, a18.2.2.2.2.2.2.2.2.2.2.2.2.2.2.2.2.2.2.2.1, a18.2.2.2.2.2.2.2.2.2.2.2.2.2.2.2.2.2.2.2.2.1, a18.2.2.2.2.2.2.2.2.2.2.2.2.2.2.2.2.2.2.2.2.2.1, a18.2.2.2.2.2.2.2.2.2.2.2.2.2.2.2.2.2.2.2.2.2.2, (1 : Int32), (xs (a18.2.2.2.2.2.2.2.2.2.2.2.2.2.2.2.2.2.2.2.2.2.2 + (2 : Int32)).toNatClampNeg), (xs (a18.2.2.2.2.2.2.2.2.2.2.2.2.2.2.2.2.2.2.2.2.2.2 + (1 : Int32)).toNatClampNeg)) _ _ _ hP hS (lv_sub hl [0, 1, 2, 3] rfl) hM
                    · have hM := if_nn hc7 hM
                      by_cases hc8 : ((xs a18.2.2.2.2.2.2.2.2.2.2.2.2.2.2.2.2.2.2.2.2.2.2.toNatClampNeg) &&& (31 : Int32)) = (8 : Int32)
                      · have hM := if_pp hc8 hM
                        refine lv_tableIn (off := 332) (tgt := 364) hx hb dL_law_32 (by rw [hc8]; decide) (by rw [hc8]; decide) (by rw [hc8]; rfl) (by decide) ?_
                        refine lv_aload_n hx hb dL_law_364 rfl (lv_at hl 1 rfl) ?_
                        obtain ⟨z365, hcr, hM⟩ := ob_s hM
                        refine res_i (ws' := (wX cI cC ax a18.1 a18.2.1 z365.2 a18.2.2.2.1 a18.2.2.2.2.1 a18.2.2.2.2.2.1 a18.2.2.2.2.2.2.1 a18.2.2.2.2.2.2.2.1 a18.2.2.2.2.2.2.2.2.1 a18.2.2.2.2.2.2.2.2.2.1 a18.2.2.2.2.2.2.2.2.2.2.1 a18.2.2.2.2.2.2.2.2.2.2.2.1 a18.2.2.2.2.2.2.2.2.2.2.2.2.1 ++ wM cI cZ am a18.2.2.2.2.2.2.2.2.2.2.2.2.2.1 a18.2.2.2.2.2.2.2.2.2.2.2.2.2.2.1 a18.2.2.2.2.2.2.2.2.2.2.2.2.2.2.2.1 a18.2.2.2.2.2.2.2.2.2.2.2.2.2.2.2.2.1 a18.2.2.2.2.2.2.2.2.2.2.2.2.2.2.2.2.2.1 a18.2.2.2.2.2.2.2.2.2.2.2.2.2.2.2.2.2.2.1 a18.2.2.2.2.2.2.2.2.2.2.2.2.2.2.2.2.2.2.2.1 a18.2.2.2.2.2.2.2.2.2.2.2.2.2.2.2.2.2.2.2.2.1 a18.2.2.2.2.2.2.2.2.2.2.2.2.2.2.2.2.2.2.2.2.2.1)) F hP hS rfl [0, 1, 2, 3, 4, 5, 6, 7, 8, 9, 10, 11, 12, 13, 14, 15, 16, 17, 18, 19, 20, 21, 22, 23, 24, 25, 26, 27, 28, 29, 30] rfl rfl (runV_of (n := 0) (As := []) (rest := []) F hP hS rfl [0, 1, 2, 3, 4, 5, 6, 7, 8, 9, 10, 11, 12, 13, 14, 15, 16, 17, 18, 19, 20, 21, 22, 23, 24, 25, 26, 27, 28, 29, 30] rfl rfl (c_X8_dismiss l dC dI cI cC cZ sa ax a18.1 a18.2.1 a18.2.2.1 a18.2.2.2.1 a18.2.2.2.2.1 a18.2.2.2.2.2.1 a18.2.2.2.2.2.2.1 a18.2.2.2.2.2.2.2.1 a18.2.2.2.2.2.2.2.2.1 a18.2.2.2.2.2.2.2.2.2.1 a18.2.2.2.2.2.2.2.2.2.2.1 a18.2.2.2.2.2.2.2.2.2.2.2.1 a18.2.2.2.2.2.2.2.2.2.2.2.2.1 hcr _) gL_law_X8_dismiss rfl (by decide +kernel) ⟨Nat.le_of_ble_eq_true rfl, Nat.le_of_ble_eq_true rfl⟩ 0 8 rfl rfl rfl hl.1 rfl (Nat.le_of_ble_eq_true rfl) dL_law_365 ⟨Nat.le_of_ble_eq_true rfl, Nat.le_of_ble_eq_true rfl⟩) (rep_pre _ _ _ rfl (show ∀ k ∈ _, k < 31 by decide)) (fun H locs hP hS => ?_)
                        refine lv_aload_n hx hb dL_law_368 rfl (lv_at hl 2 rfl) ?_
                        obtain ⟨z369, hcr, hM⟩ := ob_s hM
                        refine res_i (ws' := (wX cI cC ax a18.1 a18.2.1 z365.2 a18.2.2.2.1 a18.2.2.2.2.1 a18.2.2.2.2.2.1 a18.2.2.2.2.2.2.1 a18.2.2.2.2.2.2.2.1 a18.2.2.2.2.2.2.2.2.1 a18.2.2.2.2.2.2.2.2.2.1 a18.2.2.2.2.2.2.2.2.2.2.1 a18.2.2.2.2.2.2.2.2.2.2.2.1 a18.2.2.2.2.2.2.2.2.2.2.2.2.1 ++ wM cI cZ am z369.2 a18.2.2.2.2.2.2.2.2.2.2.2.2.2.2.1 a18.2.2.2.2.2.2.2.2.2.2.2.2.2.2.2.1 a18.2.2.2.2.2.2.2.2.2.2.2.2.2.2.2.2.1 a18.2.2.2.2.2.2.2.2.2.2.2.2.2.2.2.2.2.1 a18.2.2.2.2.2.2.2.2.2.2.2.2.2.2.2.2.2.2.1 a18.2.2.2.2.2.2.2.2.2.2.2.2.2.2.2.2.2.2.2.1 a18.2.2.2.2.2.2.2.2.2.2.2.2.2.2.2.2.2.2.2.2.1 a18.2.2.2.2.2.2.2.2.2.2.2.2.2.2.2.2.2.2.2.2.2.1)) F hP hS rfl [31, 32, 33, 34, 35, 36, 37, 38, 39, 40, 41, 42, 43] rfl rfl (runV_of (n := 0) (As := []) (rest := [.int z365.1]) F hP hS rfl [31, 32, 33, 34, 35, 36, 37, 38, 39, 40, 41, 42, 43] rfl rfl (c_X9_dismiss l dC dI cI cC cZ sa am a18.2.2.2.2.2.2.2.2.2.2.2.2.2.1 a18.2.2.2.2.2.2.2.2.2.2.2.2.2.2.1 a18.2.2.2.2.2.2.2.2.2.2.2.2.2.2.2.1 a18.2.2.2.2.2.2.2.2.2.2.2.2.2.2.2.2.1 a18.2.2.2.2.2.2.2.2.2.2.2.2.2.2.2.2.2.1 a18.2.2.2.2.2.2.2.2.2.2.2.2.2.2.2.2.2.2.1 a18.2.2.2.2.2.2.2.2.2.2.2.2.2.2.2.2.2.2.2.1 a18.2.2.2.2.2.2.2.2.2.2.2.2.2.2.2.2.2.2.2.2.1 a18.2.2.2.2.2.2.2.2.2.2.2.2.2.2.2.2.2.2.2.2.2.1 hcr _) gL_law_X9_dismiss rfl (by decide +kernel) ⟨Nat.le_of_ble_eq_true rfl, Nat.le_of_ble_eq_true rfl⟩ 31 9 rfl rfl rfl hl.1 rfl (Nat.le_of_ble_eq_true rfl) dL_law_369 ⟨Nat.le_of_ble_eq_true rfl, Nat.le_of_ble_eq_true rfl⟩) (rep_suf _ _ _ (show ∀ k ∈ _, 31 ≤ k by decide)) (fun H locs hP hS => ?_)
                        refine lv_icmp_eq (tgt := 773) hx hb dL_law_372 (by decide) (fun hc => ?_) (fun hc => ?_)
                        · have hM := if_pp hc hM
                          exact j773 (a18.1, a18.2.1, z365.2, a18.2.2.2.1, a18.2.2.2.2.1, a18.2.2.2.2.2.1, a18.2.2.2.2.2.2.1, a18.2.2.2.2.2.2.2.1, a18.2.2.2.2.2.2.2.2.1, a18.2.2.2.2.2.2.2.2.2.1, a18.2.2.2.2.2.2.2.2.2.2.1, a18.2.2.2.2.2.2.2.2.2.2.2.1, a18.2.2.2.2.2.2.2.2.2.2.2.2.1, z369.2, a18.2.2.2.2.2.2.2.2.2.2.2.2.2.2.1, a18.2.2.2.2.2.2.2.2.2.2.2.2.2.2.2.1, a18.2.2.2.2.2.2.2.2.2.2.2.2.2.2.2.2.1, a18.2.2.2.2.2.2.2.2.2.2.2.2.2.2.2.2.2.1, a18.2.2.2.2.2.2.2.2.2.2.2.2.2.2.2.2.2.2.1, a18.2.2.2.2.2.2.2.2.2.2.2.2.2.2.2.2.2.2.2.1, a18.2.2.2.2.2.2.2.2.2.2.2.2.2.2.2.2.2.2.2.2.1, a18.2.2.2.2.2.2.2.2.2.2.2.2.2.2.2.2.2.2.2.2.2.1, a18.2.2.2.2.2.2.2.2.2.2.2.2.2.2.2.2.2.2.2.2.2.2) _ _ _ hP hS (lv_sub hl [0, 1, 2, 3] rfl) hM
                        · have hM := if_nn hc hM
                          refine lv_iconst (v := 0) hx hb dL_law_375 (by decide) ?_
                          exact no_s hM
                      · have hM := if_nn hc8 hM
                        by_cases hc9 : ((xs a18.2.2.2.2.2.2.2.2.2.2.2.2.2.2.2.2.2.2.2.2.2.2.toNatClampNeg) &&& (31 : Int32)) = (9 : Int32)
                        · have hM := if_pp hc9 hM
                          refine lv_tableIn (off := 345) (tgt := 377) hx hb dL_law_32 (by rw [hc9]; decide) (by rw [hc9]; decide) (by rw [hc9]; rfl) (by decide) ?_
                          refine lv_aload_n hx hb dL_law_377 rfl (lv_at hl 1 rfl) ?_
                          refine lv_aload_n hx hb dL_law_378 rfl (lv_at hl 0 rfl) ?_
                          refine lv_iload_n hx hb dL_law_379 rfl (lv_at hl 3 rfl) ?_
                          refine lv_iconst (v := 1) hx hb dL_law_380 (by decide) ?_
                          refine lv_iadd hx hb dL_law_381 ?_
                          obtain ⟨hin, hM⟩ := if_ok hM
                          refine va_sld hx hb hX hbl hbA hS hin dL_law_382 ?_
                          obtain ⟨z383, hcr, hM⟩ := ob_s hM
                          refine res_i (ws' := (wX cI cC ax a18.1 z383.2 a18.2.2.1 a18.2.2.2.1 a18.2.2.2.2.1 a18.2.2.2.2.2.1 a18.2.2.2.2.2.2.1 a18.2.2.2.2.2.2.2.1 a18.2.2.2.2.2.2.2.2.1 a18.2.2.2.2.2.2.2.2.2.1 a18.2.2.2.2.2.2.2.2.2.2.1 a18.2.2.2.2.2.2.2.2.2.2.2.1 a18.2.2.2.2.2.2.2.2.2.2.2.2.1 ++ wM cI cZ am a18.2.2.2.2.2.2.2.2.2.2.2.2.2.1 a18.2.2.2.2.2.2.2.2.2.2.2.2.2.2.1 a18.2.2.2.2.2.2.2.2.2.2.2.2.2.2.2.1 a18.2.2.2.2.2.2.2.2.2.2.2.2.2.2.2.2.1 a18.2.2.2.2.2.2.2.2.2.2.2.2.2.2.2.2.2.1 a18.2.2.2.2.2.2.2.2.2.2.2.2.2.2.2.2.2.2.1 a18.2.2.2.2.2.2.2.2.2.2.2.2.2.2.2.2.2.2.2.1 a18.2.2.2.2.2.2.2.2.2.2.2.2.2.2.2.2.2.2.2.2.1 a18.2.2.2.2.2.2.2.2.2.2.2.2.2.2.2.2.2.2.2.2.2.1)) F hP hS rfl [0, 1, 2, 3, 4, 5, 6, 7, 8, 9, 10, 11, 12, 13, 14, 15, 16, 17, 18, 19, 20, 21, 22, 23, 24, 25, 26, 27, 28, 29, 30] rfl rfl (runV_of (n := 1) (As := [.int (xs (a18.2.2.2.2.2.2.2.2.2.2.2.2.2.2.2.2.2.2.2.2.2.2 + (1 : Int32)).toNatClampNeg)]) (rest := []) F hP hS rfl [0, 1, 2, 3, 4, 5, 6, 7, 8, 9, 10, 11, 12, 13, 14, 15, 16, 17, 18, 19, 20, 21, 22, 23, 24, 25, 26, 27, 28, 29, 30] rfl rfl (c_X8_ears l dC dI cI cC cZ sa ax a18.1 a18.2.1 a18.2.2.1 a18.2.2.2.1 a18.2.2.2.2.1 a18.2.2.2.2.2.1 a18.2.2.2.2.2.2.1 a18.2.2.2.2.2.2.2.1 a18.2.2.2.2.2.2.2.2.1 a18.2.2.2.2.2.2.2.2.2.1 a18.2.2.2.2.2.2.2.2.2.2.1 a18.2.2.2.2.2.2.2.2.2.2.2.1 a18.2.2.2.2.2.2.2.2.2.2.2.2.1 (xs (a18.2.2.2.2.2.2.2.2.2.2.2.2.2.2.2.2.2.2.2.2.2.2 + (1 : Int32)).toNatClampNeg) hcr _) gL_law_X8_ears rfl (by decide +kernel) ⟨Nat.le_of_ble_eq_true rfl, Nat.le_of_ble_eq_true rfl⟩ 0 8 rfl rfl rfl hl.1 rfl (Nat.le_of_ble_eq_true rfl) dL_law_383 ⟨Nat.le_of_ble_eq_true rfl, Nat.le_of_ble_eq_true rfl⟩) (rep_pre _ _ _ rfl (show ∀ k ∈ _, k < 31 by decide)) (fun H locs hP hS => ?_)
                          refine lv_aload_n hx hb dL_law_386 rfl (lv_at hl 2 rfl) ?_
                          refine lv_aload_n hx hb dL_law_387 rfl (lv_at hl 0 rfl) ?_
                          refine lv_iload_n hx hb dL_law_388 rfl (lv_at hl 3 rfl) ?_
                          refine lv_iconst (v := 1) hx hb dL_law_389 (by decide) ?_
                          refine lv_iadd hx hb dL_law_390 ?_
                          obtain ⟨hin, hM⟩ := if_ok hM
                          refine va_sld hx hb hX hbl hbA hS hin dL_law_391 ?_
                          obtain ⟨z392, hcr, hM⟩ := ob_s hM
                          refine res_i (ws' := (wX cI cC ax a18.1 z383.2 a18.2.2.1 a18.2.2.2.1 a18.2.2.2.2.1 a18.2.2.2.2.2.1 a18.2.2.2.2.2.2.1 a18.2.2.2.2.2.2.2.1 a18.2.2.2.2.2.2.2.2.1 a18.2.2.2.2.2.2.2.2.2.1 a18.2.2.2.2.2.2.2.2.2.2.1 a18.2.2.2.2.2.2.2.2.2.2.2.1 a18.2.2.2.2.2.2.2.2.2.2.2.2.1 ++ wM cI cZ am z392.2 a18.2.2.2.2.2.2.2.2.2.2.2.2.2.2.1 a18.2.2.2.2.2.2.2.2.2.2.2.2.2.2.2.1 a18.2.2.2.2.2.2.2.2.2.2.2.2.2.2.2.2.1 a18.2.2.2.2.2.2.2.2.2.2.2.2.2.2.2.2.2.1 a18.2.2.2.2.2.2.2.2.2.2.2.2.2.2.2.2.2.2.1 a18.2.2.2.2.2.2.2.2.2.2.2.2.2.2.2.2.2.2.2.1 a18.2.2.2.2.2.2.2.2.2.2.2.2.2.2.2.2.2.2.2.2.1 a18.2.2.2.2.2.2.2.2.2.2.2.2.2.2.2.2.2.2.2.2.2.1)) F hP hS rfl [31, 32, 33, 34, 35, 36, 37, 38, 39, 40, 41, 42, 43] rfl rfl (runV_of (n := 1) (As := [.int (xs (a18.2.2.2.2.2.2.2.2.2.2.2.2.2.2.2.2.2.2.2.2.2.2 + (1 : Int32)).toNatClampNeg)]) (rest := [.int z383.1]) F hP hS rfl [31, 32, 33, 34, 35, 36, 37, 38, 39, 40, 41, 42, 43] rfl rfl (c_X9_ears l dC dI cI cC cZ sa am a18.2.2.2.2.2.2.2.2.2.2.2.2.2.1 a18.2.2.2.2.2.2.2.2.2.2.2.2.2.2.1 a18.2.2.2.2.2.2.2.2.2.2.2.2.2.2.2.1 a18.2.2.2.2.2.2.2.2.2.2.2.2.2.2.2.2.1 a18.2.2.2.2.2.2.2.2.2.2.2.2.2.2.2.2.2.1 a18.2.2.2.2.2.2.2.2.2.2.2.2.2.2.2.2.2.2.1 a18.2.2.2.2.2.2.2.2.2.2.2.2.2.2.2.2.2.2.2.1 a18.2.2.2.2.2.2.2.2.2.2.2.2.2.2.2.2.2.2.2.2.1 a18.2.2.2.2.2.2.2.2.2.2.2.2.2.2.2.2.2.2.2.2.2.1 (xs (a18.2.2.2.2.2.2.2.2.2.2.2.2.2.2.2.2.2.2.2.2.2.2 + (1 : Int32)).toNatClampNeg) hcr _) gL_law_X9_ears rfl (by decide +kernel) ⟨Nat.le_of_ble_eq_true rfl, Nat.le_of_ble_eq_true rfl⟩ 31 9 rfl rfl rfl hl.1 rfl (Nat.le_of_ble_eq_true rfl) dL_law_392 ⟨Nat.le_of_ble_eq_true rfl, Nat.le_of_ble_eq_true rfl⟩) (rep_suf _ _ _ (show ∀ k ∈ _, 31 ≤ k by decide)) (fun H locs hP hS => ?_)
                          refine lv_icmp_eq (tgt := 773) hx hb dL_law_395 (by decide) (fun hc => ?_) (fun hc => ?_)
                          · have hM := if_pp hc hM
                            exact j773 (a18.1, z383.2, a18.2.2.1, a18.2.2.2.1, a18.2.2.2.2.1, a18.2.2.2.2.2.1, a18.2.2.2.2.2.2.1, a18.2.2.2.2.2.2.2.1, a18.2.2.2.2.2.2.2.2.1, a18.2.2.2.2.2.2.2.2.2.1, a18.2.2.2.2.2.2.2.2.2.2.1, a18.2.2.2.2.2.2.2.2.2.2.2.1, a18.2.2.2.2.2.2.2.2.2.2.2.2.1, z392.2, a18.2.2.2.2.2.2.2.2.2.2.2.2.2.2.1, a18.2.2.2.2.2.2.2.2.2.2.2.2.2.2.2.1, a18.2.2.2.2.2.2.2.2.2.2.2.2.2.2.2.2.1, a18.2.2.2.2.2.2.2.2.2.2.2.2.2.2.2.2.2.1, a18.2.2.2.2.2.2.2.2.2.2.2.2.2.2.2.2.2.2.1, a18.2.2.2.2.2.2.2.2.2.2.2.2.2.2.2.2.2.2.2.1, a18.2.2.2.2.2.2.2.2.2.2.2.2.2.2.2.2.2.2.2.2.1, a18.2.2.2.2.2.2.2.2.2.2.2.2.2.2.2.2.2.2.2.2.2.1, a18.2.2.2.2.2.2.2.2.2.2.2.2.2.2.2.2.2.2.2.2.2.2) _ _ _ hP hS (lv_sub hl [0, 1, 2, 3] rfl) hM
                          · have hM := if_nn hc hM
                            refine lv_iconst (v := 0) hx hb dL_law_398 (by decide) ?_
                            exact no_s hM
                        · have hM := if_nn hc9 hM
                          by_cases hc10 : ((xs a18.2.2.2.2.2.2.2.2.2.2.2.2.2.2.2.2.2.2.2.2.2.2.toNatClampNeg) &&& (31 : Int32)) = (10 : Int32)
                          · have hM := if_pp hc10 hM
                            refine lv_tableIn (off := 368) (tgt := 400) hx hb dL_law_32 (by rw [hc10]; decide) (by rw [hc10]; decide) (by rw [hc10]; rfl) (by decide) ?_
                            refine lv_aload_n hx hb dL_law_400 rfl (lv_at hl 1 rfl) ?_
                            refine lv_aload_n hx hb dL_law_401 rfl (lv_at hl 0 rfl) ?_
                            refine lv_iload_n hx hb dL_law_402 rfl (lv_at hl 3 rfl) ?_
                            refine lv_iconst (v := 1) hx hb dL_law_403 (by decide) ?_
                            refine lv_iadd hx hb dL_law_404 ?_
                            obtain ⟨hin, hM⟩ := if_ok hM
                            refine va_sld hx hb hX hbl hbA hS hin dL_law_405 ?_
                            obtain ⟨z406, hcr, hM⟩ := ob_s hM
                            refine res_i (ws' := (wX cI cC ax a18.1 a18.2.1 a18.2.2.1 a18.2.2.2.1 a18.2.2.2.2.1 a18.2.2.2.2.2.1 a18.2.2.2.2.2.2.1 a18.2.2.2.2.2.2.2.1 a18.2.2.2.2.2.2.2.2.1 z406.2.1 z406.2.2 a18.2.2.2.2.2.2.2.2.2.2.2.1 a18.2.2.2.2.2.2.2.2.2.2.2.2.1 ++ wM cI cZ am a18.2.2.2.2.2.2.2.2.2.2.2.2.2.1 a18.2.2.2.2.2.2.2.2.2.2.2.2.2.2.1 a18.2.2.2.2.2.2.2.2.2.2.2.2.2.2.2.1 a18.2.2.2.2.2.2.2.2.2.2.2.2.2.2.2.2.1 a18.2.2.2.2.2.2.2.2.2.2.2.2.2.2.2.2.2.1 a18.2.2.2.2.2.2.2.2.2.2.2.2.2.2.2.2.2.2.1 a18.2.2.2.2.2.2.2.2.2.2.2.2.2.2.2.2.2.2.2.1 a18.2.2.2.2.2.2.2.2.2.2.2.2.2.2.2.2.2.2.2.2.1 a18.2.2.2.2.2.2.2.2.2.2.2.2.2.2.2.2.2.2.2.2.2.1)) F hP hS rfl [0, 1, 2, 3, 4, 5, 6, 7, 8, 9, 10, 11, 12, 13, 14, 15, 16, 17, 18, 19, 20, 21, 22, 23, 24, 25, 26, 27, 28, 29, 30] rfl rfl (runV_of (n := 1) (As := [.int (xs (a18.2.2.2.2.2.2.2.2.2.2.2.2.2.2.2.2.2.2.2.2.2.2 + (1 : Int32)).toNatClampNeg)]) (rest := []) F hP hS rfl [0, 1, 2, 3, 4, 5, 6, 7, 8, 9, 10, 11, 12, 13, 14, 15, 16, 17, 18, 19, 20, 21, 22, 23, 24, 25, 26, 27, 28, 29, 30] rfl rfl (c_X8_judge l dC dI cI cC cZ sa ax a18.1 a18.2.1 a18.2.2.1 a18.2.2.2.1 a18.2.2.2.2.1 a18.2.2.2.2.2.1 a18.2.2.2.2.2.2.1 a18.2.2.2.2.2.2.2.1 a18.2.2.2.2.2.2.2.2.1 a18.2.2.2.2.2.2.2.2.2.1 a18.2.2.2.2.2.2.2.2.2.2.1 a18.2.2.2.2.2.2.2.2.2.2.2.1 a18.2.2.2.2.2.2.2.2.2.2.2.2.1 (xs (a18.2.2.2.2.2.2.2.2.2.2.2.2.2.2.2.2.2.2.2.2.2.2 + (1 : Int32)).toNatClampNeg) hcr _) gL_law_X8_judge rfl (by decide +kernel) ⟨Nat.le_of_ble_eq_true rfl, Nat.le_of_ble_eq_true rfl⟩ 0 8 rfl rfl rfl hl.1 rfl (Nat.le_of_ble_eq_true rfl) dL_law_406 ⟨Nat.le_of_ble_eq_true rfl, Nat.le_of_ble_eq_true rfl⟩) (rep_pre _ _ _ rfl (show ∀ k ∈ _, k < 31 by decide)) (fun H locs hP hS => ?_)
                            refine lv_aload_n hx hb dL_law_409 rfl (lv_at hl 2 rfl) ?_
                            refine lv_aload_n hx hb dL_law_410 rfl (lv_at hl 0 rfl) ?_
                            refine lv_iload_n hx hb dL_law_411 rfl (lv_at hl 3 rfl) ?_
                            refine lv_iconst (v := 1) hx hb dL_law_412 (by decide) ?_
                            refine lv_iadd hx hb dL_law_413 ?_
                            obtain ⟨hin, hM⟩ := if_ok hM
                            refine va_sld hx hb hX hbl hbA hS hin dL_law_414 ?_
                            obtain ⟨z415, hcr, hM⟩ := ob_s hM
                            refine res_i (ws' := (wX cI cC ax a18.1 a18.2.1 a18.2.2.1 a18.2.2.2.1 a18.2.2.2.2.1 a18.2.2.2.2.2.1 a18.2.2.2.2.2.2.1 a18.2.2.2.2.2.2.2.1 a18.2.2.2.2.2.2.2.2.1 z406.2.1 z406.2.2 a18.2.2.2.2.2.2.2.2.2.2.2.1 a18.2.2.2.2.2.2.2.2.2.2.2.2.1 ++ wM cI cZ am a18.2.2.2.2.2.2.2.2.2.2.2.2.2.1 a18.2.2.2.2.2.2.2.2.2.2.2.2.2.2.1 z415.2.1 z415.2.2 a18.2.2.2.2.2.2.2.2.2.2.2.2.2.2.2.2.2.1 a18.2.2.2.2.2.2.2.2.2.2.2.2.2.2.2.2.2.2.1 a18.2.2.2.2.2.2.2.2.2.2.2.2.2.2.2.2.2.2.2.1 a18.2.2.2.2.2.2.2.2.2.2.2.2.2.2.2.2.2.2.2.2.1 a18.2.2.2.2.2.2.2.2.2.2.2.2.2.2.2.2.2.2.2.2.2.1)) F hP hS rfl [31, 32, 33, 34, 35, 36, 37, 38, 39, 40, 41, 42, 43] rfl rfl (runV_of (n := 1) (As := [.int (xs (a18.2.2.2.2.2.2.2.2.2.2.2.2.2.2.2.2.2.2.2.2.2.2 + (1 : Int32)).toNatClampNeg)]) (rest := [.int z406.1]) F hP hS rfl [31, 32, 33, 34, 35, 36, 37, 38, 39, 40, 41, 42, 43] rfl rfl (c_X9_judge l dC dI cI cC cZ sa am a18.2.2.2.2.2.2.2.2.2.2.2.2.2.1 a18.2.2.2.2.2.2.2.2.2.2.2.2.2.2.1 a18.2.2.2.2.2.2.2.2.2.2.2.2.2.2.2.1 a18.2.2.2.2.2.2.2.2.2.2.2.2.2.2.2.2.1 a18.2.2.2.2.2.2.2.2.2.2.2.2.2.2.2.2.2.1 a18.2.2.2.2.2.2.2.2.2.2.2.2.2.2.2.2.2.2.1 a18.2.2.2.2.2.2.2.2.2.2.2.2.2.2.2.2.2.2.2.1 a18.2.2.2.2.2.2.2.2.2.2.2.2.2.2.2.2.2.2.2.2.1 a18.2.2.2.2.2.2.2.2.2.2.2.2.2.2.2.2.2.2.2.2.2.1 (xs (a18.2.2.2.2.2.2.2.2.2.2.2.2.2.2.2.2.2.2.2.2.2.2 + (1 : Int32)).toNatClampNeg) hcr _) gL_law_X9_judge rfl (by decide +kernel) ⟨Nat.le_of_ble_eq_true rfl, Nat.le_of_ble_eq_true rfl⟩ 31 9 rfl rfl rfl hl.1 rfl (Nat.le_of_ble_eq_true rfl) dL_law_415 ⟨Nat.le_of_ble_eq_true rfl, Nat.le_of_ble_eq_true rfl⟩) (rep_suf _ _ _ (show ∀ k ∈ _, 31 ≤ k by decide)) (fun H locs hP hS => ?_)
                            refine lv_icmp_eq (tgt := 773) hx hb dL_law_418 (by decide) (fun hc => ?_) (fun hc => ?_)
                            · have hM := if_pp hc hM
                              exact j773 (a18.1, a18.2.1, a18.2.2.1, a18.2.2.2.1, a18.2.2.2.2.1, a18.2.2.2.2.2.1, a18.2.2.2.2.2.2.1, a18.2.2.2.2.2.2.2.1, a18.2.2.2.2.2.2.2.2.1, z406.2.1, z406.2.2, a18.2.2.2.2.2.2.2.2.2.2.2.1, a18.2.2.2.2.2.2.2.2.2.2.2.2.1, a18.2.2.2.2.2.2.2.2.2.2.2.2.2.1, a18.2.2.2.2.2.2.2.2.2.2.2.2.2.2.1, z415.2.1, z415.2.2, a18.2.2.2.2.2.2.2.2.2.2.2.2.2.2.2.2.2.1, a18.2.2.2.2.2.2.2.2.2.2.2.2.2.2.2.2.2.2.1, a18.2.2.2.2.2.2.2.2.2.2.2.2.2.2.2.2.2.2.2.1, a18.2.2.2.2.2.2.2.2.2.2.2.2.2.2.2.2.2.2.2.2.1, a18.2.2.2.2.2.2.2.2.2.2.2.2.2.2.2.2.2.2.2.2.2.1, a18.2.2.2.2.2.2.2.2.2.2.2.2.2.2.2.2.2.2.2.2.2.2) _ _ _ hP hS (lv_sub hl [0, 1, 2, 3] rfl) hM
                            · have hM := if_nn hc hM
                              refine lv_iconst (v := 0) hx hb dL_law_421 (by decide) ?_
                              exact no_s hM
                          · have hM := if_nn hc10 hM
                            by_cases hc11 : ((xs a18.2.2.2.2.2.2.2.2.2.2.2.2.2.2.2.2.2.2.2.2.2.2.toNatClampNeg) &&& (31 : Int32)) = (11 : Int32)
                            · have hM := if_pp hc11 hM
                              refine lv_tableIn (off := 391) (tgt := 423) hx hb dL_law_32 (by rw [hc11]; decide) (by rw [hc11]; decide) (by rw [hc11]; rfl) (by decide) ?_
                              refine lv_aload_n hx hb dL_law_423 rfl (lv_at hl 1 rfl) ?_
                              refine lv_aload_n hx hb dL_law_424 rfl (lv_at hl 0 rfl) ?_
                              refine lv_iload_n hx hb dL_law_425 rfl (lv_at hl 3 rfl) ?_
                              refine lv_iconst (v := 1) hx hb dL_law_426 (by decide) ?_
                              refine lv_iadd hx hb dL_law_427 ?_
                              obtain ⟨hin, hM⟩ := if_ok hM
                              refine va_sld hx hb hX hbl hbA hS hin dL_law_428 ?_
                              obtain ⟨z429, hcr, hM⟩ := ob_s hM
                              refine res_i0 F hP hS rfl [0, 1, 2, 3, 4, 5, 6, 7, 8, 9, 10, 11, 12, 13, 14, 15, 16, 17, 18, 19, 20, 21, 22, 23, 24, 25, 26, 27, 28, 29, 30] rfl rfl (runV_of (n := 1) (As := [.int (xs (a18.2.2.2.2.2.2.2.2.2.2.2.2.2.2.2.2.2.2.2.2.2.2 + (1 : Int32)).toNatClampNeg)]) (rest := []) F hP hS rfl [0, 1, 2, 3, 4, 5, 6, 7, 8, 9, 10, 11, 12, 13, 14, 15, 16, 17, 18, 19, 20, 21, 22, 23, 24, 25, 26, 27, 28, 29, 30] rfl rfl (c_X8_sees l dC dI cI cC cZ sa ax a18.1 a18.2.1 a18.2.2.1 a18.2.2.2.1 a18.2.2.2.2.1 a18.2.2.2.2.2.1 a18.2.2.2.2.2.2.1 a18.2.2.2.2.2.2.2.1 a18.2.2.2.2.2.2.2.2.1 a18.2.2.2.2.2.2.2.2.2.1 a18.2.2.2.2.2.2.2.2.2.2.1 a18.2.2.2.2.2.2.2.2.2.2.2.1 a18.2.2.2.2.2.2.2.2.2.2.2.2.1 (xs (a18.2.2.2.2.2.2.2.2.2.2.2.2.2.2.2.2.2.2.2.2.2.2 + (1 : Int32)).toNatClampNeg) hcr _) gL_law_X8_sees rfl (by decide +kernel) ⟨Nat.le_of_ble_eq_true rfl, Nat.le_of_ble_eq_true rfl⟩ 0 8 rfl rfl rfl hl.1 rfl (Nat.le_of_ble_eq_true rfl) dL_law_429 ⟨Nat.le_of_ble_eq_true rfl, Nat.le_of_ble_eq_true rfl⟩) (fun H locs hP hS => ?_)
                              refine lv_aload_n hx hb dL_law_432 rfl (lv_at hl 2 rfl) ?_
                              refine lv_aload_n hx hb dL_law_433 rfl (lv_at hl 0 rfl) ?_
                              refine lv_iload_n hx hb dL_law_434 rfl (lv_at hl 3 rfl) ?_
                              refine lv_iconst (v := 1) hx hb dL_law_435 (by decide) ?_
                              refine lv_iadd hx hb dL_law_436 ?_
                              obtain ⟨hin, hM⟩ := if_ok hM
                              refine va_sld hx hb hX hbl hbA hS hin dL_law_437 ?_
                              obtain ⟨z438, hcr, hM⟩ := ob_s hM
                              refine res_i0 F hP hS rfl [31, 32, 33, 34, 35, 36, 37, 38, 39, 40, 41, 42, 43] rfl rfl (runV_of (n := 1) (As := [.int (xs (a18.2.2.2.2.2.2.2.2.2.2.2.2.2.2.2.2.2.2.2.2.2.2 + (1 : Int32)).toNatClampNeg)]) (rest := [.int z429]) F hP hS rfl [31, 32, 33, 34, 35, 36, 37, 38, 39, 40, 41, 42, 43] rfl rfl (c_X9_sees l dC dI cI cC cZ sa am a18.2.2.2.2.2.2.2.2.2.2.2.2.2.1 a18.2.2.2.2.2.2.2.2.2.2.2.2.2.2.1 a18.2.2.2.2.2.2.2.2.2.2.2.2.2.2.2.1 a18.2.2.2.2.2.2.2.2.2.2.2.2.2.2.2.2.1 a18.2.2.2.2.2.2.2.2.2.2.2.2.2.2.2.2.2.1 a18.2.2.2.2.2.2.2.2.2.2.2.2.2.2.2.2.2.2.1 a18.2.2.2.2.2.2.2.2.2.2.2.2.2.2.2.2.2.2.2.1 a18.2.2.2.2.2.2.2.2.2.2.2.2.2.2.2.2.2.2.2.2.1 a18.2.2.2.2.2.2.2.2.2.2.2.2.2.2.2.2.2.2.2.2.2.1 (xs (a18.2.2.2.2.2.2.2.2.2.2.2.2.2.2.2.2.2.2.2.2.2.2 + (1 : Int32)).toNatClampNeg) hcr _) gL_law_X9_sees rfl (by decide +kernel) ⟨Nat.le_of_ble_eq_true rfl, Nat.le_of_ble_eq_true rfl⟩ 31 9 rfl rfl rfl hl.1 rfl (Nat.le_of_ble_eq_true rfl) dL_law_438 ⟨Nat.le_of_ble_eq_true rfl, Nat.le_of_ble_eq_true rfl⟩) (fun H locs hP hS => ?_)
                              refine lv_icmp_eq (tgt := 773) hx hb dL_law_441 (by decide) (fun hc => ?_) (fun hc => ?_)
                              · have hM := if_pp hc hM
                                exact j773 (a18.1, a18.2.1, a18.2.2.1, a18.2.2.2.1, a18.2.2.2.2.1, a18.2.2.2.2.2.1, a18.2.2.2.2.2.2.1, a18.2.2.2.2.2.2.2.1, a18.2.2.2.2.2.2.2.2.1, a18.2.2.2.2.2.2.2.2.2.1, a18.2.2.2.2.2.2.2.2.2.2.1, a18.2.2.2.2.2.2.2.2.2.2.2.1, a18.2.2.2.2.2.2.2.2.2.2.2.2.1, a18.2.2.2.2.2.2.2.2.2.2.2.2.2.1, a18.2.2.2.2.2.2.2.2.2.2.2.2.2.2.1, a18.2.2.2.2.2.2.2.2.2.2.2.2.2.2.2.1, a18.2.2.2.2.2.2.2.2.2.2.2.2.2.2.2.2.1, a18.2.2.2.2.2.2.2.2.2.2.2.2.2.2.2.2.2.1, a18.2.2.2.2.2.2.2.2.2.2.2.2.2.2.2.2.2.2.1, a18.2.2.2.2.2.2.2.2.2.2.2.2.2.2.2.2.2.2.2.1, a18.2.2.2.2.2.2.2.2.2.2.2.2.2.2.2.2.2.2.2.2.1, a18.2.2.2.2.2.2.2.2.2.2.2.2.2.2.2.2.2.2.2.2.2.1, a18.2.2.2.2.2.2.2.2.2.2.2.2.2.2.2.2.2.2.2.2.2.2) _ _ _ hP hS (lv_sub hl [0, 1, 2, 3] rfl) hM
                              · have hM := if_nn hc hM
                                refine lv_iconst (v := 0) hx hb dL_law_444 (by decide) ?_
                                exact no_s hM
                            · have hM := if_nn hc11 hM
                              by_cases hc12 : ((xs a18.2.2.2.2.2.2.2.2.2.2.2.2.2.2.2.2.2.2.2.2.2.2.toNatClampNeg) &&& (31 : Int32)) = (12 : Int32)
                              · have hM := if_pp hc12 hM
                                refine lv_tableIn (off := 414) (tgt := 446) hx hb dL_law_32 (by rw [hc12]; decide) (by rw [hc12]; decide) (by rw [hc12]; rfl) (by decide) ?_
                                refine lv_aload_n hx hb dL_law_446 rfl (lv_at hl 1 rfl) ?_
                                obtain ⟨z447, hcr, hM⟩ := ob_s hM
                                refine res_i0 F hP hS rfl [0, 1, 2, 3, 4, 5, 6, 7, 8, 9, 10, 11, 12, 13, 14, 15, 16, 17, 18, 19, 20, 21, 22, 23, 24, 25, 26, 27, 28, 29, 30] rfl rfl (runV_of (n := 0) (As := []) (rest := []) F hP hS rfl [0, 1, 2, 3, 4, 5, 6, 7, 8, 9, 10, 11, 12, 13, 14, 15, 16, 17, 18, 19, 20, 21, 22, 23, 24, 25, 26, 27, 28, 29, 30] rfl rfl (c_X8_bare l dC dI cI cC cZ sa ax a18.1 a18.2.1 a18.2.2.1 a18.2.2.2.1 a18.2.2.2.2.1 a18.2.2.2.2.2.1 a18.2.2.2.2.2.2.1 a18.2.2.2.2.2.2.2.1 a18.2.2.2.2.2.2.2.2.1 a18.2.2.2.2.2.2.2.2.2.1 a18.2.2.2.2.2.2.2.2.2.2.1 a18.2.2.2.2.2.2.2.2.2.2.2.1 a18.2.2.2.2.2.2.2.2.2.2.2.2.1 hcr _) gL_law_X8_bare rfl (by decide +kernel) ⟨Nat.le_of_ble_eq_true rfl, Nat.le_of_ble_eq_true rfl⟩ 0 8 rfl rfl rfl hl.1 rfl (Nat.le_of_ble_eq_true rfl) dL_law_447 ⟨Nat.le_of_ble_eq_true rfl, Nat.le_of_ble_eq_true rfl⟩) (fun H locs hP hS => ?_)
                                refine lv_aload_n hx hb dL_law_450 rfl (lv_at hl 2 rfl) ?_
                                obtain ⟨z451, hcr, hM⟩ := ob_s hM
                                refine res_i0 F hP hS rfl [31, 32, 33, 34, 35, 36, 37, 38, 39, 40, 41, 42, 43] rfl rfl (runV_of (n := 0) (As := []) (rest := [.int z447]) F hP hS rfl [31, 32, 33, 34, 35, 36, 37, 38, 39, 40, 41, 42, 43] rfl rfl (c_X9_bare l dC dI cI cC cZ sa am a18.2.2.2.2.2.2.2.2.2.2.2.2.2.1 a18.2.2.2.2.2.2.2.2.2.2.2.2.2.2.1 a18.2.2.2.2.2.2.2.2.2.2.2.2.2.2.2.1 a18.2.2.2.2.2.2.2.2.2.2.2.2.2.2.2.2.1 a18.2.2.2.2.2.2.2.2.2.2.2.2.2.2.2.2.2.1 a18.2.2.2.2.2.2.2.2.2.2.2.2.2.2.2.2.2.2.1 a18.2.2.2.2.2.2.2.2.2.2.2.2.2.2.2.2.2.2.2.1 a18.2.2.2.2.2.2.2.2.2.2.2.2.2.2.2.2.2.2.2.2.1 a18.2.2.2.2.2.2.2.2.2.2.2.2.2.2.2.2.2.2.2.2.2.1 hcr _) gL_law_X9_bare rfl (by decide +kernel) ⟨Nat.le_of_ble_eq_true rfl, Nat.le_of_ble_eq_true rfl⟩ 31 9 rfl rfl rfl hl.1 rfl (Nat.le_of_ble_eq_true rfl) dL_law_451 ⟨Nat.le_of_ble_eq_true rfl, Nat.le_of_ble_eq_true rfl⟩) (fun H locs hP hS => ?_)
                                refine lv_icmp_eq (tgt := 773) hx hb dL_law_454 (by decide) (fun hc => ?_) (fun hc => ?_)
                                · have hM := if_pp hc hM
                                  exact j773 (a18.1, a18.2.1, a18.2.2.1, a18.2.2.2.1, a18.2.2.2.2.1, a18.2.2.2.2.2.1, a18.2.2.2.2.2.2.1, a18.2.2.2.2.2.2.2.1, a18.2.2.2.2.2.2.2.2.1, a18.2.2.2.2.2.2.2.2.2.1, a18.2.2.2.2.2.2.2.2.2.2.1, a18.2.2.2.2.2.2.2.2.2.2.2.1, a18.2.2.2.2.2.2.2.2.2.2.2.2.1, a18.2.2.2.2.2.2.2.2.2.2.2.2.2.1, a18.2.2.2.2.2.2.2.2.2.2.2.2.2.2.1, a18.2.2.2.2.2.2.2.2.2.2.2.2.2.2.2.1, a18.2.2.2.2.2.2.2.2.2.2.2.2.2.2.2.2.1, a18.2.2.2.2.2.2.2.2.2.2.2.2.2.2.2.2.2.1, a18.2.2.2.2.2.2.2.2.2.2.2.2.2.2.2.2.2.2.1, a18.2.2.2.2.2.2.2.2.2.2.2.2.2.2.2.2.2.2.2.1, a18.2.2.2.2.2.2.2.2.2.2.2.2.2.2.2.2.2.2.2.2.1, a18.2.2.2.2.2.2.2.2.2.2.2.2.2.2.2.2.2.2.2.2.2.1, a18.2.2.2.2.2.2.2.2.2.2.2.2.2.2.2.2.2.2.2.2.2.2) _ _ _ hP hS (lv_sub hl [0, 1, 2, 3] rfl) hM
                                · have hM := if_nn hc hM
                                  refine lv_iconst (v := 0) hx hb dL_law_457 (by decide) ?_
                                  exact no_s hM
                              · have hM := if_nn hc12 hM
                                by_cases hc13 : ((xs a18.2.2.2.2.2.2.2.2.2.2.2.2.2.2.2.2.2.2.2.2.2.2.toNatClampNeg) &&& (31 : Int32)) = (13 : Int32)
                                · have hM := if_pp hc13 hM
                                  refine lv_tableIn (off := 427) (tgt := 459) hx hb dL_law_32 (by rw [hc13]; decide) (by rw [hc13]; decide) (by rw [hc13]; rfl) (by decide) ?_
                                  refine lv_aload_n hx hb dL_law_459 rfl (lv_at hl 1 rfl) ?_
                                  refine lv_aload_n hx hb dL_law_460 rfl (lv_at hl 0 rfl) ?_
                                  refine lv_iload_n hx hb dL_law_461 rfl (lv_at hl 3 rfl) ?_
                                  refine lv_iconst (v := 1) hx hb dL_law_462 (by decide) ?_
                                  refine lv_iadd hx hb dL_law_463 ?_
                                  obtain ⟨hin, hM⟩ := if_ok hM
                                  refine va_sld hx hb hX hbl hbA hS hin dL_law_464 ?_
                                  obtain ⟨z465, hcr, hM⟩ := ob_s hM
                                  refine res_i (ws' := (wX cI cC ax a18.1 a18.2.1 a18.2.2.1 a18.2.2.2.1 a18.2.2.2.2.1 a18.2.2.2.2.2.1 a18.2.2.2.2.2.2.1 a18.2.2.2.2.2.2.2.1 a18.2.2.2.2.2.2.2.2.1 a18.2.2.2.2.2.2.2.2.2.1 a18.2.2.2.2.2.2.2.2.2.2.1 z465.2 a18.2.2.2.2.2.2.2.2.2.2.2.2.1 ++ wM cI cZ am a18.2.2.2.2.2.2.2.2.2.2.2.2.2.1 a18.2.2.2.2.2.2.2.2.2.2.2.2.2.2.1 a18.2.2.2.2.2.2.2.2.2.2.2.2.2.2.2.1 a18.2.2.2.2.2.2.2.2.2.2.2.2.2.2.2.2.1 a18.2.2.2.2.2.2.2.2.2.2.2.2.2.2.2.2.2.1 a18.2.2.2.2.2.2.2.2.2.2.2.2.2.2.2.2.2.2.1 a18.2.2.2.2.2.2.2.2.2.2.2.2.2.2.2.2.2.2.2.1 a18.2.2.2.2.2.2.2.2.2.2.2.2.2.2.2.2.2.2.2.2.1 a18.2.2.2.2.2.2.2.2.2.2.2.2.2.2.2.2.2.2.2.2.2.1)) F hP hS rfl [0, 1, 2, 3, 4, 5, 6, 7, 8, 9, 10, 11, 12, 13, 14, 15, 16, 17, 18, 19, 20, 21, 22, 23, 24, 25, 26, 27, 28, 29, 30] rfl rfl (runV_of (n := 1) (As := [.int (xs (a18.2.2.2.2.2.2.2.2.2.2.2.2.2.2.2.2.2.2.2.2.2.2 + (1 : Int32)).toNatClampNeg)]) (rest := []) F hP hS rfl [0, 1, 2, 3, 4, 5, 6, 7, 8, 9, 10, 11, 12, 13, 14, 15, 16, 17, 18, 19, 20, 21, 22, 23, 24, 25, 26, 27, 28, 29, 30] rfl rfl (c_X8_safe l dC dI cI cC cZ sa ax a18.1 a18.2.1 a18.2.2.1 a18.2.2.2.1 a18.2.2.2.2.1 a18.2.2.2.2.2.1 a18.2.2.2.2.2.2.1 a18.2.2.2.2.2.2.2.1 a18.2.2.2.2.2.2.2.2.1 a18.2.2.2.2.2.2.2.2.2.1 a18.2.2.2.2.2.2.2.2.2.2.1 a18.2.2.2.2.2.2.2.2.2.2.2.1 a18.2.2.2.2.2.2.2.2.2.2.2.2.1 (xs (a18.2.2.2.2.2.2.2.2.2.2.2.2.2.2.2.2.2.2.2.2.2.2 + (1 : Int32)).toNatClampNeg) hcr _) gL_law_X8_safe rfl (by decide +kernel) ⟨Nat.le_of_ble_eq_true rfl, Nat.le_of_ble_eq_true rfl⟩ 0 8 rfl rfl rfl hl.1 rfl (Nat.le_of_ble_eq_true rfl) dL_law_465 ⟨Nat.le_of_ble_eq_true rfl, Nat.le_of_ble_eq_true rfl⟩) (rep_pre _ _ _ rfl (show ∀ k ∈ _, k < 31 by decide)) (fun H locs hP hS => ?_)
                                  refine lv_aload_n hx hb dL_law_468 rfl (lv_at hl 2 rfl) ?_
                                  refine lv_aload_n hx hb dL_law_469 rfl (lv_at hl 0 rfl) ?_
                                  refine lv_iload_n hx hb dL_law_470 rfl (lv_at hl 3 rfl) ?_
                                  refine lv_iconst (v := 1) hx hb dL_law_471 (by decide) ?_
                                  refine lv_iadd hx hb dL_law_472 ?_
                                  obtain ⟨hin, hM⟩ := if_ok hM
                                  refine va_sld hx hb hX hbl hbA hS hin dL_law_473 ?_
                                  obtain ⟨z474, hcr, hM⟩ := ob_s hM
                                  refine res_i (ws' := (wX cI cC ax a18.1 a18.2.1 a18.2.2.1 a18.2.2.2.1 a18.2.2.2.2.1 a18.2.2.2.2.2.1 a18.2.2.2.2.2.2.1 a18.2.2.2.2.2.2.2.1 a18.2.2.2.2.2.2.2.2.1 a18.2.2.2.2.2.2.2.2.2.1 a18.2.2.2.2.2.2.2.2.2.2.1 z465.2 a18.2.2.2.2.2.2.2.2.2.2.2.2.1 ++ wM cI cZ am a18.2.2.2.2.2.2.2.2.2.2.2.2.2.1 a18.2.2.2.2.2.2.2.2.2.2.2.2.2.2.1 a18.2.2.2.2.2.2.2.2.2.2.2.2.2.2.2.1 a18.2.2.2.2.2.2.2.2.2.2.2.2.2.2.2.2.1 z474.2.1 z474.2.2 a18.2.2.2.2.2.2.2.2.2.2.2.2.2.2.2.2.2.2.2.1 a18.2.2.2.2.2.2.2.2.2.2.2.2.2.2.2.2.2.2.2.2.1 a18.2.2.2.2.2.2.2.2.2.2.2.2.2.2.2.2.2.2.2.2.2.1)) F hP hS rfl [31, 32, 33, 34, 35, 36, 37, 38, 39, 40, 41, 42, 43] rfl rfl (runV_of (n := 1) (As := [.int (xs (a18.2.2.2.2.2.2.2.2.2.2.2.2.2.2.2.2.2.2.2.2.2.2 + (1 : Int32)).toNatClampNeg)]) (rest := [.int z465.1]) F hP hS rfl [31, 32, 33, 34, 35, 36, 37, 38, 39, 40, 41, 42, 43] rfl rfl (c_X9_safe l dC dI cI cC cZ sa am a18.2.2.2.2.2.2.2.2.2.2.2.2.2.1 a18.2.2.2.2.2.2.2.2.2.2.2.2.2.2.1 a18.2.2.2.2.2.2.2.2.2.2.2.2.2.2.2.1 a18.2.2.2.2.2.2.2.2.2.2.2.2.2.2.2.2.1 a18.2.2.2.2.2.2.2.2.2.2.2.2.2.2.2.2.2.1 a18.2.2.2.2.2.2.2.2.2.2.2.2.2.2.2.2.2.2.1 a18.2.2.2.2.2.2.2.2.2.2.2.2.2.2.2.2.2.2.2.1 a18.2.2.2.2.2.2.2.2.2.2.2.2.2.2.2.2.2.2.2.2.1 a18.2.2.2.2.2.2.2.2.2.2.2.2.2.2.2.2.2.2.2.2.2.1 (xs (a18.2.2.2.2.2.2.2.2.2.2.2.2.2.2.2.2.2.2.2.2.2.2 + (1 : Int32)).toNatClampNeg) hcr _) gL_law_X9_safe rfl (by decide +kernel) ⟨Nat.le_of_ble_eq_true rfl, Nat.le_of_ble_eq_true rfl⟩ 31 9 rfl rfl rfl hl.1 rfl (Nat.le_of_ble_eq_true rfl) dL_law_474 ⟨Nat.le_of_ble_eq_true rfl, Nat.le_of_ble_eq_true rfl⟩) (rep_suf _ _ _ (show ∀ k ∈ _, 31 ≤ k by decide)) (fun H locs hP hS => ?_)
                                  refine lv_icmp_eq (tgt := 773) hx hb dL_law_477 (by decide) (fun hc => ?_) (fun hc => ?_)
                                  · have hM := if_pp hc hM
                                    exact j773 (a18.1, a18.2.1, a18.2.2.1, a18.2.2.2.1, a18.2.2.2.2.1, a18.2.2.2.2.2.1, a18.2.2.2.2.2.2.1, a18.2.2.2.2.2.2.2.1, a18.2.2.2.2.2.2.2.2.1, a18.2.2.2.2.2.2.2.2.2.1, a18.2.2.2.2.2.2.2.2.2.2.1, z465.2, a18.2.2.2.2.2.2.2.2.2.2.2.2.1, a18.2.2.2.2.2.2.2.2.2.2.2.2.2.1, a18.2.2.2.2.2.2.2.2.2.2.2.2.2.2.1, a18.2.2.2.2.2.2.2.2.2.2.2.2.2.2.2.1, a18.2.2.2.2.2.2.2.2.2.2.2.2.2.2.2.2.1, z474.2.1, z474.2.2, a18.2.2.2.2.2.2.2.2.2.2.2.2.2.2.2.2.2.2.2.1, a18.2.2.2.2.2.2.2.2.2.2.2.2.2.2.2.2.2.2.2.2.1, a18.2.2.2.2.2.2.2.2.2.2.2.2.2.2.2.2.2.2.2.2.2.1, a18.2.2.2.2.2.2.2.2.2.2.2.2.2.2.2.2.2.2.2.2.2.2) _ _ _ hP hS (lv_sub hl [0, 1, 2, 3] rfl) hM
                                  · have hM := if_nn hc hM
                                    refine lv_iconst (v := 0) hx hb dL_law_480 (by decide) ?_
                                    exact no_s hM
                                · have hM := if_nn hc13 hM
                                  by_cases hc14 : ((xs a18.2.2.2.2.2.2.2.2.2.2.2.2.2.2.2.2.2.2.2.2.2.2.toNatClampNeg) &&& (31 : Int32)) = (14 : Int32)
                                  · have hM := if_pp hc14 hM
                                    refine lv_tableIn (off := 450) (tgt := 482) hx hb dL_law_32 (by rw [hc14]; decide) (by rw [hc14]; decide) (by rw [hc14]; rfl) (by decide) ?_
                                    refine lv_aload_n hx hb dL_law_482 rfl (lv_at hl 1 rfl) ?_
                                    refine lv_aload_n hx hb dL_law_483 rfl (lv_at hl 0 rfl) ?_
                                    refine lv_iload_n hx hb dL_law_484 rfl (lv_at hl 3 rfl) ?_
                                    refine lv_iconst (v := 1) hx hb dL_law_485 (by decide) ?_
                                    refine lv_iadd hx hb dL_law_486 ?_
                                    obtain ⟨hin, hM⟩ := if_ok hM
                                    refine va_sld hx hb hX hbl hbA hS hin dL_law_487 ?_
                                    obtain ⟨z488, hcr, hM⟩ := ob_s hM
                                    refine res_i (ws' := (wX cI cC ax a18.1 a18.2.1 a18.2.2.1 a18.2.2.2.1 a18.2.2.2.2.1 a18.2.2.2.2.2.1 a18.2.2.2.2.2.2.1 a18.2.2.2.2.2.2.2.1 a18.2.2.2.2.2.2.2.2.1 a18.2.2.2.2.2.2.2.2.2.1 a18.2.2.2.2.2.2.2.2.2.2.1 z488.2 a18.2.2.2.2.2.2.2.2.2.2.2.2.1 ++ wM cI cZ am a18.2.2.2.2.2.2.2.2.2.2.2.2.2.1 a18.2.2.2.2.2.2.2.2.2.2.2.2.2.2.1 a18.2.2.2.2.2.2.2.2.2.2.2.2.2.2.2.1 a18.2.2.2.2.2.2.2.2.2.2.2.2.2.2.2.2.1 a18.2.2.2.2.2.2.2.2.2.2.2.2.2.2.2.2.2.1 a18.2.2.2.2.2.2.2.2.2.2.2.2.2.2.2.2.2.2.1 a18.2.2.2.2.2.2.2.2.2.2.2.2.2.2.2.2.2.2.2.1 a18.2.2.2.2.2.2.2.2.2.2.2.2.2.2.2.2.2.2.2.2.1 a18.2.2.2.2.2.2.2.2.2.2.2.2.2.2.2.2.2.2.2.2.2.1)) F hP hS rfl [0, 1, 2, 3, 4, 5, 6, 7, 8, 9, 10, 11, 12, 13, 14, 15, 16, 17, 18, 19, 20, 21, 22, 23, 24, 25, 26, 27, 28, 29, 30] rfl rfl (runV_of (n := 1) (As := [.int (xs (a18.2.2.2.2.2.2.2.2.2.2.2.2.2.2.2.2.2.2.2.2.2.2 + (1 : Int32)).toNatClampNeg)]) (rest := []) F hP hS rfl [0, 1, 2, 3, 4, 5, 6, 7, 8, 9, 10, 11, 12, 13, 14, 15, 16, 17, 18, 19, 20, 21, 22, 23, 24, 25, 26, 27, 28, 29, 30] rfl rfl (c_X8_least l dC dI cI cC cZ sa ax a18.1 a18.2.1 a18.2.2.1 a18.2.2.2.1 a18.2.2.2.2.1 a18.2.2.2.2.2.1 a18.2.2.2.2.2.2.1 a18.2.2.2.2.2.2.2.1 a18.2.2.2.2.2.2.2.2.1 a18.2.2.2.2.2.2.2.2.2.1 a18.2.2.2.2.2.2.2.2.2.2.1 a18.2.2.2.2.2.2.2.2.2.2.2.1 a18.2.2.2.2.2.2.2.2.2.2.2.2.1 (xs (a18.2.2.2.2.2.2.2.2.2.2.2.2.2.2.2.2.2.2.2.2.2.2 + (1 : Int32)).toNatClampNeg) hcr _) gL_law_X8_least rfl (by decide +kernel) ⟨Nat.le_of_ble_eq_true rfl, Nat.le_of_ble_eq_true rfl⟩ 0 8 rfl rfl rfl hl.1 rfl (Nat.le_of_ble_eq_true rfl) dL_law_488 ⟨Nat.le_of_ble_eq_true rfl, Nat.le_of_ble_eq_true rfl⟩) (rep_pre _ _ _ rfl (show ∀ k ∈ _, k < 31 by decide)) (fun H locs hP hS => ?_)
                                    refine lv_aload_n hx hb dL_law_491 rfl (lv_at hl 2 rfl) ?_
                                    refine lv_aload_n hx hb dL_law_492 rfl (lv_at hl 0 rfl) ?_
                                    refine lv_iload_n hx hb dL_law_493 rfl (lv_at hl 3 rfl) ?_
                                    refine lv_iconst (v := 1) hx hb dL_law_494 (by decide) ?_
                                    refine lv_iadd hx hb dL_law_495 ?_
                                    obtain ⟨hin, hM⟩ := if_ok hM
                                    refine va_sld hx hb hX hbl hbA hS hin dL_law_496 ?_
                                    obtain ⟨z497, hcr, hM⟩ := ob_s hM
                                    refine res_i (ws' := (wX cI cC ax a18.1 a18.2.1 a18.2.2.1 a18.2.2.2.1 a18.2.2.2.2.1 a18.2.2.2.2.2.1 a18.2.2.2.2.2.2.1 a18.2.2.2.2.2.2.2.1 a18.2.2.2.2.2.2.2.2.1 a18.2.2.2.2.2.2.2.2.2.1 a18.2.2.2.2.2.2.2.2.2.2.1 z488.2 a18.2.2.2.2.2.2.2.2.2.2.2.2.1 ++ wM cI cZ am a18.2.2.2.2.2.2.2.2.2.2.2.2.2.1 a18.2.2.2.2.2.2.2.2.2.2.2.2.2.2.1 a18.2.2.2.2.2.2.2.2.2.2.2.2.2.2.2.1 a18.2.2.2.2.2.2.2.2.2.2.2.2.2.2.2.2.1 z497.2.1 a18.2.2.2.2.2.2.2.2.2.2.2.2.2.2.2.2.2.2.1 z497.2.2 a18.2.2.2.2.2.2.2.2.2.2.2.2.2.2.2.2.2.2.2.2.1 a18.2.2.2.2.2.2.2.2.2.2.2.2.2.2.2.2.2.2.2.2.2.1)) F hP hS rfl [31, 32, 33, 34, 35, 36, 37, 38, 39, 40, 41, 42, 43] rfl rfl (runV_of (n := 1) (As := [.int (xs (a18.2.2.2.2.2.2.2.2.2.2.2.2.2.2.2.2.2.2.2.2.2.2 + (1 : Int32)).toNatClampNeg)]) (rest := [.int z488.1]) F hP hS rfl [31, 32, 33, 34, 35, 36, 37, 38, 39, 40, 41, 42, 43] rfl rfl (c_X9_least l dC dI cI cC cZ sa am a18.2.2.2.2.2.2.2.2.2.2.2.2.2.1 a18.2.2.2.2.2.2.2.2.2.2.2.2.2.2.1 a18.2.2.2.2.2.2.2.2.2.2.2.2.2.2.2.1 a18.2.2.2.2.2.2.2.2.2.2.2.2.2.2.2.2.1 a18.2.2.2.2.2.2.2.2.2.2.2.2.2.2.2.2.2.1 a18.2.2.2.2.2.2.2.2.2.2.2.2.2.2.2.2.2.2.1 a18.2.2.2.2.2.2.2.2.2.2.2.2.2.2.2.2.2.2.2.1 a18.2.2.2.2.2.2.2.2.2.2.2.2.2.2.2.2.2.2.2.2.1 a18.2.2.2.2.2.2.2.2.2.2.2.2.2.2.2.2.2.2.2.2.2.1 (xs (a18.2.2.2.2.2.2.2.2.2.2.2.2.2.2.2.2.2.2.2.2.2.2 + (1 : Int32)).toNatClampNeg) hcr _) gL_law_X9_least rfl (by decide +kernel) ⟨Nat.le_of_ble_eq_true rfl, Nat.le_of_ble_eq_true rfl⟩ 31 9 rfl rfl rfl hl.1 rfl (Nat.le_of_ble_eq_true rfl) dL_law_497 ⟨Nat.le_of_ble_eq_true rfl, Nat.le_of_ble_eq_true rfl⟩) (rep_suf _ _ _ (show ∀ k ∈ _, 31 ≤ k by decide)) (fun H locs hP hS => ?_)
                                    refine lv_icmp_eq (tgt := 773) hx hb dL_law_500 (by decide) (fun hc => ?_) (fun hc => ?_)
                                    · have hM := if_pp hc hM
                                      exact j773 (a18.1, a18.2.1, a18.2.2.1, a18.2.2.2.1, a18.2.2.2.2.1, a18.2.2.2.2.2.1, a18.2.2.2.2.2.2.1, a18.2.2.2.2.2.2.2.1, a18.2.2.2.2.2.2.2.2.1, a18.2.2.2.2.2.2.2.2.2.1, a18.2.2.2.2.2.2.2.2.2.2.1, z488.2, a18.2.2.2.2.2.2.2.2.2.2.2.2.1, a18.2.2.2.2.2.2.2.2.2.2.2.2.2.1, a18.2.2.2.2.2.2.2.2.2.2.2.2.2.2.1, a18.2.2.2.2.2.2.2.2.2.2.2.2.2.2.2.1, a18.2.2.2.2.2.2.2.2.2.2.2.2.2.2.2.2.1, z497.2.1, a18.2.2.2.2.2.2.2.2.2.2.2.2.2.2.2.2.2.2.1, z497.2.2, a18.2.2.2.2.2.2.2.2.2.2.2.2.2.2.2.2.2.2.2.2.1, a18.2.2.2.2.2.2.2.2.2.2.2.2.2.2.2.2.2.2.2.2.2.1, a18.2.2.2.2.2.2.2.2.2.2.2.2.2.2.2.2.2.2.2.2.2.2) _ _ _ hP hS (lv_sub hl [0, 1, 2, 3] rfl) hM
                                    · have hM := if_nn hc hM
                                      refine lv_iconst (v := 0) hx hb dL_law_503 (by decide) ?_
                                      exact no_s hM
                                  · have hM := if_nn hc14 hM
                                    by_cases hc15 : ((xs a18.2.2.2.2.2.2.2.2.2.2.2.2.2.2.2.2.2.2.2.2.2.2.toNatClampNeg) &&& (31 : Int32)) = (15 : Int32)
                                    · have hM := if_pp hc15 hM
                                      refine lv_tableIn (off := 473) (tgt := 505) hx hb dL_law_32 (by rw [hc15]; decide) (by rw [hc15]; decide) (by rw [hc15]; rfl) (by decide) ?_
                                      refine lv_aload_n hx hb dL_law_505 rfl (lv_at hl 1 rfl) ?_
                                      refine lv_aload_n hx hb dL_law_506 rfl (lv_at hl 0 rfl) ?_
                                      refine lv_iload_n hx hb dL_law_507 rfl (lv_at hl 3 rfl) ?_
                                      refine lv_iconst (v := 1) hx hb dL_law_508 (by decide) ?_
                                      refine lv_iadd hx hb dL_law_509 ?_
                                      obtain ⟨hin, hM⟩ := if_ok hM
                                      refine va_sld hx hb hX hbl hbA hS hin dL_law_510 ?_
                                      obtain ⟨z511, hcr, hM⟩ := ob_s hM
                                      refine res_i0 F hP hS rfl [0, 1, 2, 3, 4, 5, 6, 7, 8, 9, 10, 11, 12, 13, 14, 15, 16, 17, 18, 19, 20, 21, 22, 23, 24, 25, 26, 27, 28, 29, 30] rfl rfl (runV_of (n := 1) (As := [.int (xs (a18.2.2.2.2.2.2.2.2.2.2.2.2.2.2.2.2.2.2.2.2.2.2 + (1 : Int32)).toNatClampNeg)]) (rest := []) F hP hS rfl [0, 1, 2, 3, 4, 5, 6, 7, 8, 9, 10, 11, 12, 13, 14, 15, 16, 17, 18, 19, 20, 21, 22, 23, 24, 25, 26, 27, 28, 29, 30] rfl rfl (c_X8_flour l dC dI cI cC cZ sa ax a18.1 a18.2.1 a18.2.2.1 a18.2.2.2.1 a18.2.2.2.2.1 a18.2.2.2.2.2.1 a18.2.2.2.2.2.2.1 a18.2.2.2.2.2.2.2.1 a18.2.2.2.2.2.2.2.2.1 a18.2.2.2.2.2.2.2.2.2.1 a18.2.2.2.2.2.2.2.2.2.2.1 a18.2.2.2.2.2.2.2.2.2.2.2.1 a18.2.2.2.2.2.2.2.2.2.2.2.2.1 (xs (a18.2.2.2.2.2.2.2.2.2.2.2.2.2.2.2.2.2.2.2.2.2.2 + (1 : Int32)).toNatClampNeg) hcr _) gL_law_X8_flour rfl (by decide +kernel) ⟨Nat.le_of_ble_eq_true rfl, Nat.le_of_ble_eq_true rfl⟩ 0 8 rfl rfl rfl hl.1 rfl (Nat.le_of_ble_eq_true rfl) dL_law_511 ⟨Nat.le_of_ble_eq_true rfl, Nat.le_of_ble_eq_true rfl⟩) (fun H locs hP hS => ?_)
                                      refine lv_aload_n hx hb dL_law_514 rfl (lv_at hl 2 rfl) ?_
                                      refine lv_aload_n hx hb dL_law_515 rfl (lv_at hl 0 rfl) ?_
                                      refine lv_iload_n hx hb dL_law_516 rfl (lv_at hl 3 rfl) ?_
                                      refine lv_iconst (v := 1) hx hb dL_law_517 (by decide) ?_
                                      refine lv_iadd hx hb dL_law_518 ?_
                                      obtain ⟨hin, hM⟩ := if_ok hM
                                      refine va_sld hx hb hX hbl hbA hS hin dL_law_519 ?_
                                      obtain ⟨z520, hcr, hM⟩ := ob_s hM
                                      refine res_i (ws' := (wX cI cC ax a18.1 a18.2.1 a18.2.2.1 a18.2.2.2.1 a18.2.2.2.2.1 a18.2.2.2.2.2.1 a18.2.2.2.2.2.2.1 a18.2.2.2.2.2.2.2.1 a18.2.2.2.2.2.2.2.2.1 a18.2.2.2.2.2.2.2.2.2.1 a18.2.2.2.2.2.2.2.2.2.2.1 a18.2.2.2.2.2.2.2.2.2.2.2.1 a18.2.2.2.2.2.2.2.2.2.2.2.2.1 ++ wM cI cZ am a18.2.2.2.2.2.2.2.2.2.2.2.2.2.1 a18.2.2.2.2.2.2.2.2.2.2.2.2.2.2.1 a18.2.2.2.2.2.2.2.2.2.2.2.2.2.2.2.1 a18.2.2.2.2.2.2.2.2.2.2.2.2.2.2.2.2.1 z520.2 a18.2.2.2.2.2.2.2.2.2.2.2.2.2.2.2.2.2.2.1 a18.2.2.2.2.2.2.2.2.2.2.2.2.2.2.2.2.2.2.2.1 a18.2.2.2.2.2.2.2.2.2.2.2.2.2.2.2.2.2.2.2.2.1 a18.2.2.2.2.2.2.2.2.2.2.2.2.2.2.2.2.2.2.2.2.2.1)) F hP hS rfl [31, 32, 33, 34, 35, 36, 37, 38, 39, 40, 41, 42, 43] rfl rfl (runV_of (n := 1) (As := [.int (xs (a18.2.2.2.2.2.2.2.2.2.2.2.2.2.2.2.2.2.2.2.2.2.2 + (1 : Int32)).toNatClampNeg)]) (rest := [.int z511]) F hP hS rfl [31, 32, 33, 34, 35, 36, 37, 38, 39, 40, 41, 42, 43] rfl rfl (c_X9_flour l dC dI cI cC cZ sa am a18.2.2.2.2.2.2.2.2.2.2.2.2.2.1 a18.2.2.2.2.2.2.2.2.2.2.2.2.2.2.1 a18.2.2.2.2.2.2.2.2.2.2.2.2.2.2.2.1 a18.2.2.2.2.2.2.2.2.2.2.2.2.2.2.2.2.1 a18.2.2.2.2.2.2.2.2.2.2.2.2.2.2.2.2.2.1 a18.2.2.2.2.2.2.2.2.2.2.2.2.2.2.2.2.2.2.1 a18.2.2.2.2.2.2.2.2.2.2.2.2.2.2.2.2.2.2.2.1 a18.2.2.2.2.2.2.2.2.2.2.2.2.2.2.2.2.2.2.2.2.1 a18.2.2.2.2.2.2.2.2.2.2.2.2.2.2.2.2.2.2.2.2.2.1 (xs (a18.2.2.2.2.2.2.2.2.2.2.2.2.2.2.2.2.2.2.2.2.2.2 + (1 : Int32)).toNatClampNeg) hcr _) gL_law_X9_flour rfl (by decide +kernel) ⟨Nat.le_of_ble_eq_true rfl, Nat.le_of_ble_eq_true rfl⟩ 31 9 rfl rfl rfl hl.1 rfl (Nat.le_of_ble_eq_true rfl) dL_law_520 ⟨Nat.le_of_ble_eq_true rfl, Nat.le_of_ble_eq_true rfl⟩) (rep_suf _ _ _ (show ∀ k ∈ _, 31 ≤ k by decide)) (fun H locs hP hS => ?_)
                                      refine lv_icmp_eq (tgt := 773) hx hb dL_law_523 (by decide) (fun hc => ?_) (fun hc => ?_)
                                      · have hM := if_pp hc hM
                                        exact j773 (a18.1, a18.2.1, a18.2.2.1, a18.2.2.2.1, a18.2.2.2.2.1, a18.2.2.2.2.2.1, a18.2.2.2.2.2.2.1, a18.2.2.2.2.2.2.2.1, a18.2.2.2.2.2.2.2.2.1, a18.2.2.2.2.2.2.2.2.2.1, a18.2.2.2.2.2.2.2.2.2.2.1, a18.2.2.2.2.2.2.2.2.2.2.2.1, a18.2.2.2.2.2.2.2.2.2.2.2.2.1, a18.2.2.2.2.2.2.2.2.2.2.2.2.2.1, a18.2.2.2.2.2.2.2.2.2.2.2.2.2.2.1, a18.2.2.2.2.2.2.2.2.2.2.2.2.2.2.2.1, a18.2.2.2.2.2.2.2.2.2.2.2.2.2.2.2.2.1, z520.2, a18.2.2.2.2.2.2.2.2.2.2.2.2.2.2.2.2.2.2.1, a18.2.2.2.2.2.2.2.2.2.2.2.2.2.2.2.2.2.2.2.1, a18.2.2.2.2.2.2.2.2.2.2.2.2.2.2.2.2.2.2.2.2.1, a18.2.2.2.2.2.2.2.2.2.2.2.2.2.2.2.2.2.2.2.2.2.1, a18.2.2.2.2.2.2.2.2.2.2.2.2.2.2.2.2.2.2.2.2.2.2) _ _ _ hP hS (lv_sub hl [0, 1, 2, 3] rfl) hM
                                      · have hM := if_nn hc hM
                                        refine lv_iconst (v := 0) hx hb dL_law_526 (by decide) ?_
                                        exact no_s hM
                                    · have hM := if_nn hc15 hM
                                      by_cases hc16 : ((xs a18.2.2.2.2.2.2.2.2.2.2.2.2.2.2.2.2.2.2.2.2.2.2.toNatClampNeg) &&& (31 : Int32)) = (16 : Int32)
                                      · have hM := if_pp hc16 hM
                                        refine lv_tableIn (off := 496) (tgt := 528) hx hb dL_law_32 (by rw [hc16]; decide) (by rw [hc16]; decide) (by rw [hc16]; rfl) (by decide) ?_
                                        refine lv_aload_n hx hb dL_law_528 rfl (lv_at hl 1 rfl) ?_
                                        refine lv_aload_n hx hb dL_law_529 rfl (lv_at hl 0 rfl) ?_
                                        refine lv_iload_n hx hb dL_law_530 rfl (lv_at hl 3 rfl) ?_
                                        refine lv_iconst (v := 1) hx hb dL_law_531 (by decide) ?_
                                        refine lv_iadd hx hb dL_law_532 ?_
                                        obtain ⟨hin, hM⟩ := if_ok hM
                                        refine va_sld hx hb hX hbl hbA hS hin dL_law_533 ?_
                                        obtain ⟨z534, hcr, hM⟩ := ob_s hM
                                        refine res_i0 F hP hS rfl [0, 1, 2, 3, 4, 5, 6, 7, 8, 9, 10, 11, 12, 13, 14, 15, 16, 17, 18, 19, 20, 21, 22, 23, 24, 25, 26, 27, 28, 29, 30] rfl rfl (runV_of (n := 1) (As := [.int (xs (a18.2.2.2.2.2.2.2.2.2.2.2.2.2.2.2.2.2.2.2.2.2.2 + (1 : Int32)).toNatClampNeg)]) (rest := []) F hP hS rfl [0, 1, 2, 3, 4, 5, 6, 7, 8, 9, 10, 11, 12, 13, 14, 15, 16, 17, 18, 19, 20, 21, 22, 23, 24, 25, 26, 27, 28, 29, 30] rfl rfl (c_X8_post l dC dI cI cC cZ sa ax a18.1 a18.2.1 a18.2.2.1 a18.2.2.2.1 a18.2.2.2.2.1 a18.2.2.2.2.2.1 a18.2.2.2.2.2.2.1 a18.2.2.2.2.2.2.2.1 a18.2.2.2.2.2.2.2.2.1 a18.2.2.2.2.2.2.2.2.2.1 a18.2.2.2.2.2.2.2.2.2.2.1 a18.2.2.2.2.2.2.2.2.2.2.2.1 a18.2.2.2.2.2.2.2.2.2.2.2.2.1 (xs (a18.2.2.2.2.2.2.2.2.2.2.2.2.2.2.2.2.2.2.2.2.2.2 + (1 : Int32)).toNatClampNeg) hcr _) gL_law_X8_post rfl (by decide +kernel) ⟨Nat.le_of_ble_eq_true rfl, Nat.le_of_ble_eq_true rfl⟩ 0 8 rfl rfl rfl hl.1 rfl (Nat.le_of_ble_eq_true rfl) dL_law_534 ⟨Nat.le_of_ble_eq_true rfl, Nat.le_of_ble_eq_true rfl⟩) (fun H locs hP hS => ?_)
                                        refine lv_aload_n hx hb dL_law_537 rfl (lv_at hl 2 rfl) ?_
                                        refine lv_aload_n hx hb dL_law_538 rfl (lv_at hl 0 rfl) ?_
                                        refine lv_iload_n hx hb dL_law_539 rfl (lv_at hl 3 rfl) ?_
                                        refine lv_iconst (v := 1) hx hb dL_law_540 (by decide) ?_
                                        refine lv_iadd hx hb dL_law_541 ?_
                                        obtain ⟨hin, hM⟩ := if_ok hM
                                        refine va_sld hx hb hX hbl hbA hS hin dL_law_542 ?_
                                        obtain ⟨z543, hcr, hM⟩ := ob_s hM
                                        refine res_i (ws' := (wX cI cC ax a18.1 a18.2.1 a18.2.2.1 a18.2.2.2.1 a18.2.2.2.2.1 a18.2.2.2.2.2.1 a18.2.2.2.2.2.2.1 a18.2.2.2.2.2.2.2.1 a18.2.2.2.2.2.2.2.2.1 a18.2.2.2.2.2.2.2.2.2.1 a18.2.2.2.2.2.2.2.2.2.2.1 a18.2.2.2.2.2.2.2.2.2.2.2.1 a18.2.2.2.2.2.2.2.2.2.2.2.2.1 ++ wM cI cZ am z543.2 a18.2.2.2.2.2.2.2.2.2.2.2.2.2.2.1 a18.2.2.2.2.2.2.2.2.2.2.2.2.2.2.2.1 a18.2.2.2.2.2.2.2.2.2.2.2.2.2.2.2.2.1 a18.2.2.2.2.2.2.2.2.2.2.2.2.2.2.2.2.2.1 a18.2.2.2.2.2.2.2.2.2.2.2.2.2.2.2.2.2.2.1 a18.2.2.2.2.2.2.2.2.2.2.2.2.2.2.2.2.2.2.2.1 a18.2.2.2.2.2.2.2.2.2.2.2.2.2.2.2.2.2.2.2.2.1 a18.2.2.2.2.2.2.2.2.2.2.2.2.2.2.2.2.2.2.2.2.2.1)) F hP hS rfl [31, 32, 33, 34, 35, 36, 37, 38, 39, 40, 41, 42, 43] rfl rfl (runV_of (n := 1) (As := [.int (xs (a18.2.2.2.2.2.2.2.2.2.2.2.2.2.2.2.2.2.2.2.2.2.2 + (1 : Int32)).toNatClampNeg)]) (rest := [.int z534]) F hP hS rfl [31, 32, 33, 34, 35, 36, 37, 38, 39, 40, 41, 42, 43] rfl rfl (c_X9_post l dC dI cI cC cZ sa am a18.2.2.2.2.2.2.2.2.2.2.2.2.2.1 a18.2.2.2.2.2.2.2.2.2.2.2.2.2.2.1 a18.2.2.2.2.2.2.2.2.2.2.2.2.2.2.2.1 a18.2.2.2.2.2.2.2.2.2.2.2.2.2.2.2.2.1 a18.2.2.2.2.2.2.2.2.2.2.2.2.2.2.2.2.2.1 a18.2.2.2.2.2.2.2.2.2.2.2.2.2.2.2.2.2.2.1 a18.2.2.2.2.2.2.2.2.2.2.2.2.2.2.2.2.2.2.2.1 a18.2.2.2.2.2.2.2.2.2.2.2.2.2.2.2.2.2.2.2.2.1 a18.2.2.2.2.2.2.2.2.2.2.2.2.2.2.2.2.2.2.2.2.2.1 (xs (a18.2.2.2.2.2.2.2.2.2.2.2.2.2.2.2.2.2.2.2.2.2.2 + (1 : Int32)).toNatClampNeg) hcr _) gL_law_X9_post rfl (by decide +kernel) ⟨Nat.le_of_ble_eq_true rfl, Nat.le_of_ble_eq_true rfl⟩ 31 9 rfl rfl rfl hl.1 rfl (Nat.le_of_ble_eq_true rfl) dL_law_543 ⟨Nat.le_of_ble_eq_true rfl, Nat.le_of_ble_eq_true rfl⟩) (rep_suf _ _ _ (show ∀ k ∈ _, 31 ≤ k by decide)) (fun H locs hP hS => ?_)
                                        refine lv_icmp_eq (tgt := 773) hx hb dL_law_546 (by decide) (fun hc => ?_) (fun hc => ?_)
                                        · have hM := if_pp hc hM
                                          exact j773 (a18.1, a18.2.1, a18.2.2.1, a18.2.2.2.1, a18.2.2.2.2.1, a18.2.2.2.2.2.1, a18.2.2.2.2.2.2.1, a18.2.2.2.2.2.2.2.1, a18.2.2.2.2.2.2.2.2.1, a18.2.2.2.2.2.2.2.2.2.1, a18.2.2.2.2.2.2.2.2.2.2.1, a18.2.2.2.2.2.2.2.2.2.2.2.1, a18.2.2.2.2.2.2.2.2.2.2.2.2.1, z543.2, a18.2.2.2.2.2.2.2.2.2.2.2.2.2.2.1, a18.2.2.2.2.2.2.2.2.2.2.2.2.2.2.2.1, a18.2.2.2.2.2.2.2.2.2.2.2.2.2.2.2.2.1, a18.2.2.2.2.2.2.2.2.2.2.2.2.2.2.2.2.2.1, a18.2.2.2.2.2.2.2.2.2.2.2.2.2.2.2.2.2.2.1, a18.2.2.2.2.2.2.2.2.2.2.2.2.2.2.2.2.2.2.2.1, a18.2.2.2.2.2.2.2.2.2.2.2.2.2.2.2.2.2.2.2.2.1, a18.2.2.2.2.2.2.2.2.2.2.2.2.2.2.2.2.2.2.2.2.2.1, a18.2.2.2.2.2.2.2.2.2.2.2.2.2.2.2.2.2.2.2.2.2.2) _ _ _ hP hS (lv_sub hl [0, 1, 2, 3] rfl) hM
                                        · have hM := if_nn hc hM
                                          refine lv_iconst (v := 0) hx hb dL_law_549 (by decide) ?_
                                          exact no_s hM
                                      · have hM := if_nn hc16 hM
                                        by_cases hc17 : ((xs a18.2.2.2.2.2.2.2.2.2.2.2.2.2.2.2.2.2.2.2.2.2.2.toNatClampNeg) &&& (31 : Int32)) = (17 : Int32)
                                        · have hM := if_pp hc17 hM
                                          refine lv_tableIn (off := 519) (tgt := 551) hx hb dL_law_32 (by rw [hc17]; decide) (by rw [hc17]; decide) (by rw [hc17]; rfl) (by decide) ?_
                                          refine lv_aload_n hx hb dL_law_551 rfl (lv_at hl 1 rfl) ?_
                                          refine lv_aload_n hx hb dL_law_552 rfl (lv_at hl 0 rfl) ?_
                                          refine lv_iload_n hx hb dL_law_553 rfl (lv_at hl 3 rfl) ?_
                                          refine lv_iconst (v := 1) hx hb dL_law_554 (by decide) ?_
                                          refine lv_iadd hx hb dL_law_555 ?_
                                          obtain ⟨hin, hM⟩ := if_ok hM
                                          refine va_sld hx hb hX hbl hbA hS hin dL_law_556 ?_
                                          refine lv_aload_n hx hb dL_law_557 rfl (lv_at hl 0 rfl) ?_
                                          refine lv_iload_n hx hb dL_law_558 rfl (lv_at hl 3 rfl) ?_
                                          refine lv_iconst (v := 2) hx hb dL_law_559 (by decide) ?_
                                          refine lv_iadd hx hb dL_law_560 ?_
                                          obtain ⟨hin, hM⟩ := if_ok hM
                                          refine va_sld hx hb hX hbl hbA hS hin dL_law_561 ?_
                                          obtain ⟨z562, hcr, hM⟩ := ob_s hM
                                          refine res_i (ws' := (wX cI cC ax a18.1 a18.2.1 a18.2.2.1 a18.2.2.2.1 a18.2.2.2.2.1 a18.2.2.2.2.2.1 a18.2.2.2.2.2.2.1 a18.2.2.2.2.2.2.2.1 a18.2.2.2.2.2.2.2.2.1 z562.2.1 z562.2.2 a18.2.2.2.2.2.2.2.2.2.2.2.1 a18.2.2.2.2.2.2.2.2.2.2.2.2.1 ++ wM cI cZ am a18.2.2.2.2.2.2.2.2.2.2.2.2.2.1 a18.2.2.2.2.2.2.2.2.2.2.2.2.2.2.1 a18.2.2.2.2.2.2.2.2.2.2.2.2.2.2.2.1 a18.2.2.2.2.2.2.2.2.2.2.2.2.2.2.2.2.1 a18.2.2.2.2.2.2.2.2.2.2.2.2.2.2.2.2.2.1 a18.2.2.2.2.2.2.2.2.2.2.2.2.2.2.2.2.2.2.1 a18.2.2.2.2.2.2.2.2.2.2.2.2.2.2.2.2.2.2.2.1 a18.2.2.2.2.2.2.2.2.2.2.2.2.2.2.2.2.2.2.2.2.1 a18.2.2.2.2.2.2.2.2.2.2.2.2.2.2.2.2.2.2.2.2.2.1)) F hP hS rfl [0, 1, 2, 3, 4, 5, 6, 7, 8, 9, 10, 11, 12, 13, 14, 15, 16, 17, 18, 19, 20, 21, 22, 23, 24, 25, 26, 27, 28, 29, 30] rfl rfl (runV_of (n := 2) (As := [.int (xs (a18.2.2.2.2.2.2.2.2.2.2.2.2.2.2.2.2.2.2.2.2.2.2 + (1 : Int32)).toNatClampNeg), .int (xs (a18.2.2.2.2.2.2.2.2.2.2.2.2.2.2.2.2.2.2.2.2.2.2 + (2 : Int32)).toNatClampNeg)]) (rest := []) F hP hS rfl [0, 1, 2, 3, 4, 5, 6, 7, 8, 9, 10, 11, 12, 13, 14, 15, 16, 17, 18, 19, 20, 21, 22, 23, 24, 25, 26, 27, 28, 29, 30] rfl rfl (c_X8_meet l dC dI cI cC cZ sa ax a18.1 a18.2.1 a18.2.2.1 a18.2.2.2.1 a18.2.2.2.2.1 a18.2.2.2.2.2.1 a18.2.2.2.2.2.2.1 a18.2.2.2.2.2.2.2.1 a18.2.2.2.2.2.2.2.2.1 a18.2.2.2.2.2.2.2.2.2.1 a18.2.2.2.2.2.2.2.2.2.2.1 a18.2.2.2.2.2.2.2.2.2.2.2.1 a18.2.2.2.2.2.2.2.2.2.2.2.2.1 (xs (a18.2.2.2.2.2.2.2.2.2.2.2.2.2.2.2.2.2.2.2.2.2.2 + (1 : Int32)).toNatClampNeg) (xs (a18.2.2.2.2.2.2.2.2.2.2.2.2.2.2.2.2.2.2.2.2.2.2 + (2 : Int32)).toNatClampNeg) hcr _) gL_law_X8_meet rfl (by decide +kernel) ⟨Nat.le_of_ble_eq_true rfl, Nat.le_of_ble_eq_true rfl⟩ 0 8 rfl rfl rfl hl.1 rfl (Nat.le_of_ble_eq_true rfl) dL_law_562 ⟨Nat.le_of_ble_eq_true rfl, Nat.le_of_ble_eq_true rfl⟩) (rep_pre _ _ _ rfl (show ∀ k ∈ _, k < 31 by decide)) (fun H locs hP hS => ?_)
                                          refine lv_aload_n hx hb dL_law_565 rfl (lv_at hl 2 rfl) ?_
                                          refine lv_aload_n hx hb dL_law_566 rfl (lv_at hl 0 rfl) ?_
                                          refine lv_iload_n hx hb dL_law_567 rfl (lv_at hl 3 rfl) ?_
                                          refine lv_iconst (v := 1) hx hb dL_law_568 (by decide) ?_
                                          refine lv_iadd hx hb dL_law_569 ?_
                                          obtain ⟨hin, hM⟩ := if_ok hM
                                          refine va_sld hx hb hX hbl hbA hS hin dL_law_570 ?_
                                          refine lv_aload_n hx hb dL_law_571 rfl (lv_at hl 0 rfl) ?_
                                          refine lv_iload_n hx hb dL_law_572 rfl (lv_at hl 3 rfl) ?_
                                          refine lv_iconst (v := 2) hx hb dL_law_573 (by decide) ?_
                                          refine lv_iadd hx hb dL_law_574 ?_
                                          obtain ⟨hin, hM⟩ := if_ok hM
                                          refine va_sld hx hb hX hbl hbA hS hin dL_law_575 ?_
                                          obtain ⟨z576, hcr, hM⟩ := ob_s hM
                                          refine res_i (ws' := (wX cI cC ax a18.1 a18.2.1 a18.2.2.1 a18.2.2.2.1 a18.2.2.2.2.1 a18.2.2.2.2.2.1 a18.2.2.2.2.2.2.1 a18.2.2.2.2.2.2.2.1 a18.2.2.2.2.2.2.2.2.1 z562.2.1 z562.2.2 a18.2.2.2.2.2.2.2.2.2.2.2.1 a18.2.2.2.2.2.2.2.2.2.2.2.2.1 ++ wM cI cZ am a18.2.2.2.2.2.2.2.2.2.2.2.2.2.1 a18.2.2.2.2.2.2.2.2.2.2.2.2.2.2.1 z576.2.1 z576.2.2 a18.2.2.2.2.2.2.2.2.2.2.2.2.2.2.2.2.2.1 a18.2.2.2.2.2.2.2.2.2.2.2.2.2.2.2.2.2.2.1 a18.2.2.2.2.2.2.2.2.2.2.2.2.2.2.2.2.2.2.2.1 a18.2.2.2.2.2.2.2.2.2.2.2.2.2.2.2.2.2.2.2.2.1 a18.2.2.2.2.2.2.2.2.2.2.2.2.2.2.2.2.2.2.2.2.2.1)) F hP hS rfl [31, 32, 33, 34, 35, 36, 37, 38, 39, 40, 41, 42, 43] rfl rfl (runV_of (n := 2) (As := [.int (xs (a18.2.2.2.2.2.2.2.2.2.2.2.2.2.2.2.2.2.2.2.2.2.2 + (1 : Int32)).toNatClampNeg), .int (xs (a18.2.2.2.2.2.2.2.2.2.2.2.2.2.2.2.2.2.2.2.2.2.2 + (2 : Int32)).toNatClampNeg)]) (rest := [.int z562.1]) F hP hS rfl [31, 32, 33, 34, 35, 36, 37, 38, 39, 40, 41, 42, 43] rfl rfl (c_X9_meet l dC dI cI cC cZ sa am a18.2.2.2.2.2.2.2.2.2.2.2.2.2.1 a18.2.2.2.2.2.2.2.2.2.2.2.2.2.2.1 a18.2.2.2.2.2.2.2.2.2.2.2.2.2.2.2.1 a18.2.2.2.2.2.2.2.2.2.2.2.2.2.2.2.2.1 a18.2.2.2.2.2.2.2.2.2.2.2.2.2.2.2.2.2.1 a18.2.2.2.2.2.2.2.2.2.2.2.2.2.2.2.2.2.2.1 a18.2.2.2.2.2.2.2.2.2.2.2.2.2.2.2.2.2.2.2.1 a18.2.2.2.2.2.2.2.2.2.2.2.2.2.2.2.2.2.2.2.2.1 a18.2.2.2.2.2.2.2.2.2.2.2.2.2.2.2.2.2.2.2.2.2.1 (xs (a18.2.2.2.2.2.2.2.2.2.2.2.2.2.2.2.2.2.2.2.2.2.2 + (1 : Int32)).toNatClampNeg) (xs (a18.2.2.2.2.2.2.2.2.2.2.2.2.2.2.2.2.2.2.2.2.2.2 + (2 : Int32)).toNatClampNeg) hcr _) gL_law_X9_meet rfl (by decide +kernel) ⟨Nat.le_of_ble_eq_true rfl, Nat.le_of_ble_eq_true rfl⟩ 31 9 rfl rfl rfl hl.1 rfl (Nat.le_of_ble_eq_true rfl) dL_law_576 ⟨Nat.le_of_ble_eq_true rfl, Nat.le_of_ble_eq_true rfl⟩) (rep_suf _ _ _ (show ∀ k ∈ _, 31 ≤ k by decide)) (fun H locs hP hS => ?_)
                                          refine lv_icmp_eq (tgt := 773) hx hb dL_law_579 (by decide) (fun hc => ?_) (fun hc => ?_)
                                          · have hM := if_pp hc hM
                                            exact j773 (a18.1, a18.2.1, a18.2.2.1, a18.2.2.2.1, a18.2.2.2.2.1, a18.2.2.2.2.2.1, a18.2.2.2.2.2.2.1, a18.2.2.2.2.2.2.2.1, a18.2.2.2.2.2.2.2.2.1, z562.2.1, z562.2.2, a18.2.2.2.2.2.2.2.2.2.2.2.1, a18.2.2.2.2.2.2.2.2.2.2.2.2.1, a18.2.2.2.2.2.2.2.2.2.2.2.2.2.1, a18.2.2.2.2.2.2.2.2.2.2.2.2.2.2.1, z576.2.1, z576.2.2, a18.2.2.2.2.2.2.2.2.2.2.2.2.2.2.2.2.2.1, a18.2.2.2.2.2.2.2.2.2.2.2.2.2.2.2.2.2.2.1, a18.2.2.2.2.2.2.2.2.2.2.2.2.2.2.2.2.2.2.2.1, a18.2.2.2.2.2.2.2.2.2.2.2.2.2.2.2.2.2.2.2.2.1, a18.2.2.2.2.2.2.2.2.2.2.2.2.2.2.2.2.2.2.2.2.2.1, a18.2.2.2.2.2.2.2.2.2.2.2.2.2.2.2.2.2.2.2.2.2.2) _ _ _ hP hS (lv_sub hl [0, 1, 2, 3] rfl) hM
                                          · have hM := if_nn hc hM
                                            refine lv_iconst (v := 0) hx hb dL_law_582 (by decide) ?_
                                            exact no_s hM
                                        · have hM := if_nn hc17 hM
                                          by_cases hc18 : ((xs a18.2.2.2.2.2.2.2.2.2.2.2.2.2.2.2.2.2.2.2.2.2.2.toNatClampNeg) &&& (31 : Int32)) = (18 : Int32)
                                          · have hM := if_pp hc18 hM
                                            refine lv_tableIn (off := 552) (tgt := 584) hx hb dL_law_32 (by rw [hc18]; decide) (by rw [hc18]; decide) (by rw [hc18]; rfl) (by decide) ?_
                                            refine lv_aload_n hx hb dL_law_584 rfl (lv_at hl 1 rfl) ?_
                                            refine lv_aload_n hx hb dL_law_585 rfl (lv_at hl 0 rfl) ?_
                                            refine lv_iload_n hx hb dL_law_586 rfl (lv_at hl 3 rfl) ?_
                                            refine lv_iconst (v := 1) hx hb dL_law_587 (by decide) ?_
                                            refine lv_iadd hx hb dL_law_588 ?_
                                            obtain ⟨hin, hM⟩ := if_ok hM
                                            refine va_sld hx hb hX hbl hbA hS hin dL_law_589 ?_
                                            refine lv_aload_n hx hb dL_law_590 rfl (lv_at hl 0 rfl) ?_
                                            refine lv_iload_n hx hb dL_law_591 rfl (lv_at hl 3 rfl) ?_
                                            refine lv_iconst (v := 2) hx hb dL_law_592 (by decide) ?_
                                            refine lv_iadd hx hb dL_law_593 ?_
                                            obtain ⟨hin, hM⟩ := if_ok hM
                                            refine va_sld hx hb hX hbl hbA hS hin dL_law_594 ?_
                                            refine lv_aload_n hx hb dL_law_595 rfl (lv_at hl 0 rfl) ?_
                                            refine lv_iload_n hx hb dL_law_596 rfl (lv_at hl 3 rfl) ?_
                                            refine lv_iconst (v := 3) hx hb dL_law_597 (by decide) ?_
                                            refine lv_iadd hx hb dL_law_598 ?_
                                            obtain ⟨hin, hM⟩ := if_ok hM
                                            refine va_sld hx hb hX hbl hbA hS hin dL_law_599 ?_
                                            obtain ⟨z600, hcr, hM⟩ := ob_s hM
                                            refine res_i (ws' := (wX cI cC ax a18.1 a18.2.1 a18.2.2.1 a18.2.2.2.1 a18.2.2.2.2.1 a18.2.2.2.2.2.1 a18.2.2.2.2.2.2.1 a18.2.2.2.2.2.2.2.1 a18.2.2.2.2.2.2.2.2.1 a18.2.2.2.2.2.2.2.2.2.1 a18.2.2.2.2.2.2.2.2.2.2.1 a18.2.2.2.2.2.2.2.2.2.2.2.1 z600.2 ++ wM cI cZ am a18.2.2.2.2.2.2.2.2.2.2.2.2.2.1 a18.2.2.2.2.2.2.2.2.2.2.2.2.2.2.1 a18.2.2.2.2.2.2.2.2.2.2.2.2.2.2.2.1 a18.2.2.2.2.2.2.2.2.2.2.2.2.2.2.2.2.1 a18.2.2.2.2.2.2.2.2.2.2.2.2.2.2.2.2.2.1 a18.2.2.2.2.2.2.2.2.2.2.2.2.2.2.2.2.2.2.1 a18.2.2.2.2.2.2.2.2.2.2.2.2.2.2.2.2.2.2.2.1 a18.2.2.2.2.2.2.2.2.2.2.2.2.2.2.2.2.2.2.2.2.1 a18.2.2.2.2.2.2.2.2.2.2.2.2.2.2.2.2.2.2.2.2.2.1)) F hP hS rfl [0, 1, 2, 3, 4, 5, 6, 7, 8, 9, 10, 11, 12, 13, 14, 15, 16, 17, 18, 19, 20, 21, 22, 23, 24, 25, 26, 27, 28, 29, 30] rfl rfl (runV_of (n := 3) (As := [.int (xs (a18.2.2.2.2.2.2.2.2.2.2.2.2.2.2.2.2.2.2.2.2.2.2 + (1 : Int32)).toNatClampNeg), .int (xs (a18.2.2.2.2.2.2.2.2.2.2.2.2.2.2.2.2.2.2.2.2.2.2 + (2 : Int32)).toNatClampNeg), .int (xs (a18.2.2.2.2.2.2.2.2.2.2.2.2.2.2.2.2.2.2.2.2.2.2 + (3 : Int32)).toNatClampNeg)]) (rest := []) F hP hS rfl [0, 1, 2, 3, 4, 5, 6, 7, 8, 9, 10, 11, 12, 13, 14, 15, 16, 17, 18, 19, 20, 21, 22, 23, 24, 25, 26, 27, 28, 29, 30] rfl rfl (c_X8_where l dC dI cI cC cZ sa ax a18.1 a18.2.1 a18.2.2.1 a18.2.2.2.1 a18.2.2.2.2.1 a18.2.2.2.2.2.1 a18.2.2.2.2.2.2.1 a18.2.2.2.2.2.2.2.1 a18.2.2.2.2.2.2.2.2.1 a18.2.2.2.2.2.2.2.2.2.1 a18.2.2.2.2.2.2.2.2.2.2.1 a18.2.2.2.2.2.2.2.2.2.2.2.1 a18.2.2.2.2.2.2.2.2.2.2.2.2.1 (xs (a18.2.2.2.2.2.2.2.2.2.2.2.2.2.2.2.2.2.2.2.2.2.2 + (1 : Int32)).toNatClampNeg) (xs (a18.2.2.2.2.2.2.2.2.2.2.2.2.2.2.2.2.2.2.2.2.2.2 + (2 : Int32)).toNatClampNeg) (xs (a18.2.2.2.2.2.2.2.2.2.2.2.2.2.2.2.2.2.2.2.2.2.2 + (3 : Int32)).toNatClampNeg) hcr _) gL_law_X8_where rfl (by decide +kernel) ⟨Nat.le_of_ble_eq_true rfl, Nat.le_of_ble_eq_true rfl⟩ 0 8 rfl rfl rfl hl.1 rfl (Nat.le_of_ble_eq_true rfl) dL_law_600 ⟨Nat.le_of_ble_eq_true rfl, Nat.le_of_ble_eq_true rfl⟩) (rep_pre _ _ _ rfl (show ∀ k ∈ _, k < 31 by decide)) (fun H locs hP hS => ?_)
                                            refine lv_aload_n hx hb dL_law_603 rfl (lv_at hl 2 rfl) ?_
                                            refine lv_aload_n hx hb dL_law_604 rfl (lv_at hl 0 rfl) ?_
                                            refine lv_iload_n hx hb dL_law_605 rfl (lv_at hl 3 rfl) ?_
                                            refine lv_iconst (v := 1) hx hb dL_law_606 (by decide) ?_
                                            refine lv_iadd hx hb dL_law_607 ?_
                                            obtain ⟨hin, hM⟩ := if_ok hM
                                            refine va_sld hx hb hX hbl hbA hS hin dL_law_608 ?_
                                            refine lv_aload_n hx hb dL_law_609 rfl (lv_at hl 0 rfl) ?_
                                            refine lv_iload_n hx hb dL_law_610 rfl (lv_at hl 3 rfl) ?_
                                            refine lv_iconst (v := 2) hx hb dL_law_611 (by decide) ?_
                                            refine lv_iadd hx hb dL_law_612 ?_
                                            obtain ⟨hin, hM⟩ := if_ok hM
                                            refine va_sld hx hb hX hbl hbA hS hin dL_law_613 ?_
                                            refine lv_aload_n hx hb dL_law_614 rfl (lv_at hl 0 rfl) ?_
                                            refine lv_iload_n hx hb dL_law_615 rfl (lv_at hl 3 rfl) ?_
                                            refine lv_iconst (v := 3) hx hb dL_law_616 (by decide) ?_
                                            refine lv_iadd hx hb dL_law_617 ?_
                                            obtain ⟨hin, hM⟩ := if_ok hM
                                            refine va_sld hx hb hX hbl hbA hS hin dL_law_618 ?_
                                            obtain ⟨z619, hcr, hM⟩ := ob_s hM
                                            refine res_i (ws' := (wX cI cC ax a18.1 a18.2.1 a18.2.2.1 a18.2.2.2.1 a18.2.2.2.2.1 a18.2.2.2.2.2.1 a18.2.2.2.2.2.2.1 a18.2.2.2.2.2.2.2.1 a18.2.2.2.2.2.2.2.2.1 a18.2.2.2.2.2.2.2.2.2.1 a18.2.2.2.2.2.2.2.2.2.2.1 a18.2.2.2.2.2.2.2.2.2.2.2.1 z600.2 ++ wM cI cZ am a18.2.2.2.2.2.2.2.2.2.2.2.2.2.1 a18.2.2.2.2.2.2.2.2.2.2.2.2.2.2.1 a18.2.2.2.2.2.2.2.2.2.2.2.2.2.2.2.1 a18.2.2.2.2.2.2.2.2.2.2.2.2.2.2.2.2.1 a18.2.2.2.2.2.2.2.2.2.2.2.2.2.2.2.2.2.1 a18.2.2.2.2.2.2.2.2.2.2.2.2.2.2.2.2.2.2.1 a18.2.2.2.2.2.2.2.2.2.2.2.2.2.2.2.2.2.2.2.1 z619.2 a18.2.2.2.2.2.2.2.2.2.2.2.2.2.2.2.2.2.2.2.2.2.1)) F hP hS rfl [31, 32, 33, 34, 35, 36, 37, 38, 39, 40, 41, 42, 43] rfl rfl (runV_of (n := 3) (As := [.int (xs (a18.2.2.2.2.2.2.2.2.2.2.2.2.2.2.2.2.2.2.2.2.2.2 + (1 : Int32)).toNatClampNeg), .int (xs (a18.2.2.2.2.2.2.2.2.2.2.2.2.2.2.2.2.2.2.2.2.2.2 + (2 : Int32)).toNatClampNeg), .int (xs (a18.2.2.2.2.2.2.2.2.2.2.2.2.2.2.2.2.2.2.2.2.2.2 + (3 : Int32)).toNatClampNeg)]) (rest := [.int z600.1]) F hP hS rfl [31, 32, 33, 34, 35, 36, 37, 38, 39, 40, 41, 42, 43] rfl rfl (c_X9_where l dC dI cI cC cZ sa am a18.2.2.2.2.2.2.2.2.2.2.2.2.2.1 a18.2.2.2.2.2.2.2.2.2.2.2.2.2.2.1 a18.2.2.2.2.2.2.2.2.2.2.2.2.2.2.2.1 a18.2.2.2.2.2.2.2.2.2.2.2.2.2.2.2.2.1 a18.2.2.2.2.2.2.2.2.2.2.2.2.2.2.2.2.2.1 a18.2.2.2.2.2.2.2.2.2.2.2.2.2.2.2.2.2.2.1 a18.2.2.2.2.2.2.2.2.2.2.2.2.2.2.2.2.2.2.2.1 a18.2.2.2.2.2.2.2.2.2.2.2.2.2.2.2.2.2.2.2.2.1 a18.2.2.2.2.2.2.2.2.2.2.2.2.2.2.2.2.2.2.2.2.2.1 (xs (a18.2.2.2.2.2.2.2.2.2.2.2.2.2.2.2.2.2.2.2.2.2.2 + (1 : Int32)).toNatClampNeg) (xs (a18.2.2.2.2.2.2.2.2.2.2.2.2.2.2.2.2.2.2.2.2.2.2 + (2 : Int32)).toNatClampNeg) (xs (a18.2.2.2.2.2.2.2.2.2.2.2.2.2.2.2.2.2.2.2.2.2.2 + (3 : Int32)).toNatClampNeg) hcr _) gL_law_X9_where rfl (by decide +kernel) ⟨Nat.le_of_ble_eq_true rfl, Nat.le_of_ble_eq_true rfl⟩ 31 9 rfl rfl rfl hl.1 rfl (Nat.le_of_ble_eq_true rfl) dL_law_619 ⟨Nat.le_of_ble_eq_true rfl, Nat.le_of_ble_eq_true rfl⟩) (rep_suf _ _ _ (show ∀ k ∈ _, 31 ≤ k by decide)) (fun H locs hP hS => ?_)
                                            refine lv_icmp_eq (tgt := 773) hx hb dL_law_622 (by decide) (fun hc => ?_) (fun hc => ?_)
                                            · have hM := if_pp hc hM
                                              exact j773 (a18.1, a18.2.1, a18.2.2.1, a18.2.2.2.1, a18.2.2.2.2.1, a18.2.2.2.2.2.1, a18.2.2.2.2.2.2.1, a18.2.2.2.2.2.2.2.1, a18.2.2.2.2.2.2.2.2.1, a18.2.2.2.2.2.2.2.2.2.1, a18.2.2.2.2.2.2.2.2.2.2.1, a18.2.2.2.2.2.2.2.2.2.2.2.1, z600.2, a18.2.2.2.2.2.2.2.2.2.2.2.2.2.1, a18.2.2.2.2.2.2.2.2.2.2.2.2.2.2.1, a18.2.2.2.2.2.2.2.2.2.2.2.2.2.2.2.1, a18.2.2.2.2.2.2.2.2.2.2.2.2.2.2.2.2.1, a18.2.2.2.2.2.2.2.2.2.2.2.2.2.2.2.2.2.1, a18.2.2.2.2.2.2.2.2.2.2.2.2.2.2.2.2.2.2.1, a18.2.2.2.2.2.2.2.2.2.2.2.2.2.2.2.2.2.2.2.1, z619.2, a18.2.2.2.2.2.2.2.2.2.2.2.2.2.2.2.2.2.2.2.2.2.1, a18.2.2.2.2.2.2.2.2.2.2.2.2.2.2.2.2.2.2.2.2.2.2) _ _ _ hP hS (lv_sub hl [0, 1, 2, 3] rfl) hM
                                            · have hM := if_nn hc hM
                                              refine lv_iconst (v := 0) hx hb dL_law_625 (by decide) ?_
                                              exact no_s hM
                                          · have hM := if_nn hc18 hM
                                            by_cases hc19 : ((xs a18.2.2.2.2.2.2.2.2.2.2.2.2.2.2.2.2.2.2.2.2.2.2.toNatClampNeg) &&& (31 : Int32)) = (19 : Int32)
                                            · have hM := if_pp hc19 hM
                                              refine lv_tableIn (off := 595) (tgt := 627) hx hb dL_law_32 (by rw [hc19]; decide) (by rw [hc19]; decide) (by rw [hc19]; rfl) (by decide) ?_
                                              refine lv_aload_n hx hb dL_law_627 rfl (lv_at hl 1 rfl) ?_
                                              refine lv_aload_n hx hb dL_law_628 rfl (lv_at hl 0 rfl) ?_
                                              refine lv_iload_n hx hb dL_law_629 rfl (lv_at hl 3 rfl) ?_
                                              refine lv_iconst (v := 1) hx hb dL_law_630 (by decide) ?_
                                              refine lv_iadd hx hb dL_law_631 ?_
                                              obtain ⟨hin, hM⟩ := if_ok hM
                                              refine va_sld hx hb hX hbl hbA hS hin dL_law_632 ?_
                                              refine lv_aload_n hx hb dL_law_633 rfl (lv_at hl 0 rfl) ?_
                                              refine lv_iload_n hx hb dL_law_634 rfl (lv_at hl 3 rfl) ?_
                                              refine lv_iconst (v := 2) hx hb dL_law_635 (by decide) ?_
                                              refine lv_iadd hx hb dL_law_636 ?_
                                              obtain ⟨hin, hM⟩ := if_ok hM
                                              refine va_sld hx hb hX hbl hbA hS hin dL_law_637 ?_
                                              obtain ⟨z638, hcr, hM⟩ := ob_s hM
                                              refine res_l (ws' := (wX cI cC ax a18.1 a18.2.1 a18.2.2.1 a18.2.2.2.1 a18.2.2.2.2.1 a18.2.2.2.2.2.1 a18.2.2.2.2.2.2.1 a18.2.2.2.2.2.2.2.1 a18.2.2.2.2.2.2.2.2.1 z638.2.1 z638.2.2 a18.2.2.2.2.2.2.2.2.2.2.2.1 a18.2.2.2.2.2.2.2.2.2.2.2.2.1 ++ wM cI cZ am a18.2.2.2.2.2.2.2.2.2.2.2.2.2.1 a18.2.2.2.2.2.2.2.2.2.2.2.2.2.2.1 a18.2.2.2.2.2.2.2.2.2.2.2.2.2.2.2.1 a18.2.2.2.2.2.2.2.2.2.2.2.2.2.2.2.2.1 a18.2.2.2.2.2.2.2.2.2.2.2.2.2.2.2.2.2.1 a18.2.2.2.2.2.2.2.2.2.2.2.2.2.2.2.2.2.2.1 a18.2.2.2.2.2.2.2.2.2.2.2.2.2.2.2.2.2.2.2.1 a18.2.2.2.2.2.2.2.2.2.2.2.2.2.2.2.2.2.2.2.2.1 a18.2.2.2.2.2.2.2.2.2.2.2.2.2.2.2.2.2.2.2.2.2.1)) F hP hS rfl [0, 1, 2, 3, 4, 5, 6, 7, 8, 9, 10, 11, 12, 13, 14, 15, 16, 17, 18, 19, 20, 21, 22, 23, 24, 25, 26, 27, 28, 29, 30] rfl rfl (runV_of (n := 2) (As := [.int (xs (a18.2.2.2.2.2.2.2.2.2.2.2.2.2.2.2.2.2.2.2.2.2.2 + (1 : Int32)).toNatClampNeg), .int (xs (a18.2.2.2.2.2.2.2.2.2.2.2.2.2.2.2.2.2.2.2.2.2.2 + (2 : Int32)).toNatClampNeg)]) (rest := []) F hP hS rfl [0, 1, 2, 3, 4, 5, 6, 7, 8, 9, 10, 11, 12, 13, 14, 15, 16, 17, 18, 19, 20, 21, 22, 23, 24, 25, 26, 27, 28, 29, 30] rfl rfl (c_X8_wind l dC dI cI cC cZ sa ax a18.1 a18.2.1 a18.2.2.1 a18.2.2.2.1 a18.2.2.2.2.1 a18.2.2.2.2.2.1 a18.2.2.2.2.2.2.1 a18.2.2.2.2.2.2.2.1 a18.2.2.2.2.2.2.2.2.1 a18.2.2.2.2.2.2.2.2.2.1 a18.2.2.2.2.2.2.2.2.2.2.1 a18.2.2.2.2.2.2.2.2.2.2.2.1 a18.2.2.2.2.2.2.2.2.2.2.2.2.1 (xs (a18.2.2.2.2.2.2.2.2.2.2.2.2.2.2.2.2.2.2.2.2.2.2 + (1 : Int32)).toNatClampNeg) (xs (a18.2.2.2.2.2.2.2.2.2.2.2.2.2.2.2.2.2.2.2.2.2.2 + (2 : Int32)).toNatClampNeg) hcr _) gL_law_X8_wind rfl (by decide +kernel) ⟨Nat.le_of_ble_eq_true rfl, Nat.le_of_ble_eq_true rfl⟩ 0 8 rfl rfl rfl hl.1 rfl (Nat.le_of_ble_eq_true rfl) dL_law_638 ⟨Nat.le_of_ble_eq_true rfl, Nat.le_of_ble_eq_true rfl⟩) (rep_pre _ _ _ rfl (show ∀ k ∈ _, k < 31 by decide)) (fun H locs hP hS => ?_)
                                              refine lv_aload_n hx hb dL_law_641 rfl (lv_at hl 2 rfl) ?_
                                              refine lv_aload_n hx hb dL_law_642 rfl (lv_at hl 0 rfl) ?_
                                              refine lv_iload_n hx hb dL_law_643 rfl (lv_at hl 3 rfl) ?_
                                              refine lv_iconst (v := 1) hx hb dL_law_644 (by decide) ?_
                                              refine lv_iadd hx hb dL_law_645 ?_
                                              obtain ⟨hin, hM⟩ := if_ok hM
                                              refine va_sld hx hb hX hbl hbA hS hin dL_law_646 ?_
                                              refine lv_aload_n hx hb dL_law_647 rfl (lv_at hl 0 rfl) ?_
                                              refine lv_iload_n hx hb dL_law_648 rfl (lv_at hl 3 rfl) ?_
                                              refine lv_iconst (v := 2) hx hb dL_law_649 (by decide) ?_
                                              refine lv_iadd hx hb dL_law_650 ?_
                                              obtain ⟨hin, hM⟩ := if_ok hM
                                              refine va_sld hx hb hX hbl hbA hS hin dL_law_651 ?_
                                              obtain ⟨z652, hcr, hM⟩ := ob_s hM
                                              refine res_l (ws' := (wX cI cC ax a18.1 a18.2.1 a18.2.2.1 a18.2.2.2.1 a18.2.2.2.2.1 a18.2.2.2.2.2.1 a18.2.2.2.2.2.2.1 a18.2.2.2.2.2.2.2.1 a18.2.2.2.2.2.2.2.2.1 z638.2.1 z638.2.2 a18.2.2.2.2.2.2.2.2.2.2.2.1 a18.2.2.2.2.2.2.2.2.2.2.2.2.1 ++ wM cI cZ am a18.2.2.2.2.2.2.2.2.2.2.2.2.2.1 a18.2.2.2.2.2.2.2.2.2.2.2.2.2.2.1 z652.2.1 z652.2.2 a18.2.2.2.2.2.2.2.2.2.2.2.2.2.2.2.2.2.1 a18.2.2.2.2.2.2.2.2.2.2.2.2.2.2.2.2.2.2.1 a18.2.2.2.2.2.2.2.2.2.2.2.2.2.2.2.2.2.2.2.1 a18.2.2.2.2.2.2.2.2.2.2.2.2.2.2.2.2.2.2.2.2.1 a18.2.2.2.2.2.2.2.2.2.2.2.2.2.2.2.2.2.2.2.2.2.1)) F hP hS rfl [31, 32, 33, 34, 35, 36, 37, 38, 39, 40, 41, 42, 43] rfl rfl (runV_of (n := 2) (As := [.int (xs (a18.2.2.2.2.2.2.2.2.2.2.2.2.2.2.2.2.2.2.2.2.2.2 + (1 : Int32)).toNatClampNeg), .int (xs (a18.2.2.2.2.2.2.2.2.2.2.2.2.2.2.2.2.2.2.2.2.2.2 + (2 : Int32)).toNatClampNeg)]) (rest := [.long z638.1]) F hP hS rfl [31, 32, 33, 34, 35, 36, 37, 38, 39, 40, 41, 42, 43] rfl rfl (c_X9_wind l dC dI cI cC cZ sa am a18.2.2.2.2.2.2.2.2.2.2.2.2.2.1 a18.2.2.2.2.2.2.2.2.2.2.2.2.2.2.1 a18.2.2.2.2.2.2.2.2.2.2.2.2.2.2.2.1 a18.2.2.2.2.2.2.2.2.2.2.2.2.2.2.2.2.1 a18.2.2.2.2.2.2.2.2.2.2.2.2.2.2.2.2.2.1 a18.2.2.2.2.2.2.2.2.2.2.2.2.2.2.2.2.2.2.1 a18.2.2.2.2.2.2.2.2.2.2.2.2.2.2.2.2.2.2.2.1 a18.2.2.2.2.2.2.2.2.2.2.2.2.2.2.2.2.2.2.2.2.1 a18.2.2.2.2.2.2.2.2.2.2.2.2.2.2.2.2.2.2.2.2.2.1 (xs (a18.2.2.2.2.2.2.2.2.2.2.2.2.2.2.2.2.2.2.2.2.2.2 + (1 : Int32)).toNatClampNeg) (xs (a18.2.2.2.2.2.2.2.2.2.2.2.2.2.2.2.2.2.2.2.2.2.2 + (2 : Int32)).toNatClampNeg) hcr _) gL_law_X9_wind rfl (by decide +kernel) ⟨Nat.le_of_ble_eq_true rfl, Nat.le_of_ble_eq_true rfl⟩ 31 9 rfl rfl rfl hl.1 rfl (Nat.le_of_ble_eq_true rfl) dL_law_652 ⟨Nat.le_of_ble_eq_true rfl, Nat.le_of_ble_eq_true rfl⟩) (rep_suf _ _ _ (show ∀ k ∈ _, 31 ≤ k by decide)) (fun H locs hP hS => ?_)
                                              refine W.lcmp hx hb dL_law_655 ?_
                                              refine lv_if_eq (tgt := 773) hx hb dL_law_656 (by decide) (fun hc => ?_) (fun hc => ?_)
                                              · have hM := if_pp hc hM
                                                exact j773 (a18.1, a18.2.1, a18.2.2.1, a18.2.2.2.1, a18.2.2.2.2.1, a18.2.2.2.2.2.1, a18.2.2.2.2.2.2.1, a18.2.2.2.2.2.2.2.1, a18.2.2.2.2.2.2.2.2.1, z638.2.1, z638.2.2, a18.2.2.2.2.2.2.2.2.2.2.2.1, a18.2.2.2.2.2.2.2.2.2.2.2.2.1, a18.2.2.2.2.2.2.2.2.2.2.2.2.2.1, a18.2.2.2.2.2.2.2.2.2.2.2.2.2.2.1, z652.2.1, z652.2.2, a18.2.2.2.2.2.2.2.2.2.2.2.2.2.2.2.2.2.1, a18.2.2.2.2.2.2.2.2.2.2.2.2.2.2.2.2.2.2.1, a18.2.2.2.2.2.2.2.2.2.2.2.2.2.2.2.2.2.2.2.1, a18.2.2.2.2.2.2.2.2.2.2.2.2.2.2.2.2.2.2.2.2.1, a18.2.2.2.2.2.2.2.2.2.2.2.2.2.2.2.2.2.2.2.2.2.1, a18.2.2.2.2.2.2.2.2.2.2.2.2.2.2.2.2.2.2.2.2.2.2) _ _ _ hP hS (lv_sub hl [0, 1, 2, 3] rfl) hM
                                              · have hM := if_nn hc hM
                                                refine lv_iconst (v := 0) hx hb dL_law_659 (by decide) ?_
                                                exact no_s hM
                                            · have hM := if_nn hc19 hM
                                              by_cases hc20 : ((xs a18.2.2.2.2.2.2.2.2.2.2.2.2.2.2.2.2.2.2.2.2.2.2.toNatClampNeg) &&& (31 : Int32)) = (20 : Int32)
                                              · have hM := if_pp hc20 hM
                                                refine lv_tableIn (off := 629) (tgt := 661) hx hb dL_law_32 (by rw [hc20]; decide) (by rw [hc20]; decide) (by rw [hc20]; rfl) (by decide) ?_
                                                refine lv_aload_n hx hb dL_law_661 rfl (lv_at hl 1 rfl) ?_
                                                refine lv_aload_n hx hb dL_law_662 rfl (lv_at hl 0 rfl) ?_
                                                refine lv_iload_n hx hb dL_law_663 rfl (lv_at hl 3 rfl) ?_
                                                refine lv_iconst (v := 1) hx hb dL_law_664 (by decide) ?_
                                                refine lv_iadd hx hb dL_law_665 ?_
                                                obtain ⟨hin, hM⟩ := if_ok hM
                                                refine va_sld hx hb hX hbl hbA hS hin dL_law_666 ?_
                                                refine lv_aload_n hx hb dL_law_667 rfl (lv_at hl 0 rfl) ?_
                                                refine lv_iload_n hx hb dL_law_668 rfl (lv_at hl 3 rfl) ?_
                                                refine lv_iconst (v := 2) hx hb dL_law_669 (by decide) ?_
                                                refine lv_iadd hx hb dL_law_670 ?_
                                                obtain ⟨hin, hM⟩ := if_ok hM
                                                refine va_sld hx hb hX hbl hbA hS hin dL_law_671 ?_
                                                refine lv_aload_n hx hb dL_law_672 rfl (lv_at hl 0 rfl) ?_
                                                refine lv_iload_n hx hb dL_law_673 rfl (lv_at hl 3 rfl) ?_
                                                refine lv_iconst (v := 3) hx hb dL_law_674 (by decide) ?_
                                                refine lv_iadd hx hb dL_law_675 ?_
                                                obtain ⟨hin, hM⟩ := if_ok hM
                                                refine va_sld hx hb hX hbl hbA hS hin dL_law_676 ?_
                                                obtain ⟨z677, hcr, hM⟩ := ob_s hM
                                                refine res_i (ws' := (wX cI cC ax a18.1 a18.2.1 a18.2.2.1 a18.2.2.2.1 a18.2.2.2.2.1 a18.2.2.2.2.2.1 a18.2.2.2.2.2.2.1 a18.2.2.2.2.2.2.2.1 a18.2.2.2.2.2.2.2.2.1 z677.2 a18.2.2.2.2.2.2.2.2.2.2.1 a18.2.2.2.2.2.2.2.2.2.2.2.1 a18.2.2.2.2.2.2.2.2.2.2.2.2.1 ++ wM cI cZ am a18.2.2.2.2.2.2.2.2.2.2.2.2.2.1 a18.2.2.2.2.2.2.2.2.2.2.2.2.2.2.1 a18.2.2.2.2.2.2.2.2.2.2.2.2.2.2.2.1 a18.2.2.2.2.2.2.2.2.2.2.2.2.2.2.2.2.1 a18.2.2.2.2.2.2.2.2.2.2.2.2.2.2.2.2.2.1 a18.2.2.2.2.2.2.2.2.2.2.2.2.2.2.2.2.2.2.1 a18.2.2.2.2.2.2.2.2.2.2.2.2.2.2.2.2.2.2.2.1 a18.2.2.2.2.2.2.2.2.2.2.2.2.2.2.2.2.2.2.2.2.1 a18.2.2.2.2.2.2.2.2.2.2.2.2.2.2.2.2.2.2.2.2.2.1)) F hP hS rfl [0, 1, 2, 3, 4, 5, 6, 7, 8, 9, 10, 11, 12, 13, 14, 15, 16, 17, 18, 19, 20, 21, 22, 23, 24, 25, 26, 27, 28, 29, 30] rfl rfl (runV_of (n := 3) (As := [.int (xs (a18.2.2.2.2.2.2.2.2.2.2.2.2.2.2.2.2.2.2.2.2.2.2 + (1 : Int32)).toNatClampNeg), .int (xs (a18.2.2.2.2.2.2.2.2.2.2.2.2.2.2.2.2.2.2.2.2.2.2 + (2 : Int32)).toNatClampNeg), .int (xs (a18.2.2.2.2.2.2.2.2.2.2.2.2.2.2.2.2.2.2.2.2.2.2 + (3 : Int32)).toNatClampNeg)]) (rest := []) F hP hS rfl [0, 1, 2, 3, 4, 5, 6, 7, 8, 9, 10, 11, 12, 13, 14, 15, 16, 17, 18, 19, 20, 21, 22, 23, 24, 25, 26, 27, 28, 29, 30] rfl rfl (c_X8_night l dC dI cI cC cZ sa ax a18.1 a18.2.1 a18.2.2.1 a18.2.2.2.1 a18.2.2.2.2.1 a18.2.2.2.2.2.1 a18.2.2.2.2.2.2.1 a18.2.2.2.2.2.2.2.1 a18.2.2.2.2.2.2.2.2.1 a18.2.2.2.2.2.2.2.2.2.1 a18.2.2.2.2.2.2.2.2.2.2.1 a18.2.2.2.2.2.2.2.2.2.2.2.1 a18.2.2.2.2.2.2.2.2.2.2.2.2.1 (xs (a18.2.2.2.2.2.2.2.2.2.2.2.2.2.2.2.2.2.2.2.2.2.2 + (1 : Int32)).toNatClampNeg) (xs (a18.2.2.2.2.2.2.2.2.2.2.2.2.2.2.2.2.2.2.2.2.2.2 + (2 : Int32)).toNatClampNeg) (xs (a18.2.2.2.2.2.2.2.2.2.2.2.2.2.2.2.2.2.2.2.2.2.2 + (3 : Int32)).toNatClampNeg) hcr _) gL_law_X8_night rfl (by decide +kernel) ⟨Nat.le_of_ble_eq_true rfl, Nat.le_of_ble_eq_true rfl⟩ 0 8 rfl rfl rfl hl.1 rfl (Nat.le_of_ble_eq_true rfl) dL_law_677 ⟨Nat.le_of_ble_eq_true rfl, Nat.le_of_ble_eq_true rfl⟩) (rep_pre _ _ _ rfl (show ∀ k ∈ _, k < 31 by decide)) (fun H locs hP hS => ?_)
                                                refine lv_aload_n hx hb dL_law_680 rfl (lv_at hl 2 rfl) ?_
                                                refine lv_aload_n hx hb dL_law_681 rfl (lv_at hl 0 rfl) ?_
                                                refine lv_iload_n hx hb dL_law_682 rfl (lv_at hl 3 rfl) ?_
                                                refine lv_iconst (v := 1) hx hb dL_law_683 (by decide) ?_
                                                refine lv_iadd hx hb dL_law_684 ?_
                                                obtain ⟨hin, hM⟩ := if_ok hM
                                                refine va_sld hx hb hX hbl hbA hS hin dL_law_685 ?_
                                                refine lv_aload_n hx hb dL_law_686 rfl (lv_at hl 0 rfl) ?_
                                                refine lv_iload_n hx hb dL_law_687 rfl (lv_at hl 3 rfl) ?_
                                                refine lv_iconst (v := 2) hx hb dL_law_688 (by decide) ?_
                                                refine lv_iadd hx hb dL_law_689 ?_
                                                obtain ⟨hin, hM⟩ := if_ok hM
                                                refine va_sld hx hb hX hbl hbA hS hin dL_law_690 ?_
                                                refine lv_aload_n hx hb dL_law_691 rfl (lv_at hl 0 rfl) ?_
                                                refine lv_iload_n hx hb dL_law_692 rfl (lv_at hl 3 rfl) ?_
                                                refine lv_iconst (v := 3) hx hb dL_law_693 (by decide) ?_
                                                refine lv_iadd hx hb dL_law_694 ?_
                                                obtain ⟨hin, hM⟩ := if_ok hM
                                                refine va_sld hx hb hX hbl hbA hS hin dL_law_695 ?_
                                                obtain ⟨z696, hcr, hM⟩ := ob_s hM
                                                refine res_i (ws' := (wX cI cC ax a18.1 a18.2.1 a18.2.2.1 a18.2.2.2.1 a18.2.2.2.2.1 a18.2.2.2.2.2.1 a18.2.2.2.2.2.2.1 a18.2.2.2.2.2.2.2.1 a18.2.2.2.2.2.2.2.2.1 z677.2 a18.2.2.2.2.2.2.2.2.2.2.1 a18.2.2.2.2.2.2.2.2.2.2.2.1 a18.2.2.2.2.2.2.2.2.2.2.2.2.1 ++ wM cI cZ am a18.2.2.2.2.2.2.2.2.2.2.2.2.2.1 a18.2.2.2.2.2.2.2.2.2.2.2.2.2.2.1 z696.2 a18.2.2.2.2.2.2.2.2.2.2.2.2.2.2.2.2.1 a18.2.2.2.2.2.2.2.2.2.2.2.2.2.2.2.2.2.1 a18.2.2.2.2.2.2.2.2.2.2.2.2.2.2.2.2.2.2.1 a18.2.2.2.2.2.2.2.2.2.2.2.2.2.2.2.2.2.2.2.1 a18.2.2.2.2.2.2.2.2.2.2.2.2.2.2.2.2.2.2.2.2.1 a18.2.2.2.2.2.2.2.2.2.2.2.2.2.2.2.2.2.2.2.2.2.1)) F hP hS rfl [31, 32, 33, 34, 35, 36, 37, 38, 39, 40, 41, 42, 43] rfl rfl (runV_of (n := 3) (As := [.int (xs (a18.2.2.2.2.2.2.2.2.2.2.2.2.2.2.2.2.2.2.2.2.2.2 + (1 : Int32)).toNatClampNeg), .int (xs (a18.2.2.2.2.2.2.2.2.2.2.2.2.2.2.2.2.2.2.2.2.2.2 + (2 : Int32)).toNatClampNeg), .int (xs (a18.2.2.2.2.2.2.2.2.2.2.2.2.2.2.2.2.2.2.2.2.2.2 + (3 : Int32)).toNatClampNeg)]) (rest := [.int z677.1]) F hP hS rfl [31, 32, 33, 34, 35, 36, 37, 38, 39, 40, 41, 42, 43] rfl rfl (c_X9_night l dC dI cI cC cZ sa am a18.2.2.2.2.2.2.2.2.2.2.2.2.2.1 a18.2.2.2.2.2.2.2.2.2.2.2.2.2.2.1 a18.2.2.2.2.2.2.2.2.2.2.2.2.2.2.2.1 a18.2.2.2.2.2.2.2.2.2.2.2.2.2.2.2.2.1 a18.2.2.2.2.2.2.2.2.2.2.2.2.2.2.2.2.2.1 a18.2.2.2.2.2.2.2.2.2.2.2.2.2.2.2.2.2.2.1 a18.2.2.2.2.2.2.2.2.2.2.2.2.2.2.2.2.2.2.2.1 a18.2.2.2.2.2.2.2.2.2.2.2.2.2.2.2.2.2.2.2.2.1 a18.2.2.2.2.2.2.2.2.2.2.2.2.2.2.2.2.2.2.2.2.2.1 (xs (a18.2.2.2.2.2.2.2.2.2.2.2.2.2.2.2.2.2.2.2.2.2.2 + (1 : Int32)).toNatClampNeg) (xs (a18.2.2.2.2.2.2.2.2.2.2.2.2.2.2.2.2.2.2.2.2.2.2 + (2 : Int32)).toNatClampNeg) (xs (a18.2.2.2.2.2.2.2.2.2.2.2.2.2.2.2.2.2.2.2.2.2.2 + (3 : Int32)).toNatClampNeg) hcr _) gL_law_X9_night rfl (by decide +kernel) ⟨Nat.le_of_ble_eq_true rfl, Nat.le_of_ble_eq_true rfl⟩ 31 9 rfl rfl rfl hl.1 rfl (Nat.le_of_ble_eq_true rfl) dL_law_696 ⟨Nat.le_of_ble_eq_true rfl, Nat.le_of_ble_eq_true rfl⟩) (rep_suf _ _ _ (show ∀ k ∈ _, 31 ≤ k by decide)) (fun H locs hP hS => ?_)
                                                refine lv_icmp_eq (tgt := 773) hx hb dL_law_699 (by decide) (fun hc => ?_) (fun hc => ?_)
                                                · have hM := if_pp hc hM
                                                  exact j773 (a18.1, a18.2.1, a18.2.2.1, a18.2.2.2.1, a18.2.2.2.2.1, a18.2.2.2.2.2.1, a18.2.2.2.2.2.2.1, a18.2.2.2.2.2.2.2.1, a18.2.2.2.2.2.2.2.2.1, z677.2, a18.2.2.2.2.2.2.2.2.2.2.1, a18.2.2.2.2.2.2.2.2.2.2.2.1, a18.2.2.2.2.2.2.2.2.2.2.2.2.1, a18.2.2.2.2.2.2.2.2.2.2.2.2.2.1, a18.2.2.2.2.2.2.2.2.2.2.2.2.2.2.1, z696.2, a18.2.2.2.2.2.2.2.2.2.2.2.2.2.2.2.2.1, a18.2.2.2.2.2.2.2.2.2.2.2.2.2.2.2.2.2.1, a18.2.2.2.2.2.2.2.2.2.2.2.2.2.2.2.2.2.2.1, a18.2.2.2.2.2.2.2.2.2.2.2.2.2.2.2.2.2.2.2.1, a18.2.2.2.2.2.2.2.2.2.2.2.2.2.2.2.2.2.2.2.2.1, a18.2.2.2.2.2.2.2.2.2.2.2.2.2.2.2.2.2.2.2.2.2.1, a18.2.2.2.2.2.2.2.2.2.2.2.2.2.2.2.2.2.2.2.2.2.2) _ _ _ hP hS (lv_sub hl [0, 1, 2, 3] rfl) hM
                                                · have hM := if_nn hc hM
                                                  refine lv_iconst (v := 0) hx hb dL_law_702 (by decide) ?_
                                                  exact no_s hM
                                              · have hM := if_nn hc20 hM
                                                by_cases hc21 : ((xs a18.2.2.2.2.2.2.2.2.2.2.2.2.2.2.2.2.2.2.2.2.2.2.toNatClampNeg) &&& (31 : Int32)) = (21 : Int32)
                                                · have hM := if_pp hc21 hM
                                                  refine lv_tableIn (off := 672) (tgt := 704) hx hb dL_law_32 (by rw [hc21]; decide) (by rw [hc21]; decide) (by rw [hc21]; rfl) (by decide) ?_
                                                  refine lv_aload_n hx hb dL_law_704 rfl (lv_at hl 1 rfl) ?_
                                                  refine lv_aload_n hx hb dL_law_705 rfl (lv_at hl 0 rfl) ?_
                                                  refine lv_iload_n hx hb dL_law_706 rfl (lv_at hl 3 rfl) ?_
                                                  refine lv_iconst (v := 1) hx hb dL_law_707 (by decide) ?_
                                                  refine lv_iadd hx hb dL_law_708 ?_
                                                  obtain ⟨hin, hM⟩ := if_ok hM
                                                  refine va_sld hx hb hX hbl hbA hS hin dL_law_709 ?_
                                                  obtain ⟨z710, hcr, hM⟩ := ob_s hM
                                                  refine res_i (ws' := (wX cI cC ax a18.1 a18.2.1 a18.2.2.1 z710.2.1 z710.2.2.1 z710.2.2.2.1 z710.2.2.2.2.1 z710.2.2.2.2.2.1 z710.2.2.2.2.2.2 a18.2.2.2.2.2.2.2.2.2.1 a18.2.2.2.2.2.2.2.2.2.2.1 a18.2.2.2.2.2.2.2.2.2.2.2.1 a18.2.2.2.2.2.2.2.2.2.2.2.2.1 ++ wM cI cZ am a18.2.2.2.2.2.2.2.2.2.2.2.2.2.1 a18.2.2.2.2.2.2.2.2.2.2.2.2.2.2.1 a18.2.2.2.2.2.2.2.2.2.2.2.2.2.2.2.1 a18.2.2.2.2.2.2.2.2.2.2.2.2.2.2.2.2.1 a18.2.2.2.2.2.2.2.2.2.2.2.2.2.2.2.2.2.1 a18.2.2.2.2.2.2.2.2.2.2.2.2.2.2.2.2.2.2.1 a18.2.2.2.2.2.2.2.2.2.2.2.2.2.2.2.2.2.2.2.1 a18.2.2.2.2.2.2.2.2.2.2.2.2.2.2.2.2.2.2.2.2.1 a18.2.2.2.2.2.2.2.2.2.2.2.2.2.2.2.2.2.2.2.2.2.1)) F hP hS rfl [0, 1, 2, 3, 4, 5, 6, 7, 8, 9, 10, 11, 12, 13, 14, 15, 16, 17, 18, 19, 20, 21, 22, 23, 24, 25, 26, 27, 28, 29, 30] rfl rfl (runV_of (n := 1) (As := [.int (xs (a18.2.2.2.2.2.2.2.2.2.2.2.2.2.2.2.2.2.2.2.2.2.2 + (1 : Int32)).toNatClampNeg)]) (rest := []) F hP hS rfl [0, 1, 2, 3, 4, 5, 6, 7, 8, 9, 10, 11, 12, 13, 14, 15, 16, 17, 18, 19, 20, 21, 22, 23, 24, 25, 26, 27, 28, 29, 30] rfl rfl (c_X8_image l dC dI cI cC cZ sa ax a18.1 a18.2.1 a18.2.2.1 a18.2.2.2.1 a18.2.2.2.2.1 a18.2.2.2.2.2.1 a18.2.2.2.2.2.2.1 a18.2.2.2.2.2.2.2.1 a18.2.2.2.2.2.2.2.2.1 a18.2.2.2.2.2.2.2.2.2.1 a18.2.2.2.2.2.2.2.2.2.2.1 a18.2.2.2.2.2.2.2.2.2.2.2.1 a18.2.2.2.2.2.2.2.2.2.2.2.2.1 (xs (a18.2.2.2.2.2.2.2.2.2.2.2.2.2.2.2.2.2.2.2.2.2.2 + (1 : Int32)).toNatClampNeg) hcr _) gL_law_X8_image rfl (by decide +kernel) ⟨Nat.le_of_ble_eq_true rfl, Nat.le_of_ble_eq_true rfl⟩ 0 8 rfl rfl rfl hl.1 rfl (Nat.le_of_ble_eq_true rfl) dL_law_710 ⟨Nat.le_of_ble_eq_true rfl, Nat.le_of_ble_eq_true rfl⟩) (rep_pre _ _ _ rfl (show ∀ k ∈ _, k < 31 by decide)) (fun H locs hP hS => ?_)
                                                  refine lv_aload_n hx hb dL_law_713 rfl (lv_at hl 2 rfl) ?_
                                                  refine lv_aload_n hx hb dL_law_714 rfl (lv_at hl 0 rfl) ?_
                                                  refine lv_iload_n hx hb dL_law_715 rfl (lv_at hl 3 rfl) ?_
                                                  refine lv_iconst (v := 1) hx hb dL_law_716 (by decide) ?_
                                                  refine lv_iadd hx hb dL_law_717 ?_
                                                  obtain ⟨hin, hM⟩ := if_ok hM
                                                  refine va_sld hx hb hX hbl hbA hS hin dL_law_718 ?_
                                                  obtain ⟨z719, hcr, hM⟩ := ob_s hM
                                                  refine res_i (ws' := (wX cI cC ax a18.1 a18.2.1 a18.2.2.1 z710.2.1 z710.2.2.1 z710.2.2.2.1 z710.2.2.2.2.1 z710.2.2.2.2.2.1 z710.2.2.2.2.2.2 a18.2.2.2.2.2.2.2.2.2.1 a18.2.2.2.2.2.2.2.2.2.2.1 a18.2.2.2.2.2.2.2.2.2.2.2.1 a18.2.2.2.2.2.2.2.2.2.2.2.2.1 ++ wM cI cZ am z719.2.1 a18.2.2.2.2.2.2.2.2.2.2.2.2.2.2.1 a18.2.2.2.2.2.2.2.2.2.2.2.2.2.2.2.1 a18.2.2.2.2.2.2.2.2.2.2.2.2.2.2.2.2.1 a18.2.2.2.2.2.2.2.2.2.2.2.2.2.2.2.2.2.1 a18.2.2.2.2.2.2.2.2.2.2.2.2.2.2.2.2.2.2.1 a18.2.2.2.2.2.2.2.2.2.2.2.2.2.2.2.2.2.2.2.1 a18.2.2.2.2.2.2.2.2.2.2.2.2.2.2.2.2.2.2.2.2.1 z719.2.2)) F hP hS rfl [31, 32, 33, 34, 35, 36, 37, 38, 39, 40, 41, 42, 43] rfl rfl (runV_of (n := 1) (As := [.int (xs (a18.2.2.2.2.2.2.2.2.2.2.2.2.2.2.2.2.2.2.2.2.2.2 + (1 : Int32)).toNatClampNeg)]) (rest := [.int z710.1]) F hP hS rfl [31, 32, 33, 34, 35, 36, 37, 38, 39, 40, 41, 42, 43] rfl rfl (c_X9_image l dC dI cI cC cZ sa am a18.2.2.2.2.2.2.2.2.2.2.2.2.2.1 a18.2.2.2.2.2.2.2.2.2.2.2.2.2.2.1 a18.2.2.2.2.2.2.2.2.2.2.2.2.2.2.2.1 a18.2.2.2.2.2.2.2.2.2.2.2.2.2.2.2.2.1 a18.2.2.2.2.2.2.2.2.2.2.2.2.2.2.2.2.2.1 a18.2.2.2.2.2.2.2.2.2.2.2.2.2.2.2.2.2.2.1 a18.2.2.2.2.2.2.2.2.2.2.2.2.2.2.2.2.2.2.2.1 a18.2.2.2.2.2.2.2.2.2.2.2.2.2.2.2.2.2.2.2.2.1 a18.2.2.2.2.2.2.2.2.2.2.2.2.2.2.2.2.2.2.2.2.2.1 (xs (a18.2.2.2.2.2.2.2.2.2.2.2.2.2.2.2.2.2.2.2.2.2.2 + (1 : Int32)).toNatClampNeg) hcr _) gL_law_X9_image rfl (by decide +kernel) ⟨Nat.le_of_ble_eq_true rfl, Nat.le_of_ble_eq_true rfl⟩ 31 9 rfl rfl rfl hl.1 rfl (Nat.le_of_ble_eq_true rfl) dL_law_719 ⟨Nat.le_of_ble_eq_true rfl, Nat.le_of_ble_eq_true rfl⟩) (rep_suf _ _ _ (show ∀ k ∈ _, 31 ≤ k by decide)) (fun H locs hP hS => ?_)
                                                  refine lv_icmp_eq (tgt := 773) hx hb dL_law_722 (by decide) (fun hc => ?_) (fun hc => ?_)
                                                  · have hM := if_pp hc hM
                                                    exact j773 (a18.1, a18.2.1, a18.2.2.1, z710.2.1, z710.2.2.1, z710.2.2.2.1, z710.2.2.2.2.1, z710.2.2.2.2.2.1, z710.2.2.2.2.2.2, a18.2.2.2.2.2.2.2.2.2.1, a18.2.2.2.2.2.2.2.2.2.2.1, a18.2.2.2.2.2.2.2.2.2.2.2.1, a18.2.2.2.2.2.2.2.2.2.2.2.2.1, z719.2.1, a18.2.2.2.2.2.2.2.2.2.2.2.2.2.2.1, a18.2.2.2.2.2.2.2.2.2.2.2.2.2.2.2.1, a18.2.2.2.2.2.2.2.2.2.2.2.2.2.2.2.2.1, a18.2.2.2.2.2.2.2.2.2.2.2.2.2.2.2.2.2.1, a18.2.2.2.2.2.2.2.2.2.2.2.2.2.2.2.2.2.2.1, a18.2.2.2.2.2.2.2.2.2.2.2.2.2.2.2.2.2.2.2.1, a18.2.2.2.2.2.2.2.2.2.2.2.2.2.2.2.2.2.2.2.2.1, z719.2.2, a18.2.2.2.2.2.2.2.2.2.2.2.2.2.2.2.2.2.2.2.2.2.2) _ _ _ hP hS (lv_sub hl [0, 1, 2, 3] rfl) hM
                                                  · have hM := if_nn hc hM
                                                    refine lv_iconst (v := 0) hx hb dL_law_725 (by decide) ?_
                                                    exact no_s hM
                                                · have hM := if_nn hc21 hM
                                                  by_cases hc22 : ((xs a18.2.2.2.2.2.2.2.2.2.2.2.2.2.2.2.2.2.2.2.2.2.2.toNatClampNeg) &&& (31 : Int32)) = (22 : Int32)
                                                  · have hM := if_pp hc22 hM
                                                    refine lv_tableIn (off := 695) (tgt := 727) hx hb dL_law_32 (by rw [hc22]; decide) (by rw [hc22]; decide) (by rw [hc22]; rfl) (by decide) ?_
                                                    refine lv_aload_n hx hb dL_law_727 rfl (lv_at hl 1 rfl) ?_
                                                    refine lv_aload_n hx hb dL_law_728 rfl (lv_at hl 0 rfl) ?_
                                                    refine lv_iload_n hx hb dL_law_729 rfl (lv_at hl 3 rfl) ?_
                                                    refine lv_iconst (v := 1) hx hb dL_law_730 (by decide) ?_
                                                    refine lv_iadd hx hb dL_law_731 ?_
                                                    obtain ⟨hin, hM⟩ := if_ok hM
                                                    refine va_sld hx hb hX hbl hbA hS hin dL_law_732 ?_
                                                    obtain ⟨z733, hcr, hM⟩ := ob_s hM
                                                    refine res_i (ws' := (wX cI cC ax a18.1 z733.2.1 z733.2.2 a18.2.2.2.1 a18.2.2.2.2.1 a18.2.2.2.2.2.1 a18.2.2.2.2.2.2.1 a18.2.2.2.2.2.2.2.1 a18.2.2.2.2.2.2.2.2.1 a18.2.2.2.2.2.2.2.2.2.1 a18.2.2.2.2.2.2.2.2.2.2.1 a18.2.2.2.2.2.2.2.2.2.2.2.1 a18.2.2.2.2.2.2.2.2.2.2.2.2.1 ++ wM cI cZ am a18.2.2.2.2.2.2.2.2.2.2.2.2.2.1 a18.2.2.2.2.2.2.2.2.2.2.2.2.2.2.1 a18.2.2.2.2.2.2.2.2.2.2.2.2.2.2.2.1 a18.2.2.2.2.2.2.2.2.2.2.2.2.2.2.2.2.1 a18.2.2.2.2.2.2.2.2.2.2.2.2.2.2.2.2.2.1 a18.2.2.2.2.2.2.2.2.2.2.2.2.2.2.2.2.2.2.1 a18.2.2.2.2.2.2.2.2.2.2.2.2.2.2.2.2.2.2.2.1 a18.2.2.2.2.2.2.2.2.2.2.2.2.2.2.2.2.2.2.2.2.1 a18.2.2.2.2.2.2.2.2.2.2.2.2.2.2.2.2.2.2.2.2.2.1)) F hP hS rfl [0, 1, 2, 3, 4, 5, 6, 7, 8, 9, 10, 11, 12, 13, 14, 15, 16, 17, 18, 19, 20, 21, 22, 23, 24, 25, 26, 27, 28, 29, 30] rfl rfl (runV_of (n := 1) (As := [.int (xs (a18.2.2.2.2.2.2.2.2.2.2.2.2.2.2.2.2.2.2.2.2.2.2 + (1 : Int32)).toNatClampNeg)]) (rest := []) F hP hS rfl [0, 1, 2, 3, 4, 5, 6, 7, 8, 9, 10, 11, 12, 13, 14, 15, 16, 17, 18, 19, 20, 21, 22, 23, 24, 25, 26, 27, 28, 29, 30] rfl rfl (c_X8_restore l dC dI cI cC cZ sa ax a18.1 a18.2.1 a18.2.2.1 a18.2.2.2.1 a18.2.2.2.2.1 a18.2.2.2.2.2.1 a18.2.2.2.2.2.2.1 a18.2.2.2.2.2.2.2.1 a18.2.2.2.2.2.2.2.2.1 a18.2.2.2.2.2.2.2.2.2.1 a18.2.2.2.2.2.2.2.2.2.2.1 a18.2.2.2.2.2.2.2.2.2.2.2.1 a18.2.2.2.2.2.2.2.2.2.2.2.2.1 (xs (a18.2.2.2.2.2.2.2.2.2.2.2.2.2.2.2.2.2.2.2.2.2.2 + (1 : Int32)).toNatClampNeg) hcr _) gL_law_X8_restore rfl (by decide +kernel) ⟨Nat.le_of_ble_eq_true rfl, Nat.le_of_ble_eq_true rfl⟩ 0 8 rfl rfl rfl hl.1 rfl (Nat.le_of_ble_eq_true rfl) dL_law_733 ⟨Nat.le_of_ble_eq_true rfl, Nat.le_of_ble_eq_true rfl⟩) (rep_pre _ _ _ rfl (show ∀ k ∈ _, k < 31 by decide)) (fun H locs hP hS => ?_)
                                                    refine lv_aload_n hx hb dL_law_736 rfl (lv_at hl 2 rfl) ?_
                                                    refine lv_aload_n hx hb dL_law_737 rfl (lv_at hl 0 rfl) ?_
                                                    refine lv_iload_n hx hb dL_law_738 rfl (lv_at hl 3 rfl) ?_
                                                    refine lv_iconst (v := 1) hx hb dL_law_739 (by decide) ?_
                                                    refine lv_iadd hx hb dL_law_740 ?_
                                                    obtain ⟨hin, hM⟩ := if_ok hM
                                                    refine va_sld hx hb hX hbl hbA hS hin dL_law_741 ?_
                                                    obtain ⟨z742, hcr, hM⟩ := ob_s hM
                                                    refine res_i (ws' := (wX cI cC ax a18.1 z733.2.1 z733.2.2 a18.2.2.2.1 a18.2.2.2.2.1 a18.2.2.2.2.2.1 a18.2.2.2.2.2.2.1 a18.2.2.2.2.2.2.2.1 a18.2.2.2.2.2.2.2.2.1 a18.2.2.2.2.2.2.2.2.2.1 a18.2.2.2.2.2.2.2.2.2.2.1 a18.2.2.2.2.2.2.2.2.2.2.2.1 a18.2.2.2.2.2.2.2.2.2.2.2.2.1 ++ wM cI cZ am z742.2.1 a18.2.2.2.2.2.2.2.2.2.2.2.2.2.2.1 a18.2.2.2.2.2.2.2.2.2.2.2.2.2.2.2.1 a18.2.2.2.2.2.2.2.2.2.2.2.2.2.2.2.2.1 a18.2.2.2.2.2.2.2.2.2.2.2.2.2.2.2.2.2.1 a18.2.2.2.2.2.2.2.2.2.2.2.2.2.2.2.2.2.2.1 a18.2.2.2.2.2.2.2.2.2.2.2.2.2.2.2.2.2.2.2.1 a18.2.2.2.2.2.2.2.2.2.2.2.2.2.2.2.2.2.2.2.2.1 z742.2.2)) F hP hS rfl [31, 32, 33, 34, 35, 36, 37, 38, 39, 40, 41, 42, 43] rfl rfl (runV_of (n := 1) (As := [.int (xs (a18.2.2.2.2.2.2.2.2.2.2.2.2.2.2.2.2.2.2.2.2.2.2 + (1 : Int32)).toNatClampNeg)]) (rest := [.int z733.1]) F hP hS rfl [31, 32, 33, 34, 35, 36, 37, 38, 39, 40, 41, 42, 43] rfl rfl (c_X9_restore l dC dI cI cC cZ sa am a18.2.2.2.2.2.2.2.2.2.2.2.2.2.1 a18.2.2.2.2.2.2.2.2.2.2.2.2.2.2.1 a18.2.2.2.2.2.2.2.2.2.2.2.2.2.2.2.1 a18.2.2.2.2.2.2.2.2.2.2.2.2.2.2.2.2.1 a18.2.2.2.2.2.2.2.2.2.2.2.2.2.2.2.2.2.1 a18.2.2.2.2.2.2.2.2.2.2.2.2.2.2.2.2.2.2.1 a18.2.2.2.2.2.2.2.2.2.2.2.2.2.2.2.2.2.2.2.1 a18.2.2.2.2.2.2.2.2.2.2.2.2.2.2.2.2.2.2.2.2.1 a18.2.2.2.2.2.2.2.2.2.2.2.2.2.2.2.2.2.2.2.2.2.1 (xs (a18.2.2.2.2.2.2.2.2.2.2.2.2.2.2.2.2.2.2.2.2.2.2 + (1 : Int32)).toNatClampNeg) hcr _) gL_law_X9_restore rfl (by decide +kernel) ⟨Nat.le_of_ble_eq_true rfl, Nat.le_of_ble_eq_true rfl⟩ 31 9 rfl rfl rfl hl.1 rfl (Nat.le_of_ble_eq_true rfl) dL_law_742 ⟨Nat.le_of_ble_eq_true rfl, Nat.le_of_ble_eq_true rfl⟩) (rep_suf _ _ _ (show ∀ k ∈ _, 31 ≤ k by decide)) (fun H locs hP hS => ?_)
                                                    refine lv_icmp_eq (tgt := 773) hx hb dL_law_745 (by decide) (fun hc => ?_) (fun hc => ?_)
                                                    · have hM := if_pp hc hM
                                                      exact j773 (a18.1, z733.2.1, z733.2.2, a18.2.2.2.1, a18.2.2.2.2.1, a18.2.2.2.2.2.1, a18.2.2.2.2.2.2.1, a18.2.2.2.2.2.2.2.1, a18.2.2.2.2.2.2.2.2.1, a18.2.2.2.2.2.2.2.2.2.1, a18.2.2.2.2.2.2.2.2.2.2.1, a18.2.2.2.2.2.2.2.2.2.2.2.1, a18.2.2.2.2.2.2.2.2.2.2.2.2.1, z742.2.1, a18.2.2.2.2.2.2.2.2.2.2.2.2.2.2.1, a18.2.2.2.2.2.2.2.2.2.2.2.2.2.2.2.1, a18.2.2.2.2.2.2.2.2.2.2.2.2.2.2.2.2.1, a18.2.2.2.2.2.2.2.2.2.2.2.2.2.2.2.2.2.1, a18.2.2.2.2.2.2.2.2.2.2.2.2.2.2.2.2.2.2.1, a18.2.2.2.2.2.2.2.2.2.2.2.2.2.2.2.2.2.2.2.1, a18.2.2.2.2.2.2.2.2.2.2.2.2.2.2.2.2.2.2.2.2.1, z742.2.2, a18.2.2.2.2.2.2.2.2.2.2.2.2.2.2.2.2.2.2.2.2.2.2) _ _ _ hP hS (lv_sub hl [0, 1, 2, 3] rfl) hM
                                                    · have hM := if_nn hc hM
                                                      refine lv_iconst (v := 0) hx hb dL_law_748 (by decide) ?_
                                                      exact no_s hM
                                                  · have hM := if_nn hc22 hM
                                                    by_cases hc23 : ((xs a18.2.2.2.2.2.2.2.2.2.2.2.2.2.2.2.2.2.2.2.2.2.2.toNatClampNeg) &&& (31 : Int32)) = (23 : Int32)
                                                    · have hM := if_pp hc23 hM
                                                      refine lv_tableIn (off := 718) (tgt := 750) hx hb dL_law_32 (by rw [hc23]; decide) (by rw [hc23]; decide) (by rw [hc23]; rfl) (by decide) ?_
                                                      refine lv_aload_n hx hb dL_law_750 rfl (lv_at hl 1 rfl) ?_
                                                      refine lv_aload_n hx hb dL_law_751 rfl (lv_at hl 0 rfl) ?_
                                                      refine lv_iload_n hx hb dL_law_752 rfl (lv_at hl 3 rfl) ?_
                                                      refine lv_iconst (v := 1) hx hb dL_law_753 (by decide) ?_
                                                      refine lv_iadd hx hb dL_law_754 ?_
                                                      obtain ⟨hin, hM⟩ := if_ok hM
                                                      refine va_sld hx hb hX hbl hbA hS hin dL_law_755 ?_
                                                      obtain ⟨z756, hcr, hM⟩ := ob_s hM
                                                      refine res_i0 F hP hS rfl [0, 1, 2, 3, 4, 5, 6, 7, 8, 9, 10, 11, 12, 13, 14, 15, 16, 17, 18, 19, 20, 21, 22, 23, 24, 25, 26, 27, 28, 29, 30] rfl rfl (runV_of (n := 1) (As := [.int (xs (a18.2.2.2.2.2.2.2.2.2.2.2.2.2.2.2.2.2.2.2.2.2.2 + (1 : Int32)).toNatClampNeg)]) (rest := []) F hP hS rfl [0, 1, 2, 3, 4, 5, 6, 7, 8, 9, 10, 11, 12, 13, 14, 15, 16, 17, 18, 19, 20, 21, 22, 23, 24, 25, 26, 27, 28, 29, 30] rfl rfl (c_X8_told l dC dI cI cC cZ sa ax a18.1 a18.2.1 a18.2.2.1 a18.2.2.2.1 a18.2.2.2.2.1 a18.2.2.2.2.2.1 a18.2.2.2.2.2.2.1 a18.2.2.2.2.2.2.2.1 a18.2.2.2.2.2.2.2.2.1 a18.2.2.2.2.2.2.2.2.2.1 a18.2.2.2.2.2.2.2.2.2.2.1 a18.2.2.2.2.2.2.2.2.2.2.2.1 a18.2.2.2.2.2.2.2.2.2.2.2.2.1 (xs (a18.2.2.2.2.2.2.2.2.2.2.2.2.2.2.2.2.2.2.2.2.2.2 + (1 : Int32)).toNatClampNeg) hcr _) gL_law_X8_told rfl (by decide +kernel) ⟨Nat.le_of_ble_eq_true rfl, Nat.le_of_ble_eq_true rfl⟩ 0 8 rfl rfl rfl hl.1 rfl (Nat.le_of_ble_eq_true rfl) dL_law_756 ⟨Nat.le_of_ble_eq_true rfl, Nat.le_of_ble_eq_true rfl⟩) (fun H locs hP hS => ?_)
                                                      refine lv_aload_n hx hb dL_law_759 rfl (lv_at hl 2 rfl) ?_
                                                      refine lv_aload_n hx hb dL_law_760 rfl (lv_at hl 0 rfl) ?_
                                                      refine lv_iload_n hx hb dL_law_761 rfl (lv_at hl 3 rfl) ?_
                                                      refine lv_iconst (v := 1) hx hb dL_law_762 (by decide) ?_
                                                      refine lv_iadd hx hb dL_law_763 ?_
                                                      obtain ⟨hin, hM⟩ := if_ok hM
                                                      refine va_sld hx hb hX hbl hbA hS hin dL_law_764 ?_
                                                      obtain ⟨z765, hcr, hM⟩ := ob_s hM
                                                      refine res_i0 F hP hS rfl [31, 32, 33, 34, 35, 36, 37, 38, 39, 40, 41, 42, 43] rfl rfl (runV_of (n := 1) (As := [.int (xs (a18.2.2.2.2.2.2.2.2.2.2.2.2.2.2.2.2.2.2.2.2.2.2 + (1 : Int32)).toNatClampNeg)]) (rest := [.int z756]) F hP hS rfl [31, 32, 33, 34, 35, 36, 37, 38, 39, 40, 41, 42, 43] rfl rfl (c_X9_told l dC dI cI cC cZ sa am a18.2.2.2.2.2.2.2.2.2.2.2.2.2.1 a18.2.2.2.2.2.2.2.2.2.2.2.2.2.2.1 a18.2.2.2.2.2.2.2.2.2.2.2.2.2.2.2.1 a18.2.2.2.2.2.2.2.2.2.2.2.2.2.2.2.2.1 a18.2.2.2.2.2.2.2.2.2.2.2.2.2.2.2.2.2.1 a18.2.2.2.2.2.2.2.2.2.2.2.2.2.2.2.2.2.2.1 a18.2.2.2.2.2.2.2.2.2.2.2.2.2.2.2.2.2.2.2.1 a18.2.2.2.2.2.2.2.2.2.2.2.2.2.2.2.2.2.2.2.2.1 a18.2.2.2.2.2.2.2.2.2.2.2.2.2.2.2.2.2.2.2.2.2.1 (xs (a18.2.2.2.2.2.2.2.2.2.2.2.2.2.2.2.2.2.2.2.2.2.2 + (1 : Int32)).toNatClampNeg) hcr _) gL_law_X9_told rfl (by decide +kernel) ⟨Nat.le_of_ble_eq_true rfl, Nat.le_of_ble_eq_true rfl⟩ 31 9 rfl rfl rfl hl.1 rfl (Nat.le_of_ble_eq_true rfl) dL_law_765 ⟨Nat.le_of_ble_eq_true rfl, Nat.le_of_ble_eq_true rfl⟩) (fun H locs hP hS => ?_)
                                                      refine lv_icmp_eq (tgt := 773) hx hb dL_law_768 (by decide) (fun hc => ?_) (fun hc => ?_)
                                                      · have hM := if_pp hc hM
                                                        exact j773 (a18.1, a18.2.1, a18.2.2.1, a18.2.2.2.1, a18.2.2.2.2.1, a18.2.2.2.2.2.1, a18.2.2.2.2.2.2.1, a18.2.2.2.2.2.2.2.1, a18.2.2.2.2.2.2.2.2.1, a18.2.2.2.2.2.2.2.2.2.1, a18.2.2.2.2.2.2.2.2.2.2.1, a18.2.2.2.2.2.2.2.2.2.2.2.1, a18.2.2.2.2.2.2.2.2.2.2.2.2.1, a18.2.2.2.2.2.2.2.2.2.2.2.2.2.1, a18.2.2.2.2.2.2.2.2.2.2.2.2.2.2.1, a18.2.2.2.2.2.2.2.2.2.2.2.2.2.2.2.1, a18.2.2.2.2.2.2.2.2.2.2.2.2.2.2.2.2.1, a18.2.2.2.2.2.2.2.2.2.2.2.2.2.2.2.2.2.1, a18.2.2.2.2.2.2.2.2.2.2.2.2.2.2.2.2.2.2.1, a18.2.2.2.2.2.2.2.2.2.2.2.2.2.2.2.2.2.2.2.1, a18.2.2.2.2.2.2.2.2.2.2.2.2.2.2.2.2.2.2.2.2.1, a18.2.2.2.2.2.2.2.2.2.2.2.2.2.2.2.2.2.2.2.2.2.1, a18.2.2.2.2.2.2.2.2.2.2.2.2.2.2.2.2.2.2.2.2.2.2) _ _ _ hP hS (lv_sub hl [0, 1, 2, 3] rfl) hM
                                                      · have hM := if_nn hc hM
                                                        refine lv_iconst (v := 0) hx hb dL_law_771 (by decide) ?_
                                                        exact no_s hM
                                                    · have hM := if_nn hc23 hM
                                                      have hn0 := lv_neT hc0 (a := 0) (by decide)
                                                      have hn1 := lv_neT hc1 (a := 1) (by decide)
                                                      have hn2 := lv_neT hc2 (a := 2) (by decide)
                                                      have hn3 := lv_neT hc3 (a := 3) (by decide)
                                                      have hn4 := lv_neT hc4 (a := 4) (by decide)
                                                      have hn5 := lv_neT hc5 (a := 5) (by decide)
                                                      have hn6 := lv_neT hc6 (a := 6) (by decide)
                                                      have hn7 := lv_neT hc7 (a := 7) (by decide)
                                                      have hn8 := lv_neT hc8 (a := 8) (by decide)
                                                      have hn9 := lv_neT hc9 (a := 9) (by decide)
                                                      have hn10 := lv_neT hc10 (a := 10) (by decide)
                                                      have hn11 := lv_neT hc11 (a := 11) (by decide)
                                                      have hn12 := lv_neT hc12 (a := 12) (by decide)
                                                      have hn13 := lv_neT hc13 (a := 13) (by decide)
                                                      have hn14 := lv_neT hc14 (a := 14) (by decide)
                                                      have hn15 := lv_neT hc15 (a := 15) (by decide)
                                                      have hn16 := lv_neT hc16 (a := 16) (by decide)
                                                      have hn17 := lv_neT hc17 (a := 17) (by decide)
                                                      have hn18 := lv_neT hc18 (a := 18) (by decide)
                                                      have hn19 := lv_neT hc19 (a := 19) (by decide)
                                                      have hn20 := lv_neT hc20 (a := 20) (by decide)
                                                      have hn21 := lv_neT hc21 (a := 21) (by decide)
                                                      have hn22 := lv_neT hc22 (a := 22) (by decide)
                                                      have hn23 := lv_neT hc23 (a := 23) (by decide)
                                                      refine lv_tableOut (tgt := 773) hx hb dL_law_32 (by omega) (by decide) ?_
                                                      exact j773 (a18.1, a18.2.1, a18.2.2.1, a18.2.2.2.1, a18.2.2.2.2.1, a18.2.2.2.2.2.1, a18.2.2.2.2.2.2.1, a18.2.2.2.2.2.2.2.1, a18.2.2.2.2.2.2.2.2.1, a18.2.2.2.2.2.2.2.2.2.1, a18.2.2.2.2.2.2.2.2.2.2.1, a18.2.2.2.2.2.2.2.2.2.2.2.1, a18.2.2.2.2.2.2.2.2.2.2.2.2.1, a18.2.2.2.2.2.2.2.2.2.2.2.2.2.1, a18.2.2.2.2.2.2.2.2.2.2.2.2.2.2.1, a18.2.2.2.2.2.2.2.2.2.2.2.2.2.2.2.1, a18.2.2.2.2.2.2.2.2.2.2.2.2.2.2.2.2.1, a18.2.2.2.2.2.2.2.2.2.2.2.2.2.2.2.2.2.1, a18.2.2.2.2.2.2.2.2.2.2.2.2.2.2.2.2.2.2.1, a18.2.2.2.2.2.2.2.2.2.2.2.2.2.2.2.2.2.2.2.1, a18.2.2.2.2.2.2.2.2.2.2.2.2.2.2.2.2.2.2.2.2.1, a18.2.2.2.2.2.2.2.2.2.2.2.2.2.2.2.2.2.2.2.2.2.1, a18.2.2.2.2.2.2.2.2.2.2.2.2.2.2.2.2.2.2.2.2.2.2) _ _ _ hP hS (lv_sub hl [0, 1, 2, 3] rfl) hM
  exact j18 200 (p, h, v, k1, h1, v1, k2, h2, v2, r, d, y, q, mb, mo, mn, mg, mf, mt, mz, ml, mi, (0 : Int32)) _ _ _ hP hS hl hM
