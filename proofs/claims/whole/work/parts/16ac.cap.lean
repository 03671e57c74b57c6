/-! Walks, printed by wip/whole/gen.py -/
theorem inX8_bareWith_X8 : ∀ w ∈ wsX80, w ∈ wsX8_bareWith := fun w h => List.mem_cons_of_mem _ (List.mem_append_left _ (List.mem_append_right _ h))
set_option maxHeartbeats 4000000 in
set_option maxRecDepth 100000 in
theorem c_X8_bareWith (l : Launch) (dC : Nat → ClassId) (dI : Nat → Nat → Nat) (cI cC cZ : ClassId) (sa : Nat → Nat) (ad : Nat → Nat) (p : PT) (h : HT) (v : VT) (k1 : Int32) (h1 : HT) (v1 : VT) (k2 : Int32) (h2 : HT) (v2 : VT) (r : RT) (d : DT) (y : YT) (q : QT) (x1 : Int32) (x2 : Int32) {res : Int32} (hM : M_X8_bareWith h x1 x2 = some res) : CTi l (dC, dI) [(cI, .int), (cC, .char), (cZ, .boolean)] sa yX8_bareWith wsX8_bareWith (rmd 5) [.ref (ad 0), .int x1, .int x2] (wX cI cC ad p h v k1 h1 v1 k2 h2 v2 r d y q) (fun (_ : Unit) => (wX cI cC ad p h v k1 h1 v1 k2 h2 v2 r d y q)) (res, ()) := by
  refine CTi.enter (own := RX8) (cc := cX8_bareWith) (maxL := 3) (ret := (some .int)) (by decide) rfl rfl (Nat.le_of_ble_eq_true rfl) ?_
  intro pr e s m below meth c A F hr hlk hP hS ls hl
  obtain ⟨⟨hx, hb, hml, hown, hts⟩, hK, hDD, hA, hKC⟩ := id F
  have hl : lv_has ls 3 [(0, .ref (ad 0)), (1, .int x1), (2, .int x2)] := hl
  have hP : va_P (dC, dI) vwCl (wX cI cC ad p h v k1 h1 v1 k2 h2 v2 r d y q) s.heap := hP
  unfold M_X8_bareWith at hM
  refine lv_iload_n hx hb dX8_bareWith_0 rfl (lv_at hl 1 rfl) ?_
  refine lv_aload_n hx hb dX8_bareWith_1 rfl (lv_at hl 0 rfl) ?_
  refine g_get (ci := 8) (C := RX8) (T := TX8) (N := 8) (v := .ref (ad 3)) F hP 0 rfl rfl inX8_bareWith_X8 1 (by decide) (List.mem_of_getElem? (i := 1) rfl) rfl dX8_bareWith_2 ?_
  refine lv_iload_n hx hb dX8_bareWith_5 rfl (lv_at hl 2 rfl) ?_
  refine lv_iconst (v := 4) hx hb dX8_bareWith_6 (by decide) ?_
  obtain ⟨hne, hM⟩ := if_ok hM
  refine lv_idiv hx hb dX8_bareWith_7 hne ?_
  refine lv_iload_n hx hb dX8_bareWith_8 rfl (lv_at hl 2 rfl) ?_
  refine lv_iconst (v := 4) hx hb dX8_bareWith_9 (by decide) ?_
  obtain ⟨hne, hM⟩ := if_ok hM
  refine lv_irem hx hb dX8_bareWith_10 hne ?_
  refine lv_iconst (v := 0) hx hb dX8_bareWith_11 (by decide) ?_
  obtain ⟨z12, hcr, hM⟩ := ob_s hM
  refine res_i0 F hP hS rfl [3, 4, 5, 6, 7] rfl rfl (runV_of (n := 3) (As := [.int (x2 / (4 : Int32)), .int (x2 - x2 / (4 : Int32) * (4 : Int32)), .int (0 : Int32)]) (rest := [.int x1]) F hP hS rfl [3, 4, 5, 6, 7] rfl rfl (c_X0_spoiledFrom l dC dI cI cC cZ sa (ad 3) (ad 4) (ad 5) (ad 6) (ad 7) h v (x2 / (4 : Int32)) (x2 - x2 / (4 : Int32) * (4 : Int32)) (0 : Int32) hcr _) gX8_bareWith_X0_spoiledFrom rfl (by decide +kernel) ⟨Nat.le_of_ble_eq_true rfl, Nat.le_of_ble_eq_true rfl⟩ 3 0 rfl rfl rfl hl.1 rfl (Nat.le_of_ble_eq_true rfl) dX8_bareWith_12 ⟨Nat.zero_le _, Nat.zero_le _⟩) (fun H locs hP hS => ?_)
  refine lv_iconst (v := -1) hx hb dX8_bareWith_15 (by decide) ?_
  refine lv_ixor hx hb dX8_bareWith_16 ?_
  refine lv_iand hx hb dX8_bareWith_17 ?_
  obtain ⟨z18, hcr, hM⟩ := ob_s hM
  refine res_i0 F hP hS rfl [] rfl rfl (runS_of (n := 1) (As := [.int (x1 &&& (z12 ^^^ (-1 : Int32)))]) (rest := []) F hP hS rfl [] rfl rfl (c_J6_bitCount_0f7a4 l dC dI cI cC cZ sa (x1 &&& (z12 ^^^ (-1 : Int32))) hcr _) gX8_bareWith_J6_bitCount_0f7a4 rfl (by decide +kernel) ⟨Nat.le_of_ble_eq_true rfl, Nat.le_of_ble_eq_true rfl⟩ rfl hl.1 rfl (Nat.le_of_ble_eq_true rfl) dX8_bareWith_18 ⟨Nat.zero_le _, Nat.zero_le _⟩) (fun H locs hP hS => ?_)
  exact ret_i hx hb hr hlk dX8_bareWith_21 (some_u hM) hP hS
