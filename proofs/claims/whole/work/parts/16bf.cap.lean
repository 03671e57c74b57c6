/-! Walks, printed by wip/whole/gen.py -/
theorem inX8_wipe_X8 : ∀ w ∈ wsX80, w ∈ wsX8_wipe := fun w h => List.mem_cons_of_mem _ (List.mem_append_left _ (List.mem_append_right _ h))
set_option maxHeartbeats 4000000 in
set_option maxRecDepth 100000 in
theorem c_X8_wipe (l : Launch) (dC : Nat → ClassId) (dI : Nat → Nat → Nat) (cI cC cZ : ClassId) (sa : Nat → Nat) (ad : Nat → Nat) (p : PT) (h : HT) (v : VT) (k1 : Int32) (h1 : HT) (v1 : VT) (k2 : Int32) (h2 : HT) (v2 : VT) (r : RT) (d : DT) (y : YT) (q : QT)  {res : Int32 × PT} (hM : M_X8_wipe p = some res) : CTi l (dC, dI) [(cI, .int), (cC, .char), (cZ, .boolean)] sa yX8_wipe wsX8_wipe (rmd 2) [.ref (ad 0)] (wX cI cC ad p h v k1 h1 v1 k2 h2 v2 r d y q) (fun (uu : PT) => (wX cI cC ad uu h v k1 h1 v1 k2 h2 v2 r d y q)) res := by
  refine CTi.enter (own := RX8) (cc := cX8_wipe) (maxL := 1) (ret := (some .int)) (by decide) rfl rfl (Nat.le_of_ble_eq_true rfl) ?_
  intro pr e s m below meth c A F hr hlk hP hS ls hl
  obtain ⟨⟨hx, hb, hml, hown, hts⟩, hK, hDD, hA, hKC⟩ := id F
  have hl : lv_has ls 1 [(0, .ref (ad 0))] := hl
  have hP : va_P (dC, dI) vwCl (wX cI cC ad p h v k1 h1 v1 k2 h2 v2 r d y q) s.heap := hP
  unfold M_X8_wipe at hM
  refine lv_aload_n hx hb dX8_wipe_0 rfl (lv_at hl 0 rfl) ?_
  refine g_get (ci := 8) (C := RX8) (T := TX8) (N := 8) (v := .ref (ad 1)) F hP 0 rfl rfl inX8_wipe_X8 0 (by decide) (List.mem_of_getElem? (i := 1) rfl) rfl dX8_wipe_1 ?_
  obtain ⟨z4, hcr, hM⟩ := ob_s hM
  refine res_i (ws' := (wX cI cC ad z4.2 h v k1 h1 v1 k2 h2 v2 r d y q)) F hP hS rfl [1, 2] rfl rfl (runV_of (n := 0) (As := []) (rest := []) F hP hS rfl [1, 2] rfl rfl (c_X2_clear l dC dI cI cC cZ sa (ad 1) (ad 2) p hcr _) gX8_wipe_X2_clear rfl (by decide +kernel) ⟨Nat.le_of_ble_eq_true rfl, Nat.le_of_ble_eq_true rfl⟩ 1 2 rfl rfl rfl hl.1 rfl (Nat.le_of_ble_eq_true rfl) dX8_wipe_4 ⟨Nat.zero_le _, Nat.zero_le _⟩) (rep_pt rfl rfl rfl) (fun H locs hP hS => ?_)
  exact ret_i hx hb hr hlk dX8_wipe_7 hM hP hS
