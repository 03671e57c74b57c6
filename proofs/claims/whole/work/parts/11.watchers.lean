/-! Walks, printed by wip/whole/gen.py -/
theorem inX4_cellOfOne_X4 : ∀ w ∈ wsX40, w ∈ wsX4_cellOfOne := fun w h => List.mem_cons_of_mem _ (List.mem_append_right _ h)
set_option maxHeartbeats 4000000 in
set_option maxRecDepth 100000 in
theorem c_X4_cellOfOne (l : Launch) (dC : Nat → ClassId) (dI : Nat → Nat → Nat) (cI cC cZ : ClassId) (sa : Nat → Nat) (v0 v1 v2 v3 : Nat) (v : VT) (x1 : Int32) {res : Int32} (hM : M_X4_cellOfOne v x1 = some res) : CTi l (dC, dI) [(cI, .int), (cC, .char), (cZ, .boolean)] sa yX4_cellOfOne wsX4_cellOfOne (rmd 2) [.ref v0, .int x1] (wWat cI v0 v1 v2 v3 v) (fun (_ : Unit) => (wWat cI v0 v1 v2 v3 v)) (res, ()) := by
  refine CTi.enter (own := RX4) (cc := cX4_cellOfOne) (maxL := 2) (ret := (some .int)) (by decide) rfl rfl (Nat.le_of_ble_eq_true rfl) ?_
  intro pr e s m below meth c A F hr hlk hP hS ls hl
  obtain ⟨⟨hx, hb, hml, hown, hts⟩, hK, hDD, hA, hKC⟩ := id F
  have hl : lv_has ls 2 [(0, .ref v0), (1, .int x1)] := hl
  have hP : va_P (dC, dI) vwCl (wWat cI v0 v1 v2 v3 v) s.heap := hP
  unfold M_X4_cellOfOne at hM
  refine lv_aload_n hx hb dX4_cellOfOne_0 rfl (lv_at hl 0 rfl) ?_
  refine g_get (ci := 4) (C := RX4) (T := TX4) (N := 4) (v := .ref v1) F hP 0 rfl rfl inX4_cellOfOne_X4 0 (by decide) (List.mem_of_getElem? (i := 1) rfl) rfl dX4_cellOfOne_1 ?_
  refine lv_iload_n hx hb dX4_cellOfOne_4 rfl (lv_at hl 1 rfl) ?_
  obtain ⟨z5, hcr, hM⟩ := ob_s hM
  refine res_i0 F hP hS rfl [1] rfl rfl (runN_of (n := 2) (As := [.ref v1, .int x1]) (rest := []) F hP hS rfl [1] rfl rfl (c_X8_at l dC dI cI cC cZ sa v1 4 v.2.1 x1 hcr _) gX4_cellOfOne_X8_at_n33 rfl 12 rfl (hts _ (List.mem_of_getElem? (i := 3) rfl)) (hts _ (List.mem_of_getElem? (i := 2) rfl)) (by decide +kernel) ⟨Nat.le_of_ble_eq_true rfl, Nat.le_of_ble_eq_true rfl⟩ rfl hl.1 rfl (Nat.le_of_ble_eq_true rfl) dX4_cellOfOne_5 ⟨Nat.zero_le _, Nat.zero_le _⟩) (fun H locs hP hS => ?_)
  exact ret_i hx hb hr hlk dX4_cellOfOne_8 (some_u hM) hP hS
theorem inX4_lookingOf_X4 : ∀ w ∈ wsX40, w ∈ wsX4_lookingOf := fun w h => List.mem_cons_of_mem _ (List.mem_append_right _ h)
set_option maxHeartbeats 4000000 in
set_option maxRecDepth 100000 in
theorem c_X4_lookingOf (l : Launch) (dC : Nat → ClassId) (dI : Nat → Nat → Nat) (cI cC cZ : ClassId) (sa : Nat → Nat) (v0 v1 v2 v3 : Nat) (v : VT) (x1 : Int32) {res : Int32} (hM : M_X4_lookingOf v x1 = some res) : CTi l (dC, dI) [(cI, .int), (cC, .char), (cZ, .boolean)] sa yX4_lookingOf wsX4_lookingOf (rmd 2) [.ref v0, .int x1] (wWat cI v0 v1 v2 v3 v) (fun (_ : Unit) => (wWat cI v0 v1 v2 v3 v)) (res, ()) := by
  refine CTi.enter (own := RX4) (cc := cX4_lookingOf) (maxL := 2) (ret := (some .int)) (by decide) rfl rfl (Nat.le_of_ble_eq_true rfl) ?_
  intro pr e s m below meth c A F hr hlk hP hS ls hl
  obtain ⟨⟨hx, hb, hml, hown, hts⟩, hK, hDD, hA, hKC⟩ := id F
  have hl : lv_has ls 2 [(0, .ref v0), (1, .int x1)] := hl
  have hP : va_P (dC, dI) vwCl (wWat cI v0 v1 v2 v3 v) s.heap := hP
  unfold M_X4_lookingOf at hM
  refine lv_aload_n hx hb dX4_lookingOf_0 rfl (lv_at hl 0 rfl) ?_
  refine g_get (ci := 4) (C := RX4) (T := TX4) (N := 4) (v := .ref v2) F hP 0 rfl rfl inX4_lookingOf_X4 1 (by decide) (List.mem_of_getElem? (i := 1) rfl) rfl dX4_lookingOf_1 ?_
  refine lv_iload_n hx hb dX4_lookingOf_4 rfl (lv_at hl 1 rfl) ?_
  obtain ⟨z5, hcr, hM⟩ := ob_s hM
  refine res_i0 F hP hS rfl [2] rfl rfl (runN_of (n := 2) (As := [.ref v2, .int x1]) (rest := []) F hP hS rfl [2] rfl rfl (c_X8_at l dC dI cI cC cZ sa v2 4 v.2.2.1 x1 hcr _) gX4_lookingOf_X8_at_n33 rfl 12 rfl (hts _ (List.mem_of_getElem? (i := 3) rfl)) (hts _ (List.mem_of_getElem? (i := 2) rfl)) (by decide +kernel) ⟨Nat.le_of_ble_eq_true rfl, Nat.le_of_ble_eq_true rfl⟩ rfl hl.1 rfl (Nat.le_of_ble_eq_true rfl) dX4_lookingOf_5 ⟨Nat.zero_le _, Nat.zero_le _⟩) (fun H locs hP hS => ?_)
  exact ret_i hx hb hr hlk dX4_lookingOf_8 (some_u hM) hP hS
theorem inX4_hasDog_X4 : ∀ w ∈ wsX40, w ∈ wsX4_hasDog := fun w h => List.mem_cons_of_mem _ (List.mem_append_right _ h)
set_option maxHeartbeats 4000000 in
set_option maxRecDepth 100000 in
theorem c_X4_hasDog (l : Launch) (dC : Nat → ClassId) (dI : Nat → Nat → Nat) (cI cC cZ : ClassId) (sa : Nat → Nat) (v0 v1 v2 v3 : Nat) (v : VT) (x1 : Int32) {res : Int32} (hM : M_X4_hasDog v x1 = some res) : CTi l (dC, dI) [(cI, .int), (cC, .char), (cZ, .boolean)] sa yX4_hasDog wsX4_hasDog (rmd 2) [.ref v0, .int x1] (wWat cI v0 v1 v2 v3 v) (fun (_ : Unit) => (wWat cI v0 v1 v2 v3 v)) (res, ()) := by
  refine CTi.enter (own := RX4) (cc := cX4_hasDog) (maxL := 2) (ret := (some .boolean)) (by decide) rfl rfl (Nat.le_of_ble_eq_true rfl) ?_
  intro pr e s m below meth c A F hr hlk hP hS ls hl
  obtain ⟨⟨hx, hb, hml, hown, hts⟩, hK, hDD, hA, hKC⟩ := id F
  have hl : lv_has ls 2 [(0, .ref v0), (1, .int x1)] := hl
  have hP : va_P (dC, dI) vwCl (wWat cI v0 v1 v2 v3 v) s.heap := hP
  unfold M_X4_hasDog at hM
  refine lv_aload_n hx hb dX4_hasDog_0 rfl (lv_at hl 0 rfl) ?_
  refine g_get (ci := 4) (C := RX4) (T := TX4) (N := 4) (v := .ref v3) F hP 0 rfl rfl inX4_hasDog_X4 2 (by decide) (List.mem_of_getElem? (i := 1) rfl) rfl dX4_hasDog_1 ?_
  refine lv_iload_n hx hb dX4_hasDog_4 rfl (lv_at hl 1 rfl) ?_
  obtain ⟨z5, hcr, hM⟩ := ob_s hM
  refine res_i0 F hP hS rfl [3] rfl rfl (runN_of (n := 2) (As := [.ref v3, .int x1]) (rest := []) F hP hS rfl [3] rfl rfl (c_X8_at l dC dI cI cC cZ sa v3 4 v.2.2.2 x1 hcr _) gX4_hasDog_X8_at_n33 rfl 12 rfl (hts _ (List.mem_of_getElem? (i := 3) rfl)) (hts _ (List.mem_of_getElem? (i := 2) rfl)) (by decide +kernel) ⟨Nat.le_of_ble_eq_true rfl, Nat.le_of_ble_eq_true rfl⟩ rfl hl.1 rfl (Nat.le_of_ble_eq_true rfl) dX4_hasDog_5 ⟨Nat.zero_le _, Nat.zero_le _⟩) (fun H locs hP hS => ?_)
  refine lv_iconst (v := 1) hx hb dX4_hasDog_8 (by decide) ?_
  refine lv_icmp_ne (tgt := 16) hx hb dX4_hasDog_9 (by decide) (fun hc => ?_) (fun hc => ?_)
  · have hM := if_nn hc hM
    refine lv_iconst (v := 0) hx hb dX4_hasDog_16 (by decide) ?_
    exact ret_z hx hb hr hlk dX4_hasDog_17 (by decide) (some_u hM) hP hS
  · have hM := if_pp hc hM
    refine lv_iconst (v := 1) hx hb dX4_hasDog_12 (by decide) ?_
    refine lv_goto (tgt := 17) hx hb dX4_hasDog_13 (by decide) ?_
    exact ret_z hx hb hr hlk dX4_hasDog_17 (by decide) (some_u hM) hP hS
theorem inX4_clear_X4 : ∀ w ∈ wsX40, w ∈ wsX4_clear := fun w h => List.mem_cons_of_mem _ (List.mem_append_right _ h)
set_option maxHeartbeats 4000000 in
set_option maxRecDepth 100000 in
theorem c_X4_clear (l : Launch) (dC : Nat → ClassId) (dI : Nat → Nat → Nat) (cI cC cZ : ClassId) (sa : Nat → Nat) (v0 v1 v2 v3 : Nat) (v : VT)  {res : Int32 × VT} (hM : M_X4_clear v = some res) : CTi l (dC, dI) [(cI, .int), (cC, .char), (cZ, .boolean)] sa yX4_clear wsX4_clear (rmd 1) [.ref v0] (wWat cI v0 v1 v2 v3 v) (fun (uu : VT) => (wWat cI v0 v1 v2 v3 uu)) res := by
  refine CTi.enter (own := RX4) (cc := cX4_clear) (maxL := 2) (ret := (some .int)) (by decide) rfl rfl (Nat.le_of_ble_eq_true rfl) ?_
  intro pr e s m below meth c A F hr hlk hP hS ls hl
  obtain ⟨⟨hx, hb, hml, hown, hts⟩, hK, hDD, hA, hKC⟩ := id F
  have hl : lv_has ls 2 [(0, .ref v0)] := hl
  have hP : va_P (dC, dI) vwCl (wWat cI v0 v1 v2 v3 v) s.heap := hP
  unfold M_X4_clear at hM
  refine lv_aload_n hx hb dX4_clear_0 rfl (lv_at hl 0 rfl) ?_
  refine g_get (ci := 4) (C := RX4) (T := TX4) (N := 4) (v := .int v.1) F hP 0 rfl rfl inX4_clear_X4 3 (by decide) (List.mem_of_getElem? (i := 1) rfl) rfl dX4_clear_1 ?_
  refine lv_istore_n (lv' := [(1, .int v.1), (0, .ref v0)]) hx hb dX4_clear_4 rfl hl (by decide) rfl (fun ls hl => ?_)
  refine lv_aload_n hx hb dX4_clear_5 rfl (lv_at hl 1 rfl) ?_
  refine lv_iconst (v := 0) hx hb dX4_clear_6 (by decide) ?_
  refine g_put (ws' := (wWat cI v0 v1 v2 v3 ((0 : Int32), v.2.1, v.2.2.1, v.2.2.2))) (ci := 4) (C := RX4) (T := TX4) (N := 4) (v := .int (0 : Int32)) (ty := .int) F hP hS rfl tyX4 tyX4_ok nmX4 0 rfl rfl inX4_clear_X4 3 (by decide) (List.mem_of_getElem? (i := 1) rfl) rfl (by decide +kernel) rfl rfl (Nat.le_of_ble_eq_true rfl) dX4_clear_7 rfl (fun H locs hP hS => ?_)
  refine lv_iload_n hx hb dX4_clear_10 rfl (lv_at hl 0 rfl) ?_
  exact ret_i hx hb hr hlk dX4_clear_11 hM hP hS
theorem inX4_isFull_X4 : ∀ w ∈ wsX40, w ∈ wsX4_isFull := fun w h => List.mem_cons_of_mem _ (List.mem_append_right _ h)
set_option maxHeartbeats 4000000 in
set_option maxRecDepth 100000 in
theorem c_X4_isFull (l : Launch) (dC : Nat → ClassId) (dI : Nat → Nat → Nat) (cI cC cZ : ClassId) (sa : Nat → Nat) (v0 v1 v2 v3 : Nat) (v : VT)  {res : Int32} (hM : M_X4_isFull v = some res) : CTi l (dC, dI) [(cI, .int), (cC, .char), (cZ, .boolean)] sa yX4_isFull wsX4_isFull (rmd 1) [.ref v0] (wWat cI v0 v1 v2 v3 v) (fun (_ : Unit) => (wWat cI v0 v1 v2 v3 v)) (res, ()) := by
  refine CTi.enter (own := RX4) (cc := cX4_isFull) (maxL := 1) (ret := (some .boolean)) (by decide) rfl rfl (Nat.le_of_ble_eq_true rfl) ?_
  intro pr e s m below meth c A F hr hlk hP hS ls hl
  obtain ⟨⟨hx, hb, hml, hown, hts⟩, hK, hDD, hA, hKC⟩ := id F
  have hl : lv_has ls 1 [(0, .ref v0)] := hl
  have hP : va_P (dC, dI) vwCl (wWat cI v0 v1 v2 v3 v) s.heap := hP
  unfold M_X4_isFull at hM
  refine lv_aload_n hx hb dX4_isFull_0 rfl (lv_at hl 0 rfl) ?_
  refine g_get (ci := 4) (C := RX4) (T := TX4) (N := 4) (v := .int v.1) F hP 0 rfl rfl inX4_isFull_X4 3 (by decide) (List.mem_of_getElem? (i := 1) rfl) rfl dX4_isFull_1 ?_
  refine lv_iconst (v := 4) hx hb dX4_isFull_4 (by decide) ?_
  refine lv_icmp_lt (tgt := 12) hx hb dX4_isFull_5 (by decide) (fun hc => ?_) (fun hc => ?_)
  · have hM := if_pp hc hM
    refine lv_iconst (v := 0) hx hb dX4_isFull_12 (by decide) ?_
    exact ret_z hx hb hr hlk dX4_isFull_13 (by decide) (some_u hM) hP hS
  · have hM := if_nn hc hM
    refine lv_iconst (v := 1) hx hb dX4_isFull_8 (by decide) ?_
    refine lv_goto (tgt := 13) hx hb dX4_isFull_9 (by decide) ?_
    exact ret_z hx hb hr hlk dX4_isFull_13 (by decide) (some_u hM) hP hS
theorem inX4_add_X4 : ∀ w ∈ wsX40, w ∈ wsX4_add := fun w h => List.mem_cons_of_mem _ (List.mem_append_right _ h)
set_option maxHeartbeats 4000000 in
set_option maxRecDepth 100000 in
theorem c_X4_add (l : Launch) (dC : Nat → ClassId) (dI : Nat → Nat → Nat) (cI cC cZ : ClassId) (sa : Nat → Nat) (v0 v1 v2 v3 : Nat) (v : VT) (x1 : Int32) (x2 : Int32) (x3 : Int32) {res : Int32 × VT} (hM : M_X4_add v x1 x2 x3 = some res) : CTi l (dC, dI) [(cI, .int), (cC, .char), (cZ, .boolean)] sa yX4_add wsX4_add (rmd 2) [.ref v0, .int x1, .int x2, .int x3] (wWat cI v0 v1 v2 v3 v) (fun (uu : VT) => (wWat cI v0 v1 v2 v3 uu)) res := by
  refine CTi.enter (own := RX4) (cc := cX4_add) (maxL := 4) (ret := (some .boolean)) (by decide) rfl rfl (Nat.le_of_ble_eq_true rfl) ?_
  intro pr e s m below meth c A F hr hlk hP hS ls hl
  obtain ⟨⟨hx, hb, hml, hown, hts⟩, hK, hDD, hA, hKC⟩ := id F
  have hl : lv_has ls 4 [(0, .ref v0), (1, .int x1), (2, .int x2), (3, .int x3)] := hl
  have hP : va_P (dC, dI) vwCl (wWat cI v0 v1 v2 v3 v) s.heap := hP
  unfold M_X4_add at hM
  refine kblk (α := VT × Int32 × Int32) (res := res) (fun a => M_X4_add_50 x1 x2 x3 a) F (fun a => (wWat cI v0 v1 v2 v3 a.1)) (fun a => [(0, .ref v0)]) (fun a => [.int a.2.1, .int a.2.2, .ref v3]) 50 ?_ (fun j50 => ?_)
  · intro a50 H locs ls hP hS hl hM
    unfold M_X4_add_50 at hM
    obtain ⟨z50, hcr, hM⟩ := ob_s hM
    refine res_v (ws' := (wWat cI v0 v1 v2 v3 (a50.1.1, a50.1.2.1, a50.1.2.2.1, z50))) F hP hS rfl [3] rfl rfl (runN_of (n := 3) (As := [.ref v3, .int a50.2.2, .int a50.2.1]) (rest := []) F hP hS rfl [3] rfl rfl (c_X8_put l dC dI cI cC cZ sa v3 4 a50.1.2.2.2 a50.2.2 a50.2.1 hcr _) gX4_add_X8_put_n29 rfl 11 rfl (hts _ (List.mem_of_getElem? (i := 11) rfl)) (hts _ (List.mem_of_getElem? (i := 10) rfl)) (by decide +kernel) ⟨Nat.le_of_ble_eq_true rfl, Nat.le_of_ble_eq_true rfl⟩ rfl hl.1 rfl (Nat.le_of_ble_eq_true rfl) dX4_add_50 ⟨Nat.zero_le _, Nat.zero_le _⟩) (rep_pt rfl rfl rfl) (fun H locs hP hS => ?_)
    refine lv_aload_n hx hb dX4_add_53 rfl (lv_at hl 0 rfl) ?_
    refine lv_dup hx hb dX4_add_54 rfl ?_
    refine g_get (ci := 4) (C := RX4) (T := TX4) (N := 4) (v := .int a50.1.1) F hP 0 rfl rfl inX4_add_X4 3 (by decide) (List.mem_of_getElem? (i := 2) rfl) rfl dX4_add_55 ?_
    refine lv_iconst (v := 1) hx hb dX4_add_58 (by decide) ?_
    refine lv_iadd hx hb dX4_add_59 ?_
    refine g_put (ws' := (wWat cI v0 v1 v2 v3 ((a50.1.1 + (1 : Int32)), a50.1.2.1, a50.1.2.2.1, z50))) (ci := 4) (C := RX4) (T := TX4) (N := 4) (v := .int (a50.1.1 + (1 : Int32))) (ty := .int) F hP hS rfl tyX4 tyX4_ok nmX4 0 rfl rfl inX4_add_X4 3 (by decide) (List.mem_of_getElem? (i := 2) rfl) rfl (by decide +kernel) rfl rfl (Nat.le_of_ble_eq_true rfl) dX4_add_60 rfl (fun H locs hP hS => ?_)
    refine lv_iconst (v := 1) hx hb dX4_add_63 (by decide) ?_
    exact ret_z hx hb hr hlk dX4_add_64 (by decide) hM hP hS
  refine lv_aload_n hx hb dX4_add_0 rfl (lv_at hl 0 rfl) ?_
  obtain ⟨z1, hcr, hM⟩ := ob_s hM
  refine res_i0 F hP hS rfl [0, 1, 2, 3] rfl rfl (runV_of (n := 0) (As := []) (rest := []) F hP hS rfl [0, 1, 2, 3] rfl rfl (c_X4_isFull l dC dI cI cC cZ sa v0 v1 v2 v3 v hcr _) gX4_add_X4_isFull rfl (by decide +kernel) ⟨Nat.le_of_ble_eq_true rfl, Nat.le_of_ble_eq_true rfl⟩ 0 4 rfl rfl rfl hl.1 rfl (Nat.le_of_ble_eq_true rfl) dX4_add_1 ⟨Nat.zero_le _, Nat.zero_le _⟩) (fun H locs hP hS => ?_)
  refine lv_if_eq (tgt := 9) hx hb dX4_add_4 (by decide) (fun hc => ?_) (fun hc => ?_)
  · have hM := if_pp hc hM
    refine lv_aload_n hx hb dX4_add_9 rfl (lv_at hl 0 rfl) ?_
    refine g_get (ci := 4) (C := RX4) (T := TX4) (N := 4) (v := .ref v1) F hP 0 rfl rfl inX4_add_X4 0 (by decide) (List.mem_of_getElem? (i := 1) rfl) rfl dX4_add_10 ?_
    refine lv_aload_n hx hb dX4_add_13 rfl (lv_at hl 0 rfl) ?_
    refine g_get (ci := 4) (C := RX4) (T := TX4) (N := 4) (v := .int v.1) F hP 0 rfl rfl inX4_add_X4 3 (by decide) (List.mem_of_getElem? (i := 2) rfl) rfl dX4_add_14 ?_
    refine lv_iload_n hx hb dX4_add_17 rfl (lv_at hl 1 rfl) ?_
    obtain ⟨z18, hcr, hM⟩ := ob_s hM
    refine res_v (ws' := (wWat cI v0 v1 v2 v3 (v.1, z18, v.2.2.1, v.2.2.2))) F hP hS rfl [1] rfl rfl (runN_of (n := 3) (As := [.ref v1, .int v.1, .int x1]) (rest := []) F hP hS rfl [1] rfl rfl (c_X8_put l dC dI cI cC cZ sa v1 4 v.2.1 v.1 x1 hcr _) gX4_add_X8_put_n29 rfl 11 rfl (hts _ (List.mem_of_getElem? (i := 11) rfl)) (hts _ (List.mem_of_getElem? (i := 10) rfl)) (by decide +kernel) ⟨Nat.le_of_ble_eq_true rfl, Nat.le_of_ble_eq_true rfl⟩ rfl hl.1 rfl (Nat.le_of_ble_eq_true rfl) dX4_add_18 ⟨Nat.zero_le _, Nat.zero_le _⟩) (rep_pt rfl rfl rfl) (fun H locs hP hS => ?_)
    refine lv_aload_n hx hb dX4_add_21 rfl (lv_at hl 0 rfl) ?_
    refine g_get (ci := 4) (C := RX4) (T := TX4) (N := 4) (v := .ref v2) F hP 0 rfl rfl inX4_add_X4 1 (by decide) (List.mem_of_getElem? (i := 3) rfl) rfl dX4_add_22 ?_
    refine lv_aload_n hx hb dX4_add_25 rfl (lv_at hl 0 rfl) ?_
    refine g_get (ci := 4) (C := RX4) (T := TX4) (N := 4) (v := .int v.1) F hP 0 rfl rfl inX4_add_X4 3 (by decide) (List.mem_of_getElem? (i := 2) rfl) rfl dX4_add_26 ?_
    refine lv_iload_n hx hb dX4_add_29 rfl (lv_at hl 2 rfl) ?_
    obtain ⟨z30, hcr, hM⟩ := ob_s hM
    refine res_v (ws' := (wWat cI v0 v1 v2 v3 (v.1, z18, z30, v.2.2.2))) F hP hS rfl [2] rfl rfl (runN_of (n := 3) (As := [.ref v2, .int v.1, .int x2]) (rest := []) F hP hS rfl [2] rfl rfl (c_X8_put l dC dI cI cC cZ sa v2 4 v.2.2.1 v.1 x2 hcr _) gX4_add_X8_put_n29 rfl 11 rfl (hts _ (List.mem_of_getElem? (i := 11) rfl)) (hts _ (List.mem_of_getElem? (i := 10) rfl)) (by decide +kernel) ⟨Nat.le_of_ble_eq_true rfl, Nat.le_of_ble_eq_true rfl⟩ rfl hl.1 rfl (Nat.le_of_ble_eq_true rfl) dX4_add_30 ⟨Nat.zero_le _, Nat.zero_le _⟩) (rep_pt rfl rfl rfl) (fun H locs hP hS => ?_)
    refine lv_aload_n hx hb dX4_add_33 rfl (lv_at hl 0 rfl) ?_
    refine g_get (ci := 4) (C := RX4) (T := TX4) (N := 4) (v := .ref v3) F hP 0 rfl rfl inX4_add_X4 2 (by decide) (List.mem_of_getElem? (i := 4) rfl) rfl dX4_add_34 ?_
    refine lv_aload_n hx hb dX4_add_37 rfl (lv_at hl 0 rfl) ?_
    refine g_get (ci := 4) (C := RX4) (T := TX4) (N := 4) (v := .int v.1) F hP 0 rfl rfl inX4_add_X4 3 (by decide) (List.mem_of_getElem? (i := 2) rfl) rfl dX4_add_38 ?_
    refine lv_iload_n hx hb dX4_add_41 rfl (lv_at hl 3 rfl) ?_
    refine lv_if_eq (tgt := 49) hx hb dX4_add_42 (by decide) (fun hc => ?_) (fun hc => ?_)
    · have hM := if_pp hc hM
      refine lv_iconst (v := 0) hx hb dX4_add_49 (by decide) ?_
      exact j50 ((v.1, z18, z30, v.2.2.2), (0 : Int32), v.1) _ _ _ hP hS (lv_sub hl [0] rfl) hM
    · have hM := if_nn hc hM
      refine lv_iconst (v := 1) hx hb dX4_add_45 (by decide) ?_
      refine lv_goto (tgt := 50) hx hb dX4_add_46 (by decide) ?_
      exact j50 ((v.1, z18, z30, v.2.2.2), (1 : Int32), v.1) _ _ _ hP hS (lv_sub hl [0] rfl) hM
  · have hM := if_nn hc hM
    refine lv_iconst (v := 0) hx hb dX4_add_7 (by decide) ?_
    exact ret_z hx hb hr hlk dX4_add_8 (by decide) hM hP hS
theorem inX4_copyFrom_X4 : ∀ w ∈ wsX40, w ∈ wsX4_copyFrom := fun w h => List.mem_cons_of_mem _ (List.mem_append_right _ h)
set_option maxHeartbeats 4000000 in
set_option maxRecDepth 100000 in
theorem c_X4_copyFrom (l : Launch) (dC : Nat → ClassId) (dI : Nat → Nat → Nat) (cI cC cZ : ClassId) (sa : Nat → Nat) (v0 v1 v2 v3 u0 u1 u2 u3 : Nat) (v : VT) (u : VT)  {res : VT} (hM : M_X4_copyFrom v u = some res) : CTv l (dC, dI) [(cI, .int), (cC, .char), (cZ, .boolean)] sa yX4_copyFrom wsX4_copyFrom (rmd 3) [.ref v0, .ref u0] (wWat cI v0 v1 v2 v3 v ++ wWat cI u0 u1 u2 u3 u) (fun (uu : VT) => (wWat cI v0 v1 v2 v3 uu ++ wWat cI u0 u1 u2 u3 u)) res := by
  refine CTv.enter (own := RX4) (cc := cX4_copyFrom) (maxL := 3) (ret := none) (by decide) rfl rfl (Nat.le_of_ble_eq_true rfl) ?_
  intro pr e s m below meth c A F hr hlk hP hS ls hl
  obtain ⟨⟨hx, hb, hml, hown, hts⟩, hK, hDD, hA, hKC⟩ := id F
  have hl : lv_has ls 3 [(0, .ref v0), (1, .ref u0)] := hl
  have hP : va_P (dC, dI) vwCl (wWat cI v0 v1 v2 v3 v ++ wWat cI u0 u1 u2 u3 u) s.heap := hP
  unfold M_X4_copyFrom at hM
  refine kloop (α := VT × Int32) (res := res) (fun k a => M_X4_copyFrom_7 u k a) (fun rec a => M_X4_copyFrom_7b u rec a) (fun _ => rfl) (fun _ _ => rfl) F (fun a => (wWat cI v0 v1 v2 v3 a.1 ++ wWat cI u0 u1 u2 u3 u)) (fun a => [(0, .ref v0), (1, .ref u0), (2, .int a.2)]) (fun a => []) 7 ?_ (fun j7 => ?_)
  · intro rc7 ih7 a7 H locs ls hP hS hl hM
    unfold M_X4_copyFrom_7b at hM
    refine lv_iload_n hx hb dX4_copyFrom_7 rfl (lv_at hl 2 rfl) ?_
    refine lv_aload_n hx hb dX4_copyFrom_8 rfl (lv_at hl 1 rfl) ?_
    refine g_get (ci := 4) (C := RX4) (T := TX4) (N := 4) (v := .int u.1) F hP 4 rfl rfl inX4_copyFrom_X4 3 (by decide) (List.mem_of_getElem? (i := 1) rfl) rfl dX4_copyFrom_9 ?_
    refine lv_icmp_ge (tgt := 41) hx hb dX4_copyFrom_12 (by decide) (fun hc => ?_) (fun hc => ?_)
    · have hM := if_pp hc hM
      exact ret_v hx hb hr hlk dX4_copyFrom_41 hM hP hS
    · have hM := if_nn hc hM
      refine lv_aload_n hx hb dX4_copyFrom_15 rfl (lv_at hl 0 rfl) ?_
      refine lv_aload_n hx hb dX4_copyFrom_16 rfl (lv_at hl 1 rfl) ?_
      refine lv_iload_n hx hb dX4_copyFrom_17 rfl (lv_at hl 2 rfl) ?_
      obtain ⟨z18, hcr, hM⟩ := ob_s hM
      refine res_i0 F hP hS rfl [4, 5, 6, 7] rfl rfl (runV_of (n := 1) (As := [.int a7.2]) (rest := [.ref v0]) F hP hS rfl [4, 5, 6, 7] rfl rfl (c_X4_cellOfOne l dC dI cI cC cZ sa u0 u1 u2 u3 u a7.2 hcr _) gX4_copyFrom_X4_cellOfOne rfl (by decide +kernel) ⟨Nat.le_of_ble_eq_true rfl, Nat.le_of_ble_eq_true rfl⟩ 4 4 rfl rfl rfl hl.1 rfl (Nat.le_of_ble_eq_true rfl) dX4_copyFrom_18 ⟨Nat.zero_le _, Nat.zero_le _⟩) (fun H locs hP hS => ?_)
      refine lv_aload_n hx hb dX4_copyFrom_21 rfl (lv_at hl 1 rfl) ?_
      refine lv_iload_n hx hb dX4_copyFrom_22 rfl (lv_at hl 2 rfl) ?_
      obtain ⟨z23, hcr, hM⟩ := ob_s hM
      refine res_i0 F hP hS rfl [4, 5, 6, 7] rfl rfl (runV_of (n := 1) (As := [.int a7.2]) (rest := [.int z18, .ref v0]) F hP hS rfl [4, 5, 6, 7] rfl rfl (c_X4_lookingOf l dC dI cI cC cZ sa u0 u1 u2 u3 u a7.2 hcr _) gX4_copyFrom_X4_lookingOf rfl (by decide +kernel) ⟨Nat.le_of_ble_eq_true rfl, Nat.le_of_ble_eq_true rfl⟩ 4 4 rfl rfl rfl hl.1 rfl (Nat.le_of_ble_eq_true rfl) dX4_copyFrom_23 ⟨Nat.zero_le _, Nat.zero_le _⟩) (fun H locs hP hS => ?_)
      refine lv_aload_n hx hb dX4_copyFrom_26 rfl (lv_at hl 1 rfl) ?_
      refine lv_iload_n hx hb dX4_copyFrom_27 rfl (lv_at hl 2 rfl) ?_
      obtain ⟨z28, hcr, hM⟩ := ob_s hM
      refine res_i0 F hP hS rfl [4, 5, 6, 7] rfl rfl (runV_of (n := 1) (As := [.int a7.2]) (rest := [.int z23, .int z18, .ref v0]) F hP hS rfl [4, 5, 6, 7] rfl rfl (c_X4_hasDog l dC dI cI cC cZ sa u0 u1 u2 u3 u a7.2 hcr _) gX4_copyFrom_X4_hasDog rfl (by decide +kernel) ⟨Nat.le_of_ble_eq_true rfl, Nat.le_of_ble_eq_true rfl⟩ 4 4 rfl rfl rfl hl.1 rfl (Nat.le_of_ble_eq_true rfl) dX4_copyFrom_28 ⟨Nat.zero_le _, Nat.zero_le _⟩) (fun H locs hP hS => ?_)
      obtain ⟨z31, hcr, hM⟩ := ob_s hM
      refine res_i (ws' := (wWat cI v0 v1 v2 v3 z31.2 ++ wWat cI u0 u1 u2 u3 u)) F hP hS rfl [0, 1, 2, 3] rfl rfl (runV_of (n := 3) (As := [.int z18, .int z23, .int z28]) (rest := []) F hP hS rfl [0, 1, 2, 3] rfl rfl (c_X4_add l dC dI cI cC cZ sa v0 v1 v2 v3 a7.1 z18 z23 z28 hcr _) gX4_copyFrom_X4_add rfl (by decide +kernel) ⟨Nat.le_of_ble_eq_true rfl, Nat.le_of_ble_eq_true rfl⟩ 0 4 rfl rfl rfl hl.1 rfl (Nat.le_of_ble_eq_true rfl) dX4_copyFrom_31 ⟨Nat.zero_le _, Nat.zero_le _⟩) (rep_pt rfl rfl rfl) (fun H locs hP hS => ?_)
      refine lv_pop hx hb dX4_copyFrom_34 rfl ?_
      refine lv_iinc (v := (a7.2 + (1 : Int32))) (lv' := [(2, .int (a7.2 + (1 : Int32))), (0, .ref v0), (1, .ref u0)]) hx hb dX4_copyFrom_35 hl (k := 2) rfl rfl (by decide) rfl (fun ls hl => ?_)
      refine lv_goto (tgt := 7) hx hb dX4_copyFrom_38 (by decide) ?_
      exact ih7 (z31.2, (a7.2 + (1 : Int32))) _ _ _ hP hS (lv_sub hl [1, 2, 0] rfl) hM
  refine lv_aload_n hx hb dX4_copyFrom_0 rfl (lv_at hl 0 rfl) ?_
  obtain ⟨z1, hcr, hM⟩ := ob_s hM
  refine res_i (ws' := (wWat cI v0 v1 v2 v3 z1.2 ++ wWat cI u0 u1 u2 u3 u)) F hP hS rfl [0, 1, 2, 3] rfl rfl (runV_of (n := 0) (As := []) (rest := []) F hP hS rfl [0, 1, 2, 3] rfl rfl (c_X4_clear l dC dI cI cC cZ sa v0 v1 v2 v3 v hcr _) gX4_copyFrom_X4_clear rfl (by decide +kernel) ⟨Nat.le_of_ble_eq_true rfl, Nat.le_of_ble_eq_true rfl⟩ 0 4 rfl rfl rfl hl.1 rfl (Nat.le_of_ble_eq_true rfl) dX4_copyFrom_1 ⟨Nat.zero_le _, Nat.zero_le _⟩) (rep_pt rfl rfl rfl) (fun H locs hP hS => ?_)
  refine lv_pop hx hb dX4_copyFrom_4 rfl ?_
  refine lv_iconst (v := 0) hx hb dX4_copyFrom_5 (by decide) ?_
  refine lv_istore_n (lv' := [(2, .int (0 : Int32)), (0, .ref v0), (1, .ref u0)]) hx hb dX4_copyFrom_6 rfl hl (by decide) rfl (fun ls hl => ?_)
  exact j7 200 (z1.2, (0 : Int32)) _ _ _ hP hS (lv_sub hl [1, 2, 0] rfl) hM
theorem inX4_isOne_X4 : ∀ w ∈ wsX40, w ∈ wsX4_isOne := fun w h => List.mem_cons_of_mem _ (List.mem_append_right _ h)
set_option maxHeartbeats 4000000 in
set_option maxRecDepth 100000 in
theorem c_X4_isOne (l : Launch) (dC : Nat → ClassId) (dI : Nat → Nat → Nat) (cI cC cZ : ClassId) (sa : Nat → Nat) (v0 v1 v2 v3 : Nat) (v : VT) (x1 : Int32) {res : Int32} (hM : M_X4_isOne v x1 = some res) : CTi l (dC, dI) [(cI, .int), (cC, .char), (cZ, .boolean)] sa yX4_isOne wsX4_isOne (rmd 1) [.ref v0, .int x1] (wWat cI v0 v1 v2 v3 v) (fun (_ : Unit) => (wWat cI v0 v1 v2 v3 v)) (res, ()) := by
  refine CTi.enter (own := RX4) (cc := cX4_isOne) (maxL := 2) (ret := (some .boolean)) (by decide) rfl rfl (Nat.le_of_ble_eq_true rfl) ?_
  intro pr e s m below meth c A F hr hlk hP hS ls hl
  obtain ⟨⟨hx, hb, hml, hown, hts⟩, hK, hDD, hA, hKC⟩ := id F
  have hl : lv_has ls 2 [(0, .ref v0), (1, .int x1)] := hl
  have hP : va_P (dC, dI) vwCl (wWat cI v0 v1 v2 v3 v) s.heap := hP
  unfold M_X4_isOne at hM
  refine lv_iload_n hx hb dX4_isOne_0 rfl (lv_at hl 1 rfl) ?_
  refine lv_if_lt (tgt := 16) hx hb dX4_isOne_1 (by decide) (fun hc => ?_) (fun hc => ?_)
  · have hM := if_pp hc hM
    refine lv_iconst (v := 0) hx hb dX4_isOne_16 (by decide) ?_
    exact ret_z hx hb hr hlk dX4_isOne_17 (by decide) (some_u hM) hP hS
  · have hM := if_nn hc hM
    refine lv_iload_n hx hb dX4_isOne_4 rfl (lv_at hl 1 rfl) ?_
    refine lv_aload_n hx hb dX4_isOne_5 rfl (lv_at hl 0 rfl) ?_
    refine g_get (ci := 4) (C := RX4) (T := TX4) (N := 4) (v := .int v.1) F hP 0 rfl rfl inX4_isOne_X4 3 (by decide) (List.mem_of_getElem? (i := 1) rfl) rfl dX4_isOne_6 ?_
    refine lv_icmp_ge (tgt := 16) hx hb dX4_isOne_9 (by decide) (fun hc => ?_) (fun hc => ?_)
    · have hM := if_pp hc hM
      refine lv_iconst (v := 0) hx hb dX4_isOne_16 (by decide) ?_
      exact ret_z hx hb hr hlk dX4_isOne_17 (by decide) (some_u hM) hP hS
    · have hM := if_nn hc hM
      refine lv_iconst (v := 1) hx hb dX4_isOne_12 (by decide) ?_
      refine lv_goto (tgt := 17) hx hb dX4_isOne_13 (by decide) ?_
      exact ret_z hx hb hr hlk dX4_isOne_17 (by decide) (some_u hM) hP hS
