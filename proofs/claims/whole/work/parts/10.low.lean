/-! Walks, printed by wip/whole/gen.py -/
set_option maxHeartbeats 4000000 in
set_option maxRecDepth 100000 in
theorem c_J0_isLatin1_aae02 (l : Launch) (dC : Nat → ClassId) (dI : Nat → Nat → Nat) (cI cC cZ : ClassId) (sa : Nat → Nat)  (ks : Nat) {res : Int32} (hM : M_J0_isLatin1_aae02 ks = some res) : CTi l (dC, dI) [(cI, .int), (cC, .char), (cZ, .boolean)] sa yJ0_isLatin1_aae02 wsJ0_isLatin1_aae02 (rmd 1) [.ref (sa ks)] ([] : va_W) (fun (_ : Unit) => ([] : va_W)) (res, ()) := by
  refine CTi.enter (own := RJ0) (cc := cJ0_isLatin1_aae02) (maxL := 1) (ret := (some .boolean)) (by decide) rfl rfl (Nat.le_of_ble_eq_true rfl) ?_
  intro pr e s m below meth c A F hr hlk hP hS ls hl
  obtain ⟨⟨hx, hb, hml, hown, hts⟩, hK, hDD, hA, hKC⟩ := id F
  have hl : lv_has ls 1 [(0, .ref (sa ks))] := hl
  have hP : va_P (dC, dI) vwCl ([] : va_W) s.heap := hP
  unfold M_J0_isLatin1_aae02 at hM
  refine va_gets hx hb hKC.2.2.1.1 hS hown (hts _ (List.mem_of_getElem? (i := 1) rfl)) (fun _ h => h) dJ0_isLatin1_aae02_0 ?_
  refine lv_if_eq (tgt := 17) hx hb dJ0_isLatin1_aae02_3 (by decide) (fun hc => ?_) (fun hc => ?_)
  · have hM := if_pp hc hM
    refine lv_iconst (v := 0) hx hb dJ0_isLatin1_aae02_17 (by decide) ?_
    exact ret_z hx hb hr hlk dJ0_isLatin1_aae02_18 (by decide) (some_u hM) hP hS
  · have hM := if_nn hc hM
    refine lv_aload_n hx hb dJ0_isLatin1_aae02_6 rfl (lv_at hl 0 rfl) ?_
    obtain ⟨hks, hM⟩ := if_ok hM
    refine g_getO (hKC.2.2.2 ks hks).2.1 hS hx hb hown (hts _ (List.mem_of_getElem? (i := 2) rfl)) dJ0_isLatin1_aae02_7 ?_
    refine lv_if_ne (tgt := 17) hx hb dJ0_isLatin1_aae02_10 (by decide) (fun hc => ?_) (fun hc => ?_)
    · have hM := if_nn hc hM
      refine lv_iconst (v := 0) hx hb dJ0_isLatin1_aae02_17 (by decide) ?_
      exact ret_z hx hb hr hlk dJ0_isLatin1_aae02_18 (by decide) (some_u hM) hP hS
    · have hM := if_pp hc hM
      refine lv_iconst (v := 1) hx hb dJ0_isLatin1_aae02_13 (by decide) ?_
      refine lv_goto (tgt := 18) hx hb dJ0_isLatin1_aae02_14 (by decide) ?_
      exact ret_z hx hb hr hlk dJ0_isLatin1_aae02_18 (by decide) (some_u hM) hP hS
set_option maxHeartbeats 4000000 in
set_option maxRecDepth 100000 in
theorem c_J3_checkIndex_8e157 (l : Launch) (dC : Nat → ClassId) (dI : Nat → Nat → Nat) (cI cC cZ : ClassId) (sa : Nat → Nat)  (x1 : Int32) (x2 : Int32) (qo : Nat) {res : Int32} (hM : M_J3_checkIndex_8e157 x1 x2 = some res) : CTi l (dC, dI) [(cI, .int), (cC, .char), (cZ, .boolean)] sa yJ3_checkIndex_8e157 wsJ3_checkIndex_8e157 (rmd 1) [.int x1, .int x2, .ref qo] ([] : va_W) (fun (_ : Unit) => ([] : va_W)) (res, ()) := by
  refine CTi.enter (own := RJ3) (cc := cJ3_checkIndex_8e157) (maxL := 3) (ret := (some .int)) (by decide) rfl rfl (Nat.le_of_ble_eq_true rfl) ?_
  intro pr e s m below meth c A F hr hlk hP hS ls hl
  obtain ⟨⟨hx, hb, hml, hown, hts⟩, hK, hDD, hA, hKC⟩ := id F
  have hl : lv_has ls 3 [(0, .int x1), (1, .int x2), (2, .ref qo)] := hl
  have hP : va_P (dC, dI) vwCl ([] : va_W) s.heap := hP
  unfold M_J3_checkIndex_8e157 at hM
  refine kblk (α := Unit) (res := res) (fun a => M_J3_checkIndex_8e157_9 x1 x2 a) F (fun a => ([] : va_W)) (fun a => [(0, .int x1), (1, .int x2), (2, .ref qo)]) (fun a => []) 9 ?_ (fun j9 => ?_)
  · intro a9 H locs ls hP hS hl hM
    unfold M_J3_checkIndex_8e157_9 at hM
    exact no_s hM
  refine lv_iload_n hx hb dJ3_checkIndex_8e157_0 rfl (lv_at hl 0 rfl) ?_
  refine lv_if_lt (tgt := 9) hx hb dJ3_checkIndex_8e157_1 (by decide) (fun hc => ?_) (fun hc => ?_)
  · have hM := if_pp hc hM
    exact j9 () _ _ _ hP hS (lv_sub hl [0, 1, 2] rfl) hM
  · have hM := if_nn hc hM
    refine lv_iload_n hx hb dJ3_checkIndex_8e157_4 rfl (lv_at hl 0 rfl) ?_
    refine lv_iload_n hx hb dJ3_checkIndex_8e157_5 rfl (lv_at hl 1 rfl) ?_
    refine lv_icmp_lt (tgt := 16) hx hb dJ3_checkIndex_8e157_6 (by decide) (fun hc => ?_) (fun hc => ?_)
    · have hM := if_pp hc hM
      refine lv_iload_n hx hb dJ3_checkIndex_8e157_16 rfl (lv_at hl 0 rfl) ?_
      exact ret_i hx hb hr hlk dJ3_checkIndex_8e157_17 (some_u hM) hP hS
    · have hM := if_nn hc hM
      exact j9 () _ _ _ hP hS (lv_sub hl [0, 1, 2] rfl) hM
set_option maxHeartbeats 4000000 in
set_option maxRecDepth 100000 in
theorem c_J3_checkIndex_8e157n (l : Launch) (dC : Nat → ClassId) (dI : Nat → Nat → Nat) (cI cC cZ : ClassId) (sa : Nat → Nat)  (x1 : Int32) (x2 : Int32) {res : Int32} (hM : M_J3_checkIndex_8e157 x1 x2 = some res) : CTi l (dC, dI) [(cI, .int), (cC, .char), (cZ, .boolean)] sa yJ3_checkIndex_8e157 wsJ3_checkIndex_8e157 (rmd 1) [.int x1, .int x2, .null] ([] : va_W) (fun (_ : Unit) => ([] : va_W)) (res, ()) := by
  refine CTi.enter (own := RJ3) (cc := cJ3_checkIndex_8e157) (maxL := 3) (ret := (some .int)) (by decide) rfl rfl (Nat.le_of_ble_eq_true rfl) ?_
  intro pr e s m below meth c A F hr hlk hP hS ls hl
  obtain ⟨⟨hx, hb, hml, hown, hts⟩, hK, hDD, hA, hKC⟩ := id F
  have hl : lv_has ls 3 [(0, .int x1), (1, .int x2), (2, .null)] := hl
  have hP : va_P (dC, dI) vwCl ([] : va_W) s.heap := hP
  unfold M_J3_checkIndex_8e157 at hM
  refine kblk (α := Unit) (res := res) (fun a => M_J3_checkIndex_8e157_9 x1 x2 a) F (fun a => ([] : va_W)) (fun a => [(0, .int x1), (1, .int x2), (2, .null)]) (fun a => []) 9 ?_ (fun j9 => ?_)
  · intro a9 H locs ls hP hS hl hM
    unfold M_J3_checkIndex_8e157_9 at hM
    exact no_s hM
  refine lv_iload_n hx hb dJ3_checkIndex_8e157_0 rfl (lv_at hl 0 rfl) ?_
  refine lv_if_lt (tgt := 9) hx hb dJ3_checkIndex_8e157_1 (by decide) (fun hc => ?_) (fun hc => ?_)
  · have hM := if_pp hc hM
    exact j9 () _ _ _ hP hS (lv_sub hl [0, 1, 2] rfl) hM
  · have hM := if_nn hc hM
    refine lv_iload_n hx hb dJ3_checkIndex_8e157_4 rfl (lv_at hl 0 rfl) ?_
    refine lv_iload_n hx hb dJ3_checkIndex_8e157_5 rfl (lv_at hl 1 rfl) ?_
    refine lv_icmp_lt (tgt := 16) hx hb dJ3_checkIndex_8e157_6 (by decide) (fun hc => ?_) (fun hc => ?_)
    · have hM := if_pp hc hM
      refine lv_iload_n hx hb dJ3_checkIndex_8e157_16 rfl (lv_at hl 0 rfl) ?_
      exact ret_i hx hb hr hlk dJ3_checkIndex_8e157_17 (some_u hM) hP hS
    · have hM := if_nn hc hM
      exact j9 () _ _ _ hP hS (lv_sub hl [0, 1, 2] rfl) hM
set_option maxHeartbeats 4000000 in
set_option maxRecDepth 100000 in
theorem c_J0_checkIndex_df160 (l : Launch) (dC : Nat → ClassId) (dI : Nat → Nat → Nat) (cI cC cZ : ClassId) (sa : Nat → Nat)  (x1 : Int32) (x2 : Int32) {res : Unit} (hM : M_J0_checkIndex_df160 x1 x2 = some res) : CTv l (dC, dI) [(cI, .int), (cC, .char), (cZ, .boolean)] sa yJ0_checkIndex_df160 wsJ0_checkIndex_df160 (rmd 2) [.int x1, .int x2] ([] : va_W) (fun (_ : Unit) => ([] : va_W)) res := by
  refine CTv.enter (own := RJ0) (cc := cJ0_checkIndex_df160) (maxL := 2) (ret := none) (by decide) rfl rfl (Nat.le_of_ble_eq_true rfl) ?_
  intro pr e s m below meth c A F hr hlk hP hS ls hl
  obtain ⟨⟨hx, hb, hml, hown, hts⟩, hK, hDD, hA, hKC⟩ := id F
  have hl : lv_has ls 2 [(0, .int x1), (1, .int x2)] := hl
  have hP : va_P (dC, dI) vwCl ([] : va_W) s.heap := hP
  unfold M_J0_checkIndex_df160 at hM
  refine lv_iload_n hx hb dJ0_checkIndex_df160_0 rfl (lv_at hl 0 rfl) ?_
  refine lv_iload_n hx hb dJ0_checkIndex_df160_1 rfl (lv_at hl 1 rfl) ?_
  obtain ⟨qo, hqo⟩ := hKC.2.2.1.2
  rcases qo with _ | qo
  · refine va_gets hx hb hqo hS hown (hts _ (List.mem_of_getElem? (i := 1) rfl)) (fun _ h => h) dJ0_checkIndex_df160_2 ?_
    obtain ⟨z5, hcr, hM⟩ := ob_s hM
    refine res_i0 F hP hS rfl [] rfl rfl (runS_of (n := 3) (As := [.int x1, .int x2, .null]) (rest := []) F hP hS rfl [] rfl rfl (c_J3_checkIndex_8e157n l dC dI cI cC cZ sa x1 x2 hcr _) gJ0_checkIndex_df160_J3_checkIndex_8e157 rfl (by decide +kernel) ⟨Nat.le_of_ble_eq_true rfl, Nat.le_of_ble_eq_true rfl⟩ rfl hl.1 rfl (Nat.le_of_ble_eq_true rfl) dJ0_checkIndex_df160_5 ⟨Nat.zero_le _, Nat.zero_le _⟩) (fun H locs hP hS => ?_)
    refine lv_pop hx hb dJ0_checkIndex_df160_8 rfl ?_
    exact ret_v hx hb hr hlk dJ0_checkIndex_df160_9 hM hP hS
  · refine va_gets hx hb hqo hS hown (hts _ (List.mem_of_getElem? (i := 1) rfl)) (fun _ h => h) dJ0_checkIndex_df160_2 ?_
    obtain ⟨z5, hcr, hM⟩ := ob_s hM
    refine res_i0 F hP hS rfl [] rfl rfl (runS_of (n := 3) (As := [.int x1, .int x2, .ref qo]) (rest := []) F hP hS rfl [] rfl rfl (c_J3_checkIndex_8e157 l dC dI cI cC cZ sa x1 x2 qo hcr _) gJ0_checkIndex_df160_J3_checkIndex_8e157 rfl (by decide +kernel) ⟨Nat.le_of_ble_eq_true rfl, Nat.le_of_ble_eq_true rfl⟩ rfl hl.1 rfl (Nat.le_of_ble_eq_true rfl) dJ0_checkIndex_df160_5 ⟨Nat.zero_le _, Nat.zero_le _⟩) (fun H locs hP hS => ?_)
    refine lv_pop hx hb dJ0_checkIndex_df160_8 rfl ?_
    exact ret_v hx hb hr hlk dJ0_checkIndex_df160_9 hM hP hS
set_option maxHeartbeats 4000000 in
set_option maxRecDepth 100000 in
theorem c_J1_charAt_3b067 (l : Launch) (dC : Nat → ClassId) (dI : Nat → Nat → Nat) (cI cC cZ : ClassId) (sa : Nat → Nat)  (ks : Nat) (x2 : Int32) {res : Int32} (hM : M_J1_charAt_3b067 ks x2 = some res) : CTi l (dC, dI) [(cI, .int), (cC, .char), (cZ, .boolean)] sa yJ1_charAt_3b067 wsJ1_charAt_3b067 (rmd 3) [.ref (sa (ks + 2)), .int x2] ([] : va_W) (fun (_ : Unit) => ([] : va_W)) (res, ()) := by
  refine CTi.enter (own := RJ1) (cc := cJ1_charAt_3b067) (maxL := 2) (ret := (some .char)) (by decide) rfl rfl (Nat.le_of_ble_eq_true rfl) ?_
  intro pr e s m below meth c A F hr hlk hP hS ls hl
  obtain ⟨⟨hx, hb, hml, hown, hts⟩, hK, hDD, hA, hKC⟩ := id F
  have hl : lv_has ls 2 [(0, .ref (sa (ks + 2))), (1, .int x2)] := hl
  have hP : va_P (dC, dI) vwCl ([] : va_W) s.heap := hP
  unfold M_J1_charAt_3b067 at hM
  refine lv_iload_n hx hb dJ1_charAt_3b067_0 rfl (lv_at hl 1 rfl) ?_
  refine lv_aload_n hx hb dJ1_charAt_3b067_1 rfl (lv_at hl 0 rfl) ?_
  obtain ⟨hks, hM⟩ := if_ok hM
  refine va_tlen (v := 5) hx hb (hKC.2.2.2 ks hks).2.2.2 hS rfl dJ1_charAt_3b067_2 ?_
  obtain ⟨z3, hcr, hM⟩ := ob_s hM
  refine res_v (ws' := ([] : va_W)) F hP hS rfl [] rfl rfl (runS_of (n := 2) (As := [.int x2, .int (5 : Int32)]) (rest := []) F hP hS rfl [] rfl rfl (c_J0_checkIndex_df160 l dC dI cI cC cZ sa x2 (5 : Int32) hcr _) gJ1_charAt_3b067_J0_checkIndex_df160 rfl (by decide +kernel) ⟨Nat.le_of_ble_eq_true rfl, Nat.le_of_ble_eq_true rfl⟩ rfl hl.1 rfl (Nat.le_of_ble_eq_true rfl) dJ1_charAt_3b067_3 ⟨Nat.zero_le _, Nat.zero_le _⟩) (rep_pt rfl rfl rfl) (fun H locs hP hS => ?_)
  refine lv_aload_n hx hb dJ1_charAt_3b067_6 rfl (lv_at hl 0 rfl) ?_
  refine lv_iload_n hx hb dJ1_charAt_3b067_7 rfl (lv_at hl 1 rfl) ?_
  obtain ⟨hks, hM⟩ := if_ok hM
  obtain ⟨hin, hM⟩ := if_ok hM
  refine va_tb (v := .int (stb ks x2.toNatClampNeg)) hx hb (hKC.2.2.2 ks hks).2.2.2 hS hin rfl dJ1_charAt_3b067_8 ?_
  refine lv_sipush (v := 255) hx hb dJ1_charAt_3b067_9 (by decide) ?_
  refine lv_iand hx hb dJ1_charAt_3b067_12 ?_
  refine lv_i2c (v := (((stb ks x2.toNatClampNeg) &&& (255 : Int32)).toUInt32 % 65536).toInt32) hx hb dJ1_charAt_3b067_13 rfl ?_
  obtain ⟨hnz, hM⟩ := if_ok hM
  exact ret_z hx hb hr hlk dJ1_charAt_3b067_14 (nar_c hnz) (some_u hM) hP hS
set_option maxHeartbeats 4000000 in
set_option maxRecDepth 100000 in
theorem c_J0_charAt_5068e (l : Launch) (dC : Nat → ClassId) (dI : Nat → Nat → Nat) (cI cC cZ : ClassId) (sa : Nat → Nat)  (ks : Nat) (x1 : Int32) {res : Int32} (hM : M_J0_charAt_5068e ks x1 = some res) : CTi l (dC, dI) [(cI, .int), (cC, .char), (cZ, .boolean)] sa yJ0_charAt_5068e wsJ0_charAt_5068e (rmd 4) [.ref (sa ks), .int x1] ([] : va_W) (fun (_ : Unit) => ([] : va_W)) (res, ()) := by
  refine CTi.enter (own := RJ0) (cc := cJ0_charAt_5068e) (maxL := 2) (ret := (some .char)) (by decide) rfl rfl (Nat.le_of_ble_eq_true rfl) ?_
  intro pr e s m below meth c A F hr hlk hP hS ls hl
  obtain ⟨⟨hx, hb, hml, hown, hts⟩, hK, hDD, hA, hKC⟩ := id F
  have hl : lv_has ls 2 [(0, .ref (sa ks)), (1, .int x1)] := hl
  have hP : va_P (dC, dI) vwCl ([] : va_W) s.heap := hP
  unfold M_J0_charAt_5068e at hM
  refine lv_aload_n hx hb dJ0_charAt_5068e_0 rfl (lv_at hl 0 rfl) ?_
  obtain ⟨hks, hM⟩ := if_ok hM
  obtain ⟨z1, hcr, hM⟩ := ob_s hM
  refine res_i0 F hP hS rfl [] rfl rfl (runO_of (n := 0) (As := []) (rest := []) F hP hS rfl [] rfl rfl (c_J0_isLatin1_aae02 l dC dI cI cC cZ sa ks hcr _) gJ0_charAt_5068e_J0_isLatin1_aae02 rfl (by decide +kernel) ⟨Nat.le_of_ble_eq_true rfl, Nat.le_of_ble_eq_true rfl⟩ (hKC.2.2.2 ks hks).1 rfl hl.1 rfl (Nat.le_of_ble_eq_true rfl) dJ0_charAt_5068e_1 ⟨Nat.zero_le _, Nat.zero_le _⟩) (fun H locs hP hS => ?_)
  refine lv_if_eq (tgt := 16) hx hb dJ0_charAt_5068e_4 (by decide) (fun hc => ?_) (fun hc => ?_)
  · have hM := if_pp hc hM
    refine lv_aload_n hx hb dJ0_charAt_5068e_16 rfl (lv_at hl 0 rfl) ?_
    obtain ⟨hks, hM⟩ := if_ok hM
    refine g_getO (hKC.2.2.2 ks hks).2.2.1 hS hx hb hown (hts _ (List.mem_of_getElem? (i := 1) rfl)) dJ0_charAt_5068e_17 ?_
    refine lv_iload_n hx hb dJ0_charAt_5068e_20 rfl (lv_at hl 1 rfl) ?_
    exact no_s hM
  · have hM := if_nn hc hM
    refine lv_aload_n hx hb dJ0_charAt_5068e_7 rfl (lv_at hl 0 rfl) ?_
    obtain ⟨hks, hM⟩ := if_ok hM
    refine g_getO (hKC.2.2.2 ks hks).2.2.1 hS hx hb hown (hts _ (List.mem_of_getElem? (i := 1) rfl)) dJ0_charAt_5068e_8 ?_
    refine lv_iload_n hx hb dJ0_charAt_5068e_11 rfl (lv_at hl 1 rfl) ?_
    obtain ⟨z12, hcr, hM⟩ := ob_s hM
    refine res_i0 F hP hS rfl [] rfl rfl (runS_of (n := 2) (As := [.ref (sa (ks + 2)), .int x1]) (rest := []) F hP hS rfl [] rfl rfl (c_J1_charAt_3b067 l dC dI cI cC cZ sa ks x1 hcr _) gJ0_charAt_5068e_J1_charAt_3b067 rfl (by decide +kernel) ⟨Nat.le_of_ble_eq_true rfl, Nat.le_of_ble_eq_true rfl⟩ rfl hl.1 rfl (Nat.le_of_ble_eq_true rfl) dJ0_charAt_5068e_12 ⟨Nat.zero_le _, Nat.zero_le _⟩) (fun H locs hP hS => ?_)
    obtain ⟨hnz, hM⟩ := if_ok hM
    exact ret_z hx hb hr hlk dJ0_charAt_5068e_15 (nar_c hnz) (some_u hM) hP hS
set_option maxHeartbeats 4000000 in
set_option maxRecDepth 100000 in
theorem c_J0_coder_7d493 (l : Launch) (dC : Nat → ClassId) (dI : Nat → Nat → Nat) (cI cC cZ : ClassId) (sa : Nat → Nat)  (ks : Nat) {res : Int32} (hM : M_J0_coder_7d493 ks = some res) : CTi l (dC, dI) [(cI, .int), (cC, .char), (cZ, .boolean)] sa yJ0_coder_7d493 wsJ0_coder_7d493 (rmd 1) [.ref (sa ks)] ([] : va_W) (fun (_ : Unit) => ([] : va_W)) (res, ()) := by
  refine CTi.enter (own := RJ0) (cc := cJ0_coder_7d493) (maxL := 1) (ret := (some .byte)) (by decide) rfl rfl (Nat.le_of_ble_eq_true rfl) ?_
  intro pr e s m below meth c A F hr hlk hP hS ls hl
  obtain ⟨⟨hx, hb, hml, hown, hts⟩, hK, hDD, hA, hKC⟩ := id F
  have hl : lv_has ls 1 [(0, .ref (sa ks))] := hl
  have hP : va_P (dC, dI) vwCl ([] : va_W) s.heap := hP
  unfold M_J0_coder_7d493 at hM
  refine va_gets hx hb hKC.2.2.1.1 hS hown (hts _ (List.mem_of_getElem? (i := 1) rfl)) (fun _ h => h) dJ0_coder_7d493_0 ?_
  refine lv_if_eq (tgt := 13) hx hb dJ0_coder_7d493_3 (by decide) (fun hc => ?_) (fun hc => ?_)
  · have hM := if_pp hc hM
    refine lv_iconst (v := 1) hx hb dJ0_coder_7d493_13 (by decide) ?_
    exact ret_z hx hb hr hlk dJ0_coder_7d493_14 (by decide) (some_u hM) hP hS
  · have hM := if_nn hc hM
    refine lv_aload_n hx hb dJ0_coder_7d493_6 rfl (lv_at hl 0 rfl) ?_
    obtain ⟨hks, hM⟩ := if_ok hM
    refine g_getO (hKC.2.2.2 ks hks).2.1 hS hx hb hown (hts _ (List.mem_of_getElem? (i := 2) rfl)) dJ0_coder_7d493_7 ?_
    refine lv_goto (tgt := 14) hx hb dJ0_coder_7d493_10 (by decide) ?_
    exact ret_z hx hb hr hlk dJ0_coder_7d493_14 (by decide) (some_u hM) hP hS
set_option maxHeartbeats 4000000 in
set_option maxRecDepth 100000 in
theorem c_J0_length_8abf5 (l : Launch) (dC : Nat → ClassId) (dI : Nat → Nat → Nat) (cI cC cZ : ClassId) (sa : Nat → Nat)  (ks : Nat) {res : Int32} (hM : M_J0_length_8abf5 ks = some res) : CTi l (dC, dI) [(cI, .int), (cC, .char), (cZ, .boolean)] sa yJ0_length_8abf5 wsJ0_length_8abf5 (rmd 2) [.ref (sa ks)] ([] : va_W) (fun (_ : Unit) => ([] : va_W)) (res, ()) := by
  refine CTi.enter (own := RJ0) (cc := cJ0_length_8abf5) (maxL := 1) (ret := (some .int)) (by decide) rfl rfl (Nat.le_of_ble_eq_true rfl) ?_
  intro pr e s m below meth c A F hr hlk hP hS ls hl
  obtain ⟨⟨hx, hb, hml, hown, hts⟩, hK, hDD, hA, hKC⟩ := id F
  have hl : lv_has ls 1 [(0, .ref (sa ks))] := hl
  have hP : va_P (dC, dI) vwCl ([] : va_W) s.heap := hP
  unfold M_J0_length_8abf5 at hM
  refine lv_aload_n hx hb dJ0_length_8abf5_0 rfl (lv_at hl 0 rfl) ?_
  obtain ⟨hks, hM⟩ := if_ok hM
  refine g_getO (hKC.2.2.2 ks hks).2.2.1 hS hx hb hown (hts _ (List.mem_of_getElem? (i := 1) rfl)) dJ0_length_8abf5_1 ?_
  obtain ⟨hks, hM⟩ := if_ok hM
  refine va_tlen (v := 5) hx hb (hKC.2.2.2 ks hks).2.2.2 hS rfl dJ0_length_8abf5_4 ?_
  refine lv_aload_n hx hb dJ0_length_8abf5_5 rfl (lv_at hl 0 rfl) ?_
  obtain ⟨hks, hM⟩ := if_ok hM
  obtain ⟨z6, hcr, hM⟩ := ob_s hM
  refine res_i0 F hP hS rfl [] rfl rfl (runO_of (n := 0) (As := []) (rest := [.int (5 : Int32)]) F hP hS rfl [] rfl rfl (c_J0_coder_7d493 l dC dI cI cC cZ sa ks hcr _) gJ0_length_8abf5_J0_coder_7d493 rfl (by decide +kernel) ⟨Nat.le_of_ble_eq_true rfl, Nat.le_of_ble_eq_true rfl⟩ (hKC.2.2.2 ks hks).1 rfl hl.1 rfl (Nat.le_of_ble_eq_true rfl) dJ0_length_8abf5_6 ⟨Nat.zero_le _, Nat.zero_le _⟩) (fun H locs hP hS => ?_)
  refine lv_ishr hx hb dJ0_length_8abf5_9 ?_
  exact ret_i hx hb hr hlk dJ0_length_8abf5_10 (some_u hM) hP hS
set_option maxHeartbeats 4000000 in
set_option maxRecDepth 100000 in
theorem c_J1_canEncode_9a6ad (l : Launch) (dC : Nat → ClassId) (dI : Nat → Nat → Nat) (cI cC cZ : ClassId) (sa : Nat → Nat)  (x1 : Int32) {res : Int32} (hM : M_J1_canEncode_9a6ad x1 = some res) : CTi l (dC, dI) [(cI, .int), (cC, .char), (cZ, .boolean)] sa yJ1_canEncode_9a6ad wsJ1_canEncode_9a6ad (rmd 1) [.int x1] ([] : va_W) (fun (_ : Unit) => ([] : va_W)) (res, ()) := by
  refine CTi.enter (own := RJ1) (cc := cJ1_canEncode_9a6ad) (maxL := 1) (ret := (some .boolean)) (by decide) rfl rfl (Nat.le_of_ble_eq_true rfl) ?_
  intro pr e s m below meth c A F hr hlk hP hS ls hl
  obtain ⟨⟨hx, hb, hml, hown, hts⟩, hK, hDD, hA, hKC⟩ := id F
  have hl : lv_has ls 1 [(0, .int x1)] := hl
  have hP : va_P (dC, dI) vwCl ([] : va_W) s.heap := hP
  unfold M_J1_canEncode_9a6ad at hM
  refine lv_iload_n hx hb dJ1_canEncode_9a6ad_0 rfl (lv_at hl 0 rfl) ?_
  refine lv_if_lt (tgt := 15) hx hb dJ1_canEncode_9a6ad_1 (by decide) (fun hc => ?_) (fun hc => ?_)
  · have hM := if_pp hc hM
    refine lv_iconst (v := 0) hx hb dJ1_canEncode_9a6ad_15 (by decide) ?_
    exact ret_z hx hb hr hlk dJ1_canEncode_9a6ad_16 (by decide) (some_u hM) hP hS
  · have hM := if_nn hc hM
    refine lv_iload_n hx hb dJ1_canEncode_9a6ad_4 rfl (lv_at hl 0 rfl) ?_
    refine lv_sipush (v := 255) hx hb dJ1_canEncode_9a6ad_5 (by decide) ?_
    refine lv_icmp_gt (tgt := 15) hx hb dJ1_canEncode_9a6ad_8 (by decide) (fun hc => ?_) (fun hc => ?_)
    · have hM := if_pp hc hM
      refine lv_iconst (v := 0) hx hb dJ1_canEncode_9a6ad_15 (by decide) ?_
      exact ret_z hx hb hr hlk dJ1_canEncode_9a6ad_16 (by decide) (some_u hM) hP hS
    · have hM := if_nn hc hM
      refine lv_iconst (v := 1) hx hb dJ1_canEncode_9a6ad_11 (by decide) ?_
      refine lv_goto (tgt := 16) hx hb dJ1_canEncode_9a6ad_12 (by decide) ?_
      exact ret_z hx hb hr hlk dJ1_canEncode_9a6ad_16 (by decide) (some_u hM) hP hS
set_option maxHeartbeats 4000000 in
set_option maxRecDepth 100000 in
theorem c_J1_indexOfChar_4cfef (l : Launch) (dC : Nat → ClassId) (dI : Nat → Nat → Nat) (cI cC cZ : ClassId) (sa : Nat → Nat)  (ks : Nat) (x2 : Int32) (x3 : Int32) (x4 : Int32) {res : Int32} (hM : M_J1_indexOfChar_4cfef ks x2 x3 x4 = some res) : CTi l (dC, dI) [(cI, .int), (cC, .char), (cZ, .boolean)] sa yJ1_indexOfChar_4cfef wsJ1_indexOfChar_4cfef (rmd 1) [.ref (sa (ks + 2)), .int x2, .int x3, .int x4] ([] : va_W) (fun (_ : Unit) => ([] : va_W)) (res, ()) := by
  refine CTi.enter (own := RJ1) (cc := cJ1_indexOfChar_4cfef) (maxL := 6) (ret := (some .int)) (by decide) rfl rfl (Nat.le_of_ble_eq_true rfl) ?_
  intro pr e s m below meth c A F hr hlk hP hS ls hl
  obtain ⟨⟨hx, hb, hml, hown, hts⟩, hK, hDD, hA, hKC⟩ := id F
  have hl : lv_has ls 6 [(0, .ref (sa (ks + 2))), (1, .int x2), (2, .int x3), (3, .int x4)] := hl
  have hP : va_P (dC, dI) vwCl ([] : va_W) s.heap := hP
  unfold M_J1_indexOfChar_4cfef at hM
  refine kloop (α := Int32 × Int32) (res := res) (fun k a => M_J1_indexOfChar_4cfef_7 ks x2 x3 x4 k a) (fun rec a => M_J1_indexOfChar_4cfef_7b ks x2 x3 x4 rec a) (fun _ => rfl) (fun _ _ => rfl) F (fun a => ([] : va_W)) (fun a => [(0, .ref (sa (ks + 2))), (3, .int x4), (4, .int a.1), (5, .int a.2)]) (fun a => []) 7 ?_ (fun j7 => ?_)
  · intro rc7 ih7 a7 H locs ls hP hS hl hM
    unfold M_J1_indexOfChar_4cfef_7b at hM
    refine lv_iload hx hb dJ1_indexOfChar_4cfef_7 (lv_at hl 3 rfl) ?_
    refine lv_iload_n hx hb dJ1_indexOfChar_4cfef_9 rfl (lv_at hl 1 rfl) ?_
    refine lv_icmp_ge (tgt := 31) hx hb dJ1_indexOfChar_4cfef_10 (by decide) (fun hc => ?_) (fun hc => ?_)
    · have hM := if_pp hc hM
      refine lv_iconst (v := -1) hx hb dJ1_indexOfChar_4cfef_31 (by decide) ?_
      exact ret_i hx hb hr hlk dJ1_indexOfChar_4cfef_32 (some_u hM) hP hS
    · have hM := if_nn hc hM
      refine lv_aload_n hx hb dJ1_indexOfChar_4cfef_13 rfl (lv_at hl 0 rfl) ?_
      refine lv_iload hx hb dJ1_indexOfChar_4cfef_14 (lv_at hl 3 rfl) ?_
      obtain ⟨hks, hM⟩ := if_ok hM
      obtain ⟨hin, hM⟩ := if_ok hM
      refine va_tb (v := .int (stb ks a7.2.toNatClampNeg)) hx hb (hKC.2.2.2 ks hks).2.2.2 hS hin rfl dJ1_indexOfChar_4cfef_16 ?_
      refine lv_iload hx hb dJ1_indexOfChar_4cfef_17 (lv_at hl 2 rfl) ?_
      refine lv_icmp_ne (tgt := 25) hx hb dJ1_indexOfChar_4cfef_19 (by decide) (fun hc => ?_) (fun hc => ?_)
      · have hM := if_nn hc hM
        refine lv_iinc (v := (a7.2 + (1 : Int32))) (lv' := [(5, .int (a7.2 + (1 : Int32))), (0, .ref (sa (ks + 2))), (3, .int x4), (4, .int a7.1)]) hx hb dJ1_indexOfChar_4cfef_25 hl (k := 3) rfl rfl (by decide) rfl (fun ls hl => ?_)
        refine lv_goto (tgt := 7) hx hb dJ1_indexOfChar_4cfef_28 (by decide) ?_
        exact ih7 (a7.1, (a7.2 + (1 : Int32))) _ _ _ hP hS (lv_sub hl [1, 2, 3, 0] rfl) hM
      · have hM := if_pp hc hM
        refine lv_iload hx hb dJ1_indexOfChar_4cfef_22 (lv_at hl 3 rfl) ?_
        exact ret_i hx hb hr hlk dJ1_indexOfChar_4cfef_24 (some_u hM) hP hS
  refine lv_iload_n hx hb dJ1_indexOfChar_4cfef_0 rfl (lv_at hl 1 rfl) ?_
  refine lv_i2b (v := x2.toInt8.toInt32) hx hb dJ1_indexOfChar_4cfef_1 rfl ?_
  refine lv_istore (lv' := [(4, .int x2.toInt8.toInt32), (0, .ref (sa (ks + 2))), (1, .int x2), (2, .int x3), (3, .int x4)]) hx hb dJ1_indexOfChar_4cfef_2 hl (by decide) rfl (fun ls hl => ?_)
  refine lv_iload_n hx hb dJ1_indexOfChar_4cfef_4 rfl (lv_at hl 3 rfl) ?_
  refine lv_istore (lv' := [(5, .int x3), (4, .int x2.toInt8.toInt32), (0, .ref (sa (ks + 2))), (1, .int x2), (2, .int x3), (3, .int x4)]) hx hb dJ1_indexOfChar_4cfef_5 hl (by decide) rfl (fun ls hl => ?_)
  exact j7 200 (x2.toInt8.toInt32, x3) _ _ _ hP hS (lv_sub hl [2, 5, 1, 0] rfl) hM
set_option maxHeartbeats 4000000 in
set_option maxRecDepth 100000 in
theorem c_J1_indexOf_4cfef (l : Launch) (dC : Nat → ClassId) (dI : Nat → Nat → Nat) (cI cC cZ : ClassId) (sa : Nat → Nat)  (ks : Nat) (x2 : Int32) (x3 : Int32) (x4 : Int32) {res : Int32} (hM : M_J1_indexOf_4cfef ks x2 x3 x4 = some res) : CTi l (dC, dI) [(cI, .int), (cC, .char), (cZ, .boolean)] sa yJ1_indexOf_4cfef wsJ1_indexOf_4cfef (rmd 2) [.ref (sa (ks + 2)), .int x2, .int x3, .int x4] ([] : va_W) (fun (_ : Unit) => ([] : va_W)) (res, ()) := by
  refine CTi.enter (own := RJ1) (cc := cJ1_indexOf_4cfef) (maxL := 4) (ret := (some .int)) (by decide) rfl rfl (Nat.le_of_ble_eq_true rfl) ?_
  intro pr e s m below meth c A F hr hlk hP hS ls hl
  obtain ⟨⟨hx, hb, hml, hown, hts⟩, hK, hDD, hA, hKC⟩ := id F
  have hl : lv_has ls 4 [(0, .ref (sa (ks + 2))), (1, .int x2), (2, .int x3), (3, .int x4)] := hl
  have hP : va_P (dC, dI) vwCl ([] : va_W) s.heap := hP
  unfold M_J1_indexOf_4cfef at hM
  refine lv_iload_n hx hb dJ1_indexOf_4cfef_0 rfl (lv_at hl 1 rfl) ?_
  obtain ⟨z1, hcr, hM⟩ := ob_s hM
  refine res_i0 F hP hS rfl [] rfl rfl (runS_of (n := 1) (As := [.int x2]) (rest := []) F hP hS rfl [] rfl rfl (c_J1_canEncode_9a6ad l dC dI cI cC cZ sa x2 hcr _) gJ1_indexOf_4cfef_J1_canEncode_9a6ad rfl (by decide +kernel) ⟨Nat.le_of_ble_eq_true rfl, Nat.le_of_ble_eq_true rfl⟩ rfl hl.1 rfl (Nat.le_of_ble_eq_true rfl) dJ1_indexOf_4cfef_1 ⟨Nat.zero_le _, Nat.zero_le _⟩) (fun H locs hP hS => ?_)
  refine lv_if_ne (tgt := 9) hx hb dJ1_indexOf_4cfef_4 (by decide) (fun hc => ?_) (fun hc => ?_)
  · have hM := if_nn hc hM
    refine lv_iload_n hx hb dJ1_indexOf_4cfef_9 rfl (lv_at hl 2 rfl) ?_
    refine lv_iconst (v := 0) hx hb dJ1_indexOf_4cfef_10 (by decide) ?_
    refine va_mmax hx hb (hml.trans hl.1.symm) hown (hts _ (List.mem_of_getElem? (i := 1) rfl)) (hts _ (List.mem_of_getElem? (i := 2) rfl)) (hts _ (List.mem_of_getElem? (i := 3) rfl)) (hts _ (List.mem_of_getElem? (i := 4) rfl)) (Nat.le_of_ble_eq_true rfl) (Nat.le_of_ble_eq_true rfl) (Nat.zero_le _) (Nat.zero_le _) dJ1_indexOf_4cfef_11 ?_
    refine lv_istore_n (lv' := [(2, .int (if x3 < (0 : Int32) then (0 : Int32) else x3)), (0, .ref (sa (ks + 2))), (1, .int x2), (3, .int x4)]) hx hb dJ1_indexOf_4cfef_14 rfl hl (by decide) rfl (fun ls hl => ?_)
    refine lv_iload_n hx hb dJ1_indexOf_4cfef_15 rfl (lv_at hl 3 rfl) ?_
    refine lv_aload_n hx hb dJ1_indexOf_4cfef_16 rfl (lv_at hl 1 rfl) ?_
    obtain ⟨hks, hM⟩ := if_ok hM
    refine va_tlen (v := 5) hx hb (hKC.2.2.2 ks hks).2.2.2 hS rfl dJ1_indexOf_4cfef_17 ?_
    refine va_mmin hx hb (hml.trans hl.1.symm) hown (hts _ (List.mem_of_getElem? (i := 5) rfl)) (hts _ (List.mem_of_getElem? (i := 6) rfl)) (hts _ (List.mem_of_getElem? (i := 3) rfl)) (hts _ (List.mem_of_getElem? (i := 7) rfl)) (Nat.le_of_ble_eq_true rfl) (Nat.le_of_ble_eq_true rfl) (Nat.zero_le _) (Nat.zero_le _) dJ1_indexOf_4cfef_18 ?_
    refine lv_istore_n (lv' := [(3, .int (if (5 : Int32) < x4 then (5 : Int32) else x4)), (2, .int (if x3 < (0 : Int32) then (0 : Int32) else x3)), (0, .ref (sa (ks + 2))), (1, .int x2)]) hx hb dJ1_indexOf_4cfef_21 rfl hl (by decide) rfl (fun ls hl => ?_)
    refine lv_iload_n hx hb dJ1_indexOf_4cfef_22 rfl (lv_at hl 1 rfl) ?_
    refine lv_iload_n hx hb dJ1_indexOf_4cfef_23 rfl (lv_at hl 0 rfl) ?_
    refine lv_icmp_lt (tgt := 29) hx hb dJ1_indexOf_4cfef_24 (by decide) (fun hc => ?_) (fun hc => ?_)
    · have hM := if_pp hc hM
      refine lv_aload_n hx hb dJ1_indexOf_4cfef_29 rfl (lv_at hl 2 rfl) ?_
      refine lv_iload_n hx hb dJ1_indexOf_4cfef_30 rfl (lv_at hl 3 rfl) ?_
      refine lv_iload_n hx hb dJ1_indexOf_4cfef_31 rfl (lv_at hl 1 rfl) ?_
      refine lv_iload_n hx hb dJ1_indexOf_4cfef_32 rfl (lv_at hl 0 rfl) ?_
      obtain ⟨z33, hcr, hM⟩ := ob_s hM
      refine res_i0 F hP hS rfl [] rfl rfl (runS_of (n := 4) (As := [.ref (sa (ks + 2)), .int x2, .int (if x3 < (0 : Int32) then (0 : Int32) else x3), .int (if (5 : Int32) < x4 then (5 : Int32) else x4)]) (rest := []) F hP hS rfl [] rfl rfl (c_J1_indexOfChar_4cfef l dC dI cI cC cZ sa ks x2 (if x3 < (0 : Int32) then (0 : Int32) else x3) (if (5 : Int32) < x4 then (5 : Int32) else x4) hcr _) gJ1_indexOf_4cfef_J1_indexOfChar_4cfef rfl (by decide +kernel) ⟨Nat.le_of_ble_eq_true rfl, Nat.le_of_ble_eq_true rfl⟩ rfl hl.1 rfl (Nat.le_of_ble_eq_true rfl) dJ1_indexOf_4cfef_33 ⟨Nat.zero_le _, Nat.zero_le _⟩) (fun H locs hP hS => ?_)
      exact ret_i hx hb hr hlk dJ1_indexOf_4cfef_36 (some_u hM) hP hS
    · have hM := if_nn hc hM
      refine lv_iconst (v := -1) hx hb dJ1_indexOf_4cfef_27 (by decide) ?_
      exact ret_i hx hb hr hlk dJ1_indexOf_4cfef_28 (some_u hM) hP hS
  · have hM := if_pp hc hM
    refine lv_iconst (v := -1) hx hb dJ1_indexOf_4cfef_7 (by decide) ?_
    exact ret_i hx hb hr hlk dJ1_indexOf_4cfef_8 (some_u hM) hP hS
set_option maxHeartbeats 4000000 in
set_option maxRecDepth 100000 in
theorem c_J0_indexOf_7cf53 (l : Launch) (dC : Nat → ClassId) (dI : Nat → Nat → Nat) (cI cC cZ : ClassId) (sa : Nat → Nat)  (ks : Nat) (x1 : Int32) (x2 : Int32) {res : Int32} (hM : M_J0_indexOf_7cf53 ks x1 x2 = some res) : CTi l (dC, dI) [(cI, .int), (cC, .char), (cZ, .boolean)] sa yJ0_indexOf_7cf53 wsJ0_indexOf_7cf53 (rmd 3) [.ref (sa ks), .int x1, .int x2] ([] : va_W) (fun (_ : Unit) => ([] : va_W)) (res, ()) := by
  refine CTi.enter (own := RJ0) (cc := cJ0_indexOf_7cf53) (maxL := 3) (ret := (some .int)) (by decide) rfl rfl (Nat.le_of_ble_eq_true rfl) ?_
  intro pr e s m below meth c A F hr hlk hP hS ls hl
  obtain ⟨⟨hx, hb, hml, hown, hts⟩, hK, hDD, hA, hKC⟩ := id F
  have hl : lv_has ls 3 [(0, .ref (sa ks)), (1, .int x1), (2, .int x2)] := hl
  have hP : va_P (dC, dI) vwCl ([] : va_W) s.heap := hP
  unfold M_J0_indexOf_7cf53 at hM
  refine lv_aload_n hx hb dJ0_indexOf_7cf53_0 rfl (lv_at hl 0 rfl) ?_
  obtain ⟨hks, hM⟩ := if_ok hM
  obtain ⟨z1, hcr, hM⟩ := ob_s hM
  refine res_i0 F hP hS rfl [] rfl rfl (runO_of (n := 0) (As := []) (rest := []) F hP hS rfl [] rfl rfl (c_J0_isLatin1_aae02 l dC dI cI cC cZ sa ks hcr _) gJ0_indexOf_7cf53_J0_isLatin1_aae02 rfl (by decide +kernel) ⟨Nat.le_of_ble_eq_true rfl, Nat.le_of_ble_eq_true rfl⟩ (hKC.2.2.2 ks hks).1 rfl hl.1 rfl (Nat.le_of_ble_eq_true rfl) dJ0_indexOf_7cf53_1 ⟨Nat.zero_le _, Nat.zero_le _⟩) (fun H locs hP hS => ?_)
  refine lv_if_eq (tgt := 23) hx hb dJ0_indexOf_7cf53_4 (by decide) (fun hc => ?_) (fun hc => ?_)
  · have hM := if_pp hc hM
    refine lv_aload_n hx hb dJ0_indexOf_7cf53_23 rfl (lv_at hl 0 rfl) ?_
    obtain ⟨hks, hM⟩ := if_ok hM
    refine g_getO (hKC.2.2.2 ks hks).2.2.1 hS hx hb hown (hts _ (List.mem_of_getElem? (i := 1) rfl)) dJ0_indexOf_7cf53_24 ?_
    refine lv_iload_n hx hb dJ0_indexOf_7cf53_27 rfl (lv_at hl 1 rfl) ?_
    refine lv_iload_n hx hb dJ0_indexOf_7cf53_28 rfl (lv_at hl 2 rfl) ?_
    refine lv_aload_n hx hb dJ0_indexOf_7cf53_29 rfl (lv_at hl 0 rfl) ?_
    obtain ⟨hks, hM⟩ := if_ok hM
    obtain ⟨z30, hcr, hM⟩ := ob_s hM
    refine res_i0 F hP hS rfl [] rfl rfl (runO_of (n := 0) (As := []) (rest := [.int x2, .int x1, .ref (sa (ks + 2))]) F hP hS rfl [] rfl rfl (c_J0_length_8abf5 l dC dI cI cC cZ sa ks hcr _) gJ0_indexOf_7cf53_J0_length_8abf5 rfl (by decide +kernel) ⟨Nat.le_of_ble_eq_true rfl, Nat.le_of_ble_eq_true rfl⟩ (hKC.2.2.2 ks hks).1 rfl hl.1 rfl (Nat.le_of_ble_eq_true rfl) dJ0_indexOf_7cf53_30 ⟨Nat.zero_le _, Nat.zero_le _⟩) (fun H locs hP hS => ?_)
    exact no_s hM
  · have hM := if_nn hc hM
    refine lv_aload_n hx hb dJ0_indexOf_7cf53_7 rfl (lv_at hl 0 rfl) ?_
    obtain ⟨hks, hM⟩ := if_ok hM
    refine g_getO (hKC.2.2.2 ks hks).2.2.1 hS hx hb hown (hts _ (List.mem_of_getElem? (i := 1) rfl)) dJ0_indexOf_7cf53_8 ?_
    refine lv_iload_n hx hb dJ0_indexOf_7cf53_11 rfl (lv_at hl 1 rfl) ?_
    refine lv_iload_n hx hb dJ0_indexOf_7cf53_12 rfl (lv_at hl 2 rfl) ?_
    refine lv_aload_n hx hb dJ0_indexOf_7cf53_13 rfl (lv_at hl 0 rfl) ?_
    obtain ⟨hks, hM⟩ := if_ok hM
    obtain ⟨z14, hcr, hM⟩ := ob_s hM
    refine res_i0 F hP hS rfl [] rfl rfl (runO_of (n := 0) (As := []) (rest := [.int x2, .int x1, .ref (sa (ks + 2))]) F hP hS rfl [] rfl rfl (c_J0_length_8abf5 l dC dI cI cC cZ sa ks hcr _) gJ0_indexOf_7cf53_J0_length_8abf5 rfl (by decide +kernel) ⟨Nat.le_of_ble_eq_true rfl, Nat.le_of_ble_eq_true rfl⟩ (hKC.2.2.2 ks hks).1 rfl hl.1 rfl (Nat.le_of_ble_eq_true rfl) dJ0_indexOf_7cf53_14 ⟨Nat.zero_le _, Nat.zero_le _⟩) (fun H locs hP hS => ?_)
    obtain ⟨z17, hcr, hM⟩ := ob_s hM
    refine res_i0 F hP hS rfl [] rfl rfl (runS_of (n := 4) (As := [.ref (sa (ks + 2)), .int x1, .int x2, .int z14]) (rest := []) F hP hS rfl [] rfl rfl (c_J1_indexOf_4cfef l dC dI cI cC cZ sa ks x1 x2 z14 hcr _) gJ0_indexOf_7cf53_J1_indexOf_4cfef rfl (by decide +kernel) ⟨Nat.le_of_ble_eq_true rfl, Nat.le_of_ble_eq_true rfl⟩ rfl hl.1 rfl (Nat.le_of_ble_eq_true rfl) dJ0_indexOf_7cf53_17 ⟨Nat.zero_le _, Nat.zero_le _⟩) (fun H locs hP hS => ?_)
    refine lv_goto (tgt := 36) hx hb dJ0_indexOf_7cf53_20 (by decide) ?_
    exact ret_i hx hb hr hlk dJ0_indexOf_7cf53_36 (some_u hM) hP hS
set_option maxHeartbeats 4000000 in
set_option maxRecDepth 100000 in
theorem c_J0_indexOf_0f7a4 (l : Launch) (dC : Nat → ClassId) (dI : Nat → Nat → Nat) (cI cC cZ : ClassId) (sa : Nat → Nat)  (ks : Nat) (x1 : Int32) {res : Int32} (hM : M_J0_indexOf_0f7a4 ks x1 = some res) : CTi l (dC, dI) [(cI, .int), (cC, .char), (cZ, .boolean)] sa yJ0_indexOf_0f7a4 wsJ0_indexOf_0f7a4 (rmd 4) [.ref (sa ks), .int x1] ([] : va_W) (fun (_ : Unit) => ([] : va_W)) (res, ()) := by
  refine CTi.enter (own := RJ0) (cc := cJ0_indexOf_0f7a4) (maxL := 2) (ret := (some .int)) (by decide) rfl rfl (Nat.le_of_ble_eq_true rfl) ?_
  intro pr e s m below meth c A F hr hlk hP hS ls hl
  obtain ⟨⟨hx, hb, hml, hown, hts⟩, hK, hDD, hA, hKC⟩ := id F
  have hl : lv_has ls 2 [(0, .ref (sa ks)), (1, .int x1)] := hl
  have hP : va_P (dC, dI) vwCl ([] : va_W) s.heap := hP
  unfold M_J0_indexOf_0f7a4 at hM
  refine lv_aload_n hx hb dJ0_indexOf_0f7a4_0 rfl (lv_at hl 0 rfl) ?_
  refine lv_iload_n hx hb dJ0_indexOf_0f7a4_1 rfl (lv_at hl 1 rfl) ?_
  refine lv_iconst (v := 0) hx hb dJ0_indexOf_0f7a4_2 (by decide) ?_
  obtain ⟨hks, hM⟩ := if_ok hM
  obtain ⟨z3, hcr, hM⟩ := ob_s hM
  refine res_i0 F hP hS rfl [] rfl rfl (runO_of (n := 2) (As := [.int x1, .int (0 : Int32)]) (rest := []) F hP hS rfl [] rfl rfl (c_J0_indexOf_7cf53 l dC dI cI cC cZ sa ks x1 (0 : Int32) hcr _) gJ0_indexOf_0f7a4_J0_indexOf_7cf53 rfl (by decide +kernel) ⟨Nat.le_of_ble_eq_true rfl, Nat.le_of_ble_eq_true rfl⟩ (hKC.2.2.2 ks hks).1 rfl hl.1 rfl (Nat.le_of_ble_eq_true rfl) dJ0_indexOf_0f7a4_3 ⟨Nat.zero_le _, Nat.zero_le _⟩) (fun H locs hP hS => ?_)
  exact ret_i hx hb hr hlk dJ0_indexOf_0f7a4_6 (some_u hM) hP hS
set_option maxHeartbeats 4000000 in
set_option maxRecDepth 100000 in
theorem c_J6_bitCount_0f7a4 (l : Launch) (dC : Nat → ClassId) (dI : Nat → Nat → Nat) (cI cC cZ : ClassId) (sa : Nat → Nat)  (x1 : Int32) {res : Int32} (hM : M_J6_bitCount_0f7a4 x1 = some res) : CTi l (dC, dI) [(cI, .int), (cC, .char), (cZ, .boolean)] sa yJ6_bitCount_0f7a4 wsJ6_bitCount_0f7a4 (rmd 1) [.int x1] ([] : va_W) (fun (_ : Unit) => ([] : va_W)) (res, ()) := by
  refine CTi.enter (own := RJ6) (cc := cJ6_bitCount_0f7a4) (maxL := 1) (ret := (some .int)) (by decide) rfl rfl (Nat.le_of_ble_eq_true rfl) ?_
  intro pr e s m below meth c A F hr hlk hP hS ls hl
  obtain ⟨⟨hx, hb, hml, hown, hts⟩, hK, hDD, hA, hKC⟩ := id F
  have hl : lv_has ls 1 [(0, .int x1)] := hl
  have hP : va_P (dC, dI) vwCl ([] : va_W) s.heap := hP
  unfold M_J6_bitCount_0f7a4 at hM
  refine lv_iload_n hx hb dJ6_bitCount_0f7a4_0 rfl (lv_at hl 0 rfl) ?_
  refine lv_iload_n hx hb dJ6_bitCount_0f7a4_1 rfl (lv_at hl 0 rfl) ?_
  refine lv_iconst (v := 1) hx hb dJ6_bitCount_0f7a4_2 (by decide) ?_
  refine lv_iushr (v := (x1.toUInt32 >>> ((1 : Int32).toUInt32 &&& Int32.toUInt32 31)).toInt32) hx hb dJ6_bitCount_0f7a4_3 rfl ?_
  refine lv_ldcw (v := 1431655765) hx hb hown (hts _ (List.mem_of_getElem? (i := 1) rfl)) dJ6_bitCount_0f7a4_4 ?_
  refine lv_iand hx hb dJ6_bitCount_0f7a4_7 ?_
  refine lv_isub hx hb dJ6_bitCount_0f7a4_8 ?_
  refine lv_istore_n (lv' := [(0, .int (x1 - (((x1.toUInt32 >>> ((1 : Int32).toUInt32 &&& Int32.toUInt32 31)).toInt32) &&& (1431655765 : Int32))))]) hx hb dJ6_bitCount_0f7a4_9 rfl hl (by decide) rfl (fun ls hl => ?_)
  refine lv_iload_n hx hb dJ6_bitCount_0f7a4_10 rfl (lv_at hl 0 rfl) ?_
  refine lv_ldcw (v := 858993459) hx hb hown (hts _ (List.mem_of_getElem? (i := 2) rfl)) dJ6_bitCount_0f7a4_11 ?_
  refine lv_iand hx hb dJ6_bitCount_0f7a4_14 ?_
  refine lv_iload_n hx hb dJ6_bitCount_0f7a4_15 rfl (lv_at hl 0 rfl) ?_
  refine lv_iconst (v := 2) hx hb dJ6_bitCount_0f7a4_16 (by decide) ?_
  refine lv_iushr (v := ((x1 - (((x1.toUInt32 >>> ((1 : Int32).toUInt32 &&& Int32.toUInt32 31)).toInt32) &&& (1431655765 : Int32))).toUInt32 >>> ((2 : Int32).toUInt32 &&& Int32.toUInt32 31)).toInt32) hx hb dJ6_bitCount_0f7a4_17 rfl ?_
  refine lv_ldcw (v := 858993459) hx hb hown (hts _ (List.mem_of_getElem? (i := 2) rfl)) dJ6_bitCount_0f7a4_18 ?_
  refine lv_iand hx hb dJ6_bitCount_0f7a4_21 ?_
  refine lv_iadd hx hb dJ6_bitCount_0f7a4_22 ?_
  refine lv_istore_n (lv' := [(0, .int (((x1 - (((x1.toUInt32 >>> ((1 : Int32).toUInt32 &&& Int32.toUInt32 31)).toInt32) &&& (1431655765 : Int32))) &&& (858993459 : Int32)) + ((((x1 - (((x1.toUInt32 >>> ((1 : Int32).toUInt32 &&& Int32.toUInt32 31)).toInt32) &&& (1431655765 : Int32))).toUInt32 >>> ((2 : Int32).toUInt32 &&& Int32.toUInt32 31)).toInt32) &&& (858993459 : Int32))))]) hx hb dJ6_bitCount_0f7a4_23 rfl hl (by decide) rfl (fun ls hl => ?_)
  refine lv_iload_n hx hb dJ6_bitCount_0f7a4_24 rfl (lv_at hl 0 rfl) ?_
  refine lv_iload_n hx hb dJ6_bitCount_0f7a4_25 rfl (lv_at hl 0 rfl) ?_
  refine lv_iconst (v := 4) hx hb dJ6_bitCount_0f7a4_26 (by decide) ?_
  refine lv_iushr (v := ((((x1 - (((x1.toUInt32 >>> ((1 : Int32).toUInt32 &&& Int32.toUInt32 31)).toInt32) &&& (1431655765 : Int32))) &&& (858993459 : Int32)) + ((((x1 - (((x1.toUInt32 >>> ((1 : Int32).toUInt32 &&& Int32.toUInt32 31)).toInt32) &&& (1431655765 : Int32))).toUInt32 >>> ((2 : Int32).toUInt32 &&& Int32.toUInt32 31)).toInt32) &&& (858993459 : Int32))).toUInt32 >>> ((4 : Int32).toUInt32 &&& Int32.toUInt32 31)).toInt32) hx hb dJ6_bitCount_0f7a4_27 rfl ?_
  refine lv_iadd hx hb dJ6_bitCount_0f7a4_28 ?_
  refine lv_ldcw (v := 252645135) hx hb hown (hts _ (List.mem_of_getElem? (i := 3) rfl)) dJ6_bitCount_0f7a4_29 ?_
  refine lv_iand hx hb dJ6_bitCount_0f7a4_32 ?_
  refine lv_istore_n (lv' := [(0, .int (((((x1 - (((x1.toUInt32 >>> ((1 : Int32).toUInt32 &&& Int32.toUInt32 31)).toInt32) &&& (1431655765 : Int32))) &&& (858993459 : Int32)) + ((((x1 - (((x1.toUInt32 >>> ((1 : Int32).toUInt32 &&& Int32.toUInt32 31)).toInt32) &&& (1431655765 : Int32))).toUInt32 >>> ((2 : Int32).toUInt32 &&& Int32.toUInt32 31)).toInt32) &&& (858993459 : Int32))) + (((((x1 - (((x1.toUInt32 >>> ((1 : Int32).toUInt32 &&& Int32.toUInt32 31)).toInt32) &&& (1431655765 : Int32))) &&& (858993459 : Int32)) + ((((x1 - (((x1.toUInt32 >>> ((1 : Int32).toUInt32 &&& Int32.toUInt32 31)).toInt32) &&& (1431655765 : Int32))).toUInt32 >>> ((2 : Int32).toUInt32 &&& Int32.toUInt32 31)).toInt32) &&& (858993459 : Int32))).toUInt32 >>> ((4 : Int32).toUInt32 &&& Int32.toUInt32 31)).toInt32)) &&& (252645135 : Int32)))]) hx hb dJ6_bitCount_0f7a4_33 rfl hl (by decide) rfl (fun ls hl => ?_)
  refine lv_iload_n hx hb dJ6_bitCount_0f7a4_34 rfl (lv_at hl 0 rfl) ?_
  refine lv_iload_n hx hb dJ6_bitCount_0f7a4_35 rfl (lv_at hl 0 rfl) ?_
  refine lv_bipush (v := 8) hx hb dJ6_bitCount_0f7a4_36 (by decide) ?_
  refine lv_iushr (v := ((((((x1 - (((x1.toUInt32 >>> ((1 : Int32).toUInt32 &&& Int32.toUInt32 31)).toInt32) &&& (1431655765 : Int32))) &&& (858993459 : Int32)) + ((((x1 - (((x1.toUInt32 >>> ((1 : Int32).toUInt32 &&& Int32.toUInt32 31)).toInt32) &&& (1431655765 : Int32))).toUInt32 >>> ((2 : Int32).toUInt32 &&& Int32.toUInt32 31)).toInt32) &&& (858993459 : Int32))) + (((((x1 - (((x1.toUInt32 >>> ((1 : Int32).toUInt32 &&& Int32.toUInt32 31)).toInt32) &&& (1431655765 : Int32))) &&& (858993459 : Int32)) + ((((x1 - (((x1.toUInt32 >>> ((1 : Int32).toUInt32 &&& Int32.toUInt32 31)).toInt32) &&& (1431655765 : Int32))).toUInt32 >>> ((2 : Int32).toUInt32 &&& Int32.toUInt32 31)).toInt32) &&& (858993459 : Int32))).toUInt32 >>> ((4 : Int32).toUInt32 &&& Int32.toUInt32 31)).toInt32)) &&& (252645135 : Int32)).toUInt32 >>> ((8 : Int32).toUInt32 &&& Int32.toUInt32 31)).toInt32) hx hb dJ6_bitCount_0f7a4_38 rfl ?_
  refine lv_iadd hx hb dJ6_bitCount_0f7a4_39 ?_
  refine lv_istore_n (lv' := [(0, .int ((((((x1 - (((x1.toUInt32 >>> ((1 : Int32).toUInt32 &&& Int32.toUInt32 31)).toInt32) &&& (1431655765 : Int32))) &&& (858993459 : Int32)) + ((((x1 - (((x1.toUInt32 >>> ((1 : Int32).toUInt32 &&& Int32.toUInt32 31)).toInt32) &&& (1431655765 : Int32))).toUInt32 >>> ((2 : Int32).toUInt32 &&& Int32.toUInt32 31)).toInt32) &&& (858993459 : Int32))) + (((((x1 - (((x1.toUInt32 >>> ((1 : Int32).toUInt32 &&& Int32.toUInt32 31)).toInt32) &&& (1431655765 : Int32))) &&& (858993459 : Int32)) + ((((x1 - (((x1.toUInt32 >>> ((1 : Int32).toUInt32 &&& Int32.toUInt32 31)).toInt32) &&& (1431655765 : Int32))).toUInt32 >>> ((2 : Int32).toUInt32 &&& Int32.toUInt32 31)).toInt32) &&& (858993459 : Int32))).toUInt32 >>> ((4 : Int32).toUInt32 &&& Int32.toUInt32 31)).toInt32)) &&& (252645135 : Int32)) + (((((((x1 - (((x1.toUInt32 >>> ((1 : Int32).toUInt32 &&& Int32.toUInt32 31)).toInt32) &&& (1431655765 : Int32))) &&& (858993459 : Int32)) + ((((x1 - (((x1.toUInt32 >>> ((1 : Int32).toUInt32 &&& Int32.toUInt32 31)).toInt32) &&& (1431655765 : Int32))).toUInt32 >>> ((2 : Int32).toUInt32 &&& Int32.toUInt32 31)).toInt32) &&& (858993459 : Int32))) + (((((x1 - (((x1.toUInt32 >>> ((1 : Int32).toUInt32 &&& Int32.toUInt32 31)).toInt32) &&& (1431655765 : Int32))) &&& (858993459 : Int32)) + ((((x1 - (((x1.toUInt32 >>> ((1 : Int32).toUInt32 &&& Int32.toUInt32 31)).toInt32) &&& (1431655765 : Int32))).toUInt32 >>> ((2 : Int32).toUInt32 &&& Int32.toUInt32 31)).toInt32) &&& (858993459 : Int32))).toUInt32 >>> ((4 : Int32).toUInt32 &&& Int32.toUInt32 31)).toInt32)) &&& (252645135 : Int32)).toUInt32 >>> ((8 : Int32).toUInt32 &&& Int32.toUInt32 31)).toInt32)))]) hx hb dJ6_bitCount_0f7a4_40 rfl hl (by decide) rfl (fun ls hl => ?_)
  refine lv_iload_n hx hb dJ6_bitCount_0f7a4_41 rfl (lv_at hl 0 rfl) ?_
  refine lv_iload_n hx hb dJ6_bitCount_0f7a4_42 rfl (lv_at hl 0 rfl) ?_
  refine lv_bipush (v := 16) hx hb dJ6_bitCount_0f7a4_43 (by decide) ?_
  refine lv_iushr (v := (((((((x1 - (((x1.toUInt32 >>> ((1 : Int32).toUInt32 &&& Int32.toUInt32 31)).toInt32) &&& (1431655765 : Int32))) &&& (858993459 : Int32)) + ((((x1 - (((x1.toUInt32 >>> ((1 : Int32).toUInt32 &&& Int32.toUInt32 31)).toInt32) &&& (1431655765 : Int32))).toUInt32 >>> ((2 : Int32).toUInt32 &&& Int32.toUInt32 31)).toInt32) &&& (858993459 : Int32))) + (((((x1 - (((x1.toUInt32 >>> ((1 : Int32).toUInt32 &&& Int32.toUInt32 31)).toInt32) &&& (1431655765 : Int32))) &&& (858993459 : Int32)) + ((((x1 - (((x1.toUInt32 >>> ((1 : Int32).toUInt32 &&& Int32.toUInt32 31)).toInt32) &&& (1431655765 : Int32))).toUInt32 >>> ((2 : Int32).toUInt32 &&& Int32.toUInt32 31)).toInt32) &&& (858993459 : Int32))).toUInt32 >>> ((4 : Int32).toUInt32 &&& Int32.toUInt32 31)).toInt32)) &&& (252645135 : Int32)) + (((((((x1 - (((x1.toUInt32 >>> ((1 : Int32).toUInt32 &&& Int32.toUInt32 31)).toInt32) &&& (1431655765 : Int32))) &&& (858993459 : Int32)) + ((((x1 - (((x1.toUInt32 >>> ((1 : Int32).toUInt32 &&& Int32.toUInt32 31)).toInt32) &&& (1431655765 : Int32))).toUInt32 >>> ((2 : Int32).toUInt32 &&& Int32.toUInt32 31)).toInt32) &&& (858993459 : Int32))) + (((((x1 - (((x1.toUInt32 >>> ((1 : Int32).toUInt32 &&& Int32.toUInt32 31)).toInt32) &&& (1431655765 : Int32))) &&& (858993459 : Int32)) + ((((x1 - (((x1.toUInt32 >>> ((1 : Int32).toUInt32 &&& Int32.toUInt32 31)).toInt32) &&& (1431655765 : Int32))).toUInt32 >>> ((2 : Int32).toUInt32 &&& Int32.toUInt32 31)).toInt32) &&& (858993459 : Int32))).toUInt32 >>> ((4 : Int32).toUInt32 &&& Int32.toUInt32 31)).toInt32)) &&& (252645135 : Int32)).toUInt32 >>> ((8 : Int32).toUInt32 &&& Int32.toUInt32 31)).toInt32)).toUInt32 >>> ((16 : Int32).toUInt32 &&& Int32.toUInt32 31)).toInt32) hx hb dJ6_bitCount_0f7a4_45 rfl ?_
  refine lv_iadd hx hb dJ6_bitCount_0f7a4_46 ?_
  refine lv_istore_n (lv' := [(0, .int (((((((x1 - (((x1.toUInt32 >>> ((1 : Int32).toUInt32 &&& Int32.toUInt32 31)).toInt32) &&& (1431655765 : Int32))) &&& (858993459 : Int32)) + ((((x1 - (((x1.toUInt32 >>> ((1 : Int32).toUInt32 &&& Int32.toUInt32 31)).toInt32) &&& (1431655765 : Int32))).toUInt32 >>> ((2 : Int32).toUInt32 &&& Int32.toUInt32 31)).toInt32) &&& (858993459 : Int32))) + (((((x1 - (((x1.toUInt32 >>> ((1 : Int32).toUInt32 &&& Int32.toUInt32 31)).toInt32) &&& (1431655765 : Int32))) &&& (858993459 : Int32)) + ((((x1 - (((x1.toUInt32 >>> ((1 : Int32).toUInt32 &&& Int32.toUInt32 31)).toInt32) &&& (1431655765 : Int32))).toUInt32 >>> ((2 : Int32).toUInt32 &&& Int32.toUInt32 31)).toInt32) &&& (858993459 : Int32))).toUInt32 >>> ((4 : Int32).toUInt32 &&& Int32.toUInt32 31)).toInt32)) &&& (252645135 : Int32)) + (((((((x1 - (((x1.toUInt32 >>> ((1 : Int32).toUInt32 &&& Int32.toUInt32 31)).toInt32) &&& (1431655765 : Int32))) &&& (858993459 : Int32)) + ((((x1 - (((x1.toUInt32 >>> ((1 : Int32).toUInt32 &&& Int32.toUInt32 31)).toInt32) &&& (1431655765 : Int32))).toUInt32 >>> ((2 : Int32).toUInt32 &&& Int32.toUInt32 31)).toInt32) &&& (858993459 : Int32))) + (((((x1 - (((x1.toUInt32 >>> ((1 : Int32).toUInt32 &&& Int32.toUInt32 31)).toInt32) &&& (1431655765 : Int32))) &&& (858993459 : Int32)) + ((((x1 - (((x1.toUInt32 >>> ((1 : Int32).toUInt32 &&& Int32.toUInt32 31)).toInt32) &&& (1431655765 : Int32))).toUInt32 >>> ((2 : Int32).toUInt32 &&& Int32.toUInt32 31)).toInt32) &&& (858993459 : Int32))).toUInt32 >>> ((4 : Int32).toUInt32 &&& Int32.toUInt32 31)).toInt32)) &&& (252645135 : Int32)).toUInt32 >>> ((8 : Int32).toUInt32 &&& Int32.toUInt32 31)).toInt32)) + ((((((((x1 - (((x1.toUInt32 >>> ((1 : Int32).toUInt32 &&& Int32.toUInt32 31)).toInt32) &&& (1431655765 : Int32))) &&& (858993459 : Int32)) + ((((x1 - (((x1.toUInt32 >>> ((1 : Int32).toUInt32 &&& Int32.toUInt32 31)).toInt32) &&& (1431655765 : Int32))).toUInt32 >>> ((2 : Int32).toUInt32 &&& Int32.toUInt32 31)).toInt32) &&& (858993459 : Int32))) + (((((x1 - (((x1.toUInt32 >>> ((1 : Int32).toUInt32 &&& Int32.toUInt32 31)).toInt32) &&& (1431655765 : Int32))) &&& (858993459 : Int32)) + ((((x1 - (((x1.toUInt32 >>> ((1 : Int32).toUInt32 &&& Int32.toUInt32 31)).toInt32) &&& (1431655765 : Int32))).toUInt32 >>> ((2 : Int32).toUInt32 &&& Int32.toUInt32 31)).toInt32) &&& (858993459 : Int32))).toUInt32 >>> ((4 : Int32).toUInt32 &&& Int32.toUInt32 31)).toInt32)) &&& (252645135 : Int32)) + (((((((x1 - (((x1.toUInt32 >>> ((1 : Int32).toUInt32 &&& Int32.toUInt32 31)).toInt32) &&& (1431655765 : Int32))) &&& (858993459 : Int32)) + ((((x1 - (((x1.toUInt32 >>> ((1 : Int32).toUInt32 &&& Int32.toUInt32 31)).toInt32) &&& (1431655765 : Int32))).toUInt32 >>> ((2 : Int32).toUInt32 &&& Int32.toUInt32 31)).toInt32) &&& (858993459 : Int32))) + (((((x1 - (((x1.toUInt32 >>> ((1 : Int32).toUInt32 &&& Int32.toUInt32 31)).toInt32) &&& (1431655765 : Int32))) &&& (858993459 : Int32)) + ((((x1 - (((x1.toUInt32 >>> ((1 : Int32).toUInt32 &&& Int32.toUInt32 31)).toInt32) &&& (1431655765 : Int32))).toUInt32 >>> ((2 : Int32).toUInt32 &&& Int32.toUInt32 31)).toInt32) &&& (858993459 : Int32))).toUInt32 >>> ((4 : Int32).toUInt32 &&& Int32.toUInt32 31)).toInt32)) &&& (252645135 : Int32)).toUInt32 >>> ((8 : Int32).toUInt32 &&& Int32.toUInt32 31)).toInt32)).toUInt32 >>> ((16 : Int32).toUInt32 &&& Int32.toUInt32 31)).toInt32)))]) hx hb dJ6_bitCount_0f7a4_47 rfl hl (by decide) rfl (fun ls hl => ?_)
  refine lv_iload_n hx hb dJ6_bitCount_0f7a4_48 rfl (lv_at hl 0 rfl) ?_
  refine lv_bipush (v := 63) hx hb dJ6_bitCount_0f7a4_49 (by decide) ?_
  refine lv_iand hx hb dJ6_bitCount_0f7a4_51 ?_
  exact ret_i hx hb hr hlk dJ6_bitCount_0f7a4_52 (some_u hM) hP hS
set_option maxHeartbeats 4000000 in
set_option maxRecDepth 100000 in
theorem c_J7_fill_53178 (l : Launch) (dC : Nat → ClassId) (dI : Nat → Nat → Nat) (cI cC cZ : ClassId) (sa : Nat → Nat) (a0 : Nat) (n : Nat) (f : AR) (x2 : Int32) {res : AR} (hM : M_J7_fill_53178 n f x2 = some res) : CTv l (dC, dI) [(cI, .int), (cC, .char), (cZ, .boolean)] sa yJ7_fill_53178 wsJ7_fill_53178 (rmd 1) [.ref a0, .int x2] (wArr cI n a0 f) (fun (uu : AR) => (wArr cI n a0 uu)) res := by
  refine CTv.enter (own := RJ7) (cc := cJ7_fill_53178) (maxL := 4) (ret := none) (by decide) rfl rfl (Nat.le_of_ble_eq_true rfl) ?_
  intro pr e s m below meth c A F hr hlk hP hS ls hl
  obtain ⟨⟨hx, hb, hml, hown, hts⟩, hK, hDD, hA, hKC⟩ := id F
  have hl : lv_has ls 4 [(0, .ref a0), (1, .int x2)] := hl
  have hP : va_P (dC, dI) vwCl (wArr cI n a0 f) s.heap := hP
  unfold M_J7_fill_53178 at hM
  refine kloop (α := AR × Int32 × Int32) (res := res) (fun k a => M_J7_fill_53178_5 n x2 k a) (fun rec a => M_J7_fill_53178_5b n x2 rec a) (fun _ => rfl) (fun _ _ => rfl) F (fun a => (wArr cI n a0 a.1)) (fun a => [(0, .ref a0), (1, .int x2), (2, .int a.2.1), (3, .int a.2.2)]) (fun a => []) 5 ?_ (fun j5 => ?_)
  · intro rc5 ih5 a5 H locs ls hP hS hl hM
    unfold M_J7_fill_53178_5b at hM
    refine lv_iload_n hx hb dJ7_fill_53178_5 rfl (lv_at hl 2 rfl) ?_
    refine lv_iload_n hx hb dJ7_fill_53178_6 rfl (lv_at hl 3 rfl) ?_
    refine lv_icmp_ge (tgt := 20) hx hb dJ7_fill_53178_7 (by decide) (fun hc => ?_) (fun hc => ?_)
    · have hM := if_pp hc hM
      exact ret_v hx hb hr hlk dJ7_fill_53178_20 hM hP hS
    · have hM := if_nn hc hM
      refine lv_aload_n hx hb dJ7_fill_53178_10 rfl (lv_at hl 0 rfl) ?_
      refine lv_iload_n hx hb dJ7_fill_53178_11 rfl (lv_at hl 2 rfl) ?_
      refine lv_iload_n hx hb dJ7_fill_53178_12 rfl (lv_at hl 1 rfl) ?_
      obtain ⟨hin, hM⟩ := if_ok hM
      refine g_iast (ws' := (wArr cI n a0 (upd a5.1 a5.2.1.toNatClampNeg x2))) F hP hS rfl 0 0 rfl rfl hin dJ7_fill_53178_13 rfl (fun H locs hP hS => ?_)
      refine lv_iinc (v := (a5.2.1 + (1 : Int32))) (lv' := [(2, .int (a5.2.1 + (1 : Int32))), (0, .ref a0), (1, .int x2), (3, .int a5.2.2)]) hx hb dJ7_fill_53178_14 hl (k := 2) rfl rfl (by decide) rfl (fun ls hl => ?_)
      refine lv_goto (tgt := 5) hx hb dJ7_fill_53178_17 (by decide) ?_
      exact ih5 ((upd a5.1 a5.2.1.toNatClampNeg x2), (a5.2.1 + (1 : Int32)), a5.2.2) _ _ _ hP hS (lv_sub hl [1, 2, 0, 3] rfl) hM
  refine lv_iconst (v := 0) hx hb dJ7_fill_53178_0 (by decide) ?_
  refine lv_istore_n (lv' := [(2, .int (0 : Int32)), (0, .ref a0), (1, .int x2)]) hx hb dJ7_fill_53178_1 rfl hl (by decide) rfl (fun ls hl => ?_)
  refine lv_aload_n hx hb dJ7_fill_53178_2 rfl (lv_at hl 1 rfl) ?_
  refine va_alen (v := (nI n)) hx hb hK hP 0 0 rfl rfl rfl dJ7_fill_53178_3 ?_
  refine lv_istore_n (lv' := [(3, .int (nI n)), (2, .int (0 : Int32)), (0, .ref a0), (1, .int x2)]) hx hb dJ7_fill_53178_4 rfl hl (by decide) rfl (fun ls hl => ?_)
  exact j5 200 (f, (0 : Int32), (nI n)) _ _ _ hP hS (lv_sub hl [2, 3, 1, 0] rfl) hM
set_option maxHeartbeats 4000000 in
set_option maxRecDepth 100000 in
theorem c_X8_bit (l : Launch) (dC : Nat → ClassId) (dI : Nat → Nat → Nat) (cI cC cZ : ClassId) (sa : Nat → Nat)  (x1 : Int32) {res : Int32} (hM : M_X8_bit x1 = some res) : CTi l (dC, dI) [(cI, .int), (cC, .char), (cZ, .boolean)] sa yX8_bit wsX8_bit (rmd 1) [.int x1] ([] : va_W) (fun (_ : Unit) => ([] : va_W)) (res, ()) := by
  refine CTi.enter (own := RX8) (cc := cX8_bit) (maxL := 1) (ret := (some .int)) (by decide) rfl rfl (Nat.le_of_ble_eq_true rfl) ?_
  intro pr e s m below meth c A F hr hlk hP hS ls hl
  obtain ⟨⟨hx, hb, hml, hown, hts⟩, hK, hDD, hA, hKC⟩ := id F
  have hl : lv_has ls 1 [(0, .int x1)] := hl
  have hP : va_P (dC, dI) vwCl ([] : va_W) s.heap := hP
  unfold M_X8_bit at hM
  refine lv_iconst (v := 1) hx hb dX8_bit_0 (by decide) ?_
  refine lv_iload_n hx hb dX8_bit_1 rfl (lv_at hl 0 rfl) ?_
  refine lv_ishl hx hb dX8_bit_2 ?_
  exact ret_i hx hb hr hlk dX8_bit_3 (some_u hM) hP hS
set_option maxHeartbeats 4000000 in
set_option maxRecDepth 100000 in
theorem c_X8_at (l : Launch) (dC : Nat → ClassId) (dI : Nat → Nat → Nat) (cI cC cZ : ClassId) (sa : Nat → Nat) (a0 : Nat) (n : Nat) (f : AR) (x2 : Int32) {res : Int32} (hM : M_X8_at n f x2 = some res) : CTi l (dC, dI) [(cI, .int), (cC, .char), (cZ, .boolean)] sa yX8_at wsX8_at (rmd 1) [.ref a0, .int x2] (wArr cI n a0 f) (fun (_ : Unit) => (wArr cI n a0 f)) (res, ()) := by
  refine CTi.enter (own := RX8) (cc := cX8_at) (maxL := 2) (ret := (some .int)) (by decide) rfl rfl (Nat.le_of_ble_eq_true rfl) ?_
  intro pr e s m below meth c A F hr hlk hP hS ls hl
  obtain ⟨⟨hx, hb, hml, hown, hts⟩, hK, hDD, hA, hKC⟩ := id F
  have hl : lv_has ls 2 [(0, .ref a0), (1, .int x2)] := hl
  have hP : va_P (dC, dI) vwCl (wArr cI n a0 f) s.heap := hP
  unfold M_X8_at at hM
  refine lv_iload_n hx hb dX8_at_0 rfl (lv_at hl 1 rfl) ?_
  refine lv_if_lt (tgt := 16) hx hb dX8_at_1 (by decide) (fun hc => ?_) (fun hc => ?_)
  · have hM := if_pp hc hM
    refine lv_iconst (v := 0) hx hb dX8_at_16 (by decide) ?_
    exact ret_i hx hb hr hlk dX8_at_17 (some_u hM) hP hS
  · have hM := if_nn hc hM
    refine lv_iload_n hx hb dX8_at_4 rfl (lv_at hl 1 rfl) ?_
    refine lv_aload_n hx hb dX8_at_5 rfl (lv_at hl 0 rfl) ?_
    refine va_alen (v := (nI n)) hx hb hK hP 0 0 rfl rfl rfl dX8_at_6 ?_
    refine lv_icmp_ge (tgt := 16) hx hb dX8_at_7 (by decide) (fun hc => ?_) (fun hc => ?_)
    · have hM := if_pp hc hM
      refine lv_iconst (v := 0) hx hb dX8_at_16 (by decide) ?_
      exact ret_i hx hb hr hlk dX8_at_17 (some_u hM) hP hS
    · have hM := if_nn hc hM
      refine lv_aload_n hx hb dX8_at_10 rfl (lv_at hl 0 rfl) ?_
      refine lv_iload_n hx hb dX8_at_11 rfl (lv_at hl 1 rfl) ?_
      obtain ⟨hin, hM⟩ := if_ok hM
      refine va_iald hx hb hK hP 0 0 rfl rfl hin dX8_at_12 ?_
      refine lv_goto (tgt := 17) hx hb dX8_at_13 (by decide) ?_
      exact ret_i hx hb hr hlk dX8_at_17 (some_u hM) hP hS
set_option maxHeartbeats 4000000 in
set_option maxRecDepth 100000 in
theorem c_X8_put (l : Launch) (dC : Nat → ClassId) (dI : Nat → Nat → Nat) (cI cC cZ : ClassId) (sa : Nat → Nat) (a0 : Nat) (n : Nat) (f : AR) (x2 : Int32) (x3 : Int32) {res : AR} (hM : M_X8_put n f x2 x3 = some res) : CTv l (dC, dI) [(cI, .int), (cC, .char), (cZ, .boolean)] sa yX8_put wsX8_put (rmd 1) [.ref a0, .int x2, .int x3] (wArr cI n a0 f) (fun (uu : AR) => (wArr cI n a0 uu)) res := by
  refine CTv.enter (own := RX8) (cc := cX8_put) (maxL := 3) (ret := none) (by decide) rfl rfl (Nat.le_of_ble_eq_true rfl) ?_
  intro pr e s m below meth c A F hr hlk hP hS ls hl
  obtain ⟨⟨hx, hb, hml, hown, hts⟩, hK, hDD, hA, hKC⟩ := id F
  have hl : lv_has ls 3 [(0, .ref a0), (1, .int x2), (2, .int x3)] := hl
  have hP : va_P (dC, dI) vwCl (wArr cI n a0 f) s.heap := hP
  unfold M_X8_put at hM
  refine lv_iload_n hx hb dX8_put_0 rfl (lv_at hl 1 rfl) ?_
  refine lv_if_lt (tgt := 14) hx hb dX8_put_1 (by decide) (fun hc => ?_) (fun hc => ?_)
  · have hM := if_pp hc hM
    exact ret_v hx hb hr hlk dX8_put_14 hM hP hS
  · have hM := if_nn hc hM
    refine lv_iload_n hx hb dX8_put_4 rfl (lv_at hl 1 rfl) ?_
    refine lv_aload_n hx hb dX8_put_5 rfl (lv_at hl 0 rfl) ?_
    refine va_alen (v := (nI n)) hx hb hK hP 0 0 rfl rfl rfl dX8_put_6 ?_
    refine lv_icmp_ge (tgt := 14) hx hb dX8_put_7 (by decide) (fun hc => ?_) (fun hc => ?_)
    · have hM := if_pp hc hM
      exact ret_v hx hb hr hlk dX8_put_14 hM hP hS
    · have hM := if_nn hc hM
      refine lv_aload_n hx hb dX8_put_10 rfl (lv_at hl 0 rfl) ?_
      refine lv_iload_n hx hb dX8_put_11 rfl (lv_at hl 1 rfl) ?_
      refine lv_iload_n hx hb dX8_put_12 rfl (lv_at hl 2 rfl) ?_
      obtain ⟨hin, hM⟩ := if_ok hM
      refine g_iast (ws' := (wArr cI n a0 (upd f x2.toNatClampNeg x3))) F hP hS rfl 0 0 rfl rfl hin dX8_put_13 rfl (fun H locs hP hS => ?_)
      exact ret_v hx hb hr hlk dX8_put_14 hM hP hS
set_option maxHeartbeats 4000000 in
set_option maxRecDepth 100000 in
theorem c_X8_cellOf (l : Launch) (dC : Nat → ClassId) (dI : Nat → Nat → Nat) (cI cC cZ : ClassId) (sa : Nat → Nat)  (x1 : Int32) {res : Int32} (hM : M_X8_cellOf x1 = some res) : CTi l (dC, dI) [(cI, .int), (cC, .char), (cZ, .boolean)] sa yX8_cellOf wsX8_cellOf (rmd 2) [.int x1] ([] : va_W) (fun (_ : Unit) => ([] : va_W)) (res, ()) := by
  refine CTi.enter (own := RX8) (cc := cX8_cellOf) (maxL := 1) (ret := (some .int)) (by decide) rfl rfl (Nat.le_of_ble_eq_true rfl) ?_
  intro pr e s m below meth c A F hr hlk hP hS ls hl
  obtain ⟨⟨hx, hb, hml, hown, hts⟩, hK, hDD, hA, hKC⟩ := id F
  have hl : lv_has ls 1 [(0, .int x1)] := hl
  have hP : va_P (dC, dI) vwCl ([] : va_W) s.heap := hP
  unfold M_X8_cellOf at hM
  refine lv_iload_n hx hb dX8_cellOf_0 rfl (lv_at hl 0 rfl) ?_
  refine lv_iconst (v := 1) hx hb dX8_cellOf_1 (by decide) ?_
  refine lv_isub hx hb dX8_cellOf_2 ?_
  obtain ⟨z3, hcr, hM⟩ := ob_s hM
  refine res_i0 F hP hS rfl [] rfl rfl (runS_of (n := 1) (As := [.int (x1 - (1 : Int32))]) (rest := []) F hP hS rfl [] rfl rfl (c_J6_bitCount_0f7a4 l dC dI cI cC cZ sa (x1 - (1 : Int32)) hcr _) gX8_cellOf_J6_bitCount_0f7a4 rfl (by decide +kernel) ⟨Nat.le_of_ble_eq_true rfl, Nat.le_of_ble_eq_true rfl⟩ rfl hl.1 rfl (Nat.le_of_ble_eq_true rfl) dX8_cellOf_3 ⟨Nat.zero_le _, Nat.zero_le _⟩) (fun H locs hP hS => ?_)
  exact ret_i hx hb hr hlk dX8_cellOf_6 (some_u hM) hP hS
set_option maxHeartbeats 4000000 in
set_option maxRecDepth 100000 in
theorem c_X8_has (l : Launch) (dC : Nat → ClassId) (dI : Nat → Nat → Nat) (cI cC cZ : ClassId) (sa : Nat → Nat)  (x1 : Int32) (x2 : Int32) {res : Int32} (hM : M_X8_has x1 x2 = some res) : CTi l (dC, dI) [(cI, .int), (cC, .char), (cZ, .boolean)] sa yX8_has wsX8_has (rmd 1) [.int x1, .int x2] ([] : va_W) (fun (_ : Unit) => ([] : va_W)) (res, ()) := by
  refine CTi.enter (own := RX8) (cc := cX8_has) (maxL := 2) (ret := (some .boolean)) (by decide) rfl rfl (Nat.le_of_ble_eq_true rfl) ?_
  intro pr e s m below meth c A F hr hlk hP hS ls hl
  obtain ⟨⟨hx, hb, hml, hown, hts⟩, hK, hDD, hA, hKC⟩ := id F
  have hl : lv_has ls 2 [(0, .int x1), (1, .int x2)] := hl
  have hP : va_P (dC, dI) vwCl ([] : va_W) s.heap := hP
  unfold M_X8_has at hM
  refine lv_iload_n hx hb dX8_has_0 rfl (lv_at hl 0 rfl) ?_
  refine lv_iload_n hx hb dX8_has_1 rfl (lv_at hl 1 rfl) ?_
  refine lv_iushr (v := (x1.toUInt32 >>> (x2.toUInt32 &&& Int32.toUInt32 31)).toInt32) hx hb dX8_has_2 rfl ?_
  refine lv_iconst (v := 1) hx hb dX8_has_3 (by decide) ?_
  refine lv_iand hx hb dX8_has_4 ?_
  refine lv_if_eq (tgt := 12) hx hb dX8_has_5 (by decide) (fun hc => ?_) (fun hc => ?_)
  · have hM := if_pp hc hM
    refine lv_iconst (v := 0) hx hb dX8_has_12 (by decide) ?_
    exact ret_z hx hb hr hlk dX8_has_13 (by decide) (some_u hM) hP hS
  · have hM := if_nn hc hM
    refine lv_iconst (v := 1) hx hb dX8_has_8 (by decide) ?_
    refine lv_goto (tgt := 13) hx hb dX8_has_9 (by decide) ?_
    exact ret_z hx hb hr hlk dX8_has_13 (by decide) (some_u hM) hP hS
set_option maxHeartbeats 4000000 in
set_option maxRecDepth 100000 in
theorem c_X8_within (l : Launch) (dC : Nat → ClassId) (dI : Nat → Nat → Nat) (cI cC cZ : ClassId) (sa : Nat → Nat)  (x1 : Int32) (x2 : Int32) (x3 : Int32) {res : Int32} (hM : M_X8_within x1 x2 x3 = some res) : CTi l (dC, dI) [(cI, .int), (cC, .char), (cZ, .boolean)] sa yX8_within wsX8_within (rmd 1) [.int x1, .int x2, .int x3] ([] : va_W) (fun (_ : Unit) => ([] : va_W)) (res, ()) := by
  refine CTi.enter (own := RX8) (cc := cX8_within) (maxL := 3) (ret := (some .boolean)) (by decide) rfl rfl (Nat.le_of_ble_eq_true rfl) ?_
  intro pr e s m below meth c A F hr hlk hP hS ls hl
  obtain ⟨⟨hx, hb, hml, hown, hts⟩, hK, hDD, hA, hKC⟩ := id F
  have hl : lv_has ls 3 [(0, .int x1), (1, .int x2), (2, .int x3)] := hl
  have hP : va_P (dC, dI) vwCl ([] : va_W) s.heap := hP
  unfold M_X8_within at hM
  refine lv_iload_n hx hb dX8_within_0 rfl (lv_at hl 0 rfl) ?_
  refine lv_iload_n hx hb dX8_within_1 rfl (lv_at hl 1 rfl) ?_
  refine lv_icmp_lt (tgt := 14) hx hb dX8_within_2 (by decide) (fun hc => ?_) (fun hc => ?_)
  · have hM := if_pp hc hM
    refine lv_iconst (v := 0) hx hb dX8_within_14 (by decide) ?_
    exact ret_z hx hb hr hlk dX8_within_15 (by decide) (some_u hM) hP hS
  · have hM := if_nn hc hM
    refine lv_iload_n hx hb dX8_within_5 rfl (lv_at hl 0 rfl) ?_
    refine lv_iload_n hx hb dX8_within_6 rfl (lv_at hl 2 rfl) ?_
    refine lv_icmp_gt (tgt := 14) hx hb dX8_within_7 (by decide) (fun hc => ?_) (fun hc => ?_)
    · have hM := if_pp hc hM
      refine lv_iconst (v := 0) hx hb dX8_within_14 (by decide) ?_
      exact ret_z hx hb hr hlk dX8_within_15 (by decide) (some_u hM) hP hS
    · have hM := if_nn hc hM
      refine lv_iconst (v := 1) hx hb dX8_within_10 (by decide) ?_
      refine lv_goto (tgt := 15) hx hb dX8_within_11 (by decide) ?_
      exact ret_z hx hb hr hlk dX8_within_15 (by decide) (some_u hM) hP hS
set_option maxHeartbeats 4000000 in
set_option maxRecDepth 100000 in
theorem c_X8_stepTold (l : Launch) (dC : Nat → ClassId) (dI : Nat → Nat → Nat) (cI cC cZ : ClassId) (sa : Nat → Nat)  (x1 : Int32) (x2 : Int32) (x3 : Int32) {res : Int32} (hM : M_X8_stepTold x1 x2 x3 = some res) : CTi l (dC, dI) [(cI, .int), (cC, .char), (cZ, .boolean)] sa yX8_stepTold wsX8_stepTold (rmd 1) [.int x1, .int x2, .int x3] ([] : va_W) (fun (_ : Unit) => ([] : va_W)) (res, ()) := by
  refine CTi.enter (own := RX8) (cc := cX8_stepTold) (maxL := 5) (ret := (some .int)) (by decide) rfl rfl (Nat.le_of_ble_eq_true rfl) ?_
  intro pr e s m below meth c A F hr hlk hP hS ls hl
  obtain ⟨⟨hx, hb, hml, hown, hts⟩, hK, hDD, hA, hKC⟩ := id F
  have hl : lv_has ls 5 [(0, .int x1), (1, .int x2), (2, .int x3)] := hl
  have hP : va_P (dC, dI) vwCl ([] : va_W) s.heap := hP
  unfold M_X8_stepTold at hM
  refine kloop (α := Int32 × Int32) (res := res) (fun k a => M_X8_stepTold_7 x1 x2 x3 k a) (fun rec a => M_X8_stepTold_7b x1 x2 x3 rec a) (fun _ => rfl) (fun _ _ => rfl) F (fun a => ([] : va_W)) (fun a => [(2, .int x3), (3, .int a.1), (4, .int a.2)]) (fun a => []) 7 ?_ (fun j7 => ?_)
  · intro rc7 ih7 a7 H locs ls hP hS hl hM
    unfold M_X8_stepTold_7b at hM
    refine lv_iload hx hb dX8_stepTold_7 (lv_at hl 2 rfl) ?_
    refine lv_iload_n hx hb dX8_stepTold_9 rfl (lv_at hl 0 rfl) ?_
    refine lv_icmp_le (tgt := 23) hx hb dX8_stepTold_10 (by decide) (fun hc => ?_) (fun hc => ?_)
    · have hM := if_pp hc hM
      refine lv_iload_n hx hb dX8_stepTold_23 rfl (lv_at hl 1 rfl) ?_
      refine lv_iconst (v := 5) hx hb dX8_stepTold_24 (by decide) ?_
      obtain ⟨hne, hM⟩ := if_ok hM
      refine lv_irem hx hb dX8_stepTold_25 hne ?_
      exact ret_i hx hb hr hlk dX8_stepTold_26 (some_u hM) hP hS
    · have hM := if_nn hc hM
      refine lv_iload_n hx hb dX8_stepTold_13 rfl (lv_at hl 1 rfl) ?_
      refine lv_iconst (v := 5) hx hb dX8_stepTold_14 (by decide) ?_
      obtain ⟨hne, hM⟩ := if_ok hM
      refine lv_idiv hx hb dX8_stepTold_15 hne ?_
      refine lv_istore_n (lv' := [(3, .int (a7.1 / (5 : Int32))), (2, .int x3), (4, .int a7.2)]) hx hb dX8_stepTold_16 rfl hl (by decide) rfl (fun ls hl => ?_)
      refine lv_iinc (v := (a7.2 + (-1 : Int32))) (lv' := [(4, .int (a7.2 + (-1 : Int32))), (3, .int (a7.1 / (5 : Int32))), (2, .int x3)]) hx hb dX8_stepTold_17 hl (k := 2) rfl rfl (by decide) rfl (fun ls hl => ?_)
      refine lv_goto (tgt := 7) hx hb dX8_stepTold_20 (by decide) ?_
      exact ih7 ((a7.1 / (5 : Int32)), (a7.2 + (-1 : Int32))) _ _ _ hP hS (lv_sub hl [2, 1, 0] rfl) hM
  refine lv_iload_n hx hb dX8_stepTold_0 rfl (lv_at hl 0 rfl) ?_
  refine lv_istore_n (lv' := [(3, .int x1), (0, .int x1), (1, .int x2), (2, .int x3)]) hx hb dX8_stepTold_1 rfl hl (by decide) rfl (fun ls hl => ?_)
  refine lv_iload_n hx hb dX8_stepTold_2 rfl (lv_at hl 2 rfl) ?_
  refine lv_iconst (v := 1) hx hb dX8_stepTold_3 (by decide) ?_
  refine lv_isub hx hb dX8_stepTold_4 ?_
  refine lv_istore (lv' := [(4, .int (x2 - (1 : Int32))), (3, .int x1), (0, .int x1), (1, .int x2), (2, .int x3)]) hx hb dX8_stepTold_5 hl (by decide) rfl (fun ls hl => ?_)
  exact j7 200 (x1, (x2 - (1 : Int32))) _ _ _ hP hS (lv_sub hl [4, 1, 0] rfl) hM
set_option maxHeartbeats 4000000 in
set_option maxRecDepth 100000 in
theorem c_X8_longPower (l : Launch) (dC : Nat → ClassId) (dI : Nat → Nat → Nat) (cI cC cZ : ClassId) (sa : Nat → Nat)  (x1 : Int32) (x2 : Int32) {res : Int64} (hM : M_X8_longPower x1 x2 = some res) : CTl l (dC, dI) [(cI, .int), (cC, .char), (cZ, .boolean)] sa yX8_longPower wsX8_longPower (rmd 1) [.int x1, .int x2] ([] : va_W) (fun (_ : Unit) => ([] : va_W)) (res, ()) := by
  refine CTl.enter (own := RX8) (cc := cX8_longPower) (maxL := 5) (ret := (some .long)) (by decide) rfl rfl (Nat.le_of_ble_eq_true rfl) ?_
  intro pr e s m below meth c A F hr hlk hP hS ls hl
  obtain ⟨⟨hx, hb, hml, hown, hts⟩, hK, hDD, hA, hKC⟩ := id F
  have hl : lv_has ls 5 [(0, .int x1), (1, .int x2)] := hl
  have hP : va_P (dC, dI) vwCl ([] : va_W) s.heap := hP
  unfold M_X8_longPower at hM
  refine kloop (α := Int64 × Int32) (res := res) (fun k a => M_X8_longPower_5 x1 x2 k a) (fun rec a => M_X8_longPower_5b x1 x2 rec a) (fun _ => rfl) (fun _ _ => rfl) F (fun a => ([] : va_W)) (fun a => [(0, .int x1), (1, .int x2), (2, .long a.1), (4, .int a.2)]) (fun a => []) 5 ?_ (fun j5 => ?_)
  · intro rc5 ih5 a5 H locs ls hP hS hl hM
    unfold M_X8_longPower_5b at hM
    refine lv_iload hx hb dX8_longPower_5 (lv_at hl 3 rfl) ?_
    refine lv_iload_n hx hb dX8_longPower_7 rfl (lv_at hl 1 rfl) ?_
    refine lv_icmp_ge (tgt := 22) hx hb dX8_longPower_8 (by decide) (fun hc => ?_) (fun hc => ?_)
    · have hM := if_pp hc hM
      refine lv_lload_n hx hb dX8_longPower_22 rfl (lv_at hl 2 rfl) ?_
      exact ret_l hx hb hr hlk dX8_longPower_23 (some_u hM) hP hS
    · have hM := if_nn hc hM
      refine lv_lload_n hx hb dX8_longPower_11 rfl (lv_at hl 2 rfl) ?_
      refine lv_iload_n hx hb dX8_longPower_12 rfl (lv_at hl 0 rfl) ?_
      refine lv_i2l (v := x1.toInt64) hx hb dX8_longPower_13 rfl ?_
      refine lv_lmul hx hb dX8_longPower_14 ?_
      refine lv_lstore_n (lv' := [(2, .long (a5.1 * x1.toInt64)), (0, .int x1), (1, .int x2), (4, .int a5.2)]) hx hb dX8_longPower_15 rfl hl (by decide) rfl (fun ls hl => ?_)
      refine lv_iinc (v := (a5.2 + (1 : Int32))) (lv' := [(4, .int (a5.2 + (1 : Int32))), (2, .long (a5.1 * x1.toInt64)), (0, .int x1), (1, .int x2)]) hx hb dX8_longPower_16 hl (k := 3) rfl rfl (by decide) rfl (fun ls hl => ?_)
      refine lv_goto (tgt := 5) hx hb dX8_longPower_19 (by decide) ?_
      exact ih5 ((a5.1 * x1.toInt64), (a5.2 + (1 : Int32))) _ _ _ hP hS (lv_sub hl [2, 3, 1, 0] rfl) hM
  refine lv_lconst (v := 1) hx hb dX8_longPower_0 (by decide) ?_
  refine lv_lstore_n (lv' := [(2, .long (1 : Int64)), (0, .int x1), (1, .int x2)]) hx hb dX8_longPower_1 rfl hl (by decide) rfl (fun ls hl => ?_)
  refine lv_iconst (v := 0) hx hb dX8_longPower_2 (by decide) ?_
  refine lv_istore (lv' := [(4, .int (0 : Int32)), (2, .long (1 : Int64)), (0, .int x1), (1, .int x2)]) hx hb dX8_longPower_3 hl (by decide) rfl (fun ls hl => ?_)
  exact j5 200 ((1 : Int64), (0 : Int32)) _ _ _ hP hS (lv_sub hl [2, 3, 1, 0] rfl) hM
set_option maxHeartbeats 4000000 in
set_option maxRecDepth 100000 in
theorem c_X8_power (l : Launch) (dC : Nat → ClassId) (dI : Nat → Nat → Nat) (cI cC cZ : ClassId) (sa : Nat → Nat)  (x1 : Int32) (x2 : Int32) {res : Int32} (hM : M_X8_power x1 x2 = some res) : CTi l (dC, dI) [(cI, .int), (cC, .char), (cZ, .boolean)] sa yX8_power wsX8_power (rmd 2) [.int x1, .int x2] ([] : va_W) (fun (_ : Unit) => ([] : va_W)) (res, ()) := by
  refine CTi.enter (own := RX8) (cc := cX8_power) (maxL := 2) (ret := (some .int)) (by decide) rfl rfl (Nat.le_of_ble_eq_true rfl) ?_
  intro pr e s m below meth c A F hr hlk hP hS ls hl
  obtain ⟨⟨hx, hb, hml, hown, hts⟩, hK, hDD, hA, hKC⟩ := id F
  have hl : lv_has ls 2 [(0, .int x1), (1, .int x2)] := hl
  have hP : va_P (dC, dI) vwCl ([] : va_W) s.heap := hP
  unfold M_X8_power at hM
  refine lv_iload_n hx hb dX8_power_0 rfl (lv_at hl 0 rfl) ?_
  refine lv_iload_n hx hb dX8_power_1 rfl (lv_at hl 1 rfl) ?_
  obtain ⟨z2, hcr, hM⟩ := ob_s hM
  refine res_l0 F hP hS rfl [] rfl rfl (runS_of (n := 2) (As := [.int x1, .int x2]) (rest := []) F hP hS rfl [] rfl rfl (c_X8_longPower l dC dI cI cC cZ sa x1 x2 hcr _) gX8_power_X8_longPower rfl (by decide +kernel) ⟨Nat.le_of_ble_eq_true rfl, Nat.le_of_ble_eq_true rfl⟩ rfl hl.1 rfl (Nat.le_of_ble_eq_true rfl) dX8_power_2 ⟨Nat.zero_le _, Nat.zero_le _⟩) (fun H locs hP hS => ?_)
  refine lv_l2i (v := z2.toInt32) hx hb dX8_power_5 rfl ?_
  exact ret_i hx hb hr hlk dX8_power_6 (some_u hM) hP hS
set_option maxHeartbeats 4000000 in
set_option maxRecDepth 100000 in
theorem c_X8_powerOfTenths (l : Launch) (dC : Nat → ClassId) (dI : Nat → Nat → Nat) (cI cC cZ : ClassId) (sa : Nat → Nat)  (x1 : Int32) (x2 : Int32) (x3 : Int32) {res : Int64} (hM : M_X8_powerOfTenths x1 x2 x3 = some res) : CTl l (dC, dI) [(cI, .int), (cC, .char), (cZ, .boolean)] sa yX8_powerOfTenths wsX8_powerOfTenths (rmd 2) [.int x1, .int x2, .int x3] ([] : va_W) (fun (_ : Unit) => ([] : va_W)) (res, ()) := by
  refine CTl.enter (own := RX8) (cc := cX8_powerOfTenths) (maxL := 4) (ret := (some .long)) (by decide) rfl rfl (Nat.le_of_ble_eq_true rfl) ?_
  intro pr e s m below meth c A F hr hlk hP hS ls hl
  obtain ⟨⟨hx, hb, hml, hown, hts⟩, hK, hDD, hA, hKC⟩ := id F
  have hl : lv_has ls 4 [(0, .int x1), (1, .int x2), (2, .int x3)] := hl
  have hP : va_P (dC, dI) vwCl ([] : va_W) s.heap := hP
  unfold M_X8_powerOfTenths at hM
  refine kblk (α := Int32) (res := res) (fun a => M_X8_powerOfTenths_35 x1 x2 x3 a) F (fun a => ([] : va_W)) (fun a => [(1, .int x2)]) (fun a => [.int a]) 35 ?_ (fun j35 => ?_)
  · intro a35 H locs ls hP hS hl hM
    unfold M_X8_powerOfTenths_35 at hM
    refine lv_iload_n hx hb dX8_powerOfTenths_35 rfl (lv_at hl 0 rfl) ?_
    obtain ⟨z36, hcr, hM⟩ := ob_s hM
    refine res_l0 F hP hS rfl [] rfl rfl (runS_of (n := 2) (As := [.int a35, .int x2]) (rest := []) F hP hS rfl [] rfl rfl (c_X8_longPower l dC dI cI cC cZ sa a35 x2 hcr _) gX8_powerOfTenths_X8_longPower rfl (by decide +kernel) ⟨Nat.le_of_ble_eq_true rfl, Nat.le_of_ble_eq_true rfl⟩ rfl hl.1 rfl (Nat.le_of_ble_eq_true rfl) dX8_powerOfTenths_36 ⟨Nat.zero_le _, Nat.zero_le _⟩) (fun H locs hP hS => ?_)
    exact ret_l hx hb hr hlk dX8_powerOfTenths_39 (some_u hM) hP hS
  refine kblk (α := Int32) (res := res) (fun a => M_X8_powerOfTenths_56 x1 x2 x3 a) F (fun a => ([] : va_W)) (fun a => [(1, .int x2)]) (fun a => [.int a]) 56 ?_ (fun j56 => ?_)
  · intro a56 H locs ls hP hS hl hM
    unfold M_X8_powerOfTenths_56 at hM
    refine lv_iload_n hx hb dX8_powerOfTenths_56 rfl (lv_at hl 0 rfl) ?_
    obtain ⟨z57, hcr, hM⟩ := ob_s hM
    refine res_l0 F hP hS rfl [] rfl rfl (runS_of (n := 2) (As := [.int a56, .int x2]) (rest := []) F hP hS rfl [] rfl rfl (c_X8_longPower l dC dI cI cC cZ sa a56 x2 hcr _) gX8_powerOfTenths_X8_longPower rfl (by decide +kernel) ⟨Nat.le_of_ble_eq_true rfl, Nat.le_of_ble_eq_true rfl⟩ rfl hl.1 rfl (Nat.le_of_ble_eq_true rfl) dX8_powerOfTenths_57 ⟨Nat.zero_le _, Nat.zero_le _⟩) (fun H locs hP hS => ?_)
    exact ret_l hx hb hr hlk dX8_powerOfTenths_60 (some_u hM) hP hS
  refine kloop (α := Int32) (res := res) (fun k a => M_X8_powerOfTenths_3 x1 x2 x3 k a) (fun rec a => M_X8_powerOfTenths_3b x1 x2 x3 rec a) (fun _ => rfl) (fun _ _ => rfl) F (fun a => ([] : va_W)) (fun a => [(0, .int x1), (1, .int x2), (2, .int x3), (3, .int a)]) (fun a => []) 3 ?_ (fun j3 => ?_)
  · intro rc3 ih3 a3 H locs ls hP hS hl hM
    unfold M_X8_powerOfTenths_3b at hM
    refine kblk (α := Int32) (res := res) (fun a => M_X8_powerOfTenths_40 x1 x2 x3 rc3 a) F (fun a => ([] : va_W)) (fun a => [(0, .int x1), (1, .int x2), (2, .int x3), (3, .int a)]) (fun a => []) 40 ?_ (fun j40 => ?_)
    · intro a40 H locs ls hP hS hl hM
      unfold M_X8_powerOfTenths_40 at hM
      refine lv_iinc (v := (a40 + (-1 : Int32))) (lv' := [(3, .int (a40 + (-1 : Int32))), (0, .int x1), (1, .int x2), (2, .int x3)]) hx hb dX8_powerOfTenths_40 hl (k := 3) rfl rfl (by decide) rfl (fun ls hl => ?_)
      refine lv_goto (tgt := 3) hx hb dX8_powerOfTenths_43 (by decide) ?_
      exact ih3 (a40 + (-1 : Int32)) _ _ _ hP hS (lv_sub hl [1, 2, 3, 0] rfl) hM
    refine lv_iload_n hx hb dX8_powerOfTenths_3 rfl (lv_at hl 3 rfl) ?_
    refine lv_iconst (v := 1) hx hb dX8_powerOfTenths_4 (by decide) ?_
    refine lv_icmp_le (tgt := 46) hx hb dX8_powerOfTenths_5 (by decide) (fun hc => ?_) (fun hc => ?_)
    · have hM := if_pp hc hM
      refine lv_iload_n hx hb dX8_powerOfTenths_46 rfl (lv_at hl 2 rfl) ?_
      refine lv_if_ne (tgt := 54) hx hb dX8_powerOfTenths_47 (by decide) (fun hc => ?_) (fun hc => ?_)
      · have hM := if_nn hc hM
        refine lv_bipush (v := 10) hx hb dX8_powerOfTenths_54 (by decide) ?_
        exact j56 (10 : Int32) _ _ _ hP hS (lv_sub hl [1] rfl) hM
      · have hM := if_pp hc hM
        refine lv_iload_n hx hb dX8_powerOfTenths_50 rfl (lv_at hl 0 rfl) ?_
        refine lv_goto (tgt := 56) hx hb dX8_powerOfTenths_51 (by decide) ?_
        exact j56 x1 _ _ _ hP hS (lv_sub hl [1] rfl) hM
    · have hM := if_nn hc hM
      refine lv_iload_n hx hb dX8_powerOfTenths_8 rfl (lv_at hl 0 rfl) ?_
      refine lv_iload_n hx hb dX8_powerOfTenths_9 rfl (lv_at hl 3 rfl) ?_
      obtain ⟨hne, hM⟩ := if_ok hM
      refine lv_irem hx hb dX8_powerOfTenths_10 hne ?_
      refine lv_if_ne (tgt := 40) hx hb dX8_powerOfTenths_11 (by decide) (fun hc => ?_) (fun hc => ?_)
      · have hM := if_nn hc hM
        exact j40 a3 _ _ _ hP hS (lv_sub hl [0, 1, 2, 3] rfl) hM
      · have hM := if_pp hc hM
        refine lv_bipush (v := 10) hx hb dX8_powerOfTenths_14 (by decide) ?_
        refine lv_iload_n hx hb dX8_powerOfTenths_16 rfl (lv_at hl 3 rfl) ?_
        obtain ⟨hne, hM⟩ := if_ok hM
        refine lv_irem hx hb dX8_powerOfTenths_17 hne ?_
        refine lv_if_ne (tgt := 40) hx hb dX8_powerOfTenths_18 (by decide) (fun hc => ?_) (fun hc => ?_)
        · have hM := if_nn hc hM
          exact j40 a3 _ _ _ hP hS (lv_sub hl [0, 1, 2, 3] rfl) hM
        · have hM := if_pp hc hM
          refine lv_iload_n hx hb dX8_powerOfTenths_21 rfl (lv_at hl 2 rfl) ?_
          refine lv_if_ne (tgt := 31) hx hb dX8_powerOfTenths_22 (by decide) (fun hc => ?_) (fun hc => ?_)
          · have hM := if_nn hc hM
            refine lv_bipush (v := 10) hx hb dX8_powerOfTenths_31 (by decide) ?_
            refine lv_iload_n hx hb dX8_powerOfTenths_33 rfl (lv_at hl 3 rfl) ?_
            obtain ⟨hne, hM⟩ := if_ok hM
            refine lv_idiv hx hb dX8_powerOfTenths_34 hne ?_
            exact j35 ((10 : Int32) / a3) _ _ _ hP hS (lv_sub hl [1] rfl) hM
          · have hM := if_pp hc hM
            refine lv_iload_n hx hb dX8_powerOfTenths_25 rfl (lv_at hl 0 rfl) ?_
            refine lv_iload_n hx hb dX8_powerOfTenths_26 rfl (lv_at hl 3 rfl) ?_
            obtain ⟨hne, hM⟩ := if_ok hM
            refine lv_idiv hx hb dX8_powerOfTenths_27 hne ?_
            refine lv_goto (tgt := 35) hx hb dX8_powerOfTenths_28 (by decide) ?_
            exact j35 (x1 / a3) _ _ _ hP hS (lv_sub hl [1] rfl) hM
  refine lv_bipush (v := 10) hx hb dX8_powerOfTenths_0 (by decide) ?_
  refine lv_istore_n (lv' := [(3, .int (10 : Int32)), (0, .int x1), (1, .int x2), (2, .int x3)]) hx hb dX8_powerOfTenths_2 rfl hl (by decide) rfl (fun ls hl => ?_)
  exact j3 200 (10 : Int32) _ _ _ hP hS (lv_sub hl [1, 2, 3, 0] rfl) hM
