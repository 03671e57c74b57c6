/-! The law from its entry -/
theorem kc_start {s : State} {b : Nat} (hts : ∀ w ∈ lw_tbl, w.before #[Value.ref b] s = true) (hgv : (Jvm.Cond.and given_1 narrow_1).before #[Value.ref b] s = true) : ∃ sa : Nat → Nat, KC sa (fun q => s.heap.size ≤ q) s s.heap := by
  have hs := flat_of_before _ hgv
  have hA : ∀ a : Nat, a < s.heap.size → ¬ (fun q => s.heap.size ≤ q) a := fun a h => Nat.not_le.mpr h
  obtain ⟨adK, adV, hSt, hEv⟩ := vk_Sof (args := #[Value.ref b]) (s := s) (N := 2) (tm := fun i => if i = 0 then .string "CapHouse$Pad" 31 else .string "CapHouse$Pad" 19) (len := [5, 5]) (byt := [[46, 103, 99, 100, 35], [110, 101, 115, 119, 45]]) (A := fun q => s.heap.size ≤ q)
    (fun i hi => by rcases (show i = 0 ∨ i = 1 by omega) with rfl | rfl <;> decide)
    (fun i hi => by rcases (show i = 0 ∨ i = 1 by omega) with rfl | rfl <;> exact hs _ (by decide +kernel))
    (fun i hi => by rcases (show i = 0 ∨ i = 1 by omega) with rfl | rfl <;> exact hs _ (by decide +kernel))
    (fun i hi => by rcases (show i = 0 ∨ i = 1 by omega) with rfl | rfl <;> exact hs _ (by decide +kernel))
    (fun i hi => by rcases (show i = 0 ∨ i = 1 by omega) with rfl | rfl <;> exact hs _ (by decide +kernel))
    (fun i hi j hj => by
      rcases (show i = 0 ∨ i = 1 by omega) with rfl | rfl
      · have hj : j < 5 := hj
        rcases (show j = 0 ∨ j = 1 ∨ j = 2 ∨ j = 3 ∨ j = 4 by omega) with rfl | rfl | rfl | rfl | rfl <;> exact hs _ (by decide +kernel)
      · have hj : j < 5 := hj
        rcases (show j = 0 ∨ j = 1 ∨ j = 2 ∨ j = 3 ∨ j = 4 by omega) with rfl | rfl | rfl | rfl | rfl <;> exact hs _ (by decide +kernel))
    (fun i j hi hj hij => by
      rcases (show i = 0 ∨ i = 1 by omega) with rfl | rfl <;> rcases (show j = 0 ∨ j = 1 by omega) with rfl | rfl
      · exact absurd rfl hij
      · exact Or.inl (hs _ (by decide +kernel))
      · exact Or.inr (hs _ (by decide +kernel))
      · exact absurd rfl hij) hA
  have e0 : (Term.string "CapHouse$Pad" 31).eval #[Value.ref b] s none [] s = some (.ref (adK 0)) := hEv 0 (by decide)
  have e1 : (Term.string "CapHouse$Pad" 19).eval #[Value.ref b] s none [] s = some (.ref (adK 1)) := hEv 1 (by decide)
  have e2 : (Term.string "CapHouse" 315).eval #[Value.ref b] s none [] s = some (.ref (adK 1)) := va_eqR (hs (.eq (.string "CapHouse$Pad" 19) (.string "CapHouse" 315)) (by decide +kernel)) e1
  refine ⟨fun i => if i < 2 then adK i else adV (i - 2), ?_, ⟨?_, ?_, ?_⟩, ⟨?_, ?_⟩, ?_⟩
  · intro k q hq
    have hk : k < 25 := (List.getElem?_eq_some_iff.mp hq).1
    have hm : ∀ j : Nat, j < 25 → ∀ q, nwQ[j]? = some q → Cond.methodLinkNest q.1 q.2.1 q.2.2 "CapHouse" ∈ lw_tbl := by
      have hall : (nwQ.all fun q => decide (Cond.methodLinkNest q.1 q.2.1 q.2.2 "CapHouse" ∈ lw_tbl)) = true := by decide +kernel
      intro j hj q hq
      exact of_decide_eq_true (List.all_eq_true.mp hall q (List.mem_of_getElem? hq))
    exact va_Nw.of rfl (hts _ (hm k hk q hq))
  · exact vk_R.of (hts (.stringRef "CapHouse$Pad" 31 ".gcd#") (by decide +kernel)) e0
  · exact vk_R.of (hts (.stringRef "CapHouse$Pad" 19 "nesw-") (by decide +kernel)) e1
  · exact vk_R.of (hts (.stringRef "CapHouse" 315 "nesw-") (by decide +kernel)) e2
  · exact va_Zof (hts (.laysStatic "java/lang/String" "COMPACT_STRINGS" "Z") (by decide +kernel)) (hts (.initialized "java/lang/String") (by decide +kernel)) (va_eqi (hs (.eq (.static "java/lang/String" "COMPACT_STRINGS" "Z") (.int 1)) (by decide +kernel))) hA
  · rcases va_Zqof (hts (.laysStatic "jdk/internal/util/Preconditions" "SIOOBE_FORMATTER" "Ljava/util/function/BiFunction;") (by decide +kernel)) (hts (.initialized "jdk/internal/util/Preconditions") (by decide +kernel)) (hs (.isRef (.static "jdk/internal/util/Preconditions" "SIOOBE_FORMATTER" "Ljava/util/function/BiFunction;")) (by decide +kernel)) hA with h | ⟨t, h⟩
    · exact ⟨none, h⟩
    · exact ⟨some t, h⟩
  · intro k hk
    have h := hSt.1 k hk
    rcases (show k = 0 ∨ k = 1 by omega) with rfl | rfl
    · exact h
    · exact h
theorem arr_start {s : State} {args : Array Value} {t : FieldType} (h : (Cond.arrayClass t).before args s = true) : ∃ cA : ClassId, ArrOfT s cA t ∧ s.vm.findClass ("[" ++ t.toString) = some cA := by
  obtain ⟨cA, kA, comp, h1, h2, h3⟩ := Cond.arrayClass_spec h
  exact ⟨cA, fun n z => ⟨fun k h => (by cases h), kA, h2, comp, h3⟩, h1⟩
def law_in (r0 : HT × VT) (r1 : BT) : PT × HT × VT × Int32 × HT × VT × Int32 × HT × VT × RT × DT × YT × QT × BT × OT × NT × GT × AR × TT × AR × LT × IT × Int32 := (((0 : Int32), (fun _ => 0 : AR)), r0.1, r0.2, (0 : Int32), r0.1, r0.2, (0 : Int32), r0.1, r0.2, ((0 : Int32), (0 : Int32), (0 : Int32), (fun _ => 0 : AR), (fun _ => 0 : AR), (fun _ => 0 : AR)), ((0 : Int32), (0 : Int32), (0 : Int32), (0 : Int32), (0 : Int32), (0 : Int32), (0 : Int32)), ((fun _ => 0 : AR), (fun _ => 0 : AR)), ((fun _ => 0 : AR), (fun _ => 0 : AR)), r1, ((0 : Int32), (fun _ => 0 : AR)), ((0 : Int32), (0 : Int32), (0 : Int32), (0 : Int32)), ((0 : Int32), (0 : Int32), (0 : Int32), (0 : Int32), (0 : Int32), (0 : Int32)), (fun _ => 0 : AR), ((0 : Int32), (fun _ => 0 : AR)), (fun _ => 0 : AR), ((fun _ => 0 : AR), (fun _ => 0 : AR)), ((0 : Int32), (0 : Int32), (fun _ => 0 : AR), (fun _ => 0 : AR)), (0 : Int32))
set_option maxHeartbeats 40000000 in
set_option maxRecDepth 100000 in
theorem law_start {pr : Program} {e : Env} {s : State} {m : MethodId} {below : List Frame} {meth : Method} {c : Code} (l : Launch) {b L : Nat} {xs : Nat → Int32} (C0 : lw_At pr s m meth c b L xs) {r0 : HT × VT} {r1 : BT} (h0 : M_X0_layOut (0, 0, 0, 0, 0, 0, 0, 0, 0, 0, 0, 1) ((0 : Int32), (fun _ => 0 : AR), (fun _ => 0 : AR), (fun _ => 0 : AR)) 3 3 = some r0) (h1 : M_X9_lay (0, 0, 0, 0, 0, 1, (fun _ => 0 : AR), (fun _ => 0 : AR), (fun _ => 0 : AR), (fun _ => 0 : AR)) 3 3 = some r1) (hM : M_L_law_18 L xs 200 (law_in r0 r1) = some ()) : W pr l e room_1 s m #[Value.ref b] below meth c s.heap [] 0 0 (lw_Z below #[Value.ref b] s) (entryFrame m ([Value.ref b] : List Value).toArray 4) := by
  obtain ⟨hx, hb, hr, hml, hown0, hts0, hX, hbl, hlk, hgv⟩ := id C0
  have hown : s.vm.findClass RL = some m.cls := hown0
  have hA : ∀ q : Nat, s.heap.size ≤ q → (fun q : Nat => s.heap.size ≤ q) q := fun _ h => h
  have hts : ∀ w ∈ wsL_law, w.before #[Value.ref b] s = true := fun w h => hts0 w (wsL_law_in w h)
  obtain ⟨sa, hKC⟩ := kc_start hts0 hgv
  obtain ⟨cX0, iX0, hKnX0⟩ := u_known (C := RX0) (T := TX0) (N := 13) (n := 13) hts0 inX0 (hts0 (.instantiable RX0 13) (by decide +kernel))
  obtain ⟨cX1, iX1, hKnX1⟩ := u_known (C := RX1) (T := TX1) (N := 2) (n := 2) hts0 inX1 (hts0 (.instantiable RX1 2) (by decide +kernel))
  obtain ⟨cX2, iX2, hKnX2⟩ := u_known (C := RX2) (T := TX2) (N := 2) (n := 2) hts0 inX2 (hts0 (.instantiable RX2 2) (by decide +kernel))
  obtain ⟨cX3, iX3, hKnX3⟩ := u_known (C := RX3) (T := TX3) (N := 7) (n := 7) hts0 inX3 (hts0 (.instantiable RX3 7) (by decide +kernel))
  obtain ⟨cX4, iX4, hKnX4⟩ := u_known (C := RX4) (T := TX4) (N := 4) (n := 4) hts0 inX4 (hts0 (.instantiable RX4 4) (by decide +kernel))
  obtain ⟨cX5, iX5, hKnX5⟩ := u_known (C := RX5) (T := TX5) (N := 2) (n := 2) hts0 inX5 (hts0 (.instantiable RX5 2) (by decide +kernel))
  obtain ⟨cX6, iX6, hKnX6⟩ := u_known (C := RX6) (T := TX6) (N := 6) (n := 6) hts0 inX6 (hts0 (.instantiable RX6 6) (by decide +kernel))
  obtain ⟨cX7, iX7, hKnX7⟩ := u_known (C := RX7) (T := TX7) (N := 2) (n := 2) hts0 inX7 (hts0 (.instantiable RX7 2) (by decide +kernel))
  obtain ⟨cX8, iX8, hKnX8⟩ := u_known (C := RX8) (T := TX8) (N := 8) (n := 8) hts0 inX8 (hts0 (.instantiable RX8 8) (by decide +kernel))
  obtain ⟨cX9, iX9, hKnX9⟩ := u_known (C := RX9) (T := TX9) (N := 32) (n := 32) hts0 inX9 (hts0 (.instantiable RX9 32) (by decide +kernel))
  obtain ⟨dC, dI, hKc⟩ : ∃ (dC : Nat → ClassId) (dI : Nat → Nat → Nat), ∀ (k : Nat) (q : vw_C), vwCl[k]? = some q → u_Kn s q.1 q.2.1 q.2.2 (dC k) (dI k) := by
    refine ⟨fun k => match k with | 0 => cX0 | 1 => cX1 | 2 => cX2 | 3 => cX3 | 4 => cX4 | 5 => cX5 | 6 => cX6 | 7 => cX7 | 8 => cX8 | _ => cX9, fun k => match k with | 0 => iX0 | 1 => iX1 | 2 => iX2 | 3 => iX3 | 4 => iX4 | 5 => iX5 | 6 => iX6 | 7 => iX7 | 8 => iX8 | _ => iX9, ?_⟩
    intro k q hq
    match k, hq with
    | 0, hq => cases hq; exact hKnX0
    | 1, hq => cases hq; exact hKnX1
    | 2, hq => cases hq; exact hKnX2
    | 3, hq => cases hq; exact hKnX3
    | 4, hq => cases hq; exact hKnX4
    | 5, hq => cases hq; exact hKnX5
    | 6, hq => cases hq; exact hKnX6
    | 7, hq => cases hq; exact hKnX7
    | 8, hq => cases hq; exact hKnX8
    | 9, hq => cases hq; exact hKnX9
    | k + 10, hq => simp [vwCl] at hq
  obtain ⟨cI, hTI, hNI⟩ := arr_start (hts0 (.arrayClass .int) (by decide +kernel))
  obtain ⟨cC, hTC, hNC⟩ := arr_start (hts0 (.arrayClass .char) (by decide +kernel))
  obtain ⟨cZ, hTZ, hNZ⟩ := arr_start (hts0 (.arrayClass .boolean) (by decide +kernel))
  have hK : va_K (dC, dI) vwCl [(cI, .int), (cC, .char), (cZ, .boolean)] s := by
    refine ⟨hKc, fun k q hq => ?_⟩
    match k, hq with
    | 0, hq => cases hq; exact ⟨hTI, hNI⟩
    | 1, hq => cases hq; exact ⟨hTC, hNC⟩
    | 2, hq => cases hq; exact ⟨hTZ, hNZ⟩
    | k + 3, hq => simp at hq
  have F1 : CallFix pr m c code 4 s #[Value.ref b] wsL_law RL := ⟨hx, hb, hml, hown, hts⟩
  have hS : va_S (fun q : Nat => s.heap.size ≤ q) s.heap s.heap [] := va_S.rf
  have hP : va_P (dC, dI) vwCl [] s.heap := fun k q h => by simp at h
  have hD : va_D (fun q : Nat => s.heap.size ≤ q) [] := ⟨fun i j p q h => by simp at h, fun k q h => by simp at h⟩
  have hl := lv_entry ([.ref b]) (n := 4) (Nat.le_of_ble_eq_true rfl)
  rw [lg_entry_eq]
  generalize (lg_sl ([.ref b]) ++ List.replicate (4 - (lg_sl ([.ref b])).length) Slot.unset).toArray = ls at hl ⊢
  have hl : lv_has ls 4 [(0, .ref b)] := hl
  refine va_new (ci := 8) (fs := [.null, .null, .null, .null, .null, .null, .null, .null]) (C := RX8) (T := TX8) (N := 8) hx hb hts inlX8 tyX8 tyX8_ok hown (hts _ (List.mem_of_getElem? (i := 0) rfl)) (hts _ (List.mem_of_getElem? (i := 1) rfl)) (hts _ (List.mem_of_getElem? (i := 2) rfl)) hK hP hD hS hA rfl (fun j hj => by rcases (show j = 0 ∨ j = 1 ∨ j = 2 ∨ j = 3 ∨ j = 4 ∨ j = 5 ∨ j = 6 ∨ j = 7 by omega) with rfl | rfl | rfl | rfl | rfl | rfl | rfl | rfl <;> rfl) (Nat.le_of_ble_eq_true rfl) (Nat.le_of_ble_eq_true rfl) dL_law_0 (fun q0v H hP hD hS => ?_)
  have hP : va_P (dC, dI) vwCl (([] : va_W) ++ [(q0v, .inr (8, [.null, .null, .null, .null, .null, .null, .null, .null]))]) H := hP
  have hD : va_D (fun q : Nat => s.heap.size ≤ q) (([] : va_W) ++ [(q0v, .inr (8, [.null, .null, .null, .null, .null, .null, .null, .null]))]) := hD
  refine lv_dup hx hb dL_law_3 rfl ?_
  refine res_n (w1 := fun ad => wX cI cC ad ((0 : Int32), (fun _ => 0 : AR)) r0.1 r0.2 (0 : Int32) r0.1 r0.2 (0 : Int32) r0.1 r0.2 ((0 : Int32), (0 : Int32), (0 : Int32), (fun _ => 0 : AR), (fun _ => 0 : AR), (fun _ => 0 : AR)) ((0 : Int32), (0 : Int32), (0 : Int32), (0 : Int32), (0 : Int32), (0 : Int32), (0 : Int32)) ((fun _ => 0 : AR), (fun _ => 0 : AR)) ((fun _ => 0 : AR), (fun _ => 0 : AR))) F1 hK hA hP hD hS (runCI_of (rest := [.ref q0v]) F1 hK hA hKC hP hD hS (c_X8_init l dC dI cI cC cZ sa q0v h0) gL_law_X8_init rfl (hts _ (List.mem_of_getElem? (i := 2) rfl)) (hts _ (List.mem_of_getElem? (i := 6) rfl)) (hts _ (List.mem_of_getElem? (i := 7) rfl)) rfl (by decide +kernel) ⟨Nat.le_of_ble_eq_true rfl, Nat.le_of_ble_eq_true rfl⟩ hl.1 (Nat.le_of_ble_eq_true rfl) dL_law_4 ⟨Nat.le_of_ble_eq_true rfl, Nat.le_of_ble_eq_true rfl⟩) [] rfl (by decide) (show ∀ i ∈ ([] : List Nat), i < 0 from by decide) (fun ax H locs had hPn hDn hS => ?_)
  have had : ax 0 = q0v := had
  subst had
  have hP : va_P (dC, dI) vwCl (wX cI cC ax ((0 : Int32), (fun _ => 0 : AR)) r0.1 r0.2 (0 : Int32) r0.1 r0.2 (0 : Int32) r0.1 r0.2 ((0 : Int32), (0 : Int32), (0 : Int32), (fun _ => 0 : AR), (fun _ => 0 : AR), (fun _ => 0 : AR)) ((0 : Int32), (0 : Int32), (0 : Int32), (0 : Int32), (0 : Int32), (0 : Int32), (0 : Int32)) ((fun _ => 0 : AR), (fun _ => 0 : AR)) ((fun _ => 0 : AR), (fun _ => 0 : AR))) H := hPn
  have hD : va_D (fun q : Nat => s.heap.size ≤ q) (wX cI cC ax ((0 : Int32), (fun _ => 0 : AR)) r0.1 r0.2 (0 : Int32) r0.1 r0.2 (0 : Int32) r0.1 r0.2 ((0 : Int32), (0 : Int32), (0 : Int32), (fun _ => 0 : AR), (fun _ => 0 : AR), (fun _ => 0 : AR)) ((0 : Int32), (0 : Int32), (0 : Int32), (0 : Int32), (0 : Int32), (0 : Int32), (0 : Int32)) ((fun _ => 0 : AR), (fun _ => 0 : AR)) ((fun _ => 0 : AR), (fun _ => 0 : AR))) := hDn
  refine lv_astore_n (lv' := [(1, .ref (ax 0)), (0, .ref b)]) hx hb dL_law_7 rfl hl (by decide) rfl (fun ls hl => ?_)
  refine va_new (ci := 9) (fs := [.int 0, .int 0, .null, .int 0, .int 0, .null, .null, .null, .int 0, .int 0, .null, .int 0, .int 0, .int 0, .int 0, .int 0, .int 0, .int 0, .int 0, .int 0, .int 0, .int 0, .null, .null, .int 0, .null, .null, .null, .null, .null, .int 0, .int 0]) (C := RX9) (T := TX9) (N := 32) hx hb hts inlX9 tyX9 tyX9_ok hown (hts _ (List.mem_of_getElem? (i := 3) rfl)) (hts _ (List.mem_of_getElem? (i := 4) rfl)) (hts _ (List.mem_of_getElem? (i := 5) rfl)) hK hP hD hS hA rfl (fun j hj => by rcases (show j = 0 ∨ j = 1 ∨ j = 2 ∨ j = 3 ∨ j = 4 ∨ j = 5 ∨ j = 6 ∨ j = 7 ∨ j = 8 ∨ j = 9 ∨ j = 10 ∨ j = 11 ∨ j = 12 ∨ j = 13 ∨ j = 14 ∨ j = 15 ∨ j = 16 ∨ j = 17 ∨ j = 18 ∨ j = 19 ∨ j = 20 ∨ j = 21 ∨ j = 22 ∨ j = 23 ∨ j = 24 ∨ j = 25 ∨ j = 26 ∨ j = 27 ∨ j = 28 ∨ j = 29 ∨ j = 30 ∨ j = 31 by omega) with rfl | rfl | rfl | rfl | rfl | rfl | rfl | rfl | rfl | rfl | rfl | rfl | rfl | rfl | rfl | rfl | rfl | rfl | rfl | rfl | rfl | rfl | rfl | rfl | rfl | rfl | rfl | rfl | rfl | rfl | rfl | rfl <;> rfl) (Nat.le_of_ble_eq_true rfl) (Nat.le_of_ble_eq_true rfl) dL_law_8 (fun q1v H hP hD hS => ?_)
  have hP : va_P (dC, dI) vwCl ((wX cI cC ax ((0 : Int32), (fun _ => 0 : AR)) r0.1 r0.2 (0 : Int32) r0.1 r0.2 (0 : Int32) r0.1 r0.2 ((0 : Int32), (0 : Int32), (0 : Int32), (fun _ => 0 : AR), (fun _ => 0 : AR), (fun _ => 0 : AR)) ((0 : Int32), (0 : Int32), (0 : Int32), (0 : Int32), (0 : Int32), (0 : Int32), (0 : Int32)) ((fun _ => 0 : AR), (fun _ => 0 : AR)) ((fun _ => 0 : AR), (fun _ => 0 : AR))) ++ [(q1v, .inr (9, [.int 0, .int 0, .null, .int 0, .int 0, .null, .null, .null, .int 0, .int 0, .null, .int 0, .int 0, .int 0, .int 0, .int 0, .int 0, .int 0, .int 0, .int 0, .int 0, .int 0, .null, .null, .int 0, .null, .null, .null, .null, .null, .int 0, .int 0]))]) H := hP
  have hD : va_D (fun q : Nat => s.heap.size ≤ q) ((wX cI cC ax ((0 : Int32), (fun _ => 0 : AR)) r0.1 r0.2 (0 : Int32) r0.1 r0.2 (0 : Int32) r0.1 r0.2 ((0 : Int32), (0 : Int32), (0 : Int32), (fun _ => 0 : AR), (fun _ => 0 : AR), (fun _ => 0 : AR)) ((0 : Int32), (0 : Int32), (0 : Int32), (0 : Int32), (0 : Int32), (0 : Int32), (0 : Int32)) ((fun _ => 0 : AR), (fun _ => 0 : AR)) ((fun _ => 0 : AR), (fun _ => 0 : AR))) ++ [(q1v, .inr (9, [.int 0, .int 0, .null, .int 0, .int 0, .null, .null, .null, .int 0, .int 0, .null, .int 0, .int 0, .int 0, .int 0, .int 0, .int 0, .int 0, .int 0, .int 0, .int 0, .int 0, .null, .null, .int 0, .null, .null, .null, .null, .null, .int 0, .int 0]))]) := hD
  refine lv_dup hx hb dL_law_11 rfl ?_
  refine res_n (w1 := fun ad => wM cI cZ ad r1 ((0 : Int32), (fun _ => 0 : AR)) ((0 : Int32), (0 : Int32), (0 : Int32), (0 : Int32)) ((0 : Int32), (0 : Int32), (0 : Int32), (0 : Int32), (0 : Int32), (0 : Int32)) (fun _ => 0 : AR) ((0 : Int32), (fun _ => 0 : AR)) (fun _ => 0 : AR) ((fun _ => 0 : AR), (fun _ => 0 : AR)) ((0 : Int32), (0 : Int32), (fun _ => 0 : AR), (fun _ => 0 : AR))) F1 hK hA hP hD hS (runCI_of (rest := [.ref q1v]) F1 hK hA hKC hP hD hS (c_X9_init l dC dI cI cC cZ sa q1v h1) gL_law_X9_init rfl (hts _ (List.mem_of_getElem? (i := 5) rfl)) (hts _ (List.mem_of_getElem? (i := 117) rfl)) (hts _ (List.mem_of_getElem? (i := 118) rfl)) rfl (by decide +kernel) ⟨Nat.le_of_ble_eq_true rfl, Nat.le_of_ble_eq_true rfl⟩ hl.1 (Nat.le_of_ble_eq_true rfl) dL_law_12 ⟨Nat.le_of_ble_eq_true rfl, Nat.le_of_ble_eq_true rfl⟩) [0, 1, 2, 3, 4, 5, 6, 7, 8, 9, 10, 11, 12, 13, 14, 15, 16, 17, 18, 19, 20, 21, 22, 23, 24, 25, 26, 27, 28, 29, 30] rfl (by decide) (show ∀ i ∈ ([0, 1, 2, 3, 4, 5, 6, 7, 8, 9, 10, 11, 12, 13, 14, 15, 16, 17, 18, 19, 20, 21, 22, 23, 24, 25, 26, 27, 28, 29, 30] : List Nat), i < 31 from by decide) (fun am H locs had hPn hDn hS => ?_)
  have had : am 0 = q1v := had
  subst had
  have hP : va_P (dC, dI) vwCl (wX cI cC ax ((0 : Int32), (fun _ => 0 : AR)) r0.1 r0.2 (0 : Int32) r0.1 r0.2 (0 : Int32) r0.1 r0.2 ((0 : Int32), (0 : Int32), (0 : Int32), (fun _ => 0 : AR), (fun _ => 0 : AR), (fun _ => 0 : AR)) ((0 : Int32), (0 : Int32), (0 : Int32), (0 : Int32), (0 : Int32), (0 : Int32), (0 : Int32)) ((fun _ => 0 : AR), (fun _ => 0 : AR)) ((fun _ => 0 : AR), (fun _ => 0 : AR)) ++ wM cI cZ am r1 ((0 : Int32), (fun _ => 0 : AR)) ((0 : Int32), (0 : Int32), (0 : Int32), (0 : Int32)) ((0 : Int32), (0 : Int32), (0 : Int32), (0 : Int32), (0 : Int32), (0 : Int32)) (fun _ => 0 : AR) ((0 : Int32), (fun _ => 0 : AR)) (fun _ => 0 : AR) ((fun _ => 0 : AR), (fun _ => 0 : AR)) ((0 : Int32), (0 : Int32), (fun _ => 0 : AR), (fun _ => 0 : AR))) H := hPn
  have hD : va_D (fun q : Nat => s.heap.size ≤ q) (wX cI cC ax ((0 : Int32), (fun _ => 0 : AR)) r0.1 r0.2 (0 : Int32) r0.1 r0.2 (0 : Int32) r0.1 r0.2 ((0 : Int32), (0 : Int32), (0 : Int32), (fun _ => 0 : AR), (fun _ => 0 : AR), (fun _ => 0 : AR)) ((0 : Int32), (0 : Int32), (0 : Int32), (0 : Int32), (0 : Int32), (0 : Int32), (0 : Int32)) ((fun _ => 0 : AR), (fun _ => 0 : AR)) ((fun _ => 0 : AR), (fun _ => 0 : AR)) ++ wM cI cZ am r1 ((0 : Int32), (fun _ => 0 : AR)) ((0 : Int32), (0 : Int32), (0 : Int32), (0 : Int32)) ((0 : Int32), (0 : Int32), (0 : Int32), (0 : Int32), (0 : Int32), (0 : Int32)) (fun _ => 0 : AR) ((0 : Int32), (fun _ => 0 : AR)) (fun _ => 0 : AR) ((fun _ => 0 : AR), (fun _ => 0 : AR)) ((0 : Int32), (0 : Int32), (fun _ => 0 : AR), (fun _ => 0 : AR))) := hDn
  refine lv_astore_n (lv' := [(2, .ref (am 0)), (1, .ref (ax 0)), (0, .ref b)]) hx hb dL_law_15 rfl hl (by decide) rfl (fun ls hl => ?_)
  refine lv_iconst (v := 0) hx hb dL_law_16 (by decide) ?_
  refine lv_istore_n (lv' := [(3, .int 0), (2, .ref (am 0)), (1, .ref (ax 0)), (0, .ref b)]) hx hb dL_law_17 rfl hl (by decide) rfl (fun ls hl => ?_)
  refine W.widen (k := 44) (n := 512) (Nat.le_of_ble_eq_true rfl) (Nat.le_of_ble_eq_true rfl) ?_
  exact law_walk l dC dI cI cC cZ sa C0 ax am ((0 : Int32), (fun _ => 0 : AR)) r0.1 r0.2 (0 : Int32) r0.1 r0.2 (0 : Int32) r0.1 r0.2 ((0 : Int32), (0 : Int32), (0 : Int32), (fun _ => 0 : AR), (fun _ => 0 : AR), (fun _ => 0 : AR)) ((0 : Int32), (0 : Int32), (0 : Int32), (0 : Int32), (0 : Int32), (0 : Int32), (0 : Int32)) ((fun _ => 0 : AR), (fun _ => 0 : AR)) ((fun _ => 0 : AR), (fun _ => 0 : AR)) r1 ((0 : Int32), (fun _ => 0 : AR)) ((0 : Int32), (0 : Int32), (0 : Int32), (0 : Int32)) ((0 : Int32), (0 : Int32), (0 : Int32), (0 : Int32), (0 : Int32), (0 : Int32)) (fun _ => 0 : AR) ((0 : Int32), (fun _ => 0 : AR)) (fun _ => 0 : AR) ((fun _ => 0 : AR), (fun _ => 0 : AR)) ((0 : Int32), (0 : Int32), (fun _ => 0 : AR), (fun _ => 0 : AR)) ⟨F1, hK, fun ws' e => hD.addr e, hA, hKC⟩ hP hS (lv_sub hl [3, 2, 1, 0] rfl) hM
