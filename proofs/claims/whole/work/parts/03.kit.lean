/-! My own rows over the kit: the environment that every contract carries (nest words, string constants), contracts that speak of one result of a pure model, calls and returns in these words. -/
theorem some_u {α : Type} {v r : α} (h : some v = some r) : some (v, ()) = some (r, ()) := by cases h; rfl
theorem nar_z {v : Int32} (h : vp_nar .boolean v = v) : narrow .boolean (.int v) = .int v := (show narrow .boolean (.int v) = .int (vp_nar .boolean v) from rfl).trans (by rw [h])
theorem fit_z {v : Int32} (h : vp_nar .boolean v = v) : fits .boolean (.int v) = true := by
  have h2 : v &&& 1 = v := h
  obtain ⟨j, hj, e⟩ := pk_andE v (m := 1) 1 (by decide)
  rw [h2] at e
  subst e
  rcases (show j = 0 ∨ j = 1 by omega) with rfl | rfl <;> rfl
theorem nar_c {v : Int32} (h : vp_nar .char v = v) : narrow .char (.int v) = .int v := (show narrow .char (.int v) = .int (vp_nar .char v) from rfl).trans (by rw [h])
def rmd (d : Nat) : Room := { frames := d, cells := 0, slots := 0, locals := 40 * d }
theorem ob_s {α β : Type} {x : Option α} {K : α → Option β} {r : β} (h : x.bind K = some r) : ∃ a, x = some a ∧ K a = some r := by
  cases x with
  | none => cases h
  | some a => exact ⟨a, rfl, h⟩
theorem if_pp {α : Type} {c : Prop} [Decidable c] {a b r : α} (hc : c) (h : (if c then a else b) = r) : a = r := by rw [if_pos hc] at h; exact h
theorem if_nn {α : Type} {c : Prop} [Decidable c] {a b r : α} (hc : ¬ c) (h : (if c then a else b) = r) : b = r := by rw [if_neg hc] at h; exact h
theorem if_ok {α : Type} {c : Prop} [Decidable c] {a : Option α} {r : α} (h : (if c then a else none) = some r) : c ∧ a = some r := by
  by_cases hc : c
  · rw [if_pos hc] at h; exact ⟨hc, h⟩
  · rw [if_neg hc] at h; cases h
/-- a value used many times gets a name -/
def ltt {α β : Type} (x : α) (f : α → β) : β := f x
theorem ltt_e {α β : Type} {x y : α} {f : α → β} {r : β} (e : y = x) (h : ltt x f = r) : f y = r := by subst e; exact h
theorem no_s {α : Type} {r : α} {P : Prop} (h : (none : Option α) = some r) : P := by cases h
/-! the nest words -/
def nwQ : List (String × Nat × MethodName) := [(RX8, 9, yX2_init), (RX8, 25, yX1_init), (RX8, 35, yX6_init), (RX8, 42, yX3_init), (RX8, 49, yX5_init), (RX8, 56, yX7_init), (RX0, 11, yX4_init), (RX0, 42, yX8_bit), (RX0, 86, yX8_cellOf), (RX0, 89, yX8_has), (RX3, 44, yX8_cellOf), (RX4, 29, yX8_put), (RX4, 33, yX8_at), (RX5, 28, yX8_at), (RX5, 67, yX8_has), (RX5, 71, yX8_bit), (RX5, 74, yX8_cellOf), (RX6, 27, yX8_bit), (RX6, 56, yX8_put), (RX6, 81, yX8_at), (RX7, 24, yX8_put), (RX7, 34, yX8_has), (RX7, 42, yX8_bit), (RX7, 52, yX8_cellOf), (RX7, 55, yX8_at)]
def NW (U : State) : Prop := ∀ (k : Nat) (q : String × Nat × MethodName), nwQ[k]? = some q → va_Nw (.methodLinkNest q.1 q.2.1 q.2.2 "CapHouse") U
theorem NW.warm {s U : State} (hW : s.WarmedH U.vm) (h : NW s) : NW U := fun k q hq => va_Nw.warmM hW (h k q hq)
theorem NW.same {u U : State} (hv : u.vm = U.vm) (h : NW u) : NW U := fun k q hq => va_Nw.same rfl hv (h k q hq)
/-! the string constants: ".gcd#" at sa 0 (its bytes at sa 2), "nesw-" at sa 1 (its bytes at sa 3) -/
def STz (A : Nat → Prop) (U : State) (H : Heap) : Prop := va_Z "java/lang/String" "COMPACT_STRINGS" "Z" (.int 1) A U H ∧ ∃ q : Option Nat, va_Z "jdk/internal/util/Preconditions" "SIOOBE_FORMATTER" "Ljava/util/function/BiFunction;" (va_rf q) A U H
def STr (sa : Nat → Nat) (U : State) : Prop := vk_R "CapHouse$Pad" 31 ".gcd#" (sa 0) U ∧ vk_R "CapHouse$Pad" 19 "nesw-" (sa 1) U ∧ vk_R "CapHouse" 315 "nesw-" (sa 1) U
def STo (sa : Nat → Nat) (k : Nat) (A : Nat → Prop) (U : State) (H : Heap) : Prop := va_O "java/lang/String" (sa k) A U H ∧ va_OF "java/lang/String" "coder" "B" (.int 0) (sa k) A U H ∧ va_OF "java/lang/String" "value" "[B" (.ref (sa (k + 2))) (sa k) A U H ∧ va_T .byte (sa (k + 2)) 5 (fun j => .int (stb k j)) A U H
def KC (sa : Nat → Nat) (A : Nat → Prop) (U : State) (H : Heap) : Prop := NW U ∧ STr sa U ∧ STz A U H ∧ ∀ k, k < 2 → STo sa k A U H
theorem KC.blind {sa : Nat → Nat} {A : Nat → Prop} {U : State} {H : Heap} {g : JFrame} {mk : MethodId} {a : Array Value} (h : KC sa A U H) : KC sa A (U.calling g mk a) H := by
  obtain ⟨h1, ⟨h2, h3, h4⟩, ⟨h5, q, h6⟩, h7⟩ := h
  have hv : (U.calling g mk a).vm = U.vm := rfl
  have ha : U.vm.Alike (U.calling g mk a).vm := Vm.Alike.refl U.vm
  refine ⟨NW.same (u := U) rfl h1, ⟨vk_R.same hv h2, vk_R.same hv h3, vk_R.same hv h4⟩, ⟨h5.moved ha, q, h6.moved ha⟩, fun k hk => ?_⟩
  obtain ⟨g1, g2, g3, g4⟩ := h7 k hk
  exact ⟨g1.moved ha, g2.moved ha, g3.moved ha, g4.moved ha⟩
theorem KC.at {sa : Nat → Nat} {A B : Nat → Prop} {s U : State} {H : Heap} {locs : List Loc} (h : KC sa A s s.heap) (hS : va_S A s.heap H locs) (hAB : ∀ q, B q → A q) (hW : s.WarmedH U.vm) (hU : U.heap = H) : KC sa B U U.heap := by
  obtain ⟨h1, ⟨h2, h3, h4⟩, ⟨h5, q, h6⟩, h7⟩ := h
  have ha : s.vm.Alike U.vm := hW.alike
  have hk : ∀ a : Nat, a < s.heap.size → ¬ A a → U.heap[a]? = s.heap[a]? := by rw [hU]; exact hS.2.1
  refine ⟨h1.warm hW, ⟨vk_R.warm hW h2, vk_R.warm hW h3, vk_R.warm hW h4⟩, ⟨((h5.kept hk).narrow hAB).moved ha, q, ((h6.kept hk).narrow hAB).moved ha⟩, fun k hk' => ?_⟩
  obtain ⟨g1, g2, g3, g4⟩ := h7 k hk'
  exact ⟨((g1.kept hk).narrow hAB).moved ha, ((g2.kept hk).narrow hAB).moved ha, ((g3.kept hk).narrow hAB).moved ha, ((g4.kept hk).narrow hAB).moved ha⟩
/-! contracts -/
def PW (D : va_G) (tys : List (ClassId × FieldType)) (sa : Nat → Nat) (w0 : va_W) (sz : Nat) (U : State) : Prop := U.heap.size = sz ∧ va_P D vwCl w0 U.heap ∧ va_K D vwCl tys U ∧ va_D (fun _ => True) w0 ∧ KC sa (va_A w0 sz) U U.heap
def CTi {S : Type} (l : Launch) (D : va_G) (tys : List (ClassId × FieldType)) (sa : Nat → Nat) (y : MethodName) (ws : List Cond) (rm : Room) (av : List Value) (w0 : va_W) (w1 : S → va_W) (res : Int32 × S) : Prop :=
  ∀ sz : Nat, Met l y ws rm (va_Pc av (PW D tys sa w0 sz)) (va_Qi (fun r u => (r, u) = res) (fun u t => va_P D vwCl (w1 u) t.heap) (va_A w0 sz)) 0 0 (va_A w0 sz)
def CTl {S : Type} (l : Launch) (D : va_G) (tys : List (ClassId × FieldType)) (sa : Nat → Nat) (y : MethodName) (ws : List Cond) (rm : Room) (av : List Value) (w0 : va_W) (w1 : S → va_W) (res : Int64 × S) : Prop :=
  ∀ sz : Nat, Met l y ws rm (va_Pc av (PW D tys sa w0 sz)) (va_Ql (fun r u => (r, u) = res) (fun u t => va_P D vwCl (w1 u) t.heap) (va_A w0 sz)) 0 0 (va_A w0 sz)
def CTv {S : Type} (l : Launch) (D : va_G) (tys : List (ClassId × FieldType)) (sa : Nat → Nat) (y : MethodName) (ws : List Cond) (rm : Room) (av : List Value) (w0 : va_W) (w1 : S → va_W) (res : S) : Prop :=
  ∀ sz : Nat, Met l y ws rm (va_Pc av (PW D tys sa w0 sz)) (va_Qv (fun u => u = res) (fun u t => va_P D vwCl (w1 u) t.heap) (va_A w0 sz)) 0 0 (va_A w0 sz)
def CTr (l : Launch) (D : va_G) (tys : List (ClassId × FieldType)) (sa : Nat → Nat) (y : MethodName) (ws : List Cond) (rm : Room) (av : List Value) (w0 : va_W) (a : Nat) : Prop :=
  ∀ sz : Nat, Met l y ws rm (va_Pc av (PW D tys sa w0 sz)) (va_Qr (fun (_ : Unit) => True) (fun _ q t => q = a ∧ va_P D vwCl w0 t.heap) (va_A w0 sz)) 0 0 (va_A w0 sz)
/-- what stays the same through a method's walk -/
def FX (p : Program) (s : State) (m : MethodId) (args : Array Value) (c : Code) (cc : ByteArray) (nL : Nat) (Ts : List Cond) (own : String) (D : va_G) (tys : List (ClassId × FieldType)) (A : Nat → Prop) (as : List Nat) (sa : Nat → Nat) : Prop :=
  (p.tables.exec = Jvm.exec ∧ c.code = cc ∧ c.maxLocals = nL ∧ s.vm.findClass own = some m.cls ∧ ∀ w ∈ Ts, w.before args s = true) ∧ va_K D vwCl tys s ∧ (∀ ws : va_W, ws.map Prod.fst = as → va_D A ws) ∧ (∀ q : Nat, s.heap.size ≤ q → A q) ∧ KC sa A s s.heap
theorem va_D.addr {A : Nat → Prop} {ws ws' : va_W} (h : va_D A ws) (e : ws'.map Prod.fst = ws.map Prod.fst) : va_D A ws' := by
  have at' : ∀ (i : Nat) (q : Nat × va_E), ws'[i]? = some q → ∃ q', ws[i]? = some q' ∧ q'.1 = q.1 := by
    intro i q hi
    have h1 : (ws'.map Prod.fst)[i]? = some q.1 := by rw [List.getElem?_map, hi]; rfl
    rw [e, List.getElem?_map] at h1
    cases hq : ws[i]? with
    | none => rw [hq] at h1; cases h1
    | some q' => rw [hq] at h1; exact ⟨q', rfl, Option.some.inj h1⟩
  refine ⟨fun i j p q hi hj hpq => ?_, fun k q hk => ?_⟩
  · obtain ⟨p', h1, h2⟩ := at' i p hi
    obtain ⟨q', h3, h4⟩ := at' j q hj
    exact h.1 i j p' q' h1 h3 (by rw [h2, h4, hpq])
  · obtain ⟨q', h1, h2⟩ := at' k q hk
    rw [← h2]; exact h.2 k q' h1
theorem PW.blind {D : va_G} {tys : List (ClassId × FieldType)} {sa : Nat → Nat} {w0 : va_W} {sz : Nat} {av : List Value} : FrameBlind (va_Pc av (PW D tys sa w0 sz)) := by
  intro a U g mk q
  obtain ⟨q0, q1, qP, qK, qD, qC⟩ := q
  exact ⟨q0, q1, qP, va_K.moved (u := U) (U := U.calling g mk a) (Vm.Alike.refl U.vm) qK, qD, qC.blind⟩
/-- the callee's start out of the caller's world -/
theorem PW.of {D : va_G} {tys : List (ClassId × FieldType)} {sa : Nat → Nat} {A : Nat → Prop} {as : List Nat} {s U : State} {H : Heap} {locs : List Loc} {ws wc : va_W} (hK : va_K D vwCl tys s) (hDD : ∀ ws : va_W, ws.map Prod.fst = as → va_D A ws) (hA : ∀ q : Nat, s.heap.size ≤ q → A q) (hKC : KC sa A s s.heap)
    (hP : va_P D vwCl ws H) (hS : va_S A s.heap H locs) (isC : List Nat) (hn : va_nd isC = true) (hC : isC.map (fun i => ws[i]?) = wc.map some) (has : ws.map Prod.fst = as) (hU : U.heap = H) (hW : s.WarmedH U.vm) : PW D tys sa wc H.size U := by
  have hD := hDD ws has
  refine ⟨by rw [hU], ?_, va_K.moved hW.alike hK, (hD.sub isC hn ?_).weaken (fun _ _ _ _ => trivial), hKC.at hS ?_ hW hU⟩
  · rw [hU]
    intro k q hk
    have h1 : (isC.map (fun i => ws[i]?))[k]? = some (some q) := by rw [hC, List.getElem?_map, hk]; rfl
    rw [List.getElem?_map] at h1
    cases hi : isC[k]? with
    | none => rw [hi] at h1; cases h1
    | some i => rw [hi] at h1; exact hP i q (Option.some.inj h1)
  · exact hC
  · exact va_free hD hS hA isC hC
/-! the caller's world behind a call: the callee's cells, as they are now, at their places -/
def wpt : va_W → List Nat → va_W → va_W
  | ws, i :: is, e :: es => wpt (ws.set i e) is es
  | ws, [], _ => ws
  | ws, _ :: _, [] => ws
theorem wpt_get : ∀ (is : List Nat) (ws es : va_W) (k : Nat) (q : Nat × va_E), va_nd is = true → es.length = is.length → (wpt ws is es)[k]? = some q → (∃ j : Nat, is[j]? = some k ∧ es[j]? = some q) ∨ (k ∉ is ∧ ws[k]? = some q) := by
  intro is
  induction is with
  | nil =>
    intro ws es k q _ hl h
    cases es with
    | nil => exact Or.inr ⟨List.not_mem_nil, h⟩
    | cons e es => cases hl
  | cons i is ih =>
    intro ws es k q hn hl h
    cases es with
    | nil => cases hl
    | cons e es =>
      have hn' := hn
      simp only [va_nd, Bool.and_eq_true, decide_eq_true_eq] at hn'
      rcases ih (ws.set i e) es k q hn'.2 (Nat.succ.inj hl) h with ⟨j, h1, h2⟩ | ⟨h1, h2⟩
      · exact Or.inl ⟨j + 1, by rw [List.getElem?_cons_succ]; exact h1, by rw [List.getElem?_cons_succ]; exact h2⟩
      · by_cases hk : i = k
        · subst hk
          rw [List.getElem?_set] at h2
          rw [if_pos rfl] at h2
          by_cases hlt : i < ws.length
          · rw [if_pos hlt] at h2
            exact Or.inl ⟨0, rfl, by rw [← h2]; rfl⟩
          · rw [if_neg hlt] at h2; cases h2
        · rw [List.getElem?_set_ne hk] at h2
          refine Or.inr ⟨fun hm => ?_, h2⟩
          rcases List.mem_cons.mp hm with e1 | e1
          · exact hk e1.symm
          · exact h1 e1
/-- each cell of a world behind a call is the callee's, or the caller's own at a place that the callee hasn't -/
def wRep (ws : va_W) (isC : List Nat) (w1 ws' : va_W) : Prop := ∀ (k : Nat) (q : Nat × va_E), ws'[k]? = some q → (∃ j : Nat, w1[j]? = some q) ∨ (k ∉ isC ∧ ws[k]? = some q)
theorem rep_pt {ws w1 ws' : va_W} {isC : List Nat} (hn : va_nd isC = true) (hl : w1.length = isC.length) (h : wpt ws isC w1 = ws') : wRep ws isC w1 ws' := by
  subst h
  intro k q hq
  rcases wpt_get isC ws w1 k q hn hl hq with ⟨j, -, h2⟩ | h
  · exact Or.inl ⟨j, h2⟩
  · exact Or.inr h
theorem rep_full {ws w1 : va_W} {isC : List Nat} : wRep ws isC w1 w1 := fun k _ hq => Or.inl ⟨k, hq⟩
theorem rep_pre (wa wb w1 : va_W) {isC : List Nat} (hl : w1.length = wa.length) (hc : ∀ k ∈ isC, k < wa.length) : wRep (wa ++ wb) isC w1 (w1 ++ wb) := by
  intro k q hq
  rcases Nat.lt_or_ge k w1.length with h | h
  · rw [List.getElem?_append_left h] at hq
    exact Or.inl ⟨k, hq⟩
  · rw [List.getElem?_append_right h] at hq
    refine Or.inr ⟨fun hm => ?_, ?_⟩
    · have := hc k hm; omega
    · rw [List.getElem?_append_right (by omega), ← hl]; exact hq
theorem rep_suf (wa wb w1 : va_W) {isC : List Nat} (hc : ∀ k ∈ isC, wa.length ≤ k) : wRep (wa ++ wb) isC w1 (wa ++ w1) := by
  intro k q hq
  rcases Nat.lt_or_ge k wa.length with h | h
  · rw [List.getElem?_append_left h] at hq
    refine Or.inr ⟨fun hm => ?_, ?_⟩
    · have := hc k hm; omega
    · rw [List.getElem?_append_left h]; exact hq
  · rw [List.getElem?_append_right h] at hq
    exact Or.inl ⟨_, hq⟩
theorem wback {A0 : Nat → Prop} {D : va_G} {cl : List vw_C} {ws wc w1 ws' : va_W} {H H1 : Heap} (hP : va_P D cl ws H) (hD : va_D A0 ws) (isC : List Nat) (hC : isC.map (fun i => ws[i]?) = wc.map some)
    (hk : ∀ q : Nat, q < H.size → ¬ va_A wc H.size q → H1[q]? = H[q]?) (hrep : wRep ws isC w1 ws') (hP1 : va_P D cl w1 H1) : va_P D cl ws' H1 := by
  intro k q hq
  rcases hrep k q hq with ⟨j, h2⟩ | ⟨h1, h2⟩
  · exact hP1 j q h2
  · have hlt := (hP k q h2).lt
    refine (hP k q h2).kept (hk q.1 hlt fun h => ?_)
    rcases h with ⟨k2, e, h⟩ | h
    · have h3 : (isC.map (fun i => ws[i]?))[k2]? = some (some (q.1, e)) := by rw [hC, List.getElem?_map, h]; rfl
      rw [List.getElem?_map] at h3
      cases hi : isC[k2]? with
      | none => rw [hi] at h3; cases h3
      | some i =>
        rw [hi] at h3
        have hij := hD.1 k i q (q.1, e) h2 (Option.some.inj h3) rfl
        subst hij
        exact h1 (List.mem_of_getElem? hi)
    · omega
section KCALL
variable {p : Program} {l : Launch} {e : Env} {R : Room} {s : State} {m : MethodId} {args : Array Value} {below : List Frame} {meth : Method} {c : Code} {H : Heap} {locs : List Loc} {cells slots : Nat} {Q : State → Prop}
variable {cc : ByteArray} {nL : Nat} {Ts : List Cond} {own : String} {D : va_G} {tys : List (ClassId × FieldType)} {A : Nat → Prop} {as : List Nat} {sa : Nat → Nat}
variable {y : MethodName} {wsc ws' : List Cond} {dc : Nat} {b : Nat} {As rest st : List Value} {wc ws : va_W} {Qc : Array Value → State → Outcome → State → Prop} {free : Addr → Prop} {C : String} {index maxL n pc : Nat} {bytes : ByteArray} {ret : Option FieldType} {ls : Array Slot}
theorem runV_of (F : FX p s m args c cc nL Ts own D tys A as sa) (hP : va_P D vwCl ws H) (hS : va_S A s.heap H locs) (has : ws.map Prod.fst = as) (isC : List Nat) (hn : va_nd isC = true) (hCc : isC.map (fun i => ws[i]?) = wc.map some)
    (hM : Met l y wsc (rmd dc) (va_Pc (.ref b :: As) (PW D tys sa wc H.size)) Qc 0 0 free) (hT : GoodIn Ts (wsV own index C y wsc)) (hw : wsc = Cond.code y bytes maxL ret :: ws')
    (hd : y.cls = C ∧ y.cls ≠ "java/lang/invoke/MethodHandle" ∧ y.cls ≠ "java/lang/invoke/VarHandle" ∧ (parseMethodDescriptor y.desc).map (fun d => d.parameters.length) = some n) (hR : dc + 1 ≤ R.frames ∧ 8 + (maxL + 11) + 40 * dc ≤ R.locals)
    (q0 ci : Nat) {fs : List Value} {T : u_T} {N : Nat} (hq : ws[q0]? = some (b, .inr (ci, fs))) (hcl : vwCl[ci]? = some (C, T, N)) (hna : As.length = n) (hsz : ls.size = nL) (hst : st = As.reverse ++ .ref b :: rest) (hrm : (rest.map fun v => v.category).sum ≤ 8) (hdg : decode cc pc = .ok (.invokevirtual index, 3)) (hcs : cells ≤ R.cells ∧ slots ≤ R.slots) :
    va_Run p l e R s m args below meth c H locs cells slots 0 0 (F0 m pc ls st) rest (Qc (Value.ref b :: As).toArray) free := by
  obtain ⟨F1, hK, hDD, hA, hKC⟩ := F
  exact va_runV (As := As) (rest := rest) F1 hM (cwV n F1.2.2.2.2 hT hw rfl rfl hd hR) ⟨PW.blind, va_recv hK hP hcl hq, fun U hU hW => ⟨rfl, PW.of hK hDD hA hKC hP hS isC hn hCc has hU hW⟩⟩ rfl hna hsz hst (lv_room hrm) hdg hcs
/-- a constant's own method: the receiver is no cell of the world -/
theorem runO_of (F : FX p s m args c cc nL Ts own D tys A as sa) (hP : va_P D vwCl ws H) (hS : va_S A s.heap H locs) (has : ws.map Prod.fst = as) (isC : List Nat) (hn : va_nd isC = true) (hCc : isC.map (fun i => ws[i]?) = wc.map some)
    (hM : Met l y wsc (rmd dc) (va_Pc (.ref b :: As) (PW D tys sa wc H.size)) Qc 0 0 free) (hT : GoodIn Ts (wsV own index C y wsc)) (hw : wsc = Cond.code y bytes maxL ret :: ws')
    (hd : y.cls = C ∧ y.cls ≠ "java/lang/invoke/MethodHandle" ∧ y.cls ≠ "java/lang/invoke/VarHandle" ∧ (parseMethodDescriptor y.desc).map (fun d => d.parameters.length) = some n) (hR : dc + 1 ≤ R.frames ∧ 8 + (maxL + 11) + 40 * dc ≤ R.locals)
    (hO : va_O C b A s s.heap) (hna : As.length = n) (hsz : ls.size = nL) (hst : st = As.reverse ++ .ref b :: rest) (hrm : (rest.map fun v => v.category).sum ≤ 8) (hdg : decode cc pc = .ok (.invokevirtual index, 3)) (hcs : cells ≤ R.cells ∧ slots ≤ R.slots) :
    va_Run p l e R s m args below meth c H locs cells slots 0 0 (F0 m pc ls st) rest (Qc (Value.ref b :: As).toArray) free := by
  obtain ⟨F1, hK, hDD, hA, hKC⟩ := F
  exact va_runV (As := As) (rest := rest) F1 hM (cwV n F1.2.2.2.2 hT hw rfl rfl hd hR) ⟨PW.blind, va_Orecv hO hS, fun U hU hW => ⟨rfl, PW.of hK hDD hA hKC hP hS isC hn hCc has hU hW⟩⟩ rfl hna hsz hst (lv_room hrm) hdg hcs
theorem runS_of (F : FX p s m args c cc nL Ts own D tys A as sa) (hP : va_P D vwCl ws H) (hS : va_S A s.heap H locs) (has : ws.map Prod.fst = as) (isC : List Nat) (hn : va_nd isC = true) (hCc : isC.map (fun i => ws[i]?) = wc.map some)
    (hM : Met l y wsc (rmd dc) (va_Pc As (PW D tys sa wc H.size)) Qc 0 0 free) (hT : GoodIn Ts (va_wsS own index y wsc)) (hw : wsc = Cond.code y bytes maxL ret :: ws')
    (hd : y.cls ≠ "java/lang/invoke/MethodHandle" ∧ y.cls ≠ "java/lang/invoke/VarHandle" ∧ (parseMethodDescriptor y.desc).map (fun d => d.parameters.length) = some n) (hR : dc + 1 ≤ R.frames ∧ 8 + (maxL + 11) + 40 * dc ≤ R.locals)
    (hna : As.length = n) (hsz : ls.size = nL) (hst : st = As.reverse ++ rest) (hrm : (rest.map fun v => v.category).sum ≤ 8) (hdg : decode cc pc = .ok (.invokestatic index, 3)) (hcs : cells ≤ R.cells ∧ slots ≤ R.slots) :
    va_Run p l e R s m args below meth c H locs cells slots 0 0 (F0 m pc ls st) rest (Qc As.toArray) free := by
  obtain ⟨F1, hK, hDD, hA, hKC⟩ := F
  exact va_runS (As := As) (rest := rest) F1 hM (va_cwS n F1.2.2.2.2 hT hw rfl rfl hd hR) ⟨PW.blind, fun U hU hW => ⟨rfl, PW.of hK hDD hA hKC hP hS isC hn hCc has hU hW⟩⟩ rfl hna hsz hst (lv_room hrm) hdg hcs
/-- a private static method of the nest's host -/
theorem runN_of (F : FX p s m args c cc nL Ts own D tys A as sa) (hP : va_P D vwCl ws H) (hS : va_S A s.heap H locs) (has : ws.map Prod.fst = as) (isC : List Nat) (hn : va_nd isC = true) (hCc : isC.map (fun i => ws[i]?) = wc.map some)
    (hM : Met l y wsc (rmd dc) (va_Pc As (PW D tys sa wc H.size)) Qc 0 0 free) (hT : GoodIn Ts wsc) (hw : wsc = Cond.code y bytes maxL ret :: ws') (k : Nat) (hk : nwQ[k]? = some (own, index, y)) (hini : (Cond.initialized y.cls).before args s = true) (hstt : (Cond.static y).before args s = true)
    (hd : y.cls ≠ "java/lang/invoke/MethodHandle" ∧ y.cls ≠ "java/lang/invoke/VarHandle" ∧ (parseMethodDescriptor y.desc).map (fun d => d.parameters.length) = some n) (hR : dc + 1 ≤ R.frames ∧ 8 + (maxL + 11) + 40 * dc ≤ R.locals)
    (hna : As.length = n) (hsz : ls.size = nL) (hst : st = As.reverse ++ rest) (hrm : (rest.map fun v => v.category).sum ≤ 8) (hdg : decode cc pc = .ok (.invokestatic index, 3)) (hcs : cells ≤ R.cells ∧ slots ≤ R.slots) :
    va_Run p l e R s m args below meth c H locs cells slots 0 0 (F0 m pc ls st) rest (Qc As.toArray) free := by
  obtain ⟨F1, hK, hDD, hA, hKC⟩ := F
  exact va_runSN (As := As) (rest := rest) (host := "CapHouse") F1 hM ⟨va_cnB n F1.2.2.2.2 hT hw rfl rfl (hKC.1 k _ hk) hini hd hR, hstt, trivial⟩ ⟨PW.blind, fun U hU hW => ⟨rfl, PW.of hK hDD hA hKC hP hS isC hn hCc has hU hW⟩⟩ rfl hna hsz hst (lv_room hrm) hdg hcs
variable {a : Array Value} {st0 : List Value}
theorem res_i {S : Type} {w1 : S → va_W} {res : Int32 × S} (F : FX p s m args c cc nL Ts own D tys A as sa) (hP : va_P D vwCl ws H) (hS : va_S A s.heap H locs) (has : ws.map Prod.fst = as) (isC : List Nat) (hn : va_nd isC = true) (hCc : isC.map (fun i => ws[i]?) = wc.map some)
    (hr : va_Run p l e R s m args below meth c H locs cells slots 0 0 (F0 m pc ls st0) rest (va_Qi (fun r u => (r, u) = res) (fun u t => va_P D vwCl (w1 u) t.heap) (va_A wc H.size) a) (va_A wc H.size))
    {ws' : va_W} (hrep : wRep ws isC (w1 res.2) ws')
    (kk : ∀ (H1 : Heap) (locs1 : List Loc), va_P D vwCl ws' H1 → va_S A s.heap H1 locs1 → W p l e R s m args below meth c H1 locs1 cells slots Q (F0 m (pc + 3) ls (.int res.1 :: rest))) : W p l e R s m args below meth c H locs cells slots Q (F0 m pc ls st0) := by
  obtain ⟨F1, hK, hDD, hA, hKC⟩ := F
  have hD := hDD ws has
  have hF := va_free hD hS hA isC hCc
  refine va_calli hr hS (fun q _ h => hF q h) hF (fun r u t H1 locs1 ht hvm hw hB hz1 hk1 hS1 => ?_)
  subst hw
  exact kk H1 locs1 (wback hP hD isC hCc hk1 hrep (by rw [← ht]; exact hB)) hS1
theorem res_l {S : Type} {w1 : S → va_W} {res : Int64 × S} (F : FX p s m args c cc nL Ts own D tys A as sa) (hP : va_P D vwCl ws H) (hS : va_S A s.heap H locs) (has : ws.map Prod.fst = as) (isC : List Nat) (hn : va_nd isC = true) (hCc : isC.map (fun i => ws[i]?) = wc.map some)
    (hr : va_Run p l e R s m args below meth c H locs cells slots 0 0 (F0 m pc ls st0) rest (va_Ql (fun r u => (r, u) = res) (fun u t => va_P D vwCl (w1 u) t.heap) (va_A wc H.size) a) (va_A wc H.size))
    {ws' : va_W} (hrep : wRep ws isC (w1 res.2) ws')
    (kk : ∀ (H1 : Heap) (locs1 : List Loc), va_P D vwCl ws' H1 → va_S A s.heap H1 locs1 → W p l e R s m args below meth c H1 locs1 cells slots Q (F0 m (pc + 3) ls (.long res.1 :: rest))) : W p l e R s m args below meth c H locs cells slots Q (F0 m pc ls st0) := by
  obtain ⟨F1, hK, hDD, hA, hKC⟩ := F
  have hD := hDD ws has
  have hF := va_free hD hS hA isC hCc
  refine va_calll hr hS (fun q _ h => hF q h) hF (fun r u t H1 locs1 ht hvm hw hB hz1 hk1 hS1 => ?_)
  subst hw
  exact kk H1 locs1 (wback hP hD isC hCc hk1 hrep (by rw [← ht]; exact hB)) hS1
theorem res_v {S : Type} {w1 : S → va_W} {res : S} (F : FX p s m args c cc nL Ts own D tys A as sa) (hP : va_P D vwCl ws H) (hS : va_S A s.heap H locs) (has : ws.map Prod.fst = as) (isC : List Nat) (hn : va_nd isC = true) (hCc : isC.map (fun i => ws[i]?) = wc.map some)
    (hr : va_Run p l e R s m args below meth c H locs cells slots 0 0 (F0 m pc ls st0) rest (va_Qv (fun u => u = res) (fun u t => va_P D vwCl (w1 u) t.heap) (va_A wc H.size) a) (va_A wc H.size))
    {ws' : va_W} (hrep : wRep ws isC (w1 res) ws')
    (kk : ∀ (H1 : Heap) (locs1 : List Loc), va_P D vwCl ws' H1 → va_S A s.heap H1 locs1 → W p l e R s m args below meth c H1 locs1 cells slots Q (F0 m (pc + 3) ls rest)) : W p l e R s m args below meth c H locs cells slots Q (F0 m pc ls st0) := by
  obtain ⟨F1, hK, hDD, hA, hKC⟩ := F
  have hD := hDD ws has
  have hF := va_free hD hS hA isC hCc
  refine va_callv hr hS (fun q _ h => hF q h) hF (fun u t H1 locs1 ht hvm hw hB hz1 hk1 hS1 => ?_)
  subst hw
  exact kk H1 locs1 (wback hP hD isC hCc hk1 hrep (by rw [← ht]; exact hB)) hS1
/-- behind a call that writes nothing the caller's world is the same -/
theorem wsame {A0 : Nat → Prop} {D : va_G} {cl : List vw_C} {ws wc : va_W} {H H1 : Heap} (hP : va_P D cl ws H) (hD : va_D A0 ws) (isC : List Nat) (hC : isC.map (fun i => ws[i]?) = wc.map some)
    (hk : ∀ q : Nat, q < H.size → ¬ va_A wc H.size q → H1[q]? = H[q]?) (hP1 : va_P D cl wc H1) : va_P D cl ws H1 := by
  intro k q hq
  by_cases hm : k ∈ isC
  · obtain ⟨j, hj⟩ := List.getElem?_of_mem hm
    have h3 : (isC.map (fun i => ws[i]?))[j]? = some (some q) := by rw [List.getElem?_map, hj]; show some (ws[k]?) = _; rw [hq]
    rw [hC, List.getElem?_map] at h3
    cases hw : wc[j]? with
    | none => rw [hw] at h3; cases h3
    | some q' => rw [hw] at h3; cases h3; exact hP1 j q hw
  · have hlt := (hP k q hq).lt
    refine (hP k q hq).kept (hk q.1 hlt fun h => ?_)
    rcases h with ⟨k2, e, h⟩ | h
    · have h3 : (isC.map (fun i => ws[i]?))[k2]? = some (some (q.1, e)) := by rw [hC, List.getElem?_map, h]; rfl
      rw [List.getElem?_map] at h3
      cases hi : isC[k2]? with
      | none => rw [hi] at h3; cases h3
      | some i =>
        rw [hi] at h3
        have hij := hD.1 k i q (q.1, e) hq (Option.some.inj h3) rfl
        subst hij
        exact hm (List.mem_of_getElem? hi)
    · omega
theorem res_i0 {res : Int32} (F : FX p s m args c cc nL Ts own D tys A as sa) (hP : va_P D vwCl ws H) (hS : va_S A s.heap H locs) (has : ws.map Prod.fst = as) (isC : List Nat) (hn : va_nd isC = true) (hCc : isC.map (fun i => ws[i]?) = wc.map some)
    (hr : va_Run p l e R s m args below meth c H locs cells slots 0 0 (F0 m pc ls st0) rest (va_Qi (fun r (u : Unit) => (r, u) = (res, ())) (fun _ t => va_P D vwCl wc t.heap) (va_A wc H.size) a) (va_A wc H.size))
    (kk : ∀ (H1 : Heap) (locs1 : List Loc), va_P D vwCl ws H1 → va_S A s.heap H1 locs1 → W p l e R s m args below meth c H1 locs1 cells slots Q (F0 m (pc + 3) ls (.int res :: rest))) : W p l e R s m args below meth c H locs cells slots Q (F0 m pc ls st0) := by
  obtain ⟨F1, hK, hDD, hA, hKC⟩ := F
  have hD := hDD ws has
  have hF := va_free hD hS hA isC hCc
  refine va_calli hr hS (fun q _ h => hF q h) hF (fun r u t H1 locs1 ht hvm hw hB hz1 hk1 hS1 => ?_)
  cases hw
  exact kk H1 locs1 (wsame hP hD isC hCc hk1 (by rw [← ht]; exact hB)) hS1
theorem res_l0 {res : Int64} (F : FX p s m args c cc nL Ts own D tys A as sa) (hP : va_P D vwCl ws H) (hS : va_S A s.heap H locs) (has : ws.map Prod.fst = as) (isC : List Nat) (hn : va_nd isC = true) (hCc : isC.map (fun i => ws[i]?) = wc.map some)
    (hr : va_Run p l e R s m args below meth c H locs cells slots 0 0 (F0 m pc ls st0) rest (va_Ql (fun r (u : Unit) => (r, u) = (res, ())) (fun _ t => va_P D vwCl wc t.heap) (va_A wc H.size) a) (va_A wc H.size))
    (kk : ∀ (H1 : Heap) (locs1 : List Loc), va_P D vwCl ws H1 → va_S A s.heap H1 locs1 → W p l e R s m args below meth c H1 locs1 cells slots Q (F0 m (pc + 3) ls (.long res :: rest))) : W p l e R s m args below meth c H locs cells slots Q (F0 m pc ls st0) := by
  obtain ⟨F1, hK, hDD, hA, hKC⟩ := F
  have hD := hDD ws has
  have hF := va_free hD hS hA isC hCc
  refine va_calll hr hS (fun q _ h => hF q h) hF (fun r u t H1 locs1 ht hvm hw hB hz1 hk1 hS1 => ?_)
  cases hw
  exact kk H1 locs1 (wsame hP hD isC hCc hk1 (by rw [← ht]; exact hB)) hS1
theorem res_r {q : Nat} (F : FX p s m args c cc nL Ts own D tys A as sa) (hP : va_P D vwCl ws H) (hS : va_S A s.heap H locs) (has : ws.map Prod.fst = as) (isC : List Nat) (hn : va_nd isC = true) (hCc : isC.map (fun i => ws[i]?) = wc.map some)
    (hr : va_Run p l e R s m args below meth c H locs cells slots 0 0 (F0 m pc ls st0) rest (va_Qr (fun (_ : Unit) => True) (fun _ q' t => q' = q ∧ va_P D vwCl wc t.heap) (va_A wc H.size) a) (va_A wc H.size))
    (kk : ∀ (H1 : Heap) (locs1 : List Loc), va_P D vwCl ws H1 → va_S A s.heap H1 locs1 → W p l e R s m args below meth c H1 locs1 cells slots Q (F0 m (pc + 3) ls (.ref q :: rest))) : W p l e R s m args below meth c H locs cells slots Q (F0 m pc ls st0) := by
  obtain ⟨F1, hK, hDD, hA, hKC⟩ := F
  have hD := hDD ws has
  have hF := va_free hD hS hA isC hCc
  refine va_callr hr hS (fun q _ h => hF q h) hF (fun u ra t H1 locs1 ht hvm hw hB hz1 hk1 hS1 => ?_)
  obtain ⟨rfl, hB⟩ := hB
  exact kk H1 locs1 (wsame hP hD isC hCc hk1 (by rw [← ht]; exact hB)) hS1
/-! blocks with more than one way in, and loops -/
theorem kblk {α ρ : Type} {res : ρ} (J : α → Option ρ) (F : FX p s m args c cc nL Ts own D tys A as sa) (w : α → va_W) (lv : α → List (Nat × Value)) (stk : α → List Value) (pcj : Nat) {g : JFrame}
    (blk : ∀ (a : α) (H : Heap) (locs : List Loc) (ls : Array Slot), va_P D vwCl (w a) H → va_S A s.heap H locs → lv_has ls nL (lv a) → J a = some res → W p l e R s m args below meth c H locs cells slots Q (F0 m pcj ls (stk a)))
    (k : (∀ (a : α) (H : Heap) (locs : List Loc) (ls : Array Slot), va_P D vwCl (w a) H → va_S A s.heap H locs → lv_has ls nL (lv a) → J a = some res → W p l e R s m args below meth c H locs cells slots Q (F0 m pcj ls (stk a))) → W p l e R s m args below meth c H locs cells slots Q g) : W p l e R s m args below meth c H locs cells slots Q g := k blk
theorem kloop {α ρ : Type} {res : ρ} (Lf : Nat → α → Option ρ) (Lb : (α → Option ρ) → α → Option ρ) (h0 : ∀ a, Lf 0 a = none) (hs : ∀ n a, Lf (n + 1) a = Lb (Lf n) a) (F : FX p s m args c cc nL Ts own D tys A as sa) (w : α → va_W) (lv : α → List (Nat × Value)) (stk : α → List Value) (pcj : Nat) {g : JFrame}
    (step : ∀ rec : α → Option ρ, (∀ (a : α) (H : Heap) (locs : List Loc) (ls : Array Slot), va_P D vwCl (w a) H → va_S A s.heap H locs → lv_has ls nL (lv a) → rec a = some res → W p l e R s m args below meth c H locs cells slots Q (F0 m pcj ls (stk a))) →
      ∀ (a : α) (H : Heap) (locs : List Loc) (ls : Array Slot), va_P D vwCl (w a) H → va_S A s.heap H locs → lv_has ls nL (lv a) → Lb rec a = some res → W p l e R s m args below meth c H locs cells slots Q (F0 m pcj ls (stk a)))
    (k : (∀ (n : Nat) (a : α) (H : Heap) (locs : List Loc) (ls : Array Slot), va_P D vwCl (w a) H → va_S A s.heap H locs → lv_has ls nL (lv a) → Lf n a = some res → W p l e R s m args below meth c H locs cells slots Q (F0 m pcj ls (stk a))) → W p l e R s m args below meth c H locs cells slots Q g) : W p l e R s m args below meth c H locs cells slots Q g := by
  refine k (fun n => ?_)
  induction n with
  | zero => intro a H locs ls _ _ _ hM; rw [h0] at hM; cases hM
  | succ n ih => intro a H locs ls hP hS hl hM; rw [hs] at hM; exact step (Lf n) ih a H locs ls hP hS hl hM
/-! fields and rows -/
theorem g_get {T : u_T} {N ci : Nat} (F : FX p s m args c cc nL Ts own D tys A as sa) (hP : va_P D vwCl ws H) (q0 : Nat) {fs : List Value} (he : ws[q0]? = some (b, .inr (ci, fs))) (hc : vwCl[ci]? = some (C, T, N)) (hin : ∀ w ∈ u_ws C T N, w ∈ Ts) (k : Nat) (hk : k < N)
    (hlink : Cond.fieldLink own index (T k).1 (T k).2.1 (T k).2.2.1 ∈ Ts) {v : Value} (hv : fs[k]? = some v) (hdg : decode cc pc = .ok (.getfield index, 3))
    (kk : W p l e R s m args below meth c H locs cells slots Q (F0 m (pc + 3) ls (v :: rest))) : W p l e R s m args below meth c H locs cells slots Q (F0 m pc ls (.ref b :: rest)) := by
  obtain ⟨⟨hx, hb, hml, hown, hts⟩, hK, hDD, hA, hKC⟩ := F
  exact va_get hx hb hts hin hown hK hP q0 he hc k hk (hts _ hlink) (fun _ h => h) hv hdg kk
theorem g_getO {o n d : String} {v : Value} {t : Nat} (hE : va_OF o n d v t A s s.heap) (hS : va_S A s.heap H locs) (hx : p.tables.exec = Jvm.exec) (hb : c.code = cc) (hown : s.vm.findClass own = some m.cls) (hlink : (Cond.fieldLink own index o n d).before args s = true) (hdg : decode cc pc = .ok (.getfield index, 3))
    (kk : W p l e R s m args below meth c H locs cells slots Q (F0 m (pc + 3) ls (v :: rest))) : W p l e R s m args below meth c H locs cells slots Q (F0 m pc ls (.ref t :: rest)) := by
  obtain ⟨cf, k, fi, f, cell, h1, h2, h3, h4, h5, h6⟩ := hE.kept hS.2.1
  exact W.getf hx hb hown hlink h1 h2 h3 h4 (v := v) h5 rfl rfl hdg kk
theorem va_ldcwS (hx : p.tables.exec = Jvm.exec) (hb : c.code = cc) {tx : String} {q : Nat} (hown : s.vm.findClass own = some m.cls) (hZ : vk_R own index tx q s) (hdg : decode cc pc = .ok (.ldc_w index, 3))
    (k : W p l e R s m args below meth c H locs cells slots Q (F0 m (pc + 3) ls (.ref q :: rest))) : W p l e R s m args below meth c H locs cells slots Q (F0 m pc ls rest) := by
  intro T hT X
  obtain ⟨t, a1, b1⟩ := k T hT X
  refine ⟨t, ?_, b1⟩
  obtain ⟨kc, cf, i, a', hk, hcf, hcp, -, hr, hev'⟩ := Cond.stringRef_spec (args := #[]) hown hZ.1
  cases hZ.2.symm.trans hev'
  obtain ⟨k', hk', he⟩ := X.warmed.alike.2.2 _ _ hk
  have hr' : k'.resolved[index]? = some (some (.string q)) := by
    rcases X.warmed.entry hk hk' index with h | ⟨h, -⟩
    · rw [h]; exact hr
    · rw [hr] at h; cases h
  have hdg' : decode c.code (F0 m pc ls rest).pc = .ok (.ldc_w index, 3) := by rw [hb]; exact hdg
  jvm_step X.here [hx, hdg', ldc_w.wp_string (e := e) (s := T) (f := F0 m pc ls rest) X.here.top hk' (by rw [he]; exact hcf) hcp hr']
  exact a1
theorem g_put {T : u_T} {N ci : Nat} {ty : FieldType} {v : Value} {ws' : va_W} (F : FX p s m args c cc nL Ts own D tys A as sa) (hP : va_P D vwCl ws H) (hS : va_S A s.heap H locs) (has : ws.map Prod.fst = as) (ty0 : Nat → FieldType) (hty : ∀ k, k < N → parseFieldDescriptor (T k).2.2.1 = some (ty0 k)) (hnm : ∀ a, a < N → ∀ b, b < N → a ≠ b → (T a).2.1 ≠ (T b).2.1)
    (q0 : Nat) {fs : List Value} (he : ws[q0]? = some (b, .inr (ci, fs))) (hc : vwCl[ci]? = some (C, T, N)) (hin : ∀ w ∈ u_ws C T N, w ∈ Ts) (k : Nat) (hk : k < N)
    (hlink : Cond.fieldLink own index (T k).1 (T k).2.1 (T k).2.2.1 ∈ Ts) (hfin : (T k).2.2.2 = false) (hd : parseFieldDescriptor (T k).2.2.1 = some ty) (hn : narrow ty v = v) (hfit : fits ty v = true) (hl : k < fs.length) (hdg : decode cc pc = .ok (.putfield index, 3))
    (hset : ws.set q0 (b, .inr (ci, fs.set k v)) = ws') (kk : ∀ (H1 : Heap) (locs1 : List Loc), va_P D vwCl ws' H1 → va_S A s.heap H1 locs1 → W p l e R s m args below meth c H1 locs1 cells slots Q (F0 m (pc + 3) ls rest)) : W p l e R s m args below meth c H locs cells slots Q (F0 m pc ls (v :: .ref b :: rest)) := by
  obtain ⟨⟨hx, hb, hml, hown, hts⟩, hK, hDD, hA, hKC⟩ := F
  exact va_put hx hb hts hin ty0 hty hnm hown hK hP (hDD _ has) hS q0 he hc k hk (hts _ hlink) (fun _ h => h) hfin hd hn hfit hl hdg (fun H1 locs1 hP1 hD1 hS1 => kk H1 locs1 (hset ▸ hP1) hS1)
theorem g_iast {ws' : va_W} {i x : Int32} (F : FX p s m args c cc nL Ts own D tys A as sa) (hP : va_P D vwCl ws H) (hS : va_S A s.heap H locs) (has : ws.map Prod.fst = as) (q0 t0 : Nat) {cA : ClassId} {n : Nat} {f : Nat → Int32} (ha : ws[q0]? = some (b, .inl (cA, n, .inl f))) (ht : tys[t0]? = some (cA, .int)) (hin : vp_in i n) (hdg : decode cc pc = .ok (.iastore, 1))
    (hset : ws.set q0 (b, .inl (cA, n, .inl (upd f i.toNatClampNeg x))) = ws') (kk : ∀ (H1 : Heap) (locs1 : List Loc), va_P D vwCl ws' H1 → va_S A s.heap H1 locs1 → W p l e R s m args below meth c H1 locs1 cells slots Q (F0 m (pc + 1) ls rest)) : W p l e R s m args below meth c H locs cells slots Q (F0 m pc ls (.int x :: .int i :: .ref b :: rest)) := by
  obtain ⟨⟨hx, hb, hml, hown, hts⟩, hK, hDD, hA, hKC⟩ := F
  exact va_iast hx hb hK hP (hDD _ has) hS q0 t0 ha ht hin hdg (fun H1 locs1 hP1 hD1 hS1 => kk H1 locs1 (hset ▸ hP1) hS1)
theorem g_cast {ws' : va_W} {i x : Int32} (F : FX p s m args c cc nL Ts own D tys A as sa) (hP : va_P D vwCl ws H) (hS : va_S A s.heap H locs) (has : ws.map Prod.fst = as) (q0 t0 : Nat) {cA : ClassId} {n : Nat} {f : Nat → Int32} (ha : ws[q0]? = some (b, .inl (cA, n, .inl f))) (ht : tys[t0]? = some (cA, .char)) (hin : vp_in i n) (hdg : decode cc pc = .ok (.castore, 1))
    (hset : ws.set q0 (b, .inl (cA, n, .inl (upd f i.toNatClampNeg (vp_nar .char x)))) = ws') (kk : ∀ (H1 : Heap) (locs1 : List Loc), va_P D vwCl ws' H1 → va_S A s.heap H1 locs1 → W p l e R s m args below meth c H1 locs1 cells slots Q (F0 m (pc + 1) ls rest)) : W p l e R s m args below meth c H locs cells slots Q (F0 m pc ls (.int x :: .int i :: .ref b :: rest)) := by
  obtain ⟨⟨hx, hb, hml, hown, hts⟩, hK, hDD, hA, hKC⟩ := F
  exact va_cast hx hb hK hP (hDD _ has) hS q0 t0 ha ht hin hdg (fun H1 locs1 hP1 hD1 hS1 => kk H1 locs1 (hset ▸ hP1) hS1)
theorem g_zast {ws' : va_W} {i x : Int32} (F : FX p s m args c cc nL Ts own D tys A as sa) (hP : va_P D vwCl ws H) (hS : va_S A s.heap H locs) (has : ws.map Prod.fst = as) (q0 t0 : Nat) {cA : ClassId} {n : Nat} {f : Nat → Int32} (ha : ws[q0]? = some (b, .inl (cA, n, .inl f))) (ht : tys[t0]? = some (cA, .boolean)) (hin : vp_in i n) (hdg : decode cc pc = .ok (.bastore, 1))
    (hset : ws.set q0 (b, .inl (cA, n, .inl (upd f i.toNatClampNeg (vp_nar .boolean x)))) = ws') (kk : ∀ (H1 : Heap) (locs1 : List Loc), va_P D vwCl ws' H1 → va_S A s.heap H1 locs1 → W p l e R s m args below meth c H1 locs1 cells slots Q (F0 m (pc + 1) ls rest)) : W p l e R s m args below meth c H locs cells slots Q (F0 m pc ls (.int x :: .int i :: .ref b :: rest)) := by
  obtain ⟨⟨hx, hb, hml, hown, hts⟩, hK, hDD, hA, hKC⟩ := F
  exact va_zast hx hb hK hP (hDD _ has) hS q0 t0 ha ht hin hdg (fun H1 locs1 hP1 hD1 hS1 => kk H1 locs1 (hset ▸ hP1) hS1)
/-! returns -/
theorem ret_i {S : Type} {w1 : S → va_W} {res : Int32 × S} {v : Int32} {u : S} (hx : p.tables.exec = Jvm.exec) (hb : c.code = cc) (hr : meth.sig.returnType = some .int) (hlocks : meth.locks = false) (hdg : decode cc pc = .ok (.ireturn, 1)) (hM : some (v, u) = some res) (hP : va_P D vwCl (w1 u) H) (hS : va_S A s.heap H locs) :
    W p l e R s m args below meth c H locs cells slots (MQ below (va_Qi (fun r u => (r, u) = res) (fun u t => va_P D vwCl (w1 u) t.heap) A) args s cells slots A) (F0 m pc ls [.int v]) :=
  W.iret (v := v) hx hb hr (fun t ht hW => ⟨⟨v, u, rfl, Option.some.inj hM, by show va_P D vwCl _ t.heap; rw [ht]; exact hP⟩, hS.F ht⟩) hS.2.2 hdg hlocks
theorem ret_z {S : Type} {w1 : S → va_W} {res : Int32 × S} {v : Int32} {u : S} {ty : FieldType} (hx : p.tables.exec = Jvm.exec) (hb : c.code = cc) (hr : meth.sig.returnType = some ty) (hlocks : meth.locks = false) (hdg : decode cc pc = .ok (.ireturn, 1)) (hn : narrow ty (.int v) = .int v) (hM : some (v, u) = some res) (hP : va_P D vwCl (w1 u) H) (hS : va_S A s.heap H locs) :
    W p l e R s m args below meth c H locs cells slots (MQ below (va_Qi (fun r u => (r, u) = res) (fun u t => va_P D vwCl (w1 u) t.heap) A) args s cells slots A) (F0 m pc ls [.int v]) :=
  W.zret (v := v) hx hb hr hn (fun t ht hW => ⟨⟨v, u, rfl, Option.some.inj hM, by show va_P D vwCl _ t.heap; rw [ht]; exact hP⟩, hS.F ht⟩) hS.2.2 hdg hlocks
theorem ret_l {S : Type} {w1 : S → va_W} {res : Int64 × S} {v : Int64} {u : S} (hx : p.tables.exec = Jvm.exec) (hb : c.code = cc) (hr : meth.sig.returnType = some .long) (hlocks : meth.locks = false) (hdg : decode cc pc = .ok (.lreturn, 1)) (hM : some (v, u) = some res) (hP : va_P D vwCl (w1 u) H) (hS : va_S A s.heap H locs) :
    W p l e R s m args below meth c H locs cells slots (MQ below (va_Ql (fun r u => (r, u) = res) (fun u t => va_P D vwCl (w1 u) t.heap) A) args s cells slots A) (F0 m pc ls [.long v]) :=
  W.lret (v := v) hx hb hr (fun t ht hW => ⟨⟨v, u, rfl, Option.some.inj hM, by show va_P D vwCl _ t.heap; rw [ht]; exact hP⟩, hS.F ht⟩) hS.2.2 hdg hlocks
theorem ret_v {S : Type} {w1 : S → va_W} {res : S} {u : S} (hx : p.tables.exec = Jvm.exec) (hb : c.code = cc) (hr : meth.sig.returnType = none) (hlocks : meth.locks = false) (hdg : decode cc pc = .ok (.return_, 1)) (hM : some u = some res) (hP : va_P D vwCl (w1 u) H) (hS : va_S A s.heap H locs) :
    W p l e R s m args below meth c H locs cells slots (MQ below (va_Qv (fun u => u = res) (fun u t => va_P D vwCl (w1 u) t.heap) A) args s cells slots A) (F0 m pc ls []) :=
  W.vret hx hb hr (fun t ht hW => ⟨⟨u, rfl, Option.some.inj hM, by show va_P D vwCl _ t.heap; rw [ht]; exact hP⟩, hS.F ht⟩) hS.2.2 hdg hlocks
theorem ret_r {q : Nat} {C : String} (hx : p.tables.exec = Jvm.exec) (hb : c.code = cc) (hr : meth.sig.returnType = some (.object C)) (hlocks : meth.locks = false) (hdg : decode cc pc = .ok (.areturn, 1)) (hP : va_P D vwCl ws H) (hS : va_S A s.heap H locs) :
    W p l e R s m args below meth c H locs cells slots (MQ below (va_Qr (fun (_ : Unit) => True) (fun _ q' t => q' = q ∧ va_P D vwCl ws t.heap) A) args s cells slots A) (F0 m pc ls [.ref q]) :=
  W.aret (v := .ref q) hx hb hr (Or.inl ⟨C, rfl⟩) (Or.inr ⟨q, rfl⟩) (fun t ht hW => ⟨⟨(), q, rfl, trivial, rfl, by show va_P D vwCl _ t.heap; rw [ht]; exact hP⟩, hS.F ht⟩) hS.2.2 hdg hlocks
end KCALL
/-! a contract out of the walk of its body -/
theorem CTi.enter {S : Type} {l : Launch} {D : va_G} {tys : List (ClassId × FieldType)} {sa : Nat → Nat} {y : MethodName} {ws ws' : List Cond} {d : Nat} {av : List Value} {w0 : va_W} {w1 : S → va_W} {res : Int32 × S} {own : String} {cc : ByteArray} {maxL : Nat} {ret : Option FieldType} (hy : plainName y.cls = true) (ho : y.cls = own) (hw : ws = Cond.code y cc maxL ret :: ws') (hlen : (lg_sl av).length ≤ maxL)
    (body : ∀ (p : Program) (e : Env) (s : State) (m : MethodId) (below : List Frame) (meth : Method) (c : Code) (A : Nat → Prop), FX p s m av.toArray c cc maxL ws own D tys A (w0.map Prod.fst) sa → meth.sig.returnType = ret → meth.locks = false → va_P D vwCl w0 s.heap → va_S A s.heap s.heap [] → ∀ ls : Array Slot, lv_has ls maxL (lv_args 0 av) →
      W p l e (headSpec ws (rmd d)).room s m av.toArray below meth c s.heap [] 0 0 (MQ below (va_Qi (fun r u => (r, u) = res) (fun u t => va_P D vwCl (w1 u) t.heap) A) av.toArray s 0 0 A) (F0 m 0 ls [])) : CTi l D tys sa y ws (rmd d) av w0 w1 res := by
  subst ho
  intro sz
  refine Met.ofW (cc := cc) (maxL := maxL) (ret := ret) hy hw ?_
  intro p e s m args below meth c s₁ B hml hv
  obtain ⟨rfl, hsz, hP, hK, hD0, hKC⟩ := hv
  have hts := atoms_spec (ws := ws) B.pre
  have hown : s.vm.findClass y.cls = some m.cls := findClass_of_methodNamed B.named
  subst hsz
  have hl := lv_entry av (n := maxL) hlen
  rw [lg_entry_eq]
  generalize (lg_sl av ++ List.replicate (maxL - (lg_sl av).length) Slot.unset).toArray = ls at hl ⊢
  exact body p e s m below meth c (va_A w0 s.heap.size) ⟨⟨B.exec, B.bytes, hml, hown, hts⟩, hK, fun ws' e => (hD0.self (sz := s.heap.size)).addr e, fun q h => Or.inr h, hKC⟩ B.returns B.notSynchronized hP va_S.rf ls hl
theorem CTl.enter {S : Type} {l : Launch} {D : va_G} {tys : List (ClassId × FieldType)} {sa : Nat → Nat} {y : MethodName} {ws ws' : List Cond} {d : Nat} {av : List Value} {w0 : va_W} {w1 : S → va_W} {res : Int64 × S} {own : String} {cc : ByteArray} {maxL : Nat} {ret : Option FieldType} (hy : plainName y.cls = true) (ho : y.cls = own) (hw : ws = Cond.code y cc maxL ret :: ws') (hlen : (lg_sl av).length ≤ maxL)
    (body : ∀ (p : Program) (e : Env) (s : State) (m : MethodId) (below : List Frame) (meth : Method) (c : Code) (A : Nat → Prop), FX p s m av.toArray c cc maxL ws own D tys A (w0.map Prod.fst) sa → meth.sig.returnType = ret → meth.locks = false → va_P D vwCl w0 s.heap → va_S A s.heap s.heap [] → ∀ ls : Array Slot, lv_has ls maxL (lv_args 0 av) →
      W p l e (headSpec ws (rmd d)).room s m av.toArray below meth c s.heap [] 0 0 (MQ below (va_Ql (fun r u => (r, u) = res) (fun u t => va_P D vwCl (w1 u) t.heap) A) av.toArray s 0 0 A) (F0 m 0 ls [])) : CTl l D tys sa y ws (rmd d) av w0 w1 res := by
  subst ho
  intro sz
  refine Met.ofW (cc := cc) (maxL := maxL) (ret := ret) hy hw ?_
  intro p e s m args below meth c s₁ B hml hv
  obtain ⟨rfl, hsz, hP, hK, hD0, hKC⟩ := hv
  have hts := atoms_spec (ws := ws) B.pre
  have hown : s.vm.findClass y.cls = some m.cls := findClass_of_methodNamed B.named
  subst hsz
  have hl := lv_entry av (n := maxL) hlen
  rw [lg_entry_eq]
  generalize (lg_sl av ++ List.replicate (maxL - (lg_sl av).length) Slot.unset).toArray = ls at hl ⊢
  exact body p e s m below meth c (va_A w0 s.heap.size) ⟨⟨B.exec, B.bytes, hml, hown, hts⟩, hK, fun ws' e => (hD0.self (sz := s.heap.size)).addr e, fun q h => Or.inr h, hKC⟩ B.returns B.notSynchronized hP va_S.rf ls hl
theorem CTv.enter {S : Type} {l : Launch} {D : va_G} {tys : List (ClassId × FieldType)} {sa : Nat → Nat} {y : MethodName} {ws ws' : List Cond} {d : Nat} {av : List Value} {w0 : va_W} {w1 : S → va_W} {res : S} {own : String} {cc : ByteArray} {maxL : Nat} {ret : Option FieldType} (hy : plainName y.cls = true) (ho : y.cls = own) (hw : ws = Cond.code y cc maxL ret :: ws') (hlen : (lg_sl av).length ≤ maxL)
    (body : ∀ (p : Program) (e : Env) (s : State) (m : MethodId) (below : List Frame) (meth : Method) (c : Code) (A : Nat → Prop), FX p s m av.toArray c cc maxL ws own D tys A (w0.map Prod.fst) sa → meth.sig.returnType = ret → meth.locks = false → va_P D vwCl w0 s.heap → va_S A s.heap s.heap [] → ∀ ls : Array Slot, lv_has ls maxL (lv_args 0 av) →
      W p l e (headSpec ws (rmd d)).room s m av.toArray below meth c s.heap [] 0 0 (MQ below (va_Qv (fun u => u = res) (fun u t => va_P D vwCl (w1 u) t.heap) A) av.toArray s 0 0 A) (F0 m 0 ls [])) : CTv l D tys sa y ws (rmd d) av w0 w1 res := by
  subst ho
  intro sz
  refine Met.ofW (cc := cc) (maxL := maxL) (ret := ret) hy hw ?_
  intro p e s m args below meth c s₁ B hml hv
  obtain ⟨rfl, hsz, hP, hK, hD0, hKC⟩ := hv
  have hts := atoms_spec (ws := ws) B.pre
  have hown : s.vm.findClass y.cls = some m.cls := findClass_of_methodNamed B.named
  subst hsz
  have hl := lv_entry av (n := maxL) hlen
  rw [lg_entry_eq]
  generalize (lg_sl av ++ List.replicate (maxL - (lg_sl av).length) Slot.unset).toArray = ls at hl ⊢
  exact body p e s m below meth c (va_A w0 s.heap.size) ⟨⟨B.exec, B.bytes, hml, hown, hts⟩, hK, fun ws' e => (hD0.self (sz := s.heap.size)).addr e, fun q h => Or.inr h, hKC⟩ B.returns B.notSynchronized hP va_S.rf ls hl
theorem CTr.enter {l : Launch} {D : va_G} {tys : List (ClassId × FieldType)} {sa : Nat → Nat} {y : MethodName} {ws ws' : List Cond} {d : Nat} {av : List Value} {w0 : va_W} {a : Nat} {own : String} {cc : ByteArray} {maxL : Nat} {ret : Option FieldType} (hy : plainName y.cls = true) (ho : y.cls = own) (hw : ws = Cond.code y cc maxL ret :: ws') (hlen : (lg_sl av).length ≤ maxL)
    (body : ∀ (p : Program) (e : Env) (s : State) (m : MethodId) (below : List Frame) (meth : Method) (c : Code) (A : Nat → Prop), FX p s m av.toArray c cc maxL ws own D tys A (w0.map Prod.fst) sa → meth.sig.returnType = ret → meth.locks = false → va_P D vwCl w0 s.heap → va_S A s.heap s.heap [] → ∀ ls : Array Slot, lv_has ls maxL (lv_args 0 av) →
      W p l e (headSpec ws (rmd d)).room s m av.toArray below meth c s.heap [] 0 0 (MQ below (va_Qr (fun (_ : Unit) => True) (fun _ q t => q = a ∧ va_P D vwCl w0 t.heap) A) av.toArray s 0 0 A) (F0 m 0 ls [])) : CTr l D tys sa y ws (rmd d) av w0 a := by
  subst ho
  intro sz
  refine Met.ofW (cc := cc) (maxL := maxL) (ret := ret) hy hw ?_
  intro p e s m args below meth c s₁ B hml hv
  obtain ⟨rfl, hsz, hP, hK, hD0, hKC⟩ := hv
  have hts := atoms_spec (ws := ws) B.pre
  have hown : s.vm.findClass y.cls = some m.cls := findClass_of_methodNamed B.named
  subst hsz
  have hl := lv_entry av (n := maxL) hlen
  rw [lg_entry_eq]
  generalize (lg_sl av ++ List.replicate (maxL - (lg_sl av).length) Slot.unset).toArray = ls at hl ⊢
  exact body p e s m below meth c (va_A w0 s.heap.size) ⟨⟨B.exec, B.bytes, hml, hown, hts⟩, hK, fun ws' e => (hD0.self (sz := s.heap.size)).addr e, fun q h => Or.inr h, hKC⟩ B.returns B.notSynchronized hP va_S.rf ls hl
