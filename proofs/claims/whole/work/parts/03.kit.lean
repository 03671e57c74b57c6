/-! My own rows over the kit: the environment that every contract carries (nest words, string constants), contracts that speak of one result of a pure model, calls and returns in these words. -/
abbrev AR : Type := Nat → Int32
def rmd (d : Nat) : Room := { frames := d, cells := 0, slots := 0, locals := 40 * d }
theorem ob_s {α β : Type} {x : Option α} {K : α → Option β} {r : β} (h : x.bind K = some r) : ∃ a, x = some a ∧ K a = some r := by
  cases x with
  | none => cases h
  | some a => exact ⟨a, rfl, h⟩
theorem if_pp {α : Type} {c : Prop} [Decidable c] {a b r : α} (hc : c) (h : (if c then a else b) = r) : a = r := by rw [if_pos hc] at h; exact h
theorem if_nn {α : Type} {c : Prop} [Decidable c] {a b r : α} (hc : ¬ c) (h : (if c then a else b) = r) : b = r := by rw [if_neg hc] at h; exact h
theorem if_ok {α : Type} {c : Prop} [Decidable c] {a : Option α} {r : α} (h : (if c then a else none) = some r) : c ∧ a = some r := by
  by_cases hc : c
  · rw [if_pos hc] at h; exact ⟨hc, h⟩
  · rw [if_neg hc] at h; cases h
/-- a value used many times gets a name -/
def ltt {α β : Type} (x : α) (f : α → β) : β := f x
theorem ltt_e {α β : Type} {x y : α} {f : α → β} {r : β} (e : y = x) (h : ltt x f = r) : f y = r := by subst e; exact h
theorem no_s {α : Type} {r : α} {P : Prop} (h : (none : Option α) = some r) : P := by cases h
/-! the nest words -/
def nwQ : List (String × Nat × MethodName) := [(RX8, 9, yX2_init), (RX8, 25, yX1_init), (RX8, 35, yX6_init), (RX8, 42, yX3_init), (RX8, 49, yX5_init), (RX8, 56, yX7_init), (RX0, 11, yX4_init), (RX0, 42, yX8_bit), (RX0, 86, yX8_cellOf), (RX0, 89, yX8_has), (RX3, 44, yX8_cellOf), (RX4, 29, yX8_put), (RX4, 33, yX8_at), (RX5, 28, yX8_at), (RX5, 67, yX8_has), (RX5, 71, yX8_bit), (RX5, 74, yX8_cellOf), (RX6, 27, yX8_bit), (RX6, 56, yX8_put), (RX6, 81, yX8_at), (RX7, 24, yX8_put), (RX7, 34, yX8_has), (RX7, 42, yX8_bit), (RX7, 52, yX8_cellOf), (RX7, 55, yX8_at)]
def NW (U : State) : Prop := ∀ (k : Nat) (q : String × Nat × MethodName), nwQ[k]? = some q → va_Nw (.methodLinkNest q.1 q.2.1 q.2.2 "CapHouse") U
theorem NW.warm {s U : State} (hW : s.WarmedH U.vm) (h : NW s) : NW U := fun k q hq => va_Nw.warmM hW (h k q hq)
theorem NW.same {u U : State} (hv : u.vm = U.vm) (h : NW u) : NW U := fun k q hq => va_Nw.same rfl hv (h k q hq)
/-! the string constants: ".gcd#" at sa 0 (its bytes at sa 2), "nesw-" at sa 1 (its bytes at sa 3) -/
def stb (k j : Nat) : Int32 := if k = 0 then ([46, 103, 99, 100, 35] : List Int32).getD j 0 else ([110, 101, 115, 119, 45] : List Int32).getD j 0
def STz (A : Nat → Prop) (U : State) (H : Heap) : Prop := va_Z "java/lang/String" "COMPACT_STRINGS" "Z" (.int 1) A U H ∧ ∃ q : Nat, va_Z "jdk/internal/util/Preconditions" "SIOOBE_FORMATTER" "Ljava/util/function/BiFunction;" (.ref q) A U H
def STr (sa : Nat → Nat) (U : State) : Prop := vk_R "CapHouse$Pad" 31 ".gcd#" (sa 0) U ∧ vk_R "CapHouse$Pad" 19 "nesw-" (sa 1) U ∧ vk_R "CapHouse" 315 "nesw-" (sa 1) U
def STo (sa : Nat → Nat) (k : Nat) (A : Nat → Prop) (U : State) (H : Heap) : Prop := va_O "java/lang/String" (sa k) A U H ∧ va_OF "java/lang/String" "coder" "B" (.int 0) (sa k) A U H ∧ va_OF "java/lang/String" "value" "[B" (.ref (sa (k + 2))) (sa k) A U H ∧ va_T .byte (sa (k + 2)) 5 (fun j => .int (stb k j)) A U H
def KC (sa : Nat → Nat) (A : Nat → Prop) (U : State) (H : Heap) : Prop := NW U ∧ STr sa U ∧ STz A U H ∧ ∀ k, k < 2 → STo sa k A U H
theorem KC.blind {sa : Nat → Nat} {A : Nat → Prop} {U : State} {H : Heap} {g : JFrame} {mk : MethodId} {a : Array Value} (h : KC sa A U H) : KC sa A (U.calling g mk a) H := by
  obtain ⟨h1, ⟨h2, h3, h4⟩, ⟨h5, q, h6⟩, h7⟩ := h
  have hv : (U.calling g mk a).vm = U.vm := rfl
  have ha : U.vm.Alike (U.calling g mk a).vm := Vm.Alike.refl U.vm
  refine ⟨NW.same (u := U) rfl h1, ⟨vk_R.same hv h2, vk_R.same hv h3, vk_R.same hv h4⟩, ⟨h5.moved ha, q, h6.moved ha⟩, fun k hk => ?_⟩
  obtain ⟨g1, g2, g3, g4⟩ := h7 k hk
  exact ⟨g1.moved ha, g2.moved ha, g3.moved ha, g4.moved ha⟩
theorem KC.at {sa : Nat → Nat} {A B : Nat → Prop} {s U : State} {H : Heap} {locs : List Loc} (h : KC sa A s s.heap) (hS : va_S A s.heap H locs) (hAB : ∀ q, B q → A q) (hW : s.WarmedH U.vm) (hU : U.heap = H) : KC sa B U U.heap := by
  obtain ⟨h1, ⟨h2, h3, h4⟩, ⟨h5, q, h6⟩, h7⟩ := h
  have ha : s.vm.Alike U.vm := hW.alike
  have hk : ∀ a : Nat, a < s.heap.size → ¬ A a → U.heap[a]? = s.heap[a]? := by rw [hU]; exact hS.2.1
  refine ⟨h1.warm hW, ⟨vk_R.warm hW h2, vk_R.warm hW h3, vk_R.warm hW h4⟩, ⟨((h5.kept hk).narrow hAB).moved ha, q, ((h6.kept hk).narrow hAB).moved ha⟩, fun k hk' => ?_⟩
  obtain ⟨g1, g2, g3, g4⟩ := h7 k hk'
  exact ⟨((g1.kept hk).narrow hAB).moved ha, ((g2.kept hk).narrow hAB).moved ha, ((g3.kept hk).narrow hAB).moved ha, ((g4.kept hk).narrow hAB).moved ha⟩
/-! contracts -/
def PW (D : va_G) (tys : List (ClassId × FieldType)) (sa : Nat → Nat) (w0 : va_W) (sz : Nat) (U : State) : Prop := U.heap.size = sz ∧ va_P D vwCl w0 U.heap ∧ va_K D vwCl tys U ∧ va_D (fun _ => True) w0 ∧ KC sa (va_A w0 sz) U U.heap
def CTi {S : Type} (l : Launch) (D : va_G) (tys : List (ClassId × FieldType)) (sa : Nat → Nat) (y : MethodName) (ws : List Cond) (rm : Room) (av : List Value) (w0 : va_W) (w1 : S → va_W) (res : Int32 × S) : Prop :=
  ∀ sz : Nat, Met l y ws rm (va_Pc av (PW D tys sa w0 sz)) (va_Qi (fun r u => (r, u) = res) (fun u t => va_P D vwCl (w1 u) t.heap) (va_A w0 sz)) 0 0 (va_A w0 sz)
def CTl {S : Type} (l : Launch) (D : va_G) (tys : List (ClassId × FieldType)) (sa : Nat → Nat) (y : MethodName) (ws : List Cond) (rm : Room) (av : List Value) (w0 : va_W) (w1 : S → va_W) (res : Int64 × S) : Prop :=
  ∀ sz : Nat, Met l y ws rm (va_Pc av (PW D tys sa w0 sz)) (va_Ql (fun r u => (r, u) = res) (fun u t => va_P D vwCl (w1 u) t.heap) (va_A w0 sz)) 0 0 (va_A w0 sz)
def CTv {S : Type} (l : Launch) (D : va_G) (tys : List (ClassId × FieldType)) (sa : Nat → Nat) (y : MethodName) (ws : List Cond) (rm : Room) (av : List Value) (w0 : va_W) (w1 : S → va_W) (res : S) : Prop :=
  ∀ sz : Nat, Met l y ws rm (va_Pc av (PW D tys sa w0 sz)) (va_Qv (fun u => u = res) (fun u t => va_P D vwCl (w1 u) t.heap) (va_A w0 sz)) 0 0 (va_A w0 sz)
/-- what stays the same through a method's walk -/
def FX (p : Program) (s : State) (m : MethodId) (args : Array Value) (c : Code) (cc : ByteArray) (nL : Nat) (Ts : List Cond) (own : String) (D : va_G) (tys : List (ClassId × FieldType)) (A : Nat → Prop) (as : List Nat) (sa : Nat → Nat) : Prop :=
  (p.tables.exec = Jvm.exec ∧ c.code = cc ∧ c.maxLocals = nL ∧ s.vm.findClass own = some m.cls ∧ ∀ w ∈ Ts, w.before args s = true) ∧ va_K D vwCl tys s ∧ (∀ ws : va_W, ws.map Prod.fst = as → va_D A ws) ∧ (∀ q : Nat, s.heap.size ≤ q → A q) ∧ KC sa A s s.heap
theorem va_D.addr {A : Nat → Prop} {ws ws' : va_W} (h : va_D A ws) (e : ws'.map Prod.fst = ws.map Prod.fst) : va_D A ws' := by
  have at' : ∀ (i : Nat) (q : Nat × va_E), ws'[i]? = some q → ∃ q', ws[i]? = some q' ∧ q'.1 = q.1 := by
    intro i q hi
    have h1 : (ws'.map Prod.fst)[i]? = some q.1 := by rw [List.getElem?_map, hi]; rfl
    rw [e, List.getElem?_map] at h1
    cases hq : ws[i]? with
    | none => rw [hq] at h1; cases h1
    | some q' => rw [hq] at h1; exact ⟨q', rfl, Option.some.inj h1⟩
  refine ⟨fun i j p q hi hj hpq => ?_, fun k q hk => ?_⟩
  · obtain ⟨p', h1, h2⟩ := at' i p hi
    obtain ⟨q', h3, h4⟩ := at' j q hj
    exact h.1 i j p' q' h1 h3 (by rw [h2, h4, hpq])
  · obtain ⟨q', h1, h2⟩ := at' k q hk
    rw [← h2]; exact h.2 k q' h1
theorem PW.blind {D : va_G} {tys : List (ClassId × FieldType)} {sa : Nat → Nat} {w0 : va_W} {sz : Nat} {av : List Value} : FrameBlind (va_Pc av (PW D tys sa w0 sz)) := by
  intro a U g mk q
  obtain ⟨q0, q1, qP, qK, qD, qC⟩ := q
  exact ⟨q0, q1, qP, va_K.moved (u := U) (U := U.calling g mk a) (Vm.Alike.refl U.vm) qK, qD, qC.blind⟩
/-- the callee's start out of the caller's world -/
theorem PW.of {D : va_G} {tys : List (ClassId × FieldType)} {sa : Nat → Nat} {A : Nat → Prop} {as : List Nat} {s U : State} {H : Heap} {locs : List Loc} {ws wc : va_W} (hK : va_K D vwCl tys s) (hDD : ∀ ws : va_W, ws.map Prod.fst = as → va_D A ws) (hA : ∀ q : Nat, s.heap.size ≤ q → A q) (hKC : KC sa A s s.heap)
    (hP : va_P D vwCl ws H) (hS : va_S A s.heap H locs) (isC : List Nat) (hn : va_nd isC = true) (hC : isC.map (fun i => ws[i]?) = wc.map some) (has : ws.map Prod.fst = as) (hU : U.heap = H) (hW : s.WarmedH U.vm) : PW D tys sa wc H.size U := by
  have hD := hDD ws has
  refine ⟨by rw [hU], ?_, va_K.moved hW.alike hK, (hD.sub isC hn ?_).weaken (fun _ _ _ _ => trivial), hKC.at hS ?_ hW hU⟩
  · rw [hU]
    intro k q hk
    have h1 : (isC.map (fun i => ws[i]?))[k]? = some (some q) := by rw [hC, List.getElem?_map, hk]; rfl
    rw [List.getElem?_map] at h1
    cases hi : isC[k]? with
    | none => rw [hi] at h1; cases h1
    | some i => rw [hi] at h1; exact hP i q (Option.some.inj h1)
  · exact hC
  · exact va_free hD hS hA isC hC
/-! the caller's world behind a call: the callee's cells, as they are now, at their places -/
def wpt : va_W → List Nat → va_W → va_W
  | ws, i :: is, e :: es => wpt (ws.set i e) is es
  | ws, [], _ => ws
  | ws, _ :: _, [] => ws
theorem wpt_get : ∀ (is : List Nat) (ws es : va_W) (k : Nat) (q : Nat × va_E), va_nd is = true → es.length = is.length → (wpt ws is es)[k]? = some q → (∃ j, is[j]? = some k ∧ es[j]? = some q) ∨ (k ∉ is ∧ ws[k]? = some q) := by
  intro is
  induction is with
  | nil =>
    intro ws es k q _ hl h
    cases es with
    | nil => exact Or.inr ⟨List.not_mem_nil, h⟩
    | cons e es => cases hl
  | cons i is ih =>
    intro ws es k q hn hl h
    cases es with
    | nil => cases hl
    | cons e es =>
      have hn' := hn
      simp only [va_nd, Bool.and_eq_true, decide_eq_true_eq] at hn'
      rcases ih (ws.set i e) es k q hn'.2 (Nat.succ.inj hl) h with ⟨j, h1, h2⟩ | ⟨h1, h2⟩
      · exact Or.inl ⟨j + 1, by rw [List.getElem?_cons_succ]; exact h1, by rw [List.getElem?_cons_succ]; exact h2⟩
      · by_cases hk : i = k
        · subst hk
          rw [List.getElem?_set] at h2
          rw [if_pos rfl] at h2
          by_cases hlt : i < ws.length
          · rw [if_pos hlt] at h2
            exact Or.inl ⟨0, rfl, by rw [← h2]; rfl⟩
          · rw [if_neg hlt] at h2; cases h2
        · rw [List.getElem?_set_ne hk] at h2
          refine Or.inr ⟨fun hm => ?_, h2⟩
          rcases List.mem_cons.mp hm with e1 | e1
          · exact hk e1.symm
          · exact h1 e1
theorem wback {A0 : Nat → Prop} {D : va_G} {cl : List vw_C} {ws wc w1 : va_W} {H H1 : Heap} (hP : va_P D cl ws H) (hD : va_D A0 ws) (isC : List Nat) (hn : va_nd isC = true) (hC : isC.map (fun i => ws[i]?) = wc.map some)
    (hk : ∀ q : Nat, q < H.size → ¬ va_A wc H.size q → H1[q]? = H[q]?) (hl : w1.length = isC.length) (hP1 : va_P D cl w1 H1) : va_P D cl (wpt ws isC w1) H1 := by
  intro k q hq
  rcases wpt_get isC ws w1 k q hn hl hq with ⟨j, -, h2⟩ | ⟨h1, h2⟩
  · exact hP1 j q h2
  · have hlt := (hP k q h2).lt
    refine (hP k q h2).kept (hk q.1 hlt fun h => ?_)
    rcases h with ⟨k2, e, h⟩ | h
    · have h3 : (isC.map (fun i => ws[i]?))[k2]? = some (some (q.1, e)) := by rw [hC, List.getElem?_map, h]; rfl
      rw [List.getElem?_map] at h3
      cases hi : isC[k2]? with
      | none => rw [hi] at h3; cases h3
      | some i =>
        rw [hi] at h3
        have hij := hD.1 k i q (q.1, e) h2 (Option.some.inj h3) rfl
        subst hij
        exact h1 (List.mem_of_getElem? hi)
    · omega
section KCALL
variable {p : Program} {l : Launch} {e : Env} {R : Room} {s : State} {m : MethodId} {args : Array Value} {below : List Frame} {meth : Method} {c : Code} {H : Heap} {locs : List Loc} {cells slots : Nat} {Q : State → Prop}
variable {cc : ByteArray} {nL : Nat} {Ts : List Cond} {own : String} {D : va_G} {tys : List (ClassId × FieldType)} {A : Nat → Prop} {as : List Nat} {sa : Nat → Nat}
variable {y : MethodName} {wsc ws' : List Cond} {dc : Nat} {b : Nat} {As rest st : List Value} {wc ws : va_W} {Qc : Array Value → State → Outcome → State → Prop} {free : Addr → Prop} {C : String} {index maxL n pc : Nat} {bytes : ByteArray} {ret : Option FieldType} {ls : Array Slot}
theorem runV_of (F : FX p s m args c cc nL Ts own D tys A as sa) (hP : va_P D vwCl ws H) (hS : va_S A s.heap H locs) (has : ws.map Prod.fst = as) (isC : List Nat) (hn : va_nd isC = true) (hCc : isC.map (fun i => ws[i]?) = wc.map some)
    (hM : Met l y wsc (rmd dc) (va_Pc (.ref b :: As) (PW D tys sa wc H.size)) Qc 0 0 free) (hT : GoodIn Ts (wsV own index C y wsc)) (hw : wsc = Cond.code y bytes maxL ret :: ws')
    (hd : y.cls = C ∧ y.cls ≠ "java/lang/invoke/MethodHandle" ∧ y.cls ≠ "java/lang/invoke/VarHandle" ∧ (parseMethodDescriptor y.desc).map (fun d => d.parameters.length) = some n) (hR : dc + 1 ≤ R.frames ∧ 8 + (maxL + 11) + 40 * dc ≤ R.locals)
    (q0 ci : Nat) {fs : List Value} {T : u_T} {N : Nat} (hq : ws[q0]? = some (b, .inr (ci, fs))) (hcl : vwCl[ci]? = some (C, T, N)) (hna : As.length = n) (hsz : ls.size = nL) (hst : st = As.reverse ++ .ref b :: rest) (hrm : (rest.map fun v => v.category).sum ≤ 8) (hdg : decode cc pc = .ok (.invokevirtual index, 3)) (hcs : cells ≤ R.cells ∧ slots ≤ R.slots) :
    va_Run p l e R s m args below meth c H locs cells slots 0 0 (F0 m pc ls st) rest (Qc (Value.ref b :: As).toArray) free := by
  obtain ⟨F1, hK, hDD, hA, hKC⟩ := F
  exact va_runV (As := As) (rest := rest) F1 hM (cwV n F1.2.2.2.2 hT hw rfl rfl hd hR) ⟨PW.blind, va_recv hK hP hcl hq, fun U hU hW => ⟨rfl, PW.of hK hDD hA hKC hP hS isC hn hCc has hU hW⟩⟩ rfl hna hsz hst (lv_room hrm) hdg hcs
/-- a constant's own method: the receiver is no cell of the world -/
theorem runO_of (F : FX p s m args c cc nL Ts own D tys A as sa) (hP : va_P D vwCl ws H) (hS : va_S A s.heap H locs) (has : ws.map Prod.fst = as) (isC : List Nat) (hn : va_nd isC = true) (hCc : isC.map (fun i => ws[i]?) = wc.map some)
    (hM : Met l y wsc (rmd dc) (va_Pc (.ref b :: As) (PW D tys sa wc H.size)) Qc 0 0 free) (hT : GoodIn Ts (wsV own index C y wsc)) (hw : wsc = Cond.code y bytes maxL ret :: ws')
    (hd : y.cls = C ∧ y.cls ≠ "java/lang/invoke/MethodHandle" ∧ y.cls ≠ "java/lang/invoke/VarHandle" ∧ (parseMethodDescriptor y.desc).map (fun d => d.parameters.length) = some n) (hR : dc + 1 ≤ R.frames ∧ 8 + (maxL + 11) + 40 * dc ≤ R.locals)
    (hO : va_O C b A s s.heap) (hna : As.length = n) (hsz : ls.size = nL) (hst : st = As.reverse ++ .ref b :: rest) (hrm : (rest.map fun v => v.category).sum ≤ 8) (hdg : decode cc pc = .ok (.invokevirtual index, 3)) (hcs : cells ≤ R.cells ∧ slots ≤ R.slots) :
    va_Run p l e R s m args below meth c H locs cells slots 0 0 (F0 m pc ls st) rest (Qc (Value.ref b :: As).toArray) free := by
  obtain ⟨F1, hK, hDD, hA, hKC⟩ := F
  exact va_runV (As := As) (rest := rest) F1 hM (cwV n F1.2.2.2.2 hT hw rfl rfl hd hR) ⟨PW.blind, va_Orecv hO hS, fun U hU hW => ⟨rfl, PW.of hK hDD hA hKC hP hS isC hn hCc has hU hW⟩⟩ rfl hna hsz hst (lv_room hrm) hdg hcs
theorem runS_of (F : FX p s m args c cc nL Ts own D tys A as sa) (hP : va_P D vwCl ws H) (hS : va_S A s.heap H locs) (has : ws.map Prod.fst = as) (isC : List Nat) (hn : va_nd isC = true) (hCc : isC.map (fun i => ws[i]?) = wc.map some)
    (hM : Met l y wsc (rmd dc) (va_Pc As (PW D tys sa wc H.size)) Qc 0 0 free) (hT : GoodIn Ts (va_wsS own index y wsc)) (hw : wsc = Cond.code y bytes maxL ret :: ws')
    (hd : y.cls ≠ "java/lang/invoke/MethodHandle" ∧ y.cls ≠ "java/lang/invoke/VarHandle" ∧ (parseMethodDescriptor y.desc).map (fun d => d.parameters.length) = some n) (hR : dc + 1 ≤ R.frames ∧ 8 + (maxL + 11) + 40 * dc ≤ R.locals)
    (hna : As.length = n) (hsz : ls.size = nL) (hst : st = As.reverse ++ rest) (hrm : (rest.map fun v => v.category).sum ≤ 8) (hdg : decode cc pc = .ok (.invokestatic index, 3)) (hcs : cells ≤ R.cells ∧ slots ≤ R.slots) :
    va_Run p l e R s m args below meth c H locs cells slots 0 0 (F0 m pc ls st) rest (Qc As.toArray) free := by
  obtain ⟨F1, hK, hDD, hA, hKC⟩ := F
  exact va_runS (As := As) (rest := rest) F1 hM (va_cwS n F1.2.2.2.2 hT hw rfl rfl hd hR) ⟨PW.blind, fun U hU hW => ⟨rfl, PW.of hK hDD hA hKC hP hS isC hn hCc has hU hW⟩⟩ rfl hna hsz hst (lv_room hrm) hdg hcs
/-- a private static method of the nest's host -/
theorem runN_of (F : FX p s m args c cc nL Ts own D tys A as sa) (hP : va_P D vwCl ws H) (hS : va_S A s.heap H locs) (has : ws.map Prod.fst = as) (isC : List Nat) (hn : va_nd isC = true) (hCc : isC.map (fun i => ws[i]?) = wc.map some)
    (hM : Met l y wsc (rmd dc) (va_Pc As (PW D tys sa wc H.size)) Qc 0 0 free) (hT : GoodIn Ts wsc) (hw : wsc = Cond.code y bytes maxL ret :: ws') (k : Nat) (hk : nwQ[k]? = some (own, index, y)) (hini : (Cond.initialized y.cls).before args s = true) (hstt : (Cond.static y).before args s = true)
    (hd : y.cls ≠ "java/lang/invoke/MethodHandle" ∧ y.cls ≠ "java/lang/invoke/VarHandle" ∧ (parseMethodDescriptor y.desc).map (fun d => d.parameters.length) = some n) (hR : dc + 1 ≤ R.frames ∧ 8 + (maxL + 11) + 40 * dc ≤ R.locals)
    (hna : As.length = n) (hsz : ls.size = nL) (hst : st = As.reverse ++ rest) (hrm : (rest.map fun v => v.category).sum ≤ 8) (hdg : decode cc pc = .ok (.invokestatic index, 3)) (hcs : cells ≤ R.cells ∧ slots ≤ R.slots) :
    va_Run p l e R s m args below meth c H locs cells slots 0 0 (F0 m pc ls st) rest (Qc As.toArray) free := by
  obtain ⟨F1, hK, hDD, hA, hKC⟩ := F
  exact va_runSN (As := As) (rest := rest) (host := "CapHouse") F1 hM ⟨va_cnB n F1.2.2.2.2 hT hw rfl rfl (hKC.1 k _ hk) hini hd hR, hstt, trivial⟩ ⟨PW.blind, fun U hU hW => ⟨rfl, PW.of hK hDD hA hKC hP hS isC hn hCc has hU hW⟩⟩ rfl hna hsz hst (lv_room hrm) hdg hcs
variable {a : Array Value} {st0 : List Value}
theorem res_i {S : Type} {w1 : S → va_W} {res : Int32 × S} (F : FX p s m args c cc nL Ts own D tys A as sa) (hP : va_P D vwCl ws H) (hS : va_S A s.heap H locs) (has : ws.map Prod.fst = as) (isC : List Nat) (hn : va_nd isC = true) (hCc : isC.map (fun i => ws[i]?) = wc.map some) (hln : (w1 res.2).length = isC.length)
    (hr : va_Run p l e R s m args below meth c H locs cells slots 0 0 (F0 m pc ls st0) rest (va_Qi (fun r u => (r, u) = res) (fun u t => va_P D vwCl (w1 u) t.heap) (va_A wc H.size) a) (va_A wc H.size))
    (kk : ∀ (H1 : Heap) (locs1 : List Loc), va_P D vwCl (wpt ws isC (w1 res.2)) H1 → va_S A s.heap H1 locs1 → W p l e R s m args below meth c H1 locs1 cells slots Q (F0 m (pc + 3) ls (.int res.1 :: rest))) : W p l e R s m args below meth c H locs cells slots Q (F0 m pc ls st0) := by
  obtain ⟨F1, hK, hDD, hA, hKC⟩ := F
  have hD := hDD ws has
  have hF := va_free hD hS hA isC hCc
  refine va_calli hr hS (fun q _ h => hF q h) hF (fun r u t H1 locs1 ht hvm hw hB hz1 hk1 hS1 => ?_)
  subst hw
  exact kk H1 locs1 (wback hP hD isC hn hCc hk1 hln (by rw [← ht]; exact hB)) hS1
theorem res_l {S : Type} {w1 : S → va_W} {res : Int64 × S} (F : FX p s m args c cc nL Ts own D tys A as sa) (hP : va_P D vwCl ws H) (hS : va_S A s.heap H locs) (has : ws.map Prod.fst = as) (isC : List Nat) (hn : va_nd isC = true) (hCc : isC.map (fun i => ws[i]?) = wc.map some) (hln : (w1 res.2).length = isC.length)
    (hr : va_Run p l e R s m args below meth c H locs cells slots 0 0 (F0 m pc ls st0) rest (va_Ql (fun r u => (r, u) = res) (fun u t => va_P D vwCl (w1 u) t.heap) (va_A wc H.size) a) (va_A wc H.size))
    (kk : ∀ (H1 : Heap) (locs1 : List Loc), va_P D vwCl (wpt ws isC (w1 res.2)) H1 → va_S A s.heap H1 locs1 → W p l e R s m args below meth c H1 locs1 cells slots Q (F0 m (pc + 3) ls (.long res.1 :: rest))) : W p l e R s m args below meth c H locs cells slots Q (F0 m pc ls st0) := by
  obtain ⟨F1, hK, hDD, hA, hKC⟩ := F
  have hD := hDD ws has
  have hF := va_free hD hS hA isC hCc
  refine va_calll hr hS (fun q _ h => hF q h) hF (fun r u t H1 locs1 ht hvm hw hB hz1 hk1 hS1 => ?_)
  subst hw
  exact kk H1 locs1 (wback hP hD isC hn hCc hk1 hln (by rw [← ht]; exact hB)) hS1
theorem res_v {S : Type} {w1 : S → va_W} {res : S} (F : FX p s m args c cc nL Ts own D tys A as sa) (hP : va_P D vwCl ws H) (hS : va_S A s.heap H locs) (has : ws.map Prod.fst = as) (isC : List Nat) (hn : va_nd isC = true) (hCc : isC.map (fun i => ws[i]?) = wc.map some) (hln : (w1 res).length = isC.length)
    (hr : va_Run p l e R s m args below meth c H locs cells slots 0 0 (F0 m pc ls st0) rest (va_Qv (fun u => u = res) (fun u t => va_P D vwCl (w1 u) t.heap) (va_A wc H.size) a) (va_A wc H.size))
    (kk : ∀ (H1 : Heap) (locs1 : List Loc), va_P D vwCl (wpt ws isC (w1 res)) H1 → va_S A s.heap H1 locs1 → W p l e R s m args below meth c H1 locs1 cells slots Q (F0 m (pc + 3) ls rest)) : W p l e R s m args below meth c H locs cells slots Q (F0 m pc ls st0) := by
  obtain ⟨F1, hK, hDD, hA, hKC⟩ := F
  have hD := hDD ws has
  have hF := va_free hD hS hA isC hCc
  refine va_callv hr hS (fun q _ h => hF q h) hF (fun u t H1 locs1 ht hvm hw hB hz1 hk1 hS1 => ?_)
  subst hw
  exact kk H1 locs1 (wback hP hD isC hn hCc hk1 hln (by rw [← ht]; exact hB)) hS1
/-! returns -/
theorem ret_i {S : Type} {w1 : S → va_W} {res : Int32 × S} {v : Int32} {u : S} (hx : p.tables.exec = Jvm.exec) (hb : c.code = cc) (hr : meth.sig.returnType = some .int) (hlocks : meth.locks = false) (hdg : decode cc pc = .ok (.ireturn, 1)) (hM : some (v, u) = some res) (hP : va_P D vwCl (w1 u) H) (hS : va_S A s.heap H locs) :
    W p l e R s m args below meth c H locs cells slots (MQ below (va_Qi (fun r u => (r, u) = res) (fun u t => va_P D vwCl (w1 u) t.heap) A) args s cells slots A) (F0 m pc ls [.int v]) :=
  W.iret (v := v) hx hb hr (fun t ht hW => ⟨⟨v, u, rfl, Option.some.inj hM, by rw [ht]; exact hP⟩, hS.F ht⟩) hS.2.2 hdg hlocks
theorem ret_z {S : Type} {w1 : S → va_W} {res : Int32 × S} {v : Int32} {u : S} {ty : FieldType} (hx : p.tables.exec = Jvm.exec) (hb : c.code = cc) (hr : meth.sig.returnType = some ty) (hlocks : meth.locks = false) (hdg : decode cc pc = .ok (.ireturn, 1)) (hn : narrow ty (.int v) = .int v) (hM : some (v, u) = some res) (hP : va_P D vwCl (w1 u) H) (hS : va_S A s.heap H locs) :
    W p l e R s m args below meth c H locs cells slots (MQ below (va_Qi (fun r u => (r, u) = res) (fun u t => va_P D vwCl (w1 u) t.heap) A) args s cells slots A) (F0 m pc ls [.int v]) :=
  W.zret (v := v) hx hb hr hn (fun t ht hW => ⟨⟨v, u, rfl, Option.some.inj hM, by rw [ht]; exact hP⟩, hS.F ht⟩) hS.2.2 hdg hlocks
theorem ret_l {S : Type} {w1 : S → va_W} {res : Int64 × S} {v : Int64} {u : S} (hx : p.tables.exec = Jvm.exec) (hb : c.code = cc) (hr : meth.sig.returnType = some .long) (hlocks : meth.locks = false) (hdg : decode cc pc = .ok (.lreturn, 1)) (hM : some (v, u) = some res) (hP : va_P D vwCl (w1 u) H) (hS : va_S A s.heap H locs) :
    W p l e R s m args below meth c H locs cells slots (MQ below (va_Ql (fun r u => (r, u) = res) (fun u t => va_P D vwCl (w1 u) t.heap) A) args s cells slots A) (F0 m pc ls [.long v]) :=
  W.lret (v := v) hx hb hr (fun t ht hW => ⟨⟨v, u, rfl, Option.some.inj hM, by rw [ht]; exact hP⟩, hS.F ht⟩) hS.2.2 hdg hlocks
theorem ret_v {S : Type} {w1 : S → va_W} {res : S} {u : S} (hx : p.tables.exec = Jvm.exec) (hb : c.code = cc) (hr : meth.sig.returnType = none) (hlocks : meth.locks = false) (hdg : decode cc pc = .ok (.return_, 1)) (hM : some u = some res) (hP : va_P D vwCl (w1 u) H) (hS : va_S A s.heap H locs) :
    W p l e R s m args below meth c H locs cells slots (MQ below (va_Qv (fun u => u = res) (fun u t => va_P D vwCl (w1 u) t.heap) A) args s cells slots A) (F0 m pc ls []) :=
  W.vret hx hb hr (fun t ht hW => ⟨⟨u, rfl, Option.some.inj hM, by rw [ht]; exact hP⟩, hS.F ht⟩) hS.2.2 hdg hlocks
end KCALL
