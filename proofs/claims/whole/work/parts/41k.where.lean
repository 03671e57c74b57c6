/-! where: ways counted into a cell, and out of it -/
def gW (R C : Nat) (sg cw : Nat → Nat) (d w : Nat) : Nat := match stp R C sg d w with
  | some q => cw q
  | none => 0
def gS (R C : Nat) (sg cw : Nat → Nat) (d : Nat) : Nat → Nat
  | 0 => 0
  | w + 1 => gS R C sg cw d w + gW R C sg cw d w
def eW (R C : Nat) (sg : Nat → Nat) (al : Nat → Bool) (cw : Nat → Nat) (c w d : Nat) : Nat := if stp R C sg c w = some d ∧ al d = true then cw c else 0
def sW (R C : Nat) (sg : Nat → Nat) (al : Nat → Bool) (cw : Nat → Nat) (c d : Nat) : Nat → Nat
  | 0 => 0
  | w + 1 => sW R C sg al cw c d w + eW R C sg al cw c w d
def sC (R C : Nat) (sg : Nat → Nat) (al : Nat → Bool) (cw : Nat → Nat) (d : Nat) : Nat → Nat
  | 0 => 0
  | c + 1 => sC R C sg al cw d c + sW R C sg al cw c d 5
def fW (R C : Nat) (sg : Nat → Nat) (al : Nat → Bool) (cw : Nat → Nat) (w d : Nat) : Nat → Nat
  | 0 => 0
  | c + 1 => fW R C sg al cw w d c + eW R C sg al cw c w d
theorem sC_f (R C : Nat) (sg : Nat → Nat) (al : Nat → Bool) (cw : Nat → Nat) (d : Nat) : ∀ i, sC R C sg al cw d i = fW R C sg al cw 0 d i + fW R C sg al cw 1 d i + fW R C sg al cw 2 d i + fW R C sg al cw 3 d i + fW R C sg al cw 4 d i := by
  intro i
  induction i with
  | zero => rfl
  | succ i ih =>
    show sC R C sg al cw d i + (((((0 + eW R C sg al cw i 0 d) + eW R C sg al cw i 1 d) + eW R C sg al cw i 2 d) + eW R C sg al cw i 3 d) + eW R C sg al cw i 4 d) = (fW R C sg al cw 0 d i + eW R C sg al cw i 0 d) + (fW R C sg al cw 1 d i + eW R C sg al cw i 1 d) + (fW R C sg al cw 2 d i + eW R C sg al cw i 2 d) + (fW R C sg al cw 3 d i + eW R C sg al cw i 3 d) + (fW R C sg al cw 4 d i + eW R C sg al cw i 4 d)
    rw [ih]
    omega
theorem opw5 : ∀ w, w < 5 → opw w < 5 ∧ opw (opw w) = w := by decide +kernel
theorem stp_of {R C c w d : Nat} {sg : Nat → Nat} (e : nb R C c w = some d) (h : sg d ≠ 35) : stp R C sg c w = some d := by
  unfold stp
  rw [e]
  exact if_neg h
theorem fW_g {R C d w : Nat} {sg cw : Nat → Nat} {al : Nat → Bool} (h : okD R C) (hd : d < R * C) (hs : sg d ≠ 35) (ha : al d = true) (hz : ∀ c, c < R * C → sg c = 35 → cw c = 0) (hw : w < 5) : fW R C sg al cw w d (R * C) = gW R C sg cw d (opw w) := by
  obtain ⟨o1, o2⟩ := opw5 w hw
  unfold gW
  cases e : stp R C sg d (opw w) with
  | none =>
    have z : ∀ i, i ≤ R * C → fW R C sg al cw w d i = 0 := by
      intro i
      induction i with
      | zero => intro _; rfl
      | succ i ih =>
        intro hi
        show fW R C sg al cw w d i + eW R C sg al cw i w d = 0
        rw [ih (by omega)]
        unfold eW
        split
        · rename_i y
          have n1 := (stp_lt h (show i < R * C by omega) hw y.1).2.2
          have n2 := nb_op h (show i < R * C by omega) hw n1
          unfold stp at e
          rw [n2] at e
          dsimp only at e
          by_cases u : sg i = 35
          · rw [hz i (by omega) u]
          · rw [if_neg u] at e; exact absurd e (by simp)
        · rfl
    exact z _ (Nat.le_refl _)
  | some c0 =>
    obtain ⟨c1, c2, c3⟩ := stp_lt h hd o1 e
    have n0 := nb_op h hd o1 c3
    rw [o2] at n0
    have z : ∀ i, i ≤ R * C → fW R C sg al cw w d i = if c0 < i then cw c0 else 0 := by
      intro i
      induction i with
      | zero => intro _; exact (if_neg (by omega)).symm
      | succ i ih =>
        intro hi
        show fW R C sg al cw w d i + eW R C sg al cw i w d = _
        rw [ih (by omega)]
        unfold eW
        by_cases t : i = c0
        · subst t
          rw [if_neg (by omega), if_pos ⟨stp_of n0 hs, ha⟩, if_pos (by omega), Nat.zero_add]
        · rw [if_neg (c := stp R C sg i w = some d ∧ al d = true)]
          · by_cases u : c0 < i
            · rw [if_pos u, if_pos (by omega)]; rfl
            · rw [if_neg u, if_neg (by omega)]
          · intro y
            have n1 := (stp_lt h (show i < R * C by omega) hw y.1).2.2
            have n2 := nb_op h (show i < R * C by omega) hw n1
            rw [c3] at n2
            injection n2 with n2
            exact t n2.symm
    rw [z _ (Nat.le_refl _), if_pos c1]
theorem sC_eq {R C d : Nat} {sg cw : Nat → Nat} {al : Nat → Bool} (h : okD R C) (hd : d < R * C) (hs : sg d ≠ 35) (ha : al d = true) (hz : ∀ c, c < R * C → sg c = 35 → cw c = 0) : sC R C sg al cw d (R * C) = gS R C sg cw d 5 := by
  rw [sC_f, fW_g h hd hs ha hz (by omega), fW_g h hd hs ha hz (by omega), fW_g h hd hs ha hz (by omega), fW_g h hd hs ha hz (by omega), fW_g h hd hs ha hz (by omega)]
  show gW R C sg cw d 2 + gW R C sg cw d 3 + gW R C sg cw d 0 + gW R C sg cw d 1 + gW R C sg cw d 4 = ((((0 + gW R C sg cw d 0) + gW R C sg cw d 1) + gW R C sg cw d 2) + gW R C sg cw d 3) + gW R C sg cw d 4
  omega
theorem sC_0 {R C d : Nat} {sg cw : Nat → Nat} {al : Nat → Bool} (h : okD R C) (hn : sg d = 35 ∨ al d = false) : ∀ i, i ≤ R * C → sC R C sg al cw d i = 0 := by
  intro i
  induction i with
  | zero => intro _; rfl
  | succ i ih =>
    intro hi
    have e0 : ∀ w, w < 5 → eW R C sg al cw i w d = 0 := by
      intro w hw
      unfold eW
      rw [if_neg]
      intro y
      rcases hn with hn | hn
      · exact (stp_lt h (show i < R * C by omega) hw y.1).2.1 hn
      · rw [hn] at y; exact absurd y.2 (by decide)
    show sC R C sg al cw d i + (((((0 + eW R C sg al cw i 0 d) + eW R C sg al cw i 1 d) + eW R C sg al cw i 2 d) + eW R C sg al cw i 3 d) + eW R C sg al cw i 4 d) = 0
    rw [ih (by omega), e0 0 (by omega), e0 1 (by omega), e0 2 (by omega), e0 3 (by omega), e0 4 (by omega)]
/-- how many ways there are a minute later -/
def nx (R C : Nat) (sg : Nat → Nat) (al : Nat → Bool) (cw : Nat → Nat) (d : Nat) : Nat := if d < R * C ∧ sg d ≠ 35 ∧ al d = true then gS R C sg cw d 5 else 0
theorem gW_le {R C d w b : Nat} {sg cw : Nat → Nat} (hb : ∀ c, cw c ≤ b) : gW R C sg cw d w ≤ b := by
  unfold gW
  split
  · exact hb _
  · omega
theorem nx_le {R C d b : Nat} {sg cw : Nat → Nat} {al : Nat → Bool} (hb : ∀ c, cw c ≤ b) : nx R C sg al cw d ≤ 5 * b := by
  unfold nx
  split
  · show ((((0 + gW R C sg cw d 0) + gW R C sg cw d 1) + gW R C sg cw d 2) + gW R C sg cw d 3) + gW R C sg cw d 4 ≤ 5 * b
    have h0 := gW_le (R := R) (C := C) (sg := sg) (d := d) (w := 0) hb
    have h1 := gW_le (R := R) (C := C) (sg := sg) (d := d) (w := 1) hb
    have h2 := gW_le (R := R) (C := C) (sg := sg) (d := d) (w := 2) hb
    have h3 := gW_le (R := R) (C := C) (sg := sg) (d := d) (w := 3) hb
    have h4 := gW_le (R := R) (C := C) (sg := sg) (d := d) (w := 4) hb
    omega
  · omega
theorem m_waysInto {R C c : Nat} {sg cw : Nat → Nat} {dr th er : Nat} {q : QT} (h : okD R C) (hc : c < R * C) (hq : ∀ i, i < 16 → q.2 i = nI (cw i)) : M_X7_waysInto q (hOf R C sg dr th er) (nI c) = some (nI (gS R C sg cw c 5)) := by
  have h16 := h.n16
  have st : ∀ fu j, j ≤ 5 → 5 - j < fu → M_X7_waysInto_5 q (hOf R C sg dr th er) (nI c) fu (nI (gS R C sg cw c j), nI j) = some (nI (gS R C sg cw c 5)) := by
    intro fu
    induction fu with
    | zero => intro j _ h; omega
    | succ fu ih =>
      intro j hj hfu
      show M_X7_waysInto_5b _ _ _ _ _ = _
      unfold M_X7_waysInto_5b M_X7_waysInto_45
      dsimp only
      rcases Nat.lt_or_ge j 5 with y | y
      · have key := ih (j + 1) (by omega) (by omega)
        have e : gS R C sg cw c (j + 1) = gS R C sg cw c j + gW R C sg cw c j := rfl
        unfold gW at e
        rw [if_neg (show ¬ (5 : Int32) ≤ nI j from nI_ge (b := 5) y (by omega)), m_bit (by omega), bx, m_stepTo sg dr th er h hc y, bx, ← nI_succ]
        cases es : stp R C sg c j with
        | none =>
          rw [es] at e
          rw [e] at key
          rw [if_pos (show nI (oM none) = 0 from rfl), show nI (gS R C sg cw c j) + 0 = nI (gS R C sg cw c j + 0) from nI_add _ 0]
          exact key
        | some t =>
          have ht := (stp_lt h hc y es).1
          rw [es] at e
          rw [e] at key
          rw [if_neg (show ¬ nI (oM (some t)) = 0 from p_ne (by omega)), show oM (some t) = 2 ^ t from rfl, m_cellOf t (by omega), bx, m_at _ (by omega) (by omega), bx, hq t (by omega), nI_add]
          exact key
      · have e : j = 5 := by omega
        subst e
        rw [if_pos (show (5 : Int32) ≤ nI 5 by decide +kernel)]
  exact st 200 0 (by omega) (by omega)
theorem m_passMinute {R C m : Nat} {sg cw : Nat → Nat} {al : Nat → Bool} {dr th er : Nat} {q : QT} (h : okD R C) (hm : m < 2 ^ (R * C)) (hb : ∀ d, d < R * C → m.testBit d = (al d && !(sg d == 35))) (hq : ∀ i, i < 16 → q.1 i = nI (cw i)) : ∃ q', M_X7_passMinute q (hOf R C sg dr th er) (nI m) = some q' ∧ ∀ i, i < 16 → q'.1 i = nI (nx R C sg al cw i) := by
  have h16 := h.n16
  have hm16 := lt16 h hm
  have st : ∀ fu j (x : QT), j ≤ 16 → 16 - j < fu → (∀ i, i < 16 → x.2 i = nI (cw i)) → (∀ i, i < j → x.1 i = nI (nx R C sg al cw i)) → ∃ q', M_X7_passMinute_17 (hOf R C sg dr th er) (nI m) fu (x, nI j) = some q' ∧ ∀ i, i < 16 → q'.1 i = nI (nx R C sg al cw i) := by
    intro fu
    induction fu with
    | zero => intro j x _ h; omega
    | succ fu ih =>
      intro j x hj hfu hx2 hx1
      show ∃ q', M_X7_passMinute_17b _ _ _ _ = _ ∧ _
      unfold M_X7_passMinute_17b M_X7_passMinute_49
      dsimp only
      rcases Nat.lt_or_ge j 16 with y | y
      · have go : ∀ v : Nat, v = nx R C sg al cw j → ∃ q', (if vin (nI j) 16 then M_X7_passMinute_17 (hOf R C sg dr th er) (nI m) fu (((upd x.1 (nI j).toNatClampNeg (nI v)), x.2), (nI j + (1 : Int32))) else none) = some q' ∧ ∀ i, i < 16 → q'.1 i = nI (nx R C sg al cw i) := by
          intro v hv
          rw [if_pos (nI_in y (by omega)), nI_clamp (by omega), ← nI_succ]
          refine ih (j + 1) _ (by omega) (by omega) hx2 ?_
          intro i hi
          by_cases t : i = j
          · subst t
            show upd x.1 i (nI v) i = _
            rw [upd_at, hv]
          · show upd x.1 j (nI v) i = _
            rw [upd_ne _ _ t]; exact hx1 i (by omega)
        rw [if_neg (nI_ge y (by omega)), m_has (by omega) (by omega), bx]
        by_cases t : j < R * C
        · rw [hb j t]
          by_cases u : (al j && !(sg j == 35)) = true
          · rw [if_pos u, if_neg k10, m_waysInto h t hx2, bx]
            refine go _ ?_
            unfold nx
            rw [if_pos]
            simp at u
            exact ⟨t, u.2, u.1⟩
          · rw [if_neg u, if_pos k00]
            refine go 0 ?_
            unfold nx
            rw [if_neg]
            intro z
            apply u
            simp
            exact ⟨z.2.2, z.2.1⟩
        · rw [Nat.testBit_lt_two_pow (Nat.lt_of_lt_of_le hm (Nat.pow_le_pow_right (by omega) (show R * C ≤ j by omega))), if_neg (show ¬ (false = true) by decide), if_pos k00]
          refine go 0 ?_
          unfold nx
          rw [if_neg (fun z => t z.1)]
      · have e : j = 16 := by omega
        subst e
        rw [if_pos (show nI 16 ≤ nI 16 by decide +kernel)]
        exact ⟨x, rfl, hx1⟩
  unfold M_X7_passMinute
  refine st 200 0 _ (by omega) (by omega) ?_ (fun i hi => absurd hi (by omega))
  intro i hi
  show va_cpy q.1 q.2 0 0 16 i = _
  rw [pk_cpy_in (by omega) (by omega), Nat.zero_add, Nat.sub_zero]
  exact hq i hi
theorem m_fill {n : Nat} (f : AR) (x : Int32) (hn : n < 100) : ∃ f', M_J7_fill_53178 n f x = some f' ∧ ∀ i, i < n → f' i = x := by
  have st : ∀ fu j (f : AR), j ≤ n → n - j < fu → (∀ i, i < j → f i = x) → ∃ f', M_J7_fill_53178_5 n x fu (f, nI j, nI n) = some f' ∧ ∀ i, i < n → f' i = x := by
    intro fu
    induction fu with
    | zero => intro j f _ h; omega
    | succ fu ih =>
      intro j f hj hfu hf
      show ∃ f', M_J7_fill_53178_5b _ _ _ _ = _ ∧ _
      unfold M_J7_fill_53178_5b
      dsimp only
      rcases Nat.lt_or_ge j n with y | y
      · rw [if_neg (nI_ge y (by omega)), if_pos (nI_in y (by omega)), nI_clamp (by omega), ← nI_succ]
        refine ih (j + 1) _ (by omega) (by omega) ?_
        intro i hi
        by_cases t : i = j
        · subst t; exact upd_at ..
        · rw [upd_ne _ _ t]; exact hf i (by omega)
      · have e : j = n := by omega
        subst e
        rw [if_pos (nI_le (Nat.le_refl _) (by omega))]
        exact ⟨f, rfl, hf⟩
  exact st 200 0 f (by omega) (by omega) (fun i hi => absurd hi (by omega))
/-- one way out of a cell, on the reference's side -/
theorem m_om64 {R C bn c w : Nat} {cw T : Nat → Nat} {al : Nat → Bool} {sh : Bool} {wk th : AR} {mb : BT} (rc30 : LT × Int32 × Int32 → Option LT) (rc41 : LT × Int32 × Int32 × Int32 → Option LT) (o : Option Nat) (hc : c < 16) (hbn : bn < 65536) (hcw : cw c < 2 ^ 31) (hwk : wk c = nI (cw c)) (hal : ∀ d, d < R * C → al d = (bn.testBit d == !sh)) (h16 : R * C ≤ 16) (ho : ∀ d, o = some d → d < R * C) (hT : ∀ d, d < R * C → th d = nI (T d)) : ∃ th', M_X9_oneMinute_64 mb (bI sh) rc30 rc41 ((wk, th), nI bn, nI c, nI w, oI o) = rc41 ((wk, th'), nI bn, nI c, nI (w + 1)) ∧ ∀ d, d < R * C → th' d = nI (T d + (if o = some d ∧ al d = true then cw c else 0)) := by
  unfold M_X9_oneMinute_64 M_X9_oneMinute_95 M_X9_oneMinute_114
  dsimp only
  rw [← nI_succ]
  cases o with
  | none =>
    rw [if_pos (show oI none < 0 by decide +kernel)]
    refine ⟨th, rfl, fun d hd => ?_⟩
    rw [if_neg (fun z => absurd z.1 (by simp)), Nat.add_zero]
    exact hT d hd
  | some q =>
    have hq := ho q rfl
    rw [show oI (some q) = nI q from rfl, if_neg (nI_pos (by omega)), if_pos (nI_in hc (by omega)), if_pos (nI_in (c := q) (N := 16) (by omega) (by omega)), if_pos (nI_in hc (by omega)), if_pos (nI_in (c := q) (N := 16) (by omega) (by omega))]
    simp only [nI_clamp (n := c) (show c < 2 ^ 31 by omega), hwk]
    by_cases z : cw c = 0
    · rw [z, if_pos (show nI 0 ≤ 0 by decide +kernel)]
      refine ⟨th, rfl, fun d hd => ?_⟩
      rw [ite_self, Nat.add_zero]
      exact hT d hd
    · rw [if_neg (show ¬ nI (cw c) ≤ 0 from nI_ge (a := 0) (by omega) (by omega)), n_sshr (by omega) (by omega), show (1 : Int32) = nI 1 from rfl, n_bitv (by omega)]
      have keep : al q = false → ∀ d, d < R * C → th d = nI (T d + (if some q = some d ∧ al d = true then cw c else 0)) := by
        intro hf d hd
        rw [if_neg, Nat.add_zero]
        · exact hT d hd
        · intro y
          injection y.1 with y1
          rw [← y1, hf] at y
          exact absurd y.2 (by decide)
      have put : al q = true → ∀ d, d < R * C → upd th (nI q).toNatClampNeg (th (nI q).toNatClampNeg + nI (cw c)) d = nI (T d + (if some q = some d ∧ al d = true then cw c else 0)) := by
        intro hf d hd
        rw [nI_clamp (by omega)]
        by_cases t : d = q
        · subst t
          rw [upd_at, if_pos ⟨rfl, hf⟩, hT d hd, nI_add]
        · rw [upd_ne _ _ t, if_neg, Nat.add_zero]
          · exact hT d hd
          · intro y
            injection y.1 with y1
            exact t y1.symm
      have a := hal q hq
      cases sh
      · rw [if_pos (show bI false = 0 from rfl)]
        cases e : bn.testBit q
        · rw [e] at a
          rw [if_neg (show ¬ (if false = true then nI 1 else nI 0) = nI 1 by decide +kernel)]
          exact ⟨th, rfl, keep a⟩
        · rw [e] at a
          rw [if_pos (show (if true = true then nI 1 else nI 0) = nI 1 by decide +kernel)]
          exact ⟨_, rfl, put a⟩
      · rw [if_neg bI0]
        cases e : bn.testBit q
        · rw [e] at a
          rw [if_pos (show (if false = true then nI 1 else nI 0) = 0 by decide +kernel)]
          exact ⟨_, rfl, put a⟩
        · rw [e] at a
          rw [if_neg (show ¬ (if true = true then nI 1 else nI 0) = 0 by decide +kernel)]
          exact ⟨th, rfl, keep a⟩
