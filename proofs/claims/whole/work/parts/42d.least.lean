/-! Ways that show least: what they are -/
/-- a way of n steps that weighs v -/
def ew (R C : Nat) (sg : Nat → Nat) (A g : Nat) (s : Nat → Nat) : Nat → Nat → Nat → Prop
  | 0, c, v => c = g ∧ v = 0
  | n + 1, c, v => ∃ w q u, w < 4 ∧ stp R C sg c w = some q ∧ A.testBit q = true ∧ ew R C sg A g s n q u ∧ v = u + s q
def isM (R C : Nat) (sg : Nat → Nat) (A g : Nat) (s : Nat → Nat) (n c v : Nat) : Prop := ew R C sg A g s n c v ∧ ∀ v', ew R C sg A g s n c v' → v ≤ v'
theorem M_uniq {R C A g n c u v : Nat} {sg s : Nat → Nat} (h1 : isM R C sg A g s n c u) (h2 : isM R C sg A g s n c v) : u = v := Nat.le_antisymm (h1.2 v h2.1) (h2.2 u h1.1)
theorem ew_wk {R C A g : Nat} {sg s : Nat → Nat} : ∀ n c v, ew R C sg A g s n c v → wk R C sg A g n c := by
  intro n
  induction n with
  | zero => intro c v h; exact h.1
  | succ n ih =>
    intro c v ⟨w, q, u, h1, h2, h3, h4, h5⟩
    exact ⟨w, q, h1, h2, h3, ih q u h4⟩
theorem ew_le {R C A g : Nat} {sg s : Nat → Nat} (hs : ∀ q, s q ≤ 1) : ∀ n c v, ew R C sg A g s n c v → v ≤ n := by
  intro n
  induction n with
  | zero => intro c v h; rw [h.2]; exact Nat.le_refl _
  | succ n ih =>
    intro c v ⟨w, q, u, h1, h2, h3, h4, h5⟩
    have := ih q u h4
    have := hs q
    omega
theorem ew_snoc {R C A q c w : Nat} {sg s : Nat → Nat} (hw : w < 4) (hs : stp R C sg q w = some c) (ha : A.testBit c = true) : ∀ n x v, ew R C sg A q s n x v → ew R C sg A c s (n + 1) x (v + s c) := by
  intro n
  induction n with
  | zero =>
    intro x v hx
    obtain ⟨e1, e2⟩ := hx
    subst e1
    subst e2
    exact ⟨w, c, 0, hw, hs, ha, ⟨rfl, rfl⟩, rfl⟩
  | succ n ih =>
    intro x v ⟨w', y, u, h1, h2, h3, h4, h5⟩
    exact ⟨w', y, u + s c, h1, h2, h3, ih y u h4, by omega⟩
theorem opw4 : ∀ w, w < 4 → opw w < 4 := by decide +kernel
theorem ew_rev {R C A g : Nat} {sg s : Nat → Nat} (h : okD R C) : ∀ n c v, c < R * C → sg c ≠ 35 → A.testBit c = true → ew R C sg A g s n c v → ∃ v', ew R C sg A c s n g v' ∧ v' + s g = v + s c := by
  intro n
  induction n with
  | zero =>
    intro c v _ _ _ hw
    obtain ⟨e1, e2⟩ := hw
    subst e1
    subst e2
    exact ⟨0, ⟨rfl, rfl⟩, rfl⟩
  | succ n ih =>
    intro c v hc hs ha ⟨w, q, u, h1, h2, h3, h4, h5⟩
    obtain ⟨q1, q2, q3⟩ := stp_lt h hc (by omega) h2
    have n2 := nb_op h hc (show w < 5 by omega) q3
    obtain ⟨u', a1, a2⟩ := ih q u q1 q2 h3 h4
    exact ⟨u' + s c, ew_snoc (opw4 w h1) (stp_of n2 hs) ha n g u' a1, by omega⟩
/-- a weight more or less where no such way goes -/
theorem ew_door {R C A g L d : Nat} {sg s1 s2 : Nat → Nat} (hd : isD R C sg A g L d) (he : ∀ q, q ≠ d → s1 q = s2 q) : ∀ n c v, n ≤ L → ew R C sg A g s1 n c v → ew R C sg A g s2 n c v := by
  intro n
  induction n with
  | zero => intro c v _ h; exact h
  | succ n ih =>
    intro c v hn ⟨w, q, u, h1, h2, h3, h4, h5⟩
    have nq : q ≠ d := by
      intro z
      subst z
      exact hd.2 n (by omega) (ew_wk n q u h4)
    exact ⟨w, q, u, h1, h2, h3, ih q u (by omega) h4, by rw [h5, he q nq]⟩
/-- the least of the ways so far -/
def MN (R C : Nat) (sg : Nat → Nat) (A g : Nat) (s : Nat → Nat) (B d c w x : Nat) : Prop := (∀ w' q v, w' < w → stp R C sg c w' = some q → A.testBit q = true → isM R C sg A g s d q v → x ≤ v + s q) ∧ (x = B ∨ ∃ w' q v, w' < 4 ∧ stp R C sg c w' = some q ∧ A.testBit q = true ∧ isM R C sg A g s d q v ∧ x = v + s q)
theorem MN_0 (R C : Nat) (sg : Nat → Nat) (A g : Nat) (s : Nat → Nat) (B d c : Nat) : MN R C sg A g s B d c 0 B := ⟨fun w' q v h => absurd h (by omega), Or.inl rfl⟩
theorem MN_skip {R C A g B d c w x : Nat} {sg s : Nat → Nat} (h : MN R C sg A g s B d c w x) (hn : ∀ q, stp R C sg c w = some q → A.testBit q = true → ¬ isD R C sg A g d q) (hd : isD R C sg A g (d + 1) c) : MN R C sg A g s B d c (w + 1) x := by
  refine ⟨fun w' q v h1 h2 h3 h4 => ?_, h.2⟩
  by_cases t : w' = w
  · subst t
    rcases Nat.lt_or_ge w' 4 with y | y
    · refine absurd ⟨ew_wk d q v h4.1, fun m hm z => ?_⟩ (hn q h2 h3)
      exact hd.2 (m + 1) (by omega) ⟨w', q, y, h2, h3, z⟩
    · refine absurd ?_ (hn q h2 h3)
      rcases D_cases R C sg A g q with ⟨n, z⟩ | z
      · have := ew_wk d q v h4.1
        rcases Nat.lt_trichotomy n d with u | u | u
        · exact absurd h1 (by
            intro _
            have e : stp R C sg c w' = some q := h2
            have n4 : nb R C c w' = some c := by
              obtain ⟨j, rfl⟩ : ∃ j, w' = j + 4 := ⟨w' - 4, by omega⟩
              rfl
            unfold stp at e
            rw [n4] at e
            dsimp only at e
            by_cases sc : sg c = 35
            · rw [if_pos sc] at e; exact absurd e (by simp)
            · rw [if_neg sc] at e
              injection e with e
              subst e
              exact hd.2 d (by omega) this)
        · rw [← u]; exact z
        · exact absurd this (z.2 d u)
      · exact absurd (ew_wk d q v h4.1) (z d)
  · exact h.1 w' q v (by omega) h2 h3 h4
theorem MN_take {R C A g B d c w x q v : Nat} {sg s : Nat → Nat} (h : MN R C sg A g s B d c w x) (hw : w < 4) (hq : stp R C sg c w = some q) (ha : A.testBit q = true) (hm : isM R C sg A g s d q v) : MN R C sg A g s B d c (w + 1) (if x ≤ v + s q then x else v + s q) := by
  constructor
  · intro w' q' v' h1 h2 h3 h4
    by_cases t : w' = w
    · subst t
      rw [hq] at h2
      injection h2 with h2
      subst h2
      have := M_uniq hm h4
      subst this
      split <;> omega
    · have := h.1 w' q' v' (by omega) h2 h3 h4
      split <;> omega
  · split
    · exact h.2
    · exact Or.inr ⟨w, q, v, hw, hq, ha, hm, rfl⟩
theorem MN_end {R C A g B d c x : Nat} {sg s : Nat → Nat} (h : MN R C sg A g s B d c 4 x) (hok : okD R C) (hs : ∀ q, s q ≤ 1) (hB : d + 1 < B) (hd : isD R C sg A g (d + 1) c) (hM : ∀ q, A.testBit q = true → isD R C sg A g d q → ∃ v, isM R C sg A g s d q v) : isM R C sg A g s (d + 1) c x := by
  obtain ⟨w, q, h1, h2, h3, h4⟩ := D_next hd
  obtain ⟨v, hv⟩ := hM q h3 h4
  have a := h.1 w q v h1 h2 h3 hv
  have b := ew_le hs d q v hv.1
  have c' := hs q
  constructor
  · rcases h.2 with e | ⟨w', q', v', e1, e2, e3, e4, e5⟩
    · omega
    · exact ⟨w', q', v', e1, e2, e3, e4.1, e5⟩
  · intro v' ⟨w', q', u', e1, e2, e3, e4, e5⟩
    have dq : isD R C sg A g d q' := ⟨ew_wk d q' u' e4, fun m hm z => hd.2 (m + 1) (by omega) ⟨w', q', e1, e2, e3, z⟩⟩
    obtain ⟨v2, hv2⟩ := hM q' e3 dq
    have := h.1 w' q' v2 e1 e2 e3 hv2
    have := hv2.2 u' e4
    omega
theorem M_0 {R C A g c : Nat} {sg s : Nat → Nat} (h : isD R C sg A g 0 c) : isM R C sg A g s 0 c 0 := ⟨⟨h.1, rfl⟩, fun v' _ => Nat.zero_le _⟩
/-- what a step weighs -/
def sw (bn g : Nat) (last : Bool) (q : Nat) : Nat := if bn.testBit q = true then 0 else if q = g ∧ last = false then 0 else 1
theorem sw_le (bn g : Nat) (last : Bool) (q : Nat) : sw bn g last q ≤ 1 := by
  unfold sw
  repeat' split
  all_goals omega
