/-! The relation of the two states -/
def OKs (c : Nat) : Prop := c = 46 ∨ c = 103 ∨ c = 99 ∨ c = 100 ∨ c = 35
/-- what a house is: rows, columns, signs, door, thing, ears, k watchers with cell, looking, dog -/
def okS (R C : Nat) (sg : Nat → Nat) (dr th er k : Nat) (wc wl wd : Nat → Nat) : Prop :=
  okD R C ∧ (∀ c, c < R * C → OKs (sg c)) ∧ (dr < R * C ∧ sg dr ≠ 35) ∧ (th < R * C ∧ sg th ≠ 35) ∧ er ≤ 6 ∧ k ≤ 4 ∧ ∀ w, w < k → wc w < R * C ∧ sg (wc w) ≠ 35 ∧ wl w < 4 ∧ wd w < 2
/-- the class holds it -/
def rX (R C : Nat) (sg : Nat → Nat) (dr th er k : Nat) (wc wl wd : Nat → Nat) (h : HT) (v : VT) : Prop :=
  h = hOf R C sg dr th er ∧ v.1 = nI k ∧ ∀ w, w < k → v.2.1 w = nI (wc w) ∧ v.2.2.1 w = nI (wl w) ∧ v.2.2.2 w = nI (wd w)
/-- the reference holds it -/
def rM (R C : Nat) (sg : Nat → Nat) (dr th er k : Nat) (wc wl wd : Nat → Nat) (mb : BT) : Prop :=
  mb.1 = nI R ∧ mb.2.1 = nI C ∧ mb.2.2.1 = nI dr ∧ mb.2.2.2.1 = nI th ∧ mb.2.2.2.2.1 = nI k ∧ mb.2.2.2.2.2.1 = nI er ∧ (∀ c, c < R * C → mb.2.2.2.2.2.2.1 c = nI (sg c)) ∧ ∀ w, w < k → mb.2.2.2.2.2.2.2.1 w = nI (wc w) ∧ mb.2.2.2.2.2.2.2.2.1 w = nI (wl w) ∧ mb.2.2.2.2.2.2.2.2.2 w = nI (wd w)
def RH (h : HT) (v : VT) (mb : BT) : Prop := ∃ (R C : Nat) (sg : Nat → Nat) (dr th er k : Nat) (wc wl wd : Nat → Nat), okS R C sg dr th er k wc wl wd ∧ rX R C sg dr th er k wc wl wd h v ∧ rM R C sg dr th er k wc wl wd mb
def RPd (p : PT) (mo : OT) : Prop := ∃ (n : Nat) (f : Nat → Nat), n ≤ 40 ∧ p.1 = nI n ∧ mo.1 = nI n ∧ ∀ i, i < n → 33 ≤ f i ∧ f i ≤ 126 ∧ p.2 i = nI (f i) ∧ mo.2 i = nI (f i)
/-- an image: kept at place 40 j of the reference's row -/
def RIm (j : Nat) (kp : Int32) (h : HT) (v : VT) (mi : IT) : Prop := (kp = 0 ∧ mi.2.2.2 j = 0) ∨ (kp = 1 ∧ mi.2.2.2 j = 1 ∧ ∃ (R C : Nat) (sg : Nat → Nat) (dr th er k : Nat) (wc wl wd : Nat → Nat), okS R C sg dr th er k wc wl wd ∧ rX R C sg dr th er k wc wl wd h v ∧
  (mi.2.2.1 (40 * j) = nI R ∧ mi.2.2.1 (40 * j + 1) = nI C ∧ mi.2.2.1 (40 * j + 2) = nI dr ∧ mi.2.2.1 (40 * j + 3) = nI th ∧ mi.2.2.1 (40 * j + 4) = nI k ∧ mi.2.2.1 (40 * j + 5) = nI er) ∧ (∀ c, c < R * C → mi.2.2.1 (40 * j + 6 + c) = nI (sg c)) ∧ ∀ w, w < k → mi.2.2.1 (40 * j + 22 + 3 * w) = nI (wc w) ∧ mi.2.2.1 (40 * j + 22 + 3 * w + 1) = nI (wl w) ∧ mi.2.2.1 (40 * j + 22 + 3 * w + 2) = nI (wd w))
