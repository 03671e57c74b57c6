/-! Types of the states, and what the models name -/
abbrev AR : Type := Nat → Int32
abbrev vin (i : Int32) (n : Nat) : Prop := ¬ (i < 0 ∨ n ≤ i.toNatClampNeg)
def stb (k j : Nat) : Int32 := if k = 0 then ([46, 103, 99, 100, 35] : List Int32).getD j 0 else ([110, 101, 115, 119, 45] : List Int32).getD j 0
abbrev HT : Type := Int32 × Int32 × Int32 × Int32 × Int32 × Int32 × Int32 × Int32 × Int32 × Int32 × Int32 × Int32
abbrev VT : Type := Int32 × AR × AR × AR
abbrev PT : Type := Int32 × AR
abbrev DT : Type := Int32 × Int32 × Int32 × Int32 × Int32 × Int32 × Int32
abbrev YT : Type := AR × AR
abbrev RT : Type := Int32 × Int32 × Int32 × AR × AR × AR
abbrev QT : Type := AR × AR
abbrev BT : Type := Int32 × Int32 × Int32 × Int32 × Int32 × Int32 × AR × AR × AR × AR
abbrev OT : Type := Int32 × AR
abbrev NT : Type := Int32 × Int32 × Int32 × Int32
abbrev GT : Type := Int32 × Int32 × Int32 × Int32 × Int32 × Int32
abbrev TT : Type := Int32 × AR
abbrev LT : Type := AR × AR
abbrev IT : Type := Int32 × Int32 × AR × AR
