section
/-! Types of the states, and what the models name -/
abbrev AR : Type := Nat → Int32
abbrev vin (i : Int32) (n : Nat) : Prop := ¬ (i < 0 ∨ n ≤ i.toNatClampNeg)
def stb (k j : Nat) : Int32 := if k = 0 then ([46, 103, 99, 100, 35] : List Int32).getD j 0 else ([110, 101, 115, 119, 45] : List Int32).getD j 0
abbrev HT : Type := Int32 × Int32 × Int32 × Int32 × Int32 × Int32 × Int32 × Int32 × Int32 × Int32 × Int32 × Int32
abbrev VT : Type := Int32 × AR × AR × AR
abbrev PT : Type := Int32 × AR
abbrev DT : Type := Int32 × Int32 × Int32 × Int32 × Int32 × Int32 × Int32
abbrev YT : Type := AR × AR
abbrev RT : Type := Int32 × Int32 × Int32 × AR × AR × AR
abbrev QT : Type := AR × AR
abbrev BT : Type := Int32 × Int32 × Int32 × Int32 × Int32 × Int32 × AR × AR × AR × AR
abbrev OT : Type := Int32 × AR
abbrev NT : Type := Int32 × Int32 × Int32 × Int32
abbrev GT : Type := Int32 × Int32 × Int32 × Int32 × Int32 × Int32
abbrev TT : Type := Int32 × AR
abbrev LT : Type := AR × AR
abbrev IT : Type := Int32 × Int32 × AR × AR
end
section
/-! Pure models of the methods, printed by wip/whole/gen.py out of the bytecode: none where the machine would not go on as the walk has it -/
def M_J0_isLatin1_aae02 (ks : Nat) : Option (Int32) :=
  if (1 : Int32) = 0 then (some (0 : Int32)) else (if ks < 2 then if (0 : Int32) = 0 then (some (1 : Int32)) else (some (0 : Int32)) else none)
def M_J3_checkIndex_8e157_9 (x1 : Int32) (x2 : Int32) (a9 : Unit) : Option (Int32) :=
  none
def M_J3_checkIndex_8e157 (x1 : Int32) (x2 : Int32) : Option (Int32) :=
  if x1 < 0 then (M_J3_checkIndex_8e157_9 x1 x2 ()) else (if x1 < x2 then (some x1) else (M_J3_checkIndex_8e157_9 x1 x2 ()))
def M_J0_checkIndex_df160 (x1 : Int32) (x2 : Int32) : Option (Unit) :=
  (M_J3_checkIndex_8e157 x1 x2).bind fun z5 => some ()
def M_J1_charAt_3b067 (ks : Nat) (x2 : Int32) : Option (Int32) :=
  if ks < 2 then (M_J0_checkIndex_df160 x2 (5 : Int32)).bind fun z3 => if ks < 2 then if vin x2 5 then if vp_nar .char ((((stb ks x2.toNatClampNeg) &&& (255 : Int32)).toUInt32 % 65536).toInt32) = ((((stb ks x2.toNatClampNeg) &&& (255 : Int32)).toUInt32 % 65536).toInt32) then some ((((stb ks x2.toNatClampNeg) &&& (255 : Int32)).toUInt32 % 65536).toInt32) else none else none else none else none
def M_J0_charAt_5068e (ks : Nat) (x1 : Int32) : Option (Int32) :=
  if ks < 2 then (M_J0_isLatin1_aae02 ks).bind fun z1 => if z1 = 0 then (if ks < 2 then none else none) else (if ks < 2 then (M_J1_charAt_3b067 ks x1).bind fun z12 => if vp_nar .char z12 = z12 then some z12 else none else none) else none
def M_J0_coder_7d493 (ks : Nat) : Option (Int32) :=
  if (1 : Int32) = 0 then (some (1 : Int32)) else (if ks < 2 then some (0 : Int32) else none)
def M_J0_length_8abf5 (ks : Nat) : Option (Int32) :=
  if ks < 2 then if ks < 2 then if ks < 2 then (M_J0_coder_7d493 ks).bind fun z6 => some ((5 : Int32) >>> (z6 &&& 31)) else none else none else none
def M_J1_canEncode_9a6ad (x1 : Int32) : Option (Int32) :=
  if x1 < 0 then (some (0 : Int32)) else (if (255 : Int32) < x1 then (some (0 : Int32)) else (some (1 : Int32)))
def M_J1_indexOfChar_4cfef_7b (ks : Nat) (x2 : Int32) (x3 : Int32) (x4 : Int32) (rc7 : Int32 × Int32 → Option (Int32)) (a7 : Int32 × Int32) : Option (Int32) :=
  if x4 ≤ a7.2 then (some (-1 : Int32)) else (if ks < 2 then if vin a7.2 5 then if (stb ks a7.2.toNatClampNeg) = a7.1 then (some a7.2) else (rc7 (a7.1, (a7.2 + (1 : Int32)))) else none else none)
def M_J1_indexOfChar_4cfef_7 (ks : Nat) (x2 : Int32) (x3 : Int32) (x4 : Int32) : Nat → (Int32 × Int32) → Option (Int32)
  | 0 => fun _ => none
  | k + 1 => M_J1_indexOfChar_4cfef_7b ks x2 x3 x4 (M_J1_indexOfChar_4cfef_7 ks x2 x3 x4 k)
def M_J1_indexOfChar_4cfef (ks : Nat) (x2 : Int32) (x3 : Int32) (x4 : Int32) : Option (Int32) :=
  M_J1_indexOfChar_4cfef_7 ks x2 x3 x4 200 (x2.toInt8.toInt32, x3)
def M_J1_indexOf_4cfef (ks : Nat) (x2 : Int32) (x3 : Int32) (x4 : Int32) : Option (Int32) :=
  (M_J1_canEncode_9a6ad x2).bind fun z1 => if z1 = 0 then (some (-1 : Int32)) else (if ks < 2 then if (if x3 < (0 : Int32) then (0 : Int32) else x3) < (if (5 : Int32) < x4 then (5 : Int32) else x4) then ((M_J1_indexOfChar_4cfef ks x2 (if x3 < (0 : Int32) then (0 : Int32) else x3) (if (5 : Int32) < x4 then (5 : Int32) else x4)).bind fun z33 => some z33) else (some (-1 : Int32)) else none)
def M_J0_indexOf_7cf53 (ks : Nat) (x1 : Int32) (x2 : Int32) : Option (Int32) :=
  if ks < 2 then (M_J0_isLatin1_aae02 ks).bind fun z1 => if z1 = 0 then (if ks < 2 then if ks < 2 then (M_J0_length_8abf5 ks).bind fun z30 => none else none else none) else (if ks < 2 then if ks < 2 then (M_J0_length_8abf5 ks).bind fun z14 => (M_J1_indexOf_4cfef ks x1 x2 z14).bind fun z17 => some z17 else none else none) else none
def M_J0_indexOf_0f7a4 (ks : Nat) (x1 : Int32) : Option (Int32) :=
  if ks < 2 then (M_J0_indexOf_7cf53 ks x1 (0 : Int32)).bind fun z3 => some z3 else none
def M_J6_bitCount_0f7a4 (x1 : Int32) : Option (Int32) :=
  some ((((((((x1 - (((x1.toUInt32 >>> ((1 : Int32).toUInt32 &&& Int32.toUInt32 31)).toInt32) &&& (1431655765 : Int32))) &&& (858993459 : Int32)) + ((((x1 - (((x1.toUInt32 >>> ((1 : Int32).toUInt32 &&& Int32.toUInt32 31)).toInt32) &&& (1431655765 : Int32))).toUInt32 >>> ((2 : Int32).toUInt32 &&& Int32.toUInt32 31)).toInt32) &&& (858993459 : Int32))) + (((((x1 - (((x1.toUInt32 >>> ((1 : Int32).toUInt32 &&& Int32.toUInt32 31)).toInt32) &&& (1431655765 : Int32))) &&& (858993459 : Int32)) + ((((x1 - (((x1.toUInt32 >>> ((1 : Int32).toUInt32 &&& Int32.toUInt32 31)).toInt32) &&& (1431655765 : Int32))).toUInt32 >>> ((2 : Int32).toUInt32 &&& Int32.toUInt32 31)).toInt32) &&& (858993459 : Int32))).toUInt32 >>> ((4 : Int32).toUInt32 &&& Int32.toUInt32 31)).toInt32)) &&& (252645135 : Int32)) + (((((((x1 - (((x1.toUInt32 >>> ((1 : Int32).toUInt32 &&& Int32.toUInt32 31)).toInt32) &&& (1431655765 : Int32))) &&& (858993459 : Int32)) + ((((x1 - (((x1.toUInt32 >>> ((1 : Int32).toUInt32 &&& Int32.toUInt32 31)).toInt32) &&& (1431655765 : Int32))).toUInt32 >>> ((2 : Int32).toUInt32 &&& Int32.toUInt32 31)).toInt32) &&& (858993459 : Int32))) + (((((x1 - (((x1.toUInt32 >>> ((1 : Int32).toUInt32 &&& Int32.toUInt32 31)).toInt32) &&& (1431655765 : Int32))) &&& (858993459 : Int32)) + ((((x1 - (((x1.toUInt32 >>> ((1 : Int32).toUInt32 &&& Int32.toUInt32 31)).toInt32) &&& (1431655765 : Int32))).toUInt32 >>> ((2 : Int32).toUInt32 &&& Int32.toUInt32 31)).toInt32) &&& (858993459 : Int32))).toUInt32 >>> ((4 : Int32).toUInt32 &&& Int32.toUInt32 31)).toInt32)) &&& (252645135 : Int32)).toUInt32 >>> ((8 : Int32).toUInt32 &&& Int32.toUInt32 31)).toInt32)) + ((((((((x1 - (((x1.toUInt32 >>> ((1 : Int32).toUInt32 &&& Int32.toUInt32 31)).toInt32) &&& (1431655765 : Int32))) &&& (858993459 : Int32)) + ((((x1 - (((x1.toUInt32 >>> ((1 : Int32).toUInt32 &&& Int32.toUInt32 31)).toInt32) &&& (1431655765 : Int32))).toUInt32 >>> ((2 : Int32).toUInt32 &&& Int32.toUInt32 31)).toInt32) &&& (858993459 : Int32))) + (((((x1 - (((x1.toUInt32 >>> ((1 : Int32).toUInt32 &&& Int32.toUInt32 31)).toInt32) &&& (1431655765 : Int32))) &&& (858993459 : Int32)) + ((((x1 - (((x1.toUInt32 >>> ((1 : Int32).toUInt32 &&& Int32.toUInt32 31)).toInt32) &&& (1431655765 : Int32))).toUInt32 >>> ((2 : Int32).toUInt32 &&& Int32.toUInt32 31)).toInt32) &&& (858993459 : Int32))).toUInt32 >>> ((4 : Int32).toUInt32 &&& Int32.toUInt32 31)).toInt32)) &&& (252645135 : Int32)) + (((((((x1 - (((x1.toUInt32 >>> ((1 : Int32).toUInt32 &&& Int32.toUInt32 31)).toInt32) &&& (1431655765 : Int32))) &&& (858993459 : Int32)) + ((((x1 - (((x1.toUInt32 >>> ((1 : Int32).toUInt32 &&& Int32.toUInt32 31)).toInt32) &&& (1431655765 : Int32))).toUInt32 >>> ((2 : Int32).toUInt32 &&& Int32.toUInt32 31)).toInt32) &&& (858993459 : Int32))) + (((((x1 - (((x1.toUInt32 >>> ((1 : Int32).toUInt32 &&& Int32.toUInt32 31)).toInt32) &&& (1431655765 : Int32))) &&& (858993459 : Int32)) + ((((x1 - (((x1.toUInt32 >>> ((1 : Int32).toUInt32 &&& Int32.toUInt32 31)).toInt32) &&& (1431655765 : Int32))).toUInt32 >>> ((2 : Int32).toUInt32 &&& Int32.toUInt32 31)).toInt32) &&& (858993459 : Int32))).toUInt32 >>> ((4 : Int32).toUInt32 &&& Int32.toUInt32 31)).toInt32)) &&& (252645135 : Int32)).toUInt32 >>> ((8 : Int32).toUInt32 &&& Int32.toUInt32 31)).toInt32)).toUInt32 >>> ((16 : Int32).toUInt32 &&& Int32.toUInt32 31)).toInt32)) &&& (63 : Int32))
def M_J7_fill_53178_5b (n : Nat) (x2 : Int32) (rc5 : AR × Int32 × Int32 → Option (AR)) (a5 : AR × Int32 × Int32) : Option (AR) :=
  if a5.2.2 ≤ a5.2.1 then (some a5.1) else (if vin a5.2.1 n then rc5 ((upd a5.1 a5.2.1.toNatClampNeg x2), (a5.2.1 + (1 : Int32)), a5.2.2) else none)
def M_J7_fill_53178_5 (n : Nat) (x2 : Int32) : Nat → (AR × Int32 × Int32) → Option (AR)
  | 0 => fun _ => none
  | k + 1 => M_J7_fill_53178_5b n x2 (M_J7_fill_53178_5 n x2 k)
def M_J7_fill_53178 (n : Nat) (f : AR) (x2 : Int32) : Option (AR) :=
  M_J7_fill_53178_5 n x2 200 (f, (0 : Int32), (nI n))
def M_X8_bit (x1 : Int32) : Option (Int32) :=
  some ((1 : Int32) <<< (x1 &&& 31))
def M_X0_moved (h : HT) (x1 : Int32) (x2 : Int32) : Option (Int32) :=
  if x2 = (0 : Int32) then (some ((x1.toUInt32 >>> (h.2.1.toUInt32 &&& Int32.toUInt32 31)).toInt32)) else (if x2 = (1 : Int32) then (some ((x1 &&& (h.2.2.2.2.1 ^^^ (-1 : Int32))) <<< ((1 : Int32) &&& 31))) else (if x2 = (2 : Int32) then (some ((x1 <<< (h.2.1 &&& 31)) &&& h.2.2.1)) else (if x2 = (3 : Int32) then (some (((x1 &&& (h.2.2.2.1 ^^^ (-1 : Int32))).toUInt32 >>> ((1 : Int32).toUInt32 &&& Int32.toUInt32 31)).toInt32)) else (some x1))))
def M_X0_spread_4b (h : HT) (x1 : Int32) (rc4 : Int32 × Int32 → Option (Int32)) (a4 : Int32 × Int32) : Option (Int32) :=
  if (4 : Int32) ≤ a4.2 then (some a4.1) else ((M_X0_moved h x1 a4.2).bind fun z13 => rc4 ((a4.1 ||| z13), (a4.2 + (1 : Int32))))
def M_X0_spread_4 (h : HT) (x1 : Int32) : Nat → (Int32 × Int32) → Option (Int32)
  | 0 => fun _ => none
  | k + 1 => M_X0_spread_4b h x1 (M_X0_spread_4 h x1 k)
def M_X0_spread (h : HT) (x1 : Int32) : Option (Int32) :=
  M_X0_spread_4 h x1 200 (x1, (0 : Int32))
def M_X0_around_8b (h : HT) (x1 : Int32) (x2 : Int32) (rc8 : Int32 × Int32 → Option (Int32)) (a8 : Int32 × Int32) : Option (Int32) :=
  if x2 ≤ a8.2 then (some a8.1) else ((M_X0_spread h a8.1).bind fun z16 => rc8 (z16, (a8.2 + (1 : Int32))))
def M_X0_around_8 (h : HT) (x1 : Int32) (x2 : Int32) : Nat → (Int32 × Int32) → Option (Int32)
  | 0 => fun _ => none
  | k + 1 => M_X0_around_8b h x1 x2 (M_X0_around_8 h x1 x2 k)
def M_X0_around (h : HT) (x1 : Int32) (x2 : Int32) : Option (Int32) :=
  (M_X8_bit x1).bind fun z1 => M_X0_around_8 h x1 x2 200 (z1, (0 : Int32))
def M_X0_open (h : HT) : Option (Int32) :=
  some (h.2.2.1 &&& (h.2.2.2.2.2.1 ^^^ (-1 : Int32)))
def M_X8_at (n : Nat) (f : AR) (x2 : Int32) : Option (Int32) :=
  if x2 < 0 then (some (0 : Int32)) else (if (nI n) ≤ x2 then (some (0 : Int32)) else (if vin x2 n then some (f x2.toNatClampNeg) else none))
def M_X4_cellOfOne (v : VT) (x1 : Int32) : Option (Int32) :=
  (M_X8_at 4 v.2.1 x1).bind fun z5 => some z5
def M_X4_lookingOf (v : VT) (x1 : Int32) : Option (Int32) :=
  (M_X8_at 4 v.2.2.1 x1).bind fun z5 => some z5
def M_X4_hasDog (v : VT) (x1 : Int32) : Option (Int32) :=
  (M_X8_at 4 v.2.2.2 x1).bind fun z5 => if z5 = (1 : Int32) then (some (1 : Int32)) else (some (0 : Int32))
def M_X0_sightFrom_11b (h : HT) (x1 : Int32) (x2 : Int32) (rc11 : Int32 × Int32 × Int32 → Option (Int32)) (a11 : Int32 × Int32 × Int32) : Option (Int32) :=
  if (4 : Int32) ≤ a11.2.2 then (some a11.2.1) else ((M_X0_moved h a11.1 x2).bind fun z20 => rc11 ((z20 &&& (h.2.2.2.2.2.1 ^^^ (-1 : Int32))), (a11.2.1 ||| (z20 &&& (h.2.2.2.2.2.1 ^^^ (-1 : Int32)))), (a11.2.2 + (1 : Int32))))
def M_X0_sightFrom_11 (h : HT) (x1 : Int32) (x2 : Int32) : Nat → (Int32 × Int32 × Int32) → Option (Int32)
  | 0 => fun _ => none
  | k + 1 => M_X0_sightFrom_11b h x1 x2 (M_X0_sightFrom_11 h x1 x2 k)
def M_X0_sightFrom (h : HT) (x1 : Int32) (x2 : Int32) : Option (Int32) :=
  (M_X8_bit x1).bind fun z1 => M_X0_sightFrom_11 h x1 x2 200 (z1, z1, (1 : Int32))
def M_X0_spoiledFrom (h : HT) (x1 : Int32) (x2 : Int32) (x3 : Int32) : Option (Int32) :=
  (M_X0_sightFrom h x1 x2).bind fun z3 => (M_X0_around h x1 h.2.2.2.2.2.2.2.2.2.2.2).bind fun z22 => if x3 = 0 then (some ((z3 &&& (h.2.2.2.2.2.2.1 ||| h.2.2.2.2.2.2.2.2.1)) ||| (z22 &&& h.2.2.2.2.2.2.2.1))) else ((M_X0_around h x1 (1 : Int32)).bind fun z42 => some (((z3 &&& (h.2.2.2.2.2.2.1 ||| h.2.2.2.2.2.2.2.2.1)) ||| (z22 &&& h.2.2.2.2.2.2.2.1)) ||| z42))
def M_X0_bareCells_7b (h : HT) (v : VT) (rc7 : Int32 × Int32 → Option (Int32)) (a7 : Int32 × Int32) : Option (Int32) :=
  if v.1 ≤ a7.2 then (some a7.1) else ((M_X4_cellOfOne v a7.2).bind fun z25 => (M_X4_lookingOf v a7.2).bind fun z33 => (M_X4_hasDog v a7.2).bind fun z41 => (M_X0_spoiledFrom h z25 z33 z41).bind fun z44 => rc7 ((a7.1 &&& (z44 ^^^ (-1 : Int32))), (a7.2 + (1 : Int32))))
def M_X0_bareCells_7 (h : HT) (v : VT) : Nat → (Int32 × Int32) → Option (Int32)
  | 0 => fun _ => none
  | k + 1 => M_X0_bareCells_7b h v (M_X0_bareCells_7 h v k)
def M_X0_bareCells (h : HT) (v : VT) : Option (Int32) :=
  (M_X0_open h).bind fun z1 => M_X0_bareCells_7 h v 200 (z1, (0 : Int32))
def M_X0_cells (h : HT) : Option (Int32) :=
  some (h.1 * h.2.1)
def M_X4_clear (v : VT) : Option (Int32 × VT) :=
  some (v.1, ((0 : Int32), v.2.1, v.2.2.1, v.2.2.2))
def M_X0_clearCells (h : HT) (v : VT) : Option (HT × VT) :=
  (M_X4_clear v).bind fun z24 => some ((h.1, h.2.1, h.2.2.1, h.2.2.2.1, h.2.2.2.2.1, (0 : Int32), (0 : Int32), (0 : Int32), (0 : Int32), h.2.2.2.2.2.2.2.2.2.1, h.2.2.2.2.2.2.2.2.2.2.1, h.2.2.2.2.2.2.2.2.2.2.2), z24.2)
def M_X0_layOut_30b (x1 : Int32) (x2 : Int32) (rc30 : HT × VT × Int32 → Option (HT × VT)) (a30 : HT × VT × Int32) : Option (HT × VT) :=
  if a30.1.1 ≤ a30.2.2 then ((M_X0_clearCells (a30.1.1, a30.1.2.1, a30.1.2.2.1, a30.1.2.2.2.1, (a30.1.2.2.2.1 <<< ((a30.1.2.1 - (1 : Int32)) &&& 31)), a30.1.2.2.2.2.2.1, a30.1.2.2.2.2.2.2.1, a30.1.2.2.2.2.2.2.2.1, a30.1.2.2.2.2.2.2.2.2.1, a30.1.2.2.2.2.2.2.2.2.2.1, a30.1.2.2.2.2.2.2.2.2.2.2.1, a30.1.2.2.2.2.2.2.2.2.2.2.2) a30.2.1).bind fun z78 => (M_X0_cells (z78.1.1, z78.1.2.1, z78.1.2.2.1, z78.1.2.2.2.1, z78.1.2.2.2.2.1, z78.1.2.2.2.2.2.1, z78.1.2.2.2.2.2.2.1, z78.1.2.2.2.2.2.2.2.1, z78.1.2.2.2.2.2.2.2.2.1, (0 : Int32), z78.1.2.2.2.2.2.2.2.2.2.2.1, z78.1.2.2.2.2.2.2.2.2.2.2.2)).bind fun z88 => some ((z78.1.1, z78.1.2.1, z78.1.2.2.1, z78.1.2.2.2.1, z78.1.2.2.2.2.1, z78.1.2.2.2.2.2.1, z78.1.2.2.2.2.2.2.1, z78.1.2.2.2.2.2.2.2.1, z78.1.2.2.2.2.2.2.2.2.1, (0 : Int32), (z88 - (1 : Int32)), z78.1.2.2.2.2.2.2.2.2.2.2.2), z78.2)) else ((M_X8_bit (a30.2.2 * a30.1.2.1)).bind fun z49 => rc30 ((a30.1.1, a30.1.2.1, a30.1.2.2.1, (a30.1.2.2.2.1 ||| z49), a30.1.2.2.2.2.1, a30.1.2.2.2.2.2.1, a30.1.2.2.2.2.2.2.1, a30.1.2.2.2.2.2.2.2.1, a30.1.2.2.2.2.2.2.2.2.1, a30.1.2.2.2.2.2.2.2.2.2.1, a30.1.2.2.2.2.2.2.2.2.2.2.1, a30.1.2.2.2.2.2.2.2.2.2.2.2), a30.2.1, (a30.2.2 + (1 : Int32))))
def M_X0_layOut_30 (x1 : Int32) (x2 : Int32) : Nat → (HT × VT × Int32) → Option (HT × VT)
  | 0 => fun _ => none
  | k + 1 => M_X0_layOut_30b x1 x2 (M_X0_layOut_30 x1 x2 k)
def M_X0_layOut (h : HT) (v : VT) (x1 : Int32) (x2 : Int32) : Option (HT × VT) :=
  (M_X0_cells (x1, x2, h.2.2.1, h.2.2.2.1, h.2.2.2.2.1, h.2.2.2.2.2.1, h.2.2.2.2.2.2.1, h.2.2.2.2.2.2.2.1, h.2.2.2.2.2.2.2.2.1, h.2.2.2.2.2.2.2.2.2.1, h.2.2.2.2.2.2.2.2.2.2.1, h.2.2.2.2.2.2.2.2.2.2.2)).bind fun z12 => (M_X8_bit z12).bind fun z15 => M_X0_layOut_30 x1 x2 200 ((x1, x2, (z15 - (1 : Int32)), (0 : Int32), h.2.2.2.2.1, h.2.2.2.2.2.1, h.2.2.2.2.2.2.1, h.2.2.2.2.2.2.2.1, h.2.2.2.2.2.2.2.2.1, h.2.2.2.2.2.2.2.2.2.1, h.2.2.2.2.2.2.2.2.2.2.1, h.2.2.2.2.2.2.2.2.2.2.2), v, (0 : Int32))
def M_X4_isFull (v : VT) : Option (Int32) :=
  if v.1 < (4 : Int32) then (some (0 : Int32)) else (some (1 : Int32))
def M_X8_put (n : Nat) (f : AR) (x2 : Int32) (x3 : Int32) : Option (AR) :=
  if x2 < 0 then (some f) else (if (nI n) ≤ x2 then (some f) else (if vin x2 n then some (upd f x2.toNatClampNeg x3) else none))
def M_X4_add_50 (x1 : Int32) (x2 : Int32) (x3 : Int32) (a50 : VT × Int32 × Int32) : Option (Int32 × VT) :=
  (M_X8_put 4 a50.1.2.2.2 a50.2.2 a50.2.1).bind fun z50 => some ((1 : Int32), ((a50.1.1 + (1 : Int32)), a50.1.2.1, a50.1.2.2.1, z50))
def M_X4_add (v : VT) (x1 : Int32) (x2 : Int32) (x3 : Int32) : Option (Int32 × VT) :=
  (M_X4_isFull v).bind fun z1 => if z1 = 0 then ((M_X8_put 4 v.2.1 v.1 x1).bind fun z18 => (M_X8_put 4 v.2.2.1 v.1 x2).bind fun z30 => if x3 = 0 then (M_X4_add_50 x1 x2 x3 ((v.1, z18, z30, v.2.2.2), (0 : Int32), v.1)) else (M_X4_add_50 x1 x2 x3 ((v.1, z18, z30, v.2.2.2), (1 : Int32), v.1))) else (some ((0 : Int32), v))
def M_X4_copyFrom_7b (u : VT) (rc7 : VT × Int32 → Option (VT)) (a7 : VT × Int32) : Option (VT) :=
  if u.1 ≤ a7.2 then (some a7.1) else ((M_X4_cellOfOne u a7.2).bind fun z18 => (M_X4_lookingOf u a7.2).bind fun z23 => (M_X4_hasDog u a7.2).bind fun z28 => (M_X4_add a7.1 z18 z23 z28).bind fun z31 => rc7 (z31.2, (a7.2 + (1 : Int32))))
def M_X4_copyFrom_7 (u : VT) : Nat → (VT × Int32) → Option (VT)
  | 0 => fun _ => none
  | k + 1 => M_X4_copyFrom_7b u (M_X4_copyFrom_7 u k)
def M_X4_copyFrom (v : VT) (u : VT) : Option (VT) :=
  (M_X4_clear v).bind fun z1 => M_X4_copyFrom_7 u 200 (z1.2, (0 : Int32))
def M_X0_copyFrom (h : HT) (v : VT) (g : HT) (u : VT) : Option (HT × VT) :=
  (M_X0_layOut h v g.1 g.2.1).bind fun z9 => (M_X4_copyFrom z9.2 u).bind fun z76 => some ((z9.1.1, z9.1.2.1, z9.1.2.2.1, z9.1.2.2.2.1, z9.1.2.2.2.2.1, g.2.2.2.2.2.1, g.2.2.2.2.2.2.1, g.2.2.2.2.2.2.2.1, g.2.2.2.2.2.2.2.2.1, g.2.2.2.2.2.2.2.2.2.1, g.2.2.2.2.2.2.2.2.2.2.1, g.2.2.2.2.2.2.2.2.2.2.2), z76)
def M_X2_signAt (p : PT) (x1 : Int32) : Option (Int32) :=
  if x1 < 0 then (some (32 : Int32)) else (if p.1 ≤ x1 then (some (32 : Int32)) else (if (nI 40) ≤ x1 then (some (32 : Int32)) else (if vin x1 40 then if vp_nar .char (p.2 x1.toNatClampNeg) = (p.2 x1.toNatClampNeg) then some (p.2 x1.toNatClampNeg) else none else none)))
def M_X0_furnishCell_88 (x1 : Int32) (x2 : Int32) (a88 : HT × Int32 × Int32) : Option (HT) :=
  some (a88.1.1, a88.1.2.1, a88.1.2.2.1, a88.1.2.2.2.1, a88.1.2.2.2.2.1, a88.1.2.2.2.2.2.1, a88.1.2.2.2.2.2.2.1, a88.1.2.2.2.2.2.2.2.1, (a88.2.2 ||| a88.2.1), a88.1.2.2.2.2.2.2.2.2.2.1, a88.1.2.2.2.2.2.2.2.2.2.2.1, a88.1.2.2.2.2.2.2.2.2.2.2.2)
def M_X0_furnishCell_65 (x1 : Int32) (x2 : Int32) (a65 : HT × Int32 × Int32) : Option (HT) :=
  if x2 = (100 : Int32) then ((M_X8_bit x1).bind fun z81 => M_X0_furnishCell_88 x1 x2 ((a65.1.1, a65.1.2.1, a65.1.2.2.1, a65.1.2.2.2.1, a65.1.2.2.2.2.1, a65.1.2.2.2.2.2.1, a65.1.2.2.2.2.2.2.1, (a65.2.2 ||| a65.2.1), a65.1.2.2.2.2.2.2.2.2.1, a65.1.2.2.2.2.2.2.2.2.2.1, a65.1.2.2.2.2.2.2.2.2.2.2.1, a65.1.2.2.2.2.2.2.2.2.2.2.2), z81, a65.1.2.2.2.2.2.2.2.2.1)) else (M_X0_furnishCell_88 x1 x2 ((a65.1.1, a65.1.2.1, a65.1.2.2.1, a65.1.2.2.2.1, a65.1.2.2.2.2.1, a65.1.2.2.2.2.2.1, a65.1.2.2.2.2.2.2.1, (a65.2.2 ||| a65.2.1), a65.1.2.2.2.2.2.2.2.2.1, a65.1.2.2.2.2.2.2.2.2.2.1, a65.1.2.2.2.2.2.2.2.2.2.2.1, a65.1.2.2.2.2.2.2.2.2.2.2.2), (0 : Int32), a65.1.2.2.2.2.2.2.2.2.1))
def M_X0_furnishCell_42 (x1 : Int32) (x2 : Int32) (a42 : HT × Int32 × Int32) : Option (HT) :=
  if x2 = (99 : Int32) then ((M_X8_bit x1).bind fun z58 => M_X0_furnishCell_65 x1 x2 ((a42.1.1, a42.1.2.1, a42.1.2.2.1, a42.1.2.2.2.1, a42.1.2.2.2.2.1, a42.1.2.2.2.2.2.1, (a42.2.2 ||| a42.2.1), a42.1.2.2.2.2.2.2.2.1, a42.1.2.2.2.2.2.2.2.2.1, a42.1.2.2.2.2.2.2.2.2.2.1, a42.1.2.2.2.2.2.2.2.2.2.2.1, a42.1.2.2.2.2.2.2.2.2.2.2.2), z58, a42.1.2.2.2.2.2.2.2.1)) else (M_X0_furnishCell_65 x1 x2 ((a42.1.1, a42.1.2.1, a42.1.2.2.1, a42.1.2.2.2.1, a42.1.2.2.2.2.1, a42.1.2.2.2.2.2.1, (a42.2.2 ||| a42.2.1), a42.1.2.2.2.2.2.2.2.1, a42.1.2.2.2.2.2.2.2.2.1, a42.1.2.2.2.2.2.2.2.2.2.1, a42.1.2.2.2.2.2.2.2.2.2.2.1, a42.1.2.2.2.2.2.2.2.2.2.2.2), (0 : Int32), a42.1.2.2.2.2.2.2.2.1))
def M_X0_furnishCell_19 (x1 : Int32) (x2 : Int32) (a19 : HT × Int32 × Int32) : Option (HT) :=
  if x2 = (103 : Int32) then ((M_X8_bit x1).bind fun z35 => M_X0_furnishCell_42 x1 x2 ((a19.1.1, a19.1.2.1, a19.1.2.2.1, a19.1.2.2.2.1, a19.1.2.2.2.2.1, (a19.2.2 ||| a19.2.1), a19.1.2.2.2.2.2.2.1, a19.1.2.2.2.2.2.2.2.1, a19.1.2.2.2.2.2.2.2.2.1, a19.1.2.2.2.2.2.2.2.2.2.1, a19.1.2.2.2.2.2.2.2.2.2.2.1, a19.1.2.2.2.2.2.2.2.2.2.2.2), z35, a19.1.2.2.2.2.2.2.1)) else (M_X0_furnishCell_42 x1 x2 ((a19.1.1, a19.1.2.1, a19.1.2.2.1, a19.1.2.2.2.1, a19.1.2.2.2.2.1, (a19.2.2 ||| a19.2.1), a19.1.2.2.2.2.2.2.1, a19.1.2.2.2.2.2.2.2.1, a19.1.2.2.2.2.2.2.2.2.1, a19.1.2.2.2.2.2.2.2.2.2.1, a19.1.2.2.2.2.2.2.2.2.2.2.1, a19.1.2.2.2.2.2.2.2.2.2.2.2), (0 : Int32), a19.1.2.2.2.2.2.2.1))
def M_X0_furnishCell (h : HT) (x1 : Int32) (x2 : Int32) : Option (HT) :=
  if x2 = (35 : Int32) then ((M_X8_bit x1).bind fun z12 => M_X0_furnishCell_19 x1 x2 (h, z12, h.2.2.2.2.2.1)) else (M_X0_furnishCell_19 x1 x2 (h, (0 : Int32), h.2.2.2.2.2.1))
def M_X8_cellOf (x1 : Int32) : Option (Int32) :=
  (M_J6_bitCount_0f7a4 (x1 - (1 : Int32))).bind fun z3 => some z3
def M_X8_has (x1 : Int32) (x2 : Int32) : Option (Int32) :=
  if (((x1.toUInt32 >>> (x2.toUInt32 &&& Int32.toUInt32 31)).toInt32) &&& (1 : Int32)) = 0 then (some (0 : Int32)) else (some (1 : Int32))
def M_X0_furnish_73 (p : PT) (rc49 : HT × VT × Int32 → Option (HT × VT)) (a73 : HT × VT × Int32) : Option (HT × VT) :=
  rc49 (a73.1, a73.2.1, (a73.2.2 + (1 : Int32)))
def M_X0_furnish_49b (p : PT) (rc49 : HT × VT × Int32 → Option (HT × VT)) (a49 : HT × VT × Int32) : Option (HT × VT) :=
  (M_X0_cells a49.1).bind fun z51 => if z51 ≤ a49.2.2 then (some (a49.1, a49.2.1)) else ((M_X8_has a49.1.2.2.2.2.2.1 a49.2.2).bind fun z62 => if z62 = 0 then (M_X0_furnish_73 p rc49 ((a49.1.1, a49.1.2.1, a49.1.2.2.1, a49.1.2.2.2.1, a49.1.2.2.2.2.1, a49.1.2.2.2.2.2.1, a49.1.2.2.2.2.2.2.1, a49.1.2.2.2.2.2.2.2.1, a49.1.2.2.2.2.2.2.2.2.1, a49.1.2.2.2.2.2.2.2.2.2.1, a49.2.2, a49.1.2.2.2.2.2.2.2.2.2.2.2), a49.2.1, a49.2.2)) else (M_X0_furnish_73 p rc49 (a49.1, a49.2.1, a49.2.2)))
def M_X0_furnish_49 (p : PT) : Nat → (HT × VT × Int32) → Option (HT × VT)
  | 0 => fun _ => none
  | k + 1 => M_X0_furnish_49b p (M_X0_furnish_49 p k)
def M_X0_furnish_6b (p : PT) (rc6 : HT × VT × Int32 → Option (HT × VT)) (a6 : HT × VT × Int32) : Option (HT × VT) :=
  (M_X0_cells a6.1).bind fun z8 => if z8 ≤ a6.2.2 then ((M_X0_open a6.1).bind fun z32 => (M_X0_open a6.1).bind fun z36 => (M_X8_cellOf (z32 &&& (-z36))).bind fun z41 => M_X0_furnish_49 p 200 ((a6.1.1, a6.1.2.1, a6.1.2.2.1, a6.1.2.2.2.1, a6.1.2.2.2.2.1, a6.1.2.2.2.2.2.1, a6.1.2.2.2.2.2.2.1, a6.1.2.2.2.2.2.2.2.1, a6.1.2.2.2.2.2.2.2.2.1, z41, a6.1.2.2.2.2.2.2.2.2.2.2.1, a6.1.2.2.2.2.2.2.2.2.2.2.2), a6.2.1, (0 : Int32))) else ((M_X2_signAt p a6.2.2).bind fun z18 => (M_X0_furnishCell a6.1 a6.2.2 z18).bind fun z21 => rc6 (z21, a6.2.1, (a6.2.2 + (1 : Int32))))
def M_X0_furnish_6 (p : PT) : Nat → (HT × VT × Int32) → Option (HT × VT)
  | 0 => fun _ => none
  | k + 1 => M_X0_furnish_6b p (M_X0_furnish_6 p k)
def M_X0_furnish (h : HT) (v : VT) (p : PT) : Option (HT × VT) :=
  (M_X0_clearCells h v).bind fun z1 => M_X0_furnish_6 p 200 (z1.1, z1.2, (0 : Int32))
def M_X0_isCell (h : HT) (x1 : Int32) : Option (Int32) :=
  if x1 < 0 then (some (0 : Int32)) else ((M_X0_cells h).bind fun z6 => if z6 ≤ x1 then (some (0 : Int32)) else (some (1 : Int32)))
def M_X0_moveDoor (h : HT) (x1 : Int32) : Option (Int32 × HT) :=
  some (h.2.2.2.2.2.2.2.2.2.1, (h.1, h.2.1, h.2.2.1, h.2.2.2.1, h.2.2.2.2.1, h.2.2.2.2.2.1, h.2.2.2.2.2.2.1, h.2.2.2.2.2.2.2.1, h.2.2.2.2.2.2.2.2.1, x1, h.2.2.2.2.2.2.2.2.2.2.1, h.2.2.2.2.2.2.2.2.2.2.2))
def M_X0_moveThing (h : HT) (x1 : Int32) : Option (Int32 × HT) :=
  some (h.2.2.2.2.2.2.2.2.2.2.1, (h.1, h.2.1, h.2.2.1, h.2.2.2.1, h.2.2.2.2.1, h.2.2.2.2.2.1, h.2.2.2.2.2.2.1, h.2.2.2.2.2.2.2.1, h.2.2.2.2.2.2.2.2.1, h.2.2.2.2.2.2.2.2.2.1, x1, h.2.2.2.2.2.2.2.2.2.2.2))
def M_X0_seenBy (h : HT) (v : VT) (x1 : Int32) : Option (Int32) :=
  (M_X4_cellOfOne v x1).bind fun z6 => (M_X4_lookingOf v x1).bind fun z14 => (M_X0_sightFrom h z6 z14).bind fun z17 => some z17
def M_X0_signOf (h : HT) (x1 : Int32) : Option (Int32) :=
  (M_X8_has h.2.2.2.2.2.1 x1).bind fun z5 => if z5 = 0 then ((M_X8_has h.2.2.2.2.2.2.1 x1).bind fun z19 => if z19 = 0 then ((M_X8_has h.2.2.2.2.2.2.2.1 x1).bind fun z33 => if z33 = 0 then ((M_X8_has h.2.2.2.2.2.2.2.2.1 x1).bind fun z47 => if z47 = 0 then (some (46 : Int32)) else (some (100 : Int32))) else (some (99 : Int32))) else (some (103 : Int32))) else (some (35 : Int32))
def M_X0_stepTo (h : HT) (x1 : Int32) (x2 : Int32) : Option (Int32) :=
  (M_X0_moved h x1 x2).bind fun z3 => (M_X0_open h).bind fun z7 => some (z3 &&& z7)
def M_X0_stepOrStay (h : HT) (x1 : Int32) (x2 : Int32) : Option (Int32) :=
  (M_X0_stepTo h x1 x2).bind fun z3 => if z3 = 0 then (some x1) else (some z3)
def M_X2_add (p : PT) (x1 : Int32) : Option (Int32 × PT) :=
  if p.1 < 0 then (some ((0 : Int32), p)) else (if p.1 < (nI 40) then (if vin p.1 40 then some ((1 : Int32), ((p.1 + (1 : Int32)), (upd p.2 p.1.toNatClampNeg (vp_nar .char x1)))) else none) else (some ((0 : Int32), p)))
def M_X2_clear (p : PT) : Option (Int32 × PT) :=
  some (p.1, ((0 : Int32), p.2))
def M_X2_firstWrong_2b (p : PT) (ks : Nat) (x2 : Int32) (rc2 : Int32 → Option (Int32)) (a2 : Int32) : Option (Int32) :=
  if p.1 ≤ a2 then (some (-6 : Int32)) else (if x2 ≤ a2 then (some a2) else ((M_X2_signAt p a2).bind fun z18 => if ks < 2 then (M_J0_indexOf_0f7a4 ks z18).bind fun z21 => if 0 ≤ z21 then (rc2 (a2 + (1 : Int32))) else (some a2) else none))
def M_X2_firstWrong_2 (p : PT) (ks : Nat) (x2 : Int32) : Nat → Int32 → Option (Int32)
  | 0 => fun _ => none
  | k + 1 => M_X2_firstWrong_2b p ks x2 (M_X2_firstWrong_2 p ks x2 k)
def M_X2_firstWrong (p : PT) (ks : Nat) (x2 : Int32) : Option (Int32) :=
  M_X2_firstWrong_2 p ks x2 200 (0 : Int32)
def M_X2_houseFault (p : PT) (x1 : Int32) : Option (Int32) :=
  (M_X2_firstWrong p 0 x1).bind fun z4 => if z4 = (-6 : Int32) then (if x1 ≤ p.1 then (some (-6 : Int32)) else (some p.1)) else (some z4)
def M_X2_isAll_2b (p : PT) (x1 : Int32) (rc2 : Int32 → Option (Int32)) (a2 : Int32) : Option (Int32) :=
  if p.1 ≤ a2 then (some (1 : Int32)) else ((M_X2_signAt p a2).bind fun z12 => if z12 = x1 then (rc2 (a2 + (1 : Int32))) else (some (0 : Int32)))
def M_X2_isAll_2 (p : PT) (x1 : Int32) : Nat → Int32 → Option (Int32)
  | 0 => fun _ => none
  | k + 1 => M_X2_isAll_2b p x1 (M_X2_isAll_2 p x1 k)
def M_X2_isAll (p : PT) (x1 : Int32) : Option (Int32) :=
  M_X2_isAll_2 p x1 200 (0 : Int32)
def M_X2_stepAt (p : PT) (x1 : Int32) : Option (Int32) :=
  (M_X2_signAt p x1).bind fun z4 => (M_J0_indexOf_0f7a4 1 z4).bind fun z7 => some z7
def M_X2_walkFault (p : PT) : Option (Int32) :=
  (M_X2_firstWrong p 1 (40 : Int32)).bind fun z5 => some z5
def M_X3_answer (d : DT) (x1 : Int32) : Option (Int32) :=
  if x1 = (1 : Int32) then (some d.2.1) else (if x1 = (2 : Int32) then (some d.2.2.1) else (if x1 = (3 : Int32) then (some d.2.2.2.1) else (if x1 = (4 : Int32) then (some d.2.2.2.2.1) else (some d.2.2.2.2.2.2))))
def M_X3_forget (d : DT) : Option (DT) :=
  some ((-6 : Int32), (-6 : Int32), (-6 : Int32), (-6 : Int32), (0 : Int32), (0 : Int32), (-6 : Int32))
def M_X6_begin_102 (h : HT) (v : VT) (rc26 : RT × Int32 → Option (RT)) (a102 : RT × Int32 × Int32 × Int32) : Option (RT) :=
  (M_X8_put 4 a102.1.2.2.2.2.2 a102.2.2.2 a102.2.2.1).bind fun z102 => rc26 ((a102.1.1, a102.1.2.1, a102.1.2.2.1, a102.1.2.2.2.1, a102.1.2.2.2.2.1, z102), (a102.2.1 + (1 : Int32)))
def M_X6_begin_26b (h : HT) (v : VT) (rc26 : RT × Int32 → Option (RT)) (a26 : RT × Int32) : Option (RT) :=
  if v.1 ≤ a26.2 then (some a26.1) else ((M_X4_cellOfOne v a26.2).bind fun z42 => (M_X0_seenBy h v a26.2).bind fun z53 => (M_X8_put 4 a26.1.2.2.2.1 a26.2 z53).bind fun z56 => (M_X0_around h z42 h.2.2.2.2.2.2.2.2.2.2.2).bind fun z70 => (M_X8_put 4 a26.1.2.2.2.2.1 a26.2 z70).bind fun z73 => (M_X4_hasDog v a26.2).bind fun z86 => if z86 = 0 then (M_X6_begin_102 h v rc26 ((a26.1.1, a26.1.2.1, a26.1.2.2.1, z56, z73, a26.1.2.2.2.2.2), a26.2, (0 : Int32), a26.2)) else ((M_X0_around h z42 (1 : Int32)).bind fun z95 => M_X6_begin_102 h v rc26 ((a26.1.1, a26.1.2.1, a26.1.2.2.1, z56, z73, a26.1.2.2.2.2.2), a26.2, z95, a26.2)))
def M_X6_begin_26 (h : HT) (v : VT) : Nat → (RT × Int32) → Option (RT)
  | 0 => fun _ => none
  | k + 1 => M_X6_begin_26b h v (M_X6_begin_26 h v k)
def M_X6_begin (r : RT) (h : HT) (v : VT) : Option (RT) :=
  (M_X8_bit h.2.2.2.2.2.2.2.2.2.1).bind fun z5 => if vp_nar .boolean (0 : Int32) = (0 : Int32) then M_X6_begin_26 h v 200 ((z5, z5, (0 : Int32), r.2.2.2.1, r.2.2.2.2.1, r.2.2.2.2.2), (0 : Int32)) else none
def M_X6_take_25 (h : HT) (x2 : Int32) (a25 : RT × Int32 × Int32) : Option (Int32 × RT) :=
  if vp_nar .boolean a25.2.2 = a25.2.2 then if a25.2.1 = 0 then (some ((0 : Int32), (a25.1.1, a25.1.2.1, a25.2.2, a25.1.2.2.2.1, a25.1.2.2.2.2.1, a25.1.2.2.2.2.2))) else (some ((1 : Int32), (a25.2.1, (a25.1.2.1 ||| a25.2.1), a25.2.2, a25.1.2.2.2.1, a25.1.2.2.2.2.1, a25.1.2.2.2.2.2))) else none
def M_X6_take_24 (h : HT) (x2 : Int32) (a24 : RT × Int32) : Option (Int32 × RT) :=
  M_X6_take_25 h x2 (a24.1, a24.2, (0 : Int32))
def M_X6_take (r : RT) (h : HT) (x2 : Int32) : Option (Int32 × RT) :=
  (M_X0_stepTo h r.1 x2).bind fun z6 => if z6 = 0 then (M_X6_take_24 h x2 (r, z6)) else (if x2 = (4 : Int32) then (M_X6_take_24 h x2 (r, z6)) else (M_X6_take_25 h x2 (r, z6, (1 : Int32))))
def M_X6_reasonTo_64 (r : RT) (h : HT) (x2 : Int32) (x3 : Int32) (a64 : Unit) : Option (Int32) :=
  (M_X8_at 4 r.2.2.2.1 x2).bind fun z78 => if ((r.2.1 &&& h.2.2.2.2.2.2.2.2.1) &&& z78) = 0 then ((M_X8_at 4 r.2.2.2.2.2 x2).bind fun z96 => if (r.1 &&& z96) = 0 then (some (0 : Int32)) else (some (4 : Int32))) else (some (3 : Int32))
def M_X6_reasonTo_34 (r : RT) (h : HT) (x2 : Int32) (x3 : Int32) (a34 : Unit) : Option (Int32) :=
  if r.2.2.1 = 0 then (M_X6_reasonTo_64 r h x2 x3 ()) else ((M_X8_at 4 r.2.2.2.2.1 x2).bind fun z55 => if ((r.1 &&& h.2.2.2.2.2.2.2.1) &&& z55) = 0 then (M_X6_reasonTo_64 r h x2 x3 ()) else (some (2 : Int32)))
def M_X6_reasonTo (r : RT) (h : HT) (x2 : Int32) (x3 : Int32) : Option (Int32) :=
  if x3 = 0 then (if r.2.2.1 = 0 then (M_X6_reasonTo_34 r h x2 x3 ()) else ((M_X8_at 4 r.2.2.2.1 x2).bind fun z25 => if ((r.1 &&& h.2.2.2.2.2.2.1) &&& z25) = 0 then (M_X6_reasonTo_34 r h x2 x3 ()) else (some (1 : Int32)))) else (M_X6_reasonTo_34 r h x2 x3 ())
def M_X6_firstShownTo_2b (r : RT) (h : HT) (v : VT) (x2 : Int32) (rc2 : Int32 → Option (Int32)) (a2 : Int32) : Option (Int32) :=
  if v.1 ≤ a2 then (some (-6 : Int32)) else ((M_X6_reasonTo r h a2 x2).bind fun z17 => if z17 = 0 then (rc2 (a2 + (1 : Int32))) else (some a2))
def M_X6_firstShownTo_2 (r : RT) (h : HT) (v : VT) (x2 : Int32) : Nat → Int32 → Option (Int32)
  | 0 => fun _ => none
  | k + 1 => M_X6_firstShownTo_2b r h v x2 (M_X6_firstShownTo_2 r h v x2 k)
def M_X6_firstShownTo (r : RT) (h : HT) (v : VT) (x2 : Int32) : Option (Int32) :=
  M_X6_firstShownTo_2 r h v x2 200 (0 : Int32)
def M_X3_note_48 (h : HT) (v : VT) (r : RT) (x3 : Int32) (a48 : DT) : Option (DT) :=
  (M_X6_firstShownTo r h v (1 : Int32)).bind fun z61 => if z61 = (-6 : Int32) then (some (a48.1, a48.2.1, a48.2.2.1, a48.2.2.2.1, (a48.2.2.2.2.1 + (1 : Int32)), (a48.2.2.2.2.2.1 + (1 : Int32)), a48.2.2.2.2.2.2)) else (some (a48.1, a48.2.1, a48.2.2.1, a48.2.2.2.1, (a48.2.2.2.2.1 + (1 : Int32)), a48.2.2.2.2.2.1, a48.2.2.2.2.2.2))
def M_X3_note (d : DT) (h : HT) (v : VT) (r : RT) (x3 : Int32) : Option (DT) :=
  (M_X6_firstShownTo r h v (0 : Int32)).bind fun z3 => if z3 = (-6 : Int32) then (some d) else (if d.2.1 = (-6 : Int32) then ((M_X6_reasonTo r h z3 (0 : Int32)).bind fun z42 => M_X3_note_48 h v r x3 (d.1, x3, z3, z42, d.2.2.2.2.1, d.2.2.2.2.2.1, d.2.2.2.2.2.2)) else (M_X3_note_48 h v r x3 d))
def M_X3_follow_12b (h : HT) (v : VT) (p : PT) (rc12 : DT × RT × Int32 → Option (DT × RT)) (a12 : DT × RT × Int32) : Option (DT × RT) :=
  if p.1 ≤ a12.2.2 then ((M_X8_cellOf a12.2.1.1).bind fun z61 => some ((a12.1.1, a12.1.2.1, a12.1.2.2.1, a12.1.2.2.2.1, a12.1.2.2.2.2.1, a12.1.2.2.2.2.2.1, z61), a12.2.1)) else ((M_X2_stepAt p a12.2.2).bind fun z26 => (M_X6_take a12.2.1 h z26).bind fun z29 => if z29.1 = 0 then (some ((a12.2.2, a12.1.2.1, a12.1.2.2.1, a12.1.2.2.2.1, a12.1.2.2.2.2.1, a12.1.2.2.2.2.2.1, a12.1.2.2.2.2.2.2), z29.2)) else ((M_X3_note a12.1 h v z29.2 a12.2.2).bind fun z47 => rc12 (z47, z29.2, (a12.2.2 + (1 : Int32)))))
def M_X3_follow_12 (h : HT) (v : VT) (p : PT) : Nat → (DT × RT × Int32) → Option (DT × RT)
  | 0 => fun _ => none
  | k + 1 => M_X3_follow_12b h v p (M_X3_follow_12 h v p k)
def M_X3_follow (d : DT) (h : HT) (v : VT) (p : PT) (r : RT) : Option (DT × RT) :=
  (M_X3_forget d).bind fun z1 => (M_X6_begin r h v).bind fun z6 => M_X3_follow_12 h v p 200 (z1, z6, (0 : Int32))
def M_X4_isOne (v : VT) (x1 : Int32) : Option (Int32) :=
  if x1 < 0 then (some (0 : Int32)) else (if v.1 ≤ x1 then (some (0 : Int32)) else (some (1 : Int32)))
def M_X5_cheapestBefore_51 (y : YT) (h : HT) (x2 : Int32) (x3 : Int32) (rc7 : Int32 × Int32 → Option (Int32)) (a51 : Int32 × Int32) : Option (Int32) :=
  rc7 (a51.1, (a51.2 + (1 : Int32)))
def M_X5_cheapestBefore_7b (y : YT) (h : HT) (x2 : Int32) (x3 : Int32) (rc7 : Int32 × Int32 → Option (Int32)) (a7 : Int32 × Int32) : Option (Int32) :=
  if (4 : Int32) ≤ a7.2 then (some a7.1) else ((M_X8_bit x2).bind fun z15 => (M_X0_stepTo h z15 a7.2).bind fun z20 => if (z20 &&& x3) = 0 then (M_X5_cheapestBefore_51 y h x2 x3 rc7 (a7.1, a7.2)) else ((M_X8_cellOf (z20 &&& x3)).bind fun z40 => (M_X8_at 16 y.2 z40).bind fun z43 => M_X5_cheapestBefore_51 y h x2 x3 rc7 ((if z43 < a7.1 then z43 else a7.1), a7.2)))
def M_X5_cheapestBefore_7 (y : YT) (h : HT) (x2 : Int32) (x3 : Int32) : Nat → (Int32 × Int32) → Option (Int32)
  | 0 => fun _ => none
  | k + 1 => M_X5_cheapestBefore_7b y h x2 x3 (M_X5_cheapestBefore_7 y h x2 x3 k)
def M_X5_cheapestBefore (y : YT) (h : HT) (x2 : Int32) (x3 : Int32) : Option (Int32) :=
  M_X5_cheapestBefore_7 y h x2 x3 200 ((16 : Int32), (0 : Int32))
def M_X5_costLayer_68 (h : HT) (x2 : Int32) (x3 : Int32) (rc3 : YT × Int32 → Option (YT)) (a68 : YT × Int32) : Option (YT) :=
  rc3 (a68.1, (a68.2 + (1 : Int32)))
def M_X5_costLayer_66 (h : HT) (x2 : Int32) (x3 : Int32) (rc3 : YT × Int32 → Option (YT)) (a66 : YT × Int32 × Int32 × Int32 × Int32) : Option (YT) :=
  if vin a66.2.2.2.2 16 then M_X5_costLayer_68 h x2 x3 rc3 ((a66.1.1, (upd a66.1.2 a66.2.2.2.2.toNatClampNeg (a66.2.2.2.1 + a66.2.2.1))), a66.2.1) else none
def M_X5_costLayer_3b (h : HT) (x2 : Int32) (x3 : Int32) (rc3 : YT × Int32 → Option (YT)) (a3 : YT × Int32) : Option (YT) :=
  if (nI 16) ≤ a3.2 then (some a3.1) else ((M_X8_at 16 a3.1.1 x2).bind fun z18 => (M_X8_has z18 a3.2).bind fun z23 => if z23 = 0 then (M_X5_costLayer_68 h x2 x3 rc3 (a3.1, a3.2)) else ((M_X8_at 16 a3.1.1 (x2 - (1 : Int32))).bind fun z46 => (M_X5_cheapestBefore a3.1 h a3.2 z46).bind fun z49 => (M_X8_has x3 a3.2).bind fun z55 => if z55 = 0 then (M_X5_costLayer_66 h x2 x3 rc3 (a3.1, a3.2, (0 : Int32), z49, a3.2)) else (M_X5_costLayer_66 h x2 x3 rc3 (a3.1, a3.2, (1 : Int32), z49, a3.2))))
def M_X5_costLayer_3 (h : HT) (x2 : Int32) (x3 : Int32) : Nat → (YT × Int32) → Option (YT)
  | 0 => fun _ => none
  | k + 1 => M_X5_costLayer_3b h x2 x3 (M_X5_costLayer_3 h x2 x3 k)
def M_X5_costLayer (y : YT) (h : HT) (x2 : Int32) (x3 : Int32) : Option (YT) :=
  M_X5_costLayer_3 h x2 x3 200 (y, (0 : Int32))
def M_X5_isCut_64 (h : HT) (x2 : Int32) (a64 : Int32) : Option (Int32) :=
  (M_X8_has a64 h.2.2.2.2.2.2.2.2.2.2.1).bind fun z69 => if z69 = 0 then (some (1 : Int32)) else (some (0 : Int32))
def M_X5_isCut_20b (h : HT) (x2 : Int32) (rc20 : Int32 × Int32 × Int32 → Option (Int32)) (a20 : Int32 × Int32 × Int32) : Option (Int32) :=
  if (16 : Int32) ≤ a20.2.2 then (M_X5_isCut_64 h x2 a20.2.1) else ((M_X8_has a20.2.1 h.2.2.2.2.2.2.2.2.2.2.1).bind fun z32 => if z32 = 0 then ((M_X0_spread h a20.2.1).bind fun z40 => if (z40 &&& a20.1) = a20.2.1 then (some (1 : Int32)) else (rc20 (a20.1, (z40 &&& a20.1), (a20.2.2 + (1 : Int32))))) else (M_X5_isCut_64 h x2 a20.2.1))
def M_X5_isCut_20 (h : HT) (x2 : Int32) : Nat → (Int32 × Int32 × Int32) → Option (Int32)
  | 0 => fun _ => none
  | k + 1 => M_X5_isCut_20b h x2 (M_X5_isCut_20 h x2 k)
def M_X5_isCut (h : HT) (x2 : Int32) : Option (Int32) :=
  (M_X0_open h).bind fun z1 => (M_X8_bit h.2.2.2.2.2.2.2.2.2.1).bind fun z13 => M_X5_isCut_20 h x2 200 ((z1 &&& (x2 ^^^ (-1 : Int32))), z13, (0 : Int32))
def M_X5_firstCut_87 (self : HT → Int32 → Int32 → Int32 → Option (Int32)) (h : HT) (x2 : Int32) (x3 : Int32) (x4 : Int32) (rc50 : Int32 × Int32 → Option (Int32)) (a87 : Int32 × Int32 × Int32) : Option (Int32) :=
  if a87.2.2 = (-6 : Int32) then (rc50 (a87.1, (a87.2.1 + (1 : Int32)))) else (some a87.2.2)
def M_X5_firstCut_50b (self : HT → Int32 → Int32 → Int32 → Option (Int32)) (h : HT) (x2 : Int32) (x3 : Int32) (x4 : Int32) (rc50 : Int32 × Int32 → Option (Int32)) (a50 : Int32 × Int32) : Option (Int32) :=
  if x3 ≤ a50.2 then (some (-6 : Int32)) else ((M_X8_has a50.1 a50.2).bind fun z60 => if z60 = 0 then (M_X5_firstCut_87 self h x2 x3 x4 rc50 (a50.1, a50.2, (-6 : Int32))) else ((M_X8_bit a50.2).bind fun z70 => (self h (x2 ||| z70) a50.2 (x4 - (1 : Int32))).bind fun z79 => M_X5_firstCut_87 self h x2 x3 x4 rc50 (a50.1, a50.2, z79)))
def M_X5_firstCut_50 (self : HT → Int32 → Int32 → Int32 → Option (Int32)) (h : HT) (x2 : Int32) (x3 : Int32) (x4 : Int32) : Nat → (Int32 × Int32) → Option (Int32)
  | 0 => fun _ => none
  | k + 1 => M_X5_firstCut_50b self h x2 x3 x4 (M_X5_firstCut_50 self h x2 x3 x4 k)
def M_X5_firstCutb (self : HT → Int32 → Int32 → Int32 → Option (Int32)) (h : HT) (x2 : Int32) (x3 : Int32) (x4 : Int32) : Option (Int32) :=
  if 0 < x4 then ((M_X0_open h).bind fun z20 => (M_X8_bit h.2.2.2.2.2.2.2.2.2.1).bind fun z27 => (M_X8_bit h.2.2.2.2.2.2.2.2.2.2.1).bind fun z37 => M_X5_firstCut_50 self h x2 x3 x4 200 (((z20 &&& (z27 ^^^ (-1 : Int32))) &&& (z37 ^^^ (-1 : Int32))), (x4 - (1 : Int32)))) else ((M_X5_isCut h x2).bind fun z6 => if z6 = 0 then (some (-6 : Int32)) else (some x2))
def M_X5_firstCut : Nat → HT → Int32 → Int32 → Int32 → Option (Int32)
  | 0 => fun _ _ _ _ => none
  | k + 1 => M_X5_firstCutb (M_X5_firstCut k)
def M_X5_fewestCut_24b (h : HT) (rc24 : Int32 → Option (Int32)) (a24 : Int32) : Option (Int32) :=
  if (4 : Int32) < a24 then (some (-6 : Int32)) else ((M_X5_firstCut 6 h (0 : Int32) (16 : Int32) a24).bind fun z34 => if z34 = (-6 : Int32) then (rc24 (a24 + (1 : Int32))) else (some z34))
def M_X5_fewestCut_24 (h : HT) : Nat → Int32 → Option (Int32)
  | 0 => fun _ => none
  | k + 1 => M_X5_fewestCut_24b h (M_X5_fewestCut_24 h k)
def M_X5_fewestCut (h : HT) : Option (Int32) :=
  (M_X0_around h h.2.2.2.2.2.2.2.2.2.1 (1 : Int32)).bind fun z6 => (M_X8_has z6 h.2.2.2.2.2.2.2.2.2.2.1).bind fun z13 => if z13 = 0 then (M_X5_fewestCut_24 h 200 (0 : Int32)) else (some (-6 : Int32))
def M_X5_fewestShowingSteps_90 (h : HT) (v : VT) (x2 : Int32) (a90 : YT × Int32 × Int32) : Option (Int32 × YT) :=
  some ((a90.2.2 + a90.2.1), a90.1)
def M_X5_fewestShowingSteps_29b (h : HT) (v : VT) (x2 : Int32) (rc29 : YT × Int32 × Int32 → Option (Int32 × YT)) (a29 : YT × Int32 × Int32) : Option (Int32 × YT) :=
  if x2 < a29.2.2 then ((M_X8_at 16 a29.1.1 (x2 - (1 : Int32))).bind fun z62 => (M_X5_cheapestBefore a29.1 h h.2.2.2.2.2.2.2.2.2.2.1 z62).bind fun z65 => (M_X8_has a29.2.1 h.2.2.2.2.2.2.2.2.2.2.1).bind fun z79 => if z79 = 0 then (M_X5_fewestShowingSteps_90 h v x2 (a29.1, (0 : Int32), ((2 : Int32) * z65))) else (M_X5_fewestShowingSteps_90 h v x2 (a29.1, (1 : Int32), ((2 : Int32) * z65)))) else ((M_X5_costLayer a29.1 h a29.2.2 a29.2.1).bind fun z40 => rc29 (z40, a29.2.1, (a29.2.2 + (1 : Int32))))
def M_X5_fewestShowingSteps_29 (h : HT) (v : VT) (x2 : Int32) : Nat → (YT × Int32 × Int32) → Option (Int32 × YT)
  | 0 => fun _ => none
  | k + 1 => M_X5_fewestShowingSteps_29b h v x2 (M_X5_fewestShowingSteps_29 h v x2 k)
def M_X5_fewestShowingSteps (y : YT) (h : HT) (v : VT) (x2 : Int32) : Option (Int32 × YT) :=
  if x2 = 0 then (some ((0 : Int32), y)) else ((M_X0_open h).bind fun z7 => (M_X0_bareCells h v).bind fun z11 => (M_J7_fill_53178 16 y.2 (0 : Int32)).bind fun z23 => M_X5_fewestShowingSteps_29 h v x2 200 ((y.1, z23), (z7 &&& (z11 ^^^ (-1 : Int32))), (1 : Int32)))
def M_X5_firstStepInto_2b (h : HT) (x2 : Int32) (x3 : Int32) (rc2 : Int32 → Option (Int32)) (a2 : Int32) : Option (Int32) :=
  if (4 : Int32) ≤ a2 then (some (-6 : Int32)) else ((M_X0_stepTo h x2 a2).bind fun z10 => if (z10 &&& x3) = 0 then (rc2 (a2 + (1 : Int32))) else (some a2))
def M_X5_firstStepInto_2 (h : HT) (x2 : Int32) (x3 : Int32) : Nat → Int32 → Option (Int32)
  | 0 => fun _ => none
  | k + 1 => M_X5_firstStepInto_2b h x2 x3 (M_X5_firstStepInto_2 h x2 x3 k)
def M_X5_firstStepInto (h : HT) (x2 : Int32) (x3 : Int32) : Option (Int32) :=
  M_X5_firstStepInto_2 h x2 x3 200 (0 : Int32)
def M_X5_measure_13b (h : HT) (x2 : Int32) (x3 : Int32) (x4 : Int32) (rc13 : YT × Int32 × Int32 × Int32 → Option (Int32 × YT)) (a13 : YT × Int32 × Int32 × Int32) : Option (Int32 × YT) :=
  if (nI 16) ≤ a13.2.2.2 then (some ((-6 : Int32), a13.1)) else (if vin a13.2.2.2 16 then if (a13.2.1 &&& x2) = 0 then ((M_X0_spread h a13.2.1).bind fun z45 => rc13 (((upd a13.1.1 a13.2.2.2.toNatClampNeg a13.2.1), a13.1.2), ((z45 &&& x4) &&& (a13.2.2.1 ^^^ (-1 : Int32))), (a13.2.2.1 ||| ((z45 &&& x4) &&& (a13.2.2.1 ^^^ (-1 : Int32)))), (a13.2.2.2 + (1 : Int32)))) else (some (a13.2.2.2, ((upd a13.1.1 a13.2.2.2.toNatClampNeg a13.2.1), a13.1.2))) else none)
def M_X5_measure_13 (h : HT) (x2 : Int32) (x3 : Int32) (x4 : Int32) : Nat → (YT × Int32 × Int32 × Int32) → Option (Int32 × YT)
  | 0 => fun _ => none
  | k + 1 => M_X5_measure_13b h x2 x3 x4 (M_X5_measure_13 h x2 x3 x4 k)
def M_X5_measure (y : YT) (h : HT) (x2 : Int32) (x3 : Int32) (x4 : Int32) : Option (Int32 × YT) :=
  M_X5_measure_13 h x2 x3 x4 200 (y, (x3 &&& x4), (x3 &&& x4), (0 : Int32))
def M_X5_stepOnWay_17b (h : HT) (x2 : Int32) (x3 : Int32) (x4 : Int32) (x5 : Int32) (rc17 : YT × Int32 × Int32 × Int32 → Option (Int32 × YT)) (a17 : YT × Int32 × Int32 × Int32) : Option (Int32 × YT) :=
  if a17.2.2.1 ≤ a17.2.2.2 then (some ((-6 : Int32), a17.1)) else ((M_X8_at 16 a17.1.1 ((a17.2.2.1 - a17.2.2.2) - (1 : Int32))).bind fun z38 => (M_X5_firstStepInto h a17.2.1 z38).bind fun z41 => if a17.2.2.2 = x5 then (some (z41, a17.1)) else ((M_X0_stepOrStay h a17.2.1 z41).bind fun z61 => rc17 (a17.1, z61, a17.2.2.1, (a17.2.2.2 + (1 : Int32)))))
def M_X5_stepOnWay_17 (h : HT) (x2 : Int32) (x3 : Int32) (x4 : Int32) (x5 : Int32) : Nat → (YT × Int32 × Int32 × Int32) → Option (Int32 × YT)
  | 0 => fun _ => none
  | k + 1 => M_X5_stepOnWay_17b h x2 x3 x4 x5 (M_X5_stepOnWay_17 h x2 x3 x4 x5 k)
def M_X5_stepOnWay (y : YT) (h : HT) (x2 : Int32) (x3 : Int32) (x4 : Int32) (x5 : Int32) : Option (Int32 × YT) :=
  (M_X5_measure y h x2 x3 x4).bind fun z9 => M_X5_stepOnWay_17 h x2 x3 x4 x5 200 (z9.2, x2, z9.1, (0 : Int32))
def M_X7_begin (q : QT) (x1 : Int32) : Option (QT) :=
  (M_J7_fill_53178 16 q.1 (0 : Int32)).bind fun z5 => (M_X8_put 16 z5 x1 (1 : Int32)).bind fun z14 => some (z14, q.2)
def M_X7_waysInto_45 (q : QT) (h : HT) (x2 : Int32) (rc5 : Int32 × Int32 → Option (Int32)) (a45 : Int32 × Int32 × Int32) : Option (Int32) :=
  rc5 ((a45.2.2 + a45.2.1), (a45.1 + (1 : Int32)))
def M_X7_waysInto_5b (q : QT) (h : HT) (x2 : Int32) (rc5 : Int32 × Int32 → Option (Int32)) (a5 : Int32 × Int32) : Option (Int32) :=
  if (5 : Int32) ≤ a5.2 then (some a5.1) else ((M_X8_bit x2).bind fun z13 => (M_X0_stepTo h z13 a5.2).bind fun z18 => if z18 = 0 then (M_X7_waysInto_45 q h x2 rc5 (a5.2, (0 : Int32), a5.1)) else ((M_X8_cellOf z18).bind fun z39 => (M_X8_at 16 q.2 z39).bind fun z42 => M_X7_waysInto_45 q h x2 rc5 (a5.2, z42, a5.1)))
def M_X7_waysInto_5 (q : QT) (h : HT) (x2 : Int32) : Nat → (Int32 × Int32) → Option (Int32)
  | 0 => fun _ => none
  | k + 1 => M_X7_waysInto_5b q h x2 (M_X7_waysInto_5 q h x2 k)
def M_X7_waysInto (q : QT) (h : HT) (x2 : Int32) : Option (Int32) :=
  M_X7_waysInto_5 q h x2 200 ((0 : Int32), (0 : Int32))
def M_X7_passMinute_49 (h : HT) (x2 : Int32) (rc17 : QT × Int32 → Option (QT)) (a49 : QT × Int32 × Int32 × Int32) : Option (QT) :=
  if vin a49.2.2.2 16 then rc17 (((upd a49.1.1 a49.2.2.2.toNatClampNeg a49.2.2.1), a49.1.2), (a49.2.1 + (1 : Int32))) else none
def M_X7_passMinute_17b (h : HT) (x2 : Int32) (rc17 : QT × Int32 → Option (QT)) (a17 : QT × Int32) : Option (QT) :=
  if (nI 16) ≤ a17.2 then (some a17.1) else ((M_X8_has x2 a17.2).bind fun z33 => if z33 = 0 then (M_X7_passMinute_49 h x2 rc17 (a17.1, a17.2, (0 : Int32), a17.2)) else ((M_X7_waysInto a17.1 h a17.2).bind fun z42 => M_X7_passMinute_49 h x2 rc17 (a17.1, a17.2, z42, a17.2)))
def M_X7_passMinute_17 (h : HT) (x2 : Int32) : Nat → (QT × Int32) → Option (QT)
  | 0 => fun _ => none
  | k + 1 => M_X7_passMinute_17b h x2 (M_X7_passMinute_17 h x2 k)
def M_X7_passMinute (q : QT) (h : HT) (x2 : Int32) : Option (QT) :=
  M_X7_passMinute_17 h x2 200 ((q.1, (va_cpy q.1 q.2 (0 : Int32).toNatClampNeg (0 : Int32).toNatClampNeg (16 : Int32).toNatClampNeg)), (0 : Int32))
def M_X7_possibleCells_31 (q : QT) (rc4 : Int32 × Int32 → Option (Int32)) (a31 : Int32 × Int32 × Int32) : Option (Int32) :=
  rc4 ((a31.2.2 ||| a31.2.1), (a31.1 + (1 : Int32)))
def M_X7_possibleCells_4b (q : QT) (rc4 : Int32 × Int32 → Option (Int32)) (a4 : Int32 × Int32) : Option (Int32) :=
  if (nI 16) ≤ a4.2 then (some a4.1) else (if vin a4.2 16 then if (q.1 a4.2.toNatClampNeg) ≤ 0 then (M_X7_possibleCells_31 q rc4 (a4.2, (0 : Int32), a4.1)) else ((M_X8_bit a4.2).bind fun z24 => M_X7_possibleCells_31 q rc4 (a4.2, z24, a4.1)) else none)
def M_X7_possibleCells_4 (q : QT) : Nat → (Int32 × Int32) → Option (Int32)
  | 0 => fun _ => none
  | k + 1 => M_X7_possibleCells_4b q (M_X7_possibleCells_4 q k)
def M_X7_possibleCells (q : QT) : Option (Int32) :=
  M_X7_possibleCells_4 q 200 ((0 : Int32), (0 : Int32))
def M_X7_walks_4b (q : QT) (rc4 : Int32 × Int32 → Option (Int32)) (a4 : Int32 × Int32) : Option (Int32) :=
  if (nI 16) ≤ a4.2 then (some a4.1) else (if vin a4.2 16 then rc4 ((a4.1 + (q.1 a4.2.toNatClampNeg)), (a4.2 + (1 : Int32))) else none)
def M_X7_walks_4 (q : QT) : Nat → (Int32 × Int32) → Option (Int32)
  | 0 => fun _ => none
  | k + 1 => M_X7_walks_4b q (M_X7_walks_4 q k)
def M_X7_walks (q : QT) : Option (Int32) :=
  M_X7_walks_4 q 200 ((0 : Int32), (0 : Int32))
def M_X8_bare (h : HT) (v : VT) : Option (Int32) :=
  (M_X0_bareCells h v).bind fun z4 => some z4
def M_X8_bareWith (h : HT) (x1 : Int32) (x2 : Int32) : Option (Int32) :=
  if ¬ (4 : Int32) = 0 then if ¬ (4 : Int32) = 0 then (M_X0_spoiledFrom h (x2 / (4 : Int32)) (x2 - x2 / (4 : Int32) * (4 : Int32)) (0 : Int32)).bind fun z12 => (M_J6_bitCount_0f7a4 (x1 &&& (z12 ^^^ (-1 : Int32)))).bind fun z18 => some z18 else none else none
def M_X8_bestPost_65 (h : HT) (x1 : Int32) (rc9 : Int32 × Int32 × Int32 → Option (Int32)) (a65 : Int32 × Int32 × Int32) : Option (Int32) :=
  rc9 (a65.1, a65.2.1, (a65.2.2 + (1 : Int32)))
def M_X8_bestPost_51 (h : HT) (x1 : Int32) (rc9 : Int32 × Int32 × Int32 → Option (Int32)) (a51 : Int32 × Int32 × Int32 × Int32) : Option (Int32) :=
  if a51.2.1 ≤ a51.2.2.2 then (M_X8_bestPost_65 h x1 rc9 (a51.1, a51.2.1, a51.2.2.1)) else (M_X8_bestPost_65 h x1 rc9 (a51.2.2.1, a51.2.2.2, a51.2.2.1))
def M_X8_bestPost_9b (h : HT) (x1 : Int32) (rc9 : Int32 × Int32 × Int32 → Option (Int32)) (a9 : Int32 × Int32 × Int32) : Option (Int32) :=
  (M_X0_cells h).bind fun z16 => if ((4 : Int32) * z16) ≤ a9.2.2 then (some a9.1) else (if ¬ (4 : Int32) = 0 then (M_X8_has h.2.2.2.2.2.1 (a9.2.2 / (4 : Int32))).bind fun z34 => if z34 = 0 then ((M_X8_bareWith h x1 a9.2.2).bind fun z48 => M_X8_bestPost_51 h x1 rc9 (a9.1, a9.2.1, a9.2.2, z48)) else (M_X8_bestPost_51 h x1 rc9 (a9.1, a9.2.1, a9.2.2, a9.2.1)) else none)
def M_X8_bestPost_9 (h : HT) (x1 : Int32) : Nat → (Int32 × Int32 × Int32) → Option (Int32)
  | 0 => fun _ => none
  | k + 1 => M_X8_bestPost_9b h x1 (M_X8_bestPost_9 h x1 k)
def M_X8_bestPost (h : HT) (x1 : Int32) : Option (Int32) :=
  M_X8_bestPost_9 h x1 200 ((-6 : Int32), (17 : Int32), (0 : Int32))
def M_X8_build (p : PT) (h : HT) (v : VT) : Option (Int32 × PT × HT × VT) :=
  (M_X0_cells h).bind fun z8 => (M_X2_houseFault p z8).bind fun z11 => if z11 = (-6 : Int32) then ((M_X2_isAll p (35 : Int32)).bind fun z28 => if z28 = 0 then ((M_X0_furnish h v p).bind fun z45 => (M_X2_clear p).bind fun z52 => (M_X0_open z45.1).bind fun z60 => (M_J6_bitCount_0f7a4 z60).bind fun z63 => some (z63, z52.2, z45.1, z45.2)) else (some ((-3 : Int32), p, h, v))) else (some ((-5 : Int32), p, h, v))
def M_X8_cell (h : HT) (x1 : Int32) : Option (Int32) :=
  (M_X0_isCell h x1).bind fun z5 => if z5 = 0 then (some (-1 : Int32)) else ((M_X0_signOf h x1).bind fun z16 => some z16)
def M_X8_dismiss (v : VT) : Option (Int32 × VT) :=
  (M_X4_clear v).bind fun z7 => some (z7.1, z7.2)
def M_X8_within (x1 : Int32) (x2 : Int32) (x3 : Int32) : Option (Int32) :=
  if x1 < x2 then (some (0 : Int32)) else (if x3 < x1 then (some (0 : Int32)) else (some (1 : Int32)))
def M_X8_ears (h : HT) (x1 : Int32) : Option (Int32 × HT) :=
  (M_X8_within x1 (0 : Int32) (6 : Int32)).bind fun z4 => if z4 = 0 then (some ((-2 : Int32), h)) else (some (h.2.2.2.2.2.2.2.2.2.2.2, (h.1, h.2.1, h.2.2.1, h.2.2.2.1, h.2.2.2.2.1, h.2.2.2.2.2.1, h.2.2.2.2.2.2.1, h.2.2.2.2.2.2.2.1, h.2.2.2.2.2.2.2.2.1, h.2.2.2.2.2.2.2.2.2.1, h.2.2.2.2.2.2.2.2.2.2.1, x1)))
def M_X8_fault (p : PT) (h : HT) (x1 : Int32) : Option (Int32) :=
  if x1 = 0 then ((M_X0_cells h).bind fun z12 => (M_X2_houseFault p z12).bind fun z15 => some z15) else (if x1 = (1 : Int32) then ((M_X2_walkFault p).bind fun z28 => some z28) else (some (-2 : Int32)))
def M_X8_stepTold_7b (x1 : Int32) (x2 : Int32) (x3 : Int32) (rc7 : Int32 × Int32 → Option (Int32)) (a7 : Int32 × Int32) : Option (Int32) :=
  if a7.2 ≤ x3 then (if ¬ (5 : Int32) = 0 then some (a7.1 - a7.1 / (5 : Int32) * (5 : Int32)) else none) else (if ¬ (5 : Int32) = 0 then rc7 ((a7.1 / (5 : Int32)), (a7.2 + (-1 : Int32))) else none)
def M_X8_stepTold_7 (x1 : Int32) (x2 : Int32) (x3 : Int32) : Nat → (Int32 × Int32) → Option (Int32)
  | 0 => fun _ => none
  | k + 1 => M_X8_stepTold_7b x1 x2 x3 (M_X8_stepTold_7 x1 x2 x3 k)
def M_X8_stepTold (x1 : Int32) (x2 : Int32) (x3 : Int32) : Option (Int32) :=
  M_X8_stepTold_7 x1 x2 x3 200 (x1, (x2 - (1 : Int32)))
def M_X8_firstMeeting_106 (p : PT) (h : HT) (x1 : Int32) (x2 : Int32) (rc39 : Int32 × Int32 × Int32 × Int32 → Option (Int32)) (a106 : Int32 × Int32 × Int32 × Int32) : Option (Int32) :=
  rc39 (a106.2.2.1, a106.2.2.2, a106.1, (a106.2.1 + (1 : Int32)))
def M_X8_firstMeeting_39b (p : PT) (h : HT) (x1 : Int32) (x2 : Int32) (rc39 : Int32 × Int32 × Int32 × Int32 → Option (Int32)) (a39 : Int32 × Int32 × Int32 × Int32) : Option (Int32) :=
  if a39.2.2.1 ≤ a39.2.2.2 then (some (-6 : Int32)) else ((M_X2_stepAt p a39.2.2.2).bind fun z57 => (M_X0_stepOrStay h a39.1 z57).bind fun z60 => (M_X8_stepTold x1 x2 a39.2.2.2).bind fun z75 => (M_X0_stepOrStay h a39.2.1 z75).bind fun z78 => if z60 = z78 then (some a39.2.2.2) else (if z60 = a39.2.1 then (if z78 = a39.1 then (some a39.2.2.2) else (M_X8_firstMeeting_106 p h x1 x2 rc39 (a39.2.2.1, a39.2.2.2, z60, z78))) else (M_X8_firstMeeting_106 p h x1 x2 rc39 (a39.2.2.1, a39.2.2.2, z60, z78))))
def M_X8_firstMeeting_39 (p : PT) (h : HT) (x1 : Int32) (x2 : Int32) : Nat → (Int32 × Int32 × Int32 × Int32) → Option (Int32)
  | 0 => fun _ => none
  | k + 1 => M_X8_firstMeeting_39b p h x1 x2 (M_X8_firstMeeting_39 p h x1 x2 k)
def M_X8_firstMeeting (p : PT) (h : HT) (x1 : Int32) (x2 : Int32) : Option (Int32) :=
  (M_X8_bit h.2.2.2.2.2.2.2.2.2.1).bind fun z7 => (M_X8_bit h.2.2.2.2.2.2.2.2.2.2.1).bind fun z18 => M_X8_firstMeeting_39 p h x1 x2 200 (z7, z18, (if p.1 < x2 then p.1 else x2), (0 : Int32))
def M_X8_flour (h : HT) (x1 : Int32) : Option (Int32) :=
  (M_X8_within x1 (0 : Int32) (1 : Int32)).bind fun z3 => if z3 = 0 then (some (-2 : Int32)) else ((M_X5_fewestCut h).bind fun z20 => if z20 = (-6 : Int32) then (some (-6 : Int32)) else (if x1 = 0 then ((M_J6_bitCount_0f7a4 z20).bind fun z38 => some z38) else (some z20)))
def M_X8_followWalk (p : PT) (h : HT) (v : VT) (r : RT) (d : DT) : Option (Int32 × RT × DT) :=
  (M_X2_walkFault p).bind fun z4 => if z4 = (-6 : Int32) then ((M_X3_follow d h v p r).bind fun z31 => if z31.1.1 = (-6 : Int32) then (some ((0 : Int32), z31.2, z31.1)) else (some ((-3 : Int32), z31.2, z31.1))) else (some ((-5 : Int32), r, d))
def M_X8_house (h : HT) (v : VT) (x1 : Int32) (x2 : Int32) : Option (Int32 × HT × VT) :=
  (M_X8_within x1 (1 : Int32) (4 : Int32)).bind fun z3 => if z3 = 0 then (some ((-2 : Int32), h, v)) else ((M_X8_within x2 (1 : Int32) (4 : Int32)).bind fun z12 => if z12 = 0 then (some ((-2 : Int32), h, v)) else ((M_X0_layOut h v x1 x2).bind fun z27 => (M_X0_cells z27.1).bind fun z34 => some (z34, z27.1, z27.2)))
def M_X8_image0 (h : HT) (v : VT) (k1 : Int32) (h1 : HT) (v1 : VT) (k2 : Int32) (h2 : HT) (v2 : VT) (x1 : Int32) : Option (Int32 × Int32 × HT × VT × Int32 × HT × VT) :=
  (M_X8_within x1 (0 : Int32) (1 : Int32)).bind fun z3 => if z3 = 0 then (some ((-2 : Int32), k1, h1, v1, k2, h2, v2)) else ((M_X0_copyFrom h1 v1 h v).bind fun z26 => if vp_nar .boolean (1 : Int32) = (1 : Int32) then some ((1 : Int32), (1 : Int32), z26.1, z26.2, k2, h2, v2) else none)
def M_X8_image1 (h : HT) (v : VT) (k1 : Int32) (h1 : HT) (v1 : VT) (k2 : Int32) (h2 : HT) (v2 : VT) (x1 : Int32) : Option (Int32 × Int32 × HT × VT × Int32 × HT × VT) :=
  (M_X8_within x1 (0 : Int32) (1 : Int32)).bind fun z3 => if z3 = 0 then (some ((-2 : Int32), k1, h1, v1, k2, h2, v2)) else ((M_X0_copyFrom h2 v2 h v).bind fun z26 => if vp_nar .boolean (1 : Int32) = (1 : Int32) then some ((1 : Int32), k1, h1, v1, (1 : Int32), z26.1, z26.2) else none)
def M_X8_judge (p : PT) (h : HT) (v : VT) (r : RT) (d : DT) (x1 : Int32) : Option (Int32 × RT × DT) :=
  (M_X8_within x1 (0 : Int32) (5 : Int32)).bind fun z3 => if z3 = 0 then (some ((-2 : Int32), r, d)) else ((M_X8_followWalk p h v r d).bind fun z13 => if z13.1 = (-5 : Int32) then (some ((-5 : Int32), z13.2.1, z13.2.2)) else (if x1 = 0 then (some (z13.2.2.1, z13.2.1, z13.2.2)) else (if z13.1 = (-3 : Int32) then (some ((-3 : Int32), z13.2.1, z13.2.2)) else ((M_X3_answer z13.2.2 x1).bind fun z54 => some (z54, z13.2.1, z13.2.2)))))
def M_X8_least (h : HT) (v : VT) (y : YT) (x1 : Int32) : Option (Int32 × YT) :=
  (M_X8_within x1 (0 : Int32) (1 : Int32)).bind fun z3 => if z3 = 0 then (some ((-2 : Int32), y)) else ((M_X8_bit h.2.2.2.2.2.2.2.2.2.2.1).bind fun z27 => (M_X8_bit h.2.2.2.2.2.2.2.2.2.1).bind fun z37 => (M_X0_open h).bind fun z44 => (M_X5_measure y h z27 z37 z44).bind fun z47 => if z47.1 = (-6 : Int32) then (some ((-6 : Int32), z47.2)) else (if x1 = (1 : Int32) then (some (((2 : Int32) * z47.1), z47.2)) else ((M_X5_fewestShowingSteps z47.2 h v z47.1).bind fun z80 => some (z80.1, z80.2))))
def M_X8_longPower_5b (x1 : Int32) (x2 : Int32) (rc5 : Int64 × Int32 → Option (Int64)) (a5 : Int64 × Int32) : Option (Int64) :=
  if x2 ≤ a5.2 then (some a5.1) else (rc5 ((a5.1 * x1.toInt64), (a5.2 + (1 : Int32))))
def M_X8_longPower_5 (x1 : Int32) (x2 : Int32) : Nat → (Int64 × Int32) → Option (Int64)
  | 0 => fun _ => none
  | k + 1 => M_X8_longPower_5b x1 x2 (M_X8_longPower_5 x1 x2 k)
def M_X8_longPower (x1 : Int32) (x2 : Int32) : Option (Int64) :=
  M_X8_longPower_5 x1 x2 200 ((1 : Int64), (0 : Int32))
def M_X8_power (x1 : Int32) (x2 : Int32) : Option (Int32) :=
  (M_X8_longPower x1 x2).bind fun z2 => some z2.toInt32
def M_X8_meet (p : PT) (h : HT) (v : VT) (r : RT) (d : DT) (x1 : Int32) (x2 : Int32) : Option (Int32 × RT × DT) :=
  (M_X8_within x2 (0 : Int32) (8 : Int32)).bind fun z4 => if z4 = 0 then (some ((-2 : Int32), r, d)) else ((M_X8_power (5 : Int32) x2).bind fun z14 => (M_X8_within x1 (0 : Int32) (z14 - (1 : Int32))).bind fun z19 => if z19 = 0 then (some ((-2 : Int32), r, d)) else ((M_X8_followWalk p h v r d).bind fun z29 => if z29.1 = 0 then ((M_X8_firstMeeting p h x1 x2).bind fun z40 => some (z40, z29.2.1, z29.2.2)) else (some (z29.1, z29.2.1, z29.2.2))))
def M_X8_night_109 (h : HT) (v : VT) (x1 : Int32) (x2 : Int32) (x3 : Int32) (rc53 : RT × Int32 × Int32 × Int32 → Option (Int32 × RT)) (a109 : RT × Int32 × Int32 × Int32) : Option (Int32 × RT) :=
  rc53 (a109.1, a109.2.1, a109.2.2.1, (a109.2.2.2 + (1 : Int32)))
def M_X8_night_53b (h : HT) (v : VT) (x1 : Int32) (x2 : Int32) (x3 : Int32) (rc53 : RT × Int32 × Int32 × Int32 → Option (Int32 × RT)) (a53 : RT × Int32 × Int32 × Int32) : Option (Int32 × RT) :=
  if x2 ≤ a53.2.2.2 then (if x3 = 0 then (some (a53.2.2.1, a53.1)) else (if x3 = (1 : Int32) then ((M_X8_cellOf a53.1.1).bind fun z134 => some (z134, a53.1)) else ((M_J6_bitCount_0f7a4 a53.1.2.1).bind fun z147 => some (z147, a53.1)))) else (if ¬ (65537 : Int32) = 0 then if ¬ (5 : Int32) = 0 then (M_X6_take a53.1 h (((((75 : Int32) * a53.2.1) + (74 : Int32)) - (((75 : Int32) * a53.2.1) + (74 : Int32)) / (65537 : Int32) * (65537 : Int32)) - ((((75 : Int32) * a53.2.1) + (74 : Int32)) - (((75 : Int32) * a53.2.1) + (74 : Int32)) / (65537 : Int32) * (65537 : Int32)) / (5 : Int32) * (5 : Int32))).bind fun z85 => (M_X6_firstShownTo z85.2 h v (0 : Int32)).bind fun z98 => if z98 = (-6 : Int32) then (M_X8_night_109 h v x1 x2 x3 rc53 (z85.2, ((((75 : Int32) * a53.2.1) + (74 : Int32)) - (((75 : Int32) * a53.2.1) + (74 : Int32)) / (65537 : Int32) * (65537 : Int32)), a53.2.2.1, a53.2.2.2)) else (M_X8_night_109 h v x1 x2 x3 rc53 (z85.2, ((((75 : Int32) * a53.2.1) + (74 : Int32)) - (((75 : Int32) * a53.2.1) + (74 : Int32)) / (65537 : Int32) * (65537 : Int32)), (a53.2.2.1 + (1 : Int32)), a53.2.2.2)) else none else none)
def M_X8_night_53 (h : HT) (v : VT) (x1 : Int32) (x2 : Int32) (x3 : Int32) : Nat → (RT × Int32 × Int32 × Int32) → Option (Int32 × RT)
  | 0 => fun _ => none
  | k + 1 => M_X8_night_53b h v x1 x2 x3 (M_X8_night_53 h v x1 x2 x3 k)
def M_X8_night (h : HT) (v : VT) (r : RT) (x1 : Int32) (x2 : Int32) (x3 : Int32) : Option (Int32 × RT) :=
  (M_X8_within x1 (0 : Int32) (9999 : Int32)).bind fun z5 => if z5 = 0 then (some ((-2 : Int32), r)) else ((M_X8_within x2 (0 : Int32) (99 : Int32)).bind fun z15 => if z15 = 0 then (some ((-2 : Int32), r)) else ((M_X8_within x3 (0 : Int32) (2 : Int32)).bind fun z24 => if z24 = 0 then (some ((-2 : Int32), r)) else ((M_X6_begin r h v).bind fun z47 => M_X8_night_53 h v x1 x2 x3 200 (z47, x1, (0 : Int32), (0 : Int32)))))
def M_X8_place (h : HT) (x1 : Int32) (x2 : Int32) : Option (Int32 × HT) :=
  (M_X0_isCell h x2).bind fun z5 => if z5 = 0 then (some ((-1 : Int32), h)) else ((M_X8_within x1 (0 : Int32) (1 : Int32)).bind fun z16 => if z16 = 0 then (some ((-2 : Int32), h)) else ((M_X8_has h.2.2.2.2.2.1 x2).bind fun z33 => if z33 = 0 then (if x1 = 0 then ((M_X0_moveDoor h x2).bind fun z51 => some (z51.1, z51.2)) else ((M_X0_moveThing h x2).bind fun z62 => some (z62.1, z62.2))) else (some ((-3 : Int32), h))))
def M_X8_post (h : HT) (v : VT) (x1 : Int32) : Option (Int32) :=
  (M_X8_within x1 (0 : Int32) (1 : Int32)).bind fun z3 => if z3 = 0 then (some (-2 : Int32)) else ((M_X4_isFull v).bind fun z19 => if z19 = 0 then ((M_X0_bareCells h v).bind fun z32 => (M_X8_bestPost h z32).bind fun z38 => if x1 = 0 then (some z38) else ((M_X8_bareWith h z32 z38).bind fun z53 => some z53)) else (some (-4 : Int32)))
def M_X8_powerOfTenths_35 (x1 : Int32) (x2 : Int32) (x3 : Int32) (a35 : Int32) : Option (Int64) :=
  (M_X8_longPower a35 x2).bind fun z36 => some z36
def M_X8_powerOfTenths_56 (x1 : Int32) (x2 : Int32) (x3 : Int32) (a56 : Int32) : Option (Int64) :=
  (M_X8_longPower a56 x2).bind fun z57 => some z57
def M_X8_powerOfTenths_40 (x1 : Int32) (x2 : Int32) (x3 : Int32) (rc3 : Int32 → Option (Int64)) (a40 : Int32) : Option (Int64) :=
  rc3 (a40 + (-1 : Int32))
def M_X8_powerOfTenths_3b (x1 : Int32) (x2 : Int32) (x3 : Int32) (rc3 : Int32 → Option (Int64)) (a3 : Int32) : Option (Int64) :=
  if a3 ≤ (1 : Int32) then (if x3 = 0 then (M_X8_powerOfTenths_56 x1 x2 x3 x1) else (M_X8_powerOfTenths_56 x1 x2 x3 (10 : Int32))) else (if ¬ a3 = 0 then if (x1 - x1 / a3 * a3) = 0 then (if ¬ a3 = 0 then if ((10 : Int32) - (10 : Int32) / a3 * a3) = 0 then (if x3 = 0 then (if ¬ a3 = 0 then M_X8_powerOfTenths_35 x1 x2 x3 (x1 / a3) else none) else (if ¬ a3 = 0 then M_X8_powerOfTenths_35 x1 x2 x3 ((10 : Int32) / a3) else none)) else (M_X8_powerOfTenths_40 x1 x2 x3 rc3 a3) else none) else (M_X8_powerOfTenths_40 x1 x2 x3 rc3 a3) else none)
def M_X8_powerOfTenths_3 (x1 : Int32) (x2 : Int32) (x3 : Int32) : Nat → Int32 → Option (Int64)
  | 0 => fun _ => none
  | k + 1 => M_X8_powerOfTenths_3b x1 x2 x3 (M_X8_powerOfTenths_3 x1 x2 x3 k)
def M_X8_powerOfTenths (x1 : Int32) (x2 : Int32) (x3 : Int32) : Option (Int64) :=
  M_X8_powerOfTenths_3 x1 x2 x3 200 (10 : Int32)
def M_X8_restore0 (h : HT) (v : VT) (k1 : Int32) (h1 : HT) (v1 : VT) (k2 : Int32) (h2 : HT) (v2 : VT) (x1 : Int32) : Option (Int32 × HT × VT) :=
  (M_X8_within x1 (0 : Int32) (1 : Int32)).bind fun z3 => if z3 = 0 then (some ((-2 : Int32), h, v)) else (if k1 = 0 then (some ((-3 : Int32), h, v)) else ((M_X0_copyFrom h v h1 v1).bind fun z36 => some ((1 : Int32), z36.1, z36.2)))
def M_X8_restore1 (h : HT) (v : VT) (k1 : Int32) (h1 : HT) (v1 : VT) (k2 : Int32) (h2 : HT) (v2 : VT) (x1 : Int32) : Option (Int32 × HT × VT) :=
  (M_X8_within x1 (0 : Int32) (1 : Int32)).bind fun z3 => if z3 = 0 then (some ((-2 : Int32), h, v)) else (if k2 = 0 then (some ((-3 : Int32), h, v)) else ((M_X0_copyFrom h v h2 v2).bind fun z36 => some ((1 : Int32), z36.1, z36.2)))
def M_X8_image (h : HT) (v : VT) (k1 : Int32) (h1 : HT) (v1 : VT) (k2 : Int32) (h2 : HT) (v2 : VT) (x1 : Int32) : Option (Int32 × Int32 × HT × VT × Int32 × HT × VT) := if x1 = 0 then M_X8_image0 h v k1 h1 v1 k2 h2 v2 x1 else M_X8_image1 h v k1 h1 v1 k2 h2 v2 x1
def M_X8_restore (h : HT) (v : VT) (k1 : Int32) (h1 : HT) (v1 : VT) (k2 : Int32) (h2 : HT) (v2 : VT) (x1 : Int32) : Option (Int32 × HT × VT) := if x1 = 0 then M_X8_restore0 h v k1 h1 v1 k2 h2 v2 x1 else M_X8_restore1 h v k1 h1 v1 k2 h2 v2 x1
def M_X8_signOfStep (x1 : Int32) : Option (Int32) :=
  (M_J0_length_8abf5 1).bind fun z5 => (M_X8_within x1 (0 : Int32) (z5 - (1 : Int32))).bind fun z10 => if z10 = 0 then (some (-6 : Int32)) else ((M_J0_charAt_5068e 1 x1).bind fun z20 => some z20)
def M_X8_safe_129 (h : HT) (v : VT) (x1 : Int32) (a129 : YT × Int32) : Option (Int32 × YT) :=
  (M_X8_signOfStep a129.2).bind fun z133 => some (z133, a129.1)
def M_X8_safe (h : HT) (v : VT) (y : YT) (x1 : Int32) : Option (Int32 × YT) :=
  (M_X8_bit h.2.2.2.2.2.2.2.2.2.1).bind fun z7 => (M_X8_bit h.2.2.2.2.2.2.2.2.2.2.1).bind fun z18 => (M_X0_bareCells h v).bind fun z26 => (M_X5_measure y h z7 z18 (z26 ||| z7)).bind fun z45 => if z45.1 = (-6 : Int32) then (some ((-6 : Int32), z45.2)) else (if x1 = (-1 : Int32) then (some (((2 : Int32) * z45.1), z45.2)) else (if x1 < 0 then (some ((-6 : Int32), z45.2)) else (if x1 < ((2 : Int32) * z45.1) then (if z45.1 ≤ x1 then ((M_X5_stepOnWay z45.2 h z18 z7 (z26 ||| z7) (x1 - z45.1)).bind fun z126 => M_X8_safe_129 h v x1 (z126.2, z126.1)) else ((M_X5_stepOnWay z45.2 h z7 z18 (z26 ||| z7) x1).bind fun z104 => M_X8_safe_129 h v x1 (z104.2, z104.1))) else (some ((-6 : Int32), z45.2)))))
def M_X8_say (p : PT) (x1 : Int32) : Option (Int32 × PT) :=
  (M_X8_within x1 (33 : Int32) (126 : Int32)).bind fun z5 => if z5 = 0 then (some ((-2 : Int32), p)) else ((M_X2_add p ((x1.toUInt32 % 65536).toInt32)).bind fun z20 => if z20.1 = 0 then (some ((-4 : Int32), z20.2)) else (some (z20.2.1, z20.2)))
def M_X8_sees (h : HT) (v : VT) (x1 : Int32) : Option (Int32) :=
  (M_X4_isOne v x1).bind fun z8 => if z8 = 0 then (some (-1 : Int32)) else ((M_X0_seenBy h v x1).bind fun z19 => some z19)
def M_X8_toldOfWatcher (v : VT) (x1 : Int32) (x2 : Int32) : Option (Int32) :=
  (M_X4_isOne v x1).bind fun z8 => if z8 = 0 then (some (-2 : Int32)) else (if x2 = (0 : Int32) then ((M_X4_cellOfOne v x1).bind fun z52 => some z52) else (if x2 = (1 : Int32) then ((M_X4_lookingOf v x1).bind fun z64 => some z64) else (if x2 = (2 : Int32) then ((M_X4_hasDog v x1).bind fun z76 => if z76 = 0 then (some (0 : Int32)) else (some (1 : Int32))) else (some (-2 : Int32)))))
def M_X8_told (p : PT) (h : HT) (v : VT) (x1 : Int32) : Option (Int32) :=
  if x1 = (0 : Int32) then (some p.1) else (if x1 = (1 : Int32) then (some h.1) else (if x1 = (2 : Int32) then (some h.2.1) else (if x1 = (3 : Int32) then (some h.2.2.2.2.2.2.2.2.2.1) else (if x1 = (4 : Int32) then (some h.2.2.2.2.2.2.2.2.2.2.1) else (if x1 = (5 : Int32) then (some v.1) else (if x1 = (6 : Int32) then (some h.2.2.2.2.2.2.2.2.2.2.2) else (if (10 : Int32) ≤ x1 then (if ¬ (10 : Int32) = 0 then if ¬ (10 : Int32) = 0 then (M_X8_toldOfWatcher v ((x1 / (10 : Int32)) - (1 : Int32)) (x1 - x1 / (10 : Int32) * (10 : Int32))).bind fun z125 => some z125 else none else none) else (some (-2 : Int32)))))))))
def M_X8_watch (h : HT) (v : VT) (x1 : Int32) (x2 : Int32) (x3 : Int32) : Option (Int32 × VT) :=
  (M_X0_isCell h x1).bind fun z5 => if z5 = 0 then (some ((-1 : Int32), v)) else ((M_X8_within x2 (0 : Int32) (3 : Int32)).bind fun z16 => if z16 = 0 then (some ((-2 : Int32), v)) else ((M_X8_has h.2.2.2.2.2.1 x1).bind fun z33 => if z33 = 0 then ((M_X4_add v x1 x2 x3).bind fun z52 => if z52.1 = 0 then (some ((-4 : Int32), z52.2)) else (some (z52.2.1, z52.2))) else (some ((-3 : Int32), v))))
def M_X8_where_103 (h : HT) (v : VT) (x1 : Int32) (x2 : Int32) (x3 : Int32) (rc63 : QT × Int32 × Int32 → Option (Int32 × QT)) (a103 : QT × Int32 × Int32 × Int32) : Option (Int32 × QT) :=
  (M_X7_passMinute a103.1 h a103.2.2.2).bind fun z103 => rc63 (z103, a103.2.1, (a103.2.2.1 + (1 : Int32)))
def M_X8_where_63b (h : HT) (v : VT) (x1 : Int32) (x2 : Int32) (x3 : Int32) (rc63 : QT × Int32 × Int32 → Option (Int32 × QT)) (a63 : QT × Int32 × Int32) : Option (Int32 × QT) :=
  if x2 ≤ a63.2.2 then (if x3 = 0 then ((M_X7_possibleCells a63.1).bind fun z120 => some (z120, a63.1)) else ((M_X7_walks a63.1).bind fun z130 => some (z130, a63.1))) else ((M_X8_has x1 a63.2.2).bind fun z80 => if z80 = 0 then (M_X8_where_103 h v x1 x2 x3 rc63 (a63.1, a63.2.1, a63.2.2, a63.2.1)) else ((M_X0_open h).bind fun z90 => M_X8_where_103 h v x1 x2 x3 rc63 (a63.1, a63.2.1, a63.2.2, (z90 &&& (a63.2.1 ^^^ (-1 : Int32))))))
def M_X8_where_63 (h : HT) (v : VT) (x1 : Int32) (x2 : Int32) (x3 : Int32) : Nat → (QT × Int32 × Int32) → Option (Int32 × QT)
  | 0 => fun _ => none
  | k + 1 => M_X8_where_63b h v x1 x2 x3 (M_X8_where_63 h v x1 x2 x3 k)
def M_X8_where (h : HT) (v : VT) (q : QT) (x1 : Int32) (x2 : Int32) (x3 : Int32) : Option (Int32 × QT) :=
  (M_X8_within x2 (0 : Int32) (8 : Int32)).bind fun z4 => if z4 = 0 then (some ((-2 : Int32), q)) else ((M_X8_power (2 : Int32) x2).bind fun z14 => (M_X8_within x1 (0 : Int32) (z14 - (1 : Int32))).bind fun z19 => if z19 = 0 then (some ((-2 : Int32), q)) else ((M_X8_within x3 (0 : Int32) (1 : Int32)).bind fun z28 => if z28 = 0 then (some ((-2 : Int32), q)) else ((M_X0_bareCells h v).bind fun z41 => (M_X7_begin q h.2.2.2.2.2.2.2.2.2.1).bind fun z57 => M_X8_where_63 h v x1 x2 x3 200 (z57, z41, (0 : Int32)))))
def M_X8_wind_19 (p : PT) (h : HT) (v : VT) (x1 : Int32) (x2 : Int32) (a19 : RT × DT) : Option (Int64 × RT × DT) :=
  some ((-1000000000000000002 : Int64), a19.1, a19.2)
def M_X8_wind (p : PT) (h : HT) (v : VT) (r : RT) (d : DT) (x1 : Int32) (x2 : Int32) : Option (Int64 × RT × DT) :=
  (M_X8_within x1 (0 : Int32) (10 : Int32)).bind fun z4 => if z4 = 0 then (M_X8_wind_19 p h v x1 x2 (r, d)) else ((M_X8_within x2 (0 : Int32) (1 : Int32)).bind fun z13 => if z13 = 0 then (M_X8_wind_19 p h v x1 x2 (r, d)) else ((M_X8_followWalk p h v r d).bind fun z24 => if z24.1 = 0 then (if z24.2.2.2.2.2.2.2.1 ≤ (12 : Int32) then (if z24.2.2.2.2.2.2.1 ≤ z24.2.2.2.2.2.2.2.1 then ((M_X8_powerOfTenths x1 z24.2.2.2.2.2.2.2.1 x2).bind fun z91 => some (z91, z24.2.1, z24.2.2)) else (if x2 = 0 then (some ((0 : Int64), z24.2.1, z24.2.2)) else (some ((1 : Int64), z24.2.1, z24.2.2)))) else (some ((-1000000000000000004 : Int64), z24.2.1, z24.2.2))) else (some (((-1000000000000000000 : Int64) + z24.1.toInt64), z24.2.1, z24.2.2))))
def M_X8_wipe (p : PT) : Option (Int32 × PT) :=
  (M_X2_clear p).bind fun z4 => some (z4.1, z4.2)
def M_X9_apart_52 (mb : BT) (x1 : Int32) (x2 : Int32) (a52 : Int32 × Int32) : Option (Int32) :=
  some (a52.2 + a52.1)
def M_X9_apart_39 (mb : BT) (x1 : Int32) (x2 : Int32) (a39 : Int32 × Int32) : Option (Int32) :=
  if 0 ≤ a39.1 then (M_X9_apart_52 mb x1 x2 (a39.1, a39.2)) else (M_X9_apart_52 mb x1 x2 ((-a39.1), a39.2))
def M_X9_apart (mb : BT) (x1 : Int32) (x2 : Int32) : Option (Int32) :=
  if ¬ mb.2.1 = 0 then if ¬ mb.2.1 = 0 then if ¬ mb.2.1 = 0 then if ¬ mb.2.1 = 0 then if 0 ≤ ((x1 / mb.2.1) - (x2 / mb.2.1)) then (M_X9_apart_39 mb x1 x2 (((x1 - x1 / mb.2.1 * mb.2.1) - (x2 - x2 / mb.2.1 * mb.2.1)), ((x1 / mb.2.1) - (x2 / mb.2.1)))) else (M_X9_apart_39 mb x1 x2 (((x1 - x1 / mb.2.1 * mb.2.1) - (x2 - x2 / mb.2.1 * mb.2.1)), (-((x1 / mb.2.1) - (x2 / mb.2.1))))) else none else none else none else none
def M_X9_arrive_40 (mb : BT) (x1 : Int32) (a40 : NT × Int32 × Int32) : Option (NT) :=
  some (a40.1.1, a40.1.2.1, (a40.2.2 ||| a40.2.1), a40.1.2.2.2)
def M_X9_arrive (mb : BT) (mn : NT) (x1 : Int32) : Option (NT) :=
  if vin x1 16 then if (mb.2.2.2.2.2.2.1 x1.toNatClampNeg) = (100 : Int32) then (M_X9_arrive_40 mb x1 ((x1, mn.2.1, mn.2.2.1, (mn.2.2.2 ||| ((1 : Int32) <<< (x1 &&& 31)))), ((1 : Int32) <<< (x1 &&& 31)), mn.2.2.1)) else (M_X9_arrive_40 mb x1 ((x1, mn.2.1, mn.2.2.1, (mn.2.2.2 ||| ((1 : Int32) <<< (x1 &&& 31)))), (0 : Int32), mn.2.2.1)) else none
def M_X9_cells (mb : BT) : Option (Int32) :=
  some (mb.1 * mb.2.1)
def M_X9_isWall (mb : BT) (x1 : Int32) : Option (Int32) :=
  if vin x1 16 then if (mb.2.2.2.2.2.2.1 x1.toNatClampNeg) = (35 : Int32) then (some (1 : Int32)) else (some (0 : Int32)) else none
def M_X9_in (x1 : Int64) (x2 : Int64) (x3 : Int64) : Option (Int32) :=
  if (lg_cmp x1 x2) < 0 then (some (0 : Int32)) else (if 0 < (lg_cmp x1 x3) then (some (0 : Int32)) else (some (1 : Int32)))
def M_X9_beyond_92 (mb : BT) (x1 : Int32) (x2 : Int32) (a92 : Int32 × Int32 × Int32) : Option (Int32) :=
  if a92.2.2 = 0 then (some (-6 : Int32)) else ((M_X9_isWall mb ((a92.1 * mb.2.1) + a92.2.1)).bind fun z109 => if z109 = 0 then (some ((a92.1 * mb.2.1) + a92.2.1)) else (some (-6 : Int32)))
def M_X9_beyond_91 (mb : BT) (x1 : Int32) (x2 : Int32) (a91 : Int32 × Int32) : Option (Int32) :=
  M_X9_beyond_92 mb x1 x2 (a91.1, a91.2, (0 : Int32))
def M_X9_beyond_51 (mb : BT) (x1 : Int32) (x2 : Int32) (a51 : Int32 × Int32 × Int32) : Option (Int32) :=
  (M_X9_in a51.1.toInt64 (0 : Int64) ((mb.1 - (1 : Int32)).toInt64)).bind fun z64 => if z64 = 0 then (M_X9_beyond_91 mb x1 x2 (a51.1, (a51.2.2 + a51.2.1))) else ((M_X9_in ((a51.2.2 + a51.2.1).toInt64) (0 : Int64) ((mb.2.1 - (1 : Int32)).toInt64)).bind fun z81 => if z81 = 0 then (M_X9_beyond_91 mb x1 x2 (a51.1, (a51.2.2 + a51.2.1))) else (M_X9_beyond_92 mb x1 x2 (a51.1, (a51.2.2 + a51.2.1), (1 : Int32))))
def M_X9_beyond_24 (mb : BT) (x1 : Int32) (x2 : Int32) (a24 : Int32 × Int32) : Option (Int32) :=
  if ¬ mb.2.1 = 0 then if x2 = (1 : Int32) then (M_X9_beyond_51 mb x1 x2 ((a24.2 + a24.1), (1 : Int32), (x1 - x1 / mb.2.1 * mb.2.1))) else (if x2 = (3 : Int32) then (M_X9_beyond_51 mb x1 x2 ((a24.2 + a24.1), (-1 : Int32), (x1 - x1 / mb.2.1 * mb.2.1))) else (M_X9_beyond_51 mb x1 x2 ((a24.2 + a24.1), (0 : Int32), (x1 - x1 / mb.2.1 * mb.2.1)))) else none
def M_X9_beyond (mb : BT) (x1 : Int32) (x2 : Int32) : Option (Int32) :=
  if ¬ mb.2.1 = 0 then if x2 = 0 then (M_X9_beyond_24 mb x1 x2 ((-1 : Int32), (x1 / mb.2.1))) else (if x2 = (2 : Int32) then (M_X9_beyond_24 mb x1 x2 ((1 : Int32), (x1 / mb.2.1))) else (M_X9_beyond_24 mb x1 x2 ((0 : Int32), (x1 / mb.2.1)))) else none
def M_X9_seenFrom_5b (mb : BT) (x1 : Int32) (x2 : Int32) (rc5 : Int32 × Int32 → Option (Int32)) (a5 : Int32 × Int32) : Option (Int32) :=
  if a5.2 < 0 then (some a5.1) else ((M_X9_beyond mb a5.2 x2).bind fun z21 => rc5 ((a5.1 ||| ((1 : Int32) <<< (a5.2 &&& 31))), z21))
def M_X9_seenFrom_5 (mb : BT) (x1 : Int32) (x2 : Int32) : Nat → (Int32 × Int32) → Option (Int32)
  | 0 => fun _ => none
  | k + 1 => M_X9_seenFrom_5b mb x1 x2 (M_X9_seenFrom_5 mb x1 x2 k)
def M_X9_seenFrom (mb : BT) (x1 : Int32) (x2 : Int32) : Option (Int32) :=
  M_X9_seenFrom_5 mb x1 x2 200 ((0 : Int32), x1)
def M_X9_seenBy (mb : BT) (x1 : Int32) : Option (Int32) :=
  if vin x1 4 then if vin x1 4 then (M_X9_seenFrom mb (mb.2.2.2.2.2.2.2.1 x1.toNatClampNeg) (mb.2.2.2.2.2.2.2.2.1 x1.toNatClampNeg)).bind fun z13 => some z13 else none else none
def M_X9_isBare_146 (mb : BT) (x1 : Int32) (rc16 : Int32 × Int32 → Option (Int32)) (a146 : Int32 × Int32) : Option (Int32) :=
  rc16 (a146.2, (a146.1 + (1 : Int32)))
def M_X9_isBare_145 (mb : BT) (x1 : Int32) (rc16 : Int32 × Int32 → Option (Int32)) (a145 : Int32) : Option (Int32) :=
  M_X9_isBare_146 mb x1 rc16 (a145, (0 : Int32))
def M_X9_isBare_130 (mb : BT) (x1 : Int32) (rc16 : Int32 × Int32 → Option (Int32)) (a130 : Int32 × Int32 × Int32) : Option (Int32) :=
  if a130.1 = 0 then (M_X9_isBare_145 mb x1 rc16 a130.2.1) else (if a130.2.2 = 0 then (M_X9_isBare_146 mb x1 rc16 (a130.2.1, (1 : Int32))) else (M_X9_isBare_145 mb x1 rc16 a130.2.1))
def M_X9_isBare_125 (mb : BT) (x1 : Int32) (rc16 : Int32 × Int32 → Option (Int32)) (a125 : Int32 × Int32) : Option (Int32) :=
  M_X9_isBare_130 mb x1 rc16 (a125.1, a125.2, (1 : Int32))
def M_X9_isBare_129 (mb : BT) (x1 : Int32) (rc16 : Int32 × Int32 → Option (Int32)) (a129 : Int32 × Int32) : Option (Int32) :=
  M_X9_isBare_130 mb x1 rc16 (a129.1, a129.2, (0 : Int32))
def M_X9_isBare_100 (mb : BT) (x1 : Int32) (rc16 : Int32 × Int32 → Option (Int32)) (a100 : Int32 × Int32) : Option (Int32) :=
  if vin a100.2 4 then if (mb.2.2.2.2.2.2.2.2.2 a100.2.toNatClampNeg) = (1 : Int32) then (if vin a100.2 4 then (M_X9_apart mb x1 (mb.2.2.2.2.2.2.2.1 a100.2.toNatClampNeg)).bind fun z118 => if (1 : Int32) < z118 then (M_X9_isBare_129 mb x1 rc16 (a100.1, a100.2)) else (M_X9_isBare_125 mb x1 rc16 (a100.1, a100.2)) else none) else (M_X9_isBare_129 mb x1 rc16 (a100.1, a100.2)) else none
def M_X9_isBare_71 (mb : BT) (x1 : Int32) (rc16 : Int32 × Int32 → Option (Int32)) (a71 : Int32 × Int32) : Option (Int32) :=
  if vin x1 16 then if (mb.2.2.2.2.2.2.1 x1.toNatClampNeg) = (99 : Int32) then (if vin a71.2 4 then (M_X9_apart mb x1 (mb.2.2.2.2.2.2.2.1 a71.2.toNatClampNeg)).bind fun z90 => if z90 ≤ mb.2.2.2.2.2.1 then (M_X9_isBare_125 mb x1 rc16 (a71.1, a71.2)) else (M_X9_isBare_100 mb x1 rc16 (a71.1, a71.2)) else none) else (M_X9_isBare_100 mb x1 rc16 (a71.1, a71.2)) else none
def M_X9_isBare_42 (mb : BT) (x1 : Int32) (rc16 : Int32 × Int32 → Option (Int32)) (a42 : Int32 × Int32 × Int32) : Option (Int32) :=
  if a42.2.2 = 0 then (M_X9_isBare_71 mb x1 rc16 (a42.1, a42.2.1)) else (if vin x1 16 then if (mb.2.2.2.2.2.2.1 x1.toNatClampNeg) = (103 : Int32) then (M_X9_isBare_125 mb x1 rc16 (a42.1, a42.2.1)) else (if vin x1 16 then if (mb.2.2.2.2.2.2.1 x1.toNatClampNeg) = (100 : Int32) then (M_X9_isBare_125 mb x1 rc16 (a42.1, a42.2.1)) else (M_X9_isBare_71 mb x1 rc16 (a42.1, a42.2.1)) else none) else none)
def M_X9_isBare_16b (mb : BT) (x1 : Int32) (rc16 : Int32 × Int32 → Option (Int32)) (a16 : Int32 × Int32) : Option (Int32) :=
  if mb.2.2.2.2.1 ≤ a16.2 then (if vp_nar .boolean a16.1 = a16.1 then some a16.1 else none) else ((M_X9_seenBy mb a16.2).bind fun z26 => if ((z26 >>> (x1 &&& 31)) &&& (1 : Int32)) = (1 : Int32) then (M_X9_isBare_42 mb x1 rc16 (a16.1, a16.2, (1 : Int32))) else (M_X9_isBare_42 mb x1 rc16 (a16.1, a16.2, (0 : Int32))))
def M_X9_isBare_16 (mb : BT) (x1 : Int32) : Nat → (Int32 × Int32) → Option (Int32)
  | 0 => fun _ => none
  | k + 1 => M_X9_isBare_16b mb x1 (M_X9_isBare_16 mb x1 k)
def M_X9_isBare_13 (mb : BT) (x1 : Int32) (a13 : Int32) : Option (Int32) :=
  M_X9_isBare_16 mb x1 200 (a13, (0 : Int32))
def M_X9_isBare (mb : BT) (x1 : Int32) : Option (Int32) :=
  (M_X9_isWall mb x1).bind fun z2 => if z2 = 0 then (M_X9_isBare_13 mb x1 (1 : Int32)) else (M_X9_isBare_13 mb x1 (0 : Int32))
def M_X9_bare_28 (mb : BT) (rc4 : Int32 × Int32 → Option (Int32)) (a28 : Int32 × Int32 × Int32) : Option (Int32) :=
  rc4 ((a28.2.2 ||| a28.2.1), (a28.1 + (1 : Int32)))
def M_X9_bare_4b (mb : BT) (rc4 : Int32 × Int32 → Option (Int32)) (a4 : Int32 × Int32) : Option (Int32) :=
  (M_X9_cells mb).bind fun z6 => if z6 ≤ a4.2 then (some a4.1) else ((M_X9_isBare mb a4.2).bind fun z15 => if z15 = 0 then (M_X9_bare_28 mb rc4 (a4.2, (0 : Int32), a4.1)) else (M_X9_bare_28 mb rc4 (a4.2, ((1 : Int32) <<< (a4.2 &&& 31)), a4.1)))
def M_X9_bare_4 (mb : BT) : Nat → (Int32 × Int32) → Option (Int32)
  | 0 => fun _ => none
  | k + 1 => M_X9_bare_4b mb (M_X9_bare_4 mb k)
def M_X9_bare (mb : BT) : Option (Int32) :=
  M_X9_bare_4 mb 200 ((0 : Int32), (0 : Int32))
def M_X9_begin (mb : BT) (mn : NT) : Option (NT) :=
  if vp_nar .boolean (0 : Int32) = (0 : Int32) then (M_X9_arrive mb (mn.1, (0 : Int32), (0 : Int32), (0 : Int32)) mb.2.2.1).bind fun z20 => some z20 else none
def M_X9_isSort (x1 : Int32) : Option (Int32) :=
  if x1 = (46 : Int32) then (some (1 : Int32)) else (if x1 = (103 : Int32) then (some (1 : Int32)) else (if x1 = (99 : Int32) then (some (1 : Int32)) else (if x1 = (100 : Int32) then (some (1 : Int32)) else (if x1 = (35 : Int32) then (some (1 : Int32)) else (some (0 : Int32))))))
def M_X9_isStep (x1 : Int32) : Option (Int32) :=
  if x1 = (110 : Int32) then (some (1 : Int32)) else (if x1 = (101 : Int32) then (some (1 : Int32)) else (if x1 = (115 : Int32) then (some (1 : Int32)) else (if x1 = (119 : Int32) then (some (1 : Int32)) else (if x1 = (45 : Int32) then (some (1 : Int32)) else (some (0 : Int32))))))
def M_X9_fault_64 (mb : BT) (mo : OT) (x1 : Int32) (rc15 : Int32 → Option (Int32)) (a64 : Int32 × Int32) : Option (Int32) :=
  if a64.2 = 0 then (some a64.1) else (rc15 (a64.1 + (1 : Int32)))
def M_X9_fault_51 (mb : BT) (mo : OT) (x1 : Int32) (rc15 : Int32 → Option (Int32)) (a51 : Int32) : Option (Int32) :=
  M_X9_fault_64 mb mo x1 rc15 (a51, (0 : Int32))
def M_X9_fault_15b (mb : BT) (mo : OT) (x1 : Int32) (rc15 : Int32 → Option (Int32)) (a15 : Int32) : Option (Int32) :=
  if mo.1 ≤ a15 then (if x1 = 0 then ((M_X9_cells mb).bind fun z86 => if z86 ≤ mo.1 then (some (-6 : Int32)) else (some mo.1)) else (some (-6 : Int32))) else (if x1 = 0 then ((M_X9_cells mb).bind fun z29 => if z29 ≤ a15 then (M_X9_fault_51 mb mo x1 rc15 a15) else (if vin a15 40 then (M_X9_isSort (mo.2 a15.toNatClampNeg)).bind fun z41 => if z41 = 0 then (M_X9_fault_51 mb mo x1 rc15 a15) else (M_X9_fault_64 mb mo x1 rc15 (a15, (1 : Int32))) else none)) else (if vin a15 40 then (M_X9_isStep (mo.2 a15.toNatClampNeg)).bind fun z61 => M_X9_fault_64 mb mo x1 rc15 (a15, z61) else none))
def M_X9_fault_15 (mb : BT) (mo : OT) (x1 : Int32) : Nat → Int32 → Option (Int32)
  | 0 => fun _ => none
  | k + 1 => M_X9_fault_15b mb mo x1 (M_X9_fault_15 mb mo x1 k)
def M_X9_fault (mb : BT) (mo : OT) (x1 : Int32) : Option (Int32) :=
  (M_X9_in x1.toInt64 (0 : Int64) (1 : Int64)).bind fun z4 => if z4 = 0 then (some (-2 : Int32)) else (M_X9_fault_15 mb mo x1 200 (0 : Int32))
def M_X9_build_76b  (rc76 : BT × OT × Int32 × Int32 × Int32 × Int32 → Option (Int32 × BT × OT)) (a76 : BT × OT × Int32 × Int32 × Int32 × Int32) : Option (Int32 × BT × OT) :=
  if a76.2.1.1 ≤ a76.2.2.2.2.2 then (some (a76.2.2.1, (a76.1.1, a76.1.2.1, a76.2.2.2.1, a76.2.2.2.2.1, (0 : Int32), a76.1.2.2.2.2.2.1, a76.1.2.2.2.2.2.2.1, a76.1.2.2.2.2.2.2.2.1, a76.1.2.2.2.2.2.2.2.2.1, a76.1.2.2.2.2.2.2.2.2.2), ((0 : Int32), a76.2.1.2))) else (if vin a76.2.2.2.2.2 40 then if vin a76.2.2.2.2.2 16 then rc76 ((a76.1.1, a76.1.2.1, a76.1.2.2.1, a76.1.2.2.2.1, a76.1.2.2.2.2.1, a76.1.2.2.2.2.2.1, (upd a76.1.2.2.2.2.2.2.1 a76.2.2.2.2.2.toNatClampNeg (a76.2.1.2 a76.2.2.2.2.2.toNatClampNeg)), a76.1.2.2.2.2.2.2.2.1, a76.1.2.2.2.2.2.2.2.2.1, a76.1.2.2.2.2.2.2.2.2.2), a76.2.1, a76.2.2.1, a76.2.2.2.1, a76.2.2.2.2.1, (a76.2.2.2.2.2 + (1 : Int32))) else none else none)
def M_X9_build_76  : Nat → (BT × OT × Int32 × Int32 × Int32 × Int32) → Option (Int32 × BT × OT)
  | 0 => fun _ => none
  | k + 1 => M_X9_build_76b  (M_X9_build_76  k)
def M_X9_build_60 (rc22 : BT × OT × Int32 × Int32 × Int32 × Int32 → Option (Int32 × BT × OT)) (a60 : BT × OT × Int32 × Int32 × Int32 × Int32) : Option (Int32 × BT × OT) :=
  rc22 (a60.1, a60.2.1, a60.2.2.1, a60.2.2.2.1, a60.2.2.2.2.1, (a60.2.2.2.2.2 + (1 : Int32)))
def M_X9_build_56 (rc22 : BT × OT × Int32 × Int32 × Int32 × Int32 → Option (Int32 × BT × OT)) (a56 : BT × OT × Int32 × Int32 × Int32) : Option (Int32 × BT × OT) :=
  M_X9_build_60 rc22 (a56.1, a56.2.1, a56.2.2.1, a56.2.2.2.2, a56.2.2.2.1, a56.2.2.2.1)
def M_X9_build_22b  (rc22 : BT × OT × Int32 × Int32 × Int32 × Int32 → Option (Int32 × BT × OT)) (a22 : BT × OT × Int32 × Int32 × Int32 × Int32) : Option (Int32 × BT × OT) :=
  if a22.2.1.1 ≤ a22.2.2.2.2.2 then (if a22.2.2.1 = 0 then (some ((-3 : Int32), a22.1, a22.2.1)) else (M_X9_build_76  200 (a22.1, a22.2.1, a22.2.2.1, a22.2.2.2.1, a22.2.2.2.2.1, (0 : Int32)))) else (if vin a22.2.2.2.2.2 40 then if (a22.2.1.2 a22.2.2.2.2.2.toNatClampNeg) = (35 : Int32) then (M_X9_build_60 rc22 (a22.1, a22.2.1, a22.2.2.1, a22.2.2.2.1, a22.2.2.2.2.1, a22.2.2.2.2.2)) else (if 0 ≤ a22.2.2.2.1 then (M_X9_build_56 rc22 (a22.1, a22.2.1, (a22.2.2.1 + (1 : Int32)), a22.2.2.2.2.2, a22.2.2.2.1)) else (M_X9_build_56 rc22 (a22.1, a22.2.1, (a22.2.2.1 + (1 : Int32)), a22.2.2.2.2.2, a22.2.2.2.2.2))) else none)
def M_X9_build_22  : Nat → (BT × OT × Int32 × Int32 × Int32 × Int32) → Option (Int32 × BT × OT)
  | 0 => fun _ => none
  | k + 1 => M_X9_build_22b  (M_X9_build_22  k)
def M_X9_build (mb : BT) (mo : OT) : Option (Int32 × BT × OT) :=
  (M_X9_fault mb mo (0 : Int32)).bind fun z2 => if z2 < 0 then (M_X9_build_22  200 (mb, mo, (0 : Int32), (-6 : Int32), (-6 : Int32), (0 : Int32))) else (some ((-5 : Int32), mb, mo))
def M_X9_isCell (mb : BT) (x1 : Int32) : Option (Int32) :=
  (M_X9_cells mb).bind fun z4 => (M_X9_in x1.toInt64 (0 : Int64) ((z4 - (1 : Int32)).toInt64)).bind fun z10 => if vp_nar .boolean z10 = z10 then some z10 else none
def M_X9_cell (mb : BT) (x1 : Int32) : Option (Int32) :=
  (M_X9_isCell mb x1).bind fun z2 => if z2 = 0 then (some (-1 : Int32)) else (if vin x1 16 then some (mb.2.2.2.2.2.2.1 x1.toNatClampNeg) else none)
def M_X9_codeOf (x1 : Int32) : Option (Int32) :=
  if x1 = 0 then (some (110 : Int32)) else (if x1 = (1 : Int32) then (some (101 : Int32)) else (if x1 = (2 : Int32) then (some (115 : Int32)) else (some (119 : Int32))))
def M_X9_dismiss (mb : BT) : Option (Int32 × BT) :=
  some (mb.2.2.2.2.1, (mb.1, mb.2.1, mb.2.2.1, mb.2.2.2.1, (0 : Int32), mb.2.2.2.2.2.1, mb.2.2.2.2.2.2.1, mb.2.2.2.2.2.2.2.1, mb.2.2.2.2.2.2.2.2.1, mb.2.2.2.2.2.2.2.2.2))
def M_X9_ears (mb : BT) (x1 : Int32) : Option (Int32 × BT) :=
  (M_X9_in x1.toInt64 (0 : Int64) (6 : Int64)).bind fun z6 => if z6 = 0 then (some ((-2 : Int32), mb)) else (some (mb.2.2.2.2.2.1, (mb.1, mb.2.1, mb.2.2.1, mb.2.2.2.1, mb.2.2.2.2.1, x1, mb.2.2.2.2.2.2.1, mb.2.2.2.2.2.2.2.1, mb.2.2.2.2.2.2.2.2.1, mb.2.2.2.2.2.2.2.2.2)))
def M_X9_floor_28 (mb : BT) (rc4 : Int32 × Int32 → Option (Int32)) (a28 : Int32 × Int32 × Int32) : Option (Int32) :=
  rc4 ((a28.2.2 ||| a28.2.1), (a28.1 + (1 : Int32)))
def M_X9_floor_4b (mb : BT) (rc4 : Int32 × Int32 → Option (Int32)) (a4 : Int32 × Int32) : Option (Int32) :=
  (M_X9_cells mb).bind fun z6 => if z6 ≤ a4.2 then (some a4.1) else ((M_X9_isWall mb a4.2).bind fun z15 => if z15 = 0 then (M_X9_floor_28 mb rc4 (a4.2, ((1 : Int32) <<< (a4.2 &&& 31)), a4.1)) else (M_X9_floor_28 mb rc4 (a4.2, (0 : Int32), a4.1)))
def M_X9_floor_4 (mb : BT) : Nat → (Int32 × Int32) → Option (Int32)
  | 0 => fun _ => none
  | k + 1 => M_X9_floor_4b mb (M_X9_floor_4 mb k)
def M_X9_floor (mb : BT) : Option (Int32) :=
  M_X9_floor_4 mb 200 ((0 : Int32), (0 : Int32))
def M_X9_findFar_162 (mb : BT) (x1 : Int32) (x2 : Int32) (rc32 : AR × Int32 → Option (AR)) (a162 : AR × Int32) : Option (AR) :=
  rc32 (a162.1, (a162.2 + (1 : Int32)))
def M_X9_findFar_156 (mb : BT) (x1 : Int32) (x2 : Int32) (rc32 : AR × Int32 → Option (AR)) (rc41 : AR × Int32 × Int32 → Option (AR)) (a156 : AR × Int32 × Int32) : Option (AR) :=
  rc41 (a156.1, a156.2.1, (a156.2.2 + (1 : Int32)))
def M_X9_findFar_149 (mb : BT) (x1 : Int32) (x2 : Int32) (rc32 : AR × Int32 → Option (AR)) (rc41 : AR × Int32 × Int32 → Option (AR)) (rc53 : AR × Int32 × Int32 × Int32 → Option (AR)) (a149 : AR × Int32 × Int32 × Int32 × Int32 × Int32) : Option (AR) :=
  if vin a149.2.2.2.2.2 16 then rc53 ((upd a149.1 a149.2.2.2.2.2.toNatClampNeg a149.2.2.2.2.1), a149.2.1, a149.2.2.1, (a149.2.2.2.1 + (1 : Int32))) else none
def M_X9_findFar_142 (mb : BT) (x1 : Int32) (x2 : Int32) (rc32 : AR × Int32 → Option (AR)) (rc41 : AR × Int32 × Int32 → Option (AR)) (rc53 : AR × Int32 × Int32 × Int32 → Option (AR)) (a142 : AR × Int32 × Int32 × Int32 × Int32) : Option (AR) :=
  if vin a142.2.2.1 16 then M_X9_findFar_149 mb x1 x2 rc32 rc41 rc53 (a142.1, a142.2.1, a142.2.2.1, a142.2.2.2.1, (a142.1 a142.2.2.1.toNatClampNeg), a142.2.2.2.2) else none
def M_X9_findFar_98 (mb : BT) (x1 : Int32) (x2 : Int32) (rc32 : AR × Int32 → Option (AR)) (rc41 : AR × Int32 × Int32 → Option (AR)) (rc53 : AR × Int32 × Int32 × Int32 → Option (AR)) (a98 : AR × Int32 × Int32 × Int32 × Int32 × Int32) : Option (AR) :=
  if a98.2.2.2.2.2 = 0 then (M_X9_findFar_142 mb x1 x2 rc32 rc41 rc53 (a98.1, a98.2.1, a98.2.2.1, a98.2.2.2.1, a98.2.2.1)) else (if vin a98.2.2.2.2.1 16 then if vin a98.2.2.1 16 then if (a98.1 a98.2.2.1.toNatClampNeg) ≤ ((a98.1 a98.2.2.2.2.1.toNatClampNeg) + (1 : Int32)) then (M_X9_findFar_142 mb x1 x2 rc32 rc41 rc53 (a98.1, a98.2.1, a98.2.2.1, a98.2.2.2.1, a98.2.2.1)) else (if vin a98.2.2.2.2.1 16 then M_X9_findFar_149 mb x1 x2 rc32 rc41 rc53 (a98.1, a98.2.1, a98.2.2.1, a98.2.2.2.1, ((a98.1 a98.2.2.2.2.1.toNatClampNeg) + (1 : Int32)), a98.2.2.1) else none) else none else none)
def M_X9_findFar_97 (mb : BT) (x1 : Int32) (x2 : Int32) (rc32 : AR × Int32 → Option (AR)) (rc41 : AR × Int32 × Int32 → Option (AR)) (rc53 : AR × Int32 × Int32 × Int32 → Option (AR)) (a97 : AR × Int32 × Int32 × Int32 × Int32) : Option (AR) :=
  M_X9_findFar_98 mb x1 x2 rc32 rc41 rc53 (a97.1, a97.2.1, a97.2.2.1, a97.2.2.2.1, a97.2.2.2.2, (0 : Int32))
def M_X9_findFar_53b (mb : BT) (x1 : Int32) (x2 : Int32) (rc32 : AR × Int32 → Option (AR)) (rc41 : AR × Int32 × Int32 → Option (AR)) (rc53 : AR × Int32 × Int32 × Int32 → Option (AR)) (a53 : AR × Int32 × Int32 × Int32) : Option (AR) :=
  if (4 : Int32) ≤ a53.2.2.2 then (M_X9_findFar_156 mb x1 x2 rc32 rc41 (a53.1, a53.2.1, a53.2.2.1)) else ((M_X9_isWall mb a53.2.2.1).bind fun z62 => if z62 = 0 then ((M_X9_beyond mb a53.2.2.1 a53.2.2.2).bind fun z73 => if z73 < 0 then (M_X9_findFar_97 mb x1 x2 rc32 rc41 rc53 (a53.1, a53.2.1, a53.2.2.1, a53.2.2.2, z73)) else (if ((x2 >>> (z73 &&& 31)) &&& (1 : Int32)) = (1 : Int32) then (M_X9_findFar_98 mb x1 x2 rc32 rc41 rc53 (a53.1, a53.2.1, a53.2.2.1, a53.2.2.2, z73, (1 : Int32))) else (M_X9_findFar_97 mb x1 x2 rc32 rc41 rc53 (a53.1, a53.2.1, a53.2.2.1, a53.2.2.2, z73)))) else (M_X9_findFar_156 mb x1 x2 rc32 rc41 (a53.1, a53.2.1, a53.2.2.1)))
def M_X9_findFar_53 (mb : BT) (x1 : Int32) (x2 : Int32) (rc32 : AR × Int32 → Option (AR)) (rc41 : AR × Int32 × Int32 → Option (AR)) : Nat → (AR × Int32 × Int32 × Int32) → Option (AR)
  | 0 => fun _ => none
  | k + 1 => M_X9_findFar_53b mb x1 x2 rc32 rc41 (M_X9_findFar_53 mb x1 x2 rc32 rc41 k)
def M_X9_findFar_41b (mb : BT) (x1 : Int32) (x2 : Int32) (rc32 : AR × Int32 → Option (AR)) (rc41 : AR × Int32 × Int32 → Option (AR)) (a41 : AR × Int32 × Int32) : Option (AR) :=
  (M_X9_cells mb).bind fun z44 => if z44 ≤ a41.2.2 then (M_X9_findFar_162 mb x1 x2 rc32 (a41.1, a41.2.1)) else (M_X9_findFar_53 mb x1 x2 rc32 rc41 200 (a41.1, a41.2.1, a41.2.2, (0 : Int32)))
def M_X9_findFar_41 (mb : BT) (x1 : Int32) (x2 : Int32) (rc32 : AR × Int32 → Option (AR)) : Nat → (AR × Int32 × Int32) → Option (AR)
  | 0 => fun _ => none
  | k + 1 => M_X9_findFar_41b mb x1 x2 rc32 (M_X9_findFar_41 mb x1 x2 rc32 k)
def M_X9_findFar_32b (mb : BT) (x1 : Int32) (x2 : Int32) (rc32 : AR × Int32 → Option (AR)) (a32 : AR × Int32) : Option (AR) :=
  if (16 : Int32) ≤ a32.2 then (some a32.1) else (M_X9_findFar_41 mb x1 x2 rc32 200 (a32.1, a32.2, (0 : Int32)))
def M_X9_findFar_32 (mb : BT) (x1 : Int32) (x2 : Int32) : Nat → (AR × Int32) → Option (AR)
  | 0 => fun _ => none
  | k + 1 => M_X9_findFar_32b mb x1 x2 (M_X9_findFar_32 mb x1 x2 k)
def M_X9_findFar_2b (mb : BT) (x1 : Int32) (x2 : Int32) (rc2 : AR × Int32 → Option (AR)) (a2 : AR × Int32) : Option (AR) :=
  if (16 : Int32) ≤ a2.2 then (if vin x1 16 then M_X9_findFar_32 mb x1 x2 200 ((upd a2.1 x1.toNatClampNeg (0 : Int32)), (0 : Int32)) else none) else (if vin a2.2 16 then rc2 ((upd a2.1 a2.2.toNatClampNeg (1000 : Int32)), (a2.2 + (1 : Int32))) else none)
def M_X9_findFar_2 (mb : BT) (x1 : Int32) (x2 : Int32) : Nat → (AR × Int32) → Option (AR)
  | 0 => fun _ => none
  | k + 1 => M_X9_findFar_2b mb x1 x2 (M_X9_findFar_2 mb x1 x2 k)
def M_X9_findFar (mb : BT) (mf : AR) (x1 : Int32) (x2 : Int32) : Option (AR) :=
  M_X9_findFar_2 mb x1 x2 200 (mf, (0 : Int32))
def M_X9_fewestShown_200 (mb : BT) (x1 : Int32) (x2 : Int32) (x3 : Int32) (rc12 : AR × AR × Int32 → Option (Int32 × AR × AR)) (a200 : AR × AR × Int32) : Option (Int32 × AR × AR) :=
  rc12 (a200.1, a200.2.1, (a200.2.2 + (1 : Int32)))
def M_X9_fewestShown_194 (mb : BT) (x1 : Int32) (x2 : Int32) (x3 : Int32) (rc12 : AR × AR × Int32 → Option (Int32 × AR × AR)) (rc22 : AR × AR × Int32 × Int32 → Option (Int32 × AR × AR)) (a194 : AR × AR × Int32 × Int32) : Option (Int32 × AR × AR) :=
  rc22 (a194.1, a194.2.1, a194.2.2.1, (a194.2.2.2 + (1 : Int32)))
def M_X9_fewestShown_187 (mb : BT) (x1 : Int32) (x2 : Int32) (x3 : Int32) (rc12 : AR × AR × Int32 → Option (Int32 × AR × AR)) (rc22 : AR × AR × Int32 × Int32 → Option (Int32 × AR × AR)) (rc65 : AR × AR × Int32 × Int32 × Int32 → Option (Int32 × AR × AR)) (a187 : AR × AR × Int32 × Int32 × Int32 × Int32 × Int32) : Option (Int32 × AR × AR) :=
  if vin a187.2.2.2.2.2.2 16 then rc65 (a187.1, (upd a187.2.1 a187.2.2.2.2.2.2.toNatClampNeg a187.2.2.2.2.2.1), a187.2.2.1, a187.2.2.2.1, (a187.2.2.2.2.1 + (1 : Int32))) else none
def M_X9_fewestShown_155 (mb : BT) (x1 : Int32) (x2 : Int32) (x3 : Int32) (rc12 : AR × AR × Int32 → Option (Int32 × AR × AR)) (rc22 : AR × AR × Int32 × Int32 → Option (Int32 × AR × AR)) (rc65 : AR × AR × Int32 × Int32 × Int32 → Option (Int32 × AR × AR)) (a155 : AR × AR × Int32 × Int32 × Int32 × Int32) : Option (Int32 × AR × AR) :=
  if vin a155.2.2.2.1 16 then if (a155.2.1 a155.2.2.2.1.toNatClampNeg) ≤ a155.2.2.2.2.2 then (if vin a155.2.2.2.1 16 then M_X9_fewestShown_187 mb x1 x2 x3 rc12 rc22 rc65 (a155.1, a155.2.1, a155.2.2.1, a155.2.2.2.1, a155.2.2.2.2.1, (a155.2.1 a155.2.2.2.1.toNatClampNeg), a155.2.2.2.1) else none) else (M_X9_fewestShown_187 mb x1 x2 x3 rc12 rc22 rc65 (a155.1, a155.2.1, a155.2.2.1, a155.2.2.2.1, a155.2.2.2.2.1, a155.2.2.2.2.2, a155.2.2.2.1)) else none
def M_X9_fewestShown_154 (mb : BT) (x1 : Int32) (x2 : Int32) (x3 : Int32) (rc12 : AR × AR × Int32 → Option (Int32 × AR × AR)) (rc22 : AR × AR × Int32 × Int32 → Option (Int32 × AR × AR)) (rc65 : AR × AR × Int32 × Int32 × Int32 → Option (Int32 × AR × AR)) (a154 : AR × AR × Int32 × Int32 × Int32 × Int32 × Int32) : Option (Int32 × AR × AR) :=
  M_X9_fewestShown_155 mb x1 x2 x3 rc12 rc22 rc65 (a154.1, a154.2.1, a154.2.2.1, a154.2.2.2.1, a154.2.2.2.2.1, (a154.2.2.2.2.2.2 + a154.2.2.2.2.2.1))
def M_X9_fewestShown_149 (mb : BT) (x1 : Int32) (x2 : Int32) (x3 : Int32) (rc12 : AR × AR × Int32 → Option (Int32 × AR × AR)) (rc22 : AR × AR × Int32 × Int32 → Option (Int32 × AR × AR)) (rc65 : AR × AR × Int32 × Int32 × Int32 → Option (Int32 × AR × AR)) (a149 : AR × AR × Int32 × Int32 × Int32 × Int32) : Option (Int32 × AR × AR) :=
  M_X9_fewestShown_154 mb x1 x2 x3 rc12 rc22 rc65 (a149.1, a149.2.1, a149.2.2.1, a149.2.2.2.1, a149.2.2.2.2.1, (0 : Int32), a149.2.2.2.2.2)
def M_X9_fewestShown_153 (mb : BT) (x1 : Int32) (x2 : Int32) (x3 : Int32) (rc12 : AR × AR × Int32 → Option (Int32 × AR × AR)) (rc22 : AR × AR × Int32 × Int32 → Option (Int32 × AR × AR)) (rc65 : AR × AR × Int32 × Int32 × Int32 → Option (Int32 × AR × AR)) (a153 : AR × AR × Int32 × Int32 × Int32 × Int32) : Option (Int32 × AR × AR) :=
  M_X9_fewestShown_154 mb x1 x2 x3 rc12 rc22 rc65 (a153.1, a153.2.1, a153.2.2.1, a153.2.2.2.1, a153.2.2.2.2.1, (1 : Int32), a153.2.2.2.2.2)
def M_X9_fewestShown_110 (mb : BT) (x1 : Int32) (x2 : Int32) (x3 : Int32) (rc12 : AR × AR × Int32 → Option (Int32 × AR × AR)) (rc22 : AR × AR × Int32 × Int32 → Option (Int32 × AR × AR)) (rc65 : AR × AR × Int32 × Int32 × Int32 → Option (Int32 × AR × AR)) (a110 : AR × AR × Int32 × Int32 × Int32 × Int32 × Int32) : Option (Int32 × AR × AR) :=
  if a110.2.2.2.2.2.2 = 0 then (M_X9_fewestShown_155 mb x1 x2 x3 rc12 rc22 rc65 (a110.1, a110.2.1, a110.2.2.1, a110.2.2.2.1, a110.2.2.2.2.1, (1000 : Int32))) else (if vin a110.2.2.2.2.2.1 16 then (M_X9_isBare mb a110.2.2.2.2.2.1).bind fun z133 => if z133 = 0 then (if a110.2.2.2.2.2.1 = x2 then (if x3 = 0 then (M_X9_fewestShown_149 mb x1 x2 x3 rc12 rc22 rc65 (a110.1, a110.2.1, a110.2.2.1, a110.2.2.2.1, a110.2.2.2.2.1, (a110.2.1 a110.2.2.2.2.2.1.toNatClampNeg))) else (M_X9_fewestShown_153 mb x1 x2 x3 rc12 rc22 rc65 (a110.1, a110.2.1, a110.2.2.1, a110.2.2.2.1, a110.2.2.2.2.1, (a110.2.1 a110.2.2.2.2.2.1.toNatClampNeg)))) else (M_X9_fewestShown_153 mb x1 x2 x3 rc12 rc22 rc65 (a110.1, a110.2.1, a110.2.2.1, a110.2.2.2.1, a110.2.2.2.2.1, (a110.2.1 a110.2.2.2.2.2.1.toNatClampNeg)))) else (M_X9_fewestShown_149 mb x1 x2 x3 rc12 rc22 rc65 (a110.1, a110.2.1, a110.2.2.1, a110.2.2.2.1, a110.2.2.2.2.1, (a110.2.1 a110.2.2.2.2.2.1.toNatClampNeg))) else none)
def M_X9_fewestShown_109 (mb : BT) (x1 : Int32) (x2 : Int32) (x3 : Int32) (rc12 : AR × AR × Int32 → Option (Int32 × AR × AR)) (rc22 : AR × AR × Int32 × Int32 → Option (Int32 × AR × AR)) (rc65 : AR × AR × Int32 × Int32 × Int32 → Option (Int32 × AR × AR)) (a109 : AR × AR × Int32 × Int32 × Int32 × Int32) : Option (Int32 × AR × AR) :=
  M_X9_fewestShown_110 mb x1 x2 x3 rc12 rc22 rc65 (a109.1, a109.2.1, a109.2.2.1, a109.2.2.2.1, a109.2.2.2.2.1, a109.2.2.2.2.2, (0 : Int32))
def M_X9_fewestShown_65b (mb : BT) (x1 : Int32) (x2 : Int32) (x3 : Int32) (rc12 : AR × AR × Int32 → Option (Int32 × AR × AR)) (rc22 : AR × AR × Int32 × Int32 → Option (Int32 × AR × AR)) (rc65 : AR × AR × Int32 × Int32 × Int32 → Option (Int32 × AR × AR)) (a65 : AR × AR × Int32 × Int32 × Int32) : Option (Int32 × AR × AR) :=
  if (4 : Int32) ≤ a65.2.2.2.2 then (M_X9_fewestShown_194 mb x1 x2 x3 rc12 rc22 (a65.1, a65.2.1, a65.2.2.1, a65.2.2.2.1)) else (if a65.2.2.1 ≤ 0 then (M_X9_fewestShown_194 mb x1 x2 x3 rc12 rc22 (a65.1, a65.2.1, a65.2.2.1, a65.2.2.2.1)) else ((M_X9_beyond mb a65.2.2.2.1 a65.2.2.2.2).bind fun z81 => if z81 < 0 then (M_X9_fewestShown_109 mb x1 x2 x3 rc12 rc22 rc65 (a65.1, a65.2.1, a65.2.2.1, a65.2.2.2.1, a65.2.2.2.2, z81)) else (if vin z81 16 then if (a65.1 z81.toNatClampNeg) = (a65.2.2.1 - (1 : Int32)) then (M_X9_fewestShown_110 mb x1 x2 x3 rc12 rc22 rc65 (a65.1, a65.2.1, a65.2.2.1, a65.2.2.2.1, a65.2.2.2.2, z81, (1 : Int32))) else (M_X9_fewestShown_109 mb x1 x2 x3 rc12 rc22 rc65 (a65.1, a65.2.1, a65.2.2.1, a65.2.2.2.1, a65.2.2.2.2, z81)) else none)))
def M_X9_fewestShown_65 (mb : BT) (x1 : Int32) (x2 : Int32) (x3 : Int32) (rc12 : AR × AR × Int32 → Option (Int32 × AR × AR)) (rc22 : AR × AR × Int32 × Int32 → Option (Int32 × AR × AR)) : Nat → (AR × AR × Int32 × Int32 × Int32) → Option (Int32 × AR × AR)
  | 0 => fun _ => none
  | k + 1 => M_X9_fewestShown_65b mb x1 x2 x3 rc12 rc22 (M_X9_fewestShown_65 mb x1 x2 x3 rc12 rc22 k)
def M_X9_fewestShown_61 (mb : BT) (x1 : Int32) (x2 : Int32) (x3 : Int32) (rc12 : AR × AR × Int32 → Option (Int32 × AR × AR)) (rc22 : AR × AR × Int32 × Int32 → Option (Int32 × AR × AR)) (a61 : AR × AR × Int32 × Int32 × Int32 × Int32) : Option (Int32 × AR × AR) :=
  if vin a61.2.2.2.2.2 16 then M_X9_fewestShown_65 mb x1 x2 x3 rc12 rc22 200 (a61.1, (upd a61.2.1 a61.2.2.2.2.2.toNatClampNeg a61.2.2.2.2.1), a61.2.2.1, a61.2.2.2.1, (0 : Int32)) else none
def M_X9_fewestShown_22b (mb : BT) (x1 : Int32) (x2 : Int32) (x3 : Int32) (rc12 : AR × AR × Int32 → Option (Int32 × AR × AR)) (rc22 : AR × AR × Int32 × Int32 → Option (Int32 × AR × AR)) (a22 : AR × AR × Int32 × Int32) : Option (Int32 × AR × AR) :=
  (M_X9_cells mb).bind fun z25 => if z25 ≤ a22.2.2.2 then (M_X9_fewestShown_200 mb x1 x2 x3 rc12 (a22.1, a22.2.1, a22.2.2.1)) else (if vin a22.2.2.2 16 then if (a22.1 a22.2.2.2.toNatClampNeg) = a22.2.2.1 then (if a22.2.2.1 = 0 then (M_X9_fewestShown_61 mb x1 x2 x3 rc12 rc22 (a22.1, a22.2.1, a22.2.2.1, a22.2.2.2, (0 : Int32), a22.2.2.2)) else (M_X9_fewestShown_61 mb x1 x2 x3 rc12 rc22 (a22.1, a22.2.1, a22.2.2.1, a22.2.2.2, (1000 : Int32), a22.2.2.2))) else (M_X9_fewestShown_194 mb x1 x2 x3 rc12 rc22 (a22.1, a22.2.1, a22.2.2.1, a22.2.2.2)) else none)
def M_X9_fewestShown_22 (mb : BT) (x1 : Int32) (x2 : Int32) (x3 : Int32) (rc12 : AR × AR × Int32 → Option (Int32 × AR × AR)) : Nat → (AR × AR × Int32 × Int32) → Option (Int32 × AR × AR)
  | 0 => fun _ => none
  | k + 1 => M_X9_fewestShown_22b mb x1 x2 x3 rc12 (M_X9_fewestShown_22 mb x1 x2 x3 rc12 k)
def M_X9_fewestShown_12b (mb : BT) (x1 : Int32) (x2 : Int32) (x3 : Int32) (rc12 : AR × AR × Int32 → Option (Int32 × AR × AR)) (a12 : AR × AR × Int32) : Option (Int32 × AR × AR) :=
  if (16 : Int32) ≤ a12.2.2 then (if vin x1 16 then some ((a12.2.1 x1.toNatClampNeg), a12.1, a12.2.1) else none) else (M_X9_fewestShown_22 mb x1 x2 x3 rc12 200 (a12.1, a12.2.1, a12.2.2, (0 : Int32)))
def M_X9_fewestShown_12 (mb : BT) (x1 : Int32) (x2 : Int32) (x3 : Int32) : Nat → (AR × AR × Int32) → Option (Int32 × AR × AR)
  | 0 => fun _ => none
  | k + 1 => M_X9_fewestShown_12b mb x1 x2 x3 (M_X9_fewestShown_12 mb x1 x2 x3 k)
def M_X9_fewestShown (mb : BT) (mf : AR) (mz : AR) (x1 : Int32) (x2 : Int32) (x3 : Int32) : Option (Int32 × AR × AR) :=
  (M_X9_floor mb).bind fun z3 => (M_X9_findFar mb mf x2 z3).bind fun z6 => M_X9_fewestShown_12 mb x1 x2 x3 200 (z6, mz, (0 : Int32))
def M_X9_fives_4b (x1 : Int32) (rc4 : Int32 × Int32 → Option (Int32)) (a4 : Int32 × Int32) : Option (Int32) :=
  if x1 ≤ a4.2 then (some a4.1) else (rc4 ((a4.1 * (5 : Int32)), (a4.2 + (1 : Int32))))
def M_X9_fives_4 (x1 : Int32) : Nat → (Int32 × Int32) → Option (Int32)
  | 0 => fun _ => none
  | k + 1 => M_X9_fives_4b x1 (M_X9_fives_4 x1 k)
def M_X9_fives (x1 : Int32) : Option (Int32) :=
  M_X9_fives_4 x1 200 ((1 : Int32), (0 : Int32))
def M_X9_ones_4b (x1 : Int32) (rc4 : Int32 × Int32 → Option (Int32)) (a4 : Int32 × Int32) : Option (Int32) :=
  if a4.2 = 0 then (some a4.1) else (rc4 ((a4.1 + (1 : Int32)), (a4.2 &&& (a4.2 - (1 : Int32)))))
def M_X9_ones_4 (x1 : Int32) : Nat → (Int32 × Int32) → Option (Int32)
  | 0 => fun _ => none
  | k + 1 => M_X9_ones_4b x1 (M_X9_ones_4 x1 k)
def M_X9_ones (x1 : Int32) : Option (Int32) :=
  M_X9_ones_4 x1 200 ((0 : Int32), x1)
def M_X9_flour_141 (mb : BT) (x1 : Int32) (rc70 : AR × Int32 × Int32 × Int32 × Int32 → Option (Int32 × AR)) (a141 : AR × Int32 × Int32 × Int32 × Int32) : Option (Int32 × AR) :=
  rc70 (a141.1, a141.2.1, a141.2.2.1, a141.2.2.2.1, (a141.2.2.2.2 + (1 : Int32)))
def M_X9_flour_139 (mb : BT) (x1 : Int32) (rc70 : AR × Int32 × Int32 × Int32 × Int32 → Option (Int32 × AR)) (a139 : AR × Int32 × Int32 × Int32 × Int32) : Option (Int32 × AR) :=
  M_X9_flour_141 mb x1 rc70 (a139.1, a139.2.1, a139.2.2.1, a139.2.2.2.2, a139.2.2.2.1)
def M_X9_flour_103 (mb : BT) (x1 : Int32) (rc70 : AR × Int32 × Int32 × Int32 × Int32 → Option (Int32 × AR)) (a103 : AR × Int32 × Int32 × Int32 × Int32) : Option (Int32 × AR) :=
  (M_X9_findFar mb a103.1 mb.2.2.2.1 (a103.2.1 &&& (a103.2.2.2.2 ^^^ (-1 : Int32)))).bind fun z114 => if vin mb.2.2.1 16 then if (z114 mb.2.2.1.toNatClampNeg) = (1000 : Int32) then (M_X9_flour_139 mb x1 rc70 (z114, a103.2.1, a103.2.2.1, a103.2.2.2.2, a103.2.2.2.2)) else (M_X9_flour_139 mb x1 rc70 (z114, a103.2.1, a103.2.2.1, a103.2.2.2.2, a103.2.2.2.1)) else none
def M_X9_flour_70b (mb : BT) (x1 : Int32) (rc70 : AR × Int32 × Int32 × Int32 × Int32 → Option (Int32 × AR)) (a70 : AR × Int32 × Int32 × Int32 × Int32) : Option (Int32 × AR) :=
  if a70.2.2.1 < a70.2.2.2.2 then (if x1 = 0 then ((M_X9_ones a70.2.2.2.1).bind fun z153 => some (z153, a70.1)) else (some (a70.2.2.2.1, a70.1))) else (if (a70.2.2.2.2 &&& (a70.2.2.1 ^^^ (-1 : Int32))) = 0 then (if a70.2.2.2.1 < 0 then (M_X9_flour_103 mb x1 rc70 (a70.1, a70.2.1, a70.2.2.1, a70.2.2.2.1, a70.2.2.2.2)) else ((M_X9_ones a70.2.2.2.2).bind fun z92 => (M_X9_ones a70.2.2.2.1).bind fun z97 => if z97 ≤ z92 then (M_X9_flour_141 mb x1 rc70 (a70.1, a70.2.1, a70.2.2.1, a70.2.2.2.1, a70.2.2.2.2)) else (M_X9_flour_103 mb x1 rc70 (a70.1, a70.2.1, a70.2.2.1, a70.2.2.2.1, a70.2.2.2.2)))) else (M_X9_flour_141 mb x1 rc70 (a70.1, a70.2.1, a70.2.2.1, a70.2.2.2.1, a70.2.2.2.2)))
def M_X9_flour_70 (mb : BT) (x1 : Int32) : Nat → (AR × Int32 × Int32 × Int32 × Int32) → Option (Int32 × AR)
  | 0 => fun _ => none
  | k + 1 => M_X9_flour_70b mb x1 (M_X9_flour_70 mb x1 k)
def M_X9_flour (mb : BT) (mf : AR) (x1 : Int32) : Option (Int32 × AR) :=
  (M_X9_in x1.toInt64 (0 : Int64) (1 : Int64)).bind fun z4 => if z4 = 0 then (some ((-2 : Int32), mf)) else ((M_X9_floor mb).bind fun z14 => (M_X9_findFar mb mf mb.2.2.2.1 z14).bind fun z24 => if vin mb.2.2.1 16 then if (2 : Int32) ≤ (z24 mb.2.2.1.toNatClampNeg) then (M_X9_flour_70 mb x1 70000 (z24, z14, ((z14 &&& (((1 : Int32) <<< (mb.2.2.1 &&& 31)) ^^^ (-1 : Int32))) &&& (((1 : Int32) <<< (mb.2.2.2.1 &&& 31)) ^^^ (-1 : Int32))), (-6 : Int32), (0 : Int32))) else (some ((-6 : Int32), z24)) else none)
def M_X9_wayOf (x1 : Int32) : Option (Int32) :=
  if x1 = (110 : Int32) then (some (0 : Int32)) else (if x1 = (101 : Int32) then (some (1 : Int32)) else (if x1 = (115 : Int32) then (some (2 : Int32)) else (if x1 = (119 : Int32) then (some (3 : Int32)) else (some (4 : Int32)))))
def M_X9_step_49 (mb : BT) (x1 : Int32) (a49 : NT × Int32) : Option (Int32 × NT) :=
  if a49.2 < 0 then (some ((0 : Int32), a49.1)) else (some ((1 : Int32), a49.1))
def M_X9_step_37 (mb : BT) (x1 : Int32) (a37 : NT × Int32 × Int32) : Option (Int32 × NT) :=
  if vp_nar .boolean a37.2.2 = a37.2.2 then if a37.2.1 < 0 then (M_X9_step_49 mb x1 ((a37.1.1, a37.2.2, a37.1.2.2.1, a37.1.2.2.2), a37.2.1)) else ((M_X9_arrive mb (a37.1.1, a37.2.2, a37.1.2.2.1, a37.1.2.2.2) a37.2.1).bind fun z46 => M_X9_step_49 mb x1 (z46, a37.2.1)) else none
def M_X9_step_36 (mb : BT) (x1 : Int32) (a36 : NT × Int32) : Option (Int32 × NT) :=
  M_X9_step_37 mb x1 (a36.1, a36.2, (0 : Int32))
def M_X9_step_21 (mb : BT) (x1 : Int32) (a21 : NT × Int32) : Option (Int32 × NT) :=
  if (4 : Int32) ≤ x1 then (M_X9_step_36 mb x1 (a21.1, a21.2)) else (if a21.2 < 0 then (M_X9_step_36 mb x1 (a21.1, a21.2)) else (M_X9_step_37 mb x1 (a21.1, a21.2, (1 : Int32))))
def M_X9_step (mb : BT) (mn : NT) (x1 : Int32) : Option (Int32 × NT) :=
  if x1 = (4 : Int32) then (M_X9_step_21 mb x1 (mn, mn.1)) else ((M_X9_beyond mb mn.1 x1).bind fun z18 => M_X9_step_21 mb x1 (mn, z18))
def M_X9_why_97 (mb : BT) (mn : NT) (x1 : Int32) (x2 : Int32) (a97 : Unit) : Option (Int32) :=
  (M_X9_seenBy mb x1).bind fun z99 => if (z99 &&& mn.2.2.1) = 0 then (if vin x1 4 then if (mb.2.2.2.2.2.2.2.2.2 x1.toNatClampNeg) = (1 : Int32) then (if vin x1 4 then (M_X9_apart mb mn.1 (mb.2.2.2.2.2.2.2.1 x1.toNatClampNeg)).bind fun z133 => if (1 : Int32) < z133 then (some (-6 : Int32)) else (some (4 : Int32)) else none) else (some (-6 : Int32)) else none) else (some (3 : Int32))
def M_X9_why_53 (mb : BT) (mn : NT) (x1 : Int32) (x2 : Int32) (a53 : Unit) : Option (Int32) :=
  if mn.2.1 = 0 then (M_X9_why_97 mb mn x1 x2 ()) else (if vin mn.1 16 then if (mb.2.2.2.2.2.2.1 mn.1.toNatClampNeg) = (99 : Int32) then (if vin x1 4 then (M_X9_apart mb mn.1 (mb.2.2.2.2.2.2.2.1 x1.toNatClampNeg)).bind fun z85 => if mb.2.2.2.2.2.1 < z85 then (M_X9_why_97 mb mn x1 x2 ()) else (some (2 : Int32)) else none) else (M_X9_why_97 mb mn x1 x2 ()) else none)
def M_X9_why_21 (mb : BT) (mn : NT) (x1 : Int32) (x2 : Int32) (a21 : Int32) : Option (Int32) :=
  if x2 = 0 then (M_X9_why_53 mb mn x1 x2 ()) else (if mn.2.1 = 0 then (M_X9_why_53 mb mn x1 x2 ()) else (if vin mn.1 16 then if (mb.2.2.2.2.2.2.1 mn.1.toNatClampNeg) = (103 : Int32) then (if a21 = 0 then (M_X9_why_53 mb mn x1 x2 ()) else (some (1 : Int32))) else (M_X9_why_53 mb mn x1 x2 ()) else none))
def M_X9_why (mb : BT) (mn : NT) (x1 : Int32) (x2 : Int32) : Option (Int32) :=
  (M_X9_seenBy mb x1).bind fun z2 => if ((z2 >>> (mn.1 &&& 31)) &&& (1 : Int32)) = (1 : Int32) then (M_X9_why_21 mb mn x1 x2 (1 : Int32)) else (M_X9_why_21 mb mn x1 x2 (0 : Int32))
def M_X9_shownTo_2b (mb : BT) (mn : NT) (x1 : Int32) (rc2 : Int32 → Option (Int32)) (a2 : Int32) : Option (Int32) :=
  if mb.2.2.2.2.1 ≤ a2 then (some (-6 : Int32)) else ((M_X9_why mb mn a2 x1).bind fun z13 => if z13 ≤ 0 then (rc2 (a2 + (1 : Int32))) else (some a2))
def M_X9_shownTo_2 (mb : BT) (mn : NT) (x1 : Int32) : Nat → Int32 → Option (Int32)
  | 0 => fun _ => none
  | k + 1 => M_X9_shownTo_2b mb mn x1 (M_X9_shownTo_2 mb mn x1 k)
def M_X9_shownTo (mb : BT) (mn : NT) (x1 : Int32) : Option (Int32) :=
  M_X9_shownTo_2 mb mn x1 200 (0 : Int32)
def M_X9_goWalk_160 (mb : BT) (mo : OT) (rc40 : NT × GT × Int32 → Option (NT × GT)) (a160 : NT × GT × Int32) : Option (NT × GT) :=
  rc40 (a160.1, a160.2.1, (a160.2.2 + (1 : Int32)))
def M_X9_goWalk_156 (mb : BT) (mo : OT) (rc40 : NT × GT × Int32 → Option (NT × GT)) (a156 : NT × GT × Int32 × Int32 × Int32) : Option (NT × GT) :=
  M_X9_goWalk_160 mb mo rc40 (a156.1, (a156.2.1.1, a156.2.1.2.1, a156.2.1.2.2.1, a156.2.1.2.2.2.1, a156.2.1.2.2.2.2.1, (a156.2.2.2.2 + a156.2.2.2.1)), a156.2.2.1)
def M_X9_goWalk_155 (mb : BT) (mo : OT) (rc40 : NT × GT × Int32 → Option (NT × GT)) (a155 : NT × GT × Int32 × Int32) : Option (NT × GT) :=
  M_X9_goWalk_156 mb mo rc40 (a155.1, a155.2.1, a155.2.2.1, (0 : Int32), a155.2.2.2)
def M_X9_goWalk_130 (mb : BT) (mo : OT) (rc40 : NT × GT × Int32 → Option (NT × GT)) (a130 : NT × GT × Int32 × Int32 × Int32 × Int32) : Option (NT × GT) :=
  if a130.2.2.2.1 < 0 then (M_X9_goWalk_155 mb mo rc40 (a130.1, (a130.2.1.1, a130.2.1.2.1, a130.2.1.2.2.1, a130.2.1.2.2.2.1, (a130.2.2.2.2.2 + a130.2.2.2.2.1), a130.2.1.2.2.2.2.2), a130.2.2.1, a130.2.1.2.2.2.2.2)) else ((M_X9_shownTo mb a130.1 (0 : Int32)).bind fun z145 => if 0 ≤ z145 then (M_X9_goWalk_155 mb mo rc40 (a130.1, (a130.2.1.1, a130.2.1.2.1, a130.2.1.2.2.1, a130.2.1.2.2.2.1, (a130.2.2.2.2.2 + a130.2.2.2.2.1), a130.2.1.2.2.2.2.2), a130.2.2.1, a130.2.1.2.2.2.2.2)) else (M_X9_goWalk_156 mb mo rc40 (a130.1, (a130.2.1.1, a130.2.1.2.1, a130.2.1.2.2.1, a130.2.1.2.2.2.1, (a130.2.2.2.2.2 + a130.2.2.2.2.1), a130.2.1.2.2.2.2.2), a130.2.2.1, (1 : Int32), a130.2.1.2.2.2.2.2)))
def M_X9_goWalk_116 (mb : BT) (mo : OT) (rc40 : NT × GT × Int32 → Option (NT × GT)) (a116 : NT × GT × Int32 × Int32) : Option (NT × GT) :=
  if a116.2.2.2 < 0 then (M_X9_goWalk_130 mb mo rc40 (a116.1, a116.2.1, a116.2.2.1, a116.2.2.2, (0 : Int32), a116.2.1.2.2.2.2.1)) else (M_X9_goWalk_130 mb mo rc40 (a116.1, a116.2.1, a116.2.2.1, a116.2.2.2, (1 : Int32), a116.2.1.2.2.2.2.1))
def M_X9_goWalk_40b (mb : BT) (mo : OT) (rc40 : NT × GT × Int32 → Option (NT × GT)) (a40 : NT × GT × Int32) : Option (NT × GT) :=
  if mo.1 ≤ a40.2.2 then (some (a40.1, a40.2.1)) else (if 0 ≤ a40.2.1.1 then (some (a40.1, a40.2.1)) else (if vin a40.2.2 40 then (M_X9_wayOf (mo.2 a40.2.2.toNatClampNeg)).bind fun z62 => (M_X9_step mb a40.1 z62).bind fun z65 => if z65.1 = 0 then (M_X9_goWalk_160 mb mo rc40 (z65.2, (a40.2.2, a40.2.1.2.1, a40.2.1.2.2.1, a40.2.1.2.2.2.1, a40.2.1.2.2.2.2.1, a40.2.1.2.2.2.2.2), a40.2.2)) else ((M_X9_shownTo mb z65.2 (1 : Int32)).bind fun z81 => if z81 < 0 then (M_X9_goWalk_116 mb mo rc40 (z65.2, a40.2.1, a40.2.2, z81)) else (if 0 ≤ a40.2.1.2.1 then (M_X9_goWalk_116 mb mo rc40 (z65.2, a40.2.1, a40.2.2, z81)) else ((M_X9_why mb z65.2 z81 (1 : Int32)).bind fun z110 => M_X9_goWalk_116 mb mo rc40 (z65.2, (a40.2.1.1, a40.2.2, z81, z110, a40.2.1.2.2.2.2.1, a40.2.1.2.2.2.2.2), a40.2.2, z81)))) else none))
def M_X9_goWalk_40 (mb : BT) (mo : OT) : Nat → (NT × GT × Int32) → Option (NT × GT)
  | 0 => fun _ => none
  | k + 1 => M_X9_goWalk_40b mb mo (M_X9_goWalk_40 mb mo k)
def M_X9_goWalk (mb : BT) (mo : OT) (mn : NT) (mg : GT) : Option (NT × GT) :=
  (M_X9_begin mb mn).bind fun z1 => M_X9_goWalk_40 mb mo 200 (z1, ((-6 : Int32), (-6 : Int32), (-6 : Int32), (-6 : Int32), (0 : Int32), (0 : Int32)), (0 : Int32))
def M_X9_lay_12b (x1 : Int32) (x2 : Int32) (rc12 : BT × Int32 → Option (BT)) (a12 : BT × Int32) : Option (BT) :=
  if (16 : Int32) ≤ a12.2 then (some (a12.1.1, a12.1.2.1, (0 : Int32), ((x1 * x2) - (1 : Int32)), (0 : Int32), a12.1.2.2.2.2.2.1, a12.1.2.2.2.2.2.2.1, a12.1.2.2.2.2.2.2.2.1, a12.1.2.2.2.2.2.2.2.2.1, a12.1.2.2.2.2.2.2.2.2.2)) else (if vin a12.2 16 then rc12 ((a12.1.1, a12.1.2.1, a12.1.2.2.1, a12.1.2.2.2.1, a12.1.2.2.2.2.1, a12.1.2.2.2.2.2.1, (upd a12.1.2.2.2.2.2.2.1 a12.2.toNatClampNeg (46 : Int32)), a12.1.2.2.2.2.2.2.2.1, a12.1.2.2.2.2.2.2.2.2.1, a12.1.2.2.2.2.2.2.2.2.2), (a12.2 + (1 : Int32))) else none)
def M_X9_lay_12 (x1 : Int32) (x2 : Int32) : Nat → (BT × Int32) → Option (BT)
  | 0 => fun _ => none
  | k + 1 => M_X9_lay_12b x1 x2 (M_X9_lay_12 x1 x2 k)
def M_X9_lay (mb : BT) (x1 : Int32) (x2 : Int32) : Option (BT) :=
  M_X9_lay_12 x1 x2 200 ((x1, x2, mb.2.2.1, mb.2.2.2.1, mb.2.2.2.2.1, mb.2.2.2.2.2.1, mb.2.2.2.2.2.2.1, mb.2.2.2.2.2.2.2.1, mb.2.2.2.2.2.2.2.2.1, mb.2.2.2.2.2.2.2.2.2), (0 : Int32))
def M_X9_house (mb : BT) (x1 : Int32) (x2 : Int32) : Option (Int32 × BT) :=
  (M_X9_in x1.toInt64 (1 : Int64) (4 : Int64)).bind fun z6 => if z6 = 0 then (some ((-2 : Int32), mb)) else ((M_X9_in x2.toInt64 (1 : Int64) (4 : Int64)).bind fun z18 => if z18 = 0 then (some ((-2 : Int32), mb)) else ((M_X9_lay mb x1 x2).bind fun z30 => (M_X9_cells z30).bind fun z34 => some (z34, z30)))
def M_X9_pass_20 (x1 : Int32) (a20 : IT × Int32) : Option (Int32 × IT) :=
  if vin a20.1.1 80 then some (a20.2, ((a20.1.1 + (1 : Int32)), a20.1.2.1, (upd a20.1.2.2.1 a20.1.1.toNatClampNeg a20.2), a20.1.2.2.2)) else none
def M_X9_pass (mi : IT) (x1 : Int32) : Option (Int32 × IT) :=
  if mi.2.1 = 0 then (if vin mi.1 80 then M_X9_pass_20 x1 (mi, (mi.2.2.1 mi.1.toNatClampNeg)) else none) else (M_X9_pass_20 x1 (mi, x1))
def M_X9_passAll_104b  (rc104 : BT × IT × Int32 → Option (BT × IT)) (a104 : BT × IT × Int32) : Option (BT × IT) :=
  if (4 : Int32) ≤ a104.2.2 then (some (a104.1, a104.2.1)) else (if vin a104.2.2 4 then (M_X9_pass a104.2.1 (a104.1.2.2.2.2.2.2.2.1 a104.2.2.toNatClampNeg)).bind fun z121 => if vin a104.2.2 4 then if vin a104.2.2 4 then (M_X9_pass z121.2 (a104.1.2.2.2.2.2.2.2.2.1 a104.2.2.toNatClampNeg)).bind fun z137 => if vin a104.2.2 4 then if vin a104.2.2 4 then (M_X9_pass z137.2 (a104.1.2.2.2.2.2.2.2.2.2 a104.2.2.toNatClampNeg)).bind fun z153 => if vin a104.2.2 4 then rc104 ((a104.1.1, a104.1.2.1, a104.1.2.2.1, a104.1.2.2.2.1, a104.1.2.2.2.2.1, a104.1.2.2.2.2.2.1, a104.1.2.2.2.2.2.2.1, (upd a104.1.2.2.2.2.2.2.2.1 a104.2.2.toNatClampNeg z121.1), (upd a104.1.2.2.2.2.2.2.2.2.1 a104.2.2.toNatClampNeg z137.1), (upd a104.1.2.2.2.2.2.2.2.2.2 a104.2.2.toNatClampNeg z153.1)), z153.2, (a104.2.2 + (1 : Int32))) else none else none else none else none else none else none)
def M_X9_passAll_104  : Nat → (BT × IT × Int32) → Option (BT × IT)
  | 0 => fun _ => none
  | k + 1 => M_X9_passAll_104b  (M_X9_passAll_104  k)
def M_X9_passAll_74b  (rc74 : BT × IT × Int32 → Option (BT × IT)) (a74 : BT × IT × Int32) : Option (BT × IT) :=
  if (16 : Int32) ≤ a74.2.2 then (M_X9_passAll_104  200 (a74.1, a74.2.1, (0 : Int32))) else (if vin a74.2.2 16 then (M_X9_pass a74.2.1 (a74.1.2.2.2.2.2.2.1 a74.2.2.toNatClampNeg)).bind fun z92 => if vin a74.2.2 16 then rc74 ((a74.1.1, a74.1.2.1, a74.1.2.2.1, a74.1.2.2.2.1, a74.1.2.2.2.2.1, a74.1.2.2.2.2.2.1, (upd a74.1.2.2.2.2.2.2.1 a74.2.2.toNatClampNeg z92.1), a74.1.2.2.2.2.2.2.2.1, a74.1.2.2.2.2.2.2.2.2.1, a74.1.2.2.2.2.2.2.2.2.2), z92.2, (a74.2.2 + (1 : Int32))) else none else none)
def M_X9_passAll_74  : Nat → (BT × IT × Int32) → Option (BT × IT)
  | 0 => fun _ => none
  | k + 1 => M_X9_passAll_74b  (M_X9_passAll_74  k)
def M_X9_passAll (mb : BT) (mi : IT) : Option (BT × IT) :=
  (M_X9_pass mi mb.1).bind fun z6 => (M_X9_pass z6.2 mb.2.1).bind fun z18 => (M_X9_pass z18.2 mb.2.2.1).bind fun z30 => (M_X9_pass z30.2 mb.2.2.2.1).bind fun z42 => (M_X9_pass z42.2 mb.2.2.2.2.1).bind fun z54 => (M_X9_pass z54.2 mb.2.2.2.2.2.1).bind fun z66 => M_X9_passAll_74  200 ((z6.1, z18.1, z30.1, z42.1, z54.1, z66.1, mb.2.2.2.2.2.2.1, mb.2.2.2.2.2.2.2.1, mb.2.2.2.2.2.2.2.2.1, mb.2.2.2.2.2.2.2.2.2), z66.2, (0 : Int32))
def M_X9_image (mb : BT) (mi : IT) (x1 : Int32) : Option (Int32 × BT × IT) :=
  (M_X9_in x1.toInt64 (0 : Int64) (1 : Int64)).bind fun z4 => if z4 = 0 then (some ((-2 : Int32), mb, mi)) else (if vp_nar .boolean (1 : Int32) = (1 : Int32) then (M_X9_passAll mb (((40 : Int32) * x1), (1 : Int32), mi.2.2.1, mi.2.2.2)).bind fun z27 => if vin x1 2 then some ((1 : Int32), z27.1, (z27.2.1, z27.2.2.1, z27.2.2.2.1, (upd z27.2.2.2.2 x1.toNatClampNeg (vp_nar .boolean (1 : Int32))))) else none else none)
def M_X9_refusal (mb : BT) (mo : OT) (mn : NT) (mg : GT) : Option (Int32 × NT × GT) :=
  (M_X9_fault mb mo (1 : Int32)).bind fun z2 => if z2 < 0 then ((M_X9_goWalk mb mo mn mg).bind fun z12 => if z12.2.1 < 0 then (some ((-6 : Int32), z12.1, z12.2)) else (some ((-3 : Int32), z12.1, z12.2))) else (some ((-5 : Int32), mn, mg))
def M_X9_judge_38 (mb : BT) (mo : OT) (x1 : Int32) (a38 : NT × GT) : Option (Int32 × NT × GT) :=
  if x1 = (0 : Int32) then (some (a38.2.1, a38.1, a38.2)) else (if x1 = (1 : Int32) then (some (a38.2.2.1, a38.1, a38.2)) else (if x1 = (2 : Int32) then (some (a38.2.2.2.1, a38.1, a38.2)) else (if x1 = (3 : Int32) then (some (a38.2.2.2.2.1, a38.1, a38.2)) else (if x1 = (4 : Int32) then (some (a38.2.2.2.2.2.1, a38.1, a38.2)) else (some (a38.1.1, a38.1, a38.2))))))
def M_X9_judge (mb : BT) (mo : OT) (mn : NT) (mg : GT) (x1 : Int32) : Option (Int32 × NT × GT) :=
  (M_X9_in x1.toInt64 (0 : Int64) (5 : Int64)).bind fun z6 => if z6 = 0 then (some ((-2 : Int32), mn, mg)) else ((M_X9_refusal mb mo mn mg).bind fun z16 => if z16.1 = (-5 : Int32) then (some (z16.1, z16.2.1, z16.2.2)) else (if x1 ≤ 0 then (M_X9_judge_38 mb mo x1 (z16.2.1, z16.2.2)) else (if z16.1 = (-6 : Int32) then (M_X9_judge_38 mb mo x1 (z16.2.1, z16.2.2)) else (some (z16.1, z16.2.1, z16.2.2)))))
def M_X9_leads (mb : BT) (mf : AR) (x1 : Int32) (x2 : Int32) (x3 : Int32) : Option (Int32) :=
  (M_X9_beyond mb x1 x2).bind fun z3 => if z3 < 0 then (some (0 : Int32)) else (if ((x3 >>> (z3 &&& 31)) &&& (1 : Int32)) = (1 : Int32) then (if vin z3 16 then if vin x1 16 then if (mf z3.toNatClampNeg) = ((mf x1.toNatClampNeg) - (1 : Int32)) then (some (1 : Int32)) else (some (0 : Int32)) else none else none) else (some (0 : Int32)))
def M_X9_layWay_36 (mb : BT) (x1 : Int32) (x2 : Int32) (x3 : Int32) (rc9 : AR × TT × Int32 → Option (AR × TT)) (a36 : AR × TT × Int32 × Int32) : Option (AR × TT) :=
  (M_X9_codeOf a36.2.2.2).bind fun z46 => if vin a36.2.1.1 32 then (M_X9_beyond mb a36.2.2.1 a36.2.2.2).bind fun z65 => rc9 (a36.1, ((a36.2.1.1 + (1 : Int32)), (upd a36.2.1.2 a36.2.1.1.toNatClampNeg z46)), z65) else none
def M_X9_layWay_18b (mb : BT) (x1 : Int32) (x2 : Int32) (x3 : Int32) (rc9 : AR × TT × Int32 → Option (AR × TT)) (rc18 : AR × TT × Int32 × Int32 → Option (AR × TT)) (a18 : AR × TT × Int32 × Int32) : Option (AR × TT) :=
  (M_X9_leads mb a18.1 a18.2.2.1 a18.2.2.2 x3).bind fun z24 => if z24 = 0 then (rc18 (a18.1, a18.2.1, a18.2.2.1, (a18.2.2.2 + (1 : Int32)))) else (M_X9_layWay_36 mb x1 x2 x3 rc9 (a18.1, a18.2.1, a18.2.2.1, a18.2.2.2))
def M_X9_layWay_18 (mb : BT) (x1 : Int32) (x2 : Int32) (x3 : Int32) (rc9 : AR × TT × Int32 → Option (AR × TT)) : Nat → (AR × TT × Int32 × Int32) → Option (AR × TT)
  | 0 => fun _ => none
  | k + 1 => M_X9_layWay_18b mb x1 x2 x3 rc9 (M_X9_layWay_18 mb x1 x2 x3 rc9 k)
def M_X9_layWay_9b (mb : BT) (x1 : Int32) (x2 : Int32) (x3 : Int32) (rc9 : AR × TT × Int32 → Option (AR × TT)) (a9 : AR × TT × Int32) : Option (AR × TT) :=
  if a9.2.2 = x2 then (some (a9.1, a9.2.1)) else (M_X9_layWay_18 mb x1 x2 x3 rc9 200 (a9.1, a9.2.1, a9.2.2, (0 : Int32)))
def M_X9_layWay_9 (mb : BT) (x1 : Int32) (x2 : Int32) (x3 : Int32) : Nat → (AR × TT × Int32) → Option (AR × TT)
  | 0 => fun _ => none
  | k + 1 => M_X9_layWay_9b mb x1 x2 x3 (M_X9_layWay_9 mb x1 x2 x3 k)
def M_X9_layWay (mb : BT) (mf : AR) (mt : TT) (x1 : Int32) (x2 : Int32) (x3 : Int32) : Option (AR × TT) :=
  (M_X9_findFar mb mf x2 x3).bind fun z3 => M_X9_layWay_9 mb x1 x2 x3 200 (z3, mt, x1)
def M_X9_least (mb : BT) (mf : AR) (mz : AR) (x1 : Int32) : Option (Int32 × AR × AR) :=
  (M_X9_in x1.toInt64 (0 : Int64) (1 : Int64)).bind fun z4 => if z4 = 0 then (some ((-2 : Int32), mf, mz)) else ((M_X9_floor mb).bind fun z19 => (M_X9_findFar mb mf mb.2.2.2.1 z19).bind fun z22 => if vin mb.2.2.1 16 then if (z22 mb.2.2.1.toNatClampNeg) = (1000 : Int32) then (some ((-6 : Int32), z22, mz)) else (if x1 = (1 : Int32) then (some (((2 : Int32) * (z22 mb.2.2.1.toNatClampNeg)), z22, mz)) else ((M_X9_fewestShown mb z22 mz mb.2.2.1 mb.2.2.2.1 (1 : Int32)).bind fun z66 => (M_X9_fewestShown mb z66.2.1 z66.2.2 mb.2.2.2.1 mb.2.2.1 (0 : Int32)).bind fun z79 => some ((z66.1 + z79.1), z79.2.1, z79.2.2))) else none)
def M_X9_lowest_6b (x1 : Int64) (x2 : Int64) (x3 : Int32) (rc6 : Int64 × Int64 → Option (Int64)) (a6 : Int64 × Int64) : Option (Int64) :=
  if (lg_cmp a6.2 (0 : Int64)) = 0 then (if x3 = 0 then (if ¬ a6.1 = 0 then some (x1 / a6.1) else none) else (if ¬ a6.1 = 0 then some (x2 / a6.1) else none)) else (if ¬ a6.2 = 0 then rc6 (a6.2, (a6.1 - a6.1 / a6.2 * a6.2)) else none)
def M_X9_lowest_6 (x1 : Int64) (x2 : Int64) (x3 : Int32) : Nat → (Int64 × Int64) → Option (Int64)
  | 0 => fun _ => none
  | k + 1 => M_X9_lowest_6b x1 x2 x3 (M_X9_lowest_6 x1 x2 x3 k)
def M_X9_lowest (x1 : Int64) (x2 : Int64) (x3 : Int32) : Option (Int64) :=
  M_X9_lowest_6 x1 x2 x3 200 (x2, x1)
def M_X9_meet_191 (mb : BT) (mo : OT) (x1 : Int32) (x2 : Int32) (rc73 : NT × GT × Int32 × Int32 → Option (Int32 × NT × GT)) (a191 : NT × GT × Int32 × Int32) : Option (Int32 × NT × GT) :=
  rc73 (a191.1, a191.2.1, a191.2.2.1, (a191.2.2.2 + (1 : Int32)))
def M_X9_meet_161 (mb : BT) (mo : OT) (x1 : Int32) (x2 : Int32) (rc73 : NT × GT × Int32 × Int32 → Option (Int32 × NT × GT)) (a161 : NT × GT × Int32 × Int32 × Int32 × Int32) : Option (Int32 × NT × GT) :=
  if a161.1.1 = a161.2.2.2.2.2 then (some (a161.2.2.1, a161.1, a161.2.1)) else (if a161.1.1 = a161.2.2.2.2.1 then (if a161.2.2.2.2.2 = a161.2.2.2.1 then (some (a161.2.2.1, a161.1, a161.2.1)) else (M_X9_meet_191 mb mo x1 x2 rc73 (a161.1, a161.2.1, a161.2.2.2.2.2, a161.2.2.1))) else (M_X9_meet_191 mb mo x1 x2 rc73 (a161.1, a161.2.1, a161.2.2.2.2.2, a161.2.2.1)))
def M_X9_meet_147 (mb : BT) (mo : OT) (x1 : Int32) (x2 : Int32) (rc73 : NT × GT × Int32 × Int32 → Option (Int32 × NT × GT)) (a147 : NT × GT × Int32 × Int32 × Int32 × Int32 × Int32) : Option (Int32 × NT × GT) :=
  if a147.2.2.2.2.2.2 < 0 then (M_X9_meet_161 mb mo x1 x2 rc73 (a147.1, a147.2.1, a147.2.2.2.1, a147.2.2.2.2.1, a147.2.2.2.2.2.1, a147.2.2.1)) else (M_X9_meet_161 mb mo x1 x2 rc73 (a147.1, a147.2.1, a147.2.2.2.1, a147.2.2.2.2.1, a147.2.2.2.2.2.1, a147.2.2.2.2.2.2))
def M_X9_meet_73b (mb : BT) (mo : OT) (x1 : Int32) (x2 : Int32) (rc73 : NT × GT × Int32 × Int32 → Option (Int32 × NT × GT)) (a73 : NT × GT × Int32 × Int32) : Option (Int32 × NT × GT) :=
  if mo.1 ≤ a73.2.2.2 then (some ((-6 : Int32), a73.1, a73.2.1)) else (if x2 ≤ a73.2.2.2 then (some ((-6 : Int32), a73.1, a73.2.1)) else (if vin a73.2.2.2 40 then (M_X9_wayOf (mo.2 a73.2.2.2.toNatClampNeg)).bind fun z106 => (M_X9_step mb a73.1 z106).bind fun z109 => (M_X9_fives ((x2 - (1 : Int32)) - a73.2.2.2)).bind fun z120 => if ¬ z120 = 0 then if ¬ (5 : Int32) = 0 then if ((x1 / z120) - (x1 / z120) / (5 : Int32) * (5 : Int32)) = (4 : Int32) then (M_X9_meet_147 mb mo x1 x2 rc73 (z109.2, a73.2.1, a73.2.2.1, a73.2.2.2, a73.1.1, a73.2.2.1, a73.2.2.1)) else ((M_X9_beyond mb a73.2.2.1 ((x1 / z120) - (x1 / z120) / (5 : Int32) * (5 : Int32))).bind fun z144 => M_X9_meet_147 mb mo x1 x2 rc73 (z109.2, a73.2.1, a73.2.2.1, a73.2.2.2, a73.1.1, a73.2.2.1, z144)) else none else none else none))
def M_X9_meet_73 (mb : BT) (mo : OT) (x1 : Int32) (x2 : Int32) : Nat → (NT × GT × Int32 × Int32) → Option (Int32 × NT × GT)
  | 0 => fun _ => none
  | k + 1 => M_X9_meet_73b mb mo x1 x2 (M_X9_meet_73 mb mo x1 x2 k)
def M_X9_meet_32 (mb : BT) (mo : OT) (x1 : Int32) (x2 : Int32) (a32 : NT × GT × Int32 × Int64 × Int64) : Option (Int32 × NT × GT) :=
  (M_X9_fives a32.2.2.1).bind fun z32 => (M_X9_in a32.2.2.2.2 a32.2.2.2.1 ((z32 - (1 : Int32)).toInt64)).bind fun z38 => if z38 = 0 then (some ((-2 : Int32), a32.1, a32.2.1)) else ((M_X9_refusal mb mo a32.1 a32.2.1).bind fun z48 => if z48.1 = (-6 : Int32) then ((M_X9_begin mb z48.2.1).bind fun z61 => M_X9_meet_73 mb mo x1 x2 200 (z61, z48.2.2, mb.2.2.2.1, (0 : Int32))) else (some (z48.1, z48.2.1, z48.2.2)))
def M_X9_meet (mb : BT) (mo : OT) (mn : NT) (mg : GT) (x1 : Int32) (x2 : Int32) : Option (Int32 × NT × GT) :=
  (M_X9_in x2.toInt64 (0 : Int64) (8 : Int64)).bind fun z6 => if z6 = 0 then (some ((-2 : Int32), mn, mg)) else ((M_X9_in x2.toInt64 (0 : Int64) (8 : Int64)).bind fun z21 => if z21 = 0 then (M_X9_meet_32 mb mo x1 x2 (mn, mg, (0 : Int32), (0 : Int64), x1.toInt64)) else (M_X9_meet_32 mb mo x1 x2 (mn, mg, x2, (0 : Int64), x1.toInt64)))
def M_X9_night_100 (mb : BT) (x1 : Int32) (x2 : Int32) (x3 : Int32) (rc52 : NT × Int32 × Int32 × Int32 → Option (Int32 × NT)) (a100 : NT × Int32 × Int32 × Int32 × Int32) : Option (Int32 × NT) :=
  rc52 (a100.1, a100.2.1, (a100.2.2.2.2 + a100.2.2.2.1), (a100.2.2.1 + (1 : Int32)))
def M_X9_night_52b (mb : BT) (x1 : Int32) (x2 : Int32) (x3 : Int32) (rc52 : NT × Int32 × Int32 × Int32 → Option (Int32 × NT)) (a52 : NT × Int32 × Int32 × Int32) : Option (Int32 × NT) :=
  if x2 ≤ a52.2.2.2 then (if x3 = 0 then (some (a52.2.2.1, a52.1)) else (if x3 = (1 : Int32) then (some (a52.1.1, a52.1)) else ((M_X9_ones a52.1.2.2.2).bind fun z134 => some (z134, a52.1)))) else (if ¬ (65537 : Int64) = 0 then if ¬ (5 : Int32) = 0 then (M_X9_step mb a52.1 ((((((75 : Int64) * a52.2.1.toInt64) + (74 : Int64)) - (((75 : Int64) * a52.2.1.toInt64) + (74 : Int64)) / (65537 : Int64) * (65537 : Int64)).toInt32) - (((((75 : Int64) * a52.2.1.toInt64) + (74 : Int64)) - (((75 : Int64) * a52.2.1.toInt64) + (74 : Int64)) / (65537 : Int64) * (65537 : Int64)).toInt32) / (5 : Int32) * (5 : Int32))).bind fun z81 => (M_X9_shownTo mb z81.2 (1 : Int32)).bind fun z89 => if z89 < 0 then (M_X9_night_100 mb x1 x2 x3 rc52 (z81.2, ((((75 : Int64) * a52.2.1.toInt64) + (74 : Int64)) - (((75 : Int64) * a52.2.1.toInt64) + (74 : Int64)) / (65537 : Int64) * (65537 : Int64)).toInt32, a52.2.2.2, (0 : Int32), a52.2.2.1)) else (M_X9_night_100 mb x1 x2 x3 rc52 (z81.2, ((((75 : Int64) * a52.2.1.toInt64) + (74 : Int64)) - (((75 : Int64) * a52.2.1.toInt64) + (74 : Int64)) / (65537 : Int64) * (65537 : Int64)).toInt32, a52.2.2.2, (1 : Int32), a52.2.2.1)) else none else none)
def M_X9_night_52 (mb : BT) (x1 : Int32) (x2 : Int32) (x3 : Int32) : Nat → (NT × Int32 × Int32 × Int32) → Option (Int32 × NT)
  | 0 => fun _ => none
  | k + 1 => M_X9_night_52b mb x1 x2 x3 (M_X9_night_52 mb x1 x2 x3 k)
def M_X9_night (mb : BT) (mn : NT) (x1 : Int32) (x2 : Int32) (x3 : Int32) : Option (Int32 × NT) :=
  (M_X9_in x1.toInt64 (0 : Int64) (9999 : Int64)).bind fun z6 => if z6 = 0 then (some ((-2 : Int32), mn)) else ((M_X9_in x2.toInt64 (0 : Int64) (99 : Int64)).bind fun z18 => if z18 = 0 then (some ((-2 : Int32), mn)) else ((M_X9_in x3.toInt64 (0 : Int64) (2 : Int64)).bind fun z30 => if z30 = 0 then (some ((-2 : Int32), mn)) else ((M_X9_begin mb mn).bind fun z40 => M_X9_night_52 mb x1 x2 x3 200 (z40, x1, (0 : Int32), (0 : Int32)))))
def M_X9_oneMinute_128b (mb : BT) (x1 : Int32) (rc128 : LT × Int32 → Option (LT)) (a128 : LT × Int32) : Option (LT) :=
  (M_X9_cells mb).bind fun z130 => if z130 ≤ a128.2 then (some a128.1) else (if vin a128.2 16 then if vin a128.2 16 then rc128 (((upd a128.1.1 a128.2.toNatClampNeg (a128.1.2 a128.2.toNatClampNeg)), a128.1.2), (a128.2 + (1 : Int32))) else none else none)
def M_X9_oneMinute_128 (mb : BT) (x1 : Int32) : Nat → (LT × Int32) → Option (LT)
  | 0 => fun _ => none
  | k + 1 => M_X9_oneMinute_128b mb x1 (M_X9_oneMinute_128 mb x1 k)
def M_X9_oneMinute_120 (mb : BT) (x1 : Int32) (rc30 : LT × Int32 × Int32 → Option (LT)) (a120 : LT × Int32 × Int32) : Option (LT) :=
  rc30 (a120.1, a120.2.1, (a120.2.2 + (1 : Int32)))
def M_X9_oneMinute_114 (mb : BT) (x1 : Int32) (rc30 : LT × Int32 × Int32 → Option (LT)) (rc41 : LT × Int32 × Int32 × Int32 → Option (LT)) (a114 : LT × Int32 × Int32 × Int32) : Option (LT) :=
  rc41 (a114.1, a114.2.1, a114.2.2.1, (a114.2.2.2 + (1 : Int32)))
def M_X9_oneMinute_95 (mb : BT) (x1 : Int32) (rc30 : LT × Int32 × Int32 → Option (LT)) (rc41 : LT × Int32 × Int32 × Int32 → Option (LT)) (a95 : LT × Int32 × Int32 × Int32 × Int32 × Int32 × Int32) : Option (LT) :=
  if a95.2.2.2.2.2.2 = a95.2.2.2.2.2.1 then (if vin a95.2.2.2.2.1 16 then if vin a95.2.2.1 16 then if vin a95.2.2.2.2.1 16 then M_X9_oneMinute_114 mb x1 rc30 rc41 ((a95.1.1, (upd a95.1.2 a95.2.2.2.2.1.toNatClampNeg ((a95.1.2 a95.2.2.2.2.1.toNatClampNeg) + (a95.1.1 a95.2.2.1.toNatClampNeg)))), a95.2.1, a95.2.2.1, a95.2.2.2.1) else none else none else none) else (M_X9_oneMinute_114 mb x1 rc30 rc41 (a95.1, a95.2.1, a95.2.2.1, a95.2.2.2.1))
def M_X9_oneMinute_64 (mb : BT) (x1 : Int32) (rc30 : LT × Int32 × Int32 → Option (LT)) (rc41 : LT × Int32 × Int32 × Int32 → Option (LT)) (a64 : LT × Int32 × Int32 × Int32 × Int32) : Option (LT) :=
  if a64.2.2.2.2 < 0 then (M_X9_oneMinute_114 mb x1 rc30 rc41 (a64.1, a64.2.1, a64.2.2.1, a64.2.2.2.1)) else (if vin a64.2.2.1 16 then if (a64.1.1 a64.2.2.1.toNatClampNeg) ≤ 0 then (M_X9_oneMinute_114 mb x1 rc30 rc41 (a64.1, a64.2.1, a64.2.2.1, a64.2.2.2.1)) else (if x1 = 0 then (M_X9_oneMinute_95 mb x1 rc30 rc41 (a64.1, a64.2.1, a64.2.2.1, a64.2.2.2.1, a64.2.2.2.2, (1 : Int32), ((a64.2.1 >>> (a64.2.2.2.2 &&& 31)) &&& (1 : Int32)))) else (M_X9_oneMinute_95 mb x1 rc30 rc41 (a64.1, a64.2.1, a64.2.2.1, a64.2.2.2.1, a64.2.2.2.2, (0 : Int32), ((a64.2.1 >>> (a64.2.2.2.2 &&& 31)) &&& (1 : Int32))))) else none)
def M_X9_oneMinute_41b (mb : BT) (x1 : Int32) (rc30 : LT × Int32 × Int32 → Option (LT)) (rc41 : LT × Int32 × Int32 × Int32 → Option (LT)) (a41 : LT × Int32 × Int32 × Int32) : Option (LT) :=
  if (5 : Int32) ≤ a41.2.2.2 then (M_X9_oneMinute_120 mb x1 rc30 (a41.1, a41.2.1, a41.2.2.1)) else (if a41.2.2.2 = (4 : Int32) then (M_X9_oneMinute_64 mb x1 rc30 rc41 (a41.1, a41.2.1, a41.2.2.1, a41.2.2.2, a41.2.2.1)) else ((M_X9_beyond mb a41.2.2.1 a41.2.2.2).bind fun z61 => M_X9_oneMinute_64 mb x1 rc30 rc41 (a41.1, a41.2.1, a41.2.2.1, a41.2.2.2, z61)))
def M_X9_oneMinute_41 (mb : BT) (x1 : Int32) (rc30 : LT × Int32 × Int32 → Option (LT)) : Nat → (LT × Int32 × Int32 × Int32) → Option (LT)
  | 0 => fun _ => none
  | k + 1 => M_X9_oneMinute_41b mb x1 rc30 (M_X9_oneMinute_41 mb x1 rc30 k)
def M_X9_oneMinute_30b (mb : BT) (x1 : Int32) (rc30 : LT × Int32 × Int32 → Option (LT)) (a30 : LT × Int32 × Int32) : Option (LT) :=
  (M_X9_cells mb).bind fun z32 => if z32 ≤ a30.2.2 then (M_X9_oneMinute_128 mb x1 200 (a30.1, (0 : Int32))) else (M_X9_oneMinute_41 mb x1 rc30 200 (a30.1, a30.2.1, a30.2.2, (0 : Int32)))
def M_X9_oneMinute_30 (mb : BT) (x1 : Int32) : Nat → (LT × Int32 × Int32) → Option (LT)
  | 0 => fun _ => none
  | k + 1 => M_X9_oneMinute_30b mb x1 (M_X9_oneMinute_30 mb x1 k)
def M_X9_oneMinute_7b (mb : BT) (x1 : Int32) (rc7 : LT × Int32 × Int32 → Option (LT)) (a7 : LT × Int32 × Int32) : Option (LT) :=
  (M_X9_cells mb).bind fun z9 => if z9 ≤ a7.2.2 then (M_X9_oneMinute_30 mb x1 200 (a7.1, a7.2.1, (0 : Int32))) else (if vin a7.2.2 16 then rc7 ((a7.1.1, (upd a7.1.2 a7.2.2.toNatClampNeg (0 : Int32))), a7.2.1, (a7.2.2 + (1 : Int32))) else none)
def M_X9_oneMinute_7 (mb : BT) (x1 : Int32) : Nat → (LT × Int32 × Int32) → Option (LT)
  | 0 => fun _ => none
  | k + 1 => M_X9_oneMinute_7b mb x1 (M_X9_oneMinute_7 mb x1 k)
def M_X9_oneMinute (mb : BT) (ml : LT) (x1 : Int32) : Option (LT) :=
  (M_X9_bare mb).bind fun z1 => M_X9_oneMinute_7 mb x1 200 (ml, z1, (0 : Int32))
def M_X9_place_80 (x1 : Int32) (x2 : Int32) (a80 : BT × Int32 × Int32) : Option (Int32 × BT) :=
  some (a80.2.1, (a80.1.1, a80.1.2.1, a80.1.2.2.1, a80.2.2, a80.1.2.2.2.2.1, a80.1.2.2.2.2.2.1, a80.1.2.2.2.2.2.2.1, a80.1.2.2.2.2.2.2.2.1, a80.1.2.2.2.2.2.2.2.2.1, a80.1.2.2.2.2.2.2.2.2.2))
def M_X9_place_63 (x1 : Int32) (x2 : Int32) (a63 : BT × Int32 × Int32) : Option (Int32 × BT) :=
  if x1 = (1 : Int32) then (M_X9_place_80 x1 x2 ((a63.1.1, a63.1.2.1, a63.2.2, a63.1.2.2.2.1, a63.1.2.2.2.2.1, a63.1.2.2.2.2.2.1, a63.1.2.2.2.2.2.2.1, a63.1.2.2.2.2.2.2.2.1, a63.1.2.2.2.2.2.2.2.2.1, a63.1.2.2.2.2.2.2.2.2.2), a63.2.1, x2)) else (M_X9_place_80 x1 x2 ((a63.1.1, a63.1.2.1, a63.2.2, a63.1.2.2.2.1, a63.1.2.2.2.2.1, a63.1.2.2.2.2.2.1, a63.1.2.2.2.2.2.2.1, a63.1.2.2.2.2.2.2.2.1, a63.1.2.2.2.2.2.2.2.2.1, a63.1.2.2.2.2.2.2.2.2.2), a63.2.1, a63.1.2.2.2.1))
def M_X9_place_49 (x1 : Int32) (x2 : Int32) (a49 : BT × Int32) : Option (Int32 × BT) :=
  if x1 = 0 then (M_X9_place_63 x1 x2 (a49.1, a49.2, x2)) else (M_X9_place_63 x1 x2 (a49.1, a49.2, a49.1.2.2.1))
def M_X9_place (mb : BT) (x1 : Int32) (x2 : Int32) : Option (Int32 × BT) :=
  (M_X9_isCell mb x2).bind fun z2 => if z2 = 0 then (some ((-1 : Int32), mb)) else ((M_X9_in x1.toInt64 (0 : Int64) (1 : Int64)).bind fun z14 => if z14 = 0 then (some ((-2 : Int32), mb)) else ((M_X9_isWall mb x2).bind fun z25 => if z25 = 0 then (if x1 = 0 then (M_X9_place_49 x1 x2 (mb, mb.2.2.1)) else (M_X9_place_49 x1 x2 (mb, mb.2.2.2.1))) else (some ((-3 : Int32), mb))))
def M_X9_post_143 (x1 : Int32) (rc56 : BT × Int32 × Int32 × Int32 → Option (Int32 × BT)) (a143 : BT × Int32 × Int32 × Int32) : Option (Int32 × BT) :=
  rc56 (a143.1, a143.2.1, a143.2.2.1, (a143.2.2.2 + (1 : Int32)))
def M_X9_post_142 (x1 : Int32) (rc56 : BT × Int32 × Int32 × Int32 → Option (Int32 × BT)) (a142 : BT × Int32 × Int32 × Int32) : Option (Int32 × BT) :=
  M_X9_post_143 x1 rc56 (a142.1, a142.2.1, a142.2.2.2, a142.2.2.1)
def M_X9_post_129 (x1 : Int32) (rc56 : BT × Int32 × Int32 × Int32 → Option (Int32 × BT)) (a129 : BT × Int32 × Int32 × Int32 × Int32) : Option (Int32 × BT) :=
  if a129.2.1 ≤ a129.2.2.2.1 then (M_X9_post_142 x1 rc56 (a129.1, a129.2.2.2.2, a129.2.2.1, a129.2.1)) else (M_X9_post_142 x1 rc56 (a129.1, a129.2.2.2.2, a129.2.2.1, a129.2.2.2.1))
def M_X9_post_56b (x1 : Int32) (rc56 : BT × Int32 × Int32 × Int32 → Option (Int32 × BT)) (a56 : BT × Int32 × Int32 × Int32) : Option (Int32 × BT) :=
  (M_X9_cells a56.1).bind fun z60 => if ((4 : Int32) * z60) ≤ a56.2.2.2 then (if x1 = 0 then (some (a56.2.1, (a56.1.1, a56.1.2.1, a56.1.2.2.1, a56.1.2.2.2.1, (a56.1.2.2.2.2.1 - (1 : Int32)), a56.1.2.2.2.2.2.1, a56.1.2.2.2.2.2.2.1, a56.1.2.2.2.2.2.2.2.1, a56.1.2.2.2.2.2.2.2.2.1, a56.1.2.2.2.2.2.2.2.2.2))) else (some (a56.2.2.1, (a56.1.1, a56.1.2.1, a56.1.2.2.1, a56.1.2.2.2.1, (a56.1.2.2.2.2.1 - (1 : Int32)), a56.1.2.2.2.2.2.1, a56.1.2.2.2.2.2.2.1, a56.1.2.2.2.2.2.2.2.1, a56.1.2.2.2.2.2.2.2.2.1, a56.1.2.2.2.2.2.2.2.2.2)))) else (if ¬ (4 : Int32) = 0 then (M_X9_isWall a56.1 (a56.2.2.2 / (4 : Int32))).bind fun z72 => if z72 = 0 then (if ¬ (4 : Int32) = 0 then if vin (a56.1.2.2.2.2.1 - (1 : Int32)) 4 then if ¬ (4 : Int32) = 0 then if vin (a56.1.2.2.2.2.1 - (1 : Int32)) 4 then (M_X9_bare (a56.1.1, a56.1.2.1, a56.1.2.2.1, a56.1.2.2.2.1, a56.1.2.2.2.2.1, a56.1.2.2.2.2.2.1, a56.1.2.2.2.2.2.2.1, (upd a56.1.2.2.2.2.2.2.2.1 (a56.1.2.2.2.2.1 - (1 : Int32)).toNatClampNeg (a56.2.2.2 / (4 : Int32))), (upd a56.1.2.2.2.2.2.2.2.2.1 (a56.1.2.2.2.2.1 - (1 : Int32)).toNatClampNeg (a56.2.2.2 - a56.2.2.2 / (4 : Int32) * (4 : Int32))), a56.1.2.2.2.2.2.2.2.2.2)).bind fun z109 => (M_X9_ones z109).bind fun z112 => if a56.2.2.1 ≤ z112 then (M_X9_post_129 x1 rc56 ((a56.1.1, a56.1.2.1, a56.1.2.2.1, a56.1.2.2.2.1, a56.1.2.2.2.2.1, a56.1.2.2.2.2.2.1, a56.1.2.2.2.2.2.2.1, (upd a56.1.2.2.2.2.2.2.2.1 (a56.1.2.2.2.2.1 - (1 : Int32)).toNatClampNeg (a56.2.2.2 / (4 : Int32))), (upd a56.1.2.2.2.2.2.2.2.2.1 (a56.1.2.2.2.2.1 - (1 : Int32)).toNatClampNeg (a56.2.2.2 - a56.2.2.2 / (4 : Int32) * (4 : Int32))), a56.1.2.2.2.2.2.2.2.2.2), a56.2.2.1, a56.2.2.2, z112, a56.2.1)) else (M_X9_post_129 x1 rc56 ((a56.1.1, a56.1.2.1, a56.1.2.2.1, a56.1.2.2.2.1, a56.1.2.2.2.2.1, a56.1.2.2.2.2.2.1, a56.1.2.2.2.2.2.2.1, (upd a56.1.2.2.2.2.2.2.2.1 (a56.1.2.2.2.2.1 - (1 : Int32)).toNatClampNeg (a56.2.2.2 / (4 : Int32))), (upd a56.1.2.2.2.2.2.2.2.2.1 (a56.1.2.2.2.2.1 - (1 : Int32)).toNatClampNeg (a56.2.2.2 - a56.2.2.2 / (4 : Int32) * (4 : Int32))), a56.1.2.2.2.2.2.2.2.2.2), a56.2.2.1, a56.2.2.2, z112, a56.2.2.2)) else none else none else none else none) else (M_X9_post_143 x1 rc56 (a56.1, a56.2.1, a56.2.2.1, a56.2.2.2)) else none)
def M_X9_post_56 (x1 : Int32) : Nat → (BT × Int32 × Int32 × Int32) → Option (Int32 × BT)
  | 0 => fun _ => none
  | k + 1 => M_X9_post_56b x1 (M_X9_post_56 x1 k)
def M_X9_post (mb : BT) (x1 : Int32) : Option (Int32 × BT) :=
  (M_X9_in x1.toInt64 (0 : Int64) (1 : Int64)).bind fun z4 => if z4 = 0 then (some ((-2 : Int32), mb)) else (if mb.2.2.2.2.1 = (4 : Int32) then (some ((-4 : Int32), mb)) else (if vin ((mb.2.2.2.2.1 + (1 : Int32)) - (1 : Int32)) 4 then M_X9_post_56 x1 200 ((mb.1, mb.2.1, mb.2.2.1, mb.2.2.2.1, (mb.2.2.2.2.1 + (1 : Int32)), mb.2.2.2.2.2.1, mb.2.2.2.2.2.2.1, mb.2.2.2.2.2.2.2.1, mb.2.2.2.2.2.2.2.2.1, (upd mb.2.2.2.2.2.2.2.2.2 ((mb.2.2.2.2.1 + (1 : Int32)) - (1 : Int32)).toNatClampNeg (0 : Int32))), (-6 : Int32), (1000 : Int32), (0 : Int32)) else none))
def M_X9_restore (mb : BT) (mi : IT) (x1 : Int32) : Option (Int32 × BT × IT) :=
  (M_X9_in x1.toInt64 (0 : Int64) (1 : Int64)).bind fun z4 => if z4 = 0 then (some ((-2 : Int32), mb, mi)) else (if vin x1 2 then if (mi.2.2.2 x1.toNatClampNeg) = 0 then (some ((-3 : Int32), mb, mi)) else (if vp_nar .boolean (0 : Int32) = (0 : Int32) then (M_X9_passAll mb (((40 : Int32) * x1), (0 : Int32), mi.2.2.1, mi.2.2.2)).bind fun z39 => some ((1 : Int32), z39.1, z39.2) else none) else none)
def M_X9_safe (mb : BT) (mf : AR) (mt : TT) (x1 : Int32) : Option (Int32 × AR × TT) :=
  (M_X9_bare mb).bind fun z1 => (M_X9_findFar mb mf mb.2.2.2.1 z1).bind fun z16 => if vin mb.2.2.1 16 then if (z16 mb.2.2.1.toNatClampNeg) = (1000 : Int32) then (some ((-6 : Int32), z16, ((0 : Int32), mt.2))) else ((M_X9_layWay mb z16 ((0 : Int32), mt.2) mb.2.2.1 mb.2.2.2.1 z1).bind fun z47 => (M_X9_findFar mb z47.1 mb.2.2.1 (z1 ||| ((1 : Int32) <<< (mb.2.2.1 &&& 31)))).bind fun z65 => if vin mb.2.2.2.1 16 then if (z65 mb.2.2.2.1.toNatClampNeg) = (1000 : Int32) then (some ((-6 : Int32), z65, z47.2)) else ((M_X9_layWay mb z65 z47.2 mb.2.2.2.1 mb.2.2.1 (z1 ||| ((1 : Int32) <<< (mb.2.2.1 &&& 31)))).bind fun z96 => if x1 = (-1 : Int32) then (some (z96.2.1, z96.1, z96.2)) else ((M_X9_in x1.toInt64 (0 : Int64) ((z96.2.1 - (1 : Int32)).toInt64)).bind fun z121 => if z121 = 0 then (some ((-6 : Int32), z96.1, z96.2)) else (if vin x1 32 then some ((z96.2.2 x1.toNatClampNeg), z96.1, z96.2) else none))) else none) else none
def M_X9_say (mo : OT) (x1 : Int32) : Option (Int32 × OT) :=
  (M_X9_in x1.toInt64 (33 : Int64) (126 : Int64)).bind fun z8 => if z8 = 0 then (some ((-2 : Int32), mo)) else (if mo.1 = (40 : Int32) then (some ((-4 : Int32), mo)) else (if vin mo.1 40 then some ((mo.1 + (1 : Int32)), ((mo.1 + (1 : Int32)), (upd mo.2 mo.1.toNatClampNeg x1))) else none))
def M_X9_sees (mb : BT) (x1 : Int32) : Option (Int32) :=
  (M_X9_in x1.toInt64 (0 : Int64) ((mb.2.2.2.2.1 - (1 : Int32)).toInt64)).bind fun z10 => if z10 = 0 then (some (-1 : Int32)) else ((M_X9_seenBy mb x1).bind fun z18 => some z18)
def M_X9_told (mb : BT) (mo : OT) (x1 : Int32) : Option (Int32) :=
  (M_X9_in x1.toInt64 (10 : Int64) (49 : Int64)).bind fun z8 => if z8 = 0 then (if x1 = (0 : Int32) then (some mo.1) else (if x1 = (1 : Int32) then (some mb.1) else (if x1 = (2 : Int32) then (some mb.2.1) else (if x1 = (3 : Int32) then (some mb.2.2.1) else (if x1 = (4 : Int32) then (some mb.2.2.2.1) else (if x1 = (5 : Int32) then (some mb.2.2.2.2.1) else (if x1 = (6 : Int32) then (some mb.2.2.2.2.2.1) else (some (-2 : Int32))))))))) else (if ¬ (10 : Int32) = 0 then if ¬ (10 : Int32) = 0 then if mb.2.2.2.2.1 ≤ ((x1 / (10 : Int32)) - (1 : Int32)) then (some (-2 : Int32)) else (if (x1 - x1 / (10 : Int32) * (10 : Int32)) ≤ (2 : Int32) then (if (x1 - x1 / (10 : Int32) * (10 : Int32)) = 0 then (if vin ((x1 / (10 : Int32)) - (1 : Int32)) 4 then some (mb.2.2.2.2.2.2.2.1 ((x1 / (10 : Int32)) - (1 : Int32)).toNatClampNeg) else none) else (if (x1 - x1 / (10 : Int32) * (10 : Int32)) = (1 : Int32) then (if vin ((x1 / (10 : Int32)) - (1 : Int32)) 4 then some (mb.2.2.2.2.2.2.2.2.1 ((x1 / (10 : Int32)) - (1 : Int32)).toNatClampNeg) else none) else (if vin ((x1 / (10 : Int32)) - (1 : Int32)) 4 then some (mb.2.2.2.2.2.2.2.2.2 ((x1 / (10 : Int32)) - (1 : Int32)).toNatClampNeg) else none))) else (some (-2 : Int32))) else none else none)
def M_X9_watch_84 (x1 : Int32) (x2 : Int32) (x3 : Int32) (a84 : BT × Int32 × Int32) : Option (Int32 × BT) :=
  if vin a84.2.2 4 then some ((a84.1.2.2.2.2.1 + (1 : Int32)), (a84.1.1, a84.1.2.1, a84.1.2.2.1, a84.1.2.2.2.1, (a84.1.2.2.2.2.1 + (1 : Int32)), a84.1.2.2.2.2.2.1, a84.1.2.2.2.2.2.2.1, a84.1.2.2.2.2.2.2.2.1, a84.1.2.2.2.2.2.2.2.2.1, (upd a84.1.2.2.2.2.2.2.2.2.2 a84.2.2.toNatClampNeg a84.2.1))) else none
def M_X9_watch (mb : BT) (x1 : Int32) (x2 : Int32) (x3 : Int32) : Option (Int32 × BT) :=
  (M_X9_isCell mb x1).bind fun z2 => if z2 = 0 then (some ((-1 : Int32), mb)) else ((M_X9_in x2.toInt64 (0 : Int64) (3 : Int64)).bind fun z16 => if z16 = 0 then (some ((-2 : Int32), mb)) else ((M_X9_isWall mb x1).bind fun z27 => if z27 = 0 then (if mb.2.2.2.2.1 = (4 : Int32) then (some ((-4 : Int32), mb)) else (if vin mb.2.2.2.2.1 4 then if vin mb.2.2.2.2.1 4 then if x3 = 0 then (M_X9_watch_84 x1 x2 x3 ((mb.1, mb.2.1, mb.2.2.1, mb.2.2.2.1, mb.2.2.2.2.1, mb.2.2.2.2.2.1, mb.2.2.2.2.2.2.1, (upd mb.2.2.2.2.2.2.2.1 mb.2.2.2.2.1.toNatClampNeg x1), (upd mb.2.2.2.2.2.2.2.2.1 mb.2.2.2.2.1.toNatClampNeg x2), mb.2.2.2.2.2.2.2.2.2), (0 : Int32), mb.2.2.2.2.1)) else (M_X9_watch_84 x1 x2 x3 ((mb.1, mb.2.1, mb.2.2.1, mb.2.2.2.1, mb.2.2.2.2.1, mb.2.2.2.2.2.1, mb.2.2.2.2.2.2.1, (upd mb.2.2.2.2.2.2.2.1 mb.2.2.2.2.1.toNatClampNeg x1), (upd mb.2.2.2.2.2.2.2.2.1 mb.2.2.2.2.1.toNatClampNeg x2), mb.2.2.2.2.2.2.2.2.2), (1 : Int32), mb.2.2.2.2.1)) else none else none)) else (some ((-3 : Int32), mb))))
def M_X9_where_165 (mb : BT) (x1 : Int32) (x2 : Int32) (x3 : Int32) (rc136 : LT × Int32 × Int32 × Int32 → Option (Int32 × LT)) (a165 : LT × Int32 × Int32 × Int32 × Int32) : Option (Int32 × LT) :=
  if vin a165.2.2.1 16 then rc136 (a165.1, (a165.2.2.2.2 ||| a165.2.2.2.1), (a165.2.1 + (a165.1.1 a165.2.2.1.toNatClampNeg)), (a165.2.2.1 + (1 : Int32))) else none
def M_X9_where_136b (mb : BT) (x1 : Int32) (x2 : Int32) (x3 : Int32) (rc136 : LT × Int32 × Int32 × Int32 → Option (Int32 × LT)) (a136 : LT × Int32 × Int32 × Int32) : Option (Int32 × LT) :=
  (M_X9_cells mb).bind fun z139 => if z139 ≤ a136.2.2.2 then (if x3 = 0 then (some (a136.2.1, a136.1)) else (some (a136.2.2.1, a136.1))) else (if vin a136.2.2.2 16 then if (a136.1.1 a136.2.2.2.toNatClampNeg) ≤ 0 then (M_X9_where_165 mb x1 x2 x3 rc136 (a136.1, a136.2.2.1, a136.2.2.2, (0 : Int32), a136.2.1)) else (M_X9_where_165 mb x1 x2 x3 rc136 (a136.1, a136.2.2.1, a136.2.2.2, ((1 : Int32) <<< (a136.2.2.2 &&& 31)), a136.2.1)) else none)
def M_X9_where_136 (mb : BT) (x1 : Int32) (x2 : Int32) (x3 : Int32) : Nat → (LT × Int32 × Int32 × Int32) → Option (Int32 × LT)
  | 0 => fun _ => none
  | k + 1 => M_X9_where_136b mb x1 x2 x3 (M_X9_where_136 mb x1 x2 x3 k)
def M_X9_where_118 (mb : BT) (x1 : Int32) (x2 : Int32) (x3 : Int32) (rc96 : LT × Int32 → Option (Int32 × LT)) (a118 : LT × Int32 × Int32) : Option (Int32 × LT) :=
  (M_X9_oneMinute mb a118.1 a118.2.2).bind fun z118 => rc96 (z118, (a118.2.1 + (1 : Int32)))
def M_X9_where_96b (mb : BT) (x1 : Int32) (x2 : Int32) (x3 : Int32) (rc96 : LT × Int32 → Option (Int32 × LT)) (a96 : LT × Int32) : Option (Int32 × LT) :=
  if x2 ≤ a96.2 then (M_X9_where_136 mb x1 x2 x3 200 (a96.1, (0 : Int32), (0 : Int32), (0 : Int32))) else (if ((x1 >>> (a96.2 &&& 31)) &&& (1 : Int32)) = (1 : Int32) then (M_X9_where_118 mb x1 x2 x3 rc96 (a96.1, a96.2, (1 : Int32))) else (M_X9_where_118 mb x1 x2 x3 rc96 (a96.1, a96.2, (0 : Int32))))
def M_X9_where_96 (mb : BT) (x1 : Int32) (x2 : Int32) (x3 : Int32) : Nat → (LT × Int32) → Option (Int32 × LT)
  | 0 => fun _ => none
  | k + 1 => M_X9_where_96b mb x1 x2 x3 (M_X9_where_96 mb x1 x2 x3 k)
def M_X9_where_86 (mb : BT) (x1 : Int32) (x2 : Int32) (x3 : Int32) (rc59 : LT × Int32 → Option (Int32 × LT)) (a86 : LT × Int32 × Int32 × Int32) : Option (Int32 × LT) :=
  if vin a86.2.2.2 16 then rc59 (((upd a86.1.1 a86.2.2.2.toNatClampNeg a86.2.2.1), a86.1.2), (a86.2.1 + (1 : Int32))) else none
def M_X9_where_59b (mb : BT) (x1 : Int32) (x2 : Int32) (x3 : Int32) (rc59 : LT × Int32 → Option (Int32 × LT)) (a59 : LT × Int32) : Option (Int32 × LT) :=
  if (16 : Int32) ≤ a59.2 then (M_X9_where_96 mb x1 x2 x3 200 (a59.1, (0 : Int32))) else (if a59.2 = mb.2.2.1 then (M_X9_where_86 mb x1 x2 x3 rc59 (a59.1, a59.2, (1 : Int32), a59.2)) else (M_X9_where_86 mb x1 x2 x3 rc59 (a59.1, a59.2, (0 : Int32), a59.2)))
def M_X9_where_59 (mb : BT) (x1 : Int32) (x2 : Int32) (x3 : Int32) : Nat → (LT × Int32) → Option (Int32 × LT)
  | 0 => fun _ => none
  | k + 1 => M_X9_where_59b mb x1 x2 x3 (M_X9_where_59 mb x1 x2 x3 k)
def M_X9_where_43 (mb : BT) (x1 : Int32) (x2 : Int32) (x3 : Int32) (a43 : LT × Int32 × Int32 × Int64 × Int64) : Option (Int32 × LT) :=
  (M_X9_in a43.2.2.2.2 a43.2.2.2.1 (((a43.2.2.1 <<< (a43.2.1 &&& 31)) - (1 : Int32)).toInt64)).bind fun z47 => if z47 = 0 then (some ((-2 : Int32), a43.1)) else (M_X9_where_59 mb x1 x2 x3 200 (a43.1, (0 : Int32)))
def M_X9_where (mb : BT) (ml : LT) (x1 : Int32) (x2 : Int32) (x3 : Int32) : Option (Int32 × LT) :=
  (M_X9_in x2.toInt64 (0 : Int64) (8 : Int64)).bind fun z6 => if z6 = 0 then (some ((-2 : Int32), ml)) else ((M_X9_in x3.toInt64 (0 : Int64) (1 : Int64)).bind fun z16 => if z16 = 0 then (some ((-2 : Int32), ml)) else ((M_X9_in x2.toInt64 (0 : Int64) (8 : Int64)).bind fun z32 => if z32 = 0 then (M_X9_where_43 mb x1 x2 x3 (ml, (0 : Int32), (1 : Int32), (0 : Int64), x1.toInt64)) else (M_X9_where_43 mb x1 x2 x3 (ml, x2, (1 : Int32), (0 : Int64), x1.toInt64))))
def M_X9_wind_22 (mb : BT) (mo : OT) (x1 : Int32) (x2 : Int32) (a22 : NT × GT) : Option (Int64 × NT × GT) :=
  some ((-1000000000000000002 : Int64), a22.1, a22.2)
def M_X9_wind_80b (mb : BT) (mo : OT) (x1 : Int32) (x2 : Int32) (rc80 : NT × GT × Int64 × Int64 × Int32 → Option (Int64 × NT × GT)) (a80 : NT × GT × Int64 × Int64 × Int32) : Option (Int64 × NT × GT) :=
  if a80.2.1.2.2.2.2.2 ≤ a80.2.2.2.2 then ((M_X9_lowest a80.2.2.1 a80.2.2.2.1 x2).bind fun z115 => some (z115, a80.1, a80.2.1)) else (rc80 (a80.1, a80.2.1, (a80.2.2.1 * x1.toInt64), (a80.2.2.2.1 * (10 : Int64)), (a80.2.2.2.2 + (1 : Int32))))
def M_X9_wind_80 (mb : BT) (mo : OT) (x1 : Int32) (x2 : Int32) : Nat → (NT × GT × Int64 × Int64 × Int32) → Option (Int64 × NT × GT)
  | 0 => fun _ => none
  | k + 1 => M_X9_wind_80b mb mo x1 x2 (M_X9_wind_80 mb mo x1 x2 k)
def M_X9_wind (mb : BT) (mo : OT) (mn : NT) (mg : GT) (x1 : Int32) (x2 : Int32) : Option (Int64 × NT × GT) :=
  (M_X9_in x1.toInt64 (0 : Int64) (10 : Int64)).bind fun z6 => if z6 = 0 then (M_X9_wind_22 mb mo x1 x2 (mn, mg)) else ((M_X9_in x2.toInt64 (0 : Int64) (1 : Int64)).bind fun z16 => if z16 = 0 then (M_X9_wind_22 mb mo x1 x2 (mn, mg)) else ((M_X9_refusal mb mo mn mg).bind fun z27 => if z27.1 = (-6 : Int32) then (if z27.2.2.2.2.2.2.2 ≤ (12 : Int32) then (if z27.2.2.2.2.2.2.1 ≤ z27.2.2.2.2.2.2.2 then (M_X9_wind_80 mb mo x1 x2 200 (z27.2.1, z27.2.2, (1 : Int64), (1 : Int64), (0 : Int32))) else (some (x2.toInt64, z27.2.1, z27.2.2))) else (some ((-1000000000000000004 : Int64), z27.2.1, z27.2.2))) else (some (((-1000000000000000000 : Int64) + z27.1.toInt64), z27.2.1, z27.2.2))))
def M_X9_wipe (mo : OT) : Option (Int32 × OT) :=
  some (mo.1, ((0 : Int32), mo.2))
end
section
/-! The law's loop, as a pure model (printed) -/
def M_L_law_773 (L : Nat) (xs : Nat → Int32) (rc18 : PT × HT × VT × Int32 × HT × VT × Int32 × HT × VT × RT × DT × YT × QT × BT × OT × NT × GT × AR × TT × AR × LT × IT × Int32 → Option (Unit)) (a773 : PT × HT × VT × Int32 × HT × VT × Int32 × HT × VT × RT × DT × YT × QT × BT × OT × NT × GT × AR × TT × AR × LT × IT × Int32) : Option (Unit) :=
  rc18 (a773.1, a773.2.1, a773.2.2.1, a773.2.2.2.1, a773.2.2.2.2.1, a773.2.2.2.2.2.1, a773.2.2.2.2.2.2.1, a773.2.2.2.2.2.2.2.1, a773.2.2.2.2.2.2.2.2.1, a773.2.2.2.2.2.2.2.2.2.1, a773.2.2.2.2.2.2.2.2.2.2.1, a773.2.2.2.2.2.2.2.2.2.2.2.1, a773.2.2.2.2.2.2.2.2.2.2.2.2.1, a773.2.2.2.2.2.2.2.2.2.2.2.2.2.1, a773.2.2.2.2.2.2.2.2.2.2.2.2.2.2.1, a773.2.2.2.2.2.2.2.2.2.2.2.2.2.2.2.1, a773.2.2.2.2.2.2.2.2.2.2.2.2.2.2.2.2.1, a773.2.2.2.2.2.2.2.2.2.2.2.2.2.2.2.2.2.1, a773.2.2.2.2.2.2.2.2.2.2.2.2.2.2.2.2.2.2.1, a773.2.2.2.2.2.2.2.2.2.2.2.2.2.2.2.2.2.2.2.1, a773.2.2.2.2.2.2.2.2.2.2.2.2.2.2.2.2.2.2.2.2.1, a773.2.2.2.2.2.2.2.2.2.2.2.2.2.2.2.2.2.2.2.2.2.1, (a773.2.2.2.2.2.2.2.2.2.2.2.2.2.2.2.2.2.2.2.2.2.2 + (4 : Int32)))
def M_L_law_356 (L : Nat) (xs : Nat → Int32) (rc18 : PT × HT × VT × Int32 × HT × VT × Int32 × HT × VT × RT × DT × YT × QT × BT × OT × NT × GT × AR × TT × AR × LT × IT × Int32 → Option (Unit)) (a356 : PT × HT × VT × Int32 × HT × VT × Int32 × HT × VT × RT × DT × YT × QT × BT × OT × NT × GT × AR × TT × AR × LT × IT × Int32 × Int32 × Int32 × Int32 × Int32) : Option (Unit) :=
  (M_X9_watch a356.2.2.2.2.2.2.2.2.2.2.2.2.2.1 a356.2.2.2.2.2.2.2.2.2.2.2.2.2.2.2.2.2.2.2.2.2.2.2.2.2.1 a356.2.2.2.2.2.2.2.2.2.2.2.2.2.2.2.2.2.2.2.2.2.2.2.2.1 a356.2.2.2.2.2.2.2.2.2.2.2.2.2.2.2.2.2.2.2.2.2.2.2.1).bind fun z356 => if a356.2.2.2.2.2.2.2.2.2.2.2.2.2.2.2.2.2.2.2.2.2.2.2.2.2.2 = z356.1 then (M_L_law_773 L xs rc18 (a356.1, a356.2.1, a356.2.2.1, a356.2.2.2.1, a356.2.2.2.2.1, a356.2.2.2.2.2.1, a356.2.2.2.2.2.2.1, a356.2.2.2.2.2.2.2.1, a356.2.2.2.2.2.2.2.2.1, a356.2.2.2.2.2.2.2.2.2.1, a356.2.2.2.2.2.2.2.2.2.2.1, a356.2.2.2.2.2.2.2.2.2.2.2.1, a356.2.2.2.2.2.2.2.2.2.2.2.2.1, z356.2, a356.2.2.2.2.2.2.2.2.2.2.2.2.2.2.1, a356.2.2.2.2.2.2.2.2.2.2.2.2.2.2.2.1, a356.2.2.2.2.2.2.2.2.2.2.2.2.2.2.2.2.1, a356.2.2.2.2.2.2.2.2.2.2.2.2.2.2.2.2.2.1, a356.2.2.2.2.2.2.2.2.2.2.2.2.2.2.2.2.2.2.1, a356.2.2.2.2.2.2.2.2.2.2.2.2.2.2.2.2.2.2.2.1, a356.2.2.2.2.2.2.2.2.2.2.2.2.2.2.2.2.2.2.2.2.1, a356.2.2.2.2.2.2.2.2.2.2.2.2.2.2.2.2.2.2.2.2.2.1, a356.2.2.2.2.2.2.2.2.2.2.2.2.2.2.2.2.2.2.2.2.2.2.1)) else (none)
def M_L_law_329 (L : Nat) (xs : Nat → Int32) (rc18 : PT × HT × VT × Int32 × HT × VT × Int32 × HT × VT × RT × DT × YT × QT × BT × OT × NT × GT × AR × TT × AR × LT × IT × Int32 → Option (Unit)) (a329 : PT × HT × VT × Int32 × HT × VT × Int32 × HT × VT × RT × DT × YT × QT × BT × OT × NT × GT × AR × TT × AR × LT × IT × Int32 × Int32 × Int32 × Int32) : Option (Unit) :=
  (M_X8_watch a329.2.1 a329.2.2.1 a329.2.2.2.2.2.2.2.2.2.2.2.2.2.2.2.2.2.2.2.2.2.2.2.2.2 a329.2.2.2.2.2.2.2.2.2.2.2.2.2.2.2.2.2.2.2.2.2.2.2.2.1 a329.2.2.2.2.2.2.2.2.2.2.2.2.2.2.2.2.2.2.2.2.2.2.2.1).bind fun z329 => if vin (a329.2.2.2.2.2.2.2.2.2.2.2.2.2.2.2.2.2.2.2.2.2.2.1 + (1 : Int32)) L then if vin (a329.2.2.2.2.2.2.2.2.2.2.2.2.2.2.2.2.2.2.2.2.2.2.1 + (2 : Int32)) L then if vin (a329.2.2.2.2.2.2.2.2.2.2.2.2.2.2.2.2.2.2.2.2.2.2.1 + (3 : Int32)) L then if (xs (a329.2.2.2.2.2.2.2.2.2.2.2.2.2.2.2.2.2.2.2.2.2.2.1 + (3 : Int32)).toNatClampNeg) = 0 then (M_L_law_356 L xs rc18 (a329.1, a329.2.1, z329.2, a329.2.2.2.1, a329.2.2.2.2.1, a329.2.2.2.2.2.1, a329.2.2.2.2.2.2.1, a329.2.2.2.2.2.2.2.1, a329.2.2.2.2.2.2.2.2.1, a329.2.2.2.2.2.2.2.2.2.1, a329.2.2.2.2.2.2.2.2.2.2.1, a329.2.2.2.2.2.2.2.2.2.2.2.1, a329.2.2.2.2.2.2.2.2.2.2.2.2.1, a329.2.2.2.2.2.2.2.2.2.2.2.2.2.1, a329.2.2.2.2.2.2.2.2.2.2.2.2.2.2.1, a329.2.2.2.2.2.2.2.2.2.2.2.2.2.2.2.1, a329.2.2.2.2.2.2.2.2.2.2.2.2.2.2.2.2.1, a329.2.2.2.2.2.2.2.2.2.2.2.2.2.2.2.2.2.1, a329.2.2.2.2.2.2.2.2.2.2.2.2.2.2.2.2.2.2.1, a329.2.2.2.2.2.2.2.2.2.2.2.2.2.2.2.2.2.2.2.1, a329.2.2.2.2.2.2.2.2.2.2.2.2.2.2.2.2.2.2.2.2.1, a329.2.2.2.2.2.2.2.2.2.2.2.2.2.2.2.2.2.2.2.2.2.1, a329.2.2.2.2.2.2.2.2.2.2.2.2.2.2.2.2.2.2.2.2.2.2.1, (0 : Int32), (xs (a329.2.2.2.2.2.2.2.2.2.2.2.2.2.2.2.2.2.2.2.2.2.2.1 + (2 : Int32)).toNatClampNeg), (xs (a329.2.2.2.2.2.2.2.2.2.2.2.2.2.2.2.2.2.2.2.2.2.2.1 + (1 : Int32)).toNatClampNeg), z329.1)) else (M_L_law_356 L xs rc18 (a329.1, a329.2.1, z329.2, a329.2.2.2.1, a329.2.2.2.2.1, a329.2.2.2.2.2.1, a329.2.2.2.2.2.2.1, a329.2.2.2.2.2.2.2.1, a329.2.2.2.2.2.2.2.2.1, a329.2.2.2.2.2.2.2.2.2.1, a329.2.2.2.2.2.2.2.2.2.2.1, a329.2.2.2.2.2.2.2.2.2.2.2.1, a329.2.2.2.2.2.2.2.2.2.2.2.2.1, a329.2.2.2.2.2.2.2.2.2.2.2.2.2.1, a329.2.2.2.2.2.2.2.2.2.2.2.2.2.2.1, a329.2.2.2.2.2.2.2.2.2.2.2.2.2.2.2.1, a329.2.2.2.2.2.2.2.2.2.2.2.2.2.2.2.2.1, a329.2.2.2.2.2.2.2.2.2.2.2.2.2.2.2.2.2.1, a329.2.2.2.2.2.2.2.2.2.2.2.2.2.2.2.2.2.2.1, a329.2.2.2.2.2.2.2.2.2.2.2.2.2.2.2.2.2.2.2.1, a329.2.2.2.2.2.2.2.2.2.2.2.2.2.2.2.2.2.2.2.2.1, a329.2.2.2.2.2.2.2.2.2.2.2.2.2.2.2.2.2.2.2.2.2.1, a329.2.2.2.2.2.2.2.2.2.2.2.2.2.2.2.2.2.2.2.2.2.2.1, (1 : Int32), (xs (a329.2.2.2.2.2.2.2.2.2.2.2.2.2.2.2.2.2.2.2.2.2.2.1 + (2 : Int32)).toNatClampNeg), (xs (a329.2.2.2.2.2.2.2.2.2.2.2.2.2.2.2.2.2.2.2.2.2.2.1 + (1 : Int32)).toNatClampNeg), z329.1)) else none else none else none
def M_L_law_18b (L : Nat) (xs : Nat → Int32) (rc18 : PT × HT × VT × Int32 × HT × VT × Int32 × HT × VT × RT × DT × YT × QT × BT × OT × NT × GT × AR × TT × AR × LT × IT × Int32 → Option (Unit)) (a18 : PT × HT × VT × Int32 × HT × VT × Int32 × HT × VT × RT × DT × YT × QT × BT × OT × NT × GT × AR × TT × AR × LT × IT × Int32) : Option (Unit) :=
  if ((Int32.ofNat L) - (4 : Int32)) < a18.2.2.2.2.2.2.2.2.2.2.2.2.2.2.2.2.2.2.2.2.2.2 then (some ()) else (if vin a18.2.2.2.2.2.2.2.2.2.2.2.2.2.2.2.2.2.2.2.2.2.2 L then if ((xs a18.2.2.2.2.2.2.2.2.2.2.2.2.2.2.2.2.2.2.2.2.2.2.toNatClampNeg) &&& (31 : Int32)) = (0 : Int32) then (if vin (a18.2.2.2.2.2.2.2.2.2.2.2.2.2.2.2.2.2.2.2.2.2.2 + (1 : Int32)) L then if vin (a18.2.2.2.2.2.2.2.2.2.2.2.2.2.2.2.2.2.2.2.2.2.2 + (2 : Int32)) L then (M_X8_house a18.2.1 a18.2.2.1 (xs (a18.2.2.2.2.2.2.2.2.2.2.2.2.2.2.2.2.2.2.2.2.2.2 + (1 : Int32)).toNatClampNeg) (xs (a18.2.2.2.2.2.2.2.2.2.2.2.2.2.2.2.2.2.2.2.2.2.2 + (2 : Int32)).toNatClampNeg)).bind fun z155 => if vin (a18.2.2.2.2.2.2.2.2.2.2.2.2.2.2.2.2.2.2.2.2.2.2 + (1 : Int32)) L then if vin (a18.2.2.2.2.2.2.2.2.2.2.2.2.2.2.2.2.2.2.2.2.2.2 + (2 : Int32)) L then (M_X9_house a18.2.2.2.2.2.2.2.2.2.2.2.2.2.1 (xs (a18.2.2.2.2.2.2.2.2.2.2.2.2.2.2.2.2.2.2.2.2.2.2 + (1 : Int32)).toNatClampNeg) (xs (a18.2.2.2.2.2.2.2.2.2.2.2.2.2.2.2.2.2.2.2.2.2.2 + (2 : Int32)).toNatClampNeg)).bind fun z169 => if z155.1 = z169.1 then (M_L_law_773 L xs rc18 (a18.1, z155.2.1, z155.2.2, a18.2.2.2.1, a18.2.2.2.2.1, a18.2.2.2.2.2.1, a18.2.2.2.2.2.2.1, a18.2.2.2.2.2.2.2.1, a18.2.2.2.2.2.2.2.2.1, a18.2.2.2.2.2.2.2.2.2.1, a18.2.2.2.2.2.2.2.2.2.2.1, a18.2.2.2.2.2.2.2.2.2.2.2.1, a18.2.2.2.2.2.2.2.2.2.2.2.2.1, z169.2, a18.2.2.2.2.2.2.2.2.2.2.2.2.2.2.1, a18.2.2.2.2.2.2.2.2.2.2.2.2.2.2.2.1, a18.2.2.2.2.2.2.2.2.2.2.2.2.2.2.2.2.1, a18.2.2.2.2.2.2.2.2.2.2.2.2.2.2.2.2.2.1, a18.2.2.2.2.2.2.2.2.2.2.2.2.2.2.2.2.2.2.1, a18.2.2.2.2.2.2.2.2.2.2.2.2.2.2.2.2.2.2.2.1, a18.2.2.2.2.2.2.2.2.2.2.2.2.2.2.2.2.2.2.2.2.1, a18.2.2.2.2.2.2.2.2.2.2.2.2.2.2.2.2.2.2.2.2.2.1, a18.2.2.2.2.2.2.2.2.2.2.2.2.2.2.2.2.2.2.2.2.2.2)) else (none) else none else none else none else none) else (if ((xs a18.2.2.2.2.2.2.2.2.2.2.2.2.2.2.2.2.2.2.2.2.2.2.toNatClampNeg) &&& (31 : Int32)) = (1 : Int32) then (if vin (a18.2.2.2.2.2.2.2.2.2.2.2.2.2.2.2.2.2.2.2.2.2.2 + (1 : Int32)) L then (M_X8_say a18.1 (xs (a18.2.2.2.2.2.2.2.2.2.2.2.2.2.2.2.2.2.2.2.2.2.2 + (1 : Int32)).toNatClampNeg)).bind fun z183 => if vin (a18.2.2.2.2.2.2.2.2.2.2.2.2.2.2.2.2.2.2.2.2.2.2 + (1 : Int32)) L then (M_X9_say a18.2.2.2.2.2.2.2.2.2.2.2.2.2.2.1 (xs (a18.2.2.2.2.2.2.2.2.2.2.2.2.2.2.2.2.2.2.2.2.2.2 + (1 : Int32)).toNatClampNeg)).bind fun z192 => if z183.1 = z192.1 then (M_L_law_773 L xs rc18 (z183.2, a18.2.1, a18.2.2.1, a18.2.2.2.1, a18.2.2.2.2.1, a18.2.2.2.2.2.1, a18.2.2.2.2.2.2.1, a18.2.2.2.2.2.2.2.1, a18.2.2.2.2.2.2.2.2.1, a18.2.2.2.2.2.2.2.2.2.1, a18.2.2.2.2.2.2.2.2.2.2.1, a18.2.2.2.2.2.2.2.2.2.2.2.1, a18.2.2.2.2.2.2.2.2.2.2.2.2.1, a18.2.2.2.2.2.2.2.2.2.2.2.2.2.1, z192.2, a18.2.2.2.2.2.2.2.2.2.2.2.2.2.2.2.1, a18.2.2.2.2.2.2.2.2.2.2.2.2.2.2.2.2.1, a18.2.2.2.2.2.2.2.2.2.2.2.2.2.2.2.2.2.1, a18.2.2.2.2.2.2.2.2.2.2.2.2.2.2.2.2.2.2.1, a18.2.2.2.2.2.2.2.2.2.2.2.2.2.2.2.2.2.2.2.1, a18.2.2.2.2.2.2.2.2.2.2.2.2.2.2.2.2.2.2.2.2.1, a18.2.2.2.2.2.2.2.2.2.2.2.2.2.2.2.2.2.2.2.2.2.1, a18.2.2.2.2.2.2.2.2.2.2.2.2.2.2.2.2.2.2.2.2.2.2)) else (none) else none else none) else (if ((xs a18.2.2.2.2.2.2.2.2.2.2.2.2.2.2.2.2.2.2.2.2.2.2.toNatClampNeg) &&& (31 : Int32)) = (2 : Int32) then ((M_X8_wipe a18.1).bind fun z201 => (M_X9_wipe a18.2.2.2.2.2.2.2.2.2.2.2.2.2.2.1).bind fun z205 => if z201.1 = z205.1 then (M_L_law_773 L xs rc18 (z201.2, a18.2.1, a18.2.2.1, a18.2.2.2.1, a18.2.2.2.2.1, a18.2.2.2.2.2.1, a18.2.2.2.2.2.2.1, a18.2.2.2.2.2.2.2.1, a18.2.2.2.2.2.2.2.2.1, a18.2.2.2.2.2.2.2.2.2.1, a18.2.2.2.2.2.2.2.2.2.2.1, a18.2.2.2.2.2.2.2.2.2.2.2.1, a18.2.2.2.2.2.2.2.2.2.2.2.2.1, a18.2.2.2.2.2.2.2.2.2.2.2.2.2.1, z205.2, a18.2.2.2.2.2.2.2.2.2.2.2.2.2.2.2.1, a18.2.2.2.2.2.2.2.2.2.2.2.2.2.2.2.2.1, a18.2.2.2.2.2.2.2.2.2.2.2.2.2.2.2.2.2.1, a18.2.2.2.2.2.2.2.2.2.2.2.2.2.2.2.2.2.2.1, a18.2.2.2.2.2.2.2.2.2.2.2.2.2.2.2.2.2.2.2.1, a18.2.2.2.2.2.2.2.2.2.2.2.2.2.2.2.2.2.2.2.2.1, a18.2.2.2.2.2.2.2.2.2.2.2.2.2.2.2.2.2.2.2.2.2.1, a18.2.2.2.2.2.2.2.2.2.2.2.2.2.2.2.2.2.2.2.2.2.2)) else (none)) else (if ((xs a18.2.2.2.2.2.2.2.2.2.2.2.2.2.2.2.2.2.2.2.2.2.2.toNatClampNeg) &&& (31 : Int32)) = (3 : Int32) then (if vin (a18.2.2.2.2.2.2.2.2.2.2.2.2.2.2.2.2.2.2.2.2.2.2 + (1 : Int32)) L then (M_X8_fault a18.1 a18.2.1 (xs (a18.2.2.2.2.2.2.2.2.2.2.2.2.2.2.2.2.2.2.2.2.2.2 + (1 : Int32)).toNatClampNeg)).bind fun z219 => if vin (a18.2.2.2.2.2.2.2.2.2.2.2.2.2.2.2.2.2.2.2.2.2.2 + (1 : Int32)) L then (M_X9_fault a18.2.2.2.2.2.2.2.2.2.2.2.2.2.1 a18.2.2.2.2.2.2.2.2.2.2.2.2.2.2.1 (xs (a18.2.2.2.2.2.2.2.2.2.2.2.2.2.2.2.2.2.2.2.2.2.2 + (1 : Int32)).toNatClampNeg)).bind fun z228 => if z219 = z228 then (M_L_law_773 L xs rc18 (a18.1, a18.2.1, a18.2.2.1, a18.2.2.2.1, a18.2.2.2.2.1, a18.2.2.2.2.2.1, a18.2.2.2.2.2.2.1, a18.2.2.2.2.2.2.2.1, a18.2.2.2.2.2.2.2.2.1, a18.2.2.2.2.2.2.2.2.2.1, a18.2.2.2.2.2.2.2.2.2.2.1, a18.2.2.2.2.2.2.2.2.2.2.2.1, a18.2.2.2.2.2.2.2.2.2.2.2.2.1, a18.2.2.2.2.2.2.2.2.2.2.2.2.2.1, a18.2.2.2.2.2.2.2.2.2.2.2.2.2.2.1, a18.2.2.2.2.2.2.2.2.2.2.2.2.2.2.2.1, a18.2.2.2.2.2.2.2.2.2.2.2.2.2.2.2.2.1, a18.2.2.2.2.2.2.2.2.2.2.2.2.2.2.2.2.2.1, a18.2.2.2.2.2.2.2.2.2.2.2.2.2.2.2.2.2.2.1, a18.2.2.2.2.2.2.2.2.2.2.2.2.2.2.2.2.2.2.2.1, a18.2.2.2.2.2.2.2.2.2.2.2.2.2.2.2.2.2.2.2.2.1, a18.2.2.2.2.2.2.2.2.2.2.2.2.2.2.2.2.2.2.2.2.2.1, a18.2.2.2.2.2.2.2.2.2.2.2.2.2.2.2.2.2.2.2.2.2.2)) else (none) else none else none) else (if ((xs a18.2.2.2.2.2.2.2.2.2.2.2.2.2.2.2.2.2.2.2.2.2.2.toNatClampNeg) &&& (31 : Int32)) = (4 : Int32) then ((M_X8_build a18.1 a18.2.1 a18.2.2.1).bind fun z237 => (M_X9_build a18.2.2.2.2.2.2.2.2.2.2.2.2.2.1 a18.2.2.2.2.2.2.2.2.2.2.2.2.2.2.1).bind fun z241 => if z237.1 = z241.1 then (M_L_law_773 L xs rc18 (z237.2.1, z237.2.2.1, z237.2.2.2, a18.2.2.2.1, a18.2.2.2.2.1, a18.2.2.2.2.2.1, a18.2.2.2.2.2.2.1, a18.2.2.2.2.2.2.2.1, a18.2.2.2.2.2.2.2.2.1, a18.2.2.2.2.2.2.2.2.2.1, a18.2.2.2.2.2.2.2.2.2.2.1, a18.2.2.2.2.2.2.2.2.2.2.2.1, a18.2.2.2.2.2.2.2.2.2.2.2.2.1, z241.2.1, z241.2.2, a18.2.2.2.2.2.2.2.2.2.2.2.2.2.2.2.1, a18.2.2.2.2.2.2.2.2.2.2.2.2.2.2.2.2.1, a18.2.2.2.2.2.2.2.2.2.2.2.2.2.2.2.2.2.1, a18.2.2.2.2.2.2.2.2.2.2.2.2.2.2.2.2.2.2.1, a18.2.2.2.2.2.2.2.2.2.2.2.2.2.2.2.2.2.2.2.1, a18.2.2.2.2.2.2.2.2.2.2.2.2.2.2.2.2.2.2.2.2.1, a18.2.2.2.2.2.2.2.2.2.2.2.2.2.2.2.2.2.2.2.2.2.1, a18.2.2.2.2.2.2.2.2.2.2.2.2.2.2.2.2.2.2.2.2.2.2)) else (none)) else (if ((xs a18.2.2.2.2.2.2.2.2.2.2.2.2.2.2.2.2.2.2.2.2.2.2.toNatClampNeg) &&& (31 : Int32)) = (5 : Int32) then (if vin (a18.2.2.2.2.2.2.2.2.2.2.2.2.2.2.2.2.2.2.2.2.2.2 + (1 : Int32)) L then (M_X8_cell a18.2.1 (xs (a18.2.2.2.2.2.2.2.2.2.2.2.2.2.2.2.2.2.2.2.2.2.2 + (1 : Int32)).toNatClampNeg)).bind fun z255 => if vin (a18.2.2.2.2.2.2.2.2.2.2.2.2.2.2.2.2.2.2.2.2.2.2 + (1 : Int32)) L then (M_X9_cell a18.2.2.2.2.2.2.2.2.2.2.2.2.2.1 (xs (a18.2.2.2.2.2.2.2.2.2.2.2.2.2.2.2.2.2.2.2.2.2.2 + (1 : Int32)).toNatClampNeg)).bind fun z264 => if z255 = z264 then (M_L_law_773 L xs rc18 (a18.1, a18.2.1, a18.2.2.1, a18.2.2.2.1, a18.2.2.2.2.1, a18.2.2.2.2.2.1, a18.2.2.2.2.2.2.1, a18.2.2.2.2.2.2.2.1, a18.2.2.2.2.2.2.2.2.1, a18.2.2.2.2.2.2.2.2.2.1, a18.2.2.2.2.2.2.2.2.2.2.1, a18.2.2.2.2.2.2.2.2.2.2.2.1, a18.2.2.2.2.2.2.2.2.2.2.2.2.1, a18.2.2.2.2.2.2.2.2.2.2.2.2.2.1, a18.2.2.2.2.2.2.2.2.2.2.2.2.2.2.1, a18.2.2.2.2.2.2.2.2.2.2.2.2.2.2.2.1, a18.2.2.2.2.2.2.2.2.2.2.2.2.2.2.2.2.1, a18.2.2.2.2.2.2.2.2.2.2.2.2.2.2.2.2.2.1, a18.2.2.2.2.2.2.2.2.2.2.2.2.2.2.2.2.2.2.1, a18.2.2.2.2.2.2.2.2.2.2.2.2.2.2.2.2.2.2.2.1, a18.2.2.2.2.2.2.2.2.2.2.2.2.2.2.2.2.2.2.2.2.1, a18.2.2.2.2.2.2.2.2.2.2.2.2.2.2.2.2.2.2.2.2.2.1, a18.2.2.2.2.2.2.2.2.2.2.2.2.2.2.2.2.2.2.2.2.2.2)) else (none) else none else none) else (if ((xs a18.2.2.2.2.2.2.2.2.2.2.2.2.2.2.2.2.2.2.2.2.2.2.toNatClampNeg) &&& (31 : Int32)) = (6 : Int32) then (if vin (a18.2.2.2.2.2.2.2.2.2.2.2.2.2.2.2.2.2.2.2.2.2.2 + (1 : Int32)) L then if vin (a18.2.2.2.2.2.2.2.2.2.2.2.2.2.2.2.2.2.2.2.2.2.2 + (2 : Int32)) L then (M_X8_place a18.2.1 (xs (a18.2.2.2.2.2.2.2.2.2.2.2.2.2.2.2.2.2.2.2.2.2.2 + (1 : Int32)).toNatClampNeg) (xs (a18.2.2.2.2.2.2.2.2.2.2.2.2.2.2.2.2.2.2.2.2.2.2 + (2 : Int32)).toNatClampNeg)).bind fun z283 => if vin (a18.2.2.2.2.2.2.2.2.2.2.2.2.2.2.2.2.2.2.2.2.2.2 + (1 : Int32)) L then if vin (a18.2.2.2.2.2.2.2.2.2.2.2.2.2.2.2.2.2.2.2.2.2.2 + (2 : Int32)) L then (M_X9_place a18.2.2.2.2.2.2.2.2.2.2.2.2.2.1 (xs (a18.2.2.2.2.2.2.2.2.2.2.2.2.2.2.2.2.2.2.2.2.2.2 + (1 : Int32)).toNatClampNeg) (xs (a18.2.2.2.2.2.2.2.2.2.2.2.2.2.2.2.2.2.2.2.2.2.2 + (2 : Int32)).toNatClampNeg)).bind fun z297 => if z283.1 = z297.1 then (M_L_law_773 L xs rc18 (a18.1, z283.2, a18.2.2.1, a18.2.2.2.1, a18.2.2.2.2.1, a18.2.2.2.2.2.1, a18.2.2.2.2.2.2.1, a18.2.2.2.2.2.2.2.1, a18.2.2.2.2.2.2.2.2.1, a18.2.2.2.2.2.2.2.2.2.1, a18.2.2.2.2.2.2.2.2.2.2.1, a18.2.2.2.2.2.2.2.2.2.2.2.1, a18.2.2.2.2.2.2.2.2.2.2.2.2.1, z297.2, a18.2.2.2.2.2.2.2.2.2.2.2.2.2.2.1, a18.2.2.2.2.2.2.2.2.2.2.2.2.2.2.2.1, a18.2.2.2.2.2.2.2.2.2.2.2.2.2.2.2.2.1, a18.2.2.2.2.2.2.2.2.2.2.2.2.2.2.2.2.2.1, a18.2.2.2.2.2.2.2.2.2.2.2.2.2.2.2.2.2.2.1, a18.2.2.2.2.2.2.2.2.2.2.2.2.2.2.2.2.2.2.2.1, a18.2.2.2.2.2.2.2.2.2.2.2.2.2.2.2.2.2.2.2.2.1, a18.2.2.2.2.2.2.2.2.2.2.2.2.2.2.2.2.2.2.2.2.2.1, a18.2.2.2.2.2.2.2.2.2.2.2.2.2.2.2.2.2.2.2.2.2.2)) else (none) else none else none else none else none) else (if ((xs a18.2.2.2.2.2.2.2.2.2.2.2.2.2.2.2.2.2.2.2.2.2.2.toNatClampNeg) &&& (31 : Int32)) = (7 : Int32) then (if vin (a18.2.2.2.2.2.2.2.2.2.2.2.2.2.2.2.2.2.2.2.2.2.2 + (1 : Int32)) L then if vin (a18.2.2.2.2.2.2.2.2.2.2.2.2.2.2.2.2.2.2.2.2.2.2 + (2 : Int32)) L then if vin (a18.2.2.2.2.2.2.2.2.2.2.2.2.2.2.2.2.2.2.2.2.2.2 + (3 : Int32)) L then if (xs (a18.2.2.2.2.2.2.2.2.2.2.2.2.2.2.2.2.2.2.2.2.2.2 + (3 : Int32)).toNatClampNeg) = 0 then (M_L_law_329 L xs rc18 (a18.1, a18.2.1, a18.2.2.1, a18.2.2.2.1, a18.2.2.2.2.1, a18.2.2.2.2.2.1, a18.2.2.2.2.2.2.1, a18.2.2.2.2.2.2.2.1, a18.2.2.2.2.2.2.2.2.1, a18.2.2.2.2.2.2.2.2.2.1, a18.2.2.2.2.2.2.2.2.2.2.1, a18.2.2.2.2.2.2.2.2.2.2.2.1, a18.2.2.2.2.2.2.2.2.2.2.2.2.1, a18.2.2.2.2.2.2.2.2.2.2.2.2.2.1, a18.2.2.2.2.2.2.2.2.2.2.2.2.2.2.1, a18.2.2.2.2.2.2.2.2.2.2.2.2.2.2.2.1, a18.2.2.2.2.2.2.2.2.2.2.2.2.2.2.2.2.1, a18.2.2.2.2.2.2.2.2.2.2.2.2.2.2.2.2.2.1, a18.2.2.2.2.2.2.2.2.2.2.2.2.2.2.2.2.2.2.1, a18.2.2.2.2.2.2.2.2.2.2.2.2.2.2.2.2.2.2.2.1, a18.2.2.2.2.2.2.2.2.2.2.2.2.2.2.2.2.2.2.2.2.1, a18.2.2.2.2.2.2.2.2.2.2.2.2.2.2.2.2.2.2.2.2.2.1, a18.2.2.2.2.2.2.2.2.2.2.2.2.2.2.2.2.2.2.2.2.2.2, (0 : Int32), (xs (a18.2.2.2.2.2.2.2.2.2.2.2.2.2.2.2.2.2.2.2.2.2.2 + (2 : Int32)).toNatClampNeg), (xs (a18.2.2.2.2.2.2.2.2.2.2.2.2.2.2.2.2.2.2.2.2.2.2 + (1 : Int32)).toNatClampNeg))) else (M_L_law_329 L xs rc18 (a18.1, a18.2.1, a18.2.2.1, a18.2.2.2.1, a18.2.2.2.2.1, a18.2.2.2.2.2.1, a18.2.2.2.2.2.2.1, a18.2.2.2.2.2.2.2.1, a18.2.2.2.2.2.2.2.2.1, a18.2.2.2.2.2.2.2.2.2.1, a18.2.2.2.2.2.2.2.2.2.2.1, a18.2.2.2.2.2.2.2.2.2.2.2.1, a18.2.2.2.2.2.2.2.2.2.2.2.2.1, a18.2.2.2.2.2.2.2.2.2.2.2.2.2.1, a18.2.2.2.2.2.2.2.2.2.2.2.2.2.2.1, a18.2.2.2.2.2.2.2.2.2.2.2.2.2.2.2.1, a18.2.2.2.2.2.2.2.2.2.2.2.2.2.2.2.2.1, a18.2.2.2.2.2.2.2.2.2.2.2.2.2.2.2.2.2.1, a18.2.2.2.2.2.2.2.2.2.2.2.2.2.2.2.2.2.2.1, a18.2.2.2.2.2.2.2.2.2.2.2.2.2.2.2.2.2.2.2.1, a18.2.2.2.2.2.2.2.2.2.2.2.2.2.2.2.2.2.2.2.2.1, a18.2.2.2.2.2.2.2.2.2.2.2.2.2.2.2.2.2.2.2.2.2.1, a18.2.2.2.2.2.2.2.2.2.2.2.2.2.2.2.2.2.2.2.2.2.2, (1 : Int32), (xs (a18.2.2.2.2.2.2.2.2.2.2.2.2.2.2.2.2.2.2.2.2.2.2 + (2 : Int32)).toNatClampNeg), (xs (a18.2.2.2.2.2.2.2.2.2.2.2.2.2.2.2.2.2.2.2.2.2.2 + (1 : Int32)).toNatClampNeg))) else none else none else none) else (if ((xs a18.2.2.2.2.2.2.2.2.2.2.2.2.2.2.2.2.2.2.2.2.2.2.toNatClampNeg) &&& (31 : Int32)) = (8 : Int32) then ((M_X8_dismiss a18.2.2.1).bind fun z365 => (M_X9_dismiss a18.2.2.2.2.2.2.2.2.2.2.2.2.2.1).bind fun z369 => if z365.1 = z369.1 then (M_L_law_773 L xs rc18 (a18.1, a18.2.1, z365.2, a18.2.2.2.1, a18.2.2.2.2.1, a18.2.2.2.2.2.1, a18.2.2.2.2.2.2.1, a18.2.2.2.2.2.2.2.1, a18.2.2.2.2.2.2.2.2.1, a18.2.2.2.2.2.2.2.2.2.1, a18.2.2.2.2.2.2.2.2.2.2.1, a18.2.2.2.2.2.2.2.2.2.2.2.1, a18.2.2.2.2.2.2.2.2.2.2.2.2.1, z369.2, a18.2.2.2.2.2.2.2.2.2.2.2.2.2.2.1, a18.2.2.2.2.2.2.2.2.2.2.2.2.2.2.2.1, a18.2.2.2.2.2.2.2.2.2.2.2.2.2.2.2.2.1, a18.2.2.2.2.2.2.2.2.2.2.2.2.2.2.2.2.2.1, a18.2.2.2.2.2.2.2.2.2.2.2.2.2.2.2.2.2.2.1, a18.2.2.2.2.2.2.2.2.2.2.2.2.2.2.2.2.2.2.2.1, a18.2.2.2.2.2.2.2.2.2.2.2.2.2.2.2.2.2.2.2.2.1, a18.2.2.2.2.2.2.2.2.2.2.2.2.2.2.2.2.2.2.2.2.2.1, a18.2.2.2.2.2.2.2.2.2.2.2.2.2.2.2.2.2.2.2.2.2.2)) else (none)) else (if ((xs a18.2.2.2.2.2.2.2.2.2.2.2.2.2.2.2.2.2.2.2.2.2.2.toNatClampNeg) &&& (31 : Int32)) = (9 : Int32) then (if vin (a18.2.2.2.2.2.2.2.2.2.2.2.2.2.2.2.2.2.2.2.2.2.2 + (1 : Int32)) L then (M_X8_ears a18.2.1 (xs (a18.2.2.2.2.2.2.2.2.2.2.2.2.2.2.2.2.2.2.2.2.2.2 + (1 : Int32)).toNatClampNeg)).bind fun z383 => if vin (a18.2.2.2.2.2.2.2.2.2.2.2.2.2.2.2.2.2.2.2.2.2.2 + (1 : Int32)) L then (M_X9_ears a18.2.2.2.2.2.2.2.2.2.2.2.2.2.1 (xs (a18.2.2.2.2.2.2.2.2.2.2.2.2.2.2.2.2.2.2.2.2.2.2 + (1 : Int32)).toNatClampNeg)).bind fun z392 => if z383.1 = z392.1 then (M_L_law_773 L xs rc18 (a18.1, z383.2, a18.2.2.1, a18.2.2.2.1, a18.2.2.2.2.1, a18.2.2.2.2.2.1, a18.2.2.2.2.2.2.1, a18.2.2.2.2.2.2.2.1, a18.2.2.2.2.2.2.2.2.1, a18.2.2.2.2.2.2.2.2.2.1, a18.2.2.2.2.2.2.2.2.2.2.1, a18.2.2.2.2.2.2.2.2.2.2.2.1, a18.2.2.2.2.2.2.2.2.2.2.2.2.1, z392.2, a18.2.2.2.2.2.2.2.2.2.2.2.2.2.2.1, a18.2.2.2.2.2.2.2.2.2.2.2.2.2.2.2.1, a18.2.2.2.2.2.2.2.2.2.2.2.2.2.2.2.2.1, a18.2.2.2.2.2.2.2.2.2.2.2.2.2.2.2.2.2.1, a18.2.2.2.2.2.2.2.2.2.2.2.2.2.2.2.2.2.2.1, a18.2.2.2.2.2.2.2.2.2.2.2.2.2.2.2.2.2.2.2.1, a18.2.2.2.2.2.2.2.2.2.2.2.2.2.2.2.2.2.2.2.2.1, a18.2.2.2.2.2.2.2.2.2.2.2.2.2.2.2.2.2.2.2.2.2.1, a18.2.2.2.2.2.2.2.2.2.2.2.2.2.2.2.2.2.2.2.2.2.2)) else (none) else none else none) else (if ((xs a18.2.2.2.2.2.2.2.2.2.2.2.2.2.2.2.2.2.2.2.2.2.2.toNatClampNeg) &&& (31 : Int32)) = (10 : Int32) then (if vin (a18.2.2.2.2.2.2.2.2.2.2.2.2.2.2.2.2.2.2.2.2.2.2 + (1 : Int32)) L then (M_X8_judge a18.1 a18.2.1 a18.2.2.1 a18.2.2.2.2.2.2.2.2.2.1 a18.2.2.2.2.2.2.2.2.2.2.1 (xs (a18.2.2.2.2.2.2.2.2.2.2.2.2.2.2.2.2.2.2.2.2.2.2 + (1 : Int32)).toNatClampNeg)).bind fun z406 => if vin (a18.2.2.2.2.2.2.2.2.2.2.2.2.2.2.2.2.2.2.2.2.2.2 + (1 : Int32)) L then (M_X9_judge a18.2.2.2.2.2.2.2.2.2.2.2.2.2.1 a18.2.2.2.2.2.2.2.2.2.2.2.2.2.2.1 a18.2.2.2.2.2.2.2.2.2.2.2.2.2.2.2.1 a18.2.2.2.2.2.2.2.2.2.2.2.2.2.2.2.2.1 (xs (a18.2.2.2.2.2.2.2.2.2.2.2.2.2.2.2.2.2.2.2.2.2.2 + (1 : Int32)).toNatClampNeg)).bind fun z415 => if z406.1 = z415.1 then (M_L_law_773 L xs rc18 (a18.1, a18.2.1, a18.2.2.1, a18.2.2.2.1, a18.2.2.2.2.1, a18.2.2.2.2.2.1, a18.2.2.2.2.2.2.1, a18.2.2.2.2.2.2.2.1, a18.2.2.2.2.2.2.2.2.1, z406.2.1, z406.2.2, a18.2.2.2.2.2.2.2.2.2.2.2.1, a18.2.2.2.2.2.2.2.2.2.2.2.2.1, a18.2.2.2.2.2.2.2.2.2.2.2.2.2.1, a18.2.2.2.2.2.2.2.2.2.2.2.2.2.2.1, z415.2.1, z415.2.2, a18.2.2.2.2.2.2.2.2.2.2.2.2.2.2.2.2.2.1, a18.2.2.2.2.2.2.2.2.2.2.2.2.2.2.2.2.2.2.1, a18.2.2.2.2.2.2.2.2.2.2.2.2.2.2.2.2.2.2.2.1, a18.2.2.2.2.2.2.2.2.2.2.2.2.2.2.2.2.2.2.2.2.1, a18.2.2.2.2.2.2.2.2.2.2.2.2.2.2.2.2.2.2.2.2.2.1, a18.2.2.2.2.2.2.2.2.2.2.2.2.2.2.2.2.2.2.2.2.2.2)) else (none) else none else none) else (if ((xs a18.2.2.2.2.2.2.2.2.2.2.2.2.2.2.2.2.2.2.2.2.2.2.toNatClampNeg) &&& (31 : Int32)) = (11 : Int32) then (if vin (a18.2.2.2.2.2.2.2.2.2.2.2.2.2.2.2.2.2.2.2.2.2.2 + (1 : Int32)) L then (M_X8_sees a18.2.1 a18.2.2.1 (xs (a18.2.2.2.2.2.2.2.2.2.2.2.2.2.2.2.2.2.2.2.2.2.2 + (1 : Int32)).toNatClampNeg)).bind fun z429 => if vin (a18.2.2.2.2.2.2.2.2.2.2.2.2.2.2.2.2.2.2.2.2.2.2 + (1 : Int32)) L then (M_X9_sees a18.2.2.2.2.2.2.2.2.2.2.2.2.2.1 (xs (a18.2.2.2.2.2.2.2.2.2.2.2.2.2.2.2.2.2.2.2.2.2.2 + (1 : Int32)).toNatClampNeg)).bind fun z438 => if z429 = z438 then (M_L_law_773 L xs rc18 (a18.1, a18.2.1, a18.2.2.1, a18.2.2.2.1, a18.2.2.2.2.1, a18.2.2.2.2.2.1, a18.2.2.2.2.2.2.1, a18.2.2.2.2.2.2.2.1, a18.2.2.2.2.2.2.2.2.1, a18.2.2.2.2.2.2.2.2.2.1, a18.2.2.2.2.2.2.2.2.2.2.1, a18.2.2.2.2.2.2.2.2.2.2.2.1, a18.2.2.2.2.2.2.2.2.2.2.2.2.1, a18.2.2.2.2.2.2.2.2.2.2.2.2.2.1, a18.2.2.2.2.2.2.2.2.2.2.2.2.2.2.1, a18.2.2.2.2.2.2.2.2.2.2.2.2.2.2.2.1, a18.2.2.2.2.2.2.2.2.2.2.2.2.2.2.2.2.1, a18.2.2.2.2.2.2.2.2.2.2.2.2.2.2.2.2.2.1, a18.2.2.2.2.2.2.2.2.2.2.2.2.2.2.2.2.2.2.1, a18.2.2.2.2.2.2.2.2.2.2.2.2.2.2.2.2.2.2.2.1, a18.2.2.2.2.2.2.2.2.2.2.2.2.2.2.2.2.2.2.2.2.1, a18.2.2.2.2.2.2.2.2.2.2.2.2.2.2.2.2.2.2.2.2.2.1, a18.2.2.2.2.2.2.2.2.2.2.2.2.2.2.2.2.2.2.2.2.2.2)) else (none) else none else none) else (if ((xs a18.2.2.2.2.2.2.2.2.2.2.2.2.2.2.2.2.2.2.2.2.2.2.toNatClampNeg) &&& (31 : Int32)) = (12 : Int32) then ((M_X8_bare a18.2.1 a18.2.2.1).bind fun z447 => (M_X9_bare a18.2.2.2.2.2.2.2.2.2.2.2.2.2.1).bind fun z451 => if z447 = z451 then (M_L_law_773 L xs rc18 (a18.1, a18.2.1, a18.2.2.1, a18.2.2.2.1, a18.2.2.2.2.1, a18.2.2.2.2.2.1, a18.2.2.2.2.2.2.1, a18.2.2.2.2.2.2.2.1, a18.2.2.2.2.2.2.2.2.1, a18.2.2.2.2.2.2.2.2.2.1, a18.2.2.2.2.2.2.2.2.2.2.1, a18.2.2.2.2.2.2.2.2.2.2.2.1, a18.2.2.2.2.2.2.2.2.2.2.2.2.1, a18.2.2.2.2.2.2.2.2.2.2.2.2.2.1, a18.2.2.2.2.2.2.2.2.2.2.2.2.2.2.1, a18.2.2.2.2.2.2.2.2.2.2.2.2.2.2.2.1, a18.2.2.2.2.2.2.2.2.2.2.2.2.2.2.2.2.1, a18.2.2.2.2.2.2.2.2.2.2.2.2.2.2.2.2.2.1, a18.2.2.2.2.2.2.2.2.2.2.2.2.2.2.2.2.2.2.1, a18.2.2.2.2.2.2.2.2.2.2.2.2.2.2.2.2.2.2.2.1, a18.2.2.2.2.2.2.2.2.2.2.2.2.2.2.2.2.2.2.2.2.1, a18.2.2.2.2.2.2.2.2.2.2.2.2.2.2.2.2.2.2.2.2.2.1, a18.2.2.2.2.2.2.2.2.2.2.2.2.2.2.2.2.2.2.2.2.2.2)) else (none)) else (if ((xs a18.2.2.2.2.2.2.2.2.2.2.2.2.2.2.2.2.2.2.2.2.2.2.toNatClampNeg) &&& (31 : Int32)) = (13 : Int32) then (if vin (a18.2.2.2.2.2.2.2.2.2.2.2.2.2.2.2.2.2.2.2.2.2.2 + (1 : Int32)) L then (M_X8_safe a18.2.1 a18.2.2.1 a18.2.2.2.2.2.2.2.2.2.2.2.1 (xs (a18.2.2.2.2.2.2.2.2.2.2.2.2.2.2.2.2.2.2.2.2.2.2 + (1 : Int32)).toNatClampNeg)).bind fun z465 => if vin (a18.2.2.2.2.2.2.2.2.2.2.2.2.2.2.2.2.2.2.2.2.2.2 + (1 : Int32)) L then (M_X9_safe a18.2.2.2.2.2.2.2.2.2.2.2.2.2.1 a18.2.2.2.2.2.2.2.2.2.2.2.2.2.2.2.2.2.1 a18.2.2.2.2.2.2.2.2.2.2.2.2.2.2.2.2.2.2.1 (xs (a18.2.2.2.2.2.2.2.2.2.2.2.2.2.2.2.2.2.2.2.2.2.2 + (1 : Int32)).toNatClampNeg)).bind fun z474 => if z465.1 = z474.1 then (M_L_law_773 L xs rc18 (a18.1, a18.2.1, a18.2.2.1, a18.2.2.2.1, a18.2.2.2.2.1, a18.2.2.2.2.2.1, a18.2.2.2.2.2.2.1, a18.2.2.2.2.2.2.2.1, a18.2.2.2.2.2.2.2.2.1, a18.2.2.2.2.2.2.2.2.2.1, a18.2.2.2.2.2.2.2.2.2.2.1, z465.2, a18.2.2.2.2.2.2.2.2.2.2.2.2.1, a18.2.2.2.2.2.2.2.2.2.2.2.2.2.1, a18.2.2.2.2.2.2.2.2.2.2.2.2.2.2.1, a18.2.2.2.2.2.2.2.2.2.2.2.2.2.2.2.1, a18.2.2.2.2.2.2.2.2.2.2.2.2.2.2.2.2.1, z474.2.1, z474.2.2, a18.2.2.2.2.2.2.2.2.2.2.2.2.2.2.2.2.2.2.2.1, a18.2.2.2.2.2.2.2.2.2.2.2.2.2.2.2.2.2.2.2.2.1, a18.2.2.2.2.2.2.2.2.2.2.2.2.2.2.2.2.2.2.2.2.2.1, a18.2.2.2.2.2.2.2.2.2.2.2.2.2.2.2.2.2.2.2.2.2.2)) else (none) else none else none) else (if ((xs a18.2.2.2.2.2.2.2.2.2.2.2.2.2.2.2.2.2.2.2.2.2.2.toNatClampNeg) &&& (31 : Int32)) = (14 : Int32) then (if vin (a18.2.2.2.2.2.2.2.2.2.2.2.2.2.2.2.2.2.2.2.2.2.2 + (1 : Int32)) L then (M_X8_least a18.2.1 a18.2.2.1 a18.2.2.2.2.2.2.2.2.2.2.2.1 (xs (a18.2.2.2.2.2.2.2.2.2.2.2.2.2.2.2.2.2.2.2.2.2.2 + (1 : Int32)).toNatClampNeg)).bind fun z488 => if vin (a18.2.2.2.2.2.2.2.2.2.2.2.2.2.2.2.2.2.2.2.2.2.2 + (1 : Int32)) L then (M_X9_least a18.2.2.2.2.2.2.2.2.2.2.2.2.2.1 a18.2.2.2.2.2.2.2.2.2.2.2.2.2.2.2.2.2.1 a18.2.2.2.2.2.2.2.2.2.2.2.2.2.2.2.2.2.2.2.1 (xs (a18.2.2.2.2.2.2.2.2.2.2.2.2.2.2.2.2.2.2.2.2.2.2 + (1 : Int32)).toNatClampNeg)).bind fun z497 => if z488.1 = z497.1 then (M_L_law_773 L xs rc18 (a18.1, a18.2.1, a18.2.2.1, a18.2.2.2.1, a18.2.2.2.2.1, a18.2.2.2.2.2.1, a18.2.2.2.2.2.2.1, a18.2.2.2.2.2.2.2.1, a18.2.2.2.2.2.2.2.2.1, a18.2.2.2.2.2.2.2.2.2.1, a18.2.2.2.2.2.2.2.2.2.2.1, z488.2, a18.2.2.2.2.2.2.2.2.2.2.2.2.1, a18.2.2.2.2.2.2.2.2.2.2.2.2.2.1, a18.2.2.2.2.2.2.2.2.2.2.2.2.2.2.1, a18.2.2.2.2.2.2.2.2.2.2.2.2.2.2.2.1, a18.2.2.2.2.2.2.2.2.2.2.2.2.2.2.2.2.1, z497.2.1, a18.2.2.2.2.2.2.2.2.2.2.2.2.2.2.2.2.2.2.1, z497.2.2, a18.2.2.2.2.2.2.2.2.2.2.2.2.2.2.2.2.2.2.2.2.1, a18.2.2.2.2.2.2.2.2.2.2.2.2.2.2.2.2.2.2.2.2.2.1, a18.2.2.2.2.2.2.2.2.2.2.2.2.2.2.2.2.2.2.2.2.2.2)) else (none) else none else none) else (if ((xs a18.2.2.2.2.2.2.2.2.2.2.2.2.2.2.2.2.2.2.2.2.2.2.toNatClampNeg) &&& (31 : Int32)) = (15 : Int32) then (if vin (a18.2.2.2.2.2.2.2.2.2.2.2.2.2.2.2.2.2.2.2.2.2.2 + (1 : Int32)) L then (M_X8_flour a18.2.1 (xs (a18.2.2.2.2.2.2.2.2.2.2.2.2.2.2.2.2.2.2.2.2.2.2 + (1 : Int32)).toNatClampNeg)).bind fun z511 => if vin (a18.2.2.2.2.2.2.2.2.2.2.2.2.2.2.2.2.2.2.2.2.2.2 + (1 : Int32)) L then (M_X9_flour a18.2.2.2.2.2.2.2.2.2.2.2.2.2.1 a18.2.2.2.2.2.2.2.2.2.2.2.2.2.2.2.2.2.1 (xs (a18.2.2.2.2.2.2.2.2.2.2.2.2.2.2.2.2.2.2.2.2.2.2 + (1 : Int32)).toNatClampNeg)).bind fun z520 => if z511 = z520.1 then (M_L_law_773 L xs rc18 (a18.1, a18.2.1, a18.2.2.1, a18.2.2.2.1, a18.2.2.2.2.1, a18.2.2.2.2.2.1, a18.2.2.2.2.2.2.1, a18.2.2.2.2.2.2.2.1, a18.2.2.2.2.2.2.2.2.1, a18.2.2.2.2.2.2.2.2.2.1, a18.2.2.2.2.2.2.2.2.2.2.1, a18.2.2.2.2.2.2.2.2.2.2.2.1, a18.2.2.2.2.2.2.2.2.2.2.2.2.1, a18.2.2.2.2.2.2.2.2.2.2.2.2.2.1, a18.2.2.2.2.2.2.2.2.2.2.2.2.2.2.1, a18.2.2.2.2.2.2.2.2.2.2.2.2.2.2.2.1, a18.2.2.2.2.2.2.2.2.2.2.2.2.2.2.2.2.1, z520.2, a18.2.2.2.2.2.2.2.2.2.2.2.2.2.2.2.2.2.2.1, a18.2.2.2.2.2.2.2.2.2.2.2.2.2.2.2.2.2.2.2.1, a18.2.2.2.2.2.2.2.2.2.2.2.2.2.2.2.2.2.2.2.2.1, a18.2.2.2.2.2.2.2.2.2.2.2.2.2.2.2.2.2.2.2.2.2.1, a18.2.2.2.2.2.2.2.2.2.2.2.2.2.2.2.2.2.2.2.2.2.2)) else (none) else none else none) else (if ((xs a18.2.2.2.2.2.2.2.2.2.2.2.2.2.2.2.2.2.2.2.2.2.2.toNatClampNeg) &&& (31 : Int32)) = (16 : Int32) then (if vin (a18.2.2.2.2.2.2.2.2.2.2.2.2.2.2.2.2.2.2.2.2.2.2 + (1 : Int32)) L then (M_X8_post a18.2.1 a18.2.2.1 (xs (a18.2.2.2.2.2.2.2.2.2.2.2.2.2.2.2.2.2.2.2.2.2.2 + (1 : Int32)).toNatClampNeg)).bind fun z534 => if vin (a18.2.2.2.2.2.2.2.2.2.2.2.2.2.2.2.2.2.2.2.2.2.2 + (1 : Int32)) L then (M_X9_post a18.2.2.2.2.2.2.2.2.2.2.2.2.2.1 (xs (a18.2.2.2.2.2.2.2.2.2.2.2.2.2.2.2.2.2.2.2.2.2.2 + (1 : Int32)).toNatClampNeg)).bind fun z543 => if z534 = z543.1 then (M_L_law_773 L xs rc18 (a18.1, a18.2.1, a18.2.2.1, a18.2.2.2.1, a18.2.2.2.2.1, a18.2.2.2.2.2.1, a18.2.2.2.2.2.2.1, a18.2.2.2.2.2.2.2.1, a18.2.2.2.2.2.2.2.2.1, a18.2.2.2.2.2.2.2.2.2.1, a18.2.2.2.2.2.2.2.2.2.2.1, a18.2.2.2.2.2.2.2.2.2.2.2.1, a18.2.2.2.2.2.2.2.2.2.2.2.2.1, z543.2, a18.2.2.2.2.2.2.2.2.2.2.2.2.2.2.1, a18.2.2.2.2.2.2.2.2.2.2.2.2.2.2.2.1, a18.2.2.2.2.2.2.2.2.2.2.2.2.2.2.2.2.1, a18.2.2.2.2.2.2.2.2.2.2.2.2.2.2.2.2.2.1, a18.2.2.2.2.2.2.2.2.2.2.2.2.2.2.2.2.2.2.1, a18.2.2.2.2.2.2.2.2.2.2.2.2.2.2.2.2.2.2.2.1, a18.2.2.2.2.2.2.2.2.2.2.2.2.2.2.2.2.2.2.2.2.1, a18.2.2.2.2.2.2.2.2.2.2.2.2.2.2.2.2.2.2.2.2.2.1, a18.2.2.2.2.2.2.2.2.2.2.2.2.2.2.2.2.2.2.2.2.2.2)) else (none) else none else none) else (if ((xs a18.2.2.2.2.2.2.2.2.2.2.2.2.2.2.2.2.2.2.2.2.2.2.toNatClampNeg) &&& (31 : Int32)) = (17 : Int32) then (if vin (a18.2.2.2.2.2.2.2.2.2.2.2.2.2.2.2.2.2.2.2.2.2.2 + (1 : Int32)) L then if vin (a18.2.2.2.2.2.2.2.2.2.2.2.2.2.2.2.2.2.2.2.2.2.2 + (2 : Int32)) L then (M_X8_meet a18.1 a18.2.1 a18.2.2.1 a18.2.2.2.2.2.2.2.2.2.1 a18.2.2.2.2.2.2.2.2.2.2.1 (xs (a18.2.2.2.2.2.2.2.2.2.2.2.2.2.2.2.2.2.2.2.2.2.2 + (1 : Int32)).toNatClampNeg) (xs (a18.2.2.2.2.2.2.2.2.2.2.2.2.2.2.2.2.2.2.2.2.2.2 + (2 : Int32)).toNatClampNeg)).bind fun z562 => if vin (a18.2.2.2.2.2.2.2.2.2.2.2.2.2.2.2.2.2.2.2.2.2.2 + (1 : Int32)) L then if vin (a18.2.2.2.2.2.2.2.2.2.2.2.2.2.2.2.2.2.2.2.2.2.2 + (2 : Int32)) L then (M_X9_meet a18.2.2.2.2.2.2.2.2.2.2.2.2.2.1 a18.2.2.2.2.2.2.2.2.2.2.2.2.2.2.1 a18.2.2.2.2.2.2.2.2.2.2.2.2.2.2.2.1 a18.2.2.2.2.2.2.2.2.2.2.2.2.2.2.2.2.1 (xs (a18.2.2.2.2.2.2.2.2.2.2.2.2.2.2.2.2.2.2.2.2.2.2 + (1 : Int32)).toNatClampNeg) (xs (a18.2.2.2.2.2.2.2.2.2.2.2.2.2.2.2.2.2.2.2.2.2.2 + (2 : Int32)).toNatClampNeg)).bind fun z576 => if z562.1 = z576.1 then (M_L_law_773 L xs rc18 (a18.1, a18.2.1, a18.2.2.1, a18.2.2.2.1, a18.2.2.2.2.1, a18.2.2.2.2.2.1, a18.2.2.2.2.2.2.1, a18.2.2.2.2.2.2.2.1, a18.2.2.2.2.2.2.2.2.1, z562.2.1, z562.2.2, a18.2.2.2.2.2.2.2.2.2.2.2.1, a18.2.2.2.2.2.2.2.2.2.2.2.2.1, a18.2.2.2.2.2.2.2.2.2.2.2.2.2.1, a18.2.2.2.2.2.2.2.2.2.2.2.2.2.2.1, z576.2.1, z576.2.2, a18.2.2.2.2.2.2.2.2.2.2.2.2.2.2.2.2.2.1, a18.2.2.2.2.2.2.2.2.2.2.2.2.2.2.2.2.2.2.1, a18.2.2.2.2.2.2.2.2.2.2.2.2.2.2.2.2.2.2.2.1, a18.2.2.2.2.2.2.2.2.2.2.2.2.2.2.2.2.2.2.2.2.1, a18.2.2.2.2.2.2.2.2.2.2.2.2.2.2.2.2.2.2.2.2.2.1, a18.2.2.2.2.2.2.2.2.2.2.2.2.2.2.2.2.2.2.2.2.2.2)) else (none) else none else none else none else none) else (if ((xs a18.2.2.2.2.2.2.2.2.2.2.2.2.2.2.2.2.2.2.2.2.2.2.toNatClampNeg) &&& (31 : Int32)) = (18 : Int32) then (if vin (a18.2.2.2.2.2.2.2.2.2.2.2.2.2.2.2.2.2.2.2.2.2.2 + (1 : Int32)) L then if vin (a18.2.2.2.2.2.2.2.2.2.2.2.2.2.2.2.2.2.2.2.2.2.2 + (2 : Int32)) L then if vin (a18.2.2.2.2.2.2.2.2.2.2.2.2.2.2.2.2.2.2.2.2.2.2 + (3 : Int32)) L then (M_X8_where a18.2.1 a18.2.2.1 a18.2.2.2.2.2.2.2.2.2.2.2.2.1 (xs (a18.2.2.2.2.2.2.2.2.2.2.2.2.2.2.2.2.2.2.2.2.2.2 + (1 : Int32)).toNatClampNeg) (xs (a18.2.2.2.2.2.2.2.2.2.2.2.2.2.2.2.2.2.2.2.2.2.2 + (2 : Int32)).toNatClampNeg) (xs (a18.2.2.2.2.2.2.2.2.2.2.2.2.2.2.2.2.2.2.2.2.2.2 + (3 : Int32)).toNatClampNeg)).bind fun z600 => if vin (a18.2.2.2.2.2.2.2.2.2.2.2.2.2.2.2.2.2.2.2.2.2.2 + (1 : Int32)) L then if vin (a18.2.2.2.2.2.2.2.2.2.2.2.2.2.2.2.2.2.2.2.2.2.2 + (2 : Int32)) L then if vin (a18.2.2.2.2.2.2.2.2.2.2.2.2.2.2.2.2.2.2.2.2.2.2 + (3 : Int32)) L then (M_X9_where a18.2.2.2.2.2.2.2.2.2.2.2.2.2.1 a18.2.2.2.2.2.2.2.2.2.2.2.2.2.2.2.2.2.2.2.2.1 (xs (a18.2.2.2.2.2.2.2.2.2.2.2.2.2.2.2.2.2.2.2.2.2.2 + (1 : Int32)).toNatClampNeg) (xs (a18.2.2.2.2.2.2.2.2.2.2.2.2.2.2.2.2.2.2.2.2.2.2 + (2 : Int32)).toNatClampNeg) (xs (a18.2.2.2.2.2.2.2.2.2.2.2.2.2.2.2.2.2.2.2.2.2.2 + (3 : Int32)).toNatClampNeg)).bind fun z619 => if z600.1 = z619.1 then (M_L_law_773 L xs rc18 (a18.1, a18.2.1, a18.2.2.1, a18.2.2.2.1, a18.2.2.2.2.1, a18.2.2.2.2.2.1, a18.2.2.2.2.2.2.1, a18.2.2.2.2.2.2.2.1, a18.2.2.2.2.2.2.2.2.1, a18.2.2.2.2.2.2.2.2.2.1, a18.2.2.2.2.2.2.2.2.2.2.1, a18.2.2.2.2.2.2.2.2.2.2.2.1, z600.2, a18.2.2.2.2.2.2.2.2.2.2.2.2.2.1, a18.2.2.2.2.2.2.2.2.2.2.2.2.2.2.1, a18.2.2.2.2.2.2.2.2.2.2.2.2.2.2.2.1, a18.2.2.2.2.2.2.2.2.2.2.2.2.2.2.2.2.1, a18.2.2.2.2.2.2.2.2.2.2.2.2.2.2.2.2.2.1, a18.2.2.2.2.2.2.2.2.2.2.2.2.2.2.2.2.2.2.1, a18.2.2.2.2.2.2.2.2.2.2.2.2.2.2.2.2.2.2.2.1, z619.2, a18.2.2.2.2.2.2.2.2.2.2.2.2.2.2.2.2.2.2.2.2.2.1, a18.2.2.2.2.2.2.2.2.2.2.2.2.2.2.2.2.2.2.2.2.2.2)) else (none) else none else none else none else none else none else none) else (if ((xs a18.2.2.2.2.2.2.2.2.2.2.2.2.2.2.2.2.2.2.2.2.2.2.toNatClampNeg) &&& (31 : Int32)) = (19 : Int32) then (if vin (a18.2.2.2.2.2.2.2.2.2.2.2.2.2.2.2.2.2.2.2.2.2.2 + (1 : Int32)) L then if vin (a18.2.2.2.2.2.2.2.2.2.2.2.2.2.2.2.2.2.2.2.2.2.2 + (2 : Int32)) L then (M_X8_wind a18.1 a18.2.1 a18.2.2.1 a18.2.2.2.2.2.2.2.2.2.1 a18.2.2.2.2.2.2.2.2.2.2.1 (xs (a18.2.2.2.2.2.2.2.2.2.2.2.2.2.2.2.2.2.2.2.2.2.2 + (1 : Int32)).toNatClampNeg) (xs (a18.2.2.2.2.2.2.2.2.2.2.2.2.2.2.2.2.2.2.2.2.2.2 + (2 : Int32)).toNatClampNeg)).bind fun z638 => if vin (a18.2.2.2.2.2.2.2.2.2.2.2.2.2.2.2.2.2.2.2.2.2.2 + (1 : Int32)) L then if vin (a18.2.2.2.2.2.2.2.2.2.2.2.2.2.2.2.2.2.2.2.2.2.2 + (2 : Int32)) L then (M_X9_wind a18.2.2.2.2.2.2.2.2.2.2.2.2.2.1 a18.2.2.2.2.2.2.2.2.2.2.2.2.2.2.1 a18.2.2.2.2.2.2.2.2.2.2.2.2.2.2.2.1 a18.2.2.2.2.2.2.2.2.2.2.2.2.2.2.2.2.1 (xs (a18.2.2.2.2.2.2.2.2.2.2.2.2.2.2.2.2.2.2.2.2.2.2 + (1 : Int32)).toNatClampNeg) (xs (a18.2.2.2.2.2.2.2.2.2.2.2.2.2.2.2.2.2.2.2.2.2.2 + (2 : Int32)).toNatClampNeg)).bind fun z652 => if (lg_cmp z638.1 z652.1) = 0 then (M_L_law_773 L xs rc18 (a18.1, a18.2.1, a18.2.2.1, a18.2.2.2.1, a18.2.2.2.2.1, a18.2.2.2.2.2.1, a18.2.2.2.2.2.2.1, a18.2.2.2.2.2.2.2.1, a18.2.2.2.2.2.2.2.2.1, z638.2.1, z638.2.2, a18.2.2.2.2.2.2.2.2.2.2.2.1, a18.2.2.2.2.2.2.2.2.2.2.2.2.1, a18.2.2.2.2.2.2.2.2.2.2.2.2.2.1, a18.2.2.2.2.2.2.2.2.2.2.2.2.2.2.1, z652.2.1, z652.2.2, a18.2.2.2.2.2.2.2.2.2.2.2.2.2.2.2.2.2.1, a18.2.2.2.2.2.2.2.2.2.2.2.2.2.2.2.2.2.2.1, a18.2.2.2.2.2.2.2.2.2.2.2.2.2.2.2.2.2.2.2.1, a18.2.2.2.2.2.2.2.2.2.2.2.2.2.2.2.2.2.2.2.2.1, a18.2.2.2.2.2.2.2.2.2.2.2.2.2.2.2.2.2.2.2.2.2.1, a18.2.2.2.2.2.2.2.2.2.2.2.2.2.2.2.2.2.2.2.2.2.2)) else (none) else none else none else none else none) else (if ((xs a18.2.2.2.2.2.2.2.2.2.2.2.2.2.2.2.2.2.2.2.2.2.2.toNatClampNeg) &&& (31 : Int32)) = (20 : Int32) then (if vin (a18.2.2.2.2.2.2.2.2.2.2.2.2.2.2.2.2.2.2.2.2.2.2 + (1 : Int32)) L then if vin (a18.2.2.2.2.2.2.2.2.2.2.2.2.2.2.2.2.2.2.2.2.2.2 + (2 : Int32)) L then if vin (a18.2.2.2.2.2.2.2.2.2.2.2.2.2.2.2.2.2.2.2.2.2.2 + (3 : Int32)) L then (M_X8_night a18.2.1 a18.2.2.1 a18.2.2.2.2.2.2.2.2.2.1 (xs (a18.2.2.2.2.2.2.2.2.2.2.2.2.2.2.2.2.2.2.2.2.2.2 + (1 : Int32)).toNatClampNeg) (xs (a18.2.2.2.2.2.2.2.2.2.2.2.2.2.2.2.2.2.2.2.2.2.2 + (2 : Int32)).toNatClampNeg) (xs (a18.2.2.2.2.2.2.2.2.2.2.2.2.2.2.2.2.2.2.2.2.2.2 + (3 : Int32)).toNatClampNeg)).bind fun z677 => if vin (a18.2.2.2.2.2.2.2.2.2.2.2.2.2.2.2.2.2.2.2.2.2.2 + (1 : Int32)) L then if vin (a18.2.2.2.2.2.2.2.2.2.2.2.2.2.2.2.2.2.2.2.2.2.2 + (2 : Int32)) L then if vin (a18.2.2.2.2.2.2.2.2.2.2.2.2.2.2.2.2.2.2.2.2.2.2 + (3 : Int32)) L then (M_X9_night a18.2.2.2.2.2.2.2.2.2.2.2.2.2.1 a18.2.2.2.2.2.2.2.2.2.2.2.2.2.2.2.1 (xs (a18.2.2.2.2.2.2.2.2.2.2.2.2.2.2.2.2.2.2.2.2.2.2 + (1 : Int32)).toNatClampNeg) (xs (a18.2.2.2.2.2.2.2.2.2.2.2.2.2.2.2.2.2.2.2.2.2.2 + (2 : Int32)).toNatClampNeg) (xs (a18.2.2.2.2.2.2.2.2.2.2.2.2.2.2.2.2.2.2.2.2.2.2 + (3 : Int32)).toNatClampNeg)).bind fun z696 => if z677.1 = z696.1 then (M_L_law_773 L xs rc18 (a18.1, a18.2.1, a18.2.2.1, a18.2.2.2.1, a18.2.2.2.2.1, a18.2.2.2.2.2.1, a18.2.2.2.2.2.2.1, a18.2.2.2.2.2.2.2.1, a18.2.2.2.2.2.2.2.2.1, z677.2, a18.2.2.2.2.2.2.2.2.2.2.1, a18.2.2.2.2.2.2.2.2.2.2.2.1, a18.2.2.2.2.2.2.2.2.2.2.2.2.1, a18.2.2.2.2.2.2.2.2.2.2.2.2.2.1, a18.2.2.2.2.2.2.2.2.2.2.2.2.2.2.1, z696.2, a18.2.2.2.2.2.2.2.2.2.2.2.2.2.2.2.2.1, a18.2.2.2.2.2.2.2.2.2.2.2.2.2.2.2.2.2.1, a18.2.2.2.2.2.2.2.2.2.2.2.2.2.2.2.2.2.2.1, a18.2.2.2.2.2.2.2.2.2.2.2.2.2.2.2.2.2.2.2.1, a18.2.2.2.2.2.2.2.2.2.2.2.2.2.2.2.2.2.2.2.2.1, a18.2.2.2.2.2.2.2.2.2.2.2.2.2.2.2.2.2.2.2.2.2.1, a18.2.2.2.2.2.2.2.2.2.2.2.2.2.2.2.2.2.2.2.2.2.2)) else (none) else none else none else none else none else none else none) else (if ((xs a18.2.2.2.2.2.2.2.2.2.2.2.2.2.2.2.2.2.2.2.2.2.2.toNatClampNeg) &&& (31 : Int32)) = (21 : Int32) then (if vin (a18.2.2.2.2.2.2.2.2.2.2.2.2.2.2.2.2.2.2.2.2.2.2 + (1 : Int32)) L then (M_X8_image a18.2.1 a18.2.2.1 a18.2.2.2.1 a18.2.2.2.2.1 a18.2.2.2.2.2.1 a18.2.2.2.2.2.2.1 a18.2.2.2.2.2.2.2.1 a18.2.2.2.2.2.2.2.2.1 (xs (a18.2.2.2.2.2.2.2.2.2.2.2.2.2.2.2.2.2.2.2.2.2.2 + (1 : Int32)).toNatClampNeg)).bind fun z710 => if vin (a18.2.2.2.2.2.2.2.2.2.2.2.2.2.2.2.2.2.2.2.2.2.2 + (1 : Int32)) L then (M_X9_image a18.2.2.2.2.2.2.2.2.2.2.2.2.2.1 a18.2.2.2.2.2.2.2.2.2.2.2.2.2.2.2.2.2.2.2.2.2.1 (xs (a18.2.2.2.2.2.2.2.2.2.2.2.2.2.2.2.2.2.2.2.2.2.2 + (1 : Int32)).toNatClampNeg)).bind fun z719 => if z710.1 = z719.1 then (M_L_law_773 L xs rc18 (a18.1, a18.2.1, a18.2.2.1, z710.2.1, z710.2.2.1, z710.2.2.2.1, z710.2.2.2.2.1, z710.2.2.2.2.2.1, z710.2.2.2.2.2.2, a18.2.2.2.2.2.2.2.2.2.1, a18.2.2.2.2.2.2.2.2.2.2.1, a18.2.2.2.2.2.2.2.2.2.2.2.1, a18.2.2.2.2.2.2.2.2.2.2.2.2.1, z719.2.1, a18.2.2.2.2.2.2.2.2.2.2.2.2.2.2.1, a18.2.2.2.2.2.2.2.2.2.2.2.2.2.2.2.1, a18.2.2.2.2.2.2.2.2.2.2.2.2.2.2.2.2.1, a18.2.2.2.2.2.2.2.2.2.2.2.2.2.2.2.2.2.1, a18.2.2.2.2.2.2.2.2.2.2.2.2.2.2.2.2.2.2.1, a18.2.2.2.2.2.2.2.2.2.2.2.2.2.2.2.2.2.2.2.1, a18.2.2.2.2.2.2.2.2.2.2.2.2.2.2.2.2.2.2.2.2.1, z719.2.2, a18.2.2.2.2.2.2.2.2.2.2.2.2.2.2.2.2.2.2.2.2.2.2)) else (none) else none else none) else (if ((xs a18.2.2.2.2.2.2.2.2.2.2.2.2.2.2.2.2.2.2.2.2.2.2.toNatClampNeg) &&& (31 : Int32)) = (22 : Int32) then (if vin (a18.2.2.2.2.2.2.2.2.2.2.2.2.2.2.2.2.2.2.2.2.2.2 + (1 : Int32)) L then (M_X8_restore a18.2.1 a18.2.2.1 a18.2.2.2.1 a18.2.2.2.2.1 a18.2.2.2.2.2.1 a18.2.2.2.2.2.2.1 a18.2.2.2.2.2.2.2.1 a18.2.2.2.2.2.2.2.2.1 (xs (a18.2.2.2.2.2.2.2.2.2.2.2.2.2.2.2.2.2.2.2.2.2.2 + (1 : Int32)).toNatClampNeg)).bind fun z733 => if vin (a18.2.2.2.2.2.2.2.2.2.2.2.2.2.2.2.2.2.2.2.2.2.2 + (1 : Int32)) L then (M_X9_restore a18.2.2.2.2.2.2.2.2.2.2.2.2.2.1 a18.2.2.2.2.2.2.2.2.2.2.2.2.2.2.2.2.2.2.2.2.2.1 (xs (a18.2.2.2.2.2.2.2.2.2.2.2.2.2.2.2.2.2.2.2.2.2.2 + (1 : Int32)).toNatClampNeg)).bind fun z742 => if z733.1 = z742.1 then (M_L_law_773 L xs rc18 (a18.1, z733.2.1, z733.2.2, a18.2.2.2.1, a18.2.2.2.2.1, a18.2.2.2.2.2.1, a18.2.2.2.2.2.2.1, a18.2.2.2.2.2.2.2.1, a18.2.2.2.2.2.2.2.2.1, a18.2.2.2.2.2.2.2.2.2.1, a18.2.2.2.2.2.2.2.2.2.2.1, a18.2.2.2.2.2.2.2.2.2.2.2.1, a18.2.2.2.2.2.2.2.2.2.2.2.2.1, z742.2.1, a18.2.2.2.2.2.2.2.2.2.2.2.2.2.2.1, a18.2.2.2.2.2.2.2.2.2.2.2.2.2.2.2.1, a18.2.2.2.2.2.2.2.2.2.2.2.2.2.2.2.2.1, a18.2.2.2.2.2.2.2.2.2.2.2.2.2.2.2.2.2.1, a18.2.2.2.2.2.2.2.2.2.2.2.2.2.2.2.2.2.2.1, a18.2.2.2.2.2.2.2.2.2.2.2.2.2.2.2.2.2.2.2.1, a18.2.2.2.2.2.2.2.2.2.2.2.2.2.2.2.2.2.2.2.2.1, z742.2.2, a18.2.2.2.2.2.2.2.2.2.2.2.2.2.2.2.2.2.2.2.2.2.2)) else (none) else none else none) else (if ((xs a18.2.2.2.2.2.2.2.2.2.2.2.2.2.2.2.2.2.2.2.2.2.2.toNatClampNeg) &&& (31 : Int32)) = (23 : Int32) then (if vin (a18.2.2.2.2.2.2.2.2.2.2.2.2.2.2.2.2.2.2.2.2.2.2 + (1 : Int32)) L then (M_X8_told a18.1 a18.2.1 a18.2.2.1 (xs (a18.2.2.2.2.2.2.2.2.2.2.2.2.2.2.2.2.2.2.2.2.2.2 + (1 : Int32)).toNatClampNeg)).bind fun z756 => if vin (a18.2.2.2.2.2.2.2.2.2.2.2.2.2.2.2.2.2.2.2.2.2.2 + (1 : Int32)) L then (M_X9_told a18.2.2.2.2.2.2.2.2.2.2.2.2.2.1 a18.2.2.2.2.2.2.2.2.2.2.2.2.2.2.1 (xs (a18.2.2.2.2.2.2.2.2.2.2.2.2.2.2.2.2.2.2.2.2.2.2 + (1 : Int32)).toNatClampNeg)).bind fun z765 => if z756 = z765 then (M_L_law_773 L xs rc18 (a18.1, a18.2.1, a18.2.2.1, a18.2.2.2.1, a18.2.2.2.2.1, a18.2.2.2.2.2.1, a18.2.2.2.2.2.2.1, a18.2.2.2.2.2.2.2.1, a18.2.2.2.2.2.2.2.2.1, a18.2.2.2.2.2.2.2.2.2.1, a18.2.2.2.2.2.2.2.2.2.2.1, a18.2.2.2.2.2.2.2.2.2.2.2.1, a18.2.2.2.2.2.2.2.2.2.2.2.2.1, a18.2.2.2.2.2.2.2.2.2.2.2.2.2.1, a18.2.2.2.2.2.2.2.2.2.2.2.2.2.2.1, a18.2.2.2.2.2.2.2.2.2.2.2.2.2.2.2.1, a18.2.2.2.2.2.2.2.2.2.2.2.2.2.2.2.2.1, a18.2.2.2.2.2.2.2.2.2.2.2.2.2.2.2.2.2.1, a18.2.2.2.2.2.2.2.2.2.2.2.2.2.2.2.2.2.2.1, a18.2.2.2.2.2.2.2.2.2.2.2.2.2.2.2.2.2.2.2.1, a18.2.2.2.2.2.2.2.2.2.2.2.2.2.2.2.2.2.2.2.2.1, a18.2.2.2.2.2.2.2.2.2.2.2.2.2.2.2.2.2.2.2.2.2.1, a18.2.2.2.2.2.2.2.2.2.2.2.2.2.2.2.2.2.2.2.2.2.2)) else (none) else none else none) else (M_L_law_773 L xs rc18 (a18.1, a18.2.1, a18.2.2.1, a18.2.2.2.1, a18.2.2.2.2.1, a18.2.2.2.2.2.1, a18.2.2.2.2.2.2.1, a18.2.2.2.2.2.2.2.1, a18.2.2.2.2.2.2.2.2.1, a18.2.2.2.2.2.2.2.2.2.1, a18.2.2.2.2.2.2.2.2.2.2.1, a18.2.2.2.2.2.2.2.2.2.2.2.1, a18.2.2.2.2.2.2.2.2.2.2.2.2.1, a18.2.2.2.2.2.2.2.2.2.2.2.2.2.1, a18.2.2.2.2.2.2.2.2.2.2.2.2.2.2.1, a18.2.2.2.2.2.2.2.2.2.2.2.2.2.2.2.1, a18.2.2.2.2.2.2.2.2.2.2.2.2.2.2.2.2.1, a18.2.2.2.2.2.2.2.2.2.2.2.2.2.2.2.2.2.1, a18.2.2.2.2.2.2.2.2.2.2.2.2.2.2.2.2.2.2.1, a18.2.2.2.2.2.2.2.2.2.2.2.2.2.2.2.2.2.2.2.1, a18.2.2.2.2.2.2.2.2.2.2.2.2.2.2.2.2.2.2.2.2.1, a18.2.2.2.2.2.2.2.2.2.2.2.2.2.2.2.2.2.2.2.2.2.1, a18.2.2.2.2.2.2.2.2.2.2.2.2.2.2.2.2.2.2.2.2.2.2))))))))))))))))))))))))) else none)
def M_L_law_18 (L : Nat) (xs : Nat → Int32) : Nat → (PT × HT × VT × Int32 × HT × VT × Int32 × HT × VT × RT × DT × YT × QT × BT × OT × NT × GT × AR × TT × AR × LT × IT × Int32) → Option (Unit)
  | 0 => fun _ => none
  | k + 1 => M_L_law_18b L xs (M_L_law_18 L xs k)
end
section
/-! Numbers: small naturals as ints, masks of cells; the small methods of both classes in these words -/
theorem n_and (a b : Nat) : nI a &&& nI b = nI (a &&& b) := by
  apply Int32.toBitVec_inj.1
  show BitVec.ofNat 32 a &&& BitVec.ofNat 32 b = BitVec.ofNat 32 (a &&& b)
  apply BitVec.eq_of_getLsbD_eq
  intro i hi
  simp [hi]
theorem n_or (a b : Nat) : nI a ||| nI b = nI (a ||| b) := by
  apply Int32.toBitVec_inj.1
  show BitVec.ofNat 32 a ||| BitVec.ofNat 32 b = BitVec.ofNat 32 (a ||| b)
  apply BitVec.eq_of_getLsbD_eq
  intro i hi
  simp [hi]
def andn (a b : Nat) : Nat := a ^^^ (a &&& b)
theorem n_andn (a b : Nat) : nI a &&& (nI b ^^^ (-1)) = nI (andn a b) := by
  apply Int32.toBitVec_inj.1
  show BitVec.ofNat 32 a &&& (BitVec.ofNat 32 b ^^^ BitVec.allOnes 32) = BitVec.ofNat 32 (a ^^^ (a &&& b))
  apply BitVec.eq_of_getLsbD_eq
  intro i hi
  simp only [BitVec.getLsbD_and, BitVec.getLsbD_xor, BitVec.getLsbD_allOnes, BitVec.getLsbD_ofNat, hi, Nat.testBit_xor, Nat.testBit_and, decide_true, Bool.true_and]
  cases a.testBit i <;> cases b.testBit i <;> rfl
theorem andn_bit (a b i : Nat) : (andn a b).testBit i = (a.testBit i && !b.testBit i) := by
  unfold andn
  rw [Nat.testBit_xor, Nat.testBit_and]
  cases a.testBit i <;> cases b.testBit i <;> rfl
theorem bits_eq {a b n : Nat} (ha : a < 2 ^ n) (hb : b < 2 ^ n) (h : ∀ i, i < n → a.testBit i = b.testBit i) : a = b := by
  apply Nat.eq_of_testBit_eq
  intro i
  rcases Nat.lt_or_ge i n with q | q
  · exact h i q
  · rw [Nat.testBit_lt_two_pow (Nat.lt_of_lt_of_le ha (Nat.pow_le_pow_right (by omega) q)), Nat.testBit_lt_two_pow (Nat.lt_of_lt_of_le hb (Nat.pow_le_pow_right (by omega) q))]
theorem bits_lt {a n : Nat} (h : ∀ i, n ≤ i → a.testBit i = false) : a < 2 ^ n := Nat.lt_pow_two_of_testBit a (fun i hi => h i hi)
/-- the cells of a kind, as a mask -/
def mk (P : Nat → Bool) : Nat → Nat
  | 0 => 0
  | k + 1 => if P k then mk P k ||| 2 ^ k else mk P k
theorem mk_bit (P : Nat → Bool) : ∀ (n i : Nat), (mk P n).testBit i = (decide (i < n) && P i) := by
  intro n
  induction n with
  | zero => intro i; simp [mk]
  | succ n ih =>
    intro i
    unfold mk
    by_cases hp : P n = true
    · rw [if_pos hp, Nat.testBit_or, ih, Nat.testBit_two_pow]
      by_cases h1 : n = i
      · subst h1; simp [hp]
      · by_cases h2 : i < n
        · simp [h1, h2, Nat.lt_succ_of_lt h2]
        · have h3 : ¬ i < n + 1 := by omega
          simp [h1, h2, h3]
    · rw [if_neg hp, ih]
      by_cases h1 : n = i
      · subst h1
        have : P n = false := by simpa using hp
        simp [this]
      · by_cases h2 : i < n
        · simp [h2, Nat.lt_succ_of_lt h2]
        · have h3 : ¬ i < n + 1 := by omega
          simp [h2, h3]
theorem mk_lt (P : Nat → Bool) (n : Nat) : mk P n < 2 ^ n := bits_lt (fun i hi => by rw [mk_bit]; simp; omega)
theorem mk_eq {P : Nat → Bool} {n a : Nat} (ha : a < 2 ^ n) (h : ∀ i, i < n → a.testBit i = P i) : a = mk P n := bits_eq ha (mk_lt P n) (fun i hi => by rw [mk_bit, h i hi]; simp [hi])
theorem mk_cong {P Q : Nat → Bool} {n : Nat} (h : ∀ i, i < n → P i = Q i) : mk P n = mk Q n := mk_eq (mk_lt P n) (fun i hi => by rw [mk_bit, ← h i hi]; simp [hi])
theorem s_l : ∀ n, n < 32 → ((nI n &&& 31).toBitVec.smod 32).toNat = n := by decide +kernel
theorem s_u : ∀ n, n < 32 → (((nI n).toUInt32 &&& Int32.toUInt32 31).toBitVec % 32).toNat = n := by decide +kernel
theorem n_shl {a k : Nat} (hk : k < 32) (h : a * 2 ^ k < 2 ^ 32) : nI a <<< (nI k &&& 31) = nI (a * 2 ^ k) := pk_shlN (nI k &&& 31) k (s_l k hk) h
theorem n_ushr {a k : Nat} (hk : k < 32) (h : a < 2 ^ 32) : ((nI a).toUInt32 >>> ((nI k).toUInt32 &&& Int32.toUInt32 31)).toInt32 = nI (a / 2 ^ k) := pk_ushrN h (nI k) k (s_u k hk)
theorem n_sshr {a k : Nat} (hk : k < 32) (h : a < 2 ^ 31) : nI a >>> (nI k &&& 31) = nI (a / 2 ^ k) := pk_shrN h (nI k &&& 31) k (s_l k hk)
theorem n_bitv {m c : Nat} (hm : m < 2 ^ 31) : (nI (m / 2 ^ c) &&& nI 1) = (if m.testBit c then nI 1 else nI 0) := by
  rw [n_and, Nat.and_one_is_mod, Nat.testBit_eq_decide_div_mod_eq]
  rcases Nat.mod_two_eq_zero_or_one (m / 2 ^ c) with h | h <;> simp [h]
theorem n0 : (0 : Int32) = nI 0 := rfl
theorem n1 : (1 : Int32) = nI 1 := rfl
theorem nI_inj {a b : Nat} (ha : a < 2 ^ 31) (hb : b < 2 ^ 31) (h : nI a = nI b) : a = b := (nI_eq ha hb).mp h
theorem m_has {m c : Nat} (hm : m < 2 ^ 31) (hc : c < 32) : M_X8_has (nI m) (nI c) = some (if m.testBit c then 1 else 0) := by
  unfold M_X8_has
  rw [n_ushr hc (by omega), n1, n_bitv hm]
  cases m.testBit c
  · rfl
  · rfl
theorem m_bit {c : Nat} (hc : c < 31) : M_X8_bit (nI c) = some (nI (2 ^ c)) := by
  unfold M_X8_bit
  have h : 2 ^ c ≤ 2 ^ 30 := Nat.pow_le_pow_right (by omega) (by omega)
  rw [n1, n_shl (by omega) (by rw [Nat.one_mul]; omega), Nat.one_mul]
theorem m_within (x lo hi : Int32) : M_X8_within x lo hi = some (if lo ≤ x ∧ x ≤ hi then 1 else 0) := by
  unfold M_X8_within
  by_cases h1 : x < lo
  · rw [if_pos h1, if_neg (fun q => absurd (Int32.not_le.mpr h1) (fun z => z q.1))]
  · rw [if_neg h1]
    by_cases h2 : hi < x
    · rw [if_pos h2, if_neg (fun q => absurd (Int32.not_le.mpr h2) (fun z => z q.2))]
    · rw [if_neg h2, if_pos ⟨Int32.not_lt.mp h1, Int32.not_lt.mp h2⟩]
theorem w_lt (a b : Int32) : a.toInt64 < b.toInt64 ↔ a < b := by rw [Int64.lt_iff_toInt_lt, Int32.lt_iff_toInt_lt, Int32.toInt_toInt64, Int32.toInt_toInt64]
theorem m_in (x lo hi : Int32) : M_X9_in x.toInt64 lo.toInt64 hi.toInt64 = some (if lo ≤ x ∧ x ≤ hi then 1 else 0) := by
  unfold M_X9_in
  by_cases h1 : x < lo
  · rw [if_pos ((lg_cmp_lt _ _).mpr ((w_lt _ _).mpr h1)), if_neg (fun q => absurd (Int32.not_le.mpr h1) (fun z => z q.1))]
  · rw [if_neg (fun q => h1 ((w_lt _ _).mp ((lg_cmp_lt _ _).mp q)))]
    by_cases h2 : hi < x
    · rw [if_pos ((lg_cmp_gt _ _).mpr ((w_lt _ _).mpr h2)), if_neg (fun q => absurd (Int32.not_le.mpr h2) (fun z => z q.2))]
    · rw [if_neg (fun q => h2 ((w_lt _ _).mp ((lg_cmp_gt _ _).mp q))), if_pos ⟨Int32.not_lt.mp h1, Int32.not_lt.mp h2⟩]
theorem m_cellOf : ∀ c, c < 16 → M_X8_cellOf (nI (2 ^ c)) = some (nI c) := by decide +kernel
/-- how many bits -/
def pc16 (m : Nat) : Nat → Nat
  | 0 => 0
  | k + 1 => pc16 m k + (if m.testBit k then 1 else 0)
def bcN (m : Nat) : Nat :=
  let a := m - (m / 2 &&& 1431655765)
  let b := (a &&& 858993459) + (a / 4 &&& 858993459)
  let d := (b + b / 16) &&& 252645135
  let e := d + d / 256
  (e + e / 65536) &&& 63
end
section
theorem bit_hi (a b k : Nat) (hb : b < 256) : (a * 256 + b).testBit (k + 8) = a.testBit k := by
  have := Nat.testBit_two_pow_mul_add a (i := 8) (b := b) hb (k + 8)
  rw [show a * 256 = 2 ^ 8 * a by omega, this, if_neg (by omega), Nat.add_sub_cancel]
theorem bit_lo (a b k : Nat) (hb : b < 256) (hk : k < 8) : (a * 256 + b).testBit k = b.testBit k := by
  have := Nat.testBit_two_pow_mul_add a (i := 8) (b := b) hb k
  rw [show a * 256 = 2 ^ 8 * a by omega, this]
  simp [hk]
theorem pc_split (a b : Nat) (hb : b < 256) : pc16 (a * 256 + b) 16 = pc16 a 8 + pc16 b 8 := by
  have h0 := bit_hi a b 0 hb
  have h1 := bit_hi a b 1 hb
  have h2 := bit_hi a b 2 hb
  have h3 := bit_hi a b 3 hb
  have h4 := bit_hi a b 4 hb
  have h5 := bit_hi a b 5 hb
  have h6 := bit_hi a b 6 hb
  have h7 := bit_hi a b 7 hb
  have g0 := bit_lo a b 0 hb (by omega)
  have g1 := bit_lo a b 1 hb (by omega)
  have g2 := bit_lo a b 2 hb (by omega)
  have g3 := bit_lo a b 3 hb (by omega)
  have g4 := bit_lo a b 4 hb (by omega)
  have g5 := bit_lo a b 5 hb (by omega)
  have g6 := bit_lo a b 6 hb (by omega)
  have g7 := bit_lo a b 7 hb (by omega)
  simp only [pc16, h0, h1, h2, h3, h4, h5, h6, h7, g0, g1, g2, g3, g4, g5, g6, g7]
  omega
theorem pc_8 : ∀ b, b < 256 → bcN b = pc16 b 8 := by decide +kernel
/-- all of a row -/
def bcRow (a pa : Nat) : Nat → Bool
  | 0 => true
  | b + 1 => and (Nat.beq (bcN (a * 256 + b)) (pa + bcN b)) (bcRow a pa b)
def bcRows : Nat → Bool
  | 0 => true
  | a + 1 => and (bcRow a (bcN a) 256) (bcRows a)
theorem bc_rows : bcRows 256 = true := by decide +kernel
theorem bcRow_of {a pa : Nat} : ∀ {n b : Nat}, bcRow a pa n = true → b < n → bcN (a * 256 + b) = pa + bcN b := by
  intro n
  induction n with
  | zero => intro b _ h; omega
  | succ n ih =>
    intro b h hb
    unfold bcRow at h
    rw [Bool.and_eq_true] at h
    rcases Nat.lt_or_ge b n with q | q
    · exact ih h.2 q
    · have e : b = n := by omega
      subst e
      exact Nat.eq_of_beq_eq_true h.1
theorem bcRows_of : ∀ {n a : Nat}, bcRows n = true → a < n → bcRow a (bcN a) 256 = true := by
  intro n
  induction n with
  | zero => intro a _ h; omega
  | succ n ih =>
    intro a h ha
    unfold bcRows at h
    rw [Bool.and_eq_true] at h
    rcases Nat.lt_or_ge a n with q | q
    · exact ih h.2 q
    · have e : a = n := by omega
      subst e
      exact h.1
theorem bc_all {m : Nat} (h : m < 65536) : bcN m = pc16 m 16 := by
  have e : m = m / 256 * 256 + m % 256 := by omega
  have ha : m / 256 < 256 := by omega
  have hb : m % 256 < 256 := by omega
  rw [e, bcRow_of (bcRows_of bc_rows ha) hb, pc_split _ _ hb, pc_8 _ ha, pc_8 _ hb]
end
section
theorem n_sub {a b : Nat} (h : b ≤ a) : nI a - nI b = nI (a - b) := by
  have e : nI a = nI (a - b) + nI b := by rw [nI_add]; congr 1; omega
  rw [e, Int32.add_sub_cancel]
theorem ush1 {a : Nat} (h : a < 2 ^ 32) : ((nI a).toUInt32 >>> ((1 : Int32).toUInt32 &&& Int32.toUInt32 31)).toInt32 = nI (a / 2) := n_ushr (k := 1) (by omega) h
theorem ush2 {a : Nat} (h : a < 2 ^ 32) : ((nI a).toUInt32 >>> ((2 : Int32).toUInt32 &&& Int32.toUInt32 31)).toInt32 = nI (a / 4) := n_ushr (k := 2) (by omega) h
theorem ush4 {a : Nat} (h : a < 2 ^ 32) : ((nI a).toUInt32 >>> ((4 : Int32).toUInt32 &&& Int32.toUInt32 31)).toInt32 = nI (a / 16) := n_ushr (k := 4) (by omega) h
theorem ush8 {a : Nat} (h : a < 2 ^ 32) : ((nI a).toUInt32 >>> ((8 : Int32).toUInt32 &&& Int32.toUInt32 31)).toInt32 = nI (a / 256) := n_ushr (k := 8) (by omega) h
theorem ush16 {a : Nat} (h : a < 2 ^ 32) : ((nI a).toUInt32 >>> ((16 : Int32).toUInt32 &&& Int32.toUInt32 31)).toInt32 = nI (a / 65536) := n_ushr (k := 16) (by omega) h
theorem m_bitCount {m : Nat} (h : m < 65536) : M_J6_bitCount_0f7a4 (nI m) = some (nI (pc16 m 16)) := by
  rw [← bc_all h]
  have e0 : (m / 2 &&& 1431655765) ≤ m := Nat.le_trans Nat.and_le_left (Nat.div_le_self _ _)
  have e1 : ∀ x, x &&& 858993459 ≤ 858993459 := fun x => Nat.and_le_right
  have e2 : ∀ x, x &&& 252645135 ≤ 252645135 := fun x => Nat.and_le_right
  have c1 : (1431655765 : Int32) = nI 1431655765 := rfl
  have c2 : (858993459 : Int32) = nI 858993459 := rfl
  have c3 : (252645135 : Int32) = nI 252645135 := rfl
  have c4 : (63 : Int32) = nI 63 := rfl
  unfold M_J6_bitCount_0f7a4 bcN
  simp only []
  generalize hA : m - (m / 2 &&& 1431655765) = A
  have hA' : A < 65536 := by omega
  generalize hB : (A &&& 858993459) + (A / 4 &&& 858993459) = B
  have hB' : B < 2000000000 := by have := e1 A; have := e1 (A / 4); omega
  generalize hD : (B + B / 16) &&& 252645135 = D
  have hD' : D ≤ 252645135 := by have := e2 (B + B / 16); omega
  have k1 : nI m - (((nI m).toUInt32 >>> ((1 : Int32).toUInt32 &&& Int32.toUInt32 31)).toInt32 &&& (1431655765 : Int32)) = nI A := by
    rw [ush1 (by omega), c1, n_and, n_sub e0, hA]
  have k2 : (nI A &&& (858993459 : Int32)) + (((nI A).toUInt32 >>> ((2 : Int32).toUInt32 &&& Int32.toUInt32 31)).toInt32 &&& (858993459 : Int32)) = nI B := by
    rw [ush2 (by omega), c2, n_and, n_and, nI_add, hB]
  have k3 : (nI B + ((nI B).toUInt32 >>> ((4 : Int32).toUInt32 &&& Int32.toUInt32 31)).toInt32) &&& (252645135 : Int32) = nI D := by
    rw [ush4 (by omega), nI_add, c3, n_and, hD]
  rw [k1, k2, k3, ush8 (by omega), nI_add, ush16 (by omega), nI_add, c4, n_and]
end
section
/-! The house's geometry -/
def nb (R C c : Nat) : Nat → Option Nat
  | 0 => if C ≤ c then some (c - C) else none
  | 1 => if c % C + 1 < C then some (c + 1) else none
  | 2 => if c + C < R * C then some (c + C) else none
  | 3 => if 0 < c % C then some (c - 1) else none
  | _ => some c
def opw : Nat → Nat
  | 0 => 2
  | 1 => 3
  | 2 => 0
  | 3 => 1
  | _ => 4
theorem nb_lt' : ∀ R, R < 5 → ∀ C, C < 5 → ∀ c, c < 16 → c < R * C → ∀ w, w < 5 → (nb R C c w).all (fun q => decide (q < R * C)) = true := by decide +kernel
theorem nb_op' : ∀ R, R < 5 → ∀ C, C < 5 → ∀ c, c < 16 → c < R * C → ∀ w, w < 5 → (nb R C c w).all (fun q => decide (nb R C q (opw w) = some c)) = true := by decide +kernel
/-- rows and columns of a house -/
def okD (R C : Nat) : Prop := 1 ≤ R ∧ R ≤ 4 ∧ 1 ≤ C ∧ C ≤ 4
theorem okD.n16 {R C : Nat} (h : okD R C) : R * C ≤ 16 := by
  obtain ⟨h1, h2, h3, h4⟩ := h
  exact Nat.le_trans (Nat.mul_le_mul h2 h4) (by decide)
theorem okD.pos {R C : Nat} (h : okD R C) : 0 < R * C := Nat.mul_pos h.1 h.2.2.1
theorem nb_lt {R C c w q : Nat} (h : okD R C) (hc : c < R * C) (hw : w < 5) (e : nb R C c w = some q) : q < R * C := by
  have := nb_lt' R (by have := h.2.1; omega) C (by have := h.2.2.2; omega) c (Nat.lt_of_lt_of_le hc h.n16) hc w hw
  rw [e] at this
  simpa using this
theorem nb_op {R C c w q : Nat} (h : okD R C) (hc : c < R * C) (hw : w < 5) (e : nb R C c w = some q) : nb R C q (opw w) = some c := by
  have := nb_op' R (by have := h.2.1; omega) C (by have := h.2.2.2; omega) c (Nat.lt_of_lt_of_le hc h.n16) hc w hw
  rw [e] at this
  simpa using this
/-- the class's house out of rows, columns, signs, door, thing, ears -/
def hOf (R C : Nat) (sg : Nat → Nat) (dr th er : Nat) : HT :=
  (nI R, nI C, nI (2 ^ (R * C) - 1), nI (mk (fun c => c % C == 0) (R * C)), nI (mk (fun c => c % C == C - 1) (R * C)), nI (mk (fun c => sg c == 35) (R * C)), nI (mk (fun c => sg c == 103) (R * C)), nI (mk (fun c => sg c == 99) (R * C)), nI (mk (fun c => sg c == 100) (R * C)), nI dr, nI th, nI er)
/-- a mask, moved by a way: cell i holds what the cell against the way holds -/
def mv (R C m w : Nat) : Nat := mk (fun i => match nb R C i (opw w) with | some c => m.testBit c | none => false) (R * C)
theorem mv_lt (R C m w : Nat) : mv R C m w < 2 ^ (R * C) := mk_lt _ _
theorem lt16 {R C m : Nat} (h : okD R C) (hm : m < 2 ^ (R * C)) : m < 65536 := Nat.lt_of_lt_of_le hm (Nat.pow_le_pow_right (n := 2) (by omega) h.n16)
theorem w_ne {a b : Nat} (ha : a < 2 ^ 31) (hb : b < 2 ^ 31) (h : a ≠ b) : ¬ nI a = nI b := fun q => h ((nI_eq ha hb).mp q)
theorem md_step {C i : Nat} (hC : 0 < C) : (0 < (i + 1) % C) ↔ ¬ i % C = C - 1 := by
  rw [Nat.add_mod]
  rcases Nat.lt_or_ge 1 C with q | q
  · rw [Nat.mod_eq_of_lt q]
    have h := Nat.mod_lt i hC
    rcases Nat.lt_or_ge (i % C + 1) C with k | k
    · rw [Nat.mod_eq_of_lt k]; omega
    · have e : i % C + 1 = C := by omega
      rw [e, Nat.mod_self]; omega
  · have e : C = 1 := by omega
    subst e
    simp [Nat.mod_one]
theorem m_moved {R C m w : Nat} (sg : Nat → Nat) (dr th er : Nat) (h : okD R C) (hm : m < 2 ^ (R * C)) (hw : w < 5) : M_X0_moved (hOf R C sg dr th er) (nI m) (nI w) = some (nI (mv R C m w)) := by
  have hm' := lt16 h hm
  have hC : C ≤ 4 := h.2.2.2
  have hC1 : 0 < C := h.2.2.1
  have hz : ∀ j, R * C ≤ j → m.testBit j = false := fun j hj => Nat.testBit_lt_two_pow (Nat.lt_of_lt_of_le hm (Nat.pow_le_pow_right (by omega) hj))
  have e0 : (0 : Int32) = nI 0 := rfl
  have e1 : (1 : Int32) = nI 1 := rfl
  have e2 : (2 : Int32) = nI 2 := rfl
  have e3 : (3 : Int32) = nI 3 := rfl
  have p4 : 2 ^ C ≤ 16 := Nat.le_trans (Nat.pow_le_pow_right (n := 2) (by omega) hC) (by decide)
  unfold M_X0_moved
  dsimp only [hOf]
  obtain rfl | rfl | rfl | rfl | rfl : w = 0 ∨ w = 1 ∨ w = 2 ∨ w = 3 ∨ w = 4 := by omega
  · rw [if_pos (show nI 0 = 0 from rfl), n_ushr (by omega) (by omega)]
    congr 2
    apply mk_eq (Nat.lt_of_le_of_lt (Nat.div_le_self _ _) hm)
    intro i hi
    rw [Nat.testBit_div_two_pow]
    show _ = (match (if i + C < R * C then some (i + C) else none) with | some c => m.testBit c | none => false)
    by_cases q : i + C < R * C
    · rw [if_pos q]
    · rw [if_neg q, hz _ (by omega)]
  · rw [if_neg (show ¬ nI 1 = 0 from w_ne (a := 1) (b := 0) (by omega) (by omega) (by omega)), if_pos (show nI 1 = 1 from rfl), n_andn]
    have hlt : andn m (mk (fun c => c % C == C - 1) (R * C)) < 2 ^ (R * C) := bits_lt (fun i hi => by rw [andn_bit, hz i hi]; rfl)
    have h16 := lt16 h hlt
    rw [show nI (andn m (mk (fun c => c % C == C - 1) (R * C))) <<< ((1 : Int32) &&& 31) = nI (andn m (mk (fun c => c % C == C - 1) (R * C)) * 2 ^ 1) from n_shl (k := 1) (by omega) (by omega)]
    congr 2
    apply mk_eq
    · apply bits_lt
      intro i hi
      have hp := h.pos
      rw [Nat.testBit_mul_two_pow, andn_bit, mk_bit]
      by_cases q : R * C ≤ i - 1
      · rw [hz _ q]; simp
      · have e : i = R * C := by omega
        have e2 : (R * C - 1) % C = C - 1 := by
          obtain ⟨R', rfl⟩ : ∃ R', R = R' + 1 := ⟨R - 1, by have := h.1; omega⟩
          rw [Nat.add_mul, Nat.one_mul, Nat.add_sub_assoc (by omega), Nat.add_comm, Nat.add_mul_mod_self_right, Nat.mod_eq_of_lt (by omega)]
        rw [e, e2]
        have : R * C - 1 < R * C := by omega
        simp [this]
    · intro i hi
      rw [Nat.testBit_mul_two_pow, andn_bit, mk_bit]
      show _ = (match (if 0 < i % C then some (i - 1) else none) with | some c => m.testBit c | none => false)
      cases i with
      | zero => simp
      | succ j =>
        have hj : j < R * C := by omega
        by_cases q : j % C = C - 1
        · rw [if_neg (fun z => (md_step hC1).mp z q)]
          simp [hj, q]
        · rw [if_pos ((md_step hC1).mpr q)]
          simp [hj, q]
  · rw [if_neg (show ¬ nI 2 = 0 from w_ne (a := 2) (b := 0) (by omega) (by omega) (by omega)), if_neg (show ¬ nI 2 = 1 from w_ne (a := 2) (b := 1) (by omega) (by omega) (by omega)), if_pos (show nI 2 = 2 from rfl)]
    have hx : m * 2 ^ C < 2 ^ 32 := Nat.lt_of_le_of_lt (Nat.mul_le_mul (Nat.le_of_lt hm') p4) (by omega)
    rw [n_shl (by omega) hx, n_and]
    congr 2
    apply mk_eq (Nat.lt_of_le_of_lt Nat.and_le_right (Nat.sub_lt (Nat.two_pow_pos _) (by omega)))
    intro i hi
    rw [Nat.testBit_and, Nat.testBit_mul_two_pow, Nat.testBit_two_pow_sub_one]
    show _ = (match (if C ≤ i then some (i - C) else none) with | some c => m.testBit c | none => false)
    by_cases q : C ≤ i
    · simp [q, hi]
    · simp [q, hi]
  · rw [if_neg (show ¬ nI 3 = 0 from w_ne (a := 3) (b := 0) (by omega) (by omega) (by omega)), if_neg (show ¬ nI 3 = 1 from w_ne (a := 3) (b := 1) (by omega) (by omega) (by omega)), if_neg (show ¬ nI 3 = 2 from w_ne (a := 3) (b := 2) (by omega) (by omega) (by omega)), if_pos (show nI 3 = 3 from rfl), n_andn]
    have hlt : andn m (mk (fun c => c % C == 0) (R * C)) < 2 ^ (R * C) := bits_lt (fun i hi => by rw [andn_bit, hz i hi]; rfl)
    have h16 := lt16 h hlt
    rw [show ((nI (andn m (mk (fun c => c % C == 0) (R * C)))).toUInt32 >>> ((1 : Int32).toUInt32 &&& Int32.toUInt32 31)).toInt32 = nI (andn m (mk (fun c => c % C == 0) (R * C)) / 2 ^ 1) from n_ushr (k := 1) (by omega) (by omega)]
    congr 2
    apply mk_eq (Nat.lt_of_le_of_lt (Nat.div_le_self _ _) hlt)
    intro i hi
    rw [Nat.testBit_div_two_pow, andn_bit, mk_bit]
    show _ = (match (if i % C + 1 < C then some (i + 1) else none) with | some c => m.testBit c | none => false)
    by_cases q : i % C + 1 < C
    · have : ¬ (i + 1) % C = 0 := by have := (md_step (i := i) hC1).mpr (by omega); omega
      rw [if_pos q]
      simp [this]
    · have : (i + 1) % C = 0 := by
        have h2 := Nat.mod_lt i hC1
        rcases Nat.eq_zero_or_pos ((i + 1) % C) with z | z
        · exact z
        · exact absurd ((md_step hC1).mp z) (by omega)
      rw [if_neg q]
      by_cases q2 : i + 1 < R * C
      · simp [this, q2]
      · rw [hz _ (by omega)]; simp
  · rw [if_neg (show ¬ nI 4 = 0 from w_ne (a := 4) (b := 0) (by omega) (by omega) (by omega)), if_neg (show ¬ nI 4 = 1 from w_ne (a := 4) (b := 1) (by omega) (by omega) (by omega)), if_neg (show ¬ nI 4 = 2 from w_ne (a := 4) (b := 2) (by omega) (by omega) (by omega)), if_neg (show ¬ nI 4 = 3 from w_ne (a := 4) (b := 3) (by omega) (by omega) (by omega))]
    congr 2
    apply mk_eq hm
    intro i hi
    rfl
end
section
/-- a mask and all beside it -/
def sp (R C m : Nat) : Nat := (((m ||| mv R C m 0) ||| mv R C m 1) ||| mv R C m 2) ||| mv R C m 3
theorem or_lt {a b n : Nat} (ha : a < 2 ^ n) (hb : b < 2 ^ n) : a ||| b < 2 ^ n := Nat.or_lt_two_pow ha hb
theorem sp_lt {R C m : Nat} (hm : m < 2 ^ (R * C)) : sp R C m < 2 ^ (R * C) := or_lt (or_lt (or_lt (or_lt hm (mv_lt ..)) (mv_lt ..)) (mv_lt ..)) (mv_lt ..)
theorem m_spread {R C m : Nat} (sg : Nat → Nat) (dr th er : Nat) (h : okD R C) (hm : m < 2 ^ (R * C)) : M_X0_spread (hOf R C sg dr th er) (nI m) = some (nI (sp R C m)) := by
  have st : ∀ k a w, w < 4 → M_X0_spread_4 (hOf R C sg dr th er) (nI m) (k + 1) (nI a, nI w) = M_X0_spread_4 (hOf R C sg dr th er) (nI m) k (nI (a ||| mv R C m w), nI (w + 1)) := by
    intro k a w hw
    show M_X0_spread_4b _ _ _ _ = _
    unfold M_X0_spread_4b
    dsimp only
    rw [if_neg (show ¬ (4 : Int32) ≤ nI w from nI_ge (a := w) (b := 4) hw (by omega)), m_moved sg dr th er h hm (by omega), Option.bind_some]
    rw [n_or, nI_succ]
  unfold M_X0_spread
  show M_X0_spread_4 _ _ (199 + 1) (nI m, nI 0) = _
  rw [st 199 m 0 (by omega), st 198 _ 1 (by omega), st 197 _ 2 (by omega), st 196 _ 3 (by omega)]
  rfl
/-- all within n steps -/
def arnd (R C m : Nat) : Nat → Nat
  | 0 => m
  | n + 1 => sp R C (arnd R C m n)
theorem arnd_lt {R C m : Nat} (hm : m < 2 ^ (R * C)) : ∀ n, arnd R C m n < 2 ^ (R * C)
  | 0 => hm
  | n + 1 => sp_lt (arnd_lt hm n)
theorem m_around {R C c n : Nat} (sg : Nat → Nat) (dr th er : Nat) (h : okD R C) (hc : c < R * C) (hn : n < 20) : M_X0_around (hOf R C sg dr th er) (nI c) (nI n) = some (nI (arnd R C (2 ^ c) n)) := by
  have h16 := h.n16
  have hb : 2 ^ c < 2 ^ (R * C) := Nat.pow_lt_pow_right (by omega) hc
  have st : ∀ j k, j ≤ n → n - j < k → M_X0_around_8 (hOf R C sg dr th er) (nI c) (nI n) k (nI (arnd R C (2 ^ c) j), nI j) = some (nI (arnd R C (2 ^ c) n)) := by
    intro j k hj hk
    induction k generalizing j with
    | zero => omega
    | succ k ih =>
      show M_X0_around_8b _ _ _ _ _ = _
      unfold M_X0_around_8b
      dsimp only
      rcases Nat.lt_or_ge j n with q | q
      · rw [if_neg (show ¬ nI n ≤ nI j from nI_ge q (by omega)), m_spread sg dr th er h (arnd_lt hb j), Option.bind_some, ← ih (j + 1) (by omega) (by omega)]
        rw [nI_succ]
        rfl
      · have e : j = n := by omega
        subst e
        rw [if_pos (show nI j ≤ nI j from nI_le (Nat.le_refl _) (by omega))]
  unfold M_X0_around
  rw [m_bit (by omega), Option.bind_some]
  exact st 0 200 (by omega) (by omega)
end
section
/-- the cells with a sign -/
def sgn (R C : Nat) (sg : Nat → Nat) (q : Nat) : Nat := mk (fun c => sg c == q) (R * C)
theorem sgn_lt (R C : Nat) (sg : Nat → Nat) (q : Nat) : sgn R C sg q < 2 ^ (R * C) := mk_lt _ _
/-- the n-th cell in a line, no wall -/
def frt (R C : Nat) (sg : Nat → Nat) (w m : Nat) : Nat → Nat
  | 0 => m
  | n + 1 => andn (mv R C (frt R C sg w m n) w) (sgn R C sg 35)
theorem andn_lt {a b n : Nat} (h : a < 2 ^ n) : andn a b < 2 ^ n := bits_lt (fun i hi => by rw [andn_bit, Nat.testBit_lt_two_pow (Nat.lt_of_lt_of_le h (Nat.pow_le_pow_right (by omega) hi))]; rfl)
theorem frt_lt {R C m : Nat} {sg : Nat → Nat} {w : Nat} (hm : m < 2 ^ (R * C)) : ∀ n, frt R C sg w m n < 2 ^ (R * C)
  | 0 => hm
  | n + 1 => andn_lt (mv_lt ..)
def sgt (R C : Nat) (sg : Nat → Nat) (w c : Nat) : Nat := ((2 ^ c ||| frt R C sg w (2 ^ c) 1) ||| frt R C sg w (2 ^ c) 2) ||| frt R C sg w (2 ^ c) 3
theorem p_lt {c n : Nat} (h : c < n) : 2 ^ c < 2 ^ n := Nat.pow_lt_pow_right (by omega) h
theorem sgt_lt {R C c : Nat} {sg : Nat → Nat} {w : Nat} (hc : c < R * C) : sgt R C sg w c < 2 ^ (R * C) := or_lt (or_lt (or_lt (p_lt hc) (frt_lt (p_lt hc) 1)) (frt_lt (p_lt hc) 2)) (frt_lt (p_lt hc) 3)
theorem m_sight {R C c w : Nat} (sg : Nat → Nat) (dr th er : Nat) (h : okD R C) (hc : c < R * C) (hw : w < 5) : M_X0_sightFrom (hOf R C sg dr th er) (nI c) (nI w) = some (nI (sgt R C sg w c)) := by
  have h16 := h.n16
  have st : ∀ k a n, n < 3 → M_X0_sightFrom_11 (hOf R C sg dr th er) (nI c) (nI w) (k + 1) (nI (frt R C sg w (2 ^ c) n), nI a, nI (n + 1)) = M_X0_sightFrom_11 (hOf R C sg dr th er) (nI c) (nI w) k (nI (frt R C sg w (2 ^ c) (n + 1)), nI (a ||| frt R C sg w (2 ^ c) (n + 1)), nI (n + 2)) := by
    intro k a n hn
    show M_X0_sightFrom_11b _ _ _ _ _ = _
    unfold M_X0_sightFrom_11b
    dsimp only
    rw [if_neg (show ¬ (4 : Int32) ≤ nI (n + 1) from nI_ge (a := n + 1) (b := 4) (by omega) (by omega)), m_moved sg dr th er h (frt_lt (p_lt hc) n) hw, Option.bind_some]
    show M_X0_sightFrom_11 _ _ _ k (nI (mv R C (frt R C sg w (2 ^ c) n) w) &&& (nI (sgn R C sg 35) ^^^ -1), nI a ||| (nI (mv R C (frt R C sg w (2 ^ c) n) w) &&& (nI (sgn R C sg 35) ^^^ -1)), nI (n + 1) + 1) = _
    rw [n_andn, n_or, ← nI_succ]
    rfl
  unfold M_X0_sightFrom
  rw [m_bit (by omega), Option.bind_some]
  show M_X0_sightFrom_11 _ _ _ (199 + 1) (nI (frt R C sg w (2 ^ c) 0), nI (2 ^ c), nI (0 + 1)) = _
  rw [st 199 _ 0 (by omega), st 198 _ 1 (by omega), st 197 _ 2 (by omega)]
  rfl
/-- what a watcher spoils -/
def spo (R C : Nat) (sg : Nat → Nat) (er c w d : Nat) : Nat :=
  let b := (sgt R C sg w c &&& (sgn R C sg 103 ||| sgn R C sg 100)) ||| (arnd R C (2 ^ c) er &&& sgn R C sg 99)
  if d = 0 then b else b ||| arnd R C (2 ^ c) 1
theorem and_lt {a b n : Nat} (h : a < 2 ^ n) : a &&& b < 2 ^ n := Nat.lt_of_le_of_lt Nat.and_le_left h
theorem spo_lt {R C c w d er : Nat} {sg : Nat → Nat} (hc : c < R * C) : spo R C sg er c w d < 2 ^ (R * C) := by
  have h1 : (sgt R C sg w c &&& (sgn R C sg 103 ||| sgn R C sg 100)) ||| (arnd R C (2 ^ c) er &&& sgn R C sg 99) < 2 ^ (R * C) := or_lt (and_lt (sgt_lt hc)) (and_lt (arnd_lt (p_lt hc) er))
  unfold spo
  dsimp only
  split
  · exact h1
  · exact or_lt h1 (arnd_lt (p_lt hc) 1)
theorem m_spoiled {R C c w d : Nat} (sg : Nat → Nat) (dr th er : Nat) (h : okD R C) (hc : c < R * C) (hw : w < 5) (he : er ≤ 6) (hd : d < 2) : M_X0_spoiledFrom (hOf R C sg dr th er) (nI c) (nI w) (nI d) = some (nI (spo R C sg er c w d)) := by
  unfold M_X0_spoiledFrom
  rw [m_sight sg dr th er h hc hw, Option.bind_some]
  show (M_X0_around (hOf R C sg dr th er) (nI c) (nI er)).bind _ = _
  rw [m_around sg dr th er h hc (by omega), Option.bind_some]
  have e : (nI (sgt R C sg w c) &&& ((hOf R C sg dr th er).2.2.2.2.2.2.1 ||| (hOf R C sg dr th er).2.2.2.2.2.2.2.2.1)) ||| (nI (arnd R C (2 ^ c) er) &&& (hOf R C sg dr th er).2.2.2.2.2.2.2.1) = nI ((sgt R C sg w c &&& (sgn R C sg 103 ||| sgn R C sg 100)) ||| (arnd R C (2 ^ c) er &&& sgn R C sg 99)) := by
    show (nI (sgt R C sg w c) &&& (nI (sgn R C sg 103) ||| nI (sgn R C sg 100))) ||| (nI (arnd R C (2 ^ c) er) &&& nI (sgn R C sg 99)) = _
    rw [n_or, n_and, n_and, n_or]
  rw [e]
  obtain rfl | rfl : d = 0 ∨ d = 1 := by omega
  · rw [if_pos (show nI 0 = 0 from rfl)]
    rfl
  · rw [if_neg (show ¬ nI 1 = 0 from w_ne (a := 1) (b := 0) (by omega) (by omega) (by omega)), show M_X0_around (hOf R C sg dr th er) (nI c) (1 : Int32) = _ from m_around (n := 1) sg dr th er h hc (by omega), Option.bind_some, n_or]
    rfl
theorem m_open {R C : Nat} (sg : Nat → Nat) (dr th er : Nat) : M_X0_open (hOf R C sg dr th er) = some (nI (andn (2 ^ (R * C) - 1) (sgn R C sg 35))) := by
  unfold M_X0_open
  show some (nI (2 ^ (R * C) - 1) &&& (nI (sgn R C sg 35) ^^^ -1)) = _
  rw [n_andn]
end
section
/-! The relation of the two states -/
def OKs (c : Nat) : Prop := c = 46 ∨ c = 103 ∨ c = 99 ∨ c = 100 ∨ c = 35
/-- what a house is: rows, columns, signs, door, thing, ears, k watchers with cell, looking, dog -/
def okS (R C : Nat) (sg : Nat → Nat) (dr th er k : Nat) (wc wl wd : Nat → Nat) : Prop :=
  okD R C ∧ (∀ c, c < R * C → OKs (sg c)) ∧ (dr < R * C ∧ sg dr ≠ 35) ∧ (th < R * C ∧ sg th ≠ 35) ∧ er ≤ 6 ∧ k ≤ 4 ∧ ∀ w, w < k → wc w < R * C ∧ sg (wc w) ≠ 35 ∧ wl w < 4 ∧ wd w < 2
/-- the class holds it -/
def rX (R C : Nat) (sg : Nat → Nat) (dr th er k : Nat) (wc wl wd : Nat → Nat) (h : HT) (v : VT) : Prop :=
  h = hOf R C sg dr th er ∧ v.1 = nI k ∧ ∀ w, w < k → v.2.1 w = nI (wc w) ∧ v.2.2.1 w = nI (wl w) ∧ v.2.2.2 w = nI (wd w)
/-- the reference holds it -/
def rM (R C : Nat) (sg : Nat → Nat) (dr th er k : Nat) (wc wl wd : Nat → Nat) (mb : BT) : Prop :=
  mb.1 = nI R ∧ mb.2.1 = nI C ∧ mb.2.2.1 = nI dr ∧ mb.2.2.2.1 = nI th ∧ mb.2.2.2.2.1 = nI k ∧ mb.2.2.2.2.2.1 = nI er ∧ (∀ c, c < R * C → mb.2.2.2.2.2.2.1 c = nI (sg c)) ∧ ∀ w, w < k → mb.2.2.2.2.2.2.2.1 w = nI (wc w) ∧ mb.2.2.2.2.2.2.2.2.1 w = nI (wl w) ∧ mb.2.2.2.2.2.2.2.2.2 w = nI (wd w)
def RH (h : HT) (v : VT) (mb : BT) : Prop := ∃ (R C : Nat) (sg : Nat → Nat) (dr th er k : Nat) (wc wl wd : Nat → Nat), okS R C sg dr th er k wc wl wd ∧ rX R C sg dr th er k wc wl wd h v ∧ rM R C sg dr th er k wc wl wd mb
def RPd (p : PT) (mo : OT) : Prop := ∃ (n : Nat) (f : Nat → Nat), n ≤ 40 ∧ p.1 = nI n ∧ mo.1 = nI n ∧ ∀ i, i < n → 33 ≤ f i ∧ f i ≤ 126 ∧ p.2 i = nI (f i) ∧ mo.2 i = nI (f i)
/-- an image: kept at place 40 j of the reference's row -/
def RIm (j : Nat) (kp : Int32) (h : HT) (v : VT) (mi : IT) : Prop := (kp = 0 ∧ mi.2.2.2 j = 0) ∨ (kp = 1 ∧ mi.2.2.2 j = 1 ∧ ∃ (R C : Nat) (sg : Nat → Nat) (dr th er k : Nat) (wc wl wd : Nat → Nat), okS R C sg dr th er k wc wl wd ∧ rX R C sg dr th er k wc wl wd h v ∧
  (mi.2.2.1 (40 * j) = nI R ∧ mi.2.2.1 (40 * j + 1) = nI C ∧ mi.2.2.1 (40 * j + 2) = nI dr ∧ mi.2.2.1 (40 * j + 3) = nI th ∧ mi.2.2.1 (40 * j + 4) = nI k ∧ mi.2.2.1 (40 * j + 5) = nI er) ∧ (∀ c, c < R * C → mi.2.2.1 (40 * j + 6 + c) = nI (sg c)) ∧ ∀ w, w < k → mi.2.2.1 (40 * j + 22 + 3 * w) = nI (wc w) ∧ mi.2.2.1 (40 * j + 22 + 3 * w + 1) = nI (wl w) ∧ mi.2.2.1 (40 * j + 22 + 3 * w + 2) = nI (wd w))
end
section
theorem m_at {n c : Nat} (f : AR) (h : c < n) (hn : n < 2 ^ 31) : M_X8_at n f (nI c) = some (f c) := by
  unfold M_X8_at
  rw [if_neg (nI_pos (by omega)), if_neg (nI_ge h hn), if_pos (nI_in h hn), nI_clamp (by omega)]
/-- what no watcher of the first n spoils -/
def brs (R C : Nat) (sg : Nat → Nat) (er : Nat) (wc wl wd : Nat → Nat) : Nat → Nat
  | 0 => andn (2 ^ (R * C) - 1) (sgn R C sg 35)
  | n + 1 => andn (brs R C sg er wc wl wd n) (spo R C sg er (wc n) (wl n) (wd n))
theorem brs_lt (R C : Nat) (sg : Nat → Nat) (er : Nat) (wc wl wd : Nat → Nat) : ∀ n, brs R C sg er wc wl wd n < 2 ^ (R * C)
  | 0 => andn_lt (Nat.sub_lt (Nat.two_pow_pos _) (by omega))
  | n + 1 => andn_lt (brs_lt R C sg er wc wl wd n)
theorem m_bare {R C : Nat} {sg : Nat → Nat} {dr th er k : Nat} {wc wl wd : Nat → Nat} {h : HT} {v : VT} (ho : okS R C sg dr th er k wc wl wd) (hx : rX R C sg dr th er k wc wl wd h v) : M_X0_bareCells h v = some (nI (brs R C sg er wc wl wd k)) := by
  obtain ⟨hd, hs, hdr, hth, her, hk, hw⟩ := ho
  obtain ⟨hh, hv, hq⟩ := hx
  subst hh
  have st : ∀ n m, m ≤ k → k - m < n → M_X0_bareCells_7 (hOf R C sg dr th er) v n (nI (brs R C sg er wc wl wd m), nI m) = some (nI (brs R C sg er wc wl wd k)) := by
    intro n
    induction n with
    | zero => intro m hm hn; omega
    | succ n ih =>
      intro m hm hn
      show M_X0_bareCells_7b _ _ _ _ = _
      unfold M_X0_bareCells_7b
      dsimp only
      rw [hv]
      rcases Nat.lt_or_ge m k with q | q
      · obtain ⟨q1, q2, q3⟩ := hq m q
        obtain ⟨w1, w2, w3, w4⟩ := hw m q
        rw [if_neg (nI_ge q (by omega))]
        unfold M_X4_cellOfOne M_X4_lookingOf M_X4_hasDog
        rw [m_at _ (by omega) (by omega), m_at _ (by omega) (by omega), m_at _ (by omega) (by omega)]
        simp only [Option.bind_some]
        rw [q1, q2, q3]
        have e : (if nI (wd m) = (1 : Int32) then (some (1 : Int32)) else (some (0 : Int32))) = some (nI (wd m)) := by
          obtain z | z : wd m = 0 ∨ wd m = 1 := by omega
          · rw [z]; decide +kernel
          · rw [z]; decide +kernel
        rw [e, Option.bind_some, m_spoiled sg dr th er hd w1 (by omega) her w4, Option.bind_some, n_andn, ← nI_succ]
        exact ih (m + 1) (by omega) (by omega)
      · have e : m = k := by omega
        rw [e, if_pos (nI_le (Nat.le_refl _) (by omega))]
  unfold M_X0_bareCells
  rw [m_open, Option.bind_some]
  exact st 200 0 (by omega) (by omega)
end
section
/-! The reference's geometry -/
theorem in_n {a n : Nat} (ha : a < 2 ^ 31) (h0 : 0 < n) (hn : n < 2 ^ 31) : M_X9_in (nI a).toInt64 (0 : Int64) ((nI n - (1 : Int32)).toInt64) = some (if a < n then 1 else 0) := by
  have e : nI n - 1 = nI (n - 1) := n_sub (a := n) (b := 1) h0
  have z : (0 : Int64) = (0 : Int32).toInt64 := by decide +kernel
  rw [e, z, m_in]
  congr 1
  by_cases q : a < n
  · rw [if_pos q, if_pos ⟨nI_pos' ha, nI_le (by omega) (by omega)⟩]
  · rw [if_neg q, if_neg (fun k => nI_ge (a := n - 1) (b := a) (by omega) ha k.2)]
theorem in_m {n : Nat} : M_X9_in (-1 : Int32).toInt64 (0 : Int64) ((nI n - (1 : Int32)).toInt64) = some 0 := by
  have z : (0 : Int64) = (0 : Int32).toInt64 := by decide +kernel
  rw [z, m_in, if_neg (fun k => absurd k.1 (by decide +kernel))]
/-- the cell a way on, none where it is no cell or a wall -/
def stp (R C : Nat) (sg : Nat → Nat) (c w : Nat) : Option Nat := match nb R C c w with
  | some q => if sg q = 35 then none else some q
  | none => none
def oI (o : Option Nat) : Int32 := match o with
  | some q => nI q
  | none => -6
theorem m_isWall {R C c : Nat} {sg : Nat → Nat} {dr th er k : Nat} {wc wl wd : Nat → Nat} {mb : BT} (ho : okS R C sg dr th er k wc wl wd) (hr : rM R C sg dr th er k wc wl wd mb) (hc : c < R * C) : M_X9_isWall mb (nI c) = some (if sg c = 35 then 1 else 0) := by
  have h16 := ho.1.n16
  unfold M_X9_isWall
  rw [if_pos (nI_in (by omega) (by omega)), nI_clamp (by omega), hr.2.2.2.2.2.2.1 c hc]
  have hs : sg c < 2 ^ 31 := by rcases ho.2.1 c hc with z | z | z | z | z <;> omega
  by_cases q : sg c = 35
  · rw [if_pos q, q]; rfl
  · rw [if_neg q, if_neg (show ¬ nI (sg c) = (35 : Int32) from w_ne (b := 35) hs (by omega) q)]
theorem m_bey92 {R C r q : Nat} {sg : Nat → Nat} {dr th er k : Nat} {wc wl wd : Nat → Nat} {mb : BT} (x1 x2 : Int32) (ho : okS R C sg dr th er k wc wl wd) (hr : rM R C sg dr th er k wc wl wd mb) (h : r * C + q < R * C) : M_X9_beyond_92 mb x1 x2 (nI r, nI q, 1) = some (oI (if sg (r * C + q) = 35 then none else some (r * C + q))) := by
  unfold M_X9_beyond_92
  dsimp only
  have e : nI r * mb.2.1 + nI q = nI (r * C + q) := by rw [hr.2.1, ← nI_add]; congr 1; exact (Int32.ofNat_mul r C).symm
  rw [if_neg (by decide +kernel), e, m_isWall ho hr h, Option.bind_some]
  by_cases z : sg (r * C + q) = 35
  · rw [if_pos z, if_pos z, if_neg (by decide +kernel)]; rfl
  · rw [if_neg z, if_neg z, if_pos rfl]; rfl
end
section
theorem m_bey91 (mb : BT) (x1 x2 : Int32) (a : Int32 × Int32) : M_X9_beyond_91 mb x1 x2 a = some (-6) := by
  unfold M_X9_beyond_91 M_X9_beyond_92
  dsimp only
  rw [if_pos rfl]
theorem m_bey51 {R C a b : Nat} {sg : Nat → Nat} {dr th er k : Nat} {wc wl wd : Nat → Nat} {mb : BT} (x1 x2 dc co : Int32) (ho : okS R C sg dr th er k wc wl wd) (hr : rM R C sg dr th er k wc wl wd mb) (ha : a < 2 ^ 31) (hb : b < 2 ^ 31) (e : co + dc = nI b) : M_X9_beyond_51 mb x1 x2 (nI a, dc, co) = some (oI (if a < R ∧ b < C then (if sg (a * C + b) = 35 then none else some (a * C + b)) else none)) := by
  obtain ⟨h1, h2, h3, h4⟩ := ho.1
  unfold M_X9_beyond_51
  dsimp only
  rw [hr.1, hr.2.1, in_n ha (by omega) (by omega), Option.bind_some]
  by_cases q : a < R
  · rw [if_pos q, if_neg (by decide +kernel), e, in_n hb (by omega) (by omega), Option.bind_some]
    by_cases p : b < C
    · rw [if_pos p, if_neg (by decide +kernel), if_pos ⟨q, p⟩]
      exact m_bey92 x1 x2 ho hr (by
        have : (a + 1) * C ≤ R * C := Nat.mul_le_mul_right C q
        rw [Nat.add_mul] at this; omega)
    · rw [if_neg p, if_pos rfl, m_bey91, if_neg (fun z => p z.2)]; rfl
  · rw [if_neg q, if_pos rfl, m_bey91, if_neg (fun z => q z.1)]; rfl
theorem m_bey51c {R C a : Nat} {sg : Nat → Nat} {dr th er k : Nat} {wc wl wd : Nat → Nat} {mb : BT} (x1 x2 dc co : Int32) (ho : okS R C sg dr th er k wc wl wd) (hr : rM R C sg dr th er k wc wl wd mb) (ha : a < 2 ^ 31) (e : co + dc = -1) : M_X9_beyond_51 mb x1 x2 (nI a, dc, co) = some (-6) := by
  obtain ⟨h1, h2, h3, h4⟩ := ho.1
  unfold M_X9_beyond_51
  dsimp only
  rw [hr.1, hr.2.1, in_n ha (by omega) (by omega), Option.bind_some]
  by_cases q : a < R
  · rw [if_pos q, if_neg (by decide +kernel), e, in_m, Option.bind_some, if_pos rfl, m_bey91]
  · rw [if_neg q, if_pos rfl, m_bey91]
theorem m_bey51r {R C : Nat} {sg : Nat → Nat} {dr th er k : Nat} {wc wl wd : Nat → Nat} {mb : BT} (x1 x2 dc co : Int32) (hr : rM R C sg dr th er k wc wl wd mb) : M_X9_beyond_51 mb x1 x2 (-1, dc, co) = some (-6) := by
  unfold M_X9_beyond_51
  dsimp only
  rw [hr.1, in_m, Option.bind_some, if_pos rfl, m_bey91]
theorem n_rem {a d : Nat} (ha : a < 2 ^ 31) (h0 : 0 < d) (hd : d < 2 ^ 31) : nI a - nI a / nI d * nI d = nI (a % d) := by
  rw [pk_div ha h0 hd, show nI (a / d) * nI d = nI (a / d * d) from (Int32.ofNat_mul (a / d) d).symm, n_sub (Nat.div_mul_le_self a d)]
  congr 1
  have := Nat.div_add_mod a d
  have e : a / d * d = d * (a / d) := Nat.mul_comm _ _
  omega
theorem n_m1 (n : Nat) : nI (n + 1) + (-1) = nI n := pk_m1 n
theorem m_beyond {R C c w : Nat} {sg : Nat → Nat} {dr th er k : Nat} {wc wl wd : Nat → Nat} {mb : BT} (ho : okS R C sg dr th er k wc wl wd) (hr : rM R C sg dr th er k wc wl wd mb) (hc : c < R * C) (hw : w < 5) : M_X9_beyond mb (nI c) (nI w) = some (oI (stp R C sg c w)) := by
  obtain ⟨h1, h2, h3, h4⟩ := ho.1
  have h16 := ho.1.n16
  have hC : ¬ nI C = 0 := nI_ne0 (by omega) (by omega)
  have hdm : c / C * C + c % C = c := by rw [Nat.mul_comm]; exact Nat.div_add_mod c C
  have hr1 : c / C < R := Nat.div_lt_of_lt_mul (by rw [Nat.mul_comm]; exact hc)
  have hq1 : c % C < C := Nat.mod_lt _ (by omega)
  have hcc : c / C ≤ c := Nat.div_le_self _ _
  have e4 : ∀ dr' x2, M_X9_beyond_24 mb (nI c) x2 (dr', nI c / nI C) = if x2 = (1 : Int32) then (M_X9_beyond_51 mb (nI c) x2 ((nI (c / C) + dr'), (1 : Int32), nI (c % C))) else (if x2 = (3 : Int32) then (M_X9_beyond_51 mb (nI c) x2 ((nI (c / C) + dr'), (-1 : Int32), nI (c % C))) else (M_X9_beyond_51 mb (nI c) x2 ((nI (c / C) + dr'), (0 : Int32), nI (c % C)))) := by
    intro dr' x2
    unfold M_X9_beyond_24
    dsimp only
    rw [hr.2.1, if_pos hC, n_rem (by omega) (by omega) (by omega), pk_div (by omega) (by omega) (by omega)]
  have z0 : ∀ n, nI n + 0 = nI n := fun n => nI_add n 0
  unfold M_X9_beyond
  rw [hr.2.1, if_pos hC, e4, e4, e4]
  obtain rfl | rfl | rfl | rfl | rfl : w = 0 ∨ w = 1 ∨ w = 2 ∨ w = 3 ∨ w = 4 := by omega
  · rw [if_pos (show nI 0 = 0 from rfl), if_neg (show ¬ nI 0 = 1 by decide +kernel), if_neg (show ¬ nI 0 = 3 by decide +kernel)]
    unfold stp
    show _ = some (oI (match (if C ≤ c then some (c - C) else none) with | some q => if sg q = 35 then none else some q | none => none))
    rcases Nat.eq_zero_or_pos (c / C) with q | q
    · rw [q, show nI 0 + (-1 : Int32) = -1 by decide +kernel, m_bey51r _ _ _ _ hr, if_neg (by
        intro z
        have := Nat.div_pos z (by omega : 0 < C)
        omega)]
      rfl
    · obtain ⟨j, hj⟩ : ∃ j, c / C = j + 1 := ⟨c / C - 1, by omega⟩
      have ec : j * C + c % C = c - C := by rw [hj, Nat.add_mul] at hdm; omega
      have hCc : C ≤ c := by rw [hj, Nat.add_mul] at hdm; omega
      rw [hj, n_m1, m_bey51 _ _ _ _ ho hr (by omega) (by omega) (z0 _), if_pos ⟨by omega, hq1⟩, ec, if_pos hCc]
  · rw [if_neg (show ¬ nI 1 = 0 by decide +kernel), if_neg (show ¬ nI 1 = 2 by decide +kernel), if_pos (show nI 1 = 1 from rfl)]
    unfold stp
    show _ = some (oI (match (if c % C + 1 < C then some (c + 1) else none) with | some q => if sg q = 35 then none else some q | none => none))
    rw [z0, m_bey51 (b := c % C + 1) _ _ _ _ ho hr (by omega) (by omega) (nI_succ _).symm]
    by_cases q : c % C + 1 < C
    · rw [if_pos q, if_pos ⟨hr1, q⟩, ← Nat.add_assoc, hdm]
    · rw [if_neg q, if_neg (fun z => q z.2)]
  · rw [if_neg (show ¬ nI 2 = 0 by decide +kernel), if_pos (show nI 2 = 2 from rfl), if_neg (show ¬ nI 2 = 1 by decide +kernel), if_neg (show ¬ nI 2 = 3 by decide +kernel)]
    unfold stp
    show _ = some (oI (match (if c + C < R * C then some (c + C) else none) with | some q => if sg q = 35 then none else some q | none => none))
    rw [← nI_succ, m_bey51 _ _ _ _ ho hr (by omega) (by omega) (z0 _)]
    have ec : (c / C + 1) * C + c % C = c + C := by rw [Nat.add_mul, Nat.one_mul]; omega
    rw [ec]
    by_cases q : c / C + 1 < R
    · have hl : c + C < R * C := by
        have k2 : (c / C + 1 + 1) * C ≤ R * C := Nat.mul_le_mul_right C q
        rw [Nat.add_mul (c / C + 1), Nat.one_mul] at k2
        omega
      rw [if_pos ⟨q, hq1⟩, if_pos hl]
    · have hl : ¬ c + C < R * C := fun z => q (by
        have k2 : (c / C + 1) * C < R * C := by omega
        exact Nat.lt_of_mul_lt_mul_right k2)
      rw [if_neg (fun z => q z.1), if_neg hl]
  · rw [if_neg (show ¬ nI 3 = 0 by decide +kernel), if_neg (show ¬ nI 3 = 2 by decide +kernel), if_neg (show ¬ nI 3 = 1 by decide +kernel), if_pos (show nI 3 = 3 from rfl)]
    unfold stp
    show _ = some (oI (match (if 0 < c % C then some (c - 1) else none) with | some q => if sg q = 35 then none else some q | none => none))
    rw [z0]
    rcases Nat.eq_zero_or_pos (c % C) with q | q
    · rw [q, m_bey51c _ _ _ _ ho hr (by omega) (by decide +kernel), if_neg (by omega)]
      rfl
    · obtain ⟨j, hj⟩ : ∃ j, c % C = j + 1 := ⟨c % C - 1, by omega⟩
      rw [hj, m_bey51 _ _ _ _ ho hr (by omega) (by omega) (n_m1 j), if_pos ⟨hr1, by omega⟩, if_pos (show 0 < j + 1 by omega), show c / C * C + j = c - 1 by omega]
  · rw [if_neg (show ¬ nI 4 = 0 by decide +kernel), if_neg (show ¬ nI 4 = 2 by decide +kernel), if_neg (show ¬ nI 4 = 1 by decide +kernel), if_neg (show ¬ nI 4 = 3 by decide +kernel)]
    unfold stp
    show _ = some (oI (if sg c = 35 then none else some c))
    rw [z0, m_bey51 _ _ _ _ ho hr (by omega) (by omega) (z0 _), if_pos ⟨hr1, hq1⟩, hdm]
end
section
/-- steps between two cells, walls or not -/
def man (C a b : Nat) : Nat := (a / C - b / C) + (b / C - a / C) + ((a % C - b % C) + (b % C - a % C))
theorem arnd_0' : ∀ R, R < 5 → ∀ C, C < 5 → ∀ c, c < 16 → c < R * C → mk (fun i => decide (man C c i ≤ 0)) (R * C) = 2 ^ c := by decide +kernel
theorem arnd_s' : ∀ R, R < 5 → ∀ C, C < 5 → ∀ c, c < 16 → c < R * C → ∀ n, n < 6 → sp R C (mk (fun i => decide (man C c i ≤ n)) (R * C)) = mk (fun i => decide (man C c i ≤ n + 1)) (R * C) := by decide +kernel
theorem arnd_man {R C c : Nat} (h : okD R C) (hc : c < R * C) : ∀ n, n ≤ 6 → arnd R C (2 ^ c) n = mk (fun i => decide (man C c i ≤ n)) (R * C) := by
  have hR : R < 5 := by have := h.2.1; omega
  have hC : C < 5 := by have := h.2.2.2; omega
  have h16 := h.n16
  intro n
  induction n with
  | zero => intro _; exact (arnd_0' R hR C hC c (by omega) hc).symm
  | succ n ih =>
    intro hn
    show sp R C (arnd R C (2 ^ c) n) = _
    rw [ih (by omega), arnd_s' R hR C hC c (by omega) hc n (by omega)]
end
section
theorem ab_4 : ∀ p, p < 4 → ∀ q, q < 4 → (if 0 ≤ nI p - nI q then nI p - nI q else -(nI p - nI q)) = nI ((p - q) + (q - p)) := by decide +kernel
theorem m_ap39 (mb : BT) (x1 x2 cd rd : Int32) : M_X9_apart_39 mb x1 x2 (cd, rd) = some (rd + (if 0 ≤ cd then cd else -cd)) := by
  unfold M_X9_apart_39 M_X9_apart_52
  dsimp only
  by_cases q : 0 ≤ cd
  · rw [if_pos q, if_pos q]
  · rw [if_neg q, if_neg q]
theorem m_apart {R C a b : Nat} {sg : Nat → Nat} {dr th er k : Nat} {wc wl wd : Nat → Nat} {mb : BT} (ho : okS R C sg dr th er k wc wl wd) (hr : rM R C sg dr th er k wc wl wd mb) (ha : a < R * C) (hb : b < R * C) : M_X9_apart mb (nI a) (nI b) = some (nI (man C a b)) := by
  obtain ⟨h1, h2, h3, h4⟩ := ho.1
  have h16 := ho.1.n16
  have hC : ¬ nI C = 0 := nI_ne0 (by omega) (by omega)
  have ra : a / C < R := Nat.div_lt_of_lt_mul (by rw [Nat.mul_comm]; exact ha)
  have rb : b / C < R := Nat.div_lt_of_lt_mul (by rw [Nat.mul_comm]; exact hb)
  have qa : a % C < C := Nat.mod_lt _ (by omega)
  have qb : b % C < C := Nat.mod_lt _ (by omega)
  unfold M_X9_apart
  rw [hr.2.1, if_pos hC, if_pos hC, if_pos hC, if_pos hC, n_rem (by omega) (by omega) (by omega), n_rem (by omega) (by omega) (by omega), pk_div (by omega) (by omega) (by omega), pk_div (by omega) (by omega) (by omega), m_ap39, m_ap39]
  have e1 := ab_4 (a / C) (by omega) (b / C) (by omega)
  have e2 := ab_4 (a % C) (by omega) (b % C) (by omega)
  rw [e2]
  by_cases q : 0 ≤ nI (a / C) - nI (b / C)
  · rw [if_pos q] at e1 ⊢
    rw [e1, nI_add]; rfl
  · rw [if_neg q] at e1 ⊢
    rw [e1, nI_add]; rfl
end
section
def oM (o : Option Nat) : Nat := match o with
  | some q => 2 ^ q
  | none => 0
theorem mv_one' : ∀ R, R < 5 → ∀ C, C < 5 → ∀ c, c < 16 → c < R * C → ∀ w, w < 5 → mv R C (2 ^ c) w = oM (nb R C c w) := by decide +kernel
theorem mv_zero (R C w : Nat) : mv R C 0 w = 0 := by
  unfold mv
  apply (mk_eq (Nat.two_pow_pos _) _).symm
  intro i hi
  rw [Nat.zero_testBit]
  split <;> simp
theorem stp_lt {R C c w q : Nat} {sg : Nat → Nat} (h : okD R C) (hc : c < R * C) (hw : w < 5) (e : stp R C sg c w = some q) : q < R * C ∧ sg q ≠ 35 ∧ nb R C c w = some q := by
  unfold stp at e
  split at e
  · rename_i p hp
    split at e
    · exact absurd e (by simp)
    · rename_i hs
      injection e with e
      subst e
      exact ⟨nb_lt h hc hw hp, hs, hp⟩
  · exact absurd e (by simp)
theorem mv_stp {R C c w : Nat} {sg : Nat → Nat} (h : okD R C) (hc : c < R * C) (hw : w < 5) : andn (mv R C (2 ^ c) w) (sgn R C sg 35) = oM (stp R C sg c w) := by
  rw [mv_one' R (by have := h.2.1; omega) C (by have := h.2.2.2; omega) c (Nat.lt_of_lt_of_le hc h.n16) hc w hw]
  unfold stp
  cases e : nb R C c w with
  | none =>
    show andn 0 _ = 0
    unfold andn; simp
  | some q =>
    have hq := nb_lt h hc hw e
    show andn (2 ^ q) _ = oM (if sg q = 35 then none else some q)
    by_cases z : sg q = 35
    · rw [if_pos z]
      apply Nat.eq_of_testBit_eq
      intro i
      rw [andn_bit, Nat.testBit_two_pow]
      show _ = Nat.testBit 0 i
      rw [Nat.zero_testBit]
      by_cases y : q = i
      · subst y; unfold sgn; rw [mk_bit]; simp [hq, z]
      · simp [y]
    · rw [if_neg z]
      apply Nat.eq_of_testBit_eq
      intro i
      rw [andn_bit]
      show _ = Nat.testBit (2 ^ q) i
      rw [Nat.testBit_two_pow]
      by_cases y : q = i
      · subst y; unfold sgn; rw [mk_bit]; simp [z]
      · simp [y]
/-- the n-th cell of a line -/
def itr (R C : Nat) (sg : Nat → Nat) (w c : Nat) : Nat → Option Nat
  | 0 => some c
  | n + 1 => (itr R C sg w c n).bind fun q => stp R C sg q w
theorem itr_lt {R C c w : Nat} {sg : Nat → Nat} (h : okD R C) (hc : c < R * C) (hw : w < 5) : ∀ n q, itr R C sg w c n = some q → q < R * C := by
  intro n
  induction n with
  | zero => intro q e; injection e with e; omega
  | succ n ih =>
    intro q e
    cases p : itr R C sg w c n with
    | none => rw [show itr R C sg w c (n + 1) = (itr R C sg w c n).bind _ from rfl, p] at e; exact absurd e (by simp)
    | some r =>
      rw [show itr R C sg w c (n + 1) = (itr R C sg w c n).bind _ from rfl, p] at e
      exact (stp_lt h (ih r p) hw e).1
theorem frt_itr {R C c w : Nat} {sg : Nat → Nat} (h : okD R C) (hc : c < R * C) (hw : w < 5) : ∀ n, frt R C sg w (2 ^ c) n = oM (itr R C sg w c n) := by
  intro n
  induction n with
  | zero => rfl
  | succ n ih =>
    show andn (mv R C (frt R C sg w (2 ^ c) n) w) (sgn R C sg 35) = oM ((itr R C sg w c n).bind _)
    rw [ih]
    cases p : itr R C sg w c n with
    | none =>
      show andn (mv R C 0 w) _ = 0
      rw [mv_zero]; unfold andn; simp
    | some r => exact mv_stp h (itr_lt h hc hw n r p) hw
end
section
theorem line4' : ∀ R, R < 5 → ∀ C, C < 5 → ∀ c, c < 16 → c < R * C → ∀ w, w < 4 → ((((nb R C c w).bind fun q => nb R C q w).bind fun q => nb R C q w).bind fun q => nb R C q w) = none := by decide +kernel
theorem itr4 {R C c w : Nat} {sg : Nat → Nat} (h : okD R C) (hc : c < R * C) (hw : w < 4) : itr R C sg w c 4 = none := by
  have l4 := line4' R (by have := h.2.1; omega) C (by have := h.2.2.2; omega) c (Nat.lt_of_lt_of_le hc h.n16) hc w hw
  cases e1 : itr R C sg w c 1 with
  | none => show ((((itr R C sg w c 1).bind _).bind _).bind _) = none; rw [e1]; rfl
  | some a =>
    have s1 := stp_lt h hc (by omega) (show stp R C sg c w = some a from e1)
    cases e2 : stp R C sg a w with
    | none => show ((((itr R C sg w c 1).bind _).bind _).bind _) = none; rw [e1, Option.bind_some, e2]; rfl
    | some b =>
      have s2 := stp_lt h s1.1 (by omega) e2
      cases e3 : stp R C sg b w with
      | none => show ((((itr R C sg w c 1).bind _).bind _).bind _) = none; rw [e1, Option.bind_some, e2, Option.bind_some, e3]; rfl
      | some d =>
        have s3 := stp_lt h s2.1 (by omega) e3
        cases e4 : stp R C sg d w with
        | none => show ((((itr R C sg w c 1).bind _).bind _).bind _) = none; rw [e1, Option.bind_some, e2, Option.bind_some, e3, Option.bind_some, e4]
        | some f =>
          have s4 := stp_lt h s3.1 (by omega) e4
          rw [s1.2.2, Option.bind_some, s2.2.2, Option.bind_some, s3.2.2, Option.bind_some, s4.2.2] at l4
          exact absurd l4 (by simp)
/-- what a line saw so far -/
def lacc (R C : Nat) (sg : Nat → Nat) (w c : Nat) : Nat → Nat
  | 0 => 0
  | n + 1 => lacc R C sg w c n ||| oM (itr R C sg w c n)
theorem itr_none {R C c w n : Nat} {sg : Nat → Nat} (h : itr R C sg w c n = none) : itr R C sg w c (n + 1) = none := by
  show (itr R C sg w c n).bind _ = none
  rw [h]; rfl
theorem lacc_none {R C c w n : Nat} {sg : Nat → Nat} (h : itr R C sg w c n = none) : lacc R C sg w c (n + 1) = lacc R C sg w c n := by
  show _ ||| oM (itr R C sg w c n) = _
  rw [h]
  exact Nat.or_zero _
theorem lacc_sgt {R C c w : Nat} {sg : Nat → Nat} (h : okD R C) (hc : c < R * C) (hw : w < 5) : lacc R C sg w c 4 = sgt R C sg w c := by
  unfold sgt
  rw [frt_itr h hc hw, frt_itr h hc hw, frt_itr h hc hw]
  show (((0 ||| 2 ^ c) ||| _) ||| _) ||| _ = _
  rw [Nat.zero_or]
theorem m_seenFrom {R C c w : Nat} {sg : Nat → Nat} {dr th er k : Nat} {wc wl wd : Nat → Nat} {mb : BT} (ho : okS R C sg dr th er k wc wl wd) (hr : rM R C sg dr th er k wc wl wd mb) (hc : c < R * C) (hw : w < 4) : M_X9_seenFrom mb (nI c) (nI w) = some (nI (sgt R C sg w c)) := by
  have h16 := ho.1.n16
  have st : ∀ f n, n ≤ 4 → 4 - n < f → M_X9_seenFrom_5 mb (nI c) (nI w) f (nI (lacc R C sg w c n), oI (itr R C sg w c n)) = some (nI (lacc R C sg w c 4)) := by
    intro f
    induction f with
    | zero => intro n hn hf; omega
    | succ f ih =>
      intro n hn hf
      show M_X9_seenFrom_5b _ _ _ _ _ = _
      unfold M_X9_seenFrom_5b
      dsimp only
      cases e : itr R C sg w c n with
      | none =>
        rw [if_pos (show oI none < 0 by decide +kernel)]
        have z : ∀ d, itr R C sg w c (n + d) = none ∧ lacc R C sg w c (n + d) = lacc R C sg w c n := by
          intro d
          induction d with
          | zero => exact ⟨e, rfl⟩
          | succ d id => exact ⟨itr_none id.1, by rw [← id.2]; exact lacc_none id.1⟩
        rw [← (z (4 - n)).2, show n + (4 - n) = 4 by omega]
      | some q =>
        have hq := itr_lt ho.1 hc (by omega) n q e
        have hn4 : n < 4 := by
          rcases Nat.lt_or_ge n 4 with y | y
          · exact y
          · have : n = 4 := by omega
            rw [this, itr4 ho.1 hc hw] at e
            exact absurd e (by simp)
        rw [if_neg (show ¬ oI (some q) < 0 from nI_pos (by omega)), show oI (some q) = nI q from rfl, m_beyond ho hr hq (by omega), Option.bind_some]
        have e2 : (1 : Int32) <<< (nI q &&& 31) = nI (2 ^ q) := by
          have := m_bit (c := q) (by omega)
          unfold M_X8_bit at this
          injection this
        rw [e2, n_or]
        have i1 := ih (n + 1) (by omega) (by omega)
        rw [show lacc R C sg w c (n + 1) = lacc R C sg w c n ||| oM (itr R C sg w c n) from rfl, show itr R C sg w c (n + 1) = (itr R C sg w c n).bind _ from rfl, e, Option.bind_some] at i1
        exact i1
  rw [← lacc_sgt ho.1 hc (by omega)]
  exact st 200 0 (by omega) (by omega)
end
section
theorem man_comm (C a b : Nat) : man C a b = man C b a := by unfold man; omega
/-- a watcher spoils a cell -/
def bad (R C : Nat) (sg : Nat → Nat) (er cw w d i : Nat) : Bool := ((sgt R C sg w cw).testBit i && (sg i == 103 || sg i == 100)) || (decide (man C cw i ≤ er) && sg i == 99) || (d == 1 && decide (man C cw i ≤ 1))
theorem spo_bit {R C cw w d er i : Nat} {sg : Nat → Nat} (h : okD R C) (hc : cw < R * C) (he : er ≤ 6) (hd : d < 2) (hi : i < R * C) : (spo R C sg er cw w d).testBit i = bad R C sg er cw w d i := by
  unfold spo bad
  rw [arnd_man h hc er he, arnd_man h hc 1 (by omega)]
  obtain rfl | rfl : d = 0 ∨ d = 1 := by omega
  · dsimp only
    rw [if_pos rfl]
    unfold sgn
    simp only [Nat.testBit_or, Nat.testBit_and, mk_bit, hi, decide_true, Bool.true_and]
    simp
  · dsimp only
    rw [if_neg (by omega)]
    unfold sgn
    simp only [Nat.testBit_or, Nat.testBit_and, mk_bit, hi, decide_true, Bool.true_and]
    simp
def bI (b : Bool) : Int32 := if b then 1 else 0
theorem m_ib130 (mb : BT) (x1 : Int32) (rc : Int32 × Int32 → Option Int32) (B S : Bool) (m : Int32) : M_X9_isBare_130 mb x1 rc (bI B, m, bI S) = rc (bI (B && !S), m + 1) := by
  unfold M_X9_isBare_130 M_X9_isBare_145 M_X9_isBare_146
  dsimp only
  cases B
  · rw [if_pos (show bI false = 0 from rfl)]; rfl
  · rw [if_neg (show ¬ bI true = 0 by decide +kernel)]
    cases S
    · rw [if_pos (show bI false = 0 from rfl)]; rfl
    · rw [if_neg (show ¬ bI true = 0 by decide +kernel)]; rfl
theorem m_ib125 (mb : BT) (x1 : Int32) (rc : Int32 × Int32 → Option Int32) (B : Bool) (m : Int32) : M_X9_isBare_125 mb x1 rc (bI B, m) = rc (bI false, m + 1) := by
  unfold M_X9_isBare_125
  have := m_ib130 mb x1 rc B true m
  rw [Bool.not_true, Bool.and_false] at this
  exact this
theorem m_ib129 (mb : BT) (x1 : Int32) (rc : Int32 × Int32 → Option Int32) (B : Bool) (m : Int32) : M_X9_isBare_129 mb x1 rc (bI B, m) = rc (bI B, m + 1) := by
  unfold M_X9_isBare_129
  have := m_ib130 mb x1 rc B false m
  rw [Bool.not_false, Bool.and_true] at this
  exact this
theorem m_ib42 {R C c m : Nat} {sg : Nat → Nat} {dr th er k : Nat} {wc wl wd : Nat → Nat} {mb : BT} (rc : Int32 × Int32 → Option Int32) (B S : Bool) (ho : okS R C sg dr th er k wc wl wd) (hr : rM R C sg dr th er k wc wl wd mb) (hc : c < R * C) (hm : m < k) (hS : S = (sgt R C sg (wl m) (wc m)).testBit c) : M_X9_isBare_42 mb (nI c) rc (bI B, nI m, bI S) = rc (bI (B && !bad R C sg er (wc m) (wl m) (wd m) c), nI (m + 1)) := by
  have h16 := ho.1.n16
  obtain ⟨w1, w2, w3, w4⟩ := ho.2.2.2.2.2.2 m hm
  have hk := ho.2.2.2.2.2.1
  have her := ho.2.2.2.2.1
  obtain ⟨q1, q2, q3⟩ := hr.2.2.2.2.2.2.2 m hm
  have hs : sg c < 2 ^ 31 := by rcases ho.2.1 c hc with z | z | z | z | z <;> omega
  have e103 : (nI (sg c) = (103 : Int32)) = (sg c = 103) := propext (nI_eq (b := 103) hs (by omega))
  have e100 : (nI (sg c) = (100 : Int32)) = (sg c = 100) := propext (nI_eq (b := 100) hs (by omega))
  have e99 : (nI (sg c) = (99 : Int32)) = (sg c = 99) := propext (nI_eq (b := 99) hs (by omega))
  have hman : man C c (wc m) < 2 ^ 31 := by
    have a1 := Nat.div_le_self c C
    have a2 := Nat.div_le_self (wc m) C
    have a3 := Nat.mod_le c C
    have a4 := Nat.mod_le (wc m) C
    have gen : ∀ a b c d : Nat, a ≤ 16 → b ≤ 16 → c ≤ 16 → d ≤ 16 → (a - b) + (b - a) + ((c - d) + (d - c)) < 2 ^ 31 := by omega
    exact gen _ _ _ _ (by omega) (by omega) (by omega) (by omega)
  have er1 : mb.2.2.2.2.2.1 = nI er := hr.2.2.2.2.2.1
  have p100 : M_X9_isBare_100 mb (nI c) rc (bI B, nI m) = rc (bI (B && !(wd m == 1 && decide (man C (wc m) c ≤ 1))), nI (m + 1)) := by
    unfold M_X9_isBare_100
    dsimp only
    rw [if_pos (nI_in (c := m) (N := 4) (by omega) (by omega)), if_pos (nI_in (c := m) (N := 4) (by omega) (by omega)), nI_clamp (n := m) (by omega), q3, q1, m_apart ho hr hc w1, Option.bind_some, m_ib129, m_ib125, nI_succ]
    obtain z | z : wd m = 0 ∨ wd m = 1 := by omega
    · rw [z, if_neg (show ¬ nI 0 = 1 by decide +kernel)]; simp
    · rw [z, if_pos (show nI 1 = 1 from rfl)]
      by_cases y : man C c (wc m) ≤ 1
      · rw [if_neg (show ¬ (1 : Int32) < nI (man C c (wc m)) from nI_nlt (a := 1) (b := man C c (wc m)) y (by omega)), man_comm C (wc m) c]; simp [y]
      · rw [if_pos (show (1 : Int32) < nI (man C c (wc m)) from nI_lt (a := 1) (by omega) hman), man_comm C (wc m) c]; simp [y]
  have p71 : M_X9_isBare_71 mb (nI c) rc (bI B, nI m) = rc (bI (B && !((decide (man C (wc m) c ≤ er) && sg c == 99) || (wd m == 1 && decide (man C (wc m) c ≤ 1)))), nI (m + 1)) := by
    unfold M_X9_isBare_71
    dsimp only
    rw [if_pos (nI_in (c := c) (N := 16) (by omega) (by omega)), if_pos (nI_in (c := m) (N := 4) (by omega) (by omega)), nI_clamp (n := c) (by omega), nI_clamp (n := m) (by omega), hr.2.2.2.2.2.2.1 c hc, q1, m_apart ho hr hc w1, Option.bind_some, m_ib125, p100, er1]
    simp only [e99]
    by_cases z : sg c = 99
    · rw [if_pos z]
      by_cases y : man C c (wc m) ≤ er
      · rw [if_pos (nI_le (a := man C c (wc m)) (b := er) y (by omega)), man_comm C (wc m) c, nI_succ]; simp [y, z]
      · rw [if_neg (nI_ge (a := er) (b := man C c (wc m)) (by omega) hman), man_comm C (wc m) c]; simp [y]
    · rw [if_neg z]; simp [beq_eq_false_iff_ne.mpr z]
  unfold M_X9_isBare_42
  dsimp only
  rw [p71, if_pos (nI_in (c := c) (N := 16) (by omega) (by omega)), if_pos (nI_in (c := c) (N := 16) (by omega) (by omega)), nI_clamp (n := c) (by omega), hr.2.2.2.2.2.2.1 c hc, m_ib125]
  simp only [e103, e100]
  unfold bad
  rw [← hS]
  cases S
  · rw [if_pos (show bI false = 0 from rfl)]; simp
  · rw [if_neg (show ¬ bI true = 0 by decide +kernel), nI_succ]
    by_cases z : sg c = 103
    · rw [if_pos z]; simp [z]
    · rw [if_neg z]
      by_cases y : sg c = 100
      · rw [if_pos y]; simp [y]
      · rw [if_neg y]; simp [beq_eq_false_iff_ne.mpr z, beq_eq_false_iff_ne.mpr y]
end
section
theorem n_pow {q : Nat} (h : q < 31) : (1 : Int32) <<< (nI q &&& 31) = nI (2 ^ q) := by
  have := m_bit (c := q) h
  unfold M_X8_bit at this
  injection this
theorem brs_0 {R C i : Nat} {sg : Nat → Nat} {er : Nat} {wc wl wd : Nat → Nat} (hi : i < R * C) : (brs R C sg er wc wl wd 0).testBit i = !(sg i == 35) := by
  show (andn (2 ^ (R * C) - 1) (sgn R C sg 35)).testBit i = _
  unfold sgn
  rw [andn_bit, Nat.testBit_two_pow_sub_one, mk_bit]
  simp [hi]
theorem m_isBare {R C c : Nat} {sg : Nat → Nat} {dr th er k : Nat} {wc wl wd : Nat → Nat} {mb : BT} (ho : okS R C sg dr th er k wc wl wd) (hr : rM R C sg dr th er k wc wl wd mb) (hc : c < R * C) : M_X9_isBare mb (nI c) = some (bI ((brs R C sg er wc wl wd k).testBit c)) := by
  have h16 := ho.1.n16
  have hk := ho.2.2.2.2.2.1
  have st : ∀ f m, m ≤ k → k - m < f → M_X9_isBare_16 mb (nI c) f (bI ((brs R C sg er wc wl wd m).testBit c), nI m) = some (bI ((brs R C sg er wc wl wd k).testBit c)) := by
    intro f
    induction f with
    | zero => intro m hm hf; omega
    | succ f ih =>
      intro m hm hf
      show M_X9_isBare_16b _ _ _ _ = _
      unfold M_X9_isBare_16b
      dsimp only
      rw [hr.2.2.2.2.1]
      rcases Nat.lt_or_ge m k with q | q
      · obtain ⟨w1, w2, w3, w4⟩ := ho.2.2.2.2.2.2 m q
        obtain ⟨q1, q2, q3⟩ := hr.2.2.2.2.2.2.2 m q
        rw [if_neg (nI_ge q (by omega))]
        have es : M_X9_seenBy mb (nI m) = some (nI (sgt R C sg (wl m) (wc m))) := by
          unfold M_X9_seenBy
          rw [if_pos (nI_in (c := m) (N := 4) (by omega) (by omega)), if_pos (nI_in (c := m) (N := 4) (by omega) (by omega)), nI_clamp (n := m) (by omega), q1, q2, m_seenFrom ho hr w1 w3, Option.bind_some]
        have hlt := lt16 ho.1 (sgt_lt (sg := sg) (w := wl m) w1)
        rw [es, Option.bind_some, n_sshr (by omega) (by omega), show (1 : Int32) = nI 1 from rfl, n_bitv (by omega)]
        have key := m_ib42 (M_X9_isBare_16 mb (nI c) f) ((brs R C sg er wc wl wd m).testBit c) _ ho hr hc q rfl
        have eb : (brs R C sg er wc wl wd (m + 1)).testBit c = ((brs R C sg er wc wl wd m).testBit c && !bad R C sg er (wc m) (wl m) (wd m) c) := by
          show (andn _ _).testBit c = _
          rw [andn_bit, spo_bit ho.1 w1 ho.2.2.2.2.1 w4 hc]
        rw [← eb, ih (m + 1) (by omega) (by omega)] at key
        rw [← key]
        cases (sgt R C sg (wl m) (wc m)).testBit c
        · rw [if_neg (by decide +kernel)]; rfl
        · rw [if_pos (by decide +kernel)]; rfl
      · have e : m = k := by omega
        rw [e, if_pos (nI_le (Nat.le_refl _) (by omega))]
        cases (brs R C sg er wc wl wd k).testBit c
        · exact if_pos (by decide +kernel)
        · exact if_pos (by decide +kernel)
  unfold M_X9_isBare M_X9_isBare_13
  rw [m_isWall ho hr hc, Option.bind_some]
  have b0 := brs_0 (er := er) (wc := wc) (wl := wl) (wd := wd) (sg := sg) hc
  have := st 200 0 (by omega) (by omega)
  rw [b0] at this
  rw [← this]
  by_cases z : sg c = 35
  · rw [if_pos z, if_neg (by decide +kernel), z]; rfl
  · rw [if_neg z, if_pos rfl, beq_eq_false_iff_ne.mpr z]; rfl
/-- the reference's row of bare cells -/
theorem m_bareR {R C : Nat} {sg : Nat → Nat} {dr th er k : Nat} {wc wl wd : Nat → Nat} {mb : BT} (ho : okS R C sg dr th er k wc wl wd) (hr : rM R C sg dr th er k wc wl wd mb) : M_X9_bare mb = some (nI (brs R C sg er wc wl wd k)) := by
  have h16 := ho.1.n16
  have hp := ho.1.pos
  have hb := brs_lt R C sg er wc wl wd k
  have hcl : M_X9_cells mb = some (nI (R * C)) := by
    unfold M_X9_cells
    rw [hr.1, hr.2.1]
    exact congrArg some (Int32.ofNat_mul R C).symm
  have st : ∀ f m, m ≤ R * C → R * C - m < f → M_X9_bare_4 mb f (nI (mk (fun i => (brs R C sg er wc wl wd k).testBit i) m), nI m) = some (nI (brs R C sg er wc wl wd k)) := by
    intro f
    induction f with
    | zero => intro m hm hf; omega
    | succ f ih =>
      intro m hm hf
      show M_X9_bare_4b _ _ _ = _
      unfold M_X9_bare_4b M_X9_bare_28
      dsimp only
      rw [hcl, Option.bind_some]
      rcases Nat.lt_or_ge m (R * C) with q | q
      · rw [if_neg (nI_ge q (by omega)), m_isBare ho hr q, Option.bind_some, n_pow (by omega)]
        have key := ih (m + 1) (by omega) (by omega)
        cases e : (brs R C sg er wc wl wd k).testBit m
        · rw [if_pos (show bI false = 0 from rfl), show (0 : Int32) = nI 0 from rfl, n_or, Nat.or_zero, ← nI_succ]
          rw [show mk (fun i => (brs R C sg er wc wl wd k).testBit i) (m + 1) = mk (fun i => (brs R C sg er wc wl wd k).testBit i) m from if_neg (show ¬ (brs R C sg er wc wl wd k).testBit m = true by rw [e]; decide)] at key
          exact key
        · rw [if_neg (show ¬ bI true = 0 by decide +kernel), n_or, ← nI_succ]
          rw [show mk (fun i => (brs R C sg er wc wl wd k).testBit i) (m + 1) = mk (fun i => (brs R C sg er wc wl wd k).testBit i) m ||| 2 ^ m from if_pos e] at key
          exact key
      · have e : m = R * C := by omega
        rw [e, if_pos (nI_le (Nat.le_refl _) (by omega))]
        congr 2
        exact (mk_eq hb (fun i hi => rfl)).symm
  exact st 200 0 (by omega) (by omega)
end
section
/-! Op by op -/
theorem op_bare {h : HT} {v : VT} {mb : BT} (r : RH h v mb) : ∃ z, M_X8_bare h v = some z ∧ M_X9_bare mb = some z := by
  obtain ⟨R, C, sg, dr, th, er, k, wc, wl, wd, ho, hx, hr⟩ := r
  refine ⟨_, ?_, m_bareR ho hr⟩
  unfold M_X8_bare
  rw [m_bare ho hx, Option.bind_some]
theorem op_dismiss {h : HT} {v : VT} {mb : BT} (r : RH h v mb) : ∃ z v' mb', M_X8_dismiss v = some (z, v') ∧ M_X9_dismiss mb = some (z, mb') ∧ RH h v' mb' := by
  obtain ⟨R, C, sg, dr, th, er, k, wc, wl, wd, ho, ⟨x1, x2, x3⟩, r1, r2, r3, r4, r5, r6, r7, r8⟩ := r
  refine ⟨v.1, (0, v.2.1, v.2.2.1, v.2.2.2), (mb.1, mb.2.1, mb.2.2.1, mb.2.2.2.1, 0, mb.2.2.2.2.2.1, mb.2.2.2.2.2.2.1, mb.2.2.2.2.2.2.2.1, mb.2.2.2.2.2.2.2.2.1, mb.2.2.2.2.2.2.2.2.2), rfl, ?_, ?_⟩
  · unfold M_X9_dismiss
    rw [r5, x2]
  · refine ⟨R, C, sg, dr, th, er, 0, wc, wl, wd, ?_, ⟨x1, rfl, fun w hw => absurd hw (by omega)⟩, r1, r2, r3, r4, rfl, r6, r7, fun w hw => absurd hw (by omega)⟩
    obtain ⟨a1, a2, a3, a4, a5, a6, a7⟩ := ho
    exact ⟨a1, a2, a3, a4, a5, by omega, fun w hw => absurd hw (by omega)⟩
theorem op_ears {h : HT} {v : VT} {mb : BT} (x : Int32) (r : RH h v mb) : ∃ z h' mb', M_X8_ears h x = some (z, h') ∧ M_X9_ears mb x = some (z, mb') ∧ RH h' v mb' := by
  obtain ⟨R, C, sg, dr, th, er, k, wc, wl, wd, ho, hx, hr⟩ := r
  have e2 : M_X9_in x.toInt64 (0 : Int64) (6 : Int64) = some (if 0 ≤ x ∧ x ≤ 6 then 1 else 0) := m_in x 0 6
  unfold M_X8_ears M_X9_ears
  rw [m_within, e2, Option.bind_some, Option.bind_some]
  by_cases q : 0 ≤ x ∧ x ≤ 6
  · rw [if_pos q, if_neg (by decide +kernel), if_neg (by decide +kernel)]
    obtain ⟨x1, x2, x3⟩ := hx
    obtain ⟨r1, r2, r3, r4, r5, r6, r7, r8⟩ := hr
    obtain ⟨a1, a2, a3, a4, a5, a6, a7⟩ := ho
    obtain ⟨n, hn, e⟩ := nI_of2 (M := 6) (n := 6) rfl (fun z => absurd q.1 (Int32.not_le.mpr z)) q.2
    subst e
    subst x1
    refine ⟨_, _, _, rfl, by rw [r6]; rfl, ?_⟩
    exact ⟨R, C, sg, dr, th, n, k, wc, wl, wd, ⟨a1, a2, a3, a4, hn, a6, a7⟩, ⟨rfl, x2, x3⟩, r1, r2, r3, r4, r5, rfl, r7, r8⟩
  · rw [if_neg q, if_pos rfl, if_pos rfl]
    exact ⟨_, _, _, rfl, rfl, R, C, sg, dr, th, er, k, wc, wl, wd, ho, hx, hr⟩
end
section
/-! Cells, places, watchers, signs: op by op -/
theorem k10 : ¬ (1 : Int32) = 0 := by decide +kernel
theorem k00 : (0 : Int32) = 0 := rfl
theorem i10 : ((1 : Int32) = 0) = False := eq_false (by decide +kernel)
theorem i00 : ((0 : Int32) = 0) = True := eq_true rfl
theorem bx {α β : Type} (a : α) (f : α → Option β) : (some a).bind f = f a := rfl
theorem n00 : (nI 0 = (0 : Int32)) = True := eq_true rfl
theorem n10 : (nI 1 = (0 : Int32)) = False := eq_false (by decide +kernel)
theorem n01 : (nI 0 = (1 : Int32)) = False := eq_false (by decide +kernel)
theorem n11 : (nI 1 = (1 : Int32)) = True := eq_true rfl
theorem sgn_bit {R C c : Nat} {sg : Nat → Nat} (q : Nat) (hc : c < R * C) : (sgn R C sg q).testBit c = (sg c == q) := by
  unfold sgn; rw [mk_bit]; simp [hc]
theorem m_cellsX {R C : Nat} (sg : Nat → Nat) (dr th er : Nat) : M_X0_cells (hOf R C sg dr th er) = some (nI (R * C)) := congrArg some (Int32.ofNat_mul R C).symm
theorem m_cellsM {R C : Nat} {sg : Nat → Nat} {dr th er k : Nat} {wc wl wd : Nat → Nat} {mb : BT} (hr : rM R C sg dr th er k wc wl wd mb) : M_X9_cells mb = some (nI (R * C)) := by
  unfold M_X9_cells
  rw [hr.1, hr.2.1]
  exact congrArg some (Int32.ofNat_mul R C).symm
theorem cell_cs {x : Int32} {n : Nat} (hn : n < 2 ^ 31) : (∃ c, c < n ∧ x = nI c) ∨ x < 0 ∨ nI n ≤ x := by
  by_cases h : x < 0
  · exact Or.inr (Or.inl h)
  · obtain ⟨j, hj, e⟩ := nI_of h
    subst e
    rcases Nat.lt_or_ge j n with q | q
    · exact Or.inl ⟨j, q, rfl⟩
    · exact Or.inr (Or.inr (nI_le q hj))
theorem in_bad {x : Int32} {n : Nat} (hn : n < 2 ^ 31) (h : x < 0 ∨ nI n ≤ x) : M_X9_in x.toInt64 (0 : Int64) ((nI n - (1 : Int32)).toInt64) = some 0 := by
  have z : (0 : Int64) = (0 : Int32).toInt64 := by decide +kernel
  rw [z, m_in]
  congr 1
  rw [if_neg]
  intro ab
  rcases h with h | h
  · exact absurd ab.1 (Int32.not_le.mpr h)
  · rcases Nat.eq_zero_or_pos n with y | y
    · subst y
      exact absurd (Int32.le_trans ab.1 ab.2) (by decide +kernel)
    · have e : nI n - 1 = nI (n - 1) := n_sub (a := n) (b := 1) y
      rw [e] at ab
      exact absurd (Int32.le_trans h ab.2) (nI_ge (by omega) hn)
theorem in_good {c n : Nat} (hc : c < n) (hn : n < 2 ^ 31) : M_X9_in (nI c).toInt64 (0 : Int64) ((nI n - (1 : Int32)).toInt64) = some 1 := by
  rw [in_n (by omega) (by omega) hn, if_pos hc]
theorem isCX_in {R C c : Nat} (sg : Nat → Nat) (dr th er : Nat) (h : okD R C) (hc : c < R * C) : M_X0_isCell (hOf R C sg dr th er) (nI c) = some 1 := by
  have h16 := h.n16
  unfold M_X0_isCell
  rw [if_neg (nI_pos (by omega)), m_cellsX, Option.bind_some, if_neg (nI_ge hc (by omega))]
theorem isCX_out {R C : Nat} {x : Int32} (sg : Nat → Nat) (dr th er : Nat) (hx : x < 0 ∨ nI (R * C) ≤ x) : M_X0_isCell (hOf R C sg dr th er) x = some 0 := by
  unfold M_X0_isCell
  by_cases q : x < 0
  · rw [if_pos q]
  · rw [if_neg q, m_cellsX, Option.bind_some, if_pos (hx.resolve_left q)]
theorem isCM_in {R C c : Nat} {sg : Nat → Nat} {dr th er k : Nat} {wc wl wd : Nat → Nat} {mb : BT} (h : okD R C) (hr : rM R C sg dr th er k wc wl wd mb) (hc : c < R * C) : M_X9_isCell mb (nI c) = some 1 := by
  have h16 := h.n16
  unfold M_X9_isCell
  rw [m_cellsM hr, Option.bind_some, in_good hc (by omega), Option.bind_some, if_pos (by decide +kernel)]
theorem isCM_out {R C : Nat} {x : Int32} {sg : Nat → Nat} {dr th er k : Nat} {wc wl wd : Nat → Nat} {mb : BT} (h : okD R C) (hr : rM R C sg dr th er k wc wl wd mb) (hx : x < 0 ∨ nI (R * C) ≤ x) : M_X9_isCell mb x = some 0 := by
  have h16 := h.n16
  unfold M_X9_isCell
  rw [m_cellsM hr, Option.bind_some, in_bad (by omega) hx, Option.bind_some, if_pos (by decide +kernel)]
theorem m_hasS {R C c : Nat} {sg : Nat → Nat} (q : Nat) (h : okD R C) (hc : c < R * C) : M_X8_has (nI (sgn R C sg q)) (nI c) = some (if sg c = q then 1 else 0) := by
  have h16 := h.n16
  have := lt16 h (sgn_lt R C sg q)
  rw [m_has (by omega) (by omega), sgn_bit q hc]
  by_cases y : sg c = q
  · simp [y]
  · simp [y]
theorem m_signOf {R C c : Nat} {sg : Nat → Nat} (dr th er : Nat) (h : okD R C) (hc : c < R * C) (hs : OKs (sg c)) : M_X0_signOf (hOf R C sg dr th er) (nI c) = some (nI (sg c)) := by
  have e : M_X0_signOf (hOf R C sg dr th er) (nI c) = (M_X8_has (nI (sgn R C sg 35)) (nI c)).bind fun z5 => if z5 = 0 then ((M_X8_has (nI (sgn R C sg 103)) (nI c)).bind fun z19 => if z19 = 0 then ((M_X8_has (nI (sgn R C sg 99)) (nI c)).bind fun z33 => if z33 = 0 then ((M_X8_has (nI (sgn R C sg 100)) (nI c)).bind fun z47 => if z47 = 0 then (some (46 : Int32)) else (some (100 : Int32))) else (some (99 : Int32))) else (some (103 : Int32))) else (some (35 : Int32)) := rfl
  rw [e, m_hasS _ h hc, m_hasS _ h hc, m_hasS _ h hc, m_hasS _ h hc]
  simp only [bx]
  rcases hs with z | z | z | z | z <;> rw [z] <;> decide +kernel
theorem op_cell {h : HT} {v : VT} {mb : BT} (x : Int32) (r : RH h v mb) : ∃ z, M_X8_cell h x = some z ∧ M_X9_cell mb x = some z := by
  obtain ⟨R, C, sg, dr, th, er, k, wc, wl, wd, ho, ⟨hx1, hx2, hx3⟩, hr⟩ := r
  subst hx1
  have h16 := ho.1.n16
  unfold M_X8_cell M_X9_cell
  rcases cell_cs (x := x) (n := R * C) (by omega) with ⟨c, hc, rfl⟩ | q
  · rw [isCX_in _ _ _ _ ho.1 hc, isCM_in ho.1 hr hc, bx, bx, if_neg k10, if_neg k10, m_signOf _ _ _ ho.1 hc (ho.2.1 c hc), bx, if_pos (nI_in (by omega) (by omega)), nI_clamp (by omega), hr.2.2.2.2.2.2.1 c hc]
    exact ⟨_, rfl, rfl⟩
  · rw [isCX_out _ _ _ _ q, isCM_out ho.1 hr q, bx, bx, if_pos k00, if_pos k00]
    exact ⟨_, rfl, rfl⟩
theorem op_place {h : HT} {v : VT} {mb : BT} (x1 x2 : Int32) (r : RH h v mb) : ∃ z h' mb', M_X8_place h x1 x2 = some (z, h') ∧ M_X9_place mb x1 x2 = some (z, mb') ∧ RH h' v mb' := by
  have r0 := r
  obtain ⟨R, C, sg, dr, th, er, k, wc, wl, wd, ho, ⟨hx1, hx2, hx3⟩, hr⟩ := r
  subst hx1
  have h16 := ho.1.n16
  have e1 := m_within x1 0 1
  have e2 : M_X9_in x1.toInt64 (0 : Int64) (1 : Int64) = some (if 0 ≤ x1 ∧ x1 ≤ 1 then 1 else 0) := m_in x1 0 1
  unfold M_X8_place M_X9_place
  rcases cell_cs (x := x2) (n := R * C) (by omega) with ⟨c, hc, rfl⟩ | q
  · have a1 := isCX_in sg dr th er ho.1 hc
    have a2 := isCM_in ho.1 hr hc
    have b1 : M_X8_has (hOf R C sg dr th er).2.2.2.2.2.1 (nI c) = some (if sg c = 35 then 1 else 0) := m_hasS 35 ho.1 hc
    have b2 := m_isWall ho hr hc
    rw [a1, a2, bx, bx, if_neg k10, if_neg k10, e1, e2, bx, bx]
    by_cases q : 0 ≤ x1 ∧ x1 ≤ 1
    · rw [if_pos q, if_neg k10, if_neg k10, b1, b2, bx, bx]
      obtain ⟨n, hn, rfl⟩ := nI_of2 (M := 1) (n := 1) rfl (fun z => absurd q.1 (Int32.not_le.mpr z)) q.2
      obtain ⟨g1, g2, g3, g4, g5, g6, g7⟩ := ho
      obtain ⟨r1, r2, r3, r4, r5, r6, r7, r8⟩ := hr
      by_cases w : sg c = 35
      · rw [if_pos w, if_neg k10, if_neg k10]
        exact ⟨_, _, _, rfl, rfl, r0⟩
      · rw [if_neg w, if_pos k00, if_pos k00]
        obtain rfl | rfl : n = 0 ∨ n = 1 := by omega
        · rw [if_pos (show nI 0 = 0 from rfl), if_pos (show nI 0 = 0 from rfl)]
          unfold M_X9_place_49
          rw [if_pos (show nI 0 = 0 from rfl)]
          unfold M_X9_place_63
          rw [if_neg (show ¬ nI 0 = 1 by decide +kernel)]
          refine ⟨nI dr, _, _, rfl, by rw [r3]; rfl, ?_⟩
          exact ⟨R, C, sg, c, th, er, k, wc, wl, wd, ⟨g1, g2, ⟨hc, w⟩, g4, g5, g6, g7⟩, ⟨rfl, hx2, hx3⟩, r1, r2, rfl, r4, r5, r6, r7, r8⟩
        · rw [if_neg (show ¬ nI 1 = 0 by decide +kernel), if_neg (show ¬ nI 1 = 0 by decide +kernel)]
          unfold M_X9_place_49
          rw [if_neg (show ¬ nI 1 = 0 by decide +kernel)]
          unfold M_X9_place_63
          rw [if_pos (show nI 1 = 1 from rfl)]
          refine ⟨nI th, _, _, rfl, by rw [r4]; rfl, ?_⟩
          exact ⟨R, C, sg, dr, c, er, k, wc, wl, wd, ⟨g1, g2, g3, ⟨hc, w⟩, g5, g6, g7⟩, ⟨rfl, hx2, hx3⟩, r1, r2, r3, rfl, r5, r6, r7, r8⟩
    · rw [if_neg q, if_pos k00, if_pos k00]
      exact ⟨_, _, _, rfl, rfl, r0⟩
  · rw [isCX_out _ _ _ _ q, isCM_out ho.1 hr q, bx, bx, if_pos k00, if_pos k00]
    exact ⟨_, _, _, rfl, rfl, r0⟩
theorem m_put {n c : Nat} (f : AR) (x : Int32) (h : c < n) (hn : n < 2 ^ 31) : M_X8_put n f (nI c) x = some (upd f c x) := by
  unfold M_X8_put
  rw [if_neg (nI_pos (by omega)), if_neg (nI_ge h hn), if_pos (nI_in h hn), nI_clamp (by omega)]
theorem upd_at (f : AR) (c : Nat) (x : Int32) : upd f c x c = x := if_pos rfl
theorem upd_ne (f : AR) {c j : Nat} (x : Int32) (h : j ≠ c) : upd f c x j = f j := if_neg h
theorem m_add {k c w : Nat} {d x3 : Int32} {v : VT} (hk : v.1 = nI k) (h4 : k < 4) (e : (if x3 = 0 then (0 : Int32) else 1) = d) : M_X4_add v (nI c) (nI w) x3 = some (1, (nI (k + 1), upd v.2.1 k (nI c), upd v.2.2.1 k (nI w), upd v.2.2.2 k d)) := by
  unfold M_X4_add M_X4_isFull
  rw [hk, if_pos (show nI k < (4 : Int32) from nI_lt (b := 4) h4 (by omega)), bx, if_pos k00, m_put _ _ h4 (by omega), bx, m_put _ _ h4 (by omega), bx, nI_succ]
  by_cases q : x3 = 0
  · rw [if_pos q] at e ⊢
    subst e
    unfold M_X4_add_50
    rw [m_put _ _ h4 (by omega), bx]
  · rw [if_neg q] at e ⊢
    subst e
    unfold M_X4_add_50
    rw [m_put _ _ h4 (by omega), bx]
def updN (f : Nat → Nat) (k c : Nat) : Nat → Nat := fun j => if j = k then c else f j
theorem updN_at (f : Nat → Nat) (k c : Nat) : updN f k c k = c := if_pos rfl
theorem updN_ne (f : Nat → Nat) {k j : Nat} (c : Nat) (h : j ≠ k) : updN f k c j = f j := if_neg h
theorem op_watch {h : HT} {v : VT} {mb : BT} (x1 x2 x3 : Int32) (r : RH h v mb) : ∃ z v' mb', M_X8_watch h v x1 x2 x3 = some (z, v') ∧ M_X9_watch mb x1 x2 x3 = some (z, mb') ∧ RH h v' mb' := by
  have r0 := r
  obtain ⟨R, C, sg, dr, th, er, k, wc, wl, wd, ho, ⟨hx1, hx2, hx3⟩, hr⟩ := r
  subst hx1
  have h16 := ho.1.n16
  have e1 := m_within x2 0 3
  have e2 : M_X9_in x2.toInt64 (0 : Int64) (3 : Int64) = some (if 0 ≤ x2 ∧ x2 ≤ 3 then 1 else 0) := m_in x2 0 3
  unfold M_X8_watch M_X9_watch
  rcases cell_cs (x := x1) (n := R * C) (by omega) with ⟨c, hc, rfl⟩ | q
  · have a1 := isCX_in sg dr th er ho.1 hc
    have a2 := isCM_in ho.1 hr hc
    have b1 : M_X8_has (hOf R C sg dr th er).2.2.2.2.2.1 (nI c) = some (if sg c = 35 then 1 else 0) := m_hasS 35 ho.1 hc
    have b2 := m_isWall ho hr hc
    rw [a1, a2, bx, bx, if_neg k10, if_neg k10, e1, e2, bx, bx]
    by_cases q : 0 ≤ x2 ∧ x2 ≤ 3
    · rw [if_pos q, if_neg k10, if_neg k10, b1, b2, bx, bx]
      obtain ⟨n, hn, rfl⟩ := nI_of2 (M := 3) (n := 3) rfl (fun z => absurd q.1 (Int32.not_le.mpr z)) q.2
      obtain ⟨g1, g2, g3, g4, g5, g6, g7⟩ := ho
      obtain ⟨r1, r2, r3, r4, r5, r6, r7, r8⟩ := hr
      by_cases w : sg c = 35
      · rw [if_pos w, if_neg k10, if_neg k10]
        exact ⟨_, _, _, rfl, rfl, r0⟩
      · rw [if_neg w, if_pos k00, if_pos k00]
        rcases Nat.lt_or_ge k 4 with y | y
        · obtain ⟨d, hd2, hd⟩ : ∃ d : Nat, d < 2 ∧ (if x3 = 0 then (0 : Int32) else 1) = nI d := by
            by_cases t : x3 = 0
            · exact ⟨0, by omega, if_pos t⟩
            · exact ⟨1, by omega, if_neg t⟩
          rw [m_add hx2 y hd, bx]
          dsimp only
          rw [if_neg k10, r5, if_neg (show ¬ nI k = (4 : Int32) from w_ne (b := 4) (by omega) (by omega) (by omega)), if_pos (nI_in y (by omega)), if_pos (nI_in y (by omega)), nI_clamp (by omega)]
          have f : ∀ q : BT × Int32 × Int32, q.2.2 = nI k → q.1.2.2.2.2.1 = nI k → M_X9_watch_84 (nI c) (nI n) x3 q = some (nI (k + 1), (q.1.1, q.1.2.1, q.1.2.2.1, q.1.2.2.2.1, nI (k + 1), q.1.2.2.2.2.2.1, q.1.2.2.2.2.2.2.1, q.1.2.2.2.2.2.2.2.1, q.1.2.2.2.2.2.2.2.2.1, upd q.1.2.2.2.2.2.2.2.2.2 k q.2.1)) := by
            intro q q1 q2
            unfold M_X9_watch_84
            rw [q1, q2, if_pos (nI_in y (by omega)), nI_clamp (by omega), nI_succ]
          have fin : ∀ mb', mb' = (mb.1, mb.2.1, mb.2.2.1, mb.2.2.2.1, nI (k + 1), mb.2.2.2.2.2.1, mb.2.2.2.2.2.2.1, upd mb.2.2.2.2.2.2.2.1 k (nI c), upd mb.2.2.2.2.2.2.2.2.1 k (nI n), upd mb.2.2.2.2.2.2.2.2.2 k (nI d)) → RH (hOf R C sg dr th er) (nI (k + 1), upd v.2.1 k (nI c), upd v.2.2.1 k (nI n), upd v.2.2.2 k (nI d)) mb' := by
            intro mb' em
            subst em
            refine ⟨R, C, sg, dr, th, er, k + 1, updN wc k c, updN wl k n, updN wd k d, ⟨g1, g2, g3, g4, g5, by omega, ?_⟩, ⟨rfl, rfl, ?_⟩, r1, r2, r3, r4, rfl, r6, r7, ?_⟩
            · intro j hj
              by_cases t : j = k
              · subst t; rw [updN_at, updN_at, updN_at]; exact ⟨hc, w, by omega, hd2⟩
              · rw [updN_ne _ _ t, updN_ne _ _ t, updN_ne _ _ t]; exact g7 j (by omega)
            · intro j hj
              by_cases t : j = k
              · subst t; rw [updN_at, updN_at, updN_at]; exact ⟨upd_at .., upd_at .., upd_at ..⟩
              · dsimp only; rw [updN_ne _ _ t, updN_ne _ _ t, updN_ne _ _ t, upd_ne _ _ t, upd_ne _ _ t, upd_ne _ _ t]; exact hx3 j (by omega)
            · intro j hj
              by_cases t : j = k
              · subst t; rw [updN_at, updN_at, updN_at]; exact ⟨upd_at .., upd_at .., upd_at ..⟩
              · dsimp only; rw [updN_ne _ _ t, updN_ne _ _ t, updN_ne _ _ t, upd_ne _ _ t, upd_ne _ _ t, upd_ne _ _ t]; exact r8 j (by omega)
          by_cases t : x3 = 0
          · rw [if_pos t] at hd ⊢
            rw [f _ rfl rfl]
            exact ⟨_, _, _, rfl, rfl, fin _ (by rw [← hd])⟩
          · rw [if_neg t] at hd ⊢
            rw [f _ rfl rfl]
            exact ⟨_, _, _, rfl, rfl, fin _ (by rw [← hd])⟩
        · have e : k = 4 := by omega
          subst e
          unfold M_X4_add M_X4_isFull
          rw [hx2, if_neg (show ¬ nI 4 < 4 by decide +kernel), bx, if_neg k10, bx]
          dsimp only
          rw [if_pos k00, r5, if_pos (show nI 4 = 4 from rfl)]
          exact ⟨_, _, _, rfl, rfl, r0⟩
    · rw [if_neg q, if_pos k00, if_pos k00]
      exact ⟨_, _, _, rfl, rfl, r0⟩
  · rw [isCX_out _ _ _ _ q, isCM_out ho.1 hr q, bx, bx, if_pos k00, if_pos k00]
    exact ⟨_, _, _, rfl, rfl, r0⟩
theorem say_c : ∀ m, m < 127 → vp_nar .char (((nI m).toUInt32 % 65536).toInt32) = nI m := by decide +kernel
theorem op_say {p : PT} {mo : OT} (x : Int32) (r : RPd p mo) : ∃ z p' mo', M_X8_say p x = some (z, p') ∧ M_X9_say mo x = some (z, mo') ∧ RPd p' mo' := by
  have r0 := r
  obtain ⟨n, f, hn, h1, h2, hf⟩ := r
  have e1 := m_within x 33 126
  have e2 : M_X9_in x.toInt64 (33 : Int64) (126 : Int64) = some (if 33 ≤ x ∧ x ≤ 126 then 1 else 0) := m_in x 33 126
  unfold M_X8_say M_X9_say
  rw [e1, e2, bx, bx]
  by_cases q : 33 ≤ x ∧ x ≤ 126
  · rw [if_pos q, if_neg k10, if_neg k10]
    obtain ⟨m, hm, rfl⟩ := nI_of2 (M := 126) (n := 126) rfl (fun z => absurd (Int32.le_trans (show (0 : Int32) ≤ 33 by decide +kernel) q.1) (Int32.not_le.mpr z)) q.2
    have h33 : 33 ≤ m := by
      rcases Nat.lt_or_ge m 33 with y | y
      · exact absurd q.1 (nI_ge (a := m) (b := 33) y (by omega))
      · exact y
    unfold M_X2_add
    rw [h1, h2, if_neg (nI_pos (by omega))]
    rcases Nat.lt_or_ge n 40 with y | y
    · rw [if_pos (nI_lt y (by omega)), if_pos (nI_in y (by omega)), bx]
      dsimp only
      rw [if_neg k10, if_neg (show ¬ nI n = (40 : Int32) from w_ne (b := 40) (by omega) (by omega) (by omega)), if_pos (nI_in y (by omega)), nI_clamp (by omega), say_c m (by omega), ← nI_succ]
      refine ⟨_, _, _, rfl, rfl, n + 1, updN f n m, by omega, rfl, rfl, ?_⟩
      intro j hj
      by_cases t : j = n
      · subst t; rw [updN_at]; exact ⟨h33, hm, upd_at .., upd_at ..⟩
      · rw [updN_ne _ _ t]
        show _ ∧ _ ∧ upd p.2 n (nI m) j = _ ∧ upd mo.2 n (nI m) j = _
        rw [upd_ne _ _ t, upd_ne _ _ t]; exact hf j (by omega)
    · have e : n = 40 := by omega
      subst e
      rw [if_neg (nI_nlt (Nat.le_refl 40) (by omega)), bx]
      dsimp only
      rw [if_pos k00, if_pos (show nI 40 = 40 from rfl)]
      exact ⟨_, _, _, rfl, rfl, r0⟩
  · rw [if_neg q, if_pos k00, if_pos k00]
    exact ⟨_, _, _, rfl, rfl, r0⟩
theorem op_wipe {p : PT} {mo : OT} (r : RPd p mo) : ∃ z p' mo', M_X8_wipe p = some (z, p') ∧ M_X9_wipe mo = some (z, mo') ∧ RPd p' mo' := by
  obtain ⟨n, f, hn, h1, h2, hf⟩ := r
  refine ⟨p.1, (0, p.2), (0, mo.2), rfl, ?_, 0, f, by omega, rfl, rfl, fun i hi => absurd hi (by omega)⟩
  unfold M_X9_wipe
  rw [h1, h2]
theorem m_seenByX {R C w : Nat} {sg : Nat → Nat} {dr th er k : Nat} {wc wl wd : Nat → Nat} {v : VT} (ho : okS R C sg dr th er k wc wl wd) (hx3 : ∀ w, w < k → v.2.1 w = nI (wc w) ∧ v.2.2.1 w = nI (wl w) ∧ v.2.2.2 w = nI (wd w)) (hw : w < k) : M_X0_seenBy (hOf R C sg dr th er) v (nI w) = some (nI (sgt R C sg (wl w) (wc w))) := by
  have hk := ho.2.2.2.2.2.1
  obtain ⟨w1, w2, w3, w4⟩ := ho.2.2.2.2.2.2 w hw
  obtain ⟨q1, q2, q3⟩ := hx3 w hw
  unfold M_X0_seenBy M_X4_cellOfOne M_X4_lookingOf
  rw [m_at _ (by omega) (by omega), m_at _ (by omega) (by omega), bx, bx, bx, bx, q1, q2, m_sight sg dr th er ho.1 w1 (by omega), bx]
theorem m_seenByM {R C w : Nat} {sg : Nat → Nat} {dr th er k : Nat} {wc wl wd : Nat → Nat} {mb : BT} (ho : okS R C sg dr th er k wc wl wd) (hr : rM R C sg dr th er k wc wl wd mb) (hw : w < k) : M_X9_seenBy mb (nI w) = some (nI (sgt R C sg (wl w) (wc w))) := by
  have hk := ho.2.2.2.2.2.1
  obtain ⟨w1, w2, w3, w4⟩ := ho.2.2.2.2.2.2 w hw
  obtain ⟨q1, q2, q3⟩ := hr.2.2.2.2.2.2.2 w hw
  unfold M_X9_seenBy
  rw [if_pos (nI_in (c := w) (N := 4) (by omega) (by omega)), if_pos (nI_in (c := w) (N := 4) (by omega) (by omega)), nI_clamp (n := w) (by omega), q1, q2, m_seenFrom ho hr w1 w3, Option.bind_some]
theorem isOne_in {v : VT} {k w : Nat} (hx2 : v.1 = nI k) (hw : w < k) (hk : k < 2 ^ 31) : M_X4_isOne v (nI w) = some 1 := by
  unfold M_X4_isOne
  rw [if_neg (nI_pos (by omega)), hx2, if_neg (nI_ge hw hk)]
theorem isOne_out {v : VT} {k : Nat} {x : Int32} (hx2 : v.1 = nI k) (h : x < 0 ∨ nI k ≤ x) : M_X4_isOne v x = some 0 := by
  unfold M_X4_isOne
  by_cases q : x < 0
  · rw [if_pos q]
  · rw [if_neg q, hx2, if_pos (h.resolve_left q)]
theorem op_sees {h : HT} {v : VT} {mb : BT} (x : Int32) (r : RH h v mb) : ∃ z, M_X8_sees h v x = some z ∧ M_X9_sees mb x = some z := by
  obtain ⟨R, C, sg, dr, th, er, k, wc, wl, wd, ho, ⟨hx1, hx2, hx3⟩, hr⟩ := r
  subst hx1
  have hk := ho.2.2.2.2.2.1
  unfold M_X8_sees M_X9_sees
  rw [hr.2.2.2.2.1]
  rcases cell_cs (x := x) (n := k) (by omega) with ⟨c, hc, rfl⟩ | q
  · rw [isOne_in hx2 hc (by omega), in_good hc (by omega), bx, bx, if_neg k10, if_neg k10, m_seenByX ho hx3 hc, m_seenByM ho hr hc]
    exact ⟨_, rfl, rfl⟩
  · rw [isOne_out hx2 q, in_bad (by omega) q, bx, bx, if_pos k00, if_pos k00]
    exact ⟨_, rfl, rfl⟩
end
section
/-! told, house, fault -/
theorem rng {x : Int32} {a b : Nat} (ha : a < 2 ^ 31) (hb : b < 2 ^ 31) (h1 : nI a ≤ x) (h2 : x ≤ nI b) : ∃ n, a ≤ n ∧ n ≤ b ∧ x = nI n := by
  obtain ⟨n, hn, rfl⟩ := nI_of (x := x) (fun z => absurd (Int32.le_trans (nI_pos' ha) h1) (Int32.not_le.mpr z))
  refine ⟨n, ?_, ?_, rfl⟩
  · rcases Nat.lt_or_ge n a with y | y
    · exact absurd h1 (nI_ge y ha)
    · exact y
  · rcases Nat.lt_or_ge b n with y | y
    · exact absurd h2 (nI_ge y hn)
    · exact y
theorem k1010 : ¬ (10 : Int32) = 0 := by decide +kernel
theorem m_toldW {R C k w kk : Nat} {sg : Nat → Nat} {dr th er : Nat} {wc wl wd : Nat → Nat} {v : VT} (ho : okS R C sg dr th er k wc wl wd) (hx2 : v.1 = nI k) (hx3 : ∀ w, w < k → v.2.1 w = nI (wc w) ∧ v.2.2.1 w = nI (wl w) ∧ v.2.2.2 w = nI (wd w)) (hkk : kk < 10) (hw : w < k) : M_X8_toldOfWatcher v (nI w) (nI kk) = some (if kk = 0 then nI (wc w) else if kk = 1 then nI (wl w) else if kk = 2 then nI (wd w) else -2) := by
  have hk := ho.2.2.2.2.2.1
  obtain ⟨w1, w2, w3, w4⟩ := ho.2.2.2.2.2.2 w hw
  obtain ⟨q1, q2, q3⟩ := hx3 w hw
  unfold M_X8_toldOfWatcher
  rw [isOne_in hx2 hw (by omega), bx, if_neg k10]
  by_cases c0 : kk = 0
  · subst c0
    rw [if_pos (show nI 0 = 0 from rfl), if_pos rfl]
    unfold M_X4_cellOfOne
    rw [m_at _ (by omega) (by omega), bx, bx, q1]
  · rw [if_neg (show ¬ nI kk = 0 from w_ne (b := 0) (by omega) (by omega) c0), if_neg c0]
    by_cases c1 : kk = 1
    · subst c1
      rw [if_pos (show nI 1 = 1 from rfl), if_pos rfl]
      unfold M_X4_lookingOf
      rw [m_at _ (by omega) (by omega), bx, bx, q2]
    · rw [if_neg (show ¬ nI kk = 1 from w_ne (b := 1) (by omega) (by omega) c1), if_neg c1]
      by_cases c2 : kk = 2
      · subst c2
        rw [if_pos (show nI 2 = 2 from rfl), if_pos rfl]
        unfold M_X4_hasDog
        rw [m_at _ (by omega) (by omega), bx, q3]
        obtain z | z : wd w = 0 ∨ wd w = 1 := by omega
        · rw [z]; decide +kernel
        · rw [z]; decide +kernel
      · rw [if_neg (show ¬ nI kk = 2 from w_ne (b := 2) (by omega) (by omega) c2), if_neg c2]
theorem op_told {p : PT} {mo : OT} {h : HT} {v : VT} {mb : BT} (x : Int32) (rp : RPd p mo) (r : RH h v mb) : ∃ z, M_X8_told p h v x = some z ∧ M_X9_told mb mo x = some z := by
  obtain ⟨R, C, sg, dr, th, er, k, wc, wl, wd, ho, ⟨hx1, hx2, hx3⟩, r1, r2, r3, r4, r5, r6, r7, r8⟩ := r
  obtain ⟨n, f, hn, h1, h2, hf⟩ := rp
  subst hx1
  have hk := ho.2.2.2.2.2.1
  have e2 : M_X9_in x.toInt64 (10 : Int64) (49 : Int64) = some (if 10 ≤ x ∧ x ≤ 49 then 1 else 0) := m_in x 10 49
  unfold M_X8_told M_X9_told
  rw [e2, bx, h1, h2, hx2, r1, r2, r3, r4, r5, r6]
  by_cases q : 10 ≤ x ∧ x ≤ 49
  · rw [if_pos q]
    obtain ⟨m, hm10, hm, rfl⟩ := rng (a := 10) (b := 49) (by omega) (by omega) q.1 q.2
    have d1 : nI m / (10 : Int32) = nI (m / 10) := pk_div (d := 10) (by omega) (by omega) (by omega)
    have d2 : nI m - nI m / (10 : Int32) * (10 : Int32) = nI (m % 10) := n_rem (d := 10) (by omega) (by omega) (by omega)
    have d3 : nI (m / 10) - (1 : Int32) = nI (m / 10 - 1) := n_sub (b := 1) (by omega)
    rw [if_neg k10, if_neg (show ¬ nI m = 0 from w_ne (b := 0) (by omega) (by omega) (by omega)), if_neg (show ¬ nI m = 1 from w_ne (b := 1) (by omega) (by omega) (by omega)), if_neg (show ¬ nI m = 2 from w_ne (b := 2) (by omega) (by omega) (by omega)), if_neg (show ¬ nI m = 3 from w_ne (b := 3) (by omega) (by omega) (by omega)), if_neg (show ¬ nI m = 4 from w_ne (b := 4) (by omega) (by omega) (by omega)), if_neg (show ¬ nI m = 5 from w_ne (b := 5) (by omega) (by omega) (by omega)), if_neg (show ¬ nI m = 6 from w_ne (b := 6) (by omega) (by omega) (by omega)), if_pos (show (10 : Int32) ≤ nI m from nI_le (a := 10) hm10 (by omega)), if_pos k1010, if_pos k1010, if_pos k1010, if_pos k1010, d2, d1, d3]
    have hkk : m % 10 < 10 := Nat.mod_lt _ (by omega)
    have hw3 : m / 10 - 1 < 4 := by omega
    generalize m % 10 = kk at hkk ⊢
    generalize m / 10 - 1 = w at hw3 ⊢
    rcases Nat.lt_or_ge w k with y | y
    · obtain ⟨q1, q2, q3⟩ := r8 w y
      rw [m_toldW ho hx2 hx3 hkk y, bx, if_neg (nI_ge y (by omega)), if_pos (nI_in (c := w) (N := 4) hw3 (by omega)), if_pos (nI_in (c := w) (N := 4) hw3 (by omega)), if_pos (nI_in (c := w) (N := 4) hw3 (by omega)), nI_clamp (by omega), q1, q2, q3]
      refine ⟨_, rfl, ?_⟩
      by_cases c0 : kk = 0
      · subst c0
        rw [if_pos (show nI 0 ≤ 2 by decide +kernel), if_pos (show nI 0 = 0 from rfl), if_pos rfl]
      · by_cases c1 : kk = 1
        · subst c1
          rw [if_pos (show nI 1 ≤ 2 by decide +kernel), if_neg (show ¬ nI 1 = 0 by decide +kernel), if_pos (show nI 1 = 1 from rfl), if_neg (by omega), if_pos rfl]
        · by_cases c2 : kk = 2
          · subst c2
            rw [if_pos (show nI 2 ≤ 2 by decide +kernel), if_neg (show ¬ nI 2 = 0 by decide +kernel), if_neg (show ¬ nI 2 = 1 by decide +kernel), if_neg (by omega), if_neg (by omega), if_pos rfl]
          · rw [if_neg (show ¬ nI kk ≤ 2 from nI_ge (a := 2) (by omega) (by omega)), if_neg c0, if_neg c1, if_neg c2]
    · unfold M_X8_toldOfWatcher
      rw [isOne_out hx2 (Or.inr (nI_le y (by omega))), bx, if_pos k00, bx, if_pos (nI_le y (by omega))]
      exact ⟨_, rfl, rfl⟩
  · rw [if_neg q, if_pos k00]
    by_cases c0 : x = 0
    · rw [if_pos c0, if_pos c0]; exact ⟨_, rfl, rfl⟩
    rw [if_neg c0, if_neg c0]
    by_cases c1 : x = 1
    · rw [if_pos c1, if_pos c1]; exact ⟨_, rfl, rfl⟩
    rw [if_neg c1, if_neg c1]
    by_cases c2 : x = 2
    · rw [if_pos c2, if_pos c2]; exact ⟨_, rfl, rfl⟩
    rw [if_neg c2, if_neg c2]
    by_cases c3 : x = 3
    · rw [if_pos c3, if_pos c3]; exact ⟨_, rfl, rfl⟩
    rw [if_neg c3, if_neg c3]
    by_cases c4 : x = 4
    · rw [if_pos c4, if_pos c4]; exact ⟨_, rfl, rfl⟩
    rw [if_neg c4, if_neg c4]
    by_cases c5 : x = 5
    · rw [if_pos c5, if_pos c5]; exact ⟨_, rfl, rfl⟩
    rw [if_neg c5, if_neg c5]
    by_cases c6 : x = 6
    · rw [if_pos c6, if_pos c6]; exact ⟨_, rfl, rfl⟩
    rw [if_neg c6, if_neg c6]
    by_cases t : 10 ≤ x
    · obtain ⟨m, hm, rfl⟩ := nI_of (x := x) (fun z => absurd (Int32.le_trans (show (0 : Int32) ≤ 10 by decide +kernel) t) (Int32.not_le.mpr z))
      have h50 : 50 ≤ m := by
        rcases Nat.lt_or_ge m 50 with y | y
        · exact absurd ⟨t, nI_le (b := 49) (by omega) (by omega)⟩ q
        · exact y
      have d1 : nI m / (10 : Int32) = nI (m / 10) := pk_div (d := 10) (by omega) (by omega) (by omega)
      have d3 : nI (m / 10) - (1 : Int32) = nI (m / 10 - 1) := n_sub (b := 1) (by omega)
      rw [if_pos t, if_pos k1010, if_pos k1010, d1, d3]
      unfold M_X8_toldOfWatcher
      rw [isOne_out hx2 (Or.inr (nI_le (a := k) (b := m / 10 - 1) (by omega) (by omega))), bx, if_pos k00, bx]
      exact ⟨_, rfl, rfl⟩
    · rw [if_neg t]; exact ⟨_, rfl, rfl⟩
def fcol (C : Nat) : Nat → Nat
  | 0 => 0
  | j + 1 => fcol C j ||| 2 ^ (j * C)
theorem fcol_mk : ∀ R, R < 5 → ∀ C, C < 5 → 1 ≤ C → fcol C R = mk (fun c => c % C == 0) (R * C) := by decide +kernel
theorem lcol_mk : ∀ R, R < 5 → ∀ C, C < 5 → 1 ≤ C → mk (fun c => c % C == 0) (R * C) * 2 ^ (C - 1) = mk (fun c => c % C == C - 1) (R * C) := by decide +kernel
theorem m_layX {R C : Nat} (h : HT) (v : VT) (hd : okD R C) : M_X0_layOut h v (nI R) (nI C) = some ((nI R, nI C, nI (2 ^ (R * C) - 1), nI (mk (fun c => c % C == 0) (R * C)), nI (mk (fun c => c % C == C - 1) (R * C)), 0, 0, 0, 0, 0, nI (R * C - 1), h.2.2.2.2.2.2.2.2.2.2.2), (0, v.2.1, v.2.2.1, v.2.2.2)) := by
  obtain ⟨h1, h2, h3, h4⟩ := id hd
  have h16 := hd.n16
  have hp := hd.pos
  have p16 : 2 ^ (R * C) ≤ 65536 := Nat.pow_le_pow_right (n := 2) (by omega) h16
  have p1 : 1 ≤ 2 ^ (R * C) := Nat.two_pow_pos _
  have st : ∀ f j, j ≤ R → R - j < f → M_X0_layOut_30 (nI R) (nI C) f ((nI R, nI C, nI (2 ^ (R * C) - 1), nI (fcol C j), h.2.2.2.2.1, h.2.2.2.2.2.1, h.2.2.2.2.2.2.1, h.2.2.2.2.2.2.2.1, h.2.2.2.2.2.2.2.2.1, h.2.2.2.2.2.2.2.2.2.1, h.2.2.2.2.2.2.2.2.2.2.1, h.2.2.2.2.2.2.2.2.2.2.2), v, nI j) = some ((nI R, nI C, nI (2 ^ (R * C) - 1), nI (mk (fun c => c % C == 0) (R * C)), nI (mk (fun c => c % C == C - 1) (R * C)), 0, 0, 0, 0, 0, nI (R * C - 1), h.2.2.2.2.2.2.2.2.2.2.2), (0, v.2.1, v.2.2.1, v.2.2.2)) := by
    intro f
    induction f with
    | zero => intro j _ h; omega
    | succ f ih =>
      intro j hj hf
      show M_X0_layOut_30b _ _ _ _ = _
      unfold M_X0_layOut_30b
      dsimp only
      rcases Nat.lt_or_ge j R with q | q
      · have e : nI j * nI C = nI (j * C) := (Int32.ofNat_mul j C).symm
        have jc : j * C ≤ 3 * 4 := Nat.mul_le_mul (by omega) h4
        rw [if_neg (nI_ge q (by omega)), e, m_bit (by omega), bx, n_or, ← nI_succ]
        exact ih (j + 1) (by omega) (by omega)
      · have e : j = R := by omega
        have c1 : nI C - (1 : Int32) = nI (C - 1) := n_sub (b := 1) h3
        have fb := mk_lt (fun c => c % C == 0) (R * C)
        have p3 : 2 ^ (C - 1) ≤ 2 ^ 3 := Nat.pow_le_pow_right (n := 2) (by omega) (by omega)
        have fb2 : mk (fun c => c % C == 0) (R * C) * 2 ^ (C - 1) ≤ 65536 * 2 ^ 3 := Nat.mul_le_mul (by omega) p3
        have e3 : nI R * nI C - (1 : Int32) = nI (R * C - 1) := by
          rw [show nI R * nI C = nI (R * C) from (Int32.ofNat_mul R C).symm]
          exact n_sub (b := 1) hp
        rw [e, if_pos (nI_le (Nat.le_refl _) (by omega)), fcol_mk R (by omega) C (by omega) h3, c1, n_shl (by omega) (by omega), lcol_mk R (by omega) C (by omega) h3]
        unfold M_X0_clearCells M_X4_clear M_X0_cells
        rw [bx, bx]
        dsimp only
        rw [bx, e3]
  unfold M_X0_layOut M_X0_cells
  have e4 : nI R * nI C = nI (R * C) := (Int32.ofNat_mul R C).symm
  have e5 : nI (2 ^ (R * C)) - (1 : Int32) = nI (2 ^ (R * C) - 1) := n_sub (b := 1) p1
  dsimp only
  rw [bx, e4, m_bit (by omega), bx, e5]
  exact st 200 0 (by omega) (by omega)
theorem m_layM {R C : Nat} (mb : BT) : ∃ s : AR, (∀ c, c < 16 → s c = nI 46) ∧ M_X9_lay mb (nI R) (nI C) = some (nI R, nI C, 0, nI R * nI C - 1, 0, mb.2.2.2.2.2.1, s, mb.2.2.2.2.2.2.2.1, mb.2.2.2.2.2.2.2.2.1, mb.2.2.2.2.2.2.2.2.2) := by
  have st : ∀ f j (s : AR), j ≤ 16 → 16 - j < f → (∀ c, c < j → s c = nI 46) → ∃ s' : AR, (∀ c, c < 16 → s' c = nI 46) ∧ M_X9_lay_12 (nI R) (nI C) f ((nI R, nI C, mb.2.2.1, mb.2.2.2.1, mb.2.2.2.2.1, mb.2.2.2.2.2.1, s, mb.2.2.2.2.2.2.2.1, mb.2.2.2.2.2.2.2.2.1, mb.2.2.2.2.2.2.2.2.2), nI j) = some (nI R, nI C, 0, nI R * nI C - 1, 0, mb.2.2.2.2.2.1, s', mb.2.2.2.2.2.2.2.1, mb.2.2.2.2.2.2.2.2.1, mb.2.2.2.2.2.2.2.2.2) := by
    intro f
    induction f with
    | zero => intro j s _ h; omega
    | succ f ih =>
      intro j s hj hf hs
      show ∃ s' : AR, _ ∧ M_X9_lay_12b _ _ _ _ = _
      unfold M_X9_lay_12b
      dsimp only
      rcases Nat.lt_or_ge j 16 with q | q
      · rw [if_neg (show ¬ (16 : Int32) ≤ nI j from nI_ge (b := 16) q (by omega)), if_pos (nI_in q (by omega)), nI_clamp (by omega), ← nI_succ]
        refine ih (j + 1) _ (by omega) (by omega) ?_
        intro c hc
        by_cases t : c = j
        · subst t; exact upd_at ..
        · rw [upd_ne _ _ t]; exact hs c (by omega)
      · have e : j = 16 := by omega
        subst e
        rw [if_pos (show (16 : Int32) ≤ nI 16 by decide +kernel)]
        exact ⟨s, hs, rfl⟩
  exact st 200 0 _ (by omega) (by omega) (fun c h => absurd h (by omega))
theorem mk_no {P : Nat → Bool} {n : Nat} (h : ∀ i, i < n → P i = false) : mk P n = 0 := by
  apply (mk_eq (a := 0) (Nat.two_pow_pos _) _).symm
  intro i hi
  rw [Nat.zero_testBit, h i hi]
theorem hOf_46 (R C dr th er : Nat) : hOf R C (fun _ => 46) dr th er = (nI R, nI C, nI (2 ^ (R * C) - 1), nI (mk (fun c => c % C == 0) (R * C)), nI (mk (fun c => c % C == C - 1) (R * C)), 0, 0, 0, 0, nI dr, nI th, nI er) := by
  have z : ∀ q : Nat, q ≠ 46 → nI (mk (fun _ => (46 : Nat) == q) (R * C)) = 0 := by
    intro q hq
    rw [mk_no (fun i _ => beq_eq_false_iff_ne.mpr (fun e => hq e.symm))]; rfl
  unfold hOf
  rw [z 35 (by omega), z 103 (by omega), z 99 (by omega), z 100 (by omega)]
theorem op_house {h : HT} {v : VT} {mb : BT} (x1 x2 : Int32) (r : RH h v mb) : ∃ z h' v' mb', M_X8_house h v x1 x2 = some (z, h', v') ∧ M_X9_house mb x1 x2 = some (z, mb') ∧ RH h' v' mb' := by
  have r0 := r
  obtain ⟨R, C, sg, dr, th, er, k, wc, wl, wd, ho, ⟨hx1, hx2, hx3⟩, hr⟩ := r
  subst hx1
  have e1 : M_X9_in x1.toInt64 (1 : Int64) (4 : Int64) = some (if 1 ≤ x1 ∧ x1 ≤ 4 then 1 else 0) := m_in x1 1 4
  have e2 : M_X9_in x2.toInt64 (1 : Int64) (4 : Int64) = some (if 1 ≤ x2 ∧ x2 ≤ 4 then 1 else 0) := m_in x2 1 4
  unfold M_X8_house M_X9_house
  rw [m_within, e1, m_within, e2]
  simp only [bx]
  by_cases q : 1 ≤ x1 ∧ x1 ≤ 4
  · rw [if_pos q, if_neg k10, if_neg k10]
    by_cases q2 : 1 ≤ x2 ∧ x2 ≤ 4
    · rw [if_pos q2, if_neg k10, if_neg k10]
      obtain ⟨R', a1, a2, rfl⟩ := rng (a := 1) (b := 4) (by omega) (by omega) q.1 q.2
      obtain ⟨C', a3, a4, rfl⟩ := rng (a := 1) (b := 4) (by omega) (by omega) q2.1 q2.2
      have hd : okD R' C' := ⟨a1, a2, a3, a4⟩
      have hp := hd.pos
      have e4 : nI R' * nI C' = nI (R' * C') := (Int32.ofNat_mul R' C').symm
      obtain ⟨s, hs, hl⟩ := m_layM (R := R') (C := C') mb
      rw [m_layX _ _ hd, hl, bx, bx]
      unfold M_X0_cells M_X9_cells
      dsimp only
      rw [bx, bx]
      refine ⟨_, _, _, _, rfl, rfl, R', C', fun _ => 46, 0, R' * C' - 1, er, 0, wc, wl, wd, ⟨hd, fun c hc => Or.inl rfl, ⟨hp, (show (46 : Nat) ≠ 35 by decide)⟩, ⟨by omega, (show (46 : Nat) ≠ 35 by decide)⟩, ho.2.2.2.2.1, by omega, fun w hw => absurd hw (by omega)⟩, ⟨(hOf_46 R' C' 0 (R' * C' - 1) er).symm, rfl, fun w hw => absurd hw (by omega)⟩, rfl, rfl, rfl, ?_, rfl, hr.2.2.2.2.2.1, ?_, fun w hw => absurd hw (by omega)⟩
      · show nI R' * nI C' - 1 = nI (R' * C' - 1)
        rw [e4]
        exact n_sub (b := 1) hp
      · have h16 := hd.n16
        exact fun c hc => hs c (by omega)
    · rw [if_neg q2, if_pos k00, if_pos k00]
      exact ⟨_, _, _, _, rfl, rfl, r0⟩
  · rw [if_neg q, if_pos k00, if_pos k00]
    exact ⟨_, _, _, _, rfl, rfl, r0⟩
/-- the first place from i on, of d places, that is not good; -6 -/
def fwv (G : Nat → Bool) : Nat → Nat → Int32
  | 0, _ => -6
  | d + 1, i => if G i then fwv G d (i + 1) else nI i
theorem fwv_cong {G G' : Nat → Bool} : ∀ d i, (∀ j, i ≤ j → j < i + d → G j = G' j) → fwv G d i = fwv G' d i := by
  intro d
  induction d with
  | zero => intro i _; rfl
  | succ d ih =>
    intro i h
    show (if G i then fwv G d (i + 1) else nI i) = (if G' i then fwv G' d (i + 1) else nI i)
    rw [h i (by omega) (by omega), ih (i + 1) (fun j h1 h2 => h j (by omega) (by omega))]
theorem fwv_cs (G : Nat → Bool) : ∀ d i, (fwv G d i = -6 ∧ ∀ j, i ≤ j → j < i + d → G j = true) ∨ (∃ j, i ≤ j ∧ j < i + d ∧ fwv G d i = nI j ∧ G j = false) := by
  intro d
  induction d with
  | zero => intro i; exact Or.inl ⟨rfl, fun j h1 h2 => absurd h1 (by omega)⟩
  | succ d ih =>
    intro i
    by_cases g : G i = true
    · have e : fwv G (d + 1) i = fwv G d (i + 1) := if_pos g
      rw [e]
      rcases ih (i + 1) with ⟨a, b⟩ | ⟨j, a, b, c, e⟩
      · refine Or.inl ⟨a, fun j h1 h2 => ?_⟩
        by_cases t : j = i
        · subst t; exact g
        · exact b j (by omega) (by omega)
      · exact Or.inr ⟨j, by omega, by omega, c, e⟩
    · exact Or.inr ⟨i, by omega, by omega, if_neg g, by simpa using g⟩
def isS (m : Nat) : Bool := m == 46 || m == 103 || m == 99 || m == 100 || m == 35
def isW (m : Nat) : Bool := m == 110 || m == 101 || m == 115 || m == 119 || m == 45
theorem ixS' : ∀ m, m < 127 → (M_J0_indexOf_0f7a4 0 (nI m)).map (fun z => decide (0 ≤ z)) = some (isS m) := by decide +kernel
theorem ixW' : ∀ m, m < 127 → (M_J0_indexOf_0f7a4 1 (nI m)).map (fun z => decide (0 ≤ z)) = some (isW m) := by decide +kernel
theorem ix_of {o : Option Int32} {b : Bool} (h : o.map (fun z => decide (0 ≤ z)) = some b) : ∃ z, o = some z ∧ (0 ≤ z ↔ b = true) := by
  cases o with
  | none => exact absurd h (by simp)
  | some z =>
    refine ⟨z, rfl, ?_⟩
    simp at h
    rw [← h]; simp
theorem mS' : ∀ m, m < 127 → M_X9_isSort (nI m) = some (if isS m then 1 else 0) := by decide +kernel
theorem mW' : ∀ m, m < 127 → M_X9_isStep (nI m) = some (if isW m then 1 else 0) := by decide +kernel
theorem chr_n : ∀ m, m < 127 → vp_nar .char (nI m) = nI m := by decide +kernel
/-- what the pads hold -/
def PdX (n : Nat) (f : Nat → Nat) (p : PT) (mo : OT) : Prop := n ≤ 40 ∧ p.1 = nI n ∧ mo.1 = nI n ∧ ∀ i, i < n → 33 ≤ f i ∧ f i ≤ 126 ∧ p.2 i = nI (f i) ∧ mo.2 i = nI (f i)
theorem m_signAt {n i : Nat} {f : Nat → Nat} {p : PT} {mo : OT} (hp : PdX n f p mo) (hi : i < n) : M_X2_signAt p (nI i) = some (nI (f i)) := by
  obtain ⟨hn, h1, h2, hf⟩ := hp
  obtain ⟨f1, f2, f3, f4⟩ := hf i hi
  unfold M_X2_signAt
  rw [if_neg (nI_pos (by omega)), h1, if_neg (nI_ge hi (by omega)), if_neg (nI_ge (a := i) (b := 40) (by omega) (by omega)), if_pos (nI_in (by omega) (by omega)), nI_clamp (by omega), f3, if_pos (chr_n _ (by omega))]
theorem fwX {n N ks : Nat} {f : Nat → Nat} {p : PT} {mo : OT} {K : Nat → Bool} (hp : PdX n f p mo) (hks : ks < 2) (hN : N < 2 ^ 31) (hK : ∀ m, m < 127 → (M_J0_indexOf_0f7a4 ks (nI m)).map (fun z => decide (0 ≤ z)) = some (K m)) : M_X2_firstWrong p ks (nI N) = some (fwv (fun i => decide (i < N) && K (f i)) n 0) := by
  obtain ⟨hn, h1, h2, hf⟩ := id hp
  have st : ∀ fu d i, i + d = n → d < fu → M_X2_firstWrong_2 p ks (nI N) fu (nI i) = some (fwv (fun i => decide (i < N) && K (f i)) d i) := by
    intro fu
    induction fu with
    | zero => intro d i _ h; omega
    | succ fu ih =>
      intro d i hd hfu
      show M_X2_firstWrong_2b _ _ _ _ _ = _
      unfold M_X2_firstWrong_2b
      rw [h1]
      cases d with
      | zero =>
        have e : i = n := by omega
        rw [e, if_pos (nI_le (Nat.le_refl _) (by omega))]
        rfl
      | succ d =>
        have hi : i < n := by omega
        obtain ⟨f1, f2, f3, f4⟩ := hf i hi
        obtain ⟨z, hz, hzk⟩ := ix_of (hK (f i) (by omega))
        show _ = some (if (decide (i < N) && K (f i)) = true then fwv (fun i => decide (i < N) && K (f i)) d (i + 1) else nI i)
        rw [if_neg (nI_ge hi (by omega)), m_signAt hp hi, bx, if_pos hks, hz, bx]
        rcases Nat.lt_or_ge i N with y | y
        · rw [if_neg (nI_ge y hN)]
          by_cases g : K (f i) = true
          · rw [if_pos (hzk.mpr g), if_pos (by simp [y, g]), ← nI_succ]
            exact ih d (i + 1) (by omega) (by omega)
          · rw [if_neg (fun w => g (hzk.mp w)), if_neg (by simp [g])]
        · rw [if_pos (nI_le y (by omega)), if_neg (by simp; omega)]
  unfold M_X2_firstWrong
  exact st 200 n 0 (by omega) (by omega)
theorem fwM {n : Nat} {f : Nat → Nat} {p : PT} {mo : OT} {mb : BT} {N : Nat} (hp : PdX n f p mo) (hc : M_X9_cells mb = some (nI N)) (hN : N ≤ 16) : M_X9_fault_15 mb mo 0 200 0 = some (if fwv (fun i => decide (i < N) && isS (f i)) n 0 = -6 then (if nI N ≤ nI n then -6 else nI n) else fwv (fun i => decide (i < N) && isS (f i)) n 0) := by
  obtain ⟨hn, h1, h2, hf⟩ := id hp
  have st : ∀ fu d i, i + d = n → d < fu → M_X9_fault_15 mb mo 0 fu (nI i) = some (if fwv (fun i => decide (i < N) && isS (f i)) d i = -6 then (if nI N ≤ nI n then -6 else nI n) else fwv (fun i => decide (i < N) && isS (f i)) d i) := by
    intro fu
    induction fu with
    | zero => intro d i _ h; omega
    | succ fu ih =>
      intro d i hd hfu
      show M_X9_fault_15b _ _ _ _ _ = _
      unfold M_X9_fault_15b M_X9_fault_51 M_X9_fault_64
      rw [h2]
      cases d with
      | zero =>
        have e : i = n := by omega
        rw [e, if_pos (nI_le (Nat.le_refl _) (by omega)), if_pos k00, hc, bx, if_pos (show fwv _ 0 n = -6 from rfl)]
        by_cases y : nI N ≤ nI n
        · rw [if_pos y, if_pos y]
        · rw [if_neg y, if_neg y]
      | succ d =>
        have hi : i < n := by omega
        obtain ⟨f1, f2, f3, f4⟩ := hf i hi
        have ne : ¬ nI i = (-6 : Int32) := fun w => absurd (show nI i < 0 by rw [w]; decide +kernel) (nI_pos (by omega))
        have ex : fwv (fun i => decide (i < N) && isS (f i)) (d + 1) i = (if (decide (i < N) && isS (f i)) = true then fwv (fun i => decide (i < N) && isS (f i)) d (i + 1) else nI i) := rfl
        rw [if_neg (nI_ge hi (by omega)), if_pos k00, hc, bx, if_pos (nI_in (c := i) (N := 40) (by omega) (by omega)), nI_clamp (by omega), f4, mS' _ (by omega), bx, ex]
        dsimp only
        rw [if_pos k00, if_neg k10, ← nI_succ]
        rcases Nat.lt_or_ge i N with y | y
        · rw [if_neg (nI_ge y (by omega))]
          by_cases g : isS (f i) = true
          · rw [if_pos g, if_neg k10, if_pos (show (decide (i < N) && isS (f i)) = true by simp [y, g])]
            exact ih d (i + 1) (by omega) (by omega)
          · rw [if_neg g, if_pos k00, if_neg (show ¬ (decide (i < N) && isS (f i)) = true by simp [g]), if_neg ne]
        · rw [if_pos (nI_le y (by omega)), if_neg (show ¬ (decide (i < N) && isS (f i)) = true by simp; omega), if_neg ne]
  exact st 200 n 0 (by omega) (by omega)
theorem fwM1 {n : Nat} {f : Nat → Nat} {p : PT} {mo : OT} {mb : BT} (hp : PdX n f p mo) : M_X9_fault_15 mb mo 1 200 0 = some (fwv (fun i => isW (f i)) n 0) := by
  obtain ⟨hn, h1, h2, hf⟩ := id hp
  have st : ∀ fu d i, i + d = n → d < fu → M_X9_fault_15 mb mo 1 fu (nI i) = some (fwv (fun i => isW (f i)) d i) := by
    intro fu
    induction fu with
    | zero => intro d i _ h; omega
    | succ fu ih =>
      intro d i hd hfu
      show M_X9_fault_15b _ _ _ _ _ = _
      unfold M_X9_fault_15b M_X9_fault_64
      rw [h2]
      cases d with
      | zero =>
        have e : i = n := by omega
        rw [e, if_pos (nI_le (Nat.le_refl _) (by omega)), if_neg k10]
        rfl
      | succ d =>
        have hi : i < n := by omega
        obtain ⟨f1, f2, f3, f4⟩ := hf i hi
        have ex : fwv (fun i => isW (f i)) (d + 1) i = (if isW (f i) = true then fwv (fun i => isW (f i)) d (i + 1) else nI i) := rfl
        rw [if_neg (nI_ge hi (by omega)), if_neg k10, if_pos (nI_in (c := i) (N := 40) (by omega) (by omega)), nI_clamp (by omega), f4, mW' _ (by omega), bx, ex]
        dsimp only
        rw [← nI_succ]
        by_cases g : isW (f i) = true
        · rw [if_pos g, if_neg k10, if_pos g]
          exact ih d (i + 1) (by omega) (by omega)
        · rw [if_neg g, if_pos k00, if_neg g]
  exact st 200 n 0 (by omega) (by omega)
theorem m_houseFault {n N : Nat} {f : Nat → Nat} {p : PT} {mo : OT} (hp : PdX n f p mo) (hN : N ≤ 16) : M_X2_houseFault p (nI N) = some (if fwv (fun i => decide (i < N) && isS (f i)) n 0 = -6 then (if nI N ≤ nI n then -6 else nI n) else fwv (fun i => decide (i < N) && isS (f i)) n 0) := by
  unfold M_X2_houseFault
  rw [fwX hp (by omega) (by omega) ixS', bx, hp.2.1]
  by_cases q : fwv (fun i => decide (i < N) && isS (f i)) n 0 = -6
  · rw [if_pos q, if_pos q]
    by_cases y : nI N ≤ nI n
    · rw [if_pos y, if_pos y]
    · rw [if_neg y, if_neg y]
  · rw [if_neg q, if_neg q]
theorem m_walkFault {n : Nat} {f : Nat → Nat} {p : PT} {mo : OT} (hp : PdX n f p mo) : M_X2_walkFault p = some (fwv (fun i => isW (f i)) n 0) := by
  unfold M_X2_walkFault
  have e : M_X2_firstWrong p 1 (40 : Int32) = _ := fwX (N := 40) hp (by omega) (by omega) ixW'
  rw [e, bx]
  congr 1
  apply fwv_cong
  intro j h1 h2
  have := hp.1
  have : j < 40 := by omega
  simp [this]
theorem op_fault {p : PT} {mo : OT} {h : HT} {v : VT} {mb : BT} (x : Int32) (rp : RPd p mo) (r : RH h v mb) : ∃ z, M_X8_fault p h x = some z ∧ M_X9_fault mb mo x = some z := by
  obtain ⟨R, C, sg, dr, th, er, k, wc, wl, wd, ho, ⟨hx1, hx2, hx3⟩, hr⟩ := r
  obtain ⟨n, f, hp⟩ := rp
  have hp : PdX n f p mo := hp
  subst hx1
  have h16 := ho.1.n16
  have e2 : M_X9_in x.toInt64 (0 : Int64) (1 : Int64) = some (if 0 ≤ x ∧ x ≤ 1 then 1 else 0) := m_in x 0 1
  unfold M_X8_fault M_X9_fault
  rw [e2, bx]
  by_cases c0 : x = 0
  · subst c0
    rw [if_pos k00, if_pos (show (0 : Int32) ≤ 0 ∧ (0 : Int32) ≤ 1 by decide +kernel), if_neg k10, m_cellsX, bx, m_houseFault hp h16, bx, fwM hp (m_cellsM hr) h16]
    exact ⟨_, rfl, rfl⟩
  · rw [if_neg c0]
    by_cases c1 : x = 1
    · subst c1
      rw [if_pos rfl, if_pos (show (0 : Int32) ≤ 1 ∧ (1 : Int32) ≤ 1 by decide +kernel), if_neg k10, m_walkFault hp, bx, fwM1 hp]
      exact ⟨_, rfl, rfl⟩
    · have nz : ¬ (0 ≤ x ∧ x ≤ 1) := by
        intro z
        obtain ⟨m, m1, m2, rfl⟩ := rng (a := 0) (b := 1) (by omega) (by omega) z.1 z.2
        obtain rfl | rfl : m = 0 ∨ m = 1 := by omega
        · exact c0 rfl
        · exact c1 rfl
      rw [if_neg c1, if_neg nz, if_pos k00]
      exact ⟨_, rfl, rfl⟩
end
section
/-! build -/
/-- how many of the first are -/
def cn (P : Nat → Bool) : Nat → Nat
  | 0 => 0
  | j + 1 => cn P j + (if P j then 1 else 0)
/-- the first one, the last one -/
def fs (P : Nat → Bool) : Nat → Option Nat
  | 0 => none
  | j + 1 => match fs P j with
    | some x => some x
    | none => if P j then some j else none
def ls (P : Nat → Bool) : Nat → Option Nat
  | 0 => none
  | j + 1 => if P j then some j else ls P j
theorem cn_le (P : Nat → Bool) : ∀ n, cn P n ≤ n
  | 0 => Nat.le_refl 0
  | n + 1 => by
    have := cn_le P n
    show cn P n + (if P n then 1 else 0) ≤ n + 1
    split <;> omega
theorem cn_0 (P : Nat → Bool) : ∀ n, (cn P n = 0 ↔ ∀ i, i < n → P i = false) := by
  intro n
  induction n with
  | zero => exact ⟨fun _ i hi => absurd hi (by omega), fun _ => rfl⟩
  | succ n ih =>
    show cn P n + (if P n then 1 else 0) = 0 ↔ _
    constructor
    · intro h i hi
      by_cases t : i = n
      · subst t
        cases e : P i
        · rfl
        · rw [e, if_pos rfl] at h; omega
      · exact ih.mp (by omega) i (by omega)
    · intro h
      rw [ih.mpr (fun i hi => h i (by omega)), h n (by omega)]
      rfl
theorem fs_none {P : Nat → Bool} : ∀ n, (∀ i, i < n → P i = false) → fs P n = none := by
  intro n
  induction n with
  | zero => intro _; rfl
  | succ n ih =>
    intro h
    show (match fs P n with | some x => some x | none => if P n then some n else none) = none
    rw [ih (fun i hi => h i (by omega)), h n (by omega)]
    rfl
theorem fs_some {P : Nat → Bool} : ∀ n, (∃ i, i < n ∧ P i = true) → ∃ t, fs P n = some t ∧ t < n ∧ P t = true ∧ ∀ i, i < t → P i = false := by
  intro n
  induction n with
  | zero => intro ⟨i, hi, _⟩; omega
  | succ n ih =>
    intro ⟨i, hi, hp⟩
    by_cases h : ∃ i, i < n ∧ P i = true
    · obtain ⟨t, a, b, c, d⟩ := ih h
      refine ⟨t, ?_, by omega, c, d⟩
      show (match fs P n with | some x => some x | none => if P n then some n else none) = some t
      rw [a]
    · have hno : ∀ i, i < n → P i = false := fun j hj => by
        cases e : P j
        · rfl
        · exact absurd ⟨j, hj, e⟩ h
      have e : i = n := by
        rcases Nat.lt_or_ge i n with y | y
        · exact absurd ⟨i, y, hp⟩ h
        · omega
      subst e
      refine ⟨i, ?_, by omega, hp, hno⟩
      show (match fs P i with | some x => some x | none => if P i then some i else none) = some i
      rw [fs_none i hno, hp]
      rfl
theorem ls_some {P : Nat → Bool} : ∀ n, (∃ i, i < n ∧ P i = true) → ∃ t, ls P n = some t ∧ t < n ∧ P t = true := by
  intro n
  induction n with
  | zero => intro ⟨i, hi, _⟩; omega
  | succ n ih =>
    intro ⟨i, hi, hp⟩
    show ∃ t, (if P n then some n else ls P n) = some t ∧ _
    cases e : P n
    · obtain ⟨t, a, b, c⟩ := ih ⟨i, by
        rcases Nat.lt_or_ge i n with y | y
        · exact y
        · have : i = n := by omega
          subst this; rw [hp] at e; exact absurd e (by decide), hp⟩
      exact ⟨t, a, by omega, c⟩
    · exact ⟨n, rfl, by omega, e⟩
theorem low_bit {m t : Nat} (h32 : t < 32) (ht : m.testBit t = true) (hl : ∀ i, i < t → m.testBit i = false) : nI m &&& (-nI m) = nI (2 ^ t) := by
  apply Int32.toBitVec_inj.1
  show BitVec.ofNat 32 m &&& -(BitVec.ofNat 32 m) = BitVec.ofNat 32 (2 ^ t)
  apply BitVec.eq_of_getLsbD_eq
  intro i hi
  have g : ∀ j, j < 32 → (BitVec.ofNat 32 m).getLsbD j = m.testBit j := fun j hj => by rw [BitVec.getLsbD_ofNat]; simp [hj]
  rw [BitVec.getLsbD_and, BitVec.getLsbD_neg, g i hi, BitVec.getLsbD_ofNat, Nat.testBit_two_pow]
  rcases Nat.lt_trichotomy i t with y | y | y
  · rw [hl i y]
    have : ¬ t = i := by omega
    simp [this]
  · subst y
    have n : ¬ ∃ j, j < i ∧ (BitVec.ofNat 32 m).getLsbD j = true := by
      intro ⟨j, hj, e⟩
      rw [g j (by omega), hl j hj] at e
      exact absurd e (by decide)
    rw [ht, decide_eq_false n]
    simp [hi]
  · have n : ∃ j, j < i ∧ (BitVec.ofNat 32 m).getLsbD j = true := ⟨t, y, by rw [g t h32, ht]⟩
    have : ¬ t = i := by omega
    rw [decide_eq_true n]
    cases m.testBit i <;> simp [hi, this]
theorem pc_cn {m : Nat} {P : Nat → Bool} : ∀ n, (∀ i, i < n → m.testBit i = P i) → pc16 m n = cn P n := by
  intro n
  induction n with
  | zero => intro _; rfl
  | succ n ih =>
    intro h
    show pc16 m n + (if m.testBit n then 1 else 0) = cn P n + (if P n then 1 else 0)
    rw [ih (fun i hi => h i (by omega)), h n (by omega)]
theorem cn_more {P : Nat → Bool} : ∀ d n, (∀ i, n ≤ i → P i = false) → cn P (n + d) = cn P n := by
  intro d
  induction d with
  | zero => intro n _; rfl
  | succ d ih =>
    intro n h
    show cn P (n + d) + (if P (n + d) then 1 else 0) = cn P n
    rw [ih n h, h (n + d) (by omega)]
    rfl
theorem pc_lt {m n : Nat} {P : Nat → Bool} (hn : n ≤ 16) (hm : m < 2 ^ n) (h : ∀ i, i < n → m.testBit i = P i) : pc16 m 16 = cn P n := by
  have e : pc16 m 16 = cn (fun i => m.testBit i) 16 := pc_cn 16 (fun i _ => rfl)
  have e2 := cn_more (P := fun i => m.testBit i) (16 - n) n (fun i hi => Nat.testBit_lt_two_pow (Nat.lt_of_lt_of_le hm (Nat.pow_le_pow_right (by omega) hi)))
  rw [show n + (16 - n) = 16 by omega] at e2
  rw [e, e2, ← pc_cn n h]
  exact (pc_cn n (fun i _ => rfl)).symm
theorem n_or0 (a : Nat) : nI a ||| 0 = nI a := by rw [show (0 : Int32) = nI 0 from rfl, n_or, Nat.or_zero]
theorem m_fc65 {j m c d o : Nat} (x1 x2 x3 x4 x5 x6 x7 x8 e1 e2 e3 : Int32) (hj : j < 16) (hm : m < 127) : M_X0_furnishCell_65 (nI j) (nI m) ((x1, x2, x3, x4, x5, x6, x7, x8, nI d, e1, e2, e3), nI o, nI c) = some (x1, x2, x3, x4, x5, x6, x7, nI (c ||| o), nI (if m = 100 then d ||| 2 ^ j else d), e1, e2, e3) := by
  unfold M_X0_furnishCell_65 M_X0_furnishCell_88
  dsimp only
  by_cases c4 : m = 100
  · rw [if_pos (show nI m = 100 by rw [c4]; rfl), m_bit (by omega), bx, n_or, n_or, if_pos c4]
  · rw [if_neg (show ¬ nI m = 100 from w_ne (b := 100) (by omega) (by omega) c4), n_or, n_or0, if_neg c4]
theorem m_fc42 {j m b c d o : Nat} (x1 x2 x3 x4 x5 x6 x7 e1 e2 e3 : Int32) (hj : j < 16) (hm : m < 127) : M_X0_furnishCell_42 (nI j) (nI m) ((x1, x2, x3, x4, x5, x6, x7, nI c, nI d, e1, e2, e3), nI o, nI b) = some (x1, x2, x3, x4, x5, x6, nI (b ||| o), nI (if m = 99 then c ||| 2 ^ j else c), nI (if m = 100 then d ||| 2 ^ j else d), e1, e2, e3) := by
  unfold M_X0_furnishCell_42
  dsimp only
  by_cases c4 : m = 99
  · rw [if_pos (show nI m = 99 by rw [c4]; rfl), m_bit (by omega), bx, n_or, m_fc65 _ _ _ _ _ _ _ _ _ _ _ hj hm, if_pos c4]
  · rw [if_neg (show ¬ nI m = 99 from w_ne (b := 99) (by omega) (by omega) c4), n_or, show (0 : Int32) = nI 0 from rfl, m_fc65 _ _ _ _ _ _ _ _ _ _ _ hj hm, if_neg c4, Nat.or_zero]
theorem m_fc19 {j m a b c d o : Nat} (x1 x2 x3 x4 x5 x6 e1 e2 e3 : Int32) (hj : j < 16) (hm : m < 127) : M_X0_furnishCell_19 (nI j) (nI m) ((x1, x2, x3, x4, x5, x6, nI b, nI c, nI d, e1, e2, e3), nI o, nI a) = some (x1, x2, x3, x4, x5, nI (a ||| o), nI (if m = 103 then b ||| 2 ^ j else b), nI (if m = 99 then c ||| 2 ^ j else c), nI (if m = 100 then d ||| 2 ^ j else d), e1, e2, e3) := by
  unfold M_X0_furnishCell_19
  dsimp only
  by_cases c4 : m = 103
  · rw [if_pos (show nI m = 103 by rw [c4]; rfl), m_bit (by omega), bx, n_or, m_fc42 _ _ _ _ _ _ _ _ _ _ hj hm, if_pos c4]
  · rw [if_neg (show ¬ nI m = 103 from w_ne (b := 103) (by omega) (by omega) c4), n_or, show (0 : Int32) = nI 0 from rfl, m_fc42 _ _ _ _ _ _ _ _ _ _ hj hm, if_neg c4, Nat.or_zero]
theorem m_furnishCell {j m a b c d : Nat} (x1 x2 x3 x4 x5 e1 e2 e3 : Int32) (hj : j < 16) (hm : m < 127) : M_X0_furnishCell (x1, x2, x3, x4, x5, nI a, nI b, nI c, nI d, e1, e2, e3) (nI j) (nI m) = some (x1, x2, x3, x4, x5, nI (if m = 35 then a ||| 2 ^ j else a), nI (if m = 103 then b ||| 2 ^ j else b), nI (if m = 99 then c ||| 2 ^ j else c), nI (if m = 100 then d ||| 2 ^ j else d), e1, e2, e3) := by
  unfold M_X0_furnishCell
  dsimp only
  by_cases c4 : m = 35
  · rw [if_pos (show nI m = 35 by rw [c4]; rfl), m_bit (by omega), bx, m_fc19 _ _ _ _ _ _ _ _ _ hj hm, if_pos c4]
  · rw [if_neg (show ¬ nI m = 35 from w_ne (b := 35) (by omega) (by omega) c4), show (0 : Int32) = nI 0 from rfl, m_fc19 _ _ _ _ _ _ _ _ _ hj hm, if_neg c4, Nat.or_zero]
theorem mk_step (f : Nat → Nat) (q j : Nat) : (if f j = q then mk (fun c => f c == q) j ||| 2 ^ j else mk (fun c => f c == q) j) = mk (fun c => f c == q) (j + 1) := by
  show _ = (if (f j == q) = true then mk (fun c => f c == q) j ||| 2 ^ j else mk (fun c => f c == q) j)
  by_cases t : f j = q
  · rw [if_pos t, if_pos (beq_iff_eq.mpr t)]
  · rw [if_neg t, if_neg (fun w => t (beq_iff_eq.mp w))]
theorem oI_pos {P : Nat → Bool} {n : Nat} (hn : n < 2 ^ 31) : (0 ≤ oI (fs P n)) ↔ (fs P n ≠ none) := by
  cases e : fs P n with
  | none => exact ⟨fun h => absurd h (by decide +kernel), fun h => absurd rfl h⟩
  | some t =>
    have : t < n := by
      have h : ∃ i, i < n ∧ P i = true := by
        by_cases h : ∃ i, i < n ∧ P i = true
        · exact h
        · rw [fs_none n (fun i hi => by cases g : P i; rfl; exact absurd ⟨i, hi, g⟩ h)] at e
          exact absurd e (by simp)
      obtain ⟨t', a, b, _⟩ := fs_some n h
      rw [a] at e; injection e with e; omega
    exact ⟨fun _ => by simp, fun _ => nI_pos' (by omega)⟩
theorem m_build76 {n : Nat} {f : Nat → Nat} {p : PT} {mo : OT} (hp : PdX n f p mo) (hn : n ≤ 16) (mb : BT) (a b c : Int32) : ∃ s : AR, (∀ i, i < n → s i = nI (f i)) ∧ M_X9_build_76 200 (mb, mo, a, b, c, 0) = some (a, (mb.1, mb.2.1, b, c, 0, mb.2.2.2.2.2.1, s, mb.2.2.2.2.2.2.2.1, mb.2.2.2.2.2.2.2.2.1, mb.2.2.2.2.2.2.2.2.2), (0, mo.2)) := by
  obtain ⟨h40, h1, h2, hf⟩ := id hp
  have st : ∀ fu j (s : AR), j ≤ n → n - j < fu → (∀ i, i < j → s i = nI (f i)) → ∃ s' : AR, (∀ i, i < n → s' i = nI (f i)) ∧ M_X9_build_76 fu ((mb.1, mb.2.1, mb.2.2.1, mb.2.2.2.1, mb.2.2.2.2.1, mb.2.2.2.2.2.1, s, mb.2.2.2.2.2.2.2.1, mb.2.2.2.2.2.2.2.2.1, mb.2.2.2.2.2.2.2.2.2), mo, a, b, c, nI j) = some (a, (mb.1, mb.2.1, b, c, 0, mb.2.2.2.2.2.1, s', mb.2.2.2.2.2.2.2.1, mb.2.2.2.2.2.2.2.2.1, mb.2.2.2.2.2.2.2.2.2), (0, mo.2)) := by
    intro fu
    induction fu with
    | zero => intro j s _ h; omega
    | succ fu ih =>
      intro j s hj hfu hs
      show ∃ s' : AR, _ ∧ M_X9_build_76b _ _ = _
      unfold M_X9_build_76b
      dsimp only
      rw [h2]
      rcases Nat.lt_or_ge j n with q | q
      · rw [if_neg (nI_ge q (by omega)), if_pos (nI_in (c := j) (N := 40) (by omega) (by omega)), if_pos (nI_in (c := j) (N := 16) (by omega) (by omega)), nI_clamp (by omega), ← nI_succ]
        refine ih (j + 1) _ (by omega) (by omega) ?_
        intro i hi
        by_cases t : i = j
        · subst t; rw [upd_at]; exact (hf i q).2.2.2
        · rw [upd_ne _ _ t]; exact hs i (by omega)
      · have e : j = n := by omega
        subst e
        rw [if_pos (nI_le (Nat.le_refl _) (by omega))]
        exact ⟨s, hs, rfl⟩
  exact st 200 0 _ (by omega) (by omega) (fun i h => absurd h (by omega))
theorem m_build22 {n : Nat} {f : Nat → Nat} {p : PT} {mo : OT} (hp : PdX n f p mo) (mb : BT) (P : Nat → Bool) (hP : ∀ i, i < n → P i = !(f i == 35)) : M_X9_build_22 200 (mb, mo, 0, -6, -6, 0) = (if nI (cn P n) = 0 then some (-3, mb, mo) else M_X9_build_76 200 (mb, mo, nI (cn P n), oI (fs P n), oI (ls P n), 0)) := by
  obtain ⟨h40, h1, h2, hf⟩ := id hp
  have st : ∀ fu j, j ≤ n → n - j < fu → M_X9_build_22 fu (mb, mo, nI (cn P j), oI (fs P j), oI (ls P j), nI j) = (if nI (cn P n) = 0 then some (-3, mb, mo) else M_X9_build_76 200 (mb, mo, nI (cn P n), oI (fs P n), oI (ls P n), 0)) := by
    intro fu
    induction fu with
    | zero => intro j _ h; omega
    | succ fu ih =>
      intro j hj hfu
      show M_X9_build_22b _ _ = _
      unfold M_X9_build_22b M_X9_build_56 M_X9_build_60
      dsimp only
      rw [h2]
      rcases Nat.lt_or_ge j n with q | q
      · obtain ⟨f1, f2, f3, f4⟩ := hf j q
        rw [if_neg (nI_ge q (by omega)), if_pos (nI_in (c := j) (N := 40) (by omega) (by omega)), nI_clamp (by omega), f4]
        have key := ih (j + 1) (by omega) (by omega)
        have pj := hP j q
        by_cases t : f j = 35
        · rw [if_pos (show nI (f j) = 35 by rw [t]; rfl), ← nI_succ]
          have pf : P j = false := by rw [pj, t]; rfl
          have c1 : cn P (j + 1) = cn P j := by show cn P j + (if P j then 1 else 0) = _; rw [pf]; rfl
          have c2 : fs P (j + 1) = fs P j := by
            show (match fs P j with | some x => some x | none => if P j then some j else none) = _
            rw [pf]; cases fs P j <;> rfl
          have c3 : ls P (j + 1) = ls P j := by show (if P j then some j else ls P j) = _; rw [pf]; rfl
          rw [c1, c2, c3] at key
          exact key
        · have pt : P j = true := by rw [pj, beq_eq_false_iff_ne.mpr t]; rfl
          have c1 : cn P (j + 1) = cn P j + 1 := by show cn P j + (if P j then 1 else 0) = _; rw [pt]; rfl
          have c3 : ls P (j + 1) = some j := by show (if P j then some j else ls P j) = _; rw [pt]; rfl
          rw [if_neg (show ¬ nI (f j) = 35 from w_ne (b := 35) (by omega) (by omega) t), ← nI_succ, ← nI_succ]
          rw [c1, c3] at key
          by_cases y : fs P j = none
          · have c2 : fs P (j + 1) = some j := by
              show (match fs P j with | some x => some x | none => if P j then some j else none) = _
              rw [y, pt]; rfl
            rw [c2] at key
            rw [if_neg (fun w => (oI_pos (by omega)).mp w y)]
            exact key
          · have c2 : fs P (j + 1) = fs P j := by
              show (match fs P j with | some x => some x | none => if P j then some j else none) = _
              cases e : fs P j
              · exact absurd e y
              · rfl
            rw [c2] at key
            rw [if_pos ((oI_pos (by omega)).mpr y)]
            exact key
      · have e : j = n := by omega
        subst e
        rw [if_pos (nI_le (Nat.le_refl _) (by omega))]
  exact st 200 0 (by omega) (by omega)
theorem m_isAll {n : Nat} {f : Nat → Nat} {p : PT} {mo : OT} (hp : PdX n f p mo) (P : Nat → Bool) (hP : ∀ i, i < n → P i = !(f i == 35)) : M_X2_isAll p 35 = some (if cn P n = 0 then 1 else 0) := by
  obtain ⟨h40, h1, h2, hf⟩ := id hp
  have st : ∀ fu j, j ≤ n → n - j < fu → cn P j = 0 → M_X2_isAll_2 p 35 fu (nI j) = some (if cn P n = 0 then 1 else 0) := by
    intro fu
    induction fu with
    | zero => intro j _ h; omega
    | succ fu ih =>
      intro j hj hfu hc
      show M_X2_isAll_2b _ _ _ _ = _
      unfold M_X2_isAll_2b
      rw [h1]
      rcases Nat.lt_or_ge j n with q | q
      · obtain ⟨f1, f2, f3, f4⟩ := hf j q
        rw [if_neg (nI_ge q (by omega)), m_signAt hp q, bx]
        have pj := hP j q
        by_cases t : f j = 35
        · rw [if_pos (show nI (f j) = 35 by rw [t]; rfl), ← nI_succ]
          have pf : P j = false := by rw [pj, t]; rfl
          exact ih (j + 1) (by omega) (by omega) (by show cn P j + (if P j then 1 else 0) = _; rw [pf, hc]; rfl)
        · have pt : P j = true := by rw [pj, beq_eq_false_iff_ne.mpr t]; rfl
          rw [if_neg (show ¬ nI (f j) = 35 from w_ne (b := 35) (by omega) (by omega) t), if_neg]
          intro z
          have := (cn_0 P n).mp z j q
          rw [pt] at this
          exact absurd this (by decide)
      · have e : j = n := by omega
        subst e
        rw [if_pos (nI_le (Nat.le_refl _) (by omega)), if_pos hc]
  exact st 200 0 (by omega) (by omega) rfl
def oD (o : Option Nat) (d : Int32) : Int32 := match o with
  | some q => nI q
  | none => d
theorem m_furnish49 {R C : Nat} {f : Nat → Nat} {p : PT} (v : VT) (dr er : Nat) (t0 : Int32) (P : Nat → Bool) (h : okD R C) (hP : ∀ i, i < R * C → P i = !(f i == 35)) : M_X0_furnish_49 p 200 ((nI R, nI C, nI (2 ^ (R * C) - 1), nI (mk (fun c => c % C == 0) (R * C)), nI (mk (fun c => c % C == C - 1) (R * C)), nI (sgn R C f 35), nI (sgn R C f 103), nI (sgn R C f 99), nI (sgn R C f 100), nI dr, t0, nI er), v, 0) = some ((nI R, nI C, nI (2 ^ (R * C) - 1), nI (mk (fun c => c % C == 0) (R * C)), nI (mk (fun c => c % C == C - 1) (R * C)), nI (sgn R C f 35), nI (sgn R C f 103), nI (sgn R C f 99), nI (sgn R C f 100), nI dr, oD (ls P (R * C)) t0, nI er), v) := by
  have h16 := h.n16
  have e4 : nI R * nI C = nI (R * C) := (Int32.ofNat_mul R C).symm
  have st : ∀ fu j, j ≤ R * C → R * C - j < fu → M_X0_furnish_49 p fu ((nI R, nI C, nI (2 ^ (R * C) - 1), nI (mk (fun c => c % C == 0) (R * C)), nI (mk (fun c => c % C == C - 1) (R * C)), nI (sgn R C f 35), nI (sgn R C f 103), nI (sgn R C f 99), nI (sgn R C f 100), nI dr, oD (ls P j) t0, nI er), v, nI j) = some ((nI R, nI C, nI (2 ^ (R * C) - 1), nI (mk (fun c => c % C == 0) (R * C)), nI (mk (fun c => c % C == C - 1) (R * C)), nI (sgn R C f 35), nI (sgn R C f 103), nI (sgn R C f 99), nI (sgn R C f 100), nI dr, oD (ls P (R * C)) t0, nI er), v) := by
    intro fu
    induction fu with
    | zero => intro j _ h; omega
    | succ fu ih =>
      intro j hj hfu
      show M_X0_furnish_49b _ _ _ = _
      unfold M_X0_furnish_49b M_X0_furnish_73 M_X0_cells
      dsimp only
      rw [bx, e4]
      rcases Nat.lt_or_ge j (R * C) with q | q
      · rw [if_neg (nI_ge q (by omega)), m_hasS 35 h q, bx]
        have key := ih (j + 1) (by omega) (by omega)
        have pj := hP j q
        by_cases t : f j = 35
        · have pf : P j = false := by rw [pj, t]; rfl
          have c3 : ls P (j + 1) = ls P j := by show (if P j then some j else ls P j) = _; rw [pf]; rfl
          rw [c3] at key
          rw [if_pos t, if_neg k10, ← nI_succ]
          exact key
        · have pt : P j = true := by rw [pj, beq_eq_false_iff_ne.mpr t]; rfl
          have c3 : ls P (j + 1) = some j := by show (if P j then some j else ls P j) = _; rw [pt]; rfl
          rw [c3] at key
          rw [if_neg t, if_pos k00, ← nI_succ]
          exact key
      · have e : j = R * C := by omega
        rw [e, if_pos (nI_le (Nat.le_refl _) (by omega))]
  exact st 200 0 (by omega) (by omega)
theorem m_furnish {R C : Nat} {sg f : Nat → Nat} {p : PT} {mo : OT} (v : VT) (dr th er : Nat) (P : Nat → Bool) (h : okD R C) (hp : PdX (R * C) f p mo) (hP : ∀ i, i < R * C → P i = !(f i == 35)) (hs : ∃ i, i < R * C ∧ P i = true) : ∃ d t, fs P (R * C) = some d ∧ ls P (R * C) = some t ∧ M_X0_furnish (hOf R C sg dr th er) v p = some (hOf R C f d t er, (0, v.2.1, v.2.2.1, v.2.2.2)) := by
  have h16 := h.n16
  obtain ⟨h40, h1, h2, hf⟩ := id hp
  have e4 : nI R * nI C = nI (R * C) := (Int32.ofNat_mul R C).symm
  obtain ⟨d, d1, d2, d3, d4⟩ := fs_some (R * C) hs
  obtain ⟨t, t1, t2, t3⟩ := ls_some (R * C) hs
  refine ⟨d, t, d1, t1, ?_⟩
  have st : ∀ fu j, j ≤ R * C → R * C - j < fu → M_X0_furnish_6 p fu ((nI R, nI C, nI (2 ^ (R * C) - 1), nI (mk (fun c => c % C == 0) (R * C)), nI (mk (fun c => c % C == C - 1) (R * C)), nI (mk (fun c => f c == 35) j), nI (mk (fun c => f c == 103) j), nI (mk (fun c => f c == 99) j), nI (mk (fun c => f c == 100) j), nI dr, nI th, nI er), (0, v.2.1, v.2.2.1, v.2.2.2), nI j) = some (hOf R C f d t er, (0, v.2.1, v.2.2.1, v.2.2.2)) := by
    intro fu
    induction fu with
    | zero => intro j _ h; omega
    | succ fu ih =>
      intro j hj hfu
      show M_X0_furnish_6b _ _ _ = _
      unfold M_X0_furnish_6b M_X0_cells M_X0_open
      dsimp only
      rw [bx, e4]
      rcases Nat.lt_or_ge j (R * C) with q | q
      · obtain ⟨f1, f2, f3, f4⟩ := hf j q
        rw [if_neg (nI_ge q (by omega)), m_signAt hp q, bx, m_furnishCell _ _ _ _ _ _ _ _ (by omega) (by omega), bx, mk_step, mk_step, mk_step, mk_step, ← nI_succ]
        exact ih (j + 1) (by omega) (by omega)
      · have e : j = R * C := by omega
        have bt : ∀ i, i < R * C → (andn (2 ^ (R * C) - 1) (sgn R C f 35)).testBit i = P i := by
          intro i hi
          rw [andn_bit, Nat.testBit_two_pow_sub_one, sgn_bit 35 hi, hP i hi]
          simp [hi]
        have lb := low_bit (t := d) (by omega) ((bt d d2).trans d3) (fun i hi => (bt i (by omega)).trans (d4 i hi))
        rw [e, if_pos (nI_le (Nat.le_refl _) (by omega)), bx, bx]
        show (M_X8_cellOf ((nI (2 ^ (R * C) - 1) &&& (nI (sgn R C f 35) ^^^ -1)) &&& -(nI (2 ^ (R * C) - 1) &&& (nI (sgn R C f 35) ^^^ -1)))).bind _ = _
        rw [n_andn, lb, m_cellOf d (by omega), bx]
        have k := m_furnish49 (p := p) (0, v.2.1, v.2.2.1, v.2.2.2) d er (nI th) P h hP
        rw [t1] at k
        exact k
  unfold M_X0_furnish M_X0_clearCells M_X4_clear
  rw [bx, bx]
  exact st 200 0 (by omega) (by omega)
theorem op_build {p : PT} {mo : OT} {h : HT} {v : VT} {mb : BT} (rp : RPd p mo) (r : RH h v mb) : ∃ z p' h' v' mb' mo', M_X8_build p h v = some (z, p', h', v') ∧ M_X9_build mb mo = some (z, mb', mo') ∧ RPd p' mo' ∧ RH h' v' mb' := by
  have r0 := r
  have rp0 := rp
  obtain ⟨R, C, sg, dr, th, er, k, wc, wl, wd, ho, ⟨hx1, hx2, hx3⟩, hr⟩ := r
  obtain ⟨n, f, hp⟩ := rp
  have hp : PdX n f p mo := hp
  have hn := hp.1
  subst hx1
  have h16 := ho.1.n16
  unfold M_X8_build M_X9_build M_X9_fault
  rw [m_cellsX, bx, m_houseFault hp h16, bx]
  rw [show M_X9_in (0 : Int32).toInt64 (0 : Int64) (1 : Int64) = some 1 by decide +kernel, bx, if_neg k10, fwM hp (m_cellsM hr) h16, bx]
  have bad : ∀ j : Nat, j < 2 ^ 31 → ∃ z p' h' v' mb' mo', (if nI j = -6 then ((M_X2_isAll p (35 : Int32)).bind fun z28 => if z28 = 0 then ((M_X0_furnish (hOf R C sg dr th er) v p).bind fun z45 => (M_X2_clear p).bind fun z52 => (M_X0_open z45.1).bind fun z60 => (M_J6_bitCount_0f7a4 z60).bind fun z63 => some (z63, z52.2, z45.1, z45.2)) else (some ((-3 : Int32), p, hOf R C sg dr th er, v))) else some (-5, p, hOf R C sg dr th er, v)) = some (z, p', h', v') ∧ (if nI j < 0 then M_X9_build_22 200 (mb, mo, 0, -6, -6, 0) else some (-5, mb, mo)) = some (z, mb', mo') ∧ RPd p' mo' ∧ RH h' v' mb' := by
    intro j hj
    have ne : ¬ nI j = (-6 : Int32) := fun w => absurd (show nI j < 0 by rw [w]; decide +kernel) (nI_pos hj)
    rw [if_neg ne, if_neg (nI_pos hj)]
    exact ⟨_, _, _, _, _, _, rfl, rfl, rp0, r0⟩
  rcases fwv_cs (fun i => decide (i < R * C) && isS (f i)) n 0 with ⟨a, b⟩ | ⟨j, j1, j2, j3, j4⟩
  · rw [a, if_pos rfl]
    by_cases y : R * C ≤ n
    · have en : n = R * C := by
        rcases Nat.lt_or_ge (R * C) n with q | q
        · have := b (R * C) (by omega) (by omega)
          simp at this
        · omega
      subst en
      have hsg : ∀ i, i < R * C → OKs (f i) := by
        intro i hi
        have := b i (by omega) (by omega)
        unfold isS at this
        unfold OKs
        simp [hi] at this
        omega
      rw [if_pos (nI_le (Nat.le_refl _) (by omega)), if_pos rfl, if_pos (show (-6 : Int32) < 0 by decide +kernel), m_isAll hp (fun i => !(f i == 35)) (fun i _ => rfl), bx, m_build22 hp mb (fun i => !(f i == 35)) (fun i _ => rfl)]
      have cl := cn_le (fun i => !(f i == 35)) (R * C)
      by_cases c0 : cn (fun i => !(f i == 35)) (R * C) = 0
      · rw [c0, if_pos rfl, if_neg k10, if_pos (show nI 0 = 0 from rfl)]
        exact ⟨_, _, _, _, _, _, rfl, rfl, rp0, r0⟩
      · have hs : ∃ i, i < R * C ∧ (!(f i == 35)) = true := by
          by_cases hs : ∃ i, i < R * C ∧ (!(f i == 35)) = true
          · exact hs
          · exact absurd ((cn_0 _ _).mpr (fun i hi => by cases g : (!(f i == 35)); rfl; exact absurd ⟨i, hi, g⟩ hs)) c0
        obtain ⟨d, t, e1, e2, e3⟩ := m_furnish (sg := sg) v dr th er (fun i => !(f i == 35)) ho.1 hp (fun i _ => rfl) hs
        obtain ⟨d', d1, d2, d3, d4⟩ := fs_some (P := fun i => !(f i == 35)) (R * C) hs
        obtain ⟨t', t1, t2, t3⟩ := ls_some (P := fun i => !(f i == 35)) (R * C) hs
        have ed : d' = d := by rw [e1] at d1; injection d1 with d1; exact d1.symm
        have et : t' = t := by rw [e2] at t1; injection t1 with t1; exact t1.symm
        subst ed et
        obtain ⟨s, s1, s2⟩ := m_build76 hp h16 mb (nI (cn (fun i => !(f i == 35)) (R * C))) (oI (some d')) (oI (some t'))
        have ob : andn (2 ^ (R * C) - 1) (sgn R C f 35) < 2 ^ (R * C) := andn_lt (Nat.sub_lt (Nat.two_pow_pos _) (by omega))
        have bt : ∀ i, i < R * C → (andn (2 ^ (R * C) - 1) (sgn R C f 35)).testBit i = !(f i == 35) := by
          intro i hi
          rw [andn_bit, Nat.testBit_two_pow_sub_one, sgn_bit 35 hi]
          simp [hi]
        rw [if_neg c0, if_pos k00, e3, bx, if_neg (show ¬ nI (cn (fun i => !(f i == 35)) (R * C)) = 0 from w_ne (b := 0) (by omega) (by omega) c0), e1, e2, s2]
        unfold M_X2_clear
        rw [bx]
        dsimp only
        rw [m_open, bx, m_bitCount (lt16 ho.1 ob), bx, pc_lt h16 ob bt]
        refine ⟨_, _, _, _, _, _, rfl, rfl, ⟨0, f, by omega, rfl, rfl, fun i hi => absurd hi (by omega)⟩, R, C, f, d', t', er, 0, wc, wl, wd, ⟨ho.1, hsg, ⟨d2, by simpa using d3⟩, ⟨t2, by simpa using t3⟩, ho.2.2.2.2.1, by omega, fun w hw => absurd hw (by omega)⟩, ⟨rfl, rfl, fun w hw => absurd hw (by omega)⟩, hr.1, hr.2.1, rfl, rfl, rfl, hr.2.2.2.2.2.1, s1, fun w hw => absurd hw (by omega)⟩
    · rw [if_neg (nI_ge (by omega) (by omega))]
      exact bad n (by omega)
  · have nj : ¬ nI j = (-6 : Int32) := fun w => absurd (show nI j < 0 by rw [w]; decide +kernel) (nI_pos (by omega))
    rw [j3]
    rw [if_neg (c := nI j = -6) (t := if nI (R * C) ≤ nI n then (-6 : Int32) else nI n) (e := nI j) nj]
    exact bad j (by omega)
end
section
/-! The wearer: both sides -/
def opn (R C : Nat) (sg : Nat → Nat) : Nat := andn (2 ^ (R * C) - 1) (sgn R C sg 35)
theorem opn_lt (R C : Nat) (sg : Nat → Nat) : opn R C sg < 2 ^ (R * C) := andn_lt (Nat.sub_lt (Nat.two_pow_pos _) (by omega))
theorem opn_bit {R C i : Nat} (sg : Nat → Nat) (hi : i < R * C) : (opn R C sg).testBit i = !(sg i == 35) := by
  unfold opn
  rw [andn_bit, Nat.testBit_two_pow_sub_one, sgn_bit 35 hi]
  simp [hi]
theorem and_opn {R C m : Nat} (sg : Nat → Nat) (hm : m < 2 ^ (R * C)) : m &&& opn R C sg = andn m (sgn R C sg 35) := by
  apply bits_eq (n := R * C) (and_lt hm) (andn_lt hm)
  intro i hi
  rw [Nat.testBit_and, opn_bit sg hi, andn_bit, sgn_bit 35 hi]
theorem m_stepTo {R C c w : Nat} (sg : Nat → Nat) (dr th er : Nat) (h : okD R C) (hc : c < R * C) (hw : w < 5) : M_X0_stepTo (hOf R C sg dr th er) (nI (2 ^ c)) (nI w) = some (nI (oM (stp R C sg c w))) := by
  unfold M_X0_stepTo
  rw [m_moved sg dr th er h (p_lt hc) hw, bx, m_open, bx, n_and]
  show some (nI (mv R C (2 ^ c) w &&& opn R C sg)) = _
  rw [and_opn sg (mv_lt ..), mv_stp h hc hw]
theorem oM_0 {R C c w : Nat} {sg : Nat → Nat} (h : okD R C) (hc : c < R * C) (hw : w < 5) : (nI (oM (stp R C sg c w)) = 0) ↔ stp R C sg c w = none := by
  have h16 := h.n16
  cases e : stp R C sg c w with
  | none => exact ⟨fun _ => rfl, fun _ => rfl⟩
  | some q =>
    have hq := (stp_lt h hc hw e).1
    constructor
    · intro z
      have p : 2 ^ q ≤ 2 ^ 15 := Nat.pow_le_pow_right (by omega) (by omega)
      have p1 := Nat.two_pow_pos q
      exact absurd z (nI_ne0 (n := 2 ^ q) p1 (by omega))
    · intro z; exact absurd z (by simp)
theorem m_stepOrStay {R C c w : Nat} (sg : Nat → Nat) (dr th er : Nat) (h : okD R C) (hc : c < R * C) (hw : w < 5) : M_X0_stepOrStay (hOf R C sg dr th er) (nI (2 ^ c)) (nI w) = some (nI (2 ^ ((stp R C sg c w).getD c))) := by
  unfold M_X0_stepOrStay
  rw [m_stepTo sg dr th er h hc hw, bx]
  cases e : stp R C sg c w with
  | none => rw [if_pos (show nI (oM none) = 0 from rfl)]; rfl
  | some q =>
    rw [if_neg (fun z => absurd ((oM_0 (sg := sg) h hc hw).mp (by rw [e]; exact z)) (by rw [e]; simp))]
    rfl
/-- what the wearer's rows hold -/
def WS (R C : Nat) (sg : Nat → Nat) (er k : Nat) (wc wl wd : Nat → Nat) (sa ha ma : AR) (n : Nat) : Prop := ∀ w, w < n → sa w = nI (sgt R C sg (wl w) (wc w)) ∧ ha w = nI (arnd R C (2 ^ wc w) er) ∧ ma w = nI (if wd w = 1 then arnd R C (2 ^ wc w) 1 else 0)
/-- the wearer on both sides -/
def WR (R C : Nat) (sg : Nat → Nat) (er k : Nat) (wc wl wd : Nat → Nat) (now b : Nat) (s : Bool) (r : RT) (mn : NT) : Prop := now < R * C ∧ sg now ≠ 35 ∧ b < 2 ^ (R * C) ∧ r.1 = nI (2 ^ now) ∧ r.2.1 = nI b ∧ r.2.2.1 = bI s ∧ WS R C sg er k wc wl wd r.2.2.2.1 r.2.2.2.2.1 r.2.2.2.2.2 k ∧ mn = (nI now, bI s, nI (b &&& sgn R C sg 100), nI b)
theorem WS_put {R C : Nat} {sg : Nat → Nat} {er k : Nat} {wc wl wd : Nat → Nat} {sa ha ma : AR} {n : Nat} (h : WS R C sg er k wc wl wd sa ha ma n) : WS R C sg er k wc wl wd (upd sa n (nI (sgt R C sg (wl n) (wc n)))) (upd ha n (nI (arnd R C (2 ^ wc n) er))) (upd ma n (nI (if wd n = 1 then arnd R C (2 ^ wc n) 1 else 0))) (n + 1) := by
  intro w hw
  by_cases t : w = n
  · subst t; exact ⟨upd_at .., upd_at .., upd_at ..⟩
  · rw [upd_ne _ _ t, upd_ne _ _ t, upd_ne _ _ t]; exact h w (by omega)
theorem m_begin26 {R C : Nat} {sg : Nat → Nat} {dr th er k : Nat} {wc wl wd : Nat → Nat} {v : VT} (ho : okS R C sg dr th er k wc wl wd) (hx2 : v.1 = nI k) (hx3 : ∀ w, w < k → v.2.1 w = nI (wc w) ∧ v.2.2.1 w = nI (wl w) ∧ v.2.2.2 w = nI (wd w)) (a b c : Int32) : ∀ fu j (sa ha ma : AR), j ≤ k → k - j < fu → WS R C sg er k wc wl wd sa ha ma j → ∃ sa' ha' ma', WS R C sg er k wc wl wd sa' ha' ma' k ∧ M_X6_begin_26 (hOf R C sg dr th er) v fu ((a, b, c, sa, ha, ma), nI j) = some (a, b, c, sa', ha', ma') := by
  have hk := ho.2.2.2.2.2.1
  have her := ho.2.2.2.2.1
  intro fu
  induction fu with
  | zero => intro j sa ha ma _ h; omega
  | succ fu ih =>
    intro j sa ha ma hj hfu hs
    show ∃ sa' ha' ma', _ ∧ M_X6_begin_26b _ _ _ _ = _
    unfold M_X6_begin_26b M_X6_begin_102 M_X4_cellOfOne M_X4_hasDog
    dsimp only
    rw [hx2]
    rcases Nat.lt_or_ge j k with q | q
    · obtain ⟨w1, w2, w3, w4⟩ := ho.2.2.2.2.2.2 j q
      obtain ⟨q1, q2, q3⟩ := hx3 j q
      have e_er : (hOf R C sg dr th er).2.2.2.2.2.2.2.2.2.2.2 = nI er := rfl
      rw [if_neg (nI_ge q (by omega)), m_at _ (by omega) (by omega), m_at _ (by omega) (by omega), bx, bx, m_seenByX ho hx3 q, bx, m_put _ _ (by omega) (by omega), bx, q1, q3, e_er, m_around sg dr th er ho.1 w1 (by omega), bx, m_put _ _ (by omega) (by omega), bx, bx]
      have key := ih (j + 1) _ _ _ (by omega) (by omega) (WS_put hs)
      have e1 : M_X0_around (hOf R C sg dr th er) (nI (wc j)) (1 : Int32) = _ := m_around (n := 1) sg dr th er ho.1 w1 (by omega)
      obtain z | z : wd j = 0 ∨ wd j = 1 := by omega
      · rw [z] at key ⊢
        rw [if_neg (show ¬ nI 0 = 1 by decide +kernel), bx, if_pos k00, m_put _ _ (by omega) (by omega), bx, ← nI_succ]
        rw [if_neg (show ¬ (0 : Nat) = 1 by decide)] at key
        exact key
      · rw [z] at key ⊢
        rw [if_pos (show nI 1 = 1 from rfl), bx, if_neg k10, e1, bx, m_put _ _ (by omega) (by omega), bx, ← nI_succ]
        rw [if_pos rfl] at key
        exact key
    · have e : j = k := by omega
      subst e
      rw [if_pos (nI_le (Nat.le_refl _) (by omega))]
      exact ⟨_, _, _, hs, rfl⟩
theorem one_and {c m : Nat} : 2 ^ c &&& m = if m.testBit c then 2 ^ c else 0 := by
  apply Nat.eq_of_testBit_eq
  intro i
  rw [Nat.testBit_and, Nat.testBit_two_pow]
  by_cases t : c = i
  · subst t
    cases e : m.testBit c
    · simp
    · simp
  · cases e : m.testBit c
    · simp [t]
    · simp [t]
theorem m_arrive {R C c d b : Nat} {sg : Nat → Nat} {dr th er k : Nat} {wc wl wd : Nat → Nat} {mb : BT} (x s : Int32) (ho : okS R C sg dr th er k wc wl wd) (hr : rM R C sg dr th er k wc wl wd mb) (hc : c < R * C) : M_X9_arrive mb (x, s, nI (b &&& sgn R C sg 100), nI b) (nI c) = some (nI c, s, nI ((b ||| 2 ^ c) &&& sgn R C sg 100), nI (b ||| 2 ^ c)) := by
  have h16 := ho.1.n16
  have hs : sg c < 2 ^ 31 := by rcases ho.2.1 c hc with z | z | z | z | z <;> omega
  have e : (b ||| 2 ^ c) &&& sgn R C sg 100 = (b &&& sgn R C sg 100) ||| (2 ^ c &&& sgn R C sg 100) := by
    apply Nat.eq_of_testBit_eq
    intro i
    simp only [Nat.testBit_and, Nat.testBit_or]
    cases b.testBit i <;> cases (2 ^ c).testBit i <;> simp
  unfold M_X9_arrive M_X9_arrive_40
  dsimp only
  rw [if_pos (nI_in (by omega) (by omega)), nI_clamp (by omega), hr.2.2.2.2.2.2.1 c hc, n_pow (by omega), n_or, n_or, e, one_and, sgn_bit 100 hc]
  by_cases z : sg c = 100
  · rw [if_pos (show nI (sg c) = 100 by rw [z]; rfl), z]; rfl
  · rw [if_neg (show ¬ nI (sg c) = 100 from w_ne (b := 100) hs (by omega) z), beq_eq_false_iff_ne.mpr z, n_or0]
    show _ = some (nI c, s, nI ((b &&& sgn R C sg 100) ||| 0), nI (b ||| 2 ^ c))
    rw [Nat.or_zero]
theorem m_begin {R C : Nat} {sg : Nat → Nat} {dr th er k : Nat} {wc wl wd : Nat → Nat} {v : VT} {mb : BT} (r : RT) (mn : NT) (ho : okS R C sg dr th er k wc wl wd) (hx2 : v.1 = nI k) (hx3 : ∀ w, w < k → v.2.1 w = nI (wc w) ∧ v.2.2.1 w = nI (wl w) ∧ v.2.2.2 w = nI (wd w)) (hr : rM R C sg dr th er k wc wl wd mb) : ∃ r' mn', M_X6_begin r (hOf R C sg dr th er) v = some r' ∧ M_X9_begin mb mn = some mn' ∧ WR R C sg er k wc wl wd dr (2 ^ dr) false r' mn' := by
  have h16 := ho.1.n16
  have hd := ho.2.2.1
  have h4 := ho.2.2.2.2.2.1
  obtain ⟨sa, ha, ma, hs, hb⟩ := m_begin26 (dr := dr) (th := th) ho hx2 hx3 (nI (2 ^ dr)) (nI (2 ^ dr)) 0 200 0 r.2.2.2.1 r.2.2.2.2.1 r.2.2.2.2.2 (by omega) (by omega) (fun w hw => absurd hw (by omega))
  unfold M_X6_begin M_X9_begin
  have e1 : M_X8_bit (hOf R C sg dr th er).2.2.2.2.2.2.2.2.2.1 = some (nI (2 ^ dr)) := m_bit (by omega)
  have a := m_arrive (b := 0) (d := 0) mn.1 0 ho hr hd.1
  rw [Nat.zero_or, show nI (0 &&& sgn R C sg 100) = 0 by rw [Nat.zero_and]; rfl] at a
  rw [e1, bx, if_pos (show vp_nar .boolean (0 : Int32) = 0 by decide +kernel), if_pos (show vp_nar .boolean (0 : Int32) = 0 by decide +kernel), hr.2.2.1]
  refine ⟨_, _, hb, by rw [show M_X9_arrive mb (mn.1, 0, 0, 0) (nI dr) = _ from a]; rfl, hd.1, hd.2, p_lt hd.1, rfl, rfl, rfl, hs, rfl⟩
theorem m_take {R C w now b : Nat} {s : Bool} {sg : Nat → Nat} {dr th er k : Nat} {wc wl wd : Nat → Nat} {mb : BT} {r : RT} {mn : NT} (ho : okS R C sg dr th er k wc wl wd) (hr : rM R C sg dr th er k wc wl wd mb) (hw : WR R C sg er k wc wl wd now b s r mn) (h5 : w < 5) : (stp R C sg now w = none ∧ ∃ r' mn', M_X6_take r (hOf R C sg dr th er) (nI w) = some (0, r') ∧ M_X9_step mb mn (nI w) = some (0, mn') ∧ WR R C sg er k wc wl wd now b false r' mn') ∨ (∃ q r' mn', stp R C sg now w = some q ∧ M_X6_take r (hOf R C sg dr th er) (nI w) = some (1, r') ∧ M_X9_step mb mn (nI w) = some (1, mn') ∧ WR R C sg er k wc wl wd q (b ||| 2 ^ q) (decide (w < 4)) r' mn') := by
  have h16 := ho.1.n16
  obtain ⟨a1, a2, a3, a4, a5, a6, a7, a8⟩ := hw
  subst a8
  unfold M_X6_take M_X6_take_24 M_X6_take_25 M_X9_step M_X9_step_21 M_X9_step_36 M_X9_step_37 M_X9_step_49
  dsimp only
  rw [a4, m_stepTo sg dr th er ho.1 a1 h5, bx, a5]
  have b0 : vp_nar .boolean (0 : Int32) = 0 := by decide +kernel
  have b1 : vp_nar .boolean (1 : Int32) = 1 := by decide +kernel
  cases e : stp R C sg now w with
  | none =>
    left
    refine ⟨rfl, ?_⟩
    have w4 : w ≠ 4 := by
      intro z; subst z
      unfold stp at e
      rw [show nb R C now 4 = some now from rfl] at e
      dsimp only at e
      rw [if_neg a2] at e
      exact absurd e (by simp)
    rw [if_pos (show nI (oM none) = 0 from rfl), if_pos b0, if_pos (show nI (oM none) = 0 from rfl), if_neg (show ¬ nI w = 4 from w_ne (b := 4) (by omega) (by omega) w4), m_beyond ho hr a1 h5, e, bx, if_neg (show ¬ (4 : Int32) ≤ nI w from nI_ge (b := 4) (by omega) (by omega)), if_pos (show oI none < 0 by decide +kernel), if_pos b0, if_pos (show oI none < 0 by decide +kernel), if_pos (show oI none < 0 by decide +kernel)]
    exact ⟨_, _, rfl, rfl, a1, a2, a3, rfl, rfl, rfl, a7, rfl⟩
  | some q =>
    right
    have hq := stp_lt ho.1 a1 h5 e
    have ar := m_arrive (b := b) (d := 0) (nI now) (bI (decide (w < 4))) ho hr hq.1
    have nq : ¬ nI (oM (some q)) = 0 := by
      have p : 2 ^ q ≤ 2 ^ 15 := Nat.pow_le_pow_right (by omega) (by omega)
      exact nI_ne0 (n := 2 ^ q) (Nat.two_pow_pos q) (by omega)
    have nq2 : ¬ nI (2 ^ q) = 0 := nq
    have bb : b ||| 2 ^ q < 2 ^ (R * C) := or_lt a3 (p_lt hq.1)
    rw [if_neg nq, show oM (some q) = 2 ^ q from rfl, n_or]
    by_cases w4 : w = 4
    · subst w4
      have eq : q = now := by
        unfold stp at e
        rw [show nb R C now 4 = some now from rfl] at e
        dsimp only at e
        rw [if_neg a2] at e
        injection e with e; exact e.symm
      subst eq
      rw [if_pos (show nI 4 = 4 from rfl), if_pos b0, if_neg nq2, if_pos (show nI 4 = 4 from rfl), if_pos (show (4 : Int32) ≤ nI 4 by decide +kernel), if_pos b0, if_neg (nI_pos (by omega)), show M_X9_arrive mb (nI q, 0, nI (b &&& sgn R C sg 100), nI b) (nI q) = _ from ar, bx, if_neg (nI_pos (by omega))]
      exact ⟨q, _, _, rfl, rfl, rfl, a1, a2, bb, rfl, rfl, rfl, a7, rfl⟩
    · have n4 : ¬ nI w = 4 := w_ne (b := 4) (by omega) (by omega) w4
      have d4 : decide (w < 4) = true := decide_eq_true (by omega)
      rw [d4] at ar ⊢
      rw [if_neg n4, if_pos b1, if_neg nq2, if_neg n4, m_beyond ho hr a1 h5, e, bx, if_neg (show ¬ (4 : Int32) ≤ nI w from nI_ge (b := 4) (by omega) (by omega)), show oI (some q) = nI q from rfl, if_neg (nI_pos (by omega)), if_pos b1, show M_X9_arrive mb (nI now, 1, nI (b &&& sgn R C sg 100), nI b) (nI q) = _ from ar, bx]
      rw [if_neg (nI_pos (by omega)), if_neg (nI_pos (by omega))]
      exact ⟨q, _, _, rfl, rfl, rfl, hq.1, hq.2.1, bb, rfl, rfl, rfl, a7, rfl⟩
/-- the least reason; 0 -/
def rv (R C : Nat) (sg : Nat → Nat) (er : Nat) (cw wl wd now b : Nat) (s g : Bool) : Nat :=
  if g && (s && (sg now == 103 && (sgt R C sg wl cw).testBit now)) then 1 else if s && (sg now == 99 && decide (man C cw now ≤ er)) then 2 else if (b &&& sgn R C sg 100) &&& sgt R C sg wl cw = 0 then (if wd == 1 && decide (man C cw now ≤ 1) then 4 else 0) else 3
theorem one_andI {c m : Nat} : nI (2 ^ c) &&& nI m = nI (if m.testBit c then 2 ^ c else 0) := by rw [n_and, one_and]
theorem p_ne {c : Nat} (h : c < 16) : ¬ nI (2 ^ c) = 0 := by
  have p : 2 ^ c ≤ 2 ^ 15 := Nat.pow_le_pow_right (by omega) (by omega)
  exact nI_ne0 (n := 2 ^ c) (Nat.two_pow_pos c) (by omega)
theorem n0I : nI 0 = (0 : Int32) := rfl
theorem bI0 : ¬ bI true = 0 := by decide +kernel
theorem m_reasonX {R C w now b : Nat} {s : Bool} {sg : Nat → Nat} {dr th er k : Nat} {wc wl wd : Nat → Nat} {r : RT} {mn : NT} (g : Bool) (ho : okS R C sg dr th er k wc wl wd) (hw : WR R C sg er k wc wl wd now b s r mn) (hk : w < k) : M_X6_reasonTo r (hOf R C sg dr th er) (nI w) (bI (!g)) = some (nI (rv R C sg er (wc w) (wl w) (wd w) now b s g)) := by
  have h16 := ho.1.n16
  have h4 := ho.2.2.2.2.2.1
  have her := ho.2.2.2.2.1
  obtain ⟨w1, w2, w3, w4⟩ := ho.2.2.2.2.2.2 w hk
  obtain ⟨a1, a2, a3, a4, a5, a6, a7, a8⟩ := hw
  obtain ⟨s1, s2, s3⟩ := a7 w hk
  have eg : (hOf R C sg dr th er).2.2.2.2.2.2.1 = nI (sgn R C sg 103) := rfl
  have eb : (hOf R C sg dr th er).2.2.2.2.2.2.2.1 = nI (sgn R C sg 99) := rfl
  have ed : (hOf R C sg dr th er).2.2.2.2.2.2.2.2.1 = nI (sgn R C sg 100) := rfl
  have hb16 := lt16 ho.1 a3
  have hd16 : (b &&& sgn R C sg 100) &&& sgt R C sg (wl w) (wc w) < 65536 := Nat.lt_of_le_of_lt Nat.and_le_left (Nat.lt_of_le_of_lt Nat.and_le_left hb16)
  have p64 : M_X6_reasonTo_64 r (hOf R C sg dr th er) (nI w) (bI (!g)) () = some (nI (if (b &&& sgn R C sg 100) &&& sgt R C sg (wl w) (wc w) = 0 then (if wd w == 1 && decide (man C (wc w) now ≤ 1) then 4 else 0) else 3)) := by
    unfold M_X6_reasonTo_64
    rw [m_at _ (by omega) (by omega), bx, a5, ed, s1, n_and, n_and, m_at _ (by omega) (by omega), bx, a4, s3, one_andI]
    by_cases z : (b &&& sgn R C sg 100) &&& sgt R C sg (wl w) (wc w) = 0
    · rw [if_pos z, z, if_pos n0I]
      obtain y | y : wd w = 0 ∨ wd w = 1 := by omega
      · rw [y, if_neg (show ¬ (0 : Nat) = 1 by decide), Nat.zero_testBit]
        rw [if_neg (show ¬ false = true by decide), if_pos n0I]
        rfl
      · rw [y, if_pos rfl, arnd_man ho.1 w1 1 (by omega), mk_bit, decide_eq_true a1]
        by_cases t : man C (wc w) now ≤ 1
        · rw [decide_eq_true t]
          rw [if_pos (show (true && true) = true from rfl), if_neg (p_ne (by omega))]
          rfl
        · rw [decide_eq_false t]
          rw [if_neg (show ¬ (true && false) = true by decide), if_pos n0I]
          rfl
    · rw [if_neg z, if_neg (nI_ne0 (by omega) (by omega))]
      rfl
  have p34 : M_X6_reasonTo_34 r (hOf R C sg dr th er) (nI w) (bI (!g)) () = some (nI (if s && (sg now == 99 && decide (man C (wc w) now ≤ er)) then 2 else if (b &&& sgn R C sg 100) &&& sgt R C sg (wl w) (wc w) = 0 then (if wd w == 1 && decide (man C (wc w) now ≤ 1) then 4 else 0) else 3)) := by
    unfold M_X6_reasonTo_34
    rw [a6, p64]
    cases s
    · rw [if_pos (show bI false = 0 from rfl)]; rfl
    · rw [if_neg bI0, m_at _ (by omega) (by omega), bx, a4, eb, s2, one_andI, sgn_bit 99 a1]
      by_cases t : sg now = 99
      · rw [beq_iff_eq.mpr t, if_pos rfl, one_andI, arnd_man ho.1 w1 er her, mk_bit, decide_eq_true a1]
        by_cases y : man C (wc w) now ≤ er
        · rw [decide_eq_true y, if_pos (show (true && true) = true from rfl), if_neg (p_ne (by omega))]
          rfl
        · rw [decide_eq_false y, if_neg (show ¬ (true && false) = true by decide), if_pos n0I]
          rfl
      · rw [beq_eq_false_iff_ne.mpr t, if_neg (show ¬ false = true by decide), n_and, Nat.zero_and, if_pos n0I]
        rfl
  unfold M_X6_reasonTo rv
  rw [a6, p34]
  cases g
  · rw [if_neg (show ¬ bI (!false) = 0 by decide +kernel)]; rfl
  · rw [if_pos (show bI (!true) = 0 from rfl)]
    cases s
    · rw [if_pos (show bI false = 0 from rfl)]; rfl
    · rw [if_neg bI0, m_at _ (by omega) (by omega), bx, a4, eg, s1, one_andI, sgn_bit 103 a1]
      by_cases t : sg now = 103
      · rw [beq_iff_eq.mpr t, if_pos rfl, one_andI]
        cases (sgt R C sg (wl w) (wc w)).testBit now
        · rw [if_neg (show ¬ false = true by decide), if_pos n0I]; rfl
        · rw [if_pos rfl, if_neg (p_ne (by omega))]; rfl
      · rw [beq_eq_false_iff_ne.mpr t, if_neg (show ¬ false = true by decide), n_and, Nat.zero_and, if_pos n0I]
        rfl
theorem man_lt {R C a b : Nat} (h : okD R C) (ha : a < R * C) (hb : b < R * C) : man C a b < 2 ^ 31 := by
  have h16 := h.n16
  have a1 := Nat.div_le_self a C
  have a2 := Nat.div_le_self b C
  have a3 := Nat.mod_le a C
  have a4 := Nat.mod_le b C
  have gen : ∀ a b c d : Nat, a ≤ 16 → b ≤ 16 → c ≤ 16 → d ≤ 16 → (a - b) + (b - a) + ((c - d) + (d - c)) < 2 ^ 31 := by omega
  exact gen _ _ _ _ (by omega) (by omega) (by omega) (by omega)
theorem m_whyM {R C w now b : Nat} {s : Bool} {sg : Nat → Nat} {dr th er k : Nat} {wc wl wd : Nat → Nat} {r : RT} {mn : NT} {mb : BT} (g : Bool) (ho : okS R C sg dr th er k wc wl wd) (hr : rM R C sg dr th er k wc wl wd mb) (hw : WR R C sg er k wc wl wd now b s r mn) (hk : w < k) : M_X9_why mb mn (nI w) (bI g) = some (if rv R C sg er (wc w) (wl w) (wd w) now b s g = 0 then -6 else nI (rv R C sg er (wc w) (wl w) (wd w) now b s g)) := by
  have h16 := ho.1.n16
  have h4 := ho.2.2.2.2.2.1
  have her := ho.2.2.2.2.1
  obtain ⟨w1, w2, w3, w4⟩ := ho.2.2.2.2.2.2 w hk
  obtain ⟨q1, q2, q3⟩ := hr.2.2.2.2.2.2.2 w hk
  obtain ⟨a1, a2, a3, a4, a5, a6, a7, a8⟩ := hw
  subst a8
  have hs : sg now < 2 ^ 31 := by rcases ho.2.1 now a1 with z | z | z | z | z <;> omega
  have hb16 := lt16 ho.1 a3
  have hd16 : (b &&& sgn R C sg 100) &&& sgt R C sg (wl w) (wc w) < 65536 := Nat.lt_of_le_of_lt Nat.and_le_left (Nat.lt_of_le_of_lt Nat.and_le_left hb16)
  have hman := man_lt ho.1 a1 w1
  have p97 : M_X9_why_97 mb (nI now, bI s, nI (b &&& sgn R C sg 100), nI b) (nI w) (bI g) () = some (if (if (b &&& sgn R C sg 100) &&& sgt R C sg (wl w) (wc w) = 0 then (if wd w == 1 && decide (man C (wc w) now ≤ 1) then 4 else 0) else 3) = 0 then -6 else nI (if (b &&& sgn R C sg 100) &&& sgt R C sg (wl w) (wc w) = 0 then (if wd w == 1 && decide (man C (wc w) now ≤ 1) then 4 else 0) else 3)) := by
    unfold M_X9_why_97
    dsimp only
    rw [m_seenByM ho hr hk, bx, n_and, Nat.and_comm (sgt R C sg (wl w) (wc w))]
    by_cases z : (b &&& sgn R C sg 100) &&& sgt R C sg (wl w) (wc w) = 0
    · rw [if_pos z, z, if_pos n0I, if_pos (nI_in (c := w) (N := 4) (by omega) (by omega)), if_pos (nI_in (c := w) (N := 4) (by omega) (by omega)), nI_clamp (by omega), q3, q1, m_apart ho hr a1 w1, bx]
      obtain y | y : wd w = 0 ∨ wd w = 1 := by omega
      · rw [y, if_neg (show ¬ nI 0 = 1 by decide +kernel)]
        rfl
      · rw [y, if_pos (show nI 1 = 1 from rfl)]
        by_cases t : man C now (wc w) ≤ 1
        · rw [if_neg (show ¬ (1 : Int32) < nI (man C now (wc w)) from nI_nlt (a := 1) (b := man C now (wc w)) t (by omega)), man_comm C (wc w) now, decide_eq_true t]
          rfl
        · rw [if_pos (show (1 : Int32) < nI (man C now (wc w)) from nI_lt (a := 1) (by omega) hman), man_comm C (wc w) now, decide_eq_false t]
          rfl
    · rw [if_neg z, if_neg (nI_ne0 (by omega) (by omega))]
      rfl
  have p53 : M_X9_why_53 mb (nI now, bI s, nI (b &&& sgn R C sg 100), nI b) (nI w) (bI g) () = some (if (if s && (sg now == 99 && decide (man C (wc w) now ≤ er)) then 2 else if (b &&& sgn R C sg 100) &&& sgt R C sg (wl w) (wc w) = 0 then (if wd w == 1 && decide (man C (wc w) now ≤ 1) then 4 else 0) else 3) = 0 then -6 else nI (if s && (sg now == 99 && decide (man C (wc w) now ≤ er)) then 2 else if (b &&& sgn R C sg 100) &&& sgt R C sg (wl w) (wc w) = 0 then (if wd w == 1 && decide (man C (wc w) now ≤ 1) then 4 else 0) else 3)) := by
    unfold M_X9_why_53
    dsimp only
    rw [p97]
    cases s
    · rw [if_pos (show bI false = 0 from rfl)]; rfl
    · rw [if_neg bI0, if_pos (nI_in (by omega) (by omega)), nI_clamp (by omega), hr.2.2.2.2.2.2.1 now a1]
      by_cases t : sg now = 99
      · rw [if_pos (show nI (sg now) = 99 by rw [t]; rfl), if_pos (nI_in (c := w) (N := 4) (by omega) (by omega)), nI_clamp (by omega), q1, m_apart ho hr a1 w1, bx, hr.2.2.2.2.2.1, t]
        by_cases y : man C now (wc w) ≤ er
        · rw [if_neg (nI_nlt y (by omega)), man_comm C (wc w) now, decide_eq_true y]
          rfl
        · rw [if_pos (nI_lt (by omega) hman), man_comm C (wc w) now, decide_eq_false y]
          rfl
      · rw [if_neg (show ¬ nI (sg now) = 99 from w_ne (b := 99) hs (by omega) t), beq_eq_false_iff_ne.mpr t]
        rfl
  have p21 : ∀ S : Bool, S = (sgt R C sg (wl w) (wc w)).testBit now → M_X9_why_21 mb (nI now, bI s, nI (b &&& sgn R C sg 100), nI b) (nI w) (bI g) (bI S) = some (if rv R C sg er (wc w) (wl w) (wd w) now b s g = 0 then -6 else nI (rv R C sg er (wc w) (wl w) (wd w) now b s g)) := by
    intro S hS
    unfold M_X9_why_21 rv
    dsimp only
    rw [p53, ← hS]
    cases g
    · rw [if_pos (show bI false = 0 from rfl)]; rfl
    · rw [if_neg bI0]
      cases s
      · rw [if_pos (show bI false = 0 from rfl)]; rfl
      · rw [if_neg bI0, if_pos (nI_in (by omega) (by omega)), nI_clamp (by omega), hr.2.2.2.2.2.2.1 now a1]
        by_cases t : sg now = 103
        · rw [if_pos (show nI (sg now) = 103 by rw [t]; rfl), t]
          cases S
          · rw [if_pos (show bI false = 0 from rfl)]; rfl
          · rw [if_neg bI0]; rfl
        · rw [if_neg (show ¬ nI (sg now) = 103 from w_ne (b := 103) hs (by omega) t), beq_eq_false_iff_ne.mpr t]
          rfl
  unfold M_X9_why
  have hlt := lt16 ho.1 (sgt_lt (sg := sg) (w := wl w) w1)
  dsimp only
  rw [m_seenByM ho hr hk, bx, n_sshr (by omega) (by omega), show (1 : Int32) = nI 1 from rfl, n_bitv (by omega)]
  have k1 := p21 _ rfl
  cases e : (sgt R C sg (wl w) (wc w)).testBit now
  · rw [e] at k1
    rw [if_neg (show ¬ (if false = true then nI 1 else nI 0) = nI 1 by decide +kernel)]
    exact k1
  · rw [e] at k1
    rw [if_pos (show (if true = true then nI 1 else nI 0) = nI 1 by decide +kernel)]
    exact k1
theorem rv_lt (R C : Nat) (sg : Nat → Nat) (er cw wl wd now b : Nat) (s g : Bool) : rv R C sg er cw wl wd now b s g < 5 := by
  unfold rv
  repeat' split
  all_goals omega
theorem m_shown {R C now b : Nat} {s : Bool} {sg : Nat → Nat} {dr th er k : Nat} {wc wl wd : Nat → Nat} {v : VT} {r : RT} {mn : NT} {mb : BT} (g : Bool) (ho : okS R C sg dr th er k wc wl wd) (hx2 : v.1 = nI k) (hr : rM R C sg dr th er k wc wl wd mb) (hw : WR R C sg er k wc wl wd now b s r mn) : ∃ z, M_X6_firstShownTo r (hOf R C sg dr th er) v (bI (!g)) = some z ∧ M_X9_shownTo mb mn (bI g) = some z ∧ (z = -6 ∨ ∃ w, w < k ∧ z = nI w) := by
  have h4 := ho.2.2.2.2.2.1
  have st : ∀ fu j, j ≤ k → k - j < fu → ∃ z, M_X6_firstShownTo_2 r (hOf R C sg dr th er) v (bI (!g)) fu (nI j) = some z ∧ M_X9_shownTo_2 mb mn (bI g) fu (nI j) = some z ∧ (z = -6 ∨ ∃ w, w < k ∧ z = nI w) := by
    intro fu
    induction fu with
    | zero => intro j _ h; omega
    | succ fu ih =>
      intro j hj hfu
      show ∃ z, M_X6_firstShownTo_2b _ _ _ _ _ _ = _ ∧ M_X9_shownTo_2b _ _ _ _ _ = _ ∧ _
      unfold M_X6_firstShownTo_2b M_X9_shownTo_2b
      rw [hx2, hr.2.2.2.2.1]
      rcases Nat.lt_or_ge j k with q | q
      · rw [if_neg (nI_ge q (by omega)), if_neg (nI_ge q (by omega)), m_reasonX g ho hw q, m_whyM g ho hr hw q, bx, bx]
        have hv := rv_lt R C sg er (wc j) (wl j) (wd j) now b s g
        generalize rv R C sg er (wc j) (wl j) (wd j) now b s g = x at hv ⊢
        by_cases z : x = 0
        · rw [z, if_pos n0I, if_pos (show (if (0 : Nat) = 0 then (-6 : Int32) else nI 0) ≤ 0 by decide +kernel), ← nI_succ]
          exact ih (j + 1) (by omega) (by omega)
        · rw [if_neg (nI_ne0 (by omega) (by omega)), if_neg z, if_neg (show ¬ nI x ≤ 0 from nI_ge (a := 0) (by omega) (by omega))]
          exact ⟨_, rfl, rfl, Or.inr ⟨j, q, rfl⟩⟩
      · have e : j = k := by omega
        rw [e, if_pos (nI_le (Nat.le_refl _) (by omega)), if_pos (nI_le (Nat.le_refl _) (by omega))]
        exact ⟨_, rfl, rfl, Or.inl rfl⟩
  exact st 200 0 (by omega) (by omega)
end
section
/-! The walk on the pad, judged on both sides -/
def wv (m : Nat) : Nat := if m = 110 then 0 else if m = 101 then 1 else if m = 115 then 2 else if m = 119 then 3 else 4
theorem wv5 (m : Nat) : wv m < 5 := by
  unfold wv
  repeat' split
  all_goals omega
theorem ixw : ∀ m, m < 127 → isW m = true → M_J0_indexOf_0f7a4 1 (nI m) = some (nI (wv m)) := by decide +kernel
theorem wyw : ∀ m, m < 127 → M_X9_wayOf (nI m) = some (nI (wv m)) := by decide +kernel
theorem m_stepAt {n i : Nat} {f : Nat → Nat} {p : PT} {mo : OT} (hp : PdX n f p mo) (hi : i < n) (hw : isW (f i) = true) : M_X2_stepAt p (nI i) = some (nI (wv (f i))) := by
  obtain ⟨f1, f2, f3, f4⟩ := hp.2.2.2 i hi
  unfold M_X2_stepAt
  rw [m_signAt hp hi, bx, ixw _ (by omega) hw, bx]
/-- what is noted so far, on both sides -/
def DR (k i : Nat) (d : DT) (g : GT) : Prop := d.1 = -6 ∧ g.1 = -6 ∧ (d.2.1 = g.2.1 ∧ (d.2.1 = -6 ∨ ∃ j, j < i ∧ d.2.1 = nI j)) ∧ d.2.2.1 = g.2.2.1 ∧ d.2.2.2.1 = g.2.2.2.1 ∧ ∃ a b, a ≤ i ∧ b ≤ i ∧ d.2.2.2.2.1 = nI a ∧ g.2.2.2.2.1 = nI a ∧ d.2.2.2.2.2.1 = nI b ∧ g.2.2.2.2.2 = nI b
theorem m6neg : (-6 : Int32) < 0 := by decide +kernel
theorem m6ne {j : Nat} (hj : j < 2 ^ 31) : ¬ nI j = (-6 : Int32) := fun w => absurd (show nI j < 0 by rw [w]; decide +kernel) (nI_pos hj)
theorem DR_up {k i : Nat} {d : DT} {g : GT} (h : DR k i d g) : DR k (i + 1) d g := by
  obtain ⟨a, b, ⟨c, e⟩, f, g', x, y, h1, h2, h3⟩ := h
  refine ⟨a, b, ⟨c, ?_⟩, f, g', x, y, by omega, by omega, h3⟩
  rcases e with e | ⟨j, j1, j2⟩
  · exact Or.inl e
  · exact Or.inr ⟨j, by omega, j2⟩
/-- to whom it shows, there is a reason -/
theorem m_shown_ne {R C now b u : Nat} {s : Bool} {sg : Nat → Nat} {dr th er k : Nat} {wc wl wd : Nat → Nat} {v : VT} {r : RT} {mn : NT} {mb : BT} (ho : okS R C sg dr th er k wc wl wd) (hx2 : v.1 = nI k) (hr : rM R C sg dr th er k wc wl wd mb) (hw : WR R C sg er k wc wl wd now b s r mn) (hu : u < k) (h : M_X9_shownTo mb mn (1 : Int32) = some (nI u)) : ∃ q, M_X9_why mb mn (nI u) (1 : Int32) = some q ∧ ¬ q ≤ 0 := by
  have h4 := ho.2.2.2.2.2.1
  have st : ∀ fu j, j ≤ k → k - j < fu → M_X9_shownTo_2 mb mn (1 : Int32) fu (nI j) = some (nI u) → ∃ q, M_X9_why mb mn (nI u) (1 : Int32) = some q ∧ ¬ q ≤ 0 := by
    intro fu
    induction fu with
    | zero => intro j _ h; omega
    | succ fu ih =>
      intro j hj hfu
      show M_X9_shownTo_2b _ _ _ _ _ = _ → _
      unfold M_X9_shownTo_2b
      rw [hr.2.2.2.2.1]
      rcases Nat.lt_or_ge j k with q | q
      · have hwh := m_whyM true ho hr hw q
        rw [if_neg (nI_ge q (by omega)), show M_X9_why mb mn (nI j) (1 : Int32) = _ from hwh, bx]
        generalize (if rv R C sg er (wc j) (wl j) (wd j) now b s true = 0 then (-6 : Int32) else nI (rv R C sg er (wc j) (wl j) (wd j) now b s true)) = x at hwh ⊢
        by_cases z : x ≤ 0
        · rw [if_pos z, ← nI_succ]
          exact ih (j + 1) (by omega) (by omega)
        · rw [if_neg z]
          intro e
          injection e with e
          rw [← e]
          exact ⟨x, hwh, z⟩
      · have e : j = k := by omega
        rw [e, if_pos (nI_le (Nat.le_refl _) (by omega))]
        intro e
        injection e with e
        exact absurd e.symm (m6ne (by omega))
  exact st 200 0 (by omega) (by omega) h
/-- the second half of what is noted: counts -/
theorem m_note2 {R C now b i : Nat} {s : Bool} {sg : Nat → Nat} {dr th er k : Nat} {wc wl wd : Nat → Nat} {v : VT} {r : RT} {mn : NT} {mb : BT} {mo : OT} {d : DT} {g : GT} (rc : NT × GT × Int32 → Option (NT × GT)) (x : Int32) (ho : okS R C sg dr th er k wc wl wd) (hx2 : v.1 = nI k) (hr : rM R C sg dr th er k wc wl wd mb) (hw : WR R C sg er k wc wl wd now b s r mn) (hz : ∃ w, w < k ∧ x = nI w) (hi : i < 40) (hd : d.1 = -6 ∧ g.1 = -6 ∧ (d.2.1 = g.2.1 ∧ (d.2.1 = -6 ∨ ∃ j, j < i + 1 ∧ d.2.1 = nI j)) ∧ d.2.2.1 = g.2.2.1 ∧ d.2.2.2.1 = g.2.2.2.1 ∧ ∃ a b, a ≤ i ∧ b ≤ i ∧ d.2.2.2.2.1 = nI a ∧ g.2.2.2.2.1 = nI a ∧ d.2.2.2.2.2.1 = nI b ∧ g.2.2.2.2.2 = nI b) : ∃ d' g', M_X3_note_48 (hOf R C sg dr th er) v r (nI i) d = some d' ∧ M_X9_goWalk_116 mb mo rc (mn, g, nI i, x) = rc (mn, g', nI (i + 1)) ∧ DR k (i + 1) d' g' := by
  obtain ⟨w, w1, rfl⟩ := hz
  have h4 := ho.2.2.2.2.2.1
  obtain ⟨d1, g1, ⟨e1, e2⟩, e3, e4, x, y, x1, y1, x2, x3, y2, y3⟩ := hd
  obtain ⟨z, s1, s2, s3⟩ := m_shown false ho hx2 hr hw
  unfold M_X3_note_48 M_X9_goWalk_116 M_X9_goWalk_130 M_X9_goWalk_155 M_X9_goWalk_156 M_X9_goWalk_160
  dsimp only
  rw [show M_X6_firstShownTo r (hOf R C sg dr th er) v (1 : Int32) = some z from s1, show M_X9_shownTo mb mn (0 : Int32) = some z from s2]
  simp only [bx]
  rw [if_neg (nI_pos (by omega)), if_neg (nI_pos (by omega)), x2, x3, y2, y3, ← nI_succ, ← nI_succ, ← nI_succ]
  rcases s3 with s3 | ⟨u, u1, s3⟩
  · subst s3
    rw [if_pos rfl, if_neg (show ¬ (0 : Int32) ≤ -6 by decide +kernel)]
    refine ⟨_, _, rfl, rfl, d1, g1, ⟨e1, e2⟩, e3, e4, x + 1, y + 1, by omega, by omega, rfl, rfl, rfl, rfl⟩
  · subst s3
    rw [if_neg (m6ne (by omega)), if_pos (nI_pos' (by omega))]
    refine ⟨_, _, rfl, rfl, d1, g1, ⟨e1, e2⟩, e3, e4, x + 1, y, by omega, by omega, rfl, rfl, rfl, ?_⟩
    · show nI y + 0 = nI y
      exact nI_add y 0
theorem m_note {R C now b i : Nat} {s : Bool} {sg : Nat → Nat} {dr th er k : Nat} {wc wl wd : Nat → Nat} {v : VT} {r : RT} {mn : NT} {mb : BT} {mo : OT} {d : DT} {g : GT} (rc : NT × GT × Int32 → Option (NT × GT)) (ho : okS R C sg dr th er k wc wl wd) (hx2 : v.1 = nI k) (hr : rM R C sg dr th er k wc wl wd mb) (hw : WR R C sg er k wc wl wd now b s r mn) (hi : i < 40) (hd : DR k i d g) : ∃ d' g', M_X3_note d (hOf R C sg dr th er) v r (nI i) = some d' ∧ ((M_X9_shownTo mb mn (1 : Int32)).bind fun z81 => if z81 < 0 then (M_X9_goWalk_116 mb mo rc (mn, g, nI i, z81)) else (if 0 ≤ g.2.1 then (M_X9_goWalk_116 mb mo rc (mn, g, nI i, z81)) else ((M_X9_why mb mn z81 (1 : Int32)).bind fun z110 => M_X9_goWalk_116 mb mo rc (mn, (g.1, nI i, z81, z110, g.2.2.2.2.1, g.2.2.2.2.2), nI i, z81)))) = rc (mn, g', nI (i + 1)) ∧ DR k (i + 1) d' g' := by
  have h4 := ho.2.2.2.2.2.1
  obtain ⟨z, s1, s2, s3⟩ := m_shown true ho hx2 hr hw
  unfold M_X3_note
  rw [show M_X6_firstShownTo r (hOf R C sg dr th er) v (0 : Int32) = some z from s1, show M_X9_shownTo mb mn (1 : Int32) = some z from s2]
  simp only [bx]
  obtain ⟨d1, g1, ⟨e1, e2⟩, e3, e4, x, y, x1, y1, x2, x3, y2, y3⟩ := id hd
  rcases s3 with s3 | ⟨u, u1, s3⟩
  · subst s3
    rw [if_pos rfl, if_pos m6neg]
    unfold M_X9_goWalk_116 M_X9_goWalk_130 M_X9_goWalk_155 M_X9_goWalk_156 M_X9_goWalk_160
    dsimp only
    rw [if_pos m6neg, if_pos m6neg, x3, y3, ← nI_succ]
    refine ⟨_, _, rfl, rfl, d1, g1, ⟨e1, ?_⟩, e3, e4, x, y, by omega, by omega, x2, ?_, y2, ?_⟩
    · rcases e2 with e2 | ⟨j, j1, j2⟩
      · exact Or.inl e2
      · exact Or.inr ⟨j, by omega, j2⟩
    · exact nI_add x 0
    · exact nI_add y 0
  · subst s3
    rw [if_neg (m6ne (by omega)), if_neg (nI_pos (by omega))]
    rcases e2 with e2 | ⟨j, j1, j2⟩
    · have hrs := m_reasonX true ho hw u1
      have hwh := m_whyM true ho hr hw u1
      have hv := rv_lt R C sg er (wc u) (wl u) (wd u) now b s true
      have hne : rv R C sg er (wc u) (wl u) (wd u) now b s true ≠ 0 := by
        intro z0
        obtain ⟨q, q1, q2⟩ := m_shown_ne ho hx2 hr hw u1 s2
        have q3 := hwh.symm.trans q1
        rw [z0, if_pos rfl] at q3
        injection q3 with q3
        rw [← q3] at q2
        exact absurd q2 (by decide +kernel)
      rw [if_neg hne] at hwh
      have k2 := m_note2 (mo := mo) (d := (d.1, nI i, nI u, nI (rv R C sg er (wc u) (wl u) (wd u) now b s true), d.2.2.2.2.1, d.2.2.2.2.2.1, d.2.2.2.2.2.2)) (g := (g.1, nI i, nI u, nI (rv R C sg er (wc u) (wl u) (wd u) now b s true), g.2.2.2.2.1, g.2.2.2.2.2)) rc (nI u) ho hx2 hr hw ⟨u, u1, rfl⟩ hi ⟨d1, g1, ⟨rfl, Or.inr ⟨i, by omega, rfl⟩⟩, rfl, rfl, x, y, x1, y1, x2, x3, y2, y3⟩
      rw [if_pos e2, show M_X6_reasonTo r (hOf R C sg dr th er) (nI u) (0 : Int32) = _ from hrs, bx, ← e1, e2, if_neg (show ¬ (0 : Int32) ≤ -6 by decide +kernel), show M_X9_why mb mn (nI u) (1 : Int32) = _ from hwh, bx]
      exact k2
    · have k2 := m_note2 (mo := mo) (d := d) (g := g) rc (nI u) ho hx2 hr hw ⟨u, u1, rfl⟩ hi ⟨d1, g1, ⟨e1, Or.inr ⟨j, by omega, j2⟩⟩, e3, e4, x, y, x1, y1, x2, x3, y2, y3⟩
      rw [j2, if_neg (m6ne (by omega)), ← e1, j2, if_pos (nI_pos' (by omega))]
      exact k2
theorem m_follow {R C n : Nat} {f : Nat → Nat} {p : PT} {mo : OT} {sg : Nat → Nat} {dr th er k : Nat} {wc wl wd : Nat → Nat} {v : VT} {mb : BT} (ho : okS R C sg dr th er k wc wl wd) (hx2 : v.1 = nI k) (hr : rM R C sg dr th er k wc wl wd mb) (hp : PdX n f p mo) (hW : ∀ i, i < n → isW (f i) = true) : ∀ fu i now b s (r : RT) (mn : NT) (d : DT) (g : GT), i ≤ n → n - i < fu → WR R C sg er k wc wl wd now b s r mn → DR k i d g →
    (∃ d' r' mn' g' j, M_X3_follow_12 (hOf R C sg dr th er) v p fu (d, r, nI i) = some (d', r') ∧ M_X9_goWalk_40 mb mo fu (mn, g, nI i) = some (mn', g') ∧ j < n ∧ d'.1 = nI j ∧ g'.1 = nI j) ∨
    (∃ d' r' mn' g' now' b' s', M_X3_follow_12 (hOf R C sg dr th er) v p fu (d, r, nI i) = some (d', r') ∧ M_X9_goWalk_40 mb mo fu (mn, g, nI i) = some (mn', g') ∧ DR k n d' g' ∧ WR R C sg er k wc wl wd now' b' s' r' mn' ∧ d'.2.2.2.2.2.2 = nI now') := by
  have h16 := ho.1.n16
  obtain ⟨h40, h1, h2, hf⟩ := id hp
  intro fu
  induction fu with
  | zero => intro i now b s r mn d g _ h; omega
  | succ fu ih =>
    intro i now b s r mn d g hi hfu hw hd
    have ex : ∀ a, M_X3_follow_12 (hOf R C sg dr th er) v p (fu + 1) a = M_X3_follow_12b (hOf R C sg dr th er) v p (M_X3_follow_12 (hOf R C sg dr th er) v p fu) a := fun a => rfl
    have em : ∀ a, M_X9_goWalk_40 mb mo (fu + 1) a = M_X9_goWalk_40b mb mo (M_X9_goWalk_40 mb mo fu) a := fun a => rfl
    rw [ex, em]
    unfold M_X3_follow_12b M_X9_goWalk_40b
    dsimp only
    rw [h1, h2]
    rcases Nat.lt_or_ge i n with q | q
    · obtain ⟨f1, f2, f3, f4⟩ := hf i q
      have g6 : ¬ 0 ≤ g.1 := by rw [hd.2.1]; decide +kernel
      rw [if_neg (nI_ge q (by omega)), if_neg (nI_ge q (by omega)), if_neg g6, if_pos (nI_in (c := i) (N := 40) (by omega) (by omega)), nI_clamp (by omega), f4, m_stepAt hp q (hW i q), wyw _ (by omega), bx, bx]
      rcases m_take ho hr hw (wv5 (f i)) with ⟨e, r', mn', t1, t2, t3⟩ | ⟨qq, r', mn', e, t1, t2, t3⟩
      · rw [t1, t2, bx, bx]
        dsimp only
        rw [if_pos k00, if_pos k00]
        left
        have km : M_X9_goWalk_160 mb mo (M_X9_goWalk_40 mb mo fu) (mn', (nI i, g.2.1, g.2.2.1, g.2.2.2.1, g.2.2.2.2.1, g.2.2.2.2.2), nI i) = some (mn', (nI i, g.2.1, g.2.2.1, g.2.2.2.1, g.2.2.2.2.1, g.2.2.2.2.2)) := by
          unfold M_X9_goWalk_160
          dsimp only
          cases fu with
          | zero => omega
          | succ fu =>
            show M_X9_goWalk_40b mb mo _ _ = _
            unfold M_X9_goWalk_40b
            dsimp only
            rw [if_pos (show 0 ≤ nI i from nI_pos' (by omega))]
            exact ite_self _
        exact ⟨_, r', mn', _, i, rfl, km, q, rfl, rfl⟩
      · rw [t1, t2, bx, bx]
        dsimp only
        rw [if_neg k10, if_neg k10]
        obtain ⟨d', g', n1, n2, n3⟩ := m_note (mo := mo) (M_X9_goWalk_40 mb mo fu) ho hx2 hr t3 (by omega) hd
        rw [n1, n2, bx, ← nI_succ]
        exact ih (i + 1) _ _ _ _ _ _ _ (by omega) (by omega) t3 n3
    · have e : i = n := by omega
      subst e
      obtain ⟨a1, a2, a3, a4, a5, a6, a7, a8⟩ := id hw
      rw [if_pos (nI_le (Nat.le_refl _) (by omega)), if_pos (nI_le (Nat.le_refl _) (by omega)), a4, m_cellOf now (by omega), bx]
      right
      exact ⟨_, _, _, _, now, b, s, rfl, rfl, hd, hw, rfl⟩
/-- the walk on the pad, refused or judged, on both sides -/
theorem m_walk {R C n : Nat} {f : Nat → Nat} {p : PT} {mo : OT} {sg : Nat → Nat} {dr th er k : Nat} {wc wl wd : Nat → Nat} {v : VT} {mb : BT} (r : RT) (d : DT) (mn : NT) (mg : GT) (ho : okS R C sg dr th er k wc wl wd) (hx2 : v.1 = nI k) (hx3 : ∀ w, w < k → v.2.1 w = nI (wc w) ∧ v.2.2.1 w = nI (wl w) ∧ v.2.2.2 w = nI (wd w)) (hr : rM R C sg dr th er k wc wl wd mb) (hp : PdX n f p mo) :
    (M_X8_followWalk p (hOf R C sg dr th er) v r d = some (-5, r, d) ∧ M_X9_refusal mb mo mn mg = some (-5, mn, mg)) ∨
    (∃ d' r' mn' g', M_X8_followWalk p (hOf R C sg dr th er) v r d = some (-3, r', d') ∧ M_X9_refusal mb mo mn mg = some (-3, mn', g') ∧ d'.1 = g'.1) ∨
    (∃ d' r' mn' g', M_X8_followWalk p (hOf R C sg dr th er) v r d = some (0, r', d') ∧ M_X9_refusal mb mo mn mg = some (-6, mn', g') ∧ DR k n d' g' ∧ d'.2.2.2.2.2.2 = mn'.1 ∧ ∀ i, i < n → isW (f i) = true) := by
  have h40 := hp.1
  have eM : M_X9_fault mb mo (1 : Int32) = some (fwv (fun i => isW (f i)) n 0) := by
    unfold M_X9_fault
    rw [show M_X9_in (1 : Int32).toInt64 (0 : Int64) (1 : Int64) = some 1 by decide +kernel, bx, if_neg k10]
    exact fwM1 hp
  unfold M_X8_followWalk M_X9_refusal
  rw [m_walkFault hp, eM, bx, bx]
  rcases fwv_cs (fun i => isW (f i)) n 0 with ⟨a, b⟩ | ⟨j, j1, j2, j3, j4⟩
  · rw [a, if_pos rfl, if_pos m6neg]
    have hW : ∀ i, i < n → isW (f i) = true := fun i hi => b i (by omega) (by omega)
    obtain ⟨r0, mn0, b1, b2, b3⟩ := m_begin r mn ho hx2 hx3 hr
    unfold M_X3_follow M_X3_forget M_X9_goWalk
    rw [b1, b2, bx, bx, bx]
    have d0 : DR k 0 (-6, -6, -6, -6, 0, 0, -6) (-6, -6, -6, -6, 0, 0) := ⟨rfl, rfl, ⟨rfl, Or.inl rfl⟩, rfl, rfl, 0, 0, by omega, by omega, rfl, rfl, rfl, rfl⟩
    rcases m_follow ho hx2 hr hp hW 200 0 dr (2 ^ dr) false r0 mn0 _ _ (by omega) (by omega) b3 d0 with ⟨d', r', mn', g', j, t1, t2, t3, t4, t5⟩ | ⟨d', r', mn', g', now', b', s', t1, t2, t3, t4, t5⟩
    · right; left
      rw [show M_X3_follow_12 (hOf R C sg dr th er) v p 200 ((-6, -6, -6, -6, 0, 0, -6), r0, 0) = _ from t1, show M_X9_goWalk_40 mb mo 200 (mn0, (-6, -6, -6, -6, 0, 0), 0) = _ from t2, bx, bx]
      dsimp only
      rw [t4, t5, if_neg (m6ne (by omega)), if_neg (nI_pos (by omega))]
      exact ⟨d', r', mn', g', rfl, rfl, by rw [t4, t5]⟩
    · right; right
      rw [show M_X3_follow_12 (hOf R C sg dr th er) v p 200 ((-6, -6, -6, -6, 0, 0, -6), r0, 0) = _ from t1, show M_X9_goWalk_40 mb mo 200 (mn0, (-6, -6, -6, -6, 0, 0), 0) = _ from t2, bx, bx]
      dsimp only
      rw [t3.1, t3.2.1, if_pos rfl, if_pos m6neg]
      refine ⟨d', r', mn', g', rfl, rfl, t3, ?_, hW⟩
      rw [t5, t4.2.2.2.2.2.2.2]
  · left
    rw [j3, if_neg (m6ne (by omega)), if_neg (nI_pos (by omega))]
    exact ⟨rfl, rfl⟩
theorem op_judge {p : PT} {mo : OT} {h : HT} {v : VT} {mb : BT} (r : RT) (d : DT) (mn : NT) (mg : GT) (x : Int32) (rp : RPd p mo) (rh : RH h v mb) : ∃ z r' d' mn' mg', M_X8_judge p h v r d x = some (z, r', d') ∧ M_X9_judge mb mo mn mg x = some (z, mn', mg') := by
  obtain ⟨R, C, sg, dr, th, er, k, wc, wl, wd, ho, ⟨hx1, hx2, hx3⟩, hr⟩ := rh
  obtain ⟨n, f, hp⟩ := rp
  have hp : PdX n f p mo := hp
  subst hx1
  have e1 := m_within x 0 5
  have e2 : M_X9_in x.toInt64 (0 : Int64) (5 : Int64) = some (if 0 ≤ x ∧ x ≤ 5 then 1 else 0) := m_in x 0 5
  unfold M_X8_judge M_X9_judge
  rw [e1, e2, bx, bx]
  by_cases q : 0 ≤ x ∧ x ≤ 5
  · rw [if_pos q, if_neg k10, if_neg k10]
    obtain ⟨m, m0, m5, rfl⟩ := rng (a := 0) (b := 5) (by omega) (by omega) q.1 q.2
    rcases m_walk r d mn mg ho hx2 hx3 hr hp with ⟨w1, w2⟩ | ⟨d', r', mn', g', w1, w2, w3⟩ | ⟨d', r', mn', g', w1, w2, w3, w4, w5⟩
    · rw [w1, w2, bx, bx]
      dsimp only
      rw [if_pos rfl, if_pos rfl]
      exact ⟨_, _, _, _, _, rfl, rfl⟩
    · rw [w1, w2, bx, bx]
      dsimp only
      rw [if_neg (show ¬ (-3 : Int32) = -5 by decide +kernel), if_neg (show ¬ (-3 : Int32) = -5 by decide +kernel)]
      by_cases z : m = 0
      · subst z
        rw [if_pos n0I, if_pos (show nI 0 ≤ 0 by decide +kernel)]
        unfold M_X9_judge_38
        rw [if_pos n0I, w3]
        exact ⟨_, _, _, _, _, rfl, rfl⟩
      · rw [if_neg (nI_ne0 (by omega) (by omega)), if_neg (show ¬ nI m ≤ 0 from nI_ge (a := 0) (by omega) (by omega)), if_pos rfl, if_neg (show ¬ (-3 : Int32) = -6 by decide +kernel)]
        exact ⟨_, _, _, _, _, rfl, rfl⟩
    · obtain ⟨d1, g1, ⟨c1, c2⟩, e3, e4, a, b, a1, b1, x2, x3, y2, y3⟩ := w3
      rw [w1, w2, bx, bx]
      dsimp only
      rw [if_neg (show ¬ (0 : Int32) = -5 by decide +kernel), if_neg (show ¬ (-6 : Int32) = -5 by decide +kernel), if_neg (show ¬ (0 : Int32) = -3 by decide +kernel), if_pos (show (-6 : Int32) = -6 from rfl)]
      unfold M_X9_judge_38 M_X3_answer
      dsimp only
      obtain rfl | rfl | rfl | rfl | rfl | rfl : m = 0 ∨ m = 1 ∨ m = 2 ∨ m = 3 ∨ m = 4 ∨ m = 5 := by omega
      · rw [if_pos n0I, if_pos (show nI 0 ≤ 0 by decide +kernel), if_pos n0I, d1, g1]
        exact ⟨_, _, _, _, _, rfl, rfl⟩
      · rw [if_neg (show ¬ nI 1 = 0 by decide +kernel), if_neg (show ¬ nI 1 ≤ 0 by decide +kernel), if_pos (show nI 1 = 1 from rfl), bx, if_neg (show ¬ nI 1 = 0 by decide +kernel), if_pos (show nI 1 = 1 from rfl), c1]
        exact ⟨_, _, _, _, _, rfl, rfl⟩
      · rw [if_neg (show ¬ nI 2 = 0 by decide +kernel), if_neg (show ¬ nI 2 ≤ 0 by decide +kernel), if_neg (show ¬ nI 2 = 1 by decide +kernel), if_pos (show nI 2 = 2 from rfl), bx, if_neg (show ¬ nI 2 = 0 by decide +kernel), if_neg (show ¬ nI 2 = 1 by decide +kernel), if_pos (show nI 2 = 2 from rfl), e3]
        exact ⟨_, _, _, _, _, rfl, rfl⟩
      · rw [if_neg (show ¬ nI 3 = 0 by decide +kernel), if_neg (show ¬ nI 3 ≤ 0 by decide +kernel), if_neg (show ¬ nI 3 = 1 by decide +kernel), if_neg (show ¬ nI 3 = 2 by decide +kernel), if_pos (show nI 3 = 3 from rfl), bx, if_neg (show ¬ nI 3 = 0 by decide +kernel), if_neg (show ¬ nI 3 = 1 by decide +kernel), if_neg (show ¬ nI 3 = 2 by decide +kernel), if_pos (show nI 3 = 3 from rfl), e4]
        exact ⟨_, _, _, _, _, rfl, rfl⟩
      · rw [if_neg (show ¬ nI 4 = 0 by decide +kernel), if_neg (show ¬ nI 4 ≤ 0 by decide +kernel), if_neg (show ¬ nI 4 = 1 by decide +kernel), if_neg (show ¬ nI 4 = 2 by decide +kernel), if_neg (show ¬ nI 4 = 3 by decide +kernel), if_pos (show nI 4 = 4 from rfl), bx, if_neg (show ¬ nI 4 = 0 by decide +kernel), if_neg (show ¬ nI 4 = 1 by decide +kernel), if_neg (show ¬ nI 4 = 2 by decide +kernel), if_neg (show ¬ nI 4 = 3 by decide +kernel), if_pos (show nI 4 = 4 from rfl), x2, x3]
        exact ⟨_, _, _, _, _, rfl, rfl⟩
      · rw [if_neg (show ¬ nI 5 = 0 by decide +kernel), if_neg (show ¬ nI 5 ≤ 0 by decide +kernel), if_neg (show ¬ nI 5 = 1 by decide +kernel), if_neg (show ¬ nI 5 = 2 by decide +kernel), if_neg (show ¬ nI 5 = 3 by decide +kernel), if_neg (show ¬ nI 5 = 4 by decide +kernel), bx, if_neg (show ¬ nI 5 = 0 by decide +kernel), if_neg (show ¬ nI 5 = 1 by decide +kernel), if_neg (show ¬ nI 5 = 2 by decide +kernel), if_neg (show ¬ nI 5 = 3 by decide +kernel), if_neg (show ¬ nI 5 = 4 by decide +kernel), w4]
        exact ⟨_, _, _, _, _, rfl, rfl⟩
  · rw [if_neg q, if_pos k00, if_pos k00]
    exact ⟨_, _, _, _, _, rfl, rfl⟩
end
section
/-! Counting ones; a night -/
theorem cn_cong {P Q : Nat → Bool} : ∀ n, (∀ i, i < n → P i = Q i) → cn P n = cn Q n := by
  intro n
  induction n with
  | zero => intro _; rfl
  | succ n ih =>
    intro h
    show cn P n + (if P n then 1 else 0) = cn Q n + (if Q n then 1 else 0)
    rw [ih (fun i hi => h i (by omega)), h n (by omega)]
theorem cn_less {P Q : Nat → Bool} {t : Nat} (hp : P t = true) (hq : Q t = false) (h : ∀ i, i ≠ t → Q i = P i) : ∀ n, t < n → cn Q n + 1 = cn P n := by
  intro n
  induction n with
  | zero => intro h; omega
  | succ n ih =>
    intro ht
    show cn Q n + (if Q n then 1 else 0) + 1 = cn P n + (if P n then 1 else 0)
    by_cases e : t = n
    · subst e
      rw [hp, hq, cn_cong (P := Q) (Q := P) t (fun i hi => h i (by omega))]
      rfl
    · rw [h n (by omega), ← ih (by omega)]
      omega
theorem low_clear {m t : Nat} (ht : m.testBit t = true) (hl : ∀ i, i < t → m.testBit i = false) (j : Nat) : (m &&& (m - 1)).testBit j = (m.testBit j && !decide (j = t)) := by
  have hm : m % 2 ^ (t + 1) = 2 ^ t := by
    apply Nat.eq_of_testBit_eq
    intro i
    rw [Nat.testBit_mod_two_pow, Nat.testBit_two_pow]
    rcases Nat.lt_trichotomy i t with y | y | y
    · rw [hl i y]
      have : ¬ t = i := by omega
      simp [this]
    · subst y; rw [ht]; simp
    · have h1 : ¬ i < t + 1 := by omega
      have h2 : ¬ t = i := by omega
      simp [h1, h2]
  have hd := Nat.div_add_mod m (2 ^ (t + 1))
  rw [hm] at hd
  have hp := Nat.two_pow_pos t
  have hpp : 2 ^ t < 2 ^ (t + 1) := Nat.pow_lt_pow_right (by omega) (by omega)
  have b1 := Nat.testBit_two_pow_mul_add (m / 2 ^ (t + 1)) (i := t + 1) (b := 2 ^ t) hpp j
  have b2 := Nat.testBit_two_pow_mul_add (m / 2 ^ (t + 1)) (i := t + 1) (b := 2 ^ t - 1) (by omega) j
  have e2 : 2 ^ (t + 1) * (m / 2 ^ (t + 1)) + (2 ^ t - 1) = m - 1 := by omega
  rw [hd] at b1
  rw [e2] at b2
  rw [Nat.testBit_and, b1, b2, Nat.testBit_two_pow, Nat.testBit_two_pow_sub_one]
  by_cases q : j < t + 1
  · rw [if_pos q, if_pos q]
    by_cases y : j = t
    · simp [y]
    · have : ¬ t = j := fun z => y z.symm
      simp [this]
  · rw [if_neg q, if_neg q]
    have : ¬ j = t := by omega
    simp [this]
theorem m_ones {m : Nat} (hm : m < 65536) : M_X9_ones (nI m) = some (nI (pc16 m 16)) := by
  have st : ∀ fu c m, m < 65536 → pc16 m 16 < fu → ∀ x, M_X9_ones_4 x fu (nI c, nI m) = some (nI (c + pc16 m 16)) := by
    intro fu
    induction fu with
    | zero => intro c m _ h; omega
    | succ fu ih =>
      intro c m hm hf x
      show M_X9_ones_4b _ _ _ = _
      unfold M_X9_ones_4b
      dsimp only
      by_cases z : m = 0
      · subst z
        rw [if_pos n0I]
        rfl
      · rw [if_neg (nI_ne0 (by omega) (by omega))]
        have hex : ∃ i, i < 16 ∧ m.testBit i = true := by
          by_cases h : ∃ i, i < 16 ∧ m.testBit i = true
          · exact h
          · exact absurd (bits_eq (n := 16) hm (Nat.two_pow_pos _) (fun i hi => by
              rw [Nat.zero_testBit]
              cases e : m.testBit i
              · rfl
              · exact absurd ⟨i, hi, e⟩ h)) z
        obtain ⟨t, _, t1, t2, t3⟩ := fs_some (P := fun i => m.testBit i) 16 hex
        have lc := low_clear t2 t3
        have le : m &&& (m - 1) < 65536 := Nat.lt_of_le_of_lt Nat.and_le_left hm
        have cc : pc16 (m &&& (m - 1)) 16 + 1 = pc16 m 16 := by
          rw [pc_cn (m := m &&& (m - 1)) 16 (fun i _ => rfl), pc_cn (m := m) 16 (fun i _ => rfl)]
          apply cn_less (t := t) t2
          · rw [lc]; simp
          · intro i hi; rw [lc]; simp [hi]
          · exact t1
        have e1 : nI m - (1 : Int32) = nI (m - 1) := n_sub (b := 1) (by omega)
        rw [e1, n_and, ← nI_succ, ih (c + 1) _ le (by omega) x]
        congr 2
        omega
  have le : pc16 m 16 ≤ 16 := by
    rw [pc_cn (m := m) 16 (fun i _ => rfl)]
    exact cn_le _ 16
  unfold M_X9_ones
  rw [show (0 : Int32) = nI 0 from rfl, st 200 0 m hm (by omega), Nat.zero_add]
theorem i75 {m : Nat} (hm : m < 65537) : ((75 : Int32) * nI m + 74) - ((75 : Int32) * nI m + 74) / (65537 : Int32) * (65537 : Int32) = nI ((75 * m + 74) % 65537) := by
  have e : (75 : Int32) * nI m + 74 = nI (75 * m + 74) := by
    rw [show (75 : Int32) = nI 75 from rfl, show (74 : Int32) = nI 74 from rfl, pk_mul, nI_add]
  rw [e]
  exact n_rem (d := 65537) (by omega) (by omega) (by omega)
theorem l75 {m : Nat} (hm : m < 65537) : (((75 : Int64) * (nI m).toInt64 + 74) - ((75 : Int64) * (nI m).toInt64 + 74) / (65537 : Int64) * (65537 : Int64)).toInt32 = nI ((75 * m + 74) % 65537) := by
  have e : (75 : Int64) * (nI m).toInt64 + 74 = lN (75 * m + 74) := by
    rw [nI_l (by omega), show (75 : Int64) = lN 75 from rfl, show (74 : Int64) = lN 74 from rfl, lN_mul, lN_add]
  rw [e, show (65537 : Int64) = lN 65537 from rfl, pk_lRem (by omega) (by omega) (by omega), lN_i]
theorem k65 : ¬ (65537 : Int32) = 0 := by decide +kernel
theorem l65 : ¬ (65537 : Int64) = 0 := by decide +kernel
theorem k5 : ¬ (5 : Int32) = 0 := by decide +kernel
theorem op_night {h : HT} {v : VT} {mb : BT} (r : RT) (mn : NT) (x1 x2 x3 : Int32) (rh : RH h v mb) : ∃ z r' mn', M_X8_night h v r x1 x2 x3 = some (z, r') ∧ M_X9_night mb mn x1 x2 x3 = some (z, mn') := by
  obtain ⟨R, C, sg, dr, th, er, k, wc, wl, wd, ho, ⟨hx1, hx2, hx3⟩, hr⟩ := rh
  subst hx1
  have h16 := ho.1.n16
  have e1 : M_X9_in x1.toInt64 (0 : Int64) (9999 : Int64) = some (if 0 ≤ x1 ∧ x1 ≤ 9999 then 1 else 0) := m_in x1 0 9999
  have e2 : M_X9_in x2.toInt64 (0 : Int64) (99 : Int64) = some (if 0 ≤ x2 ∧ x2 ≤ 99 then 1 else 0) := m_in x2 0 99
  have e3 : M_X9_in x3.toInt64 (0 : Int64) (2 : Int64) = some (if 0 ≤ x3 ∧ x3 ≤ 2 then 1 else 0) := m_in x3 0 2
  unfold M_X8_night M_X9_night
  rw [m_within, m_within, m_within, e1, e2, e3]
  simp only [bx]
  by_cases q1 : 0 ≤ x1 ∧ x1 ≤ 9999
  · rw [if_pos q1, if_neg k10, if_neg k10]
    by_cases q2 : 0 ≤ x2 ∧ x2 ≤ 99
    · rw [if_pos q2, if_neg k10, if_neg k10]
      by_cases q3 : 0 ≤ x3 ∧ x3 ≤ 2
      · rw [if_pos q3, if_neg k10, if_neg k10]
        obtain ⟨m, _, m1, rfl⟩ := rng (a := 0) (b := 9999) (by omega) (by omega) q1.1 q1.2
        obtain ⟨n, _, n1, rfl⟩ := rng (a := 0) (b := 99) (by omega) (by omega) q2.1 q2.2
        obtain ⟨w, _, w1, rfl⟩ := rng (a := 0) (b := 2) (by omega) (by omega) q3.1 q3.2
        obtain ⟨r0, mn0, b1, b2, b3⟩ := m_begin r mn ho hx2 hx3 hr
        rw [b1, b2, bx, bx]
        have st : ∀ fu i x a now b s (r : RT) (mn : NT), i ≤ n → n - i < fu → x < 65537 → WR R C sg er k wc wl wd now b s r mn → ∃ z r' mn', M_X8_night_53 (hOf R C sg dr th er) v (nI m) (nI n) (nI w) fu (r, nI x, nI a, nI i) = some (z, r') ∧ M_X9_night_52 mb (nI m) (nI n) (nI w) fu (mn, nI x, nI a, nI i) = some (z, mn') := by
          intro fu
          induction fu with
          | zero => intro i x a now b s r mn _ h; omega
          | succ fu ih =>
            intro i x a now b s r mn hi hfu hx hw
            have ex : ∀ a, M_X8_night_53 (hOf R C sg dr th er) v (nI m) (nI n) (nI w) (fu + 1) a = M_X8_night_53b (hOf R C sg dr th er) v (nI m) (nI n) (nI w) (M_X8_night_53 (hOf R C sg dr th er) v (nI m) (nI n) (nI w) fu) a := fun a => rfl
            have em : ∀ a, M_X9_night_52 mb (nI m) (nI n) (nI w) (fu + 1) a = M_X9_night_52b mb (nI m) (nI n) (nI w) (M_X9_night_52 mb (nI m) (nI n) (nI w) fu) a := fun a => rfl
            rw [ex, em]
            unfold M_X8_night_53b M_X9_night_52b M_X8_night_109 M_X9_night_100
            dsimp only
            rcases Nat.lt_or_ge i n with q | q
            · rw [if_neg (nI_ge q (by omega)), if_neg (nI_ge q (by omega)), if_pos k65, if_pos l65, if_pos k5, if_pos k5, i75 hx, l75 hx]
              have hy : (75 * x + 74) % 65537 < 65537 := Nat.mod_lt _ (by omega)
              generalize (75 * x + 74) % 65537 = y at hy ⊢
              have d2 : nI y - nI y / (5 : Int32) * (5 : Int32) = nI (y % 5) := n_rem (d := 5) (by omega) (by omega) (by omega)
              rw [d2]
              have go : ∀ c now b s (r' : RT) (mn' : NT), WR R C sg er k wc wl wd now b s r' mn' → M_X6_take r (hOf R C sg dr th er) (nI (y % 5)) = some (c, r') → M_X9_step mb mn (nI (y % 5)) = some (c, mn') → ∃ z r' mn', ((M_X6_take r (hOf R C sg dr th er) (nI (y % 5))).bind fun z85 => (M_X6_firstShownTo z85.2 (hOf R C sg dr th er) v (0 : Int32)).bind fun z98 => if z98 = (-6 : Int32) then (M_X8_night_53 (hOf R C sg dr th er) v (nI m) (nI n) (nI w) fu (z85.2, nI y, nI a, (nI i + 1))) else (M_X8_night_53 (hOf R C sg dr th er) v (nI m) (nI n) (nI w) fu (z85.2, nI y, (nI a + 1), (nI i + 1)))) = some (z, r') ∧ ((M_X9_step mb mn (nI (y % 5))).bind fun z81 => (M_X9_shownTo mb z81.2 (1 : Int32)).bind fun z89 => if z89 < 0 then (M_X9_night_52 mb (nI m) (nI n) (nI w) fu (z81.2, nI y, (nI a + 0), (nI i + 1))) else (M_X9_night_52 mb (nI m) (nI n) (nI w) fu (z81.2, nI y, (nI a + 1), (nI i + 1)))) = some (z, mn') := by
                intro c now b s r' mn' t3 t1 t2
                obtain ⟨z, s1, s2, s3⟩ := m_shown true ho hx2 hr t3
                rw [t1, t2, bx, bx]
                dsimp only
                rw [show M_X6_firstShownTo r' (hOf R C sg dr th er) v (0 : Int32) = some z from s1, show M_X9_shownTo mb mn' (1 : Int32) = some z from s2, bx, bx, show nI a + 0 = nI a from nI_add a 0, ← nI_succ, ← nI_succ]
                rcases s3 with s3 | ⟨u, u1, s3⟩
                · rw [s3, if_pos rfl, if_pos m6neg]
                  exact ih (i + 1) _ _ _ _ _ _ _ (by omega) (by omega) hy t3
                · have h4 := ho.2.2.2.2.2.1
                  rw [s3, if_neg (m6ne (by omega)), if_neg (nI_pos (by omega))]
                  exact ih (i + 1) _ _ _ _ _ _ _ (by omega) (by omega) hy t3
              rcases m_take ho hr hw (Nat.mod_lt y (by omega : 0 < 5)) with ⟨e, r', mn', t1, t2, t3⟩ | ⟨qq, r', mn', e, t1, t2, t3⟩
              · exact go 0 _ _ _ r' mn' t3 t1 t2
              · exact go 1 _ _ _ r' mn' t3 t1 t2
            · have e : i = n := by omega
              subst e
              obtain ⟨a1, a2, a3, a4, a5, a6, a7, a8⟩ := id hw
              rw [if_pos (nI_le (Nat.le_refl _) (by omega)), if_pos (nI_le (Nat.le_refl _) (by omega)), a8]
              dsimp only
              obtain rfl | rfl | rfl : w = 0 ∨ w = 1 ∨ w = 2 := by omega
              · rw [if_pos n0I, if_pos n0I]
                exact ⟨_, _, _, rfl, rfl⟩
              · rw [if_neg (show ¬ nI 1 = 0 by decide +kernel), if_neg (show ¬ nI 1 = 0 by decide +kernel), if_pos (show nI 1 = 1 from rfl), if_pos (show nI 1 = 1 from rfl), a4, m_cellOf now (by omega), bx]
                exact ⟨_, _, _, rfl, rfl⟩
              · rw [if_neg (show ¬ nI 2 = 0 by decide +kernel), if_neg (show ¬ nI 2 = 0 by decide +kernel), if_neg (show ¬ nI 2 = 1 by decide +kernel), if_neg (show ¬ nI 2 = 1 by decide +kernel), a5, m_bitCount (lt16 ho.1 a3), m_ones (lt16 ho.1 a3), bx, bx]
                exact ⟨_, _, _, rfl, rfl⟩
        exact st 200 0 m 0 _ _ _ _ _ (by omega) (by omega) (by omega) b3
      · rw [if_neg q3, if_pos k00, if_pos k00]
        exact ⟨_, _, _, rfl, rfl⟩
    · rw [if_neg q2, if_pos k00, if_pos k00]
      exact ⟨_, _, _, rfl, rfl⟩
  · rw [if_neg q1, if_pos k00, if_pos k00]
    exact ⟨_, _, _, rfl, rfl⟩
end
section
/-! meet, wind -/
theorem pw5 : ∀ n, n < 9 → M_X8_power 5 (nI n) = some (nI (5 ^ n)) := by decide +kernel
theorem fv5 : ∀ n, n < 9 → M_X9_fives (nI n) = some (nI (5 ^ n)) := by decide +kernel
theorem fv5lt : ∀ n, n < 9 → 5 ^ n < 400000 := by decide +kernel
theorem within_good {c n : Nat} (hc : c < n) (hn : n < 2 ^ 31) : M_X8_within (nI c) 0 (nI n - 1) = some 1 := by
  rw [m_within, if_pos]
  have e : nI n - 1 = nI (n - 1) := n_sub (a := n) (b := 1) (by omega)
  rw [e]
  exact ⟨nI_pos' (by omega), nI_le (by omega) (by omega)⟩
theorem within_bad {x : Int32} {n : Nat} (h0 : 0 < n) (hn : n < 2 ^ 31) (h : x < 0 ∨ nI n ≤ x) : M_X8_within x 0 (nI n - 1) = some 0 := by
  rw [m_within, if_neg]
  intro ab
  have e : nI n - 1 = nI (n - 1) := n_sub (a := n) (b := 1) h0
  rw [e] at ab
  rcases h with h | h
  · exact absurd ab.1 (Int32.not_le.mpr h)
  · exact absurd (Int32.le_trans h ab.2) (nI_ge (by omega) hn)
theorem p2_eq : ∀ a, a < 16 → ∀ b, b < 16 → (nI (2 ^ a) = nI (2 ^ b) ↔ a = b) := by decide +kernel
theorem m_stepTold {st n i : Nat} (hs : st < 2 ^ 31) (hi : i < n) (hn : n < 9) : M_X8_stepTold (nI st) (nI n) (nI i) = some (nI (st / 5 ^ (n - 1 - i) % 5)) := by
  have lp : ∀ fu d rest, d < fu → d < 9 → rest < 2 ^ 31 → M_X8_stepTold_7 (nI st) (nI n) (nI i) fu (nI rest, nI (i + d)) = some (nI (rest / 5 ^ d % 5)) := by
    intro fu
    induction fu with
    | zero => intro d _ h; omega
    | succ fu ih =>
      intro d rest hd h9 hr
      show M_X8_stepTold_7b _ _ _ _ _ = _
      unfold M_X8_stepTold_7b
      dsimp only
      have d1 : nI rest / (5 : Int32) = nI (rest / 5) := pk_div (d := 5) hr (by omega) (by omega)
      have d2 : nI rest - nI rest / (5 : Int32) * (5 : Int32) = nI (rest % 5) := n_rem (d := 5) hr (by omega) (by omega)
      cases d with
      | zero =>
        rw [if_pos (nI_le (a := i + 0) (b := i) (by omega) (by omega)), if_pos k5, d2, Nat.pow_zero, Nat.div_one]
      | succ d =>
        rw [if_neg (nI_ge (a := i) (b := i + (d + 1)) (by omega) (by omega)), if_pos k5, d1, show nI (i + (d + 1)) + (-1) = nI (i + d) from pk_m1 (i + d), ih d _ (by omega) (by omega) (by omega), Nat.div_div_eq_div_mul, Nat.pow_succ, Nat.mul_comm (5 ^ d) 5]
  unfold M_X8_stepTold
  have e : nI n - (1 : Int32) = nI (i + (n - 1 - i)) := by
    rw [show nI n - (1 : Int32) = nI (n - 1) from n_sub (b := 1) (by omega)]
    congr 1
    omega
  rw [e]
  exact lp 200 _ _ (by omega) (by omega) hs
theorem stp4 {R C c : Nat} {sg : Nat → Nat} (h : sg c ≠ 35) : stp R C sg c 4 = some c := by
  unfold stp
  rw [show nb R C c 4 = some c from rfl]
  exact if_neg h
theorem getD_lt {R C c w : Nat} {sg : Nat → Nat} (h : okD R C) (hc : c < R * C) (hs : sg c ≠ 35) (hw : w < 5) : (stp R C sg c w).getD c < R * C ∧ sg ((stp R C sg c w).getD c) ≠ 35 := by
  cases e : stp R C sg c w with
  | none => exact ⟨hc, hs⟩
  | some q => exact ⟨(stp_lt h hc hw e).1, (stp_lt h hc hw e).2.1⟩
theorem m_meetB {R C n m i st now b oth : Nat} {s : Bool} {f : Nat → Nat} {p : PT} {mo : OT} {sg : Nat → Nat} {dr th er k : Nat} {wc wl wd : Nat → Nat} {r : RT} {mn : NT} {mb : BT} (rc : NT × GT × Int32 × Int32 → Option (Int32 × NT × GT)) (mg : GT) (ho : okS R C sg dr th er k wc wl wd) (hr : rM R C sg dr th er k wc wl wd mb) (hp : PdX n f p mo) (hw : WR R C sg er k wc wl wd now b s r mn) (hi : i < n) (him : i < m) (hm : m < 9) (hst : st < 2 ^ 31) (o1 : oth < R * C) (o2 : sg oth ≠ 35) : ∃ r' mn' b' s', M_X9_meet_73b mb mo (nI st) (nI m) rc (mn, mg, nI oth, nI i) = M_X9_meet_147 mb mo (nI st) (nI m) rc (mn', mg, nI oth, nI i, nI now, nI oth, oI (stp R C sg oth (st / 5 ^ (m - 1 - i) % 5))) ∧ WR R C sg er k wc wl wd ((stp R C sg now (wv (f i))).getD now) b' s' r' mn' := by
  obtain ⟨h40, h1, h2, hf⟩ := id hp
  obtain ⟨f1, f2, f3, f4⟩ := hf i hi
  have p6 := fv5lt (m - 1 - i) (by omega)
  have p7 : 0 < 5 ^ (m - 1 - i) := Nat.pow_pos (by omega)
  have ee : (nI m - (1 : Int32)) - nI i = nI (m - 1 - i) := by
    rw [show nI m - (1 : Int32) = nI (m - 1) from n_sub (b := 1) (by omega), n_sub (by omega)]
  have dd : nI st / nI (5 ^ (m - 1 - i)) = nI (st / 5 ^ (m - 1 - i)) := pk_div (by omega) p7 (by omega)
  have le : st / 5 ^ (m - 1 - i) ≤ st := Nat.div_le_self _ _
  have d5 : nI (st / 5 ^ (m - 1 - i)) - nI (st / 5 ^ (m - 1 - i)) / (5 : Int32) * (5 : Int32) = nI (st / 5 ^ (m - 1 - i) % 5) := n_rem (d := 5) (by omega) (by omega) (by omega)
  have h5 : st / 5 ^ (m - 1 - i) % 5 < 5 := Nat.mod_lt _ (by omega)
  have em : mn.1 = nI now := by rw [hw.2.2.2.2.2.2.2]
  have fin : ∀ c mn', M_X9_step mb mn (nI (wv (f i))) = some (c, mn') → M_X9_meet_73b mb mo (nI st) (nI m) rc (mn, mg, nI oth, nI i) = M_X9_meet_147 mb mo (nI st) (nI m) rc (mn', mg, nI oth, nI i, nI now, nI oth, oI (stp R C sg oth (st / 5 ^ (m - 1 - i) % 5))) := by
    intro c mn' t2
    unfold M_X9_meet_73b
    dsimp only
    rw [h2, if_neg (nI_ge hi (by omega)), if_neg (nI_ge him (by omega)), if_pos (nI_in (c := i) (N := 40) (by omega) (by omega)), nI_clamp (by omega), f4, wyw _ (by omega), bx, t2, bx, ee, fv5 _ (by omega), bx, if_pos (nI_ne0 p7 (by omega)), if_pos k5, dd, d5, em]
    generalize st / 5 ^ (m - 1 - i) % 5 = w at h5 ⊢
    by_cases w4 : w = 4
    · subst w4
      rw [if_pos (show nI 4 = 4 from rfl), stp4 o2]
      rfl
    · rw [if_neg (show ¬ nI w = 4 from w_ne (b := 4) (by omega) (by omega) w4), m_beyond ho hr o1 h5, bx]
  rcases m_take ho hr hw (wv5 (f i)) with ⟨e, r', mn', t1, t2, t3⟩ | ⟨q, r', mn', e, t1, t2, t3⟩
  · refine ⟨r', mn', b, false, fin _ _ t2, ?_⟩
    rw [e]; exact t3
  · refine ⟨r', mn', b ||| 2 ^ q, decide (wv (f i) < 4), fin _ _ t2, ?_⟩
    rw [e]; exact t3
theorem m_meetC {R C n m i st now now' oth : Nat} {sg : Nat → Nat} {mb : BT} {mo : OT} {mn' : NT} (rc : NT × GT × Int32 × Int32 → Option (Int32 × NT × GT)) (mg : GT) (o : Option Nat) (e1 : mn'.1 = nI now') (ho : ∀ q, o = some q → q < 16) (h1 : now' < 16) (h2 : oth < 16) (h3 : now < 16) : M_X9_meet_147 mb mo (nI st) (nI m) rc (mn', mg, nI oth, nI i, nI now, nI oth, oI o) = (if now' = o.getD oth ∨ (now' = oth ∧ o.getD oth = now) then some (nI i, mn', mg) else rc (mn', mg, nI (o.getD oth), nI (i + 1))) := by
  have k : M_X9_meet_147 mb mo (nI st) (nI m) rc (mn', mg, nI oth, nI i, nI now, nI oth, oI o) = M_X9_meet_161 mb mo (nI st) (nI m) rc (mn', mg, nI i, nI now, nI oth, nI (o.getD oth)) := by
    unfold M_X9_meet_147
    dsimp only
    cases o with
    | none => rw [if_pos (show oI none < 0 by decide +kernel)]; rfl
    | some q =>
      have := ho q rfl
      rw [if_neg (show ¬ oI (some q) < 0 from nI_pos (by omega))]; rfl
  have h4 : o.getD oth < 16 := by
    cases o with
    | none => exact h2
    | some q => exact ho q rfl
  rw [k]
  unfold M_X9_meet_161 M_X9_meet_191
  dsimp only
  rw [e1, ← nI_succ]
  generalize o.getD oth = t at h4 ⊢
  by_cases c1 : now' = t
  · rw [if_pos (show nI now' = nI t by rw [c1]), if_pos (Or.inl c1)]
  · rw [if_neg (w_ne (by omega) (by omega) c1)]
    by_cases c2 : now' = oth
    · rw [if_pos (show nI now' = nI oth by rw [c2])]
      by_cases c3 : t = now
      · rw [if_pos (show nI t = nI now by rw [c3]), if_pos (Or.inr ⟨c2, c3⟩)]
      · rw [if_neg (w_ne (by omega) (by omega) c3), if_neg (fun z => z.elim c1 (fun z => c3 z.2))]
    · rw [if_neg (w_ne (by omega) (by omega) c2), if_neg (fun z => z.elim c1 (fun z => c2 z.1))]
theorem m_meetX {R C n m i st now oth : Nat} {f : Nat → Nat} {p : PT} {mo : OT} {sg : Nat → Nat} (dr th er : Nat) (x : Int32) (rc : Int32 × Int32 × Int32 × Int32 → Option Int32) (h : okD R C) (hp : PdX n f p mo) (hW : isW (f i) = true) (hi : i < n) (him : i < m) (hm : m < 9) (hst : st < 2 ^ 31) (a1 : now < R * C) (a2 : sg now ≠ 35) (o1 : oth < R * C) (o2 : sg oth ≠ 35) (hx : ¬ x ≤ nI i) : M_X8_firstMeeting_39b p (hOf R C sg dr th er) (nI st) (nI m) rc (nI (2 ^ now), nI (2 ^ oth), x, nI i) = (if (stp R C sg now (wv (f i))).getD now = (stp R C sg oth (st / 5 ^ (m - 1 - i) % 5)).getD oth ∨ ((stp R C sg now (wv (f i))).getD now = oth ∧ (stp R C sg oth (st / 5 ^ (m - 1 - i) % 5)).getD oth = now) then some (nI i) else rc (nI (2 ^ ((stp R C sg now (wv (f i))).getD now)), nI (2 ^ ((stp R C sg oth (st / 5 ^ (m - 1 - i) % 5)).getD oth)), x, nI (i + 1))) := by
  have h16 := h.n16
  have h5 : st / 5 ^ (m - 1 - i) % 5 < 5 := Nat.mod_lt _ (by omega)
  unfold M_X8_firstMeeting_39b M_X8_firstMeeting_106
  dsimp only
  rw [if_neg hx, m_stepAt hp hi hW, bx, m_stepOrStay sg dr th er h a1 (wv5 (f i)), bx, m_stepTold hst him hm, bx, m_stepOrStay sg dr th er h o1 h5, bx, ← nI_succ]
  have g1 := (getD_lt h a1 a2 (wv5 (f i))).1
  have g2 := (getD_lt h o1 o2 h5).1
  generalize (stp R C sg now (wv (f i))).getD now = u at g1 ⊢
  generalize (stp R C sg oth (st / 5 ^ (m - 1 - i) % 5)).getD oth = t at g2 ⊢
  by_cases c1 : u = t
  · rw [if_pos ((p2_eq u (by omega) t (by omega)).mpr c1), if_pos (Or.inl c1)]
  · rw [if_neg (fun z => c1 ((p2_eq u (by omega) t (by omega)).mp z))]
    by_cases c2 : u = oth
    · rw [if_pos ((p2_eq u (by omega) oth (by omega)).mpr c2)]
      by_cases c3 : t = now
      · rw [if_pos ((p2_eq t (by omega) now (by omega)).mpr c3), if_pos (Or.inr ⟨c2, c3⟩)]
      · rw [if_neg (fun z => c3 ((p2_eq t (by omega) now (by omega)).mp z)), if_neg (fun z => z.elim c1 (fun z => c3 z.2))]
    · rw [if_neg (fun z => c2 ((p2_eq u (by omega) oth (by omega)).mp z)), if_neg (fun z => z.elim c1 (fun z => c2 z.1))]
theorem op_meet {p : PT} {mo : OT} {h : HT} {v : VT} {mb : BT} (r : RT) (d : DT) (mn : NT) (mg : GT) (x1 x2 : Int32) (rp : RPd p mo) (rh : RH h v mb) : ∃ z r' d' mn' mg', M_X8_meet p h v r d x1 x2 = some (z, r', d') ∧ M_X9_meet mb mo mn mg x1 x2 = some (z, mn', mg') := by
  obtain ⟨R, C, sg, dr, th, er, k, wc, wl, wd, ho, ⟨hx1, hx2, hx3⟩, hr⟩ := rh
  obtain ⟨n, f, hp⟩ := rp
  have hp : PdX n f p mo := hp
  obtain ⟨h40, h1, h2, hf⟩ := id hp
  subst hx1
  have h16 := ho.1.n16
  have e1 : M_X9_in x2.toInt64 (0 : Int64) (8 : Int64) = some (if 0 ≤ x2 ∧ x2 ≤ 8 then 1 else 0) := m_in x2 0 8
  unfold M_X8_meet M_X9_meet
  rw [m_within, e1, bx, bx]
  by_cases q1 : 0 ≤ x2 ∧ x2 ≤ 8
  · rw [if_pos q1, if_neg k10, if_neg k10, bx, if_neg k10]
    obtain ⟨m, _, m1, rfl⟩ := rng (a := 0) (b := 8) (by omega) (by omega) q1.1 q1.2
    have p5 := fv5lt m (by omega)
    have p0 : 0 < 5 ^ m := Nat.pow_pos (by omega)
    unfold M_X9_meet_32
    dsimp only
    rw [pw5 m (by omega), fv5 m (by omega), bx, bx]
    rcases cell_cs (x := x1) (n := 5 ^ m) (by omega) with ⟨st, hst, rfl⟩ | q
    · rw [within_good hst (by omega), in_good hst (by omega), bx, bx, if_neg k10, if_neg k10]
      rcases m_walk r d mn mg ho hx2 hx3 hr hp with ⟨w1, w2⟩ | ⟨d', r', mn', g', w1, w2, w3⟩ | ⟨d', r', mn', g', w1, w2, w3, w4, w5⟩
      · rw [w1, w2, bx, bx]
        dsimp only
        rw [if_neg (show ¬ (-5 : Int32) = 0 by decide +kernel), if_neg (show ¬ (-5 : Int32) = -6 by decide +kernel)]
        exact ⟨_, _, _, _, _, rfl, rfl⟩
      · rw [w1, w2, bx, bx]
        dsimp only
        rw [if_neg (show ¬ (-3 : Int32) = 0 by decide +kernel), if_neg (show ¬ (-3 : Int32) = -6 by decide +kernel)]
        exact ⟨_, _, _, _, _, rfl, rfl⟩
      · rw [w1, w2, bx, bx]
        dsimp only
        rw [if_pos k00, if_pos (show (-6 : Int32) = -6 from rfl)]
        obtain ⟨r0, mn0, b1, b2, b3⟩ := m_begin r mn' ho hx2 hx3 hr
        have lp : ∀ fu i now b s oth (r : RT) (mn : NT), i ≤ n → i ≤ m → n - i < fu → WR R C sg er k wc wl wd now b s r mn → oth < R * C → sg oth ≠ 35 → ∃ z mn2 mg2, M_X8_firstMeeting_39 p (hOf R C sg dr th er) (nI st) (nI m) fu (nI (2 ^ now), nI (2 ^ oth), nI (if n < m then n else m), nI i) = some z ∧ M_X9_meet_73 mb mo (nI st) (nI m) fu (mn, g', nI oth, nI i) = some (z, mn2, mg2) := by
          intro fu
          induction fu with
          | zero => intro i now b s oth r mn _ _ h; omega
          | succ fu ih =>
            intro i now b s oth r mn hi him hfu hw ho1 ho2
            have ex : ∀ a, M_X8_firstMeeting_39 p (hOf R C sg dr th er) (nI st) (nI m) (fu + 1) a = M_X8_firstMeeting_39b p (hOf R C sg dr th er) (nI st) (nI m) (M_X8_firstMeeting_39 p (hOf R C sg dr th er) (nI st) (nI m) fu) a := fun a => rfl
            have em : ∀ a, M_X9_meet_73 mb mo (nI st) (nI m) (fu + 1) a = M_X9_meet_73b mb mo (nI st) (nI m) (M_X9_meet_73 mb mo (nI st) (nI m) fu) a := fun a => rfl
            rw [ex, em]
            by_cases q : i < n ∧ i < m
            · have hmin : i < (if n < m then n else m) := by split <;> omega
              have hminl : (if n < m then n else m) < 2 ^ 31 := by split <;> omega
              have h5 : st / 5 ^ (m - 1 - i) % 5 < 5 := Nat.mod_lt _ (by omega)
              obtain ⟨a1, a2, _⟩ := id hw
              obtain ⟨r', mn', b', s', t1, t2⟩ := m_meetB (st := st) (M_X9_meet_73 mb mo (nI st) (nI m) fu) g' ho hr hp hw q.1 q.2 (by omega) (by omega) ho1 ho2
              have g1 := getD_lt ho.1 a1 a2 (wv5 (f i))
              have g2 := getD_lt ho.1 ho1 ho2 h5
              rw [m_meetX dr th er _ _ ho.1 hp (w5 i q.1) q.1 q.2 (by omega) (by omega) a1 a2 ho1 ho2 (nI_ge hmin hminl), t1, m_meetC (sg := sg) (R := R) (C := C) (n := n) _ _ _ (by rw [t2.2.2.2.2.2.2.2]) (fun q' e => by have := (stp_lt ho.1 ho1 h5 e).1; omega) (by omega) (by omega) (by omega)]
              split
              · exact ⟨_, _, _, rfl, rfl⟩
              · exact ih (i + 1) _ _ _ _ _ _ (by omega) (by omega) (by omega) t2 g2.1 g2.2
            · unfold M_X8_firstMeeting_39b M_X9_meet_73b
              dsimp only
              have hmin : (if n < m then n else m) ≤ i := by split <;> omega
              rw [if_pos (nI_le hmin (by omega)), h2]
              by_cases y : i < n
              · rw [if_neg (nI_ge y (by omega)), if_pos (nI_le (by omega) (by omega))]
                exact ⟨_, _, _, rfl, rfl⟩
              · rw [if_pos (nI_le (by omega) (by omega))]
                exact ⟨_, _, _, rfl, rfl⟩
        obtain ⟨z, mn2, mg2, l1, l2⟩ := lp 200 0 dr (2 ^ dr) false th r0 mn0 (by omega) (by omega) (by omega) b3 ho.2.2.2.1.1 ho.2.2.2.1.2
        have hmn : (if p.1 < nI m then p.1 else nI m) = nI (if n < m then n else m) := by
          rw [h1]
          by_cases y : n < m
          · rw [if_pos (nI_lt y (by omega)), if_pos y]
          · rw [if_neg (nI_nlt (by omega) (by omega)), if_neg y]
        unfold M_X8_firstMeeting
        rw [show M_X8_bit (hOf R C sg dr th er).2.2.2.2.2.2.2.2.2.1 = some (nI (2 ^ dr)) from m_bit (by have := ho.2.2.1.1; omega), show M_X8_bit (hOf R C sg dr th er).2.2.2.2.2.2.2.2.2.2.1 = some (nI (2 ^ th)) from m_bit (by have := ho.2.2.2.1.1; omega), bx, bx, hmn, show M_X8_firstMeeting_39 p (hOf R C sg dr th er) (nI st) (nI m) 200 (nI (2 ^ dr), nI (2 ^ th), nI (if n < m then n else m), 0) = some z from l1, b2, bx, bx, hr.2.2.2.1, show M_X9_meet_73 mb mo (nI st) (nI m) 200 (mn0, g', nI th, 0) = some (z, mn2, mg2) from l2]
        exact ⟨_, _, _, _, _, rfl, rfl⟩
    · rw [within_bad p0 (by omega) q, in_bad (by omega) q, bx, bx, if_pos k00, if_pos k00]
      exact ⟨_, _, _, _, _, rfl, rfl⟩
  · rw [if_neg q1, if_pos k00, if_pos k00]
    exact ⟨_, _, _, _, _, rfl, rfl⟩
def pwL (x : Int64) : Nat → Int64
  | 0 => 1
  | n + 1 => pwL x n * x
theorem pt_low : ∀ w, w < 11 → ∀ b, b < 13 → ∀ q, q < 2 → M_X8_powerOfTenths (nI w) (nI b) (nI q) = M_X9_lowest (pwL (nI w).toInt64 b) (pwL 10 b) (nI q) := by decide +kernel
theorem pt_some : ∀ w, w < 11 → ∀ b, b < 13 → ∀ q, q < 2 → (M_X8_powerOfTenths (nI w) (nI b) (nI q)).isSome = true := by decide +kernel
theorem op_wind {p : PT} {mo : OT} {h : HT} {v : VT} {mb : BT} (r : RT) (d : DT) (mn : NT) (mg : GT) (x1 x2 : Int32) (rp : RPd p mo) (rh : RH h v mb) : ∃ z r' d' mn' mg', M_X8_wind p h v r d x1 x2 = some (z, r', d') ∧ M_X9_wind mb mo mn mg x1 x2 = some (z, mn', mg') := by
  obtain ⟨R, C, sg, dr, th, er, k, wc, wl, wd, ho, ⟨hx1, hx2, hx3⟩, hr⟩ := rh
  obtain ⟨n, f, hp⟩ := rp
  have hp : PdX n f p mo := hp
  have h40 := hp.1
  subst hx1
  have e1 : M_X9_in x1.toInt64 (0 : Int64) (10 : Int64) = some (if 0 ≤ x1 ∧ x1 ≤ 10 then 1 else 0) := m_in x1 0 10
  have e2 : M_X9_in x2.toInt64 (0 : Int64) (1 : Int64) = some (if 0 ≤ x2 ∧ x2 ≤ 1 then 1 else 0) := m_in x2 0 1
  unfold M_X8_wind M_X9_wind M_X8_wind_19 M_X9_wind_22
  rw [m_within, m_within, e1, e2]
  simp only [bx]
  by_cases q1 : 0 ≤ x1 ∧ x1 ≤ 10
  · rw [if_pos q1, if_neg k10, if_neg k10]
    by_cases q2 : 0 ≤ x2 ∧ x2 ≤ 1
    · rw [if_pos q2, if_neg k10, if_neg k10]
      obtain ⟨w, _, w1, rfl⟩ := rng (a := 0) (b := 10) (by omega) (by omega) q1.1 q1.2
      obtain ⟨pp, _, p1, rfl⟩ := rng (a := 0) (b := 1) (by omega) (by omega) q2.1 q2.2
      rcases m_walk r d mn mg ho hx2 hx3 hr hp with ⟨w1, w2⟩ | ⟨d', r', mn', g', w1, w2, w3⟩ | ⟨d', r', mn', g', y1, y2, y3, y4, y5⟩
      · rw [w1, w2, bx, bx]
        dsimp only
        rw [if_neg (show ¬ (-5 : Int32) = 0 by decide +kernel), if_neg (show ¬ (-5 : Int32) = -6 by decide +kernel)]
        exact ⟨_, _, _, _, _, rfl, rfl⟩
      · rw [w1, w2, bx, bx]
        dsimp only
        rw [if_neg (show ¬ (-3 : Int32) = 0 by decide +kernel), if_neg (show ¬ (-3 : Int32) = -6 by decide +kernel)]
        exact ⟨_, _, _, _, _, rfl, rfl⟩
      · obtain ⟨d1, g1, ⟨c1, c2⟩, e3, e4, a, b, a1, b1, z2, z3, z4, z5⟩ := y3
        rw [y1, y2, bx, bx]
        dsimp only
        rw [if_pos k00, if_pos (show (-6 : Int32) = -6 from rfl), z2, z3, z4, z5]
        by_cases t : b ≤ 12
        · rw [if_pos (show nI b ≤ 12 from nI_le (b := 12) t (by omega)), if_pos (show nI b ≤ 12 from nI_le (b := 12) t (by omega))]
          by_cases y : a ≤ b
          · rw [if_pos (nI_le y (by omega)), if_pos (nI_le y (by omega))]
            have lp : ∀ fu j, j ≤ b → b - j < fu → M_X9_wind_80 mb mo (nI w) (nI pp) fu (mn', g', pwL (nI w).toInt64 j, pwL 10 j, nI j) = (M_X9_lowest (pwL (nI w).toInt64 b) (pwL 10 b) (nI pp)).bind fun z115 => some (z115, mn', g') := by
              intro fu
              induction fu with
              | zero => intro j _ h; omega
              | succ fu ih =>
                intro j hj hfu
                show M_X9_wind_80b _ _ _ _ _ _ = _
                unfold M_X9_wind_80b
                dsimp only
                rw [z5]
                rcases Nat.lt_or_ge j b with q | q
                · rw [if_neg (nI_ge q (by omega)), ← nI_succ]
                  exact ih (j + 1) (by omega) (by omega)
                · have e : j = b := by omega
                  rw [e, if_pos (nI_le (Nat.le_refl _) (by omega))]
            have l0 := lp 200 0 (by omega) (by omega)
            have ps := pt_some w (by omega) b (by omega) pp (by omega)
            have pe := pt_low w (by omega) b (by omega) pp (by omega)
            obtain ⟨z, hz⟩ := Option.isSome_iff_exists.mp ps
            rw [← pe, hz, bx] at l0
            rw [hz, bx, show M_X9_wind_80 mb mo (nI w) (nI pp) 200 (mn', g', 1, 1, 0) = _ from l0]
            exact ⟨_, _, _, _, _, rfl, rfl⟩
          · rw [if_neg (nI_ge (by omega) (by omega)), if_neg (nI_ge (by omega) (by omega))]
            obtain rfl | rfl : pp = 0 ∨ pp = 1 := by omega
            · rw [if_pos n0I, show (nI 0).toInt64 = 0 by decide +kernel]
              exact ⟨_, _, _, _, _, rfl, rfl⟩
            · rw [if_neg (show ¬ nI 1 = 0 by decide +kernel), show (nI 1).toInt64 = 1 by decide +kernel]
              exact ⟨_, _, _, _, _, rfl, rfl⟩
        · rw [if_neg (show ¬ nI b ≤ 12 from nI_ge (a := 12) (by omega) (by omega)), if_neg (show ¬ nI b ≤ 12 from nI_ge (a := 12) (by omega) (by omega))]
          exact ⟨_, _, _, _, _, rfl, rfl⟩
    · rw [if_neg q2, if_pos k00, if_pos k00]
      exact ⟨_, _, _, _, _, rfl, rfl⟩
  · rw [if_neg q1, if_pos k00, if_pos k00]
    exact ⟨_, _, _, _, _, rfl, rfl⟩
end
section
/-! Images -/
theorem upd_self (f : AR) (k : Nat) : upd f k (f k) = f := by
  funext j
  unfold upd
  split
  · rename_i h; rw [h]
  · rfl
theorem m_addD {k c w d : Nat} {v : VT} (hk : v.1 = nI k) (h4 : k < 4) (hd : d < 2) : M_X4_add v (nI c) (nI w) (nI d) = some (1, (nI (k + 1), upd v.2.1 k (nI c), upd v.2.2.1 k (nI w), upd v.2.2.2 k (nI d))) := by
  apply m_add hk h4
  obtain rfl | rfl : d = 0 ∨ d = 1 := by omega
  · rfl
  · exact if_neg (by decide +kernel)
theorem m_copyW {k : Nat} {wc wl wd : Nat → Nat} {u : VT} (v : VT) (hk : k ≤ 4) (hx2 : u.1 = nI k) (hx3 : ∀ w, w < k → u.2.1 w = nI (wc w) ∧ u.2.2.1 w = nI (wl w) ∧ u.2.2.2 w = nI (wd w)) (hd : ∀ w, w < k → wd w < 2) : ∃ v', M_X4_copyFrom v u = some v' ∧ v'.1 = nI k ∧ ∀ w, w < k → v'.2.1 w = nI (wc w) ∧ v'.2.2.1 w = nI (wl w) ∧ v'.2.2.2 w = nI (wd w) := by
  have st : ∀ fu j (x : VT), j ≤ k → k - j < fu → x.1 = nI j → (∀ w, w < j → x.2.1 w = nI (wc w) ∧ x.2.2.1 w = nI (wl w) ∧ x.2.2.2 w = nI (wd w)) → ∃ v', M_X4_copyFrom_7 u fu (x, nI j) = some v' ∧ v'.1 = nI k ∧ ∀ w, w < k → v'.2.1 w = nI (wc w) ∧ v'.2.2.1 w = nI (wl w) ∧ v'.2.2.2 w = nI (wd w) := by
    intro fu
    induction fu with
    | zero => intro j x _ h; omega
    | succ fu ih =>
      intro j x hj hfu h1 h2
      show ∃ v', M_X4_copyFrom_7b _ _ _ = _ ∧ _
      unfold M_X4_copyFrom_7b M_X4_cellOfOne M_X4_lookingOf M_X4_hasDog
      dsimp only
      rw [hx2]
      rcases Nat.lt_or_ge j k with q | q
      · obtain ⟨q1, q2, q3⟩ := hx3 j q
        have hd2 := hd j q
        have e : (if nI (wd j) = (1 : Int32) then (some (1 : Int32)) else (some (0 : Int32))) = some (nI (wd j)) := by
          obtain z | z : wd j = 0 ∨ wd j = 1 := by omega
          · rw [z]; decide +kernel
          · rw [z]; decide +kernel
        rw [if_neg (nI_ge q (by omega)), m_at _ (by omega) (by omega), m_at _ (by omega) (by omega), m_at _ (by omega) (by omega)]
        simp only [bx]
        rw [q1, q2, q3, e, bx, m_addD h1 (by omega) hd2, bx, ← nI_succ]
        refine ih (j + 1) _ (by omega) (by omega) rfl ?_
        intro w hw
        by_cases t : w = j
        · subst t; exact ⟨upd_at .., upd_at .., upd_at ..⟩
        · dsimp only
          rw [upd_ne _ _ t, upd_ne _ _ t, upd_ne _ _ t]; exact h2 w (by omega)
      · have e : j = k := by omega
        rw [e, if_pos (nI_le (Nat.le_refl _) (by omega))]
        subst e
        exact ⟨x, rfl, h1, h2⟩
  unfold M_X4_copyFrom M_X4_clear
  rw [bx]
  exact st 200 0 _ (by omega) (by omega) rfl (fun w hw => absurd hw (by omega))
theorem m_copy {R C : Nat} {sg : Nat → Nat} {dr th er k : Nat} {wc wl wd : Nat → Nat} {g : HT} {u : VT} (h : HT) (v : VT) (ho : okS R C sg dr th er k wc wl wd) (hx : rX R C sg dr th er k wc wl wd g u) : ∃ h' v', M_X0_copyFrom h v g u = some (h', v') ∧ rX R C sg dr th er k wc wl wd h' v' := by
  obtain ⟨x1, x2, x3⟩ := hx
  subst x1
  obtain ⟨v', e1, e2, e3⟩ := m_copyW (u := u) (0, v.2.1, v.2.2.1, v.2.2.2) ho.2.2.2.2.2.1 x2 x3 (fun w hw => (ho.2.2.2.2.2.2 w hw).2.2.2)
  refine ⟨hOf R C sg dr th er, v', ?_, rfl, e2, e3⟩
  unfold M_X0_copyFrom
  rw [show M_X0_layOut h v (hOf R C sg dr th er).1 (hOf R C sg dr th er).2.1 = _ from m_layX h v ho.1, bx]
  dsimp only
  rw [e1, bx]
  rfl
theorem m_passW {a : Nat} (x : Int32) (kp ik : AR) (ha : a < 80) : M_X9_pass (nI a, 1, kp, ik) x = some (x, (nI (a + 1), 1, upd kp a x, ik)) := by
  unfold M_X9_pass M_X9_pass_20
  dsimp only
  rw [if_neg k10, if_pos (nI_in ha (by omega)), nI_clamp (by omega), ← nI_succ]
theorem m_passR {a : Nat} (x : Int32) (kp ik : AR) (ha : a < 80) : M_X9_pass (nI a, 0, kp, ik) x = some (kp a, (nI (a + 1), 0, kp, ik)) := by
  unfold M_X9_pass M_X9_pass_20
  dsimp only
  rw [if_pos k00, if_pos (nI_in ha (by omega)), if_pos (nI_in ha (by omega)), nI_clamp (by omega), ← nI_succ, upd_self]
/-- a row put from a place on -/
def putS (kp : AR) (a : Nat) (s : AR) : Nat → AR
  | 0 => kp
  | j + 1 => upd (putS kp a s j) (a + j) (s j)
theorem putS_in (kp : AR) (a : Nat) (s : AR) : ∀ n j, j < n → putS kp a s n (a + j) = s j := by
  intro n
  induction n with
  | zero => intro j h; omega
  | succ n ih =>
    intro j h
    show upd (putS kp a s n) (a + n) (s n) (a + j) = _
    by_cases t : j = n
    · subst t; exact upd_at ..
    · rw [upd_ne _ _ (by omega)]; exact ih j (by omega)
theorem putS_out (kp : AR) (a : Nat) (s : AR) : ∀ n i, i < a ∨ a + n ≤ i → putS kp a s n i = kp i := by
  intro n
  induction n with
  | zero => intro i _; rfl
  | succ n ih =>
    intro i h
    show upd (putS kp a s n) (a + n) (s n) i = _
    rw [upd_ne _ _ (by omega)]; exact ih i (by omega)
def putT (kp : AR) (a : Nat) (s1 s2 s3 : AR) : Nat → AR
  | 0 => kp
  | j + 1 => upd (upd (upd (putT kp a s1 s2 s3 j) (a + 3 * j) (s1 j)) (a + 3 * j + 1) (s2 j)) (a + 3 * j + 2) (s3 j)
theorem putT_in (kp : AR) (a : Nat) (s1 s2 s3 : AR) : ∀ n j, j < n → putT kp a s1 s2 s3 n (a + 3 * j) = s1 j ∧ putT kp a s1 s2 s3 n (a + 3 * j + 1) = s2 j ∧ putT kp a s1 s2 s3 n (a + 3 * j + 2) = s3 j := by
  intro n
  induction n with
  | zero => intro j h; omega
  | succ n ih =>
    intro j h
    have e : ∀ i, putT kp a s1 s2 s3 (n + 1) i = upd (upd (upd (putT kp a s1 s2 s3 n) (a + 3 * n) (s1 n)) (a + 3 * n + 1) (s2 n)) (a + 3 * n + 2) (s3 n) i := fun i => rfl
    rw [e, e, e]
    by_cases t : j = n
    · subst t
      refine ⟨?_, ?_, upd_at ..⟩
      · rw [upd_ne _ _ (by omega), upd_ne _ _ (by omega), upd_at]
      · rw [upd_ne _ _ (by omega), upd_at]
    · rw [upd_ne _ _ (by omega), upd_ne _ _ (by omega), upd_ne _ _ (by omega), upd_ne _ _ (by omega), upd_ne _ _ (by omega), upd_ne _ _ (by omega), upd_ne _ _ (by omega), upd_ne _ _ (by omega), upd_ne _ _ (by omega)]
      exact ih j (by omega)
theorem putT_out (kp : AR) (a : Nat) (s1 s2 s3 : AR) : ∀ n i, i < a ∨ a + 3 * n ≤ i → putT kp a s1 s2 s3 n i = kp i := by
  intro n
  induction n with
  | zero => intro i _; rfl
  | succ n ih =>
    intro i h
    show upd (upd (upd (putT kp a s1 s2 s3 n) (a + 3 * n) (s1 n)) (a + 3 * n + 1) (s2 n)) (a + 3 * n + 2) (s3 n) i = _
    rw [upd_ne _ _ (by omega), upd_ne _ _ (by omega), upd_ne _ _ (by omega)]; exact ih i (by omega)
theorem m_74W (mb : BT) (kp ik : AR) {a : Nat} (ha : a < 60) : ∀ fu j, j ≤ 16 → 16 - j < fu → M_X9_passAll_74 fu (mb, (nI (a + j), 1, putS kp a mb.2.2.2.2.2.2.1 j, ik), nI j) = M_X9_passAll_104 200 (mb, (nI (a + 16), 1, putS kp a mb.2.2.2.2.2.2.1 16, ik), 0) := by
  intro fu
  induction fu with
  | zero => intro j _ h; omega
  | succ fu ih =>
    intro j hj hfu
    show M_X9_passAll_74b _ _ = _
    unfold M_X9_passAll_74b
    dsimp only
    rcases Nat.lt_or_ge j 16 with q | q
    · rw [if_neg (show ¬ (16 : Int32) ≤ nI j from nI_ge (b := 16) q (by omega)), if_pos (nI_in q (by omega)), m_passW _ _ _ (by omega), bx, if_pos (nI_in q (by omega))]
      dsimp only
      rw [nI_clamp (by omega), upd_self, ← nI_succ]
      exact ih (j + 1) (by omega) (by omega)
    · have e : j = 16 := by omega
      subst e
      rw [if_pos (show (16 : Int32) ≤ nI 16 by decide +kernel)]
theorem m_104W (mb : BT) (kp ik : AR) {a : Nat} (ha : a < 68) : ∀ fu j, j ≤ 4 → 4 - j < fu → M_X9_passAll_104 fu (mb, (nI (a + 3 * j), 1, putT kp a mb.2.2.2.2.2.2.2.1 mb.2.2.2.2.2.2.2.2.1 mb.2.2.2.2.2.2.2.2.2 j, ik), nI j) = some (mb, (nI (a + 12), 1, putT kp a mb.2.2.2.2.2.2.2.1 mb.2.2.2.2.2.2.2.2.1 mb.2.2.2.2.2.2.2.2.2 4, ik)) := by
  intro fu
  induction fu with
  | zero => intro j _ h; omega
  | succ fu ih =>
    intro j hj hfu
    show M_X9_passAll_104b _ _ = _
    unfold M_X9_passAll_104b
    dsimp only
    rcases Nat.lt_or_ge j 4 with q | q
    · rw [if_neg (show ¬ (4 : Int32) ≤ nI j from nI_ge (b := 4) q (by omega)), if_pos (nI_in q (by omega)), m_passW _ _ _ (by omega), bx, if_pos (nI_in q (by omega)), if_pos (nI_in q (by omega))]
      dsimp only
      rw [m_passW _ _ _ (by omega), bx, if_pos (nI_in q (by omega)), if_pos (nI_in q (by omega))]
      dsimp only
      rw [m_passW _ _ _ (by omega), bx, if_pos (nI_in q (by omega))]
      dsimp only
      rw [nI_clamp (by omega), upd_self, upd_self, upd_self, ← nI_succ]
      exact ih (j + 1) (by omega) (by omega)
    · have e : j = 4 := by omega
      subst e
      rw [if_pos (show (4 : Int32) ≤ nI 4 by decide +kernel)]
/-- the whole row of an image -/
theorem m_passAllW (mb : BT) (w : Int32) (kp ik : AR) {a : Nat} (ha : a < 46) : ∃ kp', M_X9_passAll mb (nI a, 1, kp, ik) = some (mb, (nI (a + 34), 1, kp', ik)) ∧ (kp' a = mb.1 ∧ kp' (a + 1) = mb.2.1 ∧ kp' (a + 2) = mb.2.2.1 ∧ kp' (a + 3) = mb.2.2.2.1 ∧ kp' (a + 4) = mb.2.2.2.2.1 ∧ kp' (a + 5) = mb.2.2.2.2.2.1) ∧ (∀ c, c < 16 → kp' (a + 6 + c) = mb.2.2.2.2.2.2.1 c) ∧ (∀ j, j < 4 → kp' (a + 22 + 3 * j) = mb.2.2.2.2.2.2.2.1 j ∧ kp' (a + 22 + 3 * j + 1) = mb.2.2.2.2.2.2.2.2.1 j ∧ kp' (a + 22 + 3 * j + 2) = mb.2.2.2.2.2.2.2.2.2 j) ∧ ∀ i, i < a ∨ a + 34 ≤ i → kp' i = kp i := by
  unfold M_X9_passAll
  rw [m_passW _ _ _ (by omega), bx]
  dsimp only
  rw [m_passW _ _ _ (by omega), bx]
  dsimp only
  rw [m_passW _ _ _ (by omega), bx]
  dsimp only
  rw [m_passW _ _ _ (by omega), bx]
  dsimp only
  rw [m_passW _ _ _ (by omega), bx]
  dsimp only
  rw [m_passW _ _ _ (by omega), bx]
  dsimp only
  generalize hk6 : upd (upd (upd (upd (upd (upd kp a mb.1) (a + 1) mb.2.1) (a + 1 + 1) mb.2.2.1) (a + 1 + 1 + 1) mb.2.2.2.1) (a + 1 + 1 + 1 + 1) mb.2.2.2.2.1) (a + 1 + 1 + 1 + 1 + 1) mb.2.2.2.2.2.1 = k6
  have f74 : M_X9_passAll_74 200 (mb, (nI (a + 6), 1, k6, ik), 0) = _ := m_74W mb k6 ik (a := a + 6) (by omega) 200 0 (by omega) (by omega)
  have f104 : M_X9_passAll_104 200 (mb, (nI (a + 6 + 16), 1, putS k6 (a + 6) mb.2.2.2.2.2.2.1 16, ik), 0) = _ := m_104W mb (putS k6 (a + 6) mb.2.2.2.2.2.2.1 16) ik (a := a + 22) (by omega) 200 0 (by omega) (by omega)
  refine ⟨_, f74.trans f104, ?_, ?_, ?_, ?_⟩
  · have o : ∀ i, i < a + 6 → putT (putS k6 (a + 6) mb.2.2.2.2.2.2.1 16) (a + 22) mb.2.2.2.2.2.2.2.1 mb.2.2.2.2.2.2.2.2.1 mb.2.2.2.2.2.2.2.2.2 4 i = k6 i := by
      intro i hi
      rw [putT_out _ _ _ _ _ _ _ (by omega), putS_out _ _ _ _ _ (by omega)]
    rw [o a (by omega), o (a + 1) (by omega), o (a + 2) (by omega), o (a + 3) (by omega), o (a + 4) (by omega), o (a + 5) (by omega), ← hk6]
    refine ⟨?_, ?_, ?_, ?_, ?_, upd_at ..⟩
    · rw [upd_ne _ _ (by omega), upd_ne _ _ (by omega), upd_ne _ _ (by omega), upd_ne _ _ (by omega), upd_ne _ _ (by omega), upd_at]
    · rw [upd_ne _ _ (by omega), upd_ne _ _ (by omega), upd_ne _ _ (by omega), upd_ne _ _ (by omega), upd_at]
    · rw [upd_ne _ _ (by omega), upd_ne _ _ (by omega), upd_ne _ _ (by omega)]; exact upd_at ..
    · rw [upd_ne _ _ (by omega), upd_ne _ _ (by omega)]; exact upd_at ..
    · rw [upd_ne _ _ (by omega)]; exact upd_at ..
  · intro c hc
    rw [putT_out _ _ _ _ _ _ _ (by omega)]
    exact putS_in _ _ _ _ _ hc
  · intro j hj
    exact putT_in _ _ _ _ _ _ _ hj
  · intro i hi
    rw [putT_out _ _ _ _ _ _ _ (by omega), putS_out _ _ _ _ _ (by omega), ← hk6, upd_ne _ _ (by omega), upd_ne _ _ (by omega), upd_ne _ _ (by omega), upd_ne _ _ (by omega), upd_ne _ _ (by omega), upd_ne _ _ (by omega)]
def rdS (kp : AR) (a : Nat) (s : AR) : Nat → AR
  | 0 => s
  | j + 1 => upd (rdS kp a s j) j (kp (a + j))
theorem rdS_in (kp : AR) (a : Nat) (s : AR) : ∀ n j, j < n → rdS kp a s n j = kp (a + j) := by
  intro n
  induction n with
  | zero => intro j h; omega
  | succ n ih =>
    intro j h
    show upd (rdS kp a s n) n (kp (a + n)) j = _
    by_cases t : j = n
    · subst t; exact upd_at ..
    · rw [upd_ne _ _ t]; exact ih j (by omega)
def rdT (kp : AR) (a : Nat) (s : AR) : Nat → AR
  | 0 => s
  | j + 1 => upd (rdT kp a s j) j (kp (a + 3 * j))
theorem rdT_in (kp : AR) (a : Nat) (s : AR) : ∀ n j, j < n → rdT kp a s n j = kp (a + 3 * j) := by
  intro n
  induction n with
  | zero => intro j h; omega
  | succ n ih =>
    intro j h
    show upd (rdT kp a s n) n (kp (a + 3 * n)) j = _
    by_cases t : j = n
    · subst t; exact upd_at ..
    · rw [upd_ne _ _ t]; exact ih j (by omega)
theorem m_74R (b1 b2 b3 b4 b5 b6 : Int32) (s s1 s2 s3 kp ik : AR) {a : Nat} (ha : a < 60) : ∀ fu j, j ≤ 16 → 16 - j < fu → M_X9_passAll_74 fu ((b1, b2, b3, b4, b5, b6, rdS kp a s j, s1, s2, s3), (nI (a + j), 0, kp, ik), nI j) = M_X9_passAll_104 200 ((b1, b2, b3, b4, b5, b6, rdS kp a s 16, s1, s2, s3), (nI (a + 16), 0, kp, ik), 0) := by
  intro fu
  induction fu with
  | zero => intro j _ h; omega
  | succ fu ih =>
    intro j hj hfu
    show M_X9_passAll_74b _ _ = _
    unfold M_X9_passAll_74b
    dsimp only
    rcases Nat.lt_or_ge j 16 with q | q
    · rw [if_neg (show ¬ (16 : Int32) ≤ nI j from nI_ge (b := 16) q (by omega)), if_pos (nI_in q (by omega)), m_passR _ _ _ (by omega), bx, if_pos (nI_in q (by omega))]
      dsimp only
      rw [nI_clamp (by omega), ← nI_succ]
      exact ih (j + 1) (by omega) (by omega)
    · have e : j = 16 := by omega
      subst e
      rw [if_pos (show (16 : Int32) ≤ nI 16 by decide +kernel)]
theorem m_104R (b1 b2 b3 b4 b5 b6 : Int32) (s s1 s2 s3 kp ik : AR) {a : Nat} (ha : a < 68) : ∀ fu j, j ≤ 4 → 4 - j < fu → M_X9_passAll_104 fu ((b1, b2, b3, b4, b5, b6, s, rdT kp a s1 j, rdT kp (a + 1) s2 j, rdT kp (a + 2) s3 j), (nI (a + 3 * j), 0, kp, ik), nI j) = some ((b1, b2, b3, b4, b5, b6, s, rdT kp a s1 4, rdT kp (a + 1) s2 4, rdT kp (a + 2) s3 4), (nI (a + 12), 0, kp, ik)) := by
  intro fu
  induction fu with
  | zero => intro j _ h; omega
  | succ fu ih =>
    intro j hj hfu
    show M_X9_passAll_104b _ _ = _
    unfold M_X9_passAll_104b
    dsimp only
    rcases Nat.lt_or_ge j 4 with q | q
    · have k1 : kp (a + 3 * j + 1) = kp (a + 1 + 3 * j) := by congr 1; omega
      have k2 : kp (a + 3 * j + 1 + 1) = kp (a + 2 + 3 * j) := by congr 1; omega
      rw [if_neg (show ¬ (4 : Int32) ≤ nI j from nI_ge (b := 4) q (by omega)), if_pos (nI_in q (by omega)), m_passR _ _ _ (by omega), bx, if_pos (nI_in q (by omega)), if_pos (nI_in q (by omega))]
      dsimp only
      rw [m_passR _ _ _ (by omega), bx, if_pos (nI_in q (by omega)), if_pos (nI_in q (by omega))]
      dsimp only
      rw [m_passR _ _ _ (by omega), bx, if_pos (nI_in q (by omega))]
      dsimp only
      rw [nI_clamp (by omega), k1, k2, ← nI_succ]
      exact ih (j + 1) (by omega) (by omega)
    · have e : j = 4 := by omega
      subst e
      rw [if_pos (show (4 : Int32) ≤ nI 4 by decide +kernel)]
theorem m_passAllR (mb : BT) (kp ik : AR) {a : Nat} (ha : a < 46) : ∃ mb', M_X9_passAll mb (nI a, 0, kp, ik) = some (mb', (nI (a + 34), 0, kp, ik)) ∧ (mb'.1 = kp a ∧ mb'.2.1 = kp (a + 1) ∧ mb'.2.2.1 = kp (a + 2) ∧ mb'.2.2.2.1 = kp (a + 3) ∧ mb'.2.2.2.2.1 = kp (a + 4) ∧ mb'.2.2.2.2.2.1 = kp (a + 5)) ∧ (∀ c, c < 16 → mb'.2.2.2.2.2.2.1 c = kp (a + 6 + c)) ∧ (∀ j, j < 4 → mb'.2.2.2.2.2.2.2.1 j = kp (a + 22 + 3 * j) ∧ mb'.2.2.2.2.2.2.2.2.1 j = kp (a + 22 + 3 * j + 1) ∧ mb'.2.2.2.2.2.2.2.2.2 j = kp (a + 22 + 3 * j + 2)) := by
  unfold M_X9_passAll
  rw [m_passR _ _ _ (by omega), bx]
  dsimp only
  rw [m_passR _ _ _ (by omega), bx]
  dsimp only
  rw [m_passR _ _ _ (by omega), bx]
  dsimp only
  rw [m_passR _ _ _ (by omega), bx]
  dsimp only
  rw [m_passR _ _ _ (by omega), bx]
  dsimp only
  rw [m_passR _ _ _ (by omega), bx]
  dsimp only
  have f74 : M_X9_passAll_74 200 ((kp a, kp (a + 1), kp (a + 2), kp (a + 3), kp (a + 4), kp (a + 5), mb.2.2.2.2.2.2.1, mb.2.2.2.2.2.2.2.1, mb.2.2.2.2.2.2.2.2.1, mb.2.2.2.2.2.2.2.2.2), (nI (a + 6), 0, kp, ik), 0) = _ := m_74R (kp a) (kp (a + 1)) (kp (a + 2)) (kp (a + 3)) (kp (a + 4)) (kp (a + 5)) mb.2.2.2.2.2.2.1 mb.2.2.2.2.2.2.2.1 mb.2.2.2.2.2.2.2.2.1 mb.2.2.2.2.2.2.2.2.2 kp ik (a := a + 6) (by omega) 200 0 (by omega) (by omega)
  have f104 := m_104R (kp a) (kp (a + 1)) (kp (a + 2)) (kp (a + 3)) (kp (a + 4)) (kp (a + 5)) (rdS kp (a + 6) mb.2.2.2.2.2.2.1 16) mb.2.2.2.2.2.2.2.1 mb.2.2.2.2.2.2.2.2.1 mb.2.2.2.2.2.2.2.2.2 kp ik (a := a + 22) (by omega) 200 0 (by omega) (by omega)
  refine ⟨_, f74.trans f104, ⟨rfl, rfl, rfl, rfl, rfl, rfl⟩, fun c hc => rdS_in _ _ _ _ _ hc, fun j hj => ⟨rdT_in _ _ _ _ _ hj, ?_, ?_⟩⟩
  · refine (rdT_in _ _ _ _ _ hj).trans ?_
    congr 1; omega
  · refine (rdT_in _ _ _ _ _ hj).trans ?_
    congr 1; omega
theorem RIm_frame {j : Nat} {kp : Int32} {h : HT} {v : VT} {mi mi' : IT} (r : RIm j kp h v mi) (h1 : mi'.2.2.2 j = mi.2.2.2 j) (h2 : ∀ i, 40 * j ≤ i → i < 40 * j + 34 → mi'.2.2.1 i = mi.2.2.1 i) : RIm j kp h v mi' := by
  rcases r with ⟨a, b⟩ | ⟨a, b, R, C, sg, dr, th, er, k, wc, wl, wd, ho, hx, ⟨c1, c2, c3, c4, c5, c6⟩, d, e⟩
  · exact Or.inl ⟨a, h1.trans b⟩
  · have h16 := ho.1.n16
    have h4 := ho.2.2.2.2.2.1
    refine Or.inr ⟨a, h1.trans b, R, C, sg, dr, th, er, k, wc, wl, wd, ho, hx, ⟨?_, ?_, ?_, ?_, ?_, ?_⟩, ?_, ?_⟩
    · rw [h2 _ (by omega) (by omega)]; exact c1
    · rw [h2 _ (by omega) (by omega)]; exact c2
    · rw [h2 _ (by omega) (by omega)]; exact c3
    · rw [h2 _ (by omega) (by omega)]; exact c4
    · rw [h2 _ (by omega) (by omega)]; exact c5
    · rw [h2 _ (by omega) (by omega)]; exact c6
    · intro c hc
      rw [h2 _ (by omega) (by omega)]; exact d c hc
    · intro w hw
      rw [h2 _ (by omega) (by omega), h2 _ (by omega) (by omega), h2 _ (by omega) (by omega)]; exact e w hw
theorem m_img {j : Nat} {h : HT} {v : VT} {mb : BT} {mi : IT} (h1 : HT) (v1 : VT) (hj : j < 2) (r : RH h v mb) : ∃ h1' v1' mi', M_X0_copyFrom h1 v1 h v = some (h1', v1') ∧ M_X9_image mb mi (nI j) = some (1, mb, mi') ∧ RIm j 1 h1' v1' mi' ∧ (∀ i, i ≠ j → mi'.2.2.2 i = mi.2.2.2 i) ∧ ∀ i, i < 40 * j ∨ 40 * j + 34 ≤ i → mi'.2.2.1 i = mi.2.2.1 i := by
  obtain ⟨R, C, sg, dr, th, er, k, wc, wl, wd, ho, hx, hr⟩ := r
  have h16 := ho.1.n16
  have h4 := ho.2.2.2.2.2.1
  obtain ⟨h1', v1', c1, c2⟩ := m_copy h1 v1 ho hx
  obtain ⟨kp', p1, ⟨a1, a2, a3, a4, a5, a6⟩, p3, p4, p5⟩ := m_passAllW mb 1 mi.2.2.1 mi.2.2.2 (a := 40 * j) (by omega)
  obtain ⟨r1, r2, r3, r4, r5, r6, r7, r8⟩ := hr
  have e2 : M_X9_in (nI j).toInt64 (0 : Int64) (1 : Int64) = some 1 := in_good (n := 2) hj (by omega)
  have e3 : (40 : Int32) * nI j = nI (40 * j) := pk_mul 40 j
  refine ⟨h1', v1', (nI (40 * j + 34), 1, kp', upd mi.2.2.2 j (vp_nar .boolean 1)), c1, ?_, Or.inr ⟨rfl, ?_, R, C, sg, dr, th, er, k, wc, wl, wd, ho, c2, ⟨a1.trans r1, a2.trans r2, a3.trans r3, a4.trans r4, a5.trans r5, a6.trans r6⟩, fun c hc => (p3 c (by omega)).trans (r7 c hc), fun w hw => ⟨(p4 w (by omega)).1.trans (r8 w hw).1, (p4 w (by omega)).2.1.trans (r8 w hw).2.1, (p4 w (by omega)).2.2.trans (r8 w hw).2.2⟩⟩, ?_, p5⟩
  · unfold M_X9_image
    rw [e2, bx, if_neg k10, if_pos (show vp_nar .boolean (1 : Int32) = 1 by decide +kernel), e3, p1, bx, if_pos (nI_in hj (by omega)), nI_clamp (by omega)]
  · show upd mi.2.2.2 j (vp_nar .boolean 1) j = 1
    rw [upd_at]; decide +kernel
  · intro i hi
    exact upd_ne _ _ hi
theorem op_image {h : HT} {v : VT} {mb : BT} {mi : IT} {k1 k2 : Int32} {h1 h2 : HT} {v1 v2 : VT} (x : Int32) (r : RH h v mb) (i1 : RIm 0 k1 h1 v1 mi) (i2 : RIm 1 k2 h2 v2 mi) : ∃ z k1' h1' v1' k2' h2' v2' mb' mi', M_X8_image h v k1 h1 v1 k2 h2 v2 x = some (z, k1', h1', v1', k2', h2', v2') ∧ M_X9_image mb mi x = some (z, mb', mi') ∧ RH h v mb' ∧ RIm 0 k1' h1' v1' mi' ∧ RIm 1 k2' h2' v2' mi' := by
  have b1 : vp_nar .boolean (1 : Int32) = 1 := by decide +kernel
  rcases cell_cs (x := x) (n := 2) (by omega) with ⟨c, hc, rfl⟩ | q
  · have ew : M_X8_within (nI c) 0 1 = some 1 := within_good (n := 2) hc (by omega)
    obtain rfl | rfl : c = 0 ∨ c = 1 := by omega
    · obtain ⟨h1', v1', mi', c1, c2, c3, c4, c5⟩ := m_img (mi := mi) h1 v1 hc r
      unfold M_X8_image M_X8_image0
      rw [if_pos n0I, ew, bx, if_neg k10, c1, bx, if_pos b1, c2]
      exact ⟨_, _, _, _, _, _, _, _, _, rfl, rfl, r, c3, RIm_frame i2 (c4 1 (by omega)) (fun i a b => c5 i (by omega))⟩
    · obtain ⟨h2', v2', mi', c1, c2, c3, c4, c5⟩ := m_img (mi := mi) h2 v2 hc r
      unfold M_X8_image M_X8_image1
      rw [if_neg (show ¬ nI 1 = 0 by decide +kernel), ew, bx, if_neg k10, c1, bx, if_pos b1, c2]
      exact ⟨_, _, _, _, _, _, _, _, _, rfl, rfl, r, RIm_frame i1 (c4 0 (by omega)) (fun i a b => c5 i (by omega)), c3⟩
  · have ew : M_X8_within x 0 1 = some 0 := within_bad (n := 2) (by omega) (by omega) q
    have em : M_X9_in x.toInt64 (0 : Int64) (1 : Int64) = some 0 := in_bad (n := 2) (by omega) q
    have x0 : ¬ x = 0 := by
      intro z; subst z
      rcases q with q | q
      · exact absurd q (by decide +kernel)
      · exact absurd q (by decide +kernel)
    unfold M_X8_image M_X8_image1 M_X9_image
    rw [if_neg x0, ew, em, bx, bx, if_pos k00, if_pos k00]
    exact ⟨_, _, _, _, _, _, _, _, _, rfl, rfl, r, i1, i2⟩
theorem m_rest {j : Nat} {h h1 : HT} {v v1 : VT} {mb : BT} {mi : IT} {kp : Int32} (hj : j < 2) (hk : ¬ kp = 0) (r : RIm j kp h1 v1 mi) : ∃ h' v' mb' mi', M_X0_copyFrom h v h1 v1 = some (h', v') ∧ M_X9_restore mb mi (nI j) = some (1, mb', mi') ∧ RH h' v' mb' ∧ mi'.2.2 = mi.2.2 := by
  have e2 : M_X9_in (nI j).toInt64 (0 : Int64) (1 : Int64) = some 1 := in_good (n := 2) hj (by omega)
  have e3 : (40 : Int32) * nI j = nI (40 * j) := pk_mul 40 j
  rcases r with ⟨a, b⟩ | ⟨a, b, R, C, sg, dr, th, er, k, wc, wl, wd, ho, hx, ⟨c1, c2, c3, c4, c5, c6⟩, d, e⟩
  · exact absurd a hk
  · have h16 := ho.1.n16
    have h4 := ho.2.2.2.2.2.1
    obtain ⟨h', v', y1, y2⟩ := m_copy h v ho hx
    obtain ⟨mb', p1, ⟨a1, a2, a3, a4, a5, a6⟩, p3, p4⟩ := m_passAllR mb mi.2.2.1 mi.2.2.2 (a := 40 * j) (by omega)
    refine ⟨h', v', mb', (nI (40 * j + 34), 0, mi.2.2.1, mi.2.2.2), y1, ?_, ⟨R, C, sg, dr, th, er, k, wc, wl, wd, ho, y2, a1.trans c1, a2.trans c2, a3.trans c3, a4.trans c4, a5.trans c5, a6.trans c6, fun c hc => (p3 c (by omega)).trans (d c hc), fun w hw => ⟨(p4 w (by omega)).1.trans (e w hw).1, (p4 w (by omega)).2.1.trans (e w hw).2.1, (p4 w (by omega)).2.2.trans (e w hw).2.2⟩⟩, rfl⟩
    unfold M_X9_restore
    rw [e2, bx, if_neg k10, if_pos (nI_in hj (by omega)), nI_clamp (by omega), b, if_neg k10, if_pos (show vp_nar .boolean (0 : Int32) = 0 by decide +kernel), e3, p1, bx]
theorem m_restN {j : Nat} {h1 : HT} {v1 : VT} {mb : BT} {mi : IT} {kp : Int32} (hj : j < 2) (hk : kp = 0) (r : RIm j kp h1 v1 mi) : M_X9_restore mb mi (nI j) = some (-3, mb, mi) := by
  have e2 : M_X9_in (nI j).toInt64 (0 : Int64) (1 : Int64) = some 1 := in_good (n := 2) hj (by omega)
  rcases r with ⟨a, b⟩ | ⟨a, b, _⟩
  · unfold M_X9_restore
    rw [e2, bx, if_neg k10, if_pos (nI_in hj (by omega)), nI_clamp (by omega), b, if_pos k00]
  · rw [a] at hk; exact absurd hk k10
theorem op_restore {h : HT} {v : VT} {mb : BT} {mi : IT} {k1 k2 : Int32} {h1 h2 : HT} {v1 v2 : VT} (x : Int32) (r : RH h v mb) (i1 : RIm 0 k1 h1 v1 mi) (i2 : RIm 1 k2 h2 v2 mi) : ∃ z h' v' mb' mi', M_X8_restore h v k1 h1 v1 k2 h2 v2 x = some (z, h', v') ∧ M_X9_restore mb mi x = some (z, mb', mi') ∧ RH h' v' mb' ∧ RIm 0 k1 h1 v1 mi' ∧ RIm 1 k2 h2 v2 mi' := by
  rcases cell_cs (x := x) (n := 2) (by omega) with ⟨c, hc, rfl⟩ | q
  · have ew : M_X8_within (nI c) 0 1 = some 1 := within_good (n := 2) hc (by omega)
    obtain rfl | rfl : c = 0 ∨ c = 1 := by omega
    · unfold M_X8_restore M_X8_restore0
      rw [if_pos n0I, ew, bx, if_neg k10]
      by_cases z : k1 = 0
      · rw [if_pos z, m_restN hc z i1]
        exact ⟨_, _, _, _, _, rfl, rfl, r, i1, i2⟩
      · obtain ⟨h', v', mb', mi', c1, c2, c3, c4⟩ := m_rest (h := h) (v := v) (mb := mb) hc z i1
        rw [if_neg z, c1, bx, c2]
        exact ⟨_, _, _, _, _, rfl, rfl, c3, RIm_frame i1 (by rw [c4]) (fun i _ _ => by rw [c4]), RIm_frame i2 (by rw [c4]) (fun i _ _ => by rw [c4])⟩
    · unfold M_X8_restore M_X8_restore1
      rw [if_neg (show ¬ nI 1 = 0 by decide +kernel), ew, bx, if_neg k10]
      by_cases z : k2 = 0
      · rw [if_pos z, m_restN hc z i2]
        exact ⟨_, _, _, _, _, rfl, rfl, r, i1, i2⟩
      · obtain ⟨h', v', mb', mi', c1, c2, c3, c4⟩ := m_rest (h := h) (v := v) (mb := mb) hc z i2
        rw [if_neg z, c1, bx, c2]
        exact ⟨_, _, _, _, _, rfl, rfl, c3, RIm_frame i1 (by rw [c4]) (fun i _ _ => by rw [c4]), RIm_frame i2 (by rw [c4]) (fun i _ _ => by rw [c4])⟩
  · have ew : M_X8_within x 0 1 = some 0 := within_bad (n := 2) (by omega) (by omega) q
    have em : M_X9_in x.toInt64 (0 : Int64) (1 : Int64) = some 0 := in_bad (n := 2) (by omega) q
    have x0 : ¬ x = 0 := by
      intro z; subst z
      rcases q with q | q
      · exact absurd q (by decide +kernel)
      · exact absurd q (by decide +kernel)
    unfold M_X8_restore M_X8_restore1 M_X9_restore
    rw [if_neg x0, ew, em, bx, bx, if_pos k00, if_pos k00]
    exact ⟨_, _, _, _, _, rfl, rfl, r, i1, i2⟩
end
section
/-! post -/
theorem pc_16 (m : Nat) : pc16 m 16 ≤ 16 := by
  rw [pc_cn (m := m) 16 (fun i _ => rfl)]
  exact cn_le _ 16
theorem k4 : ¬ (4 : Int32) = 0 := by decide +kernel
/-- how many cells are bare with one watcher more -/
def pL (R C : Nat) (sg : Nat → Nat) (er bn kk : Nat) : Nat := pc16 (andn bn (spo R C sg er (kk / 4) (kk % 4) 0)) 16
theorem m_bareWith {R C bn kk : Nat} (sg : Nat → Nat) (dr th er : Nat) (h : okD R C) (her : er ≤ 6) (hb : bn < 2 ^ (R * C)) (hk : kk < 4 * (R * C)) : M_X8_bareWith (hOf R C sg dr th er) (nI bn) (nI kk) = some (nI (pL R C sg er bn kk)) := by
  have h16 := h.n16
  have d1 : nI kk / (4 : Int32) = nI (kk / 4) := pk_div (d := 4) (by omega) (by omega) (by omega)
  have d2 : nI kk - nI kk / (4 : Int32) * (4 : Int32) = nI (kk % 4) := n_rem (d := 4) (by omega) (by omega) (by omega)
  unfold M_X8_bareWith
  rw [if_pos k4, if_pos k4, d2, d1, show (0 : Int32) = nI 0 from rfl, m_spoiled sg dr th er h (by omega) (by omega) her (by omega), bx, n_andn, m_bitCount (lt16 h (andn_lt hb)), bx]
  rfl
theorem brs_upd (R C : Nat) (sg : Nat → Nat) (er : Nat) (wc wl wd : Nat → Nat) (k c l d : Nat) : ∀ n, n ≤ k → brs R C sg er (updN wc k c) (updN wl k l) (updN wd k d) n = brs R C sg er wc wl wd n := by
  intro n
  induction n with
  | zero => intro _; rfl
  | succ n ih =>
    intro h
    show andn (brs R C sg er (updN wc k c) (updN wl k l) (updN wd k d) n) (spo R C sg er (updN wc k c n) (updN wl k l n) (updN wd k d n)) = _
    rw [ih (by omega), updN_ne _ _ (by omega), updN_ne _ _ (by omega), updN_ne _ _ (by omega)]
    rfl
theorem m_bareMore {R C c l : Nat} {sg : Nat → Nat} {dr th er k : Nat} {wc wl wd : Nat → Nat} {mb : BT} {s1 s2 s3 : AR} (ho : okS R C sg dr th er k wc wl wd) (hr : rM R C sg dr th er k wc wl wd mb) (h4 : k < 4) (hs : ∀ w, w < k → s1 w = nI (wc w) ∧ s2 w = nI (wl w) ∧ s3 w = nI (wd w)) (h3 : s3 k = nI 0) (hc : c < R * C) (hw : sg c ≠ 35) (hl : l < 4) : M_X9_bare (mb.1, mb.2.1, mb.2.2.1, mb.2.2.2.1, nI (k + 1), mb.2.2.2.2.2.1, mb.2.2.2.2.2.2.1, upd s1 k (nI c), upd s2 k (nI l), s3) = some (nI (andn (brs R C sg er wc wl wd k) (spo R C sg er c l 0))) := by
  obtain ⟨g1, g2, g3, g4, g5, g6, g7⟩ := ho
  obtain ⟨r1, r2, r3, r4, r5, r6, r7, r8⟩ := hr
  have ho' : okS R C sg dr th er (k + 1) (updN wc k c) (updN wl k l) (updN wd k 0) := by
    refine ⟨g1, g2, g3, g4, g5, by omega, ?_⟩
    intro j hj
    by_cases t : j = k
    · subst t; rw [updN_at, updN_at, updN_at]; exact ⟨hc, hw, hl, by omega⟩
    · rw [updN_ne _ _ t, updN_ne _ _ t, updN_ne _ _ t]; exact g7 j (by omega)
  have hr' : rM R C sg dr th er (k + 1) (updN wc k c) (updN wl k l) (updN wd k 0) (mb.1, mb.2.1, mb.2.2.1, mb.2.2.2.1, nI (k + 1), mb.2.2.2.2.2.1, mb.2.2.2.2.2.2.1, upd s1 k (nI c), upd s2 k (nI l), s3) := by
    refine ⟨r1, r2, r3, r4, rfl, r6, r7, ?_⟩
    intro j hj
    by_cases t : j = k
    · subst t; rw [updN_at, updN_at, updN_at]; exact ⟨upd_at .., upd_at .., h3⟩
    · dsimp only
      rw [updN_ne _ _ t, updN_ne _ _ t, updN_ne _ _ t, upd_ne _ _ t, upd_ne _ _ t]; exact hs j (by omega)
  rw [m_bareR ho' hr']
  show some (nI (andn (brs R C sg er (updN wc k c) (updN wl k l) (updN wd k 0) k) (spo R C sg er (updN wc k c k) (updN wl k l k) (updN wd k 0 k)))) = _
  rw [brs_upd _ _ _ _ _ _ _ _ _ _ _ _ (Nat.le_refl k), updN_at, updN_at, updN_at]
/-- what is best so far: on both sides -/
def BP (R C : Nat) (sg : Nat → Nat) (er bn kk : Nat) (b1 f1 b2 f2 : Int32) : Prop := (b1 = -6 ∧ f1 = 17 ∧ b2 = -6 ∧ f2 = 1000 ∧ ∀ c, 4 * c < kk → sg c = 35) ∨ (∃ q, q < 4 * (R * C) ∧ b1 = nI q ∧ b2 = nI q ∧ f1 = nI (pL R C sg er bn q) ∧ f2 = nI (pL R C sg er bn q))
theorem op_post {h : HT} {v : VT} {mb : BT} (x : Int32) (rh : RH h v mb) : ∃ z mb', M_X8_post h v x = some z ∧ M_X9_post mb x = some (z, mb') ∧ RH h v mb' := by
  have rh0 := rh
  obtain ⟨R, C, sg, dr, th, er, k, wc, wl, wd, ho, ⟨hx1, hx2, hx3⟩, hr⟩ := rh
  subst hx1
  have h16 := ho.1.n16
  have hk := ho.2.2.2.2.2.1
  have her := ho.2.2.2.2.1
  have e2 : M_X9_in x.toInt64 (0 : Int64) (1 : Int64) = some (if 0 ≤ x ∧ x ≤ 1 then 1 else 0) := m_in x 0 1
  unfold M_X8_post M_X9_post M_X4_isFull
  rw [m_within, e2, bx, bx, hx2, hr.2.2.2.2.1]
  by_cases q : 0 ≤ x ∧ x ≤ 1
  · rw [if_pos q, if_neg k10, if_neg k10]
    obtain ⟨w, _, hw1, rfl⟩ := rng (a := 0) (b := 1) (by omega) (by omega) q.1 q.2
    rcases Nat.lt_or_ge k 4 with y | y
    · have ek : nI k + (1 : Int32) - 1 = nI k := by
        rw [← nI_succ]
        exact (n_sub (a := k + 1) (b := 1) (by omega)).trans (by rw [Nat.add_sub_cancel])
      rw [if_pos (show nI k < (4 : Int32) from nI_lt (b := 4) y (by omega)), bx, if_pos k00, if_neg (show ¬ nI k = (4 : Int32) from w_ne (b := 4) (by omega) (by omega) (by omega)), m_bare ho ⟨rfl, hx2, hx3⟩, bx, ek, if_pos (nI_in y (by omega)), nI_clamp (by omega), ← nI_succ]
      have hb := brs_lt R C sg er wc wl wd k
      generalize hbn : brs R C sg er wc wl wd k = bn at hb ⊢
      have ek2 : nI (k + 1) - (1 : Int32) = nI k := (n_sub (a := k + 1) (b := 1) (by omega)).trans (by rw [Nat.add_sub_cancel])
      have lp : ∀ fu kk b1 f1 b2 f2 (s1 s2 s3 : AR), kk ≤ 4 * (R * C) → 4 * (R * C) - kk < fu → (∀ w, w < k → s1 w = nI (wc w) ∧ s2 w = nI (wl w) ∧ s3 w = nI (wd w)) → s3 k = nI 0 → BP R C sg er bn kk b1 f1 b2 f2 → ∃ qq mb', qq < 4 * (R * C) ∧ M_X8_bestPost_9 (hOf R C sg dr th er) (nI bn) fu (b1, f1, nI kk) = some (nI qq) ∧ M_X9_post_56 (nI w) fu ((mb.1, mb.2.1, mb.2.2.1, mb.2.2.2.1, nI (k + 1), mb.2.2.2.2.2.1, mb.2.2.2.2.2.2.1, s1, s2, s3), b2, f2, nI kk) = some (if w = 0 then nI qq else nI (pL R C sg er bn qq), mb') ∧ RH (hOf R C sg dr th er) v mb' := by
        intro fu
        induction fu with
        | zero => intro kk b1 f1 b2 f2 s1 s2 s3 _ h; omega
        | succ fu ih =>
          intro kk b1 f1 b2 f2 s1 s2 s3 hkk hfu hs h3 hB
          have ex : ∀ a, M_X8_bestPost_9 (hOf R C sg dr th er) (nI bn) (fu + 1) a = M_X8_bestPost_9b (hOf R C sg dr th er) (nI bn) (M_X8_bestPost_9 (hOf R C sg dr th er) (nI bn) fu) a := fun a => rfl
          have em : ∀ a, M_X9_post_56 (nI w) (fu + 1) a = M_X9_post_56b (nI w) (M_X9_post_56 (nI w) fu) a := fun a => rfl
          rw [ex, em]
          unfold M_X8_bestPost_9b M_X9_post_56b M_X8_bestPost_51 M_X8_bestPost_65 M_X9_post_129 M_X9_post_142 M_X9_post_143
          dsimp only
          have c4 : (4 : Int32) * nI (R * C) = nI (4 * (R * C)) := pk_mul 4 (R * C)
          rw [m_cellsX, show M_X9_cells (mb.1, mb.2.1, mb.2.2.1, mb.2.2.2.1, nI (k + 1), mb.2.2.2.2.2.1, mb.2.2.2.2.2.2.1, s1, s2, s3) = M_X9_cells mb from rfl, m_cellsM hr, bx, bx, c4]
          rcases Nat.lt_or_ge kk (4 * (R * C)) with z | z
          · have d1 : nI kk / (4 : Int32) = nI (kk / 4) := pk_div (d := 4) (by omega) (by omega) (by omega)
            have d2 : nI kk - nI kk / (4 : Int32) * (4 : Int32) = nI (kk % 4) := n_rem (d := 4) (by omega) (by omega) (by omega)
            have hc : kk / 4 < R * C := by omega
            have hl : kk % 4 < 4 := by omega
            rw [if_neg (nI_ge z (by omega)), if_neg (nI_ge z (by omega)), if_pos k4, if_pos k4, d1, show M_X8_has (hOf R C sg dr th er).2.2.2.2.2.1 (nI (kk / 4)) = _ from m_hasS 35 ho.1 hc, show M_X9_isWall (mb.1, mb.2.1, mb.2.2.1, mb.2.2.2.1, nI (k + 1), mb.2.2.2.2.2.1, mb.2.2.2.2.2.2.1, s1, s2, s3) (nI (kk / 4)) = M_X9_isWall mb (nI (kk / 4)) from rfl, m_isWall ho hr hc, bx, bx, ← nI_succ]
            by_cases t : sg (kk / 4) = 35
            · rw [if_pos t, if_neg k10, if_neg k10, if_pos (Int32.le_refl f1)]
              refine ih (kk + 1) b1 f1 b2 f2 s1 s2 s3 (by omega) (by omega) hs h3 ?_
              rcases hB with ⟨p1, p2, p3, p4, p5⟩ | p
              · refine Or.inl ⟨p1, p2, p3, p4, fun c hcc => ?_⟩
                by_cases u : 4 * c < kk
                · exact p5 c u
                · have : c = kk / 4 := by omega
                  rw [this]; exact t
              · exact Or.inr p
            · have hp16 := pc_16 (andn bn (spo R C sg er (kk / 4) (kk % 4) 0))
              have hL : pL R C sg er bn kk ≤ 16 := hp16
              have bm := m_bareMore (c := kk / 4) (l := kk % 4) ho hr y hs h3 hc t hl
              rw [hbn] at bm
              have d2' : nI kk - nI (kk / 4) * (4 : Int32) = nI (kk % 4) := by rw [← d1]; exact d2
              rw [if_neg t, if_pos k00, if_pos k00, m_bareWith sg dr th er ho.1 her hb z, bx, if_pos k4, ek2, if_pos (nI_in y (by omega)), if_pos k4, if_pos (nI_in y (by omega)), nI_clamp (by omega), d2', bm, bx, m_ones (lt16 ho.1 (andn_lt hb)), bx]
              rw [show pc16 (andn bn (spo R C sg er (kk / 4) (kk % 4) 0)) 16 = pL R C sg er bn kk from rfl]
              have hs' : ∀ w, w < k → upd s1 k (nI (kk / 4)) w = nI (wc w) ∧ upd s2 k (nI (kk % 4)) w = nI (wl w) ∧ s3 w = nI (wd w) := by
                intro w hw
                rw [upd_ne _ _ (by omega), upd_ne _ _ (by omega)]
                exact hs w hw
              rcases hB with ⟨p1, p2, p3, p4, p5⟩ | ⟨qb, q1, q2, q3, q4, q5⟩
              · rw [p2, p4, if_neg (show ¬ (17 : Int32) ≤ nI (pL R C sg er bn kk) from nI_ge (b := 17) (by omega) (by omega)), if_neg (show ¬ (1000 : Int32) ≤ nI (pL R C sg er bn kk) from nI_ge (b := 1000) (by omega) (by omega)), if_neg (show ¬ (1000 : Int32) ≤ nI (pL R C sg er bn kk) from nI_ge (b := 1000) (by omega) (by omega))]
                exact ih (kk + 1) _ _ _ _ _ _ _ (by omega) (by omega) hs' h3 (Or.inr ⟨kk, z, rfl, rfl, rfl, rfl⟩)
              · have hq16 : pL R C sg er bn qb ≤ 16 := pc_16 _
                rw [q4, q5]
                by_cases u : pL R C sg er bn qb ≤ pL R C sg er bn kk
                · rw [if_pos (nI_le u (by omega)), if_pos (nI_le u (by omega)), if_pos (nI_le u (by omega))]
                  exact ih (kk + 1) _ _ _ _ _ _ _ (by omega) (by omega) hs' h3 (Or.inr ⟨qb, q1, q2, q3, rfl, rfl⟩)
                · rw [if_neg (nI_ge (by omega) (by omega)), if_neg (nI_ge (by omega) (by omega)), if_neg (nI_ge (by omega) (by omega))]
                  exact ih (kk + 1) _ _ _ _ _ _ _ (by omega) (by omega) hs' h3 (Or.inr ⟨kk, z, rfl, rfl, rfl, rfl⟩)
          · have e : kk = 4 * (R * C) := by omega
            have rhE : RH (hOf R C sg dr th er) v (mb.1, mb.2.1, mb.2.2.1, mb.2.2.2.1, nI k, mb.2.2.2.2.2.1, mb.2.2.2.2.2.2.1, s1, s2, s3) := ⟨R, C, sg, dr, th, er, k, wc, wl, wd, ho, ⟨rfl, hx2, hx3⟩, hr.1, hr.2.1, hr.2.2.1, hr.2.2.2.1, rfl, hr.2.2.2.2.2.1, hr.2.2.2.2.2.2.1, hs⟩
            rw [e, if_pos (nI_le (Nat.le_refl _) (by omega)), if_pos (nI_le (Nat.le_refl _) (by omega)), ek2]
            rcases hB with ⟨p1, p2, p3, p4, p5⟩ | ⟨qb, q1, q2, q3, q4, q5⟩
            · have := p5 dr (by have := ho.2.2.1.1; omega)
              exact absurd this ho.2.2.1.2
            · refine ⟨qb, _, q1, by rw [q2], ?_, rhE⟩
              by_cases u : w = 0
              · subst u
                rw [if_pos n0I, if_pos rfl, q3]
              · rw [if_neg (nI_ne0 (by omega) (by omega)), if_neg u, q5]
      obtain ⟨qq, mb', l0, l1, l2, l3⟩ := lp 200 0 (-6) 17 (-6) 1000 mb.2.2.2.2.2.2.2.1 mb.2.2.2.2.2.2.2.2.1 (upd mb.2.2.2.2.2.2.2.2.2 k 0) (by omega) (by omega) (fun w hw => by
        rw [upd_ne _ _ (by omega)]
        exact hr.2.2.2.2.2.2.2 w hw) (upd_at ..) (Or.inl ⟨rfl, rfl, rfl, rfl, fun c hc => absurd hc (by omega)⟩)
      unfold M_X8_bestPost
      rw [show M_X8_bestPost_9 (hOf R C sg dr th er) (nI bn) 200 (-6, 17, 0) = some (nI qq) from l1, bx, m_bareWith sg dr th er ho.1 her hb l0, bx]
      refine ⟨_, mb', ?_, l2, l3⟩
      by_cases u : w = 0
      · subst u
        rw [if_pos n0I, if_pos rfl]
      · rw [if_neg (nI_ne0 (by omega) (by omega)), if_neg u]
    · have e : k = 4 := by omega
      subst e
      rw [if_neg (show ¬ nI 4 < 4 by decide +kernel), bx, if_neg k10, if_pos (show nI 4 = 4 from rfl)]
      exact ⟨_, _, rfl, rfl, rh0⟩
  · rw [if_neg q, if_pos k00, if_pos k00]
    exact ⟨_, _, rfl, rfl, rh0⟩
end
section
/-! where: ways counted into a cell, and out of it -/
def gW (R C : Nat) (sg cw : Nat → Nat) (d w : Nat) : Nat := match stp R C sg d w with
  | some q => cw q
  | none => 0
def gS (R C : Nat) (sg cw : Nat → Nat) (d : Nat) : Nat → Nat
  | 0 => 0
  | w + 1 => gS R C sg cw d w + gW R C sg cw d w
def eW (R C : Nat) (sg : Nat → Nat) (al : Nat → Bool) (cw : Nat → Nat) (c w d : Nat) : Nat := if stp R C sg c w = some d ∧ al d = true then cw c else 0
def sW (R C : Nat) (sg : Nat → Nat) (al : Nat → Bool) (cw : Nat → Nat) (c d : Nat) : Nat → Nat
  | 0 => 0
  | w + 1 => sW R C sg al cw c d w + eW R C sg al cw c w d
def sC (R C : Nat) (sg : Nat → Nat) (al : Nat → Bool) (cw : Nat → Nat) (d : Nat) : Nat → Nat
  | 0 => 0
  | c + 1 => sC R C sg al cw d c + sW R C sg al cw c d 5
def fW (R C : Nat) (sg : Nat → Nat) (al : Nat → Bool) (cw : Nat → Nat) (w d : Nat) : Nat → Nat
  | 0 => 0
  | c + 1 => fW R C sg al cw w d c + eW R C sg al cw c w d
theorem sC_f (R C : Nat) (sg : Nat → Nat) (al : Nat → Bool) (cw : Nat → Nat) (d : Nat) : ∀ i, sC R C sg al cw d i = fW R C sg al cw 0 d i + fW R C sg al cw 1 d i + fW R C sg al cw 2 d i + fW R C sg al cw 3 d i + fW R C sg al cw 4 d i := by
  intro i
  induction i with
  | zero => rfl
  | succ i ih =>
    show sC R C sg al cw d i + (((((0 + eW R C sg al cw i 0 d) + eW R C sg al cw i 1 d) + eW R C sg al cw i 2 d) + eW R C sg al cw i 3 d) + eW R C sg al cw i 4 d) = (fW R C sg al cw 0 d i + eW R C sg al cw i 0 d) + (fW R C sg al cw 1 d i + eW R C sg al cw i 1 d) + (fW R C sg al cw 2 d i + eW R C sg al cw i 2 d) + (fW R C sg al cw 3 d i + eW R C sg al cw i 3 d) + (fW R C sg al cw 4 d i + eW R C sg al cw i 4 d)
    rw [ih]
    omega
theorem opw5 : ∀ w, w < 5 → opw w < 5 ∧ opw (opw w) = w := by decide +kernel
theorem stp_of {R C c w d : Nat} {sg : Nat → Nat} (e : nb R C c w = some d) (h : sg d ≠ 35) : stp R C sg c w = some d := by
  unfold stp
  rw [e]
  exact if_neg h
theorem fW_g {R C d w : Nat} {sg cw : Nat → Nat} {al : Nat → Bool} (h : okD R C) (hd : d < R * C) (hs : sg d ≠ 35) (ha : al d = true) (hz : ∀ c, c < R * C → sg c = 35 → cw c = 0) (hw : w < 5) : fW R C sg al cw w d (R * C) = gW R C sg cw d (opw w) := by
  obtain ⟨o1, o2⟩ := opw5 w hw
  unfold gW
  cases e : stp R C sg d (opw w) with
  | none =>
    have z : ∀ i, i ≤ R * C → fW R C sg al cw w d i = 0 := by
      intro i
      induction i with
      | zero => intro _; rfl
      | succ i ih =>
        intro hi
        show fW R C sg al cw w d i + eW R C sg al cw i w d = 0
        rw [ih (by omega)]
        unfold eW
        split
        · rename_i y
          have n1 := (stp_lt h (show i < R * C by omega) hw y.1).2.2
          have n2 := nb_op h (show i < R * C by omega) hw n1
          unfold stp at e
          rw [n2] at e
          dsimp only at e
          by_cases u : sg i = 35
          · rw [hz i (by omega) u]
          · rw [if_neg u] at e; exact absurd e (by simp)
        · rfl
    exact z _ (Nat.le_refl _)
  | some c0 =>
    obtain ⟨c1, c2, c3⟩ := stp_lt h hd o1 e
    have n0 := nb_op h hd o1 c3
    rw [o2] at n0
    have z : ∀ i, i ≤ R * C → fW R C sg al cw w d i = if c0 < i then cw c0 else 0 := by
      intro i
      induction i with
      | zero => intro _; exact (if_neg (by omega)).symm
      | succ i ih =>
        intro hi
        show fW R C sg al cw w d i + eW R C sg al cw i w d = _
        rw [ih (by omega)]
        unfold eW
        by_cases t : i = c0
        · subst t
          rw [if_neg (by omega), if_pos ⟨stp_of n0 hs, ha⟩, if_pos (by omega), Nat.zero_add]
        · rw [if_neg (c := stp R C sg i w = some d ∧ al d = true)]
          · by_cases u : c0 < i
            · rw [if_pos u, if_pos (by omega)]; rfl
            · rw [if_neg u, if_neg (by omega)]
          · intro y
            have n1 := (stp_lt h (show i < R * C by omega) hw y.1).2.2
            have n2 := nb_op h (show i < R * C by omega) hw n1
            rw [c3] at n2
            injection n2 with n2
            exact t n2.symm
    rw [z _ (Nat.le_refl _), if_pos c1]
theorem sC_eq {R C d : Nat} {sg cw : Nat → Nat} {al : Nat → Bool} (h : okD R C) (hd : d < R * C) (hs : sg d ≠ 35) (ha : al d = true) (hz : ∀ c, c < R * C → sg c = 35 → cw c = 0) : sC R C sg al cw d (R * C) = gS R C sg cw d 5 := by
  rw [sC_f, fW_g h hd hs ha hz (by omega), fW_g h hd hs ha hz (by omega), fW_g h hd hs ha hz (by omega), fW_g h hd hs ha hz (by omega), fW_g h hd hs ha hz (by omega)]
  show gW R C sg cw d 2 + gW R C sg cw d 3 + gW R C sg cw d 0 + gW R C sg cw d 1 + gW R C sg cw d 4 = ((((0 + gW R C sg cw d 0) + gW R C sg cw d 1) + gW R C sg cw d 2) + gW R C sg cw d 3) + gW R C sg cw d 4
  omega
theorem sC_0 {R C d : Nat} {sg cw : Nat → Nat} {al : Nat → Bool} (h : okD R C) (hn : sg d = 35 ∨ al d = false) : ∀ i, i ≤ R * C → sC R C sg al cw d i = 0 := by
  intro i
  induction i with
  | zero => intro _; rfl
  | succ i ih =>
    intro hi
    have e0 : ∀ w, w < 5 → eW R C sg al cw i w d = 0 := by
      intro w hw
      unfold eW
      rw [if_neg]
      intro y
      rcases hn with hn | hn
      · exact (stp_lt h (show i < R * C by omega) hw y.1).2.1 hn
      · rw [hn] at y; exact absurd y.2 (by decide)
    show sC R C sg al cw d i + (((((0 + eW R C sg al cw i 0 d) + eW R C sg al cw i 1 d) + eW R C sg al cw i 2 d) + eW R C sg al cw i 3 d) + eW R C sg al cw i 4 d) = 0
    rw [ih (by omega), e0 0 (by omega), e0 1 (by omega), e0 2 (by omega), e0 3 (by omega), e0 4 (by omega)]
/-- how many ways there are a minute later -/
def nx (R C : Nat) (sg : Nat → Nat) (al : Nat → Bool) (cw : Nat → Nat) (d : Nat) : Nat := if d < R * C ∧ sg d ≠ 35 ∧ al d = true then gS R C sg cw d 5 else 0
theorem gW_le {R C d w b : Nat} {sg cw : Nat → Nat} (hb : ∀ c, cw c ≤ b) : gW R C sg cw d w ≤ b := by
  unfold gW
  split
  · exact hb _
  · omega
theorem nx_le {R C d b : Nat} {sg cw : Nat → Nat} {al : Nat → Bool} (hb : ∀ c, cw c ≤ b) : nx R C sg al cw d ≤ 5 * b := by
  unfold nx
  split
  · show ((((0 + gW R C sg cw d 0) + gW R C sg cw d 1) + gW R C sg cw d 2) + gW R C sg cw d 3) + gW R C sg cw d 4 ≤ 5 * b
    have h0 := gW_le (R := R) (C := C) (sg := sg) (d := d) (w := 0) hb
    have h1 := gW_le (R := R) (C := C) (sg := sg) (d := d) (w := 1) hb
    have h2 := gW_le (R := R) (C := C) (sg := sg) (d := d) (w := 2) hb
    have h3 := gW_le (R := R) (C := C) (sg := sg) (d := d) (w := 3) hb
    have h4 := gW_le (R := R) (C := C) (sg := sg) (d := d) (w := 4) hb
    omega
  · omega
theorem m_waysInto {R C c : Nat} {sg cw : Nat → Nat} {dr th er : Nat} {q : QT} (h : okD R C) (hc : c < R * C) (hq : ∀ i, i < 16 → q.2 i = nI (cw i)) : M_X7_waysInto q (hOf R C sg dr th er) (nI c) = some (nI (gS R C sg cw c 5)) := by
  have h16 := h.n16
  have st : ∀ fu j, j ≤ 5 → 5 - j < fu → M_X7_waysInto_5 q (hOf R C sg dr th er) (nI c) fu (nI (gS R C sg cw c j), nI j) = some (nI (gS R C sg cw c 5)) := by
    intro fu
    induction fu with
    | zero => intro j _ h; omega
    | succ fu ih =>
      intro j hj hfu
      show M_X7_waysInto_5b _ _ _ _ _ = _
      unfold M_X7_waysInto_5b M_X7_waysInto_45
      dsimp only
      rcases Nat.lt_or_ge j 5 with y | y
      · have key := ih (j + 1) (by omega) (by omega)
        have e : gS R C sg cw c (j + 1) = gS R C sg cw c j + gW R C sg cw c j := rfl
        unfold gW at e
        rw [if_neg (show ¬ (5 : Int32) ≤ nI j from nI_ge (b := 5) y (by omega)), m_bit (by omega), bx, m_stepTo sg dr th er h hc y, bx, ← nI_succ]
        cases es : stp R C sg c j with
        | none =>
          rw [es] at e
          rw [e] at key
          rw [if_pos (show nI (oM none) = 0 from rfl), show nI (gS R C sg cw c j) + 0 = nI (gS R C sg cw c j + 0) from nI_add _ 0]
          exact key
        | some t =>
          have ht := (stp_lt h hc y es).1
          rw [es] at e
          rw [e] at key
          rw [if_neg (show ¬ nI (oM (some t)) = 0 from p_ne (by omega)), show oM (some t) = 2 ^ t from rfl, m_cellOf t (by omega), bx, m_at _ (by omega) (by omega), bx, hq t (by omega), nI_add]
          exact key
      · have e : j = 5 := by omega
        subst e
        rw [if_pos (show (5 : Int32) ≤ nI 5 by decide +kernel)]
  exact st 200 0 (by omega) (by omega)
theorem m_passMinute {R C m : Nat} {sg cw : Nat → Nat} {al : Nat → Bool} {dr th er : Nat} {q : QT} (h : okD R C) (hm : m < 2 ^ (R * C)) (hb : ∀ d, d < R * C → m.testBit d = (al d && !(sg d == 35))) (hq : ∀ i, i < 16 → q.1 i = nI (cw i)) : ∃ q', M_X7_passMinute q (hOf R C sg dr th er) (nI m) = some q' ∧ ∀ i, i < 16 → q'.1 i = nI (nx R C sg al cw i) := by
  have h16 := h.n16
  have hm16 := lt16 h hm
  have st : ∀ fu j (x : QT), j ≤ 16 → 16 - j < fu → (∀ i, i < 16 → x.2 i = nI (cw i)) → (∀ i, i < j → x.1 i = nI (nx R C sg al cw i)) → ∃ q', M_X7_passMinute_17 (hOf R C sg dr th er) (nI m) fu (x, nI j) = some q' ∧ ∀ i, i < 16 → q'.1 i = nI (nx R C sg al cw i) := by
    intro fu
    induction fu with
    | zero => intro j x _ h; omega
    | succ fu ih =>
      intro j x hj hfu hx2 hx1
      show ∃ q', M_X7_passMinute_17b _ _ _ _ = _ ∧ _
      unfold M_X7_passMinute_17b M_X7_passMinute_49
      dsimp only
      rcases Nat.lt_or_ge j 16 with y | y
      · have go : ∀ v : Nat, v = nx R C sg al cw j → ∃ q', (if vin (nI j) 16 then M_X7_passMinute_17 (hOf R C sg dr th er) (nI m) fu (((upd x.1 (nI j).toNatClampNeg (nI v)), x.2), (nI j + (1 : Int32))) else none) = some q' ∧ ∀ i, i < 16 → q'.1 i = nI (nx R C sg al cw i) := by
          intro v hv
          rw [if_pos (nI_in y (by omega)), nI_clamp (by omega), ← nI_succ]
          refine ih (j + 1) _ (by omega) (by omega) hx2 ?_
          intro i hi
          by_cases t : i = j
          · subst t
            show upd x.1 i (nI v) i = _
            rw [upd_at, hv]
          · show upd x.1 j (nI v) i = _
            rw [upd_ne _ _ t]; exact hx1 i (by omega)
        rw [if_neg (nI_ge y (by omega)), m_has (by omega) (by omega), bx]
        by_cases t : j < R * C
        · rw [hb j t]
          by_cases u : (al j && !(sg j == 35)) = true
          · rw [if_pos u, if_neg k10, m_waysInto h t hx2, bx]
            refine go _ ?_
            unfold nx
            rw [if_pos]
            simp at u
            exact ⟨t, u.2, u.1⟩
          · rw [if_neg u, if_pos k00]
            refine go 0 ?_
            unfold nx
            rw [if_neg]
            intro z
            apply u
            simp
            exact ⟨z.2.2, z.2.1⟩
        · rw [Nat.testBit_lt_two_pow (Nat.lt_of_lt_of_le hm (Nat.pow_le_pow_right (by omega) (show R * C ≤ j by omega))), if_neg (show ¬ (false = true) by decide), if_pos k00]
          refine go 0 ?_
          unfold nx
          rw [if_neg (fun z => t z.1)]
      · have e : j = 16 := by omega
        subst e
        rw [if_pos (show nI 16 ≤ nI 16 by decide +kernel)]
        exact ⟨x, rfl, hx1⟩
  unfold M_X7_passMinute
  refine st 200 0 _ (by omega) (by omega) ?_ (fun i hi => absurd hi (by omega))
  intro i hi
  show va_cpy q.1 q.2 0 0 16 i = _
  rw [pk_cpy_in (by omega) (by omega), Nat.zero_add, Nat.sub_zero]
  exact hq i hi
theorem m_fill {n : Nat} (f : AR) (x : Int32) (hn : n < 100) : ∃ f', M_J7_fill_53178 n f x = some f' ∧ ∀ i, i < n → f' i = x := by
  have st : ∀ fu j (f : AR), j ≤ n → n - j < fu → (∀ i, i < j → f i = x) → ∃ f', M_J7_fill_53178_5 n x fu (f, nI j, nI n) = some f' ∧ ∀ i, i < n → f' i = x := by
    intro fu
    induction fu with
    | zero => intro j f _ h; omega
    | succ fu ih =>
      intro j f hj hfu hf
      show ∃ f', M_J7_fill_53178_5b _ _ _ _ = _ ∧ _
      unfold M_J7_fill_53178_5b
      dsimp only
      rcases Nat.lt_or_ge j n with y | y
      · rw [if_neg (nI_ge y (by omega)), if_pos (nI_in y (by omega)), nI_clamp (by omega), ← nI_succ]
        refine ih (j + 1) _ (by omega) (by omega) ?_
        intro i hi
        by_cases t : i = j
        · subst t; exact upd_at ..
        · rw [upd_ne _ _ t]; exact hf i (by omega)
      · have e : j = n := by omega
        subst e
        rw [if_pos (nI_le (Nat.le_refl _) (by omega))]
        exact ⟨f, rfl, hf⟩
  exact st 200 0 f (by omega) (by omega) (fun i hi => absurd hi (by omega))
/-- one way out of a cell, on the reference's side -/
theorem m_om64 {R C bn c w : Nat} {cw T : Nat → Nat} {al : Nat → Bool} {sh : Bool} {wk th : AR} {mb : BT} (rc30 : LT × Int32 × Int32 → Option LT) (rc41 : LT × Int32 × Int32 × Int32 → Option LT) (o : Option Nat) (hc : c < 16) (hbn : bn < 65536) (hcw : cw c < 2 ^ 31) (hwk : wk c = nI (cw c)) (hal : ∀ d, d < R * C → al d = (bn.testBit d == !sh)) (h16 : R * C ≤ 16) (ho : ∀ d, o = some d → d < R * C) (hT : ∀ d, d < R * C → th d = nI (T d)) : ∃ th', M_X9_oneMinute_64 mb (bI sh) rc30 rc41 ((wk, th), nI bn, nI c, nI w, oI o) = rc41 ((wk, th'), nI bn, nI c, nI (w + 1)) ∧ ∀ d, d < R * C → th' d = nI (T d + (if o = some d ∧ al d = true then cw c else 0)) := by
  unfold M_X9_oneMinute_64 M_X9_oneMinute_95 M_X9_oneMinute_114
  dsimp only
  rw [← nI_succ]
  cases o with
  | none =>
    rw [if_pos (show oI none < 0 by decide +kernel)]
    refine ⟨th, rfl, fun d hd => ?_⟩
    rw [if_neg (fun z => absurd z.1 (by simp)), Nat.add_zero]
    exact hT d hd
  | some q =>
    have hq := ho q rfl
    rw [show oI (some q) = nI q from rfl, if_neg (nI_pos (by omega)), if_pos (nI_in hc (by omega)), if_pos (nI_in (c := q) (N := 16) (by omega) (by omega)), if_pos (nI_in hc (by omega)), if_pos (nI_in (c := q) (N := 16) (by omega) (by omega))]
    simp only [nI_clamp (n := c) (show c < 2 ^ 31 by omega), hwk]
    by_cases z : cw c = 0
    · rw [z, if_pos (show nI 0 ≤ 0 by decide +kernel)]
      refine ⟨th, rfl, fun d hd => ?_⟩
      rw [ite_self, Nat.add_zero]
      exact hT d hd
    · rw [if_neg (show ¬ nI (cw c) ≤ 0 from nI_ge (a := 0) (by omega) (by omega)), n_sshr (by omega) (by omega), show (1 : Int32) = nI 1 from rfl, n_bitv (by omega)]
      have keep : al q = false → ∀ d, d < R * C → th d = nI (T d + (if some q = some d ∧ al d = true then cw c else 0)) := by
        intro hf d hd
        rw [if_neg, Nat.add_zero]
        · exact hT d hd
        · intro y
          injection y.1 with y1
          rw [← y1, hf] at y
          exact absurd y.2 (by decide)
      have put : al q = true → ∀ d, d < R * C → upd th (nI q).toNatClampNeg (th (nI q).toNatClampNeg + nI (cw c)) d = nI (T d + (if some q = some d ∧ al d = true then cw c else 0)) := by
        intro hf d hd
        rw [nI_clamp (by omega)]
        by_cases t : d = q
        · subst t
          rw [upd_at, if_pos ⟨rfl, hf⟩, hT d hd, nI_add]
        · rw [upd_ne _ _ t, if_neg, Nat.add_zero]
          · exact hT d hd
          · intro y
            injection y.1 with y1
            exact t y1.symm
      have a := hal q hq
      cases sh
      · rw [if_pos (show bI false = 0 from rfl)]
        cases e : bn.testBit q
        · rw [e] at a
          rw [if_neg (show ¬ (if false = true then nI 1 else nI 0) = nI 1 by decide +kernel)]
          exact ⟨th, rfl, keep a⟩
        · rw [e] at a
          rw [if_pos (show (if true = true then nI 1 else nI 0) = nI 1 by decide +kernel)]
          exact ⟨_, rfl, put a⟩
      · rw [if_neg bI0]
        cases e : bn.testBit q
        · rw [e] at a
          rw [if_pos (show (if false = true then nI 1 else nI 0) = 0 by decide +kernel)]
          exact ⟨_, rfl, put a⟩
        · rw [e] at a
          rw [if_neg (show ¬ (if true = true then nI 1 else nI 0) = 0 by decide +kernel)]
          exact ⟨th, rfl, keep a⟩
end
section
/-! where: the minutes, both sides -/
theorem m_om41 {R C bn c : Nat} {sg cw : Nat → Nat} {dr th0 er k : Nat} {wc wl wd : Nat → Nat} {al : Nat → Bool} {sh : Bool} {wk : AR} {mb : BT} (rc30 : LT × Int32 × Int32 → Option LT) (ho : okS R C sg dr th0 er k wc wl wd) (hr : rM R C sg dr th0 er k wc wl wd mb) (hc : c < R * C) (hbn : bn < 65536) (hcw : ∀ i, cw i < 2 ^ 31) (hwk : ∀ i, i < R * C → wk i = nI (cw i)) (hz : ∀ i, i < R * C → sg i = 35 → cw i = 0) (hal : ∀ d, d < R * C → al d = (bn.testBit d == !sh)) : ∀ fu w (th : AR), w ≤ 5 → 5 - w < fu → (∀ d, d < R * C → th d = nI (sC R C sg al cw d c + sW R C sg al cw c d w)) → ∃ th', M_X9_oneMinute_41 mb (bI sh) rc30 fu ((wk, th), nI bn, nI c, nI w) = rc30 ((wk, th'), nI bn, nI (c + 1)) ∧ ∀ d, d < R * C → th' d = nI (sC R C sg al cw d (c + 1)) := by
  have h16 := ho.1.n16
  intro fu
  induction fu with
  | zero => intro w th _ h; omega
  | succ fu ih =>
    intro w th hw hfu hT
    show ∃ th', M_X9_oneMinute_41b _ _ _ _ _ = _ ∧ _
    unfold M_X9_oneMinute_41b M_X9_oneMinute_120
    dsimp only
    rcases Nat.lt_or_ge w 5 with y | y
    · rw [if_neg (show ¬ (5 : Int32) ≤ nI w from nI_ge (b := 5) y (by omega))]
      have go : ∀ o : Option Nat, (∀ d, o = some d → d < R * C) → (∀ d, (if o = some d ∧ al d = true then cw c else 0) = eW R C sg al cw c w d) → ∃ th', M_X9_oneMinute_64 mb (bI sh) rc30 (M_X9_oneMinute_41 mb (bI sh) rc30 fu) ((wk, th), nI bn, nI c, nI w, oI o) = rc30 ((wk, th'), nI bn, nI (c + 1)) ∧ ∀ d, d < R * C → th' d = nI (sC R C sg al cw d (c + 1)) := by
        intro o ho1 ho2
        obtain ⟨th1, e1, e2⟩ := m_om64 (mb := mb) (w := w) rc30 (M_X9_oneMinute_41 mb (bI sh) rc30 fu) o (show c < 16 by omega) hbn (hcw c) (hwk c hc) hal h16 ho1 hT
        rw [e1]
        refine ih (w + 1) th1 (by omega) (by omega) ?_
        intro d hd
        rw [e2 d hd, ho2 d, Nat.add_assoc]
        rfl
      by_cases w4 : w = 4
      · subst w4
        rw [if_pos (show nI 4 = 4 from rfl)]
        refine go (some c) (fun d e => by injection e with e; omega) ?_
        intro d
        unfold eW
        by_cases u : sg c = 35
        · rw [hz c hc u, ite_self, ite_self]
        · rw [stp4 u]
      · rw [if_neg (show ¬ nI w = 4 from w_ne (b := 4) (by omega) (by omega) w4), m_beyond ho hr hc y, bx]
        exact go _ (fun d e => (stp_lt ho.1 hc y e).1) (fun d => rfl)
    · have e : w = 5 := by omega
      subst e
      rw [if_pos (show (5 : Int32) ≤ nI 5 by decide +kernel), ← nI_succ]
      exact ⟨th, rfl, hT⟩
theorem m_om30 {R C bn : Nat} {sg cw : Nat → Nat} {dr th0 er k : Nat} {wc wl wd : Nat → Nat} {al : Nat → Bool} {sh : Bool} {wk : AR} {mb : BT} (ho : okS R C sg dr th0 er k wc wl wd) (hr : rM R C sg dr th0 er k wc wl wd mb) (hbn : bn < 65536) (hcw : ∀ i, cw i < 2 ^ 31) (hwk : ∀ i, i < R * C → wk i = nI (cw i)) (hz : ∀ i, i < R * C → sg i = 35 → cw i = 0) (hal : ∀ d, d < R * C → al d = (bn.testBit d == !sh)) : ∀ fu c (th : AR), c ≤ R * C → R * C - c < fu → (∀ d, d < R * C → th d = nI (sC R C sg al cw d c)) → ∃ th', M_X9_oneMinute_30 mb (bI sh) fu ((wk, th), nI bn, nI c) = M_X9_oneMinute_128 mb (bI sh) 200 ((wk, th'), 0) ∧ ∀ d, d < R * C → th' d = nI (sC R C sg al cw d (R * C)) := by
  have h16 := ho.1.n16
  intro fu
  induction fu with
  | zero => intro c th _ h; omega
  | succ fu ih =>
    intro c th hc hfu hT
    show ∃ th', M_X9_oneMinute_30b _ _ _ _ = _ ∧ _
    unfold M_X9_oneMinute_30b
    dsimp only
    rw [m_cellsM hr, bx]
    rcases Nat.lt_or_ge c (R * C) with y | y
    · rw [if_neg (nI_ge y (by omega))]
      obtain ⟨th1, e1, e2⟩ := m_om41 (M_X9_oneMinute_30 mb (bI sh) fu) ho hr y hbn hcw hwk hz hal 200 0 th (by omega) (by omega) hT
      rw [show M_X9_oneMinute_41 mb (bI sh) (M_X9_oneMinute_30 mb (bI sh) fu) 200 ((wk, th), nI bn, nI c, 0) = _ from e1]
      exact ih (c + 1) th1 (by omega) (by omega) e2
    · have e : c = R * C := by omega
      subst e
      rw [if_pos (nI_le (Nat.le_refl _) (by omega))]
      exact ⟨th, rfl, hT⟩
theorem m_om128 {R C : Nat} {sg : Nat → Nat} {dr th0 er k : Nat} {wc wl wd : Nat → Nat} {mb : BT} (x : Int32) (th : AR) (h16 : R * C ≤ 16) (hr : rM R C sg dr th0 er k wc wl wd mb) : ∀ fu c (wk : AR), c ≤ R * C → R * C - c < fu → (∀ d, d < c → wk d = th d) → ∃ wk', M_X9_oneMinute_128 mb x fu ((wk, th), nI c) = some (wk', th) ∧ ∀ d, d < R * C → wk' d = th d := by
  intro fu
  induction fu with
  | zero => intro c wk _ h; omega
  | succ fu ih =>
    intro c wk hc hfu hT
    show ∃ wk', M_X9_oneMinute_128b _ _ _ _ = _ ∧ _
    unfold M_X9_oneMinute_128b
    dsimp only
    rw [m_cellsM hr, bx]
    rcases Nat.lt_or_ge c (R * C) with y | y
    · rw [if_neg (nI_ge y (by omega)), if_pos (nI_in (c := c) (N := 16) (by omega) (by omega)), if_pos (nI_in (c := c) (N := 16) (by omega) (by omega)), nI_clamp (by omega), ← nI_succ]
      refine ih (c + 1) _ (by omega) (by omega) ?_
      intro d hd
      by_cases t : d = c
      · subst t; exact upd_at ..
      · rw [upd_ne _ _ t]; exact hT d (by omega)
    · have e : c = R * C := by omega
      subst e
      rw [if_pos (nI_le (Nat.le_refl _) (by omega))]
      exact ⟨wk, rfl, hT⟩
theorem m_om7 {R C : Nat} {sg : Nat → Nat} {dr th0 er k : Nat} {wc wl wd : Nat → Nat} {mb : BT} (x bn : Int32) (wk : AR) (h16 : R * C ≤ 16) (hr : rM R C sg dr th0 er k wc wl wd mb) : ∀ fu c (th : AR), c ≤ R * C → R * C - c < fu → (∀ d, d < c → th d = nI 0) → ∃ th', M_X9_oneMinute_7 mb x fu ((wk, th), bn, nI c) = M_X9_oneMinute_30 mb x 200 ((wk, th'), bn, 0) ∧ ∀ d, d < R * C → th' d = nI 0 := by
  intro fu
  induction fu with
  | zero => intro c th _ h; omega
  | succ fu ih =>
    intro c th hc hfu hT
    show ∃ th', M_X9_oneMinute_7b _ _ _ _ = _ ∧ _
    unfold M_X9_oneMinute_7b
    dsimp only
    rw [m_cellsM hr, bx]
    rcases Nat.lt_or_ge c (R * C) with y | y
    · rw [if_neg (nI_ge y (by omega)), if_pos (nI_in (c := c) (N := 16) (by omega) (by omega)), nI_clamp (by omega), ← nI_succ]
      refine ih (c + 1) _ (by omega) (by omega) ?_
      intro d hd
      by_cases t : d = c
      · subst t; exact upd_at ..
      · rw [upd_ne _ _ t]; exact hT d (by omega)
    · have e : c = R * C := by omega
      subst e
      rw [if_pos (nI_le (Nat.le_refl _) (by omega))]
      exact ⟨th, rfl, hT⟩
theorem m_oneMinute {R C bn : Nat} {sg cw : Nat → Nat} {dr th0 er k : Nat} {wc wl wd : Nat → Nat} {al : Nat → Bool} {sh : Bool} {ml : LT} {mb : BT} (ho : okS R C sg dr th0 er k wc wl wd) (hr : rM R C sg dr th0 er k wc wl wd mb) (hbn : brs R C sg er wc wl wd k = bn) (hcw : ∀ i, cw i < 2 ^ 31) (hwk : ∀ i, i < R * C → ml.1 i = nI (cw i)) (hz : ∀ i, i < R * C → sg i = 35 → cw i = 0) (hal : ∀ d, d < R * C → al d = (bn.testBit d == !sh)) : ∃ ml', M_X9_oneMinute mb ml (bI sh) = some ml' ∧ ∀ d, d < R * C → ml'.1 d = nI (nx R C sg al cw d) := by
  have h16 := ho.1.n16
  have hb := lt16 ho.1 (brs_lt R C sg er wc wl wd k)
  rw [hbn] at hb
  unfold M_X9_oneMinute
  rw [m_bareR ho hr, hbn, bx]
  obtain ⟨t1, a1, a2⟩ := m_om7 (bI sh) (nI bn) ml.1 h16 hr 200 0 ml.2 (by omega) (by omega) (fun d hd => absurd hd (by omega))
  rw [show M_X9_oneMinute_7 mb (bI sh) 200 (ml, nI bn, 0) = _ from a1]
  obtain ⟨t2, b1, b2⟩ := m_om30 (wk := ml.1) ho hr hb hcw hwk hz hal 200 0 t1 (by omega) (by omega) a2
  rw [show M_X9_oneMinute_30 mb (bI sh) 200 ((ml.1, t1), nI bn, 0) = _ from b1]
  obtain ⟨w3, c1, c2⟩ := m_om128 (mb := mb) (bI sh) t2 h16 hr 200 0 ml.1 (by omega) (by omega) (fun d hd => absurd hd (by omega))
  refine ⟨_, c1, ?_⟩
  intro d hd
  show w3 d = _
  rw [c2 d hd, b2 d hd]
  congr 1
  unfold nx
  by_cases u : sg d ≠ 35 ∧ al d = true
  · rw [if_pos ⟨hd, u.1, u.2⟩, sC_eq ho.1 hd u.1 u.2 hz]
  · rw [if_neg (fun z => u ⟨z.2.1, z.2.2⟩)]
    apply sC_0 ho.1 _ _ (Nat.le_refl _)
    by_cases t : sg d = 35
    · exact Or.inl t
    · right
      cases e : al d
      · rfl
      · exact absurd ⟨t, e⟩ u
theorem brs_open {R C i : Nat} {sg : Nat → Nat} {er : Nat} {wc wl wd : Nat → Nat} (hi : i < R * C) : ∀ n, (brs R C sg er wc wl wd n).testBit i = true → sg i ≠ 35 := by
  intro n
  induction n with
  | zero =>
    intro h
    rw [brs_0 hi] at h
    simpa using h
  | succ n ih =>
    intro h
    apply ih
    have e : (andn (brs R C sg er wc wl wd n) (spo R C sg er (wc n) (wl n) (wd n))).testBit i = true := h
    rw [andn_bit] at e
    simp at e
    exact e.1
/-- ways so far, on both sides -/
def QW (R C : Nat) (sg : Nat → Nat) (cw : Nat → Nat) (b : Nat) (q : QT) (ml : LT) : Prop := (∀ i, i < 16 → q.1 i = nI (cw i)) ∧ (∀ i, i < R * C → ml.1 i = nI (cw i)) ∧ (∀ i, cw i ≤ b) ∧ (∀ c, c < R * C → sg c = 35 → cw c = 0) ∧ (∀ c, R * C ≤ c → cw c = 0)
theorem m_minute {R C bn b : Nat} {sg cw : Nat → Nat} {dr th0 er k : Nat} {wc wl wd : Nat → Nat} {q : QT} {ml : LT} {mb : BT} (sh : Bool) (ho : okS R C sg dr th0 er k wc wl wd) (hr : rM R C sg dr th0 er k wc wl wd mb) (hbn : brs R C sg er wc wl wd k = bn) (hb : b < 2 ^ 31) (hq : QW R C sg cw b q ml) : ∃ cw' q' ml', M_X7_passMinute q (hOf R C sg dr th0 er) (nI (if sh then andn (opn R C sg) bn else bn)) = some q' ∧ M_X9_oneMinute mb ml (bI sh) = some ml' ∧ QW R C sg cw' (5 * b) q' ml' := by
  obtain ⟨q1, q2, q3, q4, q5⟩ := hq
  have hbl := brs_lt R C sg er wc wl wd k
  rw [hbn] at hbl
  have hm : (if sh then andn (opn R C sg) bn else bn) < 2 ^ (R * C) := by
    cases sh
    · exact hbl
    · exact andn_lt (opn_lt R C sg)
  have hal : ∀ d, d < R * C → (if sh then andn (opn R C sg) bn else bn).testBit d = ((bn.testBit d == !sh) && !(sg d == 35)) := by
    intro d hd
    have bo := brs_open (sg := sg) (er := er) (wc := wc) (wl := wl) (wd := wd) hd k
    rw [hbn] at bo
    cases sh
    · show bn.testBit d = _
      cases e : bn.testBit d
      · rfl
      · rw [beq_eq_false_iff_ne.mpr (bo e)]; rfl
    · show (andn (opn R C sg) bn).testBit d = _
      rw [andn_bit, opn_bit sg hd]
      cases bn.testBit d <;> cases (sg d == 35) <;> rfl
  obtain ⟨q', a1, a2⟩ := m_passMinute (dr := dr) (th := th0) (er := er) (al := fun d => bn.testBit d == !sh) ho.1 hm hal q1
  obtain ⟨ml', b1, b2⟩ := m_oneMinute (al := fun d => bn.testBit d == !sh) (sh := sh) ho hr hbn (fun i => Nat.lt_of_le_of_lt (q3 i) hb) q2 q4 (fun d _ => rfl)
  refine ⟨nx R C sg (fun d => bn.testBit d == !sh) cw, q', ml', a1, b1, a2, b2, fun i => nx_le q3, ?_, ?_⟩
  · intro c _ h
    unfold nx
    exact if_neg (fun z => z.2.1 h)
  · intro c h
    unfold nx
    exact if_neg (fun z => absurd z.1 (by omega))
def tS (cw : Nat → Nat) : Nat → Nat
  | 0 => 0
  | c + 1 => tS cw c + cw c
theorem tS_more {cw : Nat → Nat} {n : Nat} (h : ∀ c, n ≤ c → cw c = 0) : ∀ d, tS cw (n + d) = tS cw n := by
  intro d
  induction d with
  | zero => rfl
  | succ d ih =>
    show tS cw (n + d) + cw (n + d) = _
    rw [ih, h _ (by omega)]; rfl
theorem mk_more {P : Nat → Bool} {n : Nat} (h : ∀ c, n ≤ c → P c = false) : ∀ d, mk P (n + d) = mk P n := by
  intro d
  induction d with
  | zero => rfl
  | succ d ih =>
    show (if P (n + d) then mk P (n + d) ||| 2 ^ (n + d) else mk P (n + d)) = _
    rw [h _ (by omega), if_neg (by decide), ih]
theorem m_possible {cw : Nat → Nat} {q : QT} (hq : ∀ i, i < 16 → q.1 i = nI (cw i)) (hc : ∀ i, cw i < 2 ^ 31) : M_X7_possibleCells q = some (nI (mk (fun c => decide (0 < cw c)) 16)) := by
  have st : ∀ fu j, j ≤ 16 → 16 - j < fu → M_X7_possibleCells_4 q fu (nI (mk (fun c => decide (0 < cw c)) j), nI j) = some (nI (mk (fun c => decide (0 < cw c)) 16)) := by
    intro fu
    induction fu with
    | zero => intro j _ h; omega
    | succ fu ih =>
      intro j hj hfu
      show M_X7_possibleCells_4b _ _ _ = _
      unfold M_X7_possibleCells_4b M_X7_possibleCells_31
      dsimp only
      rcases Nat.lt_or_ge j 16 with y | y
      · have key := ih (j + 1) (by omega) (by omega)
        have e : mk (fun c => decide (0 < cw c)) (j + 1) = if decide (0 < cw j) = true then mk (fun c => decide (0 < cw c)) j ||| 2 ^ j else mk (fun c => decide (0 < cw c)) j := rfl
        rw [if_neg (nI_ge y (by omega)), if_pos (nI_in y (by omega)), nI_clamp (by omega), hq j y, ← nI_succ]
        by_cases z : cw j = 0
        · rw [z, decide_eq_false (by omega), if_neg (by decide)] at e
          rw [e] at key
          rw [z, if_pos (show nI 0 ≤ 0 by decide +kernel), n_or0]
          exact key
        · rw [decide_eq_true (by omega), if_pos rfl] at e
          rw [e] at key
          have := hc j
          rw [if_neg (show ¬ nI (cw j) ≤ 0 from nI_ge (a := 0) (by omega) (by omega)), m_bit (by omega), bx, n_or]
          exact key
      · have e : j = 16 := by omega
        subst e
        rw [if_pos (show nI 16 ≤ nI 16 by decide +kernel)]
  exact st 200 0 (by omega) (by omega)
theorem m_walks {cw : Nat → Nat} {q : QT} (hq : ∀ i, i < 16 → q.1 i = nI (cw i)) : M_X7_walks q = some (nI (tS cw 16)) := by
  have st : ∀ fu j, j ≤ 16 → 16 - j < fu → M_X7_walks_4 q fu (nI (tS cw j), nI j) = some (nI (tS cw 16)) := by
    intro fu
    induction fu with
    | zero => intro j _ h; omega
    | succ fu ih =>
      intro j hj hfu
      show M_X7_walks_4b _ _ _ = _
      unfold M_X7_walks_4b
      dsimp only
      rcases Nat.lt_or_ge j 16 with y | y
      · rw [if_neg (nI_ge y (by omega)), if_pos (nI_in y (by omega)), nI_clamp (by omega), hq j y, ← nI_succ, nI_add]
        exact ih (j + 1) (by omega) (by omega)
      · have e : j = 16 := by omega
        subst e
        rw [if_pos (show nI 16 ≤ nI 16 by decide +kernel)]
  exact st 200 0 (by omega) (by omega)
theorem m_w136 {R C : Nat} {sg cw : Nat → Nat} {dr th0 er k : Nat} {wc wl wd : Nat → Nat} {ml : LT} {mb : BT} (x1 x2 x3 : Int32) (h16 : R * C ≤ 16) (hr : rM R C sg dr th0 er k wc wl wd mb) (hq : ∀ i, i < R * C → ml.1 i = nI (cw i)) (hc : ∀ i, cw i < 2 ^ 31) : M_X9_where_136 mb x1 x2 x3 200 (ml, 0, 0, 0) = some (if x3 = 0 then nI (mk (fun c => decide (0 < cw c)) (R * C)) else nI (tS cw (R * C)), ml) := by
  have st : ∀ fu j, j ≤ R * C → R * C - j < fu → M_X9_where_136 mb x1 x2 x3 fu (ml, nI (mk (fun c => decide (0 < cw c)) j), nI (tS cw j), nI j) = some (if x3 = 0 then nI (mk (fun c => decide (0 < cw c)) (R * C)) else nI (tS cw (R * C)), ml) := by
    intro fu
    induction fu with
    | zero => intro j _ h; omega
    | succ fu ih =>
      intro j hj hfu
      show M_X9_where_136b _ _ _ _ _ _ = _
      unfold M_X9_where_136b M_X9_where_165
      dsimp only
      rw [m_cellsM hr, bx]
      rcases Nat.lt_or_ge j (R * C) with y | y
      · have key := ih (j + 1) (by omega) (by omega)
        have e : mk (fun c => decide (0 < cw c)) (j + 1) = if decide (0 < cw j) = true then mk (fun c => decide (0 < cw c)) j ||| 2 ^ j else mk (fun c => decide (0 < cw c)) j := rfl
        have e2 : tS cw (j + 1) = tS cw j + cw j := rfl
        rw [if_neg (nI_ge y (by omega)), if_pos (nI_in (c := j) (N := 16) (by omega) (by omega))]
        simp only [nI_clamp (n := j) (show j < 2 ^ 31 by omega), hq j y]
        by_cases z : cw j = 0
        · rw [z, decide_eq_false (by omega), if_neg (by decide)] at e
          rw [e, e2, z] at key
          rw [z, if_pos (show nI 0 ≤ 0 by decide +kernel), if_pos (nI_in (c := j) (N := 16) (by omega) (by omega)), n_or0, nI_add, ← nI_succ]
          exact key
        · rw [decide_eq_true (by omega), if_pos rfl] at e
          rw [e, e2] at key
          have := hc j
          rw [if_neg (show ¬ nI (cw j) ≤ 0 from nI_ge (a := 0) (by omega) (by omega)), if_pos (nI_in (c := j) (N := 16) (by omega) (by omega)), n_pow (by omega), n_or, nI_add, ← nI_succ]
          exact key
      · have e : j = R * C := by omega
        rw [e, if_pos (nI_le (Nat.le_refl _) (by omega))]
        by_cases z : x3 = 0
        · rw [if_pos z, if_pos z]
        · rw [if_neg z, if_neg z]
  exact st 200 0 (by omega) (by omega)
theorem pw2 : ∀ n, n < 9 → M_X8_power 2 (nI n) = some (nI (2 ^ n)) ∧ 2 ^ n < 300 := by decide +kernel
theorem m_w59 {R C : Nat} {sg : Nat → Nat} {dr th0 er k : Nat} {wc wl wd : Nat → Nat} {mb : BT} (x1 x2 x3 : Int32) (m : AR) (ho : okS R C sg dr th0 er k wc wl wd) (hr : rM R C sg dr th0 er k wc wl wd mb) : ∀ fu j (wk : AR), j ≤ 16 → 16 - j < fu → (∀ d, d < j → wk d = nI (if d = dr then 1 else 0)) → ∃ wk', M_X9_where_59 mb x1 x2 x3 fu ((wk, m), nI j) = M_X9_where_96 mb x1 x2 x3 200 ((wk', m), 0) ∧ ∀ d, d < 16 → wk' d = nI (if d = dr then 1 else 0) := by
  have h16 := ho.1.n16
  have hd := ho.2.2.1.1
  intro fu
  induction fu with
  | zero => intro j wk _ h; omega
  | succ fu ih =>
    intro j wk hj hfu hw
    show ∃ wk', M_X9_where_59b _ _ _ _ _ _ = _ ∧ _
    unfold M_X9_where_59b M_X9_where_86
    dsimp only
    rw [hr.2.2.1]
    rcases Nat.lt_or_ge j 16 with y | y
    · rw [if_neg (show ¬ (16 : Int32) ≤ nI j from nI_ge (b := 16) y (by omega)), if_pos (nI_in y (by omega)), if_pos (nI_in y (by omega)), nI_clamp (by omega), ← nI_succ]
      have go : ∀ v : Int32, v = nI (if j = dr then 1 else 0) → ∃ wk', M_X9_where_59 mb x1 x2 x3 fu ((upd wk j v, m), nI (j + 1)) = M_X9_where_96 mb x1 x2 x3 200 ((wk', m), 0) ∧ ∀ d, d < 16 → wk' d = nI (if d = dr then 1 else 0) := by
        intro v hv
        refine ih (j + 1) _ (by omega) (by omega) ?_
        intro d hd
        by_cases t : d = j
        · subst t; rw [upd_at]; exact hv
        · rw [upd_ne _ _ t]; exact hw d (by omega)
      by_cases t : j = dr
      · rw [if_pos (show nI j = nI dr by rw [t])]
        exact go 1 (by rw [if_pos t]; rfl)
      · rw [if_neg (w_ne (by omega) (by omega) t)]
        exact go 0 (by rw [if_neg t]; rfl)
    · have e : j = 16 := by omega
      subst e
      rw [if_pos (show (16 : Int32) ≤ nI 16 by decide +kernel)]
      exact ⟨wk, rfl, hw⟩
theorem op_where {h : HT} {v : VT} {mb : BT} (q : QT) (ml : LT) (x1 x2 x3 : Int32) (rh : RH h v mb) : ∃ z q' ml', M_X8_where h v q x1 x2 x3 = some (z, q') ∧ M_X9_where mb ml x1 x2 x3 = some (z, ml') := by
  obtain ⟨R, C, sg, dr, th, er, k, wc, wl, wd, ho, ⟨hx1, hx2, hx3⟩, hr⟩ := rh
  subst hx1
  have h16 := ho.1.n16
  have hdr := ho.2.2.1.1
  have e2 : M_X9_in x2.toInt64 (0 : Int64) (8 : Int64) = some (if 0 ≤ x2 ∧ x2 ≤ 8 then 1 else 0) := m_in x2 0 8
  have e3 : M_X9_in x3.toInt64 (0 : Int64) (1 : Int64) = some (if 0 ≤ x3 ∧ x3 ≤ 1 then 1 else 0) := m_in x3 0 1
  unfold M_X8_where M_X9_where
  rw [m_within x2, m_within x3, e2, e3]
  simp only [bx]
  by_cases c2 : 0 ≤ x2 ∧ x2 ≤ 8
  · rw [if_pos c2, if_neg k10, if_neg k10, if_neg k10]
    obtain ⟨n, _, n1, rfl⟩ := rng (a := 0) (b := 8) (by omega) (by omega) c2.1 c2.2
    obtain ⟨p1, p2⟩ := pw2 n (by omega)
    have p0 := Nat.two_pow_pos n
    rw [p1, bx]
    unfold M_X9_where_43
    dsimp only
    rw [n_pow (by omega)]
    rcases cell_cs (x := x1) (n := 2 ^ n) (by omega) with ⟨s, hs, rfl⟩ | qq
    · rw [within_good hs (by omega), in_good hs (by omega), bx, bx, if_neg k10, if_neg k10]
      by_cases c3 : 0 ≤ x3 ∧ x3 ≤ 1
      · rw [if_pos c3, if_neg k10, if_neg k10]
        obtain ⟨hf, f1, f2⟩ := m_fill (n := 16) q.1 0 (by omega)
        rw [m_bare ho ⟨rfl, hx2, hx3⟩, bx]
        unfold M_X7_begin
        rw [f1, bx, show M_X8_put 16 hf (hOf R C sg dr th er).2.2.2.2.2.2.2.2.2.1 1 = some (upd hf dr 1) from m_put hf 1 (by omega) (by omega), bx, bx]
        obtain ⟨wk, w1, w2⟩ := m_w59 (nI s) (nI n) x3 ml.2 ho hr 200 0 ml.1 (by omega) (by omega) (fun d hd => absurd hd (by omega))
        rw [show M_X9_where_59 mb (nI s) (nI n) x3 200 (ml, 0) = _ from w1]
        generalize hbn : brs R C sg er wc wl wd k = bn
        have lp : ∀ fu t cw (q : QT) (ml : LT), t ≤ n → n - t < fu → QW R C sg cw (5 ^ t) q ml → ∃ z q' ml', M_X8_where_63 (hOf R C sg dr th er) v (nI s) (nI n) x3 fu (q, nI bn, nI t) = some (z, q') ∧ M_X9_where_96 mb (nI s) (nI n) x3 fu (ml, nI t) = some (z, ml') := by
          intro fu
          induction fu with
          | zero => intro t cw q ml _ h; omega
          | succ fu ih =>
            intro t cw q ml ht hfu hq
            have ex : ∀ a, M_X8_where_63 (hOf R C sg dr th er) v (nI s) (nI n) x3 (fu + 1) a = M_X8_where_63b (hOf R C sg dr th er) v (nI s) (nI n) x3 (M_X8_where_63 (hOf R C sg dr th er) v (nI s) (nI n) x3 fu) a := fun a => rfl
            have em : ∀ a, M_X9_where_96 mb (nI s) (nI n) x3 (fu + 1) a = M_X9_where_96b mb (nI s) (nI n) x3 (M_X9_where_96 mb (nI s) (nI n) x3 fu) a := fun a => rfl
            rw [ex, em]
            unfold M_X8_where_63b M_X9_where_96b M_X8_where_103 M_X9_where_118
            dsimp only
            have p5 := fv5lt t (by omega)
            rcases Nat.lt_or_ge t n with y | y
            · have bt : (nI s >>> (nI t &&& 31)) &&& (1 : Int32) = (if s.testBit t then nI 1 else nI 0) := by
                rw [n_sshr (by omega) (by omega), show (1 : Int32) = nI 1 from rfl, n_bitv (by omega)]
              rw [if_neg (nI_ge y (by omega)), if_neg (nI_ge y (by omega)), m_has (by omega) (by omega), bx, bt, m_open, bx, ← nI_succ]
              have e5 : 5 * 5 ^ t = 5 ^ (t + 1) := by rw [Nat.pow_succ, Nat.mul_comm]
              cases es : s.testBit t
              · obtain ⟨cw', q', ml', a1, a2, a3⟩ := m_minute false ho hr hbn (by omega) hq
                rw [e5] at a3
                rw [if_neg (show ¬ false = true by decide), if_pos k00, if_neg (show ¬ false = true by decide), if_neg (show ¬ nI 0 = 1 by decide +kernel), show M_X7_passMinute q (hOf R C sg dr th er) (nI bn) = _ from a1, show M_X9_oneMinute mb ml 0 = _ from a2, bx, bx]
                exact ih (t + 1) cw' q' ml' (by omega) (by omega) a3
              · obtain ⟨cw', q', ml', a1, a2, a3⟩ := m_minute true ho hr hbn (by omega) hq
                rw [e5] at a3
                rw [if_pos (show true = true from rfl), if_neg k10, n_andn, if_pos (show true = true from rfl), if_pos (show nI 1 = 1 from rfl), show M_X7_passMinute q (hOf R C sg dr th er) (nI (andn (andn (2 ^ (R * C) - 1) (sgn R C sg 35)) bn)) = _ from a1, show M_X9_oneMinute mb ml 1 = _ from a2, bx, bx]
                exact ih (t + 1) cw' q' ml' (by omega) (by omega) a3
            · have e : t = n := by omega
              subst e
              obtain ⟨q1, q2, q3, q4, q5⟩ := hq
              have hcl : ∀ i, cw i < 2 ^ 31 := fun i => by have := q3 i; omega
              have m1 := mk_more (P := fun c => decide (0 < cw c)) (n := R * C) (fun c hc => by rw [q5 c hc]; rfl) (16 - R * C)
              have m2 := tS_more (cw := cw) (n := R * C) q5 (16 - R * C)
              rw [show R * C + (16 - R * C) = 16 by omega] at m1 m2
              rw [if_pos (nI_le (Nat.le_refl _) (by omega)), if_pos (nI_le (Nat.le_refl _) (by omega)), m_w136 _ _ _ h16 hr q2 hcl, m_possible q1 hcl, m_walks q1, m1, m2, bx, bx]
              by_cases z : x3 = 0
              · rw [if_pos z, if_pos z]; exact ⟨_, _, _, rfl, rfl⟩
              · rw [if_neg z, if_neg z]; exact ⟨_, _, _, rfl, rfl⟩
        refine lp 200 0 (fun i => if i = dr then 1 else 0) _ _ (by omega) (by omega) ⟨?_, fun i hi => w2 i (by omega), ?_, ?_, ?_⟩
        · intro i hi
          by_cases t : i = dr
          · subst t
            show upd hf i 1 i = nI (if i = i then 1 else 0)
            rw [upd_at, if_pos rfl]; rfl
          · show upd hf dr 1 i = _
            rw [upd_ne _ _ t]
            show hf i = nI (if i = dr then 1 else 0)
            rw [if_neg t]; exact f2 i hi
        · intro i
          show (if i = dr then 1 else 0) ≤ 1
          split <;> omega
        · intro c hc hs
          show (if c = dr then 1 else 0) = 0
          rw [if_neg]
          intro t
          rw [t] at hs
          exact ho.2.2.1.2 hs
        · intro c hc
          show (if c = dr then 1 else 0) = 0
          rw [if_neg (by omega)]
      · rw [if_neg c3, if_pos k00, if_pos k00]
        exact ⟨_, _, _, rfl, rfl⟩
    · rw [within_bad p0 (by omega) qq, in_bad (by omega) qq, bx, bx, if_pos k00, if_pos k00, ite_self]
      exact ⟨_, _, _, rfl, rfl⟩
  · rw [if_neg c2, if_pos k00, if_pos k00]
    exact ⟨_, _, _, rfl, rfl⟩
end
section
/-! Ways and how long they are; the reference's distances -/
/-- a way of n steps from a cell to g, over cells of A -/
def wk (R C : Nat) (sg : Nat → Nat) (A g : Nat) : Nat → Nat → Prop
  | 0, c => c = g
  | n + 1, c => ∃ w q, w < 4 ∧ stp R C sg c w = some q ∧ A.testBit q = true ∧ wk R C sg A g n q
/-- a shortest one -/
def isD (R C : Nat) (sg : Nat → Nat) (A g n c : Nat) : Prop := wk R C sg A g n c ∧ ∀ m, m < n → ¬ wk R C sg A g m c
noncomputable def dc (p : Prop) : Bool := @decide p (Classical.propDecidable p)
theorem dc_iff {p : Prop} : dc p = true ↔ p := by
  unfold dc
  exact @decide_eq_true_iff p (Classical.propDecidable p)
theorem dc_no {p : Prop} (h : ¬ p) : dc p = false := by
  cases e : dc p
  · rfl
  · exact absurd (dc_iff.mp e) h
theorem D_cases (R C : Nat) (sg : Nat → Nat) (A g c : Nat) : (∃ n, isD R C sg A g n c) ∨ ∀ n, ¬ wk R C sg A g n c := by
  by_cases h : ∃ n, wk R C sg A g n c
  · obtain ⟨n, a, b⟩ := pk_least (fun n => wk R C sg A g n c) h
    exact Or.inl ⟨n, a, b⟩
  · exact Or.inr (fun n hn => h ⟨n, hn⟩)
theorem D_uniq {R C : Nat} {sg : Nat → Nat} {A g n m c : Nat} (h1 : isD R C sg A g n c) (h2 : isD R C sg A g m c) : n = m := by
  rcases Nat.lt_trichotomy n m with y | y | y
  · exact absurd h1.1 (h2.2 n y)
  · exact y
  · exact absurd h2.1 (h1.2 m y)
theorem D_next {R C : Nat} {sg : Nat → Nat} {A g n c : Nat} (h : isD R C sg A g (n + 1) c) : ∃ w q, w < 4 ∧ stp R C sg c w = some q ∧ A.testBit q = true ∧ isD R C sg A g n q := by
  obtain ⟨⟨w, q, h1, h2, h3, h4⟩, h5⟩ := h
  exact ⟨w, q, h1, h2, h3, h4, fun m hm z => h5 (m + 1) (by omega) ⟨w, q, h1, h2, h3, z⟩⟩
theorem cn_mono {P Q : Nat → Bool} : ∀ n, (∀ i, i < n → P i = true → Q i = true) → cn P n ≤ cn Q n := by
  intro n
  induction n with
  | zero => intro _; exact Nat.le_refl _
  | succ n ih =>
    intro h
    have h1 := ih (fun i hi => h i (by omega))
    have h2 := h n (by omega)
    show cn P n + (if P n then 1 else 0) ≤ cn Q n + (if Q n then 1 else 0)
    cases e : P n
    · simp; omega
    · rw [h2 e]; simp; omega
theorem cn_lt {P Q : Nat → Bool} {t : Nat} (hp : P t = false) (hq : Q t = true) : ∀ n, (∀ i, i < n → P i = true → Q i = true) → t < n → cn P n < cn Q n := by
  intro n
  induction n with
  | zero => intro _ h; omega
  | succ n ih =>
    intro h ht
    show cn P n + (if P n then 1 else 0) < cn Q n + (if Q n then 1 else 0)
    by_cases e : t = n
    · subst e
      have := cn_mono (P := P) (Q := Q) t (fun i hi => h i (by omega))
      rw [hp, hq]; simp; omega
    · have h1 := ih (fun i hi => h i (by omega)) (by omega)
      have h2 := h n (by omega)
      cases u : P n
      · simp; omega
      · rw [h2 u]; simp; omega
theorem D_15 {R C : Nat} {sg : Nat → Nat} {A g : Nat} (h : okD R C) : ∀ n c, c < R * C → isD R C sg A g n c → n ≤ 15 := by
  have h16 := h.n16
  have key : ∀ n, (∃ c, c < R * C ∧ isD R C sg A g n c) → n + 1 ≤ cn (fun i => dc (∃ m, m ≤ n ∧ wk R C sg A g m i)) (R * C) := by
    intro n
    induction n with
    | zero =>
      intro ⟨c, hc, hd⟩
      rcases Nat.eq_zero_or_pos (cn (fun i => dc (∃ m, m ≤ 0 ∧ wk R C sg A g m i)) (R * C)) with z | z
      · have := (cn_0 _ _).mp z c hc
        rw [dc_iff.mpr ⟨0, Nat.le_refl _, hd.1⟩] at this
        exact absurd this (by decide)
      · omega
    | succ n ih =>
      intro ⟨c, hc, hd⟩
      obtain ⟨w, q, h1, h2, h3, h4⟩ := D_next hd
      have hq := (stp_lt h hc (by omega) h2).1
      have i1 := ih ⟨q, hq, h4⟩
      have i2 := cn_lt (P := fun i => dc (∃ m, m ≤ n ∧ wk R C sg A g m i)) (Q := fun i => dc (∃ m, m ≤ n + 1 ∧ wk R C sg A g m i)) (t := c) (dc_no (fun ⟨m, m1, m2⟩ => hd.2 m (by omega) m2)) (dc_iff.mpr ⟨n + 1, Nat.le_refl _, hd.1⟩) (R * C) (fun i _ z => by
        obtain ⟨m, m1, m2⟩ := dc_iff.mp z
        exact dc_iff.mpr ⟨m, by omega, m2⟩) hc
      omega
  intro n c hc hd
  have := key n ⟨c, hc, hd⟩
  have := cn_le (fun i => dc (∃ m, m ≤ n ∧ wk R C sg A g m i)) (R * C)
  omega
/-- a step more at the end -/
theorem wk_snoc {R C : Nat} {sg : Nat → Nat} {A q c w : Nat} (hw : w < 4) (hs : stp R C sg q w = some c) (ha : A.testBit c = true) : ∀ n x, wk R C sg A q n x → wk R C sg A c (n + 1) x := by
  intro n
  induction n with
  | zero =>
    intro x hx
    have e : x = q := hx
    subst e
    exact ⟨w, c, hw, hs, ha, rfl⟩
  | succ n ih =>
    intro x ⟨w', y, h1, h2, h3, h4⟩
    exact ⟨w', y, h1, h2, h3, ih y h4⟩
theorem wk_rev {R C : Nat} {sg : Nat → Nat} {A g : Nat} (h : okD R C) : ∀ n c, c < R * C → sg c ≠ 35 → A.testBit c = true → wk R C sg A g n c → wk R C sg A c n g := by
  intro n
  induction n with
  | zero => intro c _ _ _ hw; exact Eq.symm hw
  | succ n ih =>
    intro c hc hs ha ⟨w, q, h1, h2, h3, h4⟩
    obtain ⟨q1, q2, q3⟩ := stp_lt h hc (by omega) h2
    have n2 := nb_op h hc (show w < 5 by omega) q3
    have ho : opw w < 4 := by
      obtain rfl | rfl | rfl | rfl : w = 0 ∨ w = 1 ∨ w = 2 ∨ w = 3 := by omega
      · show 2 < 4; omega
      · show 3 < 4; omega
      · show 0 < 4; omega
      · show 1 < 4; omega
    exact wk_snoc ho (stp_of n2 hs) ha n g (ih q q1 q2 h3 h4)
theorem D_rev {R C : Nat} {sg : Nat → Nat} {A g n c : Nat} (h : okD R C) (hc : c < R * C) (hs : sg c ≠ 35) (ha : A.testBit c = true) (hg : g < R * C) (hgs : sg g ≠ 35) (hga : A.testBit g = true) (hd : isD R C sg A g n c) : isD R C sg A c n g := ⟨wk_rev h n c hc hs ha hd.1, fun m hm z => hd.2 m hm (wk_rev h m g hg hgs hga z)⟩
/-- what the reference's row holds -/
def FRr (R C : Nat) (sg : Nat → Nat) (A g : Nat) (f : AR) (F : Nat → Nat) : Prop := ∀ c, c < R * C → f c = nI (F c) ∧ F c ≤ 1000 ∧ (F c = 1000 ∨ (wk R C sg A g (F c) c ∧ (sg c ≠ 35 ∨ c = g)))
theorem bitA {A q : Nat} (hA : A < 65536) (hq : q < 16) : ((nI A >>> (nI q &&& 31)) &&& (1 : Int32)) = (if A.testBit q then nI 1 else nI 0) := by
  rw [n_sshr (by omega) (by omega), show (1 : Int32) = nI 1 from rfl, n_bitv (by omega)]
theorem m_ff53 {R C A g c : Nat} {sg : Nat → Nat} {dr th er k : Nat} {wc wl wd : Nat → Nat} {mb : BT} (x1 rr : Int32) (rc32 : AR × Int32 → Option AR) (rc41 : AR × Int32 × Int32 → Option AR) (ho : okS R C sg dr th er k wc wl wd) (hr : rM R C sg dr th er k wc wl wd mb) (hA : A < 65536) (hc : c < R * C) (hs : sg c ≠ 35) : ∀ fu w (f : AR) (F : Nat → Nat), w ≤ 4 → 4 - w < fu → FRr R C sg A g f F → ∃ f' F', M_X9_findFar_53 mb x1 (nI A) rc32 rc41 fu (f, rr, nI c, nI w) = rc41 (f', rr, nI (c + 1)) ∧ FRr R C sg A g f' F' ∧ (∀ i, F' i ≤ F i) ∧ ∀ w' q, w ≤ w' → w' < 4 → stp R C sg c w' = some q → A.testBit q = true → F' c ≤ F q + 1 := by
  have h16 := ho.1.n16
  intro fu
  induction fu with
  | zero => intro w f F _ h; omega
  | succ fu ih =>
    intro w f F hw hfu hF
    show ∃ f' F', M_X9_findFar_53b _ _ _ _ _ _ _ = _ ∧ _
    unfold M_X9_findFar_53b M_X9_findFar_97 M_X9_findFar_98 M_X9_findFar_142 M_X9_findFar_149 M_X9_findFar_156
    dsimp only
    rcases Nat.lt_or_ge w 4 with y | y
    · rw [if_neg (show ¬ (4 : Int32) ≤ nI w from nI_ge (b := 4) y (by omega)), m_isWall ho hr hc, if_neg hs, bx, if_pos k00, m_beyond ho hr hc (by omega), bx, if_pos (nI_in (c := c) (N := 16) (by omega) (by omega))]
      have keep : (∀ q, stp R C sg c w = some q → A.testBit q = true → F c ≤ F q + 1) → ∃ f' F', (if vin (nI c) 16 then M_X9_findFar_53 mb x1 (nI A) rc32 rc41 fu ((upd f (nI c).toNatClampNeg (f (nI c).toNatClampNeg)), rr, nI c, (nI w + (1 : Int32))) else none) = rc41 (f', rr, nI (c + 1)) ∧ FRr R C sg A g f' F' ∧ (∀ i, F' i ≤ F i) ∧ ∀ w' q, w ≤ w' → w' < 4 → stp R C sg c w' = some q → A.testBit q = true → F' c ≤ F q + 1 := by
        intro hk
        rw [if_pos (nI_in (c := c) (N := 16) (by omega) (by omega)), upd_self, ← nI_succ]
        obtain ⟨f', F', a1, a2, a3, a4⟩ := ih (w + 1) f F (by omega) (by omega) hF
        refine ⟨f', F', a1, a2, a3, ?_⟩
        intro w' q h1 h2 h3 h4
        by_cases t : w' = w
        · subst t
          exact Nat.le_trans (a3 c) (hk q h3 h4)
        · exact a4 w' q (by omega) h2 h3 h4
      cases e : stp R C sg c w with
      | none =>
        rw [if_pos (show oI none < 0 by decide +kernel), if_pos k00]
        exact keep (fun q z => by rw [e] at z; exact absurd z (by simp))
      | some q =>
        obtain ⟨q1, q2, q3⟩ := stp_lt ho.1 hc (show w < 5 by omega) e
        rw [show oI (some q) = nI q from rfl, if_neg (nI_pos (by omega)), bitA hA (by omega)]
        cases ea : A.testBit q
        · rw [if_neg (show ¬ false = true by decide), if_neg (show ¬ nI 0 = 1 by decide +kernel), if_pos k00]
          exact keep (fun q' z z2 => by rw [e] at z; injection z with z; rw [← z, ea] at z2; exact absurd z2 (by decide))
        · obtain ⟨b1, b2, b3⟩ := hF q q1
          obtain ⟨c1, c2, c3⟩ := hF c hc
          rw [if_pos (show true = true from rfl), if_pos (show nI 1 = 1 from rfl), if_neg k10, if_pos (nI_in (c := q) (N := 16) (by omega) (by omega))]
          by_cases le : F c ≤ F q + 1
          · rw [if_pos (show f (nI c).toNatClampNeg ≤ f (nI q).toNatClampNeg + 1 by rw [nI_clamp (by omega), nI_clamp (by omega), b1, c1, ← nI_succ]; exact nI_le le (by omega)), if_pos (nI_in (c := c) (N := 16) (by omega) (by omega))]
            exact keep (fun q' z _ => by rw [e] at z; injection z with z; rw [← z]; exact le)
          · rw [if_neg (show ¬ f (nI c).toNatClampNeg ≤ f (nI q).toNatClampNeg + 1 by rw [nI_clamp (by omega), nI_clamp (by omega), b1, c1, ← nI_succ]; exact nI_ge (by omega) (by omega)), if_pos (nI_in (c := q) (N := 16) (by omega) (by omega)), if_pos (nI_in (c := c) (N := 16) (by omega) (by omega)), if_pos (nI_in (c := c) (N := 16) (by omega) (by omega)), nI_clamp (by omega), nI_clamp (by omega), b1, ← nI_succ, ← nI_succ]
            have F2 : FRr R C sg A g (upd f c (nI (F q + 1))) (updN F c (F q + 1)) := by
              intro i hi
              by_cases t : i = c
              · subst t
                rw [upd_at, updN_at]
                refine ⟨rfl, by omega, Or.inr ?_⟩
                rcases b3 with b3 | b3
                · omega
                · exact ⟨⟨w, q, y, e, ea, b3.1⟩, Or.inl hs⟩
              · rw [upd_ne _ _ t, updN_ne _ _ t]; exact hF i hi
            have le2 : ∀ i, updN F c (F q + 1) i ≤ F i := by
              intro i
              by_cases t : i = c
              · subst t; rw [updN_at]; omega
              · rw [updN_ne _ _ t]; exact Nat.le_refl _
            obtain ⟨f', F', a1, a2, a3, a4⟩ := ih (w + 1) _ _ (by omega) (by omega) F2
            refine ⟨f', F', a1, a2, fun i => Nat.le_trans (a3 i) (le2 i), ?_⟩
            intro w' q' h1 h2 h3 h4
            by_cases t : w' = w
            · subst t
              rw [e] at h3; injection h3 with h3; subst h3
              have := a3 c
              rw [updN_at] at this
              exact this
            · have := a4 w' q' (by omega) h2 h3 h4
              have := le2 q'
              omega
    · have e : w = 4 := by omega
      subst e
      rw [if_pos (show (4 : Int32) ≤ nI 4 by decide +kernel), ← nI_succ]
      exact ⟨f, F, rfl, hF, fun i => Nat.le_refl _, fun w' q h1 h2 => absurd h1 (by omega)⟩
theorem m_ff41 {R C A g : Nat} {sg : Nat → Nat} {dr th er k : Nat} {wc wl wd : Nat → Nat} {mb : BT} (x1 : Int32) (rr : Int32) (rc32 : AR × Int32 → Option AR) (ho : okS R C sg dr th er k wc wl wd) (hr : rM R C sg dr th er k wc wl wd mb) (hA : A < 65536) : ∀ fu c (f : AR) (F : Nat → Nat), c ≤ R * C → R * C - c < fu → FRr R C sg A g f F → ∃ f' F', M_X9_findFar_41 mb x1 (nI A) rc32 fu (f, rr, nI c) = rc32 (f', rr + 1) ∧ FRr R C sg A g f' F' ∧ (∀ i, F' i ≤ F i) ∧ ∀ i w' q, c ≤ i → i < R * C → sg i ≠ 35 → w' < 4 → stp R C sg i w' = some q → A.testBit q = true → F' i ≤ F q + 1 := by
  have h16 := ho.1.n16
  intro fu
  induction fu with
  | zero => intro c f F _ h; omega
  | succ fu ih =>
    intro c f F hc hfu hF
    show ∃ f' F', M_X9_findFar_41b _ _ _ _ _ _ = _ ∧ _
    unfold M_X9_findFar_41b M_X9_findFar_162
    dsimp only
    rw [m_cellsM hr, bx]
    rcases Nat.lt_or_ge c (R * C) with y | y
    · rw [if_neg (nI_ge y (by omega))]
      by_cases s : sg c = 35
      · have e : M_X9_findFar_53 mb x1 (nI A) rc32 (M_X9_findFar_41 mb x1 (nI A) rc32 fu) 200 (f, rr, nI c, 0) = M_X9_findFar_41 mb x1 (nI A) rc32 fu (f, rr, nI (c + 1)) := by
          show M_X9_findFar_53b _ _ _ _ _ _ _ = _
          unfold M_X9_findFar_53b M_X9_findFar_156
          dsimp only
          rw [if_neg (show ¬ (4 : Int32) ≤ 0 by decide +kernel), m_isWall ho hr y, if_pos s, bx, if_neg k10, ← nI_succ]
        rw [e]
        obtain ⟨f', F', a1, a2, a3, a4⟩ := ih (c + 1) f F (by omega) (by omega) hF
        refine ⟨f', F', a1, a2, a3, ?_⟩
        intro i w' q h1 h2 h3
        by_cases t : i = c
        · subst t; exact absurd s h3
        · exact a4 i w' q (by omega) h2 h3
      · obtain ⟨f1, F1, b1, b2, b3, b4⟩ := m_ff53 (g := g) x1 rr rc32 (M_X9_findFar_41 mb x1 (nI A) rc32 fu) ho hr hA y s 200 0 f F (by omega) (by omega) hF
        rw [show M_X9_findFar_53 mb x1 (nI A) rc32 (M_X9_findFar_41 mb x1 (nI A) rc32 fu) 200 (f, rr, nI c, 0) = _ from b1]
        obtain ⟨f', F', a1, a2, a3, a4⟩ := ih (c + 1) f1 F1 (by omega) (by omega) b2
        refine ⟨f', F', a1, a2, fun i => Nat.le_trans (a3 i) (b3 i), ?_⟩
        intro i w' q h1 h2 h3 h4 h5 h6
        by_cases t : i = c
        · subst t
          exact Nat.le_trans (a3 i) (b4 w' q (by omega) h4 h5 h6)
        · have := a4 i w' q (by omega) h2 h3 h4 h5 h6
          have := b3 q
          omega
    · have e : c = R * C := by omega
      rw [e, if_pos (nI_le (Nat.le_refl _) (by omega))]
      exact ⟨f, F, rfl, hF, fun i => Nat.le_refl _, fun i w' q h1 h2 => absurd h1 (by omega)⟩
theorem m_ff32 {R C A g : Nat} {sg : Nat → Nat} {dr th er k : Nat} {wc wl wd : Nat → Nat} {mb : BT} (x1 : Int32) (ho : okS R C sg dr th er k wc wl wd) (hr : rM R C sg dr th er k wc wl wd mb) (hA : A < 65536) : ∀ fu r (f : AR) (F : Nat → Nat), r ≤ 16 → 16 - r < fu → FRr R C sg A g f F → (∀ c m, c < R * C → sg c ≠ 35 → m ≤ r → wk R C sg A g m c → F c ≤ m) → ∃ f' F', M_X9_findFar_32 mb x1 (nI A) fu (f, nI r) = some f' ∧ FRr R C sg A g f' F' ∧ ∀ c m, c < R * C → sg c ≠ 35 → m ≤ 16 → wk R C sg A g m c → F' c ≤ m := by
  have h16 := ho.1.n16
  intro fu
  induction fu with
  | zero => intro r f F _ h; omega
  | succ fu ih =>
    intro r f F hr' hfu hF hC
    show ∃ f' F', M_X9_findFar_32b _ _ _ _ _ = _ ∧ _
    unfold M_X9_findFar_32b
    dsimp only
    rcases Nat.lt_or_ge r 16 with y | y
    · rw [if_neg (show ¬ (16 : Int32) ≤ nI r from nI_ge (b := 16) y (by omega))]
      obtain ⟨f1, F1, b1, b2, b3, b4⟩ := m_ff41 (g := g) x1 (nI r) (M_X9_findFar_32 mb x1 (nI A) fu) ho hr hA 200 0 f F (by omega) (by omega) hF
      rw [show M_X9_findFar_41 mb x1 (nI A) (M_X9_findFar_32 mb x1 (nI A) fu) 200 (f, nI r, 0) = _ from b1, ← nI_succ]
      refine ih (r + 1) f1 F1 (by omega) (by omega) b2 ?_
      intro c m h1 h2 h3 h4
      by_cases t : m = r + 1
      · subst t
        obtain ⟨w, q, w1, w2, w3, w4⟩ := h4
        obtain ⟨q1, q2, q3⟩ := stp_lt ho.1 h1 (show w < 5 by omega) w2
        have := b4 c w q (by omega) h1 h2 w1 w2 w3
        have := hC q r q1 q2 (by omega) w4
        omega
      · exact Nat.le_trans (b3 c) (hC c m h1 h2 (by omega) h4)
    · have e : r = 16 := by omega
      subst e
      rw [if_pos (show (16 : Int32) ≤ nI 16 by decide +kernel)]
      exact ⟨f, F, rfl, hF, hC⟩
/-- the reference's distances: what they are -/
theorem m_findFarW {R C A g : Nat} {sg : Nat → Nat} {dr th er k : Nat} {wc wl wd : Nat → Nat} {mb : BT} (mf : AR) (ho : okS R C sg dr th er k wc wl wd) (hr : rM R C sg dr th er k wc wl wd mb) (hA : A < 65536) (hg : g < R * C) : ∃ f, M_X9_findFar mb mf (nI g) (nI A) = some f ∧ (∀ c, c < R * C → sg c ≠ 35 → (∃ n, n ≤ 15 ∧ isD R C sg A g n c ∧ f c = nI n) ∨ ((∀ n, ¬ wk R C sg A g n c) ∧ f c = nI 1000)) ∧ ∀ c, c < R * C → sg c = 35 → c ≠ g → f c = nI 1000 := by
  have h16 := ho.1.n16
  have lp : ∀ fu j (f : AR), j ≤ 16 → 16 - j < fu → (∀ i, i < j → f i = nI 1000) → ∃ f', M_X9_findFar_2 mb (nI g) (nI A) fu (f, nI j) = M_X9_findFar_32 mb (nI g) (nI A) 200 (upd f' g 0, 0) ∧ ∀ i, i < 16 → f' i = nI 1000 := by
    intro fu
    induction fu with
    | zero => intro j f _ h; omega
    | succ fu ih =>
      intro j f hj hfu hf
      show ∃ f', M_X9_findFar_2b _ _ _ _ _ = _ ∧ _
      unfold M_X9_findFar_2b
      dsimp only
      rcases Nat.lt_or_ge j 16 with y | y
      · rw [if_neg (show ¬ (16 : Int32) ≤ nI j from nI_ge (b := 16) y (by omega)), if_pos (nI_in y (by omega)), nI_clamp (by omega), ← nI_succ]
        refine ih (j + 1) _ (by omega) (by omega) ?_
        intro i hi
        by_cases t : i = j
        · subst t; exact upd_at ..
        · rw [upd_ne _ _ t]; exact hf i (by omega)
      · have e : j = 16 := by omega
        subst e
        rw [if_pos (show (16 : Int32) ≤ nI 16 by decide +kernel), if_pos (nI_in (c := g) (N := 16) (by omega) (by omega)), nI_clamp (by omega)]
        exact ⟨f, rfl, hf⟩
  unfold M_X9_findFar
  obtain ⟨f0, l1, l2⟩ := lp 200 0 mf (by omega) (by omega) (fun i hi => absurd hi (by omega))
  rw [show M_X9_findFar_2 mb (nI g) (nI A) 200 (mf, 0) = _ from l1]
  have F0 : FRr R C sg A g (upd f0 g 0) (updN (fun _ => 1000) g 0) := by
    intro i hi
    by_cases t : i = g
    · subst t
      rw [upd_at, updN_at]
      exact ⟨rfl, by omega, Or.inr ⟨rfl, Or.inr rfl⟩⟩
    · rw [upd_ne _ _ t, updN_ne _ _ t]
      exact ⟨l2 i (by omega), Nat.le_refl _, Or.inl rfl⟩
  obtain ⟨f', F', a1, a2, a3⟩ := m_ff32 (g := g) (nI g) ho hr hA 200 0 _ _ (by omega) (by omega) F0 (by
    intro c m _ _ h3 h4
    have e : m = 0 := by omega
    subst e
    have ec : c = g := h4
    subst ec
    rw [updN_at]; exact Nat.le_refl _)
  refine ⟨f', a1, ?_, ?_⟩
  rotate_left
  · intro c hc hs hg'
    obtain ⟨b1, b2, b3⟩ := a2 c hc
    rcases b3 with b3 | ⟨_, b3 | b3⟩
    · rw [b1, b3]
    · exact absurd hs b3
    · exact absurd b3 hg'
  intro c hc hs
  obtain ⟨b1, b2, b3⟩ := a2 c hc
  rcases D_cases R C sg A g c with ⟨n, hn⟩ | hn
  · left
    have h15 := D_15 ho.1 n c hc hn
    have le := a3 c n hc hs (by omega) hn.1
    have eF : F' c = n := by
      rcases b3 with b3 | b3
      · omega
      · rcases Nat.lt_or_ge (F' c) n with y | y
        · exact absurd b3.1 (hn.2 _ y)
        · omega
    exact ⟨n, h15, hn, by rw [b1, eF]⟩
  · right
    refine ⟨hn, ?_⟩
    rcases b3 with b3 | b3
    · rw [b1, b3]
    · exact absurd b3.1 (hn _)
theorem m_findFar {R C A g : Nat} {sg : Nat → Nat} {dr th er k : Nat} {wc wl wd : Nat → Nat} {mb : BT} (mf : AR) (ho : okS R C sg dr th er k wc wl wd) (hr : rM R C sg dr th er k wc wl wd mb) (hA : A < 65536) (hg : g < R * C) : ∃ f, M_X9_findFar mb mf (nI g) (nI A) = some f ∧ ∀ c, c < R * C → sg c ≠ 35 → (∃ n, n ≤ 15 ∧ isD R C sg A g n c ∧ f c = nI n) ∨ ((∀ n, ¬ wk R C sg A g n c) ∧ f c = nI 1000) := by
  obtain ⟨f, a, b, _⟩ := m_findFarW mf ho hr hA hg
  exact ⟨f, a, b⟩
end
section
/-! The class's layers -/
noncomputable def LM (R C : Nat) (sg : Nat → Nat) (A g n : Nat) : Nat := mk (fun c => A.testBit c && dc (isD R C sg A g n c)) (R * C)
noncomputable def RMk (R C : Nat) (sg : Nat → Nat) (A g n : Nat) : Nat := mk (fun c => A.testBit c && dc (∃ m, m ≤ n ∧ wk R C sg A g m c)) (R * C)
theorem LM_lt (R C : Nat) (sg : Nat → Nat) (A g n : Nat) : LM R C sg A g n < 2 ^ (R * C) := mk_lt _ _
theorem RM_lt (R C : Nat) (sg : Nat → Nat) (A g n : Nat) : RMk R C sg A g n < 2 ^ (R * C) := mk_lt _ _
theorem LM_bit {R C A g n c : Nat} {sg : Nat → Nat} (hc : c < R * C) : (LM R C sg A g n).testBit c = (A.testBit c && dc (isD R C sg A g n c)) := by
  unfold LM; rw [mk_bit]; simp [hc]
theorem RM_bit {R C A g n c : Nat} {sg : Nat → Nat} (hc : c < R * C) : (RMk R C sg A g n).testBit c = (A.testBit c && dc (∃ m, m ≤ n ∧ wk R C sg A g m c)) := by
  unfold RMk; rw [mk_bit]; simp [hc]
theorem LM_on {R C A g n c : Nat} {sg : Nat → Nat} (hc : c < R * C) : (LM R C sg A g n).testBit c = true ↔ A.testBit c = true ∧ isD R C sg A g n c := by
  rw [LM_bit hc, Bool.and_eq_true, dc_iff]
theorem RM_on {R C A g n c : Nat} {sg : Nat → Nat} (hc : c < R * C) : (RMk R C sg A g n).testBit c = true ↔ A.testBit c = true ∧ ∃ m, m ≤ n ∧ wk R C sg A g m c := by
  rw [RM_bit hc, Bool.and_eq_true, dc_iff]
theorem mv_on {R C m w c : Nat} (hc : c < R * C) : (mv R C m w).testBit c = true ↔ ∃ q, nb R C c (opw w) = some q ∧ m.testBit q = true := by
  unfold mv
  rw [mk_bit, decide_eq_true hc, Bool.true_and]
  cases e : nb R C c (opw w) with
  | none => exact ⟨fun z => absurd z (by simp), fun ⟨q, z, _⟩ => absurd z (by simp)⟩
  | some q => exact ⟨fun z => ⟨q, rfl, z⟩, fun ⟨q', z, z2⟩ => by injection z with z; subst z; exact z2⟩
theorem sp_on {R C m c : Nat} (hc : c < R * C) : (sp R C m).testBit c = true ↔ m.testBit c = true ∨ ∃ w q, w < 4 ∧ nb R C c w = some q ∧ m.testBit q = true := by
  unfold sp
  rw [Nat.testBit_or, Nat.testBit_or, Nat.testBit_or, Nat.testBit_or, Bool.or_eq_true, Bool.or_eq_true, Bool.or_eq_true, Bool.or_eq_true, mv_on hc, mv_on hc, mv_on hc, mv_on hc]
  constructor
  · intro z
    rcases z with (((z | ⟨q, a, b⟩) | ⟨q, a, b⟩) | ⟨q, a, b⟩) | ⟨q, a, b⟩
    · exact Or.inl z
    · exact Or.inr ⟨2, q, by omega, a, b⟩
    · exact Or.inr ⟨3, q, by omega, a, b⟩
    · exact Or.inr ⟨0, q, by omega, a, b⟩
    · exact Or.inr ⟨1, q, by omega, a, b⟩
  · intro z
    rcases z with z | ⟨w, q, hw, a, b⟩
    · exact Or.inl (Or.inl (Or.inl (Or.inl z)))
    · obtain rfl | rfl | rfl | rfl : w = 0 ∨ w = 1 ∨ w = 2 ∨ w = 3 := by omega
      · exact Or.inl (Or.inr ⟨q, a, b⟩)
      · exact Or.inr ⟨q, a, b⟩
      · exact Or.inl (Or.inl (Or.inl (Or.inr ⟨q, a, b⟩)))
      · exact Or.inl (Or.inl (Or.inr ⟨q, a, b⟩))
theorem b_eq {a b : Bool} (h : a = true ↔ b = true) : a = b := by
  cases a <;> cases b
  · rfl
  · exact absurd (h.mpr rfl) (by decide)
  · exact absurd (h.mp rfl) (by decide)
  · rfl
theorem LM_0 {R C A g : Nat} {sg : Nat → Nat} (hg : g < R * C) : 2 ^ g &&& A = LM R C sg A g 0 ∧ 2 ^ g &&& A = RMk R C sg A g 0 := by
  constructor
  · apply bits_eq (n := R * C) (and_lt (p_lt hg)) (LM_lt ..)
    intro i hi
    apply b_eq
    rw [LM_on hi, Nat.testBit_and, Nat.testBit_two_pow, Bool.and_eq_true, decide_eq_true_iff]
    exact ⟨fun z => ⟨z.2, z.1.symm, fun m hm => absurd hm (by omega)⟩, fun z => ⟨Eq.symm z.2.1, z.1⟩⟩
  · apply bits_eq (n := R * C) (and_lt (p_lt hg)) (RM_lt ..)
    intro i hi
    apply b_eq
    rw [RM_on hi, Nat.testBit_and, Nat.testBit_two_pow, Bool.and_eq_true, decide_eq_true_iff]
    refine ⟨fun z => ⟨z.2, 0, Nat.le_refl _, z.1.symm⟩, fun ⟨z, m, m1, m2⟩ => ?_⟩
    have e : m = 0 := by omega
    subst e
    exact ⟨Eq.symm m2, z⟩
theorem LM_s {R C A g n : Nat} {sg : Nat → Nat} (h : okD R C) (hA : A < 2 ^ (R * C)) (hs : ∀ c, c < R * C → A.testBit c = true → sg c ≠ 35) : andn (sp R C (LM R C sg A g n) &&& A) (RMk R C sg A g n) = LM R C sg A g (n + 1) := by
  apply bits_eq (n := R * C) (andn_lt (Nat.lt_of_le_of_lt Nat.and_le_right hA)) (LM_lt ..)
  intro c hc
  apply b_eq
  rw [LM_on hc, andn_bit, Bool.and_eq_true, Nat.testBit_and, Bool.and_eq_true, sp_on hc]
  constructor
  · intro ⟨⟨z1, z2⟩, z3⟩
    have nr : ¬ ∃ m, m ≤ n ∧ wk R C sg A g m c := by
      intro z
      rw [(RM_on hc).mpr ⟨z2, z⟩] at z3
      exact absurd z3 (by decide)
    refine ⟨z2, ?_, fun m hm z => nr ⟨m, by omega, z⟩⟩
    rcases z1 with z1 | ⟨w, q, hw, a, b⟩
    · exact absurd ⟨n, Nat.le_refl _, ((LM_on hc).mp z1).2.1⟩ nr
    · have hq := nb_lt h hc (show w < 5 by omega) a
      obtain ⟨b1, b2⟩ := (LM_on hq).mp b
      exact ⟨w, q, hw, stp_of a (hs q hq b1), b1, b2.1⟩
  · intro ⟨z1, z2⟩
    obtain ⟨w, q, hw, a, b, d⟩ := D_next z2
    obtain ⟨q1, q2, q3⟩ := stp_lt h hc (show w < 5 by omega) a
    refine ⟨⟨Or.inr ⟨w, q, hw, q3, (LM_on q1).mpr ⟨b, d⟩⟩, z1⟩, ?_⟩
    cases e : (RMk R C sg A g n).testBit c
    · rfl
    · obtain ⟨_, m, m1, m2⟩ := (RM_on hc).mp e
      exact absurd m2 (z2.2 m (by omega))
theorem RM_s {R C A g n : Nat} {sg : Nat → Nat} : RMk R C sg A g n ||| LM R C sg A g (n + 1) = RMk R C sg A g (n + 1) := by
  apply bits_eq (n := R * C) (or_lt (RM_lt ..) (LM_lt ..)) (RM_lt ..)
  intro c hc
  apply b_eq
  rw [RM_on hc, Nat.testBit_or, Bool.or_eq_true, RM_on hc, LM_on hc]
  constructor
  · intro z
    rcases z with ⟨z, m, m1, m2⟩ | ⟨z, z2⟩
    · exact ⟨z, m, by omega, m2⟩
    · exact ⟨z, n + 1, Nat.le_refl _, z2.1⟩
  · intro ⟨z, m, m1, m2⟩
    by_cases t : ∃ m, m ≤ n ∧ wk R C sg A g m c
    · exact Or.inl ⟨z, t⟩
    · have e : m = n + 1 := by
        rcases Nat.lt_or_ge n m with y | y
        · omega
        · exact absurd ⟨m, y, m2⟩ t
      subst e
      exact Or.inr ⟨z, m2, fun m hm q => t ⟨m, by omega, q⟩⟩
theorem m_measure {R C A g c0 : Nat} {sg : Nat → Nat} (dr th er : Nat) (y : YT) (h : okD R C) (hA : A < 2 ^ (R * C)) (hs : ∀ c, c < R * C → A.testBit c = true → sg c ≠ 35) (hc : c0 < R * C) (hac : A.testBit c0 = true) (hg : g < R * C) : (∃ n ly, n ≤ 15 ∧ isD R C sg A g n c0 ∧ M_X5_measure y (hOf R C sg dr th er) (nI (2 ^ c0)) (nI (2 ^ g)) (nI A) = some (nI n, (ly, y.2)) ∧ ∀ k, k ≤ n → ly k = nI (LM R C sg A g k)) ∨ ((∀ n, ¬ wk R C sg A g n c0) ∧ ∃ ly, M_X5_measure y (hOf R C sg dr th er) (nI (2 ^ c0)) (nI (2 ^ g)) (nI A) = some (-6, (ly, y.2))) := by
  have h16 := h.n16
  have lp : ∀ fu n (ly : AR), n ≤ 16 → 16 - n < fu → (∀ m, m < n → ¬ isD R C sg A g m c0) → (∀ k, k < n → ly k = nI (LM R C sg A g k)) → (∃ n' ly', n' ≤ 15 ∧ isD R C sg A g n' c0 ∧ M_X5_measure_13 (hOf R C sg dr th er) (nI (2 ^ c0)) (nI (2 ^ g)) (nI A) fu ((ly, y.2), nI (LM R C sg A g n), nI (RMk R C sg A g n), nI n) = some (nI n', (ly', y.2)) ∧ ∀ k, k ≤ n' → ly' k = nI (LM R C sg A g k)) ∨ ((∀ n, ¬ wk R C sg A g n c0) ∧ ∃ ly', M_X5_measure_13 (hOf R C sg dr th er) (nI (2 ^ c0)) (nI (2 ^ g)) (nI A) fu ((ly, y.2), nI (LM R C sg A g n), nI (RMk R C sg A g n), nI n) = some (-6, (ly', y.2))) := by
    intro fu
    induction fu with
    | zero => intro n ly _ h; omega
    | succ fu ih =>
      intro n ly hn hfu hno hly
      have ex : ∀ a, M_X5_measure_13 (hOf R C sg dr th er) (nI (2 ^ c0)) (nI (2 ^ g)) (nI A) (fu + 1) a = M_X5_measure_13b (hOf R C sg dr th er) (nI (2 ^ c0)) (nI (2 ^ g)) (nI A) (M_X5_measure_13 (hOf R C sg dr th er) (nI (2 ^ c0)) (nI (2 ^ g)) (nI A) fu) a := fun a => rfl
      rw [ex]
      unfold M_X5_measure_13b
      dsimp only
      rcases Nat.lt_or_ge n 16 with q | q
      · rw [if_neg (nI_ge q (by omega)), if_pos (nI_in q (by omega)), nI_clamp (by omega), n_and, Nat.and_comm, one_and]
        have ly2 : ∀ k, k < n + 1 → upd ly n (nI (LM R C sg A g n)) k = nI (LM R C sg A g k) := by
          intro k hk
          by_cases t : k = n
          · subst t; exact upd_at ..
          · rw [upd_ne _ _ t]; exact hly k (by omega)
        by_cases t : isD R C sg A g n c0
        · rw [if_pos ((LM_on hc).mpr ⟨hac, t⟩), if_neg (p_ne (by omega))]
          left
          exact ⟨n, _, by omega, t, rfl, fun k hk => ly2 k (by omega)⟩
        · rw [if_neg (fun z => t ((LM_on hc).mp z).2), if_pos n0I, m_spread sg dr th er h (LM_lt ..), bx, n_and, n_andn, LM_s h hA hs, n_or, RM_s, ← nI_succ]
          refine ih (n + 1) _ (by omega) (by omega) ?_ ly2
          intro m hm
          by_cases u : m = n
          · subst u; exact t
          · exact hno m (by omega)
      · have e : n = 16 := by omega
        subst e
        rw [if_pos (show nI 16 ≤ nI 16 by decide +kernel)]
        right
        refine ⟨?_, ly, rfl⟩
        rcases D_cases R C sg A g c0 with ⟨n, hn⟩ | z
        · exact absurd hn (hno n (by have := D_15 h n c0 hc hn; omega))
        · exact z
  obtain ⟨l1, l2⟩ := LM_0 (sg := sg) (A := A) hg
  have key := lp 200 0 y.1 (by omega) (by omega) (fun m hm => absurd hm (by omega)) (fun m hm => absurd hm (by omega))
  rw [← l1, ← l2] at key
  unfold M_X5_measure
  rw [n_and]
  exact key
/-- the first step to a set -/
def ftO (R C : Nat) (sg : Nat → Nat) (L c : Nat) : Option Nat := fs (fun w => match stp R C sg c w with | some q => L.testBit q | none => false) 4
theorem m_firstStep {R C L c : Nat} {sg : Nat → Nat} (dr th er : Nat) (h : okD R C) (hc : c < R * C) : M_X5_firstStepInto (hOf R C sg dr th er) (nI (2 ^ c)) (nI L) = some (oI (ftO R C sg L c)) := by
  have h16 := h.n16
  have lp : ∀ fu w, w ≤ 4 → 4 - w < fu → (∀ i, i < w → (match stp R C sg c i with | some q => L.testBit q | none => false) = false) → M_X5_firstStepInto_2 (hOf R C sg dr th er) (nI (2 ^ c)) (nI L) fu (nI w) = some (oI (ftO R C sg L c)) := by
    intro fu
    induction fu with
    | zero => intro w _ h; omega
    | succ fu ih =>
      intro w hw hfu hno
      show M_X5_firstStepInto_2b _ _ _ _ _ = _
      unfold M_X5_firstStepInto_2b
      rcases Nat.lt_or_ge w 4 with y | y
      · rw [if_neg (show ¬ (4 : Int32) ≤ nI w from nI_ge (b := 4) y (by omega)), m_stepTo sg dr th er h hc (by omega), bx]
        have nxt : (match stp R C sg c w with | some q => L.testBit q | none => false) = false → M_X5_firstStepInto_2 (hOf R C sg dr th er) (nI (2 ^ c)) (nI L) fu (nI w + 1) = some (oI (ftO R C sg L c)) := by
          intro z
          rw [← nI_succ]
          refine ih (w + 1) (by omega) (by omega) ?_
          intro i hi
          by_cases t : i = w
          · subst t; exact z
          · exact hno i (by omega)
        cases e : stp R C sg c w with
        | none =>
          rw [e] at nxt
          rw [show oM none = 0 from rfl, n_and, Nat.zero_and, if_pos n0I]
          exact nxt rfl
        | some q =>
          have hq := (stp_lt h hc (show w < 5 by omega) e).1
          rw [e] at nxt
          rw [show oM (some q) = 2 ^ q from rfl, one_andI]
          cases u : L.testBit q
          · rw [if_neg (show ¬ false = true by decide), if_pos n0I]
            exact nxt u
          · rw [if_pos (show true = true from rfl), if_neg (p_ne (by omega))]
            have pw : (match stp R C sg c w with | some q => L.testBit q | none => false) = true := by rw [e]; exact u
            obtain ⟨t, t1, t2, t3, t4⟩ := fs_some (P := fun w => match stp R C sg c w with | some q => L.testBit q | none => false) 4 ⟨w, y, pw⟩
            have et : t = w := by
              rcases Nat.lt_trichotomy t w with z | z | z
              · have := hno t z
                rw [this] at t3; exact absurd t3 (by decide)
              · exact z
              · have := t4 w z
                rw [pw] at this; exact absurd this (by decide)
            unfold ftO
            rw [t1, et]
            rfl
      · have e : w = 4 := by omega
        subst e
        rw [if_pos (show (4 : Int32) ≤ nI 4 by decide +kernel)]
        unfold ftO
        rw [fs_none 4 hno]
        rfl
  exact lp 200 0 (by omega) (by omega) (fun i hi => absurd hi (by omega))
noncomputable def ft (R C : Nat) (sg : Nat → Nat) (A g n c : Nat) : Nat := (ftO R C sg (LM R C sg A g n) c).getD 0
noncomputable def nxc (R C : Nat) (sg : Nat → Nat) (A g n c : Nat) : Nat := (stp R C sg c (ft R C sg A g n c)).getD c
noncomputable def pw (R C : Nat) (sg : Nat → Nat) (A g : Nat) : Nat → Nat → Nat → Nat
  | 0, n, c => ft R C sg A g (n - 1) c
  | i + 1, n, c => pw R C sg A g i (n - 1) (nxc R C sg A g (n - 1) c)
theorem ft_is {R C A g n c : Nat} {sg : Nat → Nat} (h : okD R C) (hc : c < R * C) (hd : isD R C sg A g (n + 1) c) : ftO R C sg (LM R C sg A g n) c = some (ft R C sg A g n c) ∧ ft R C sg A g n c < 4 ∧ ∃ q, stp R C sg c (ft R C sg A g n c) = some q ∧ nxc R C sg A g n c = q ∧ A.testBit q = true ∧ isD R C sg A g n q ∧ ∀ w, w < ft R C sg A g n c → ∀ q', stp R C sg c w = some q' → ¬ (A.testBit q' = true ∧ isD R C sg A g n q') := by
  obtain ⟨w, q, h1, h2, h3, h4⟩ := D_next hd
  have hq := (stp_lt h hc (show w < 5 by omega) h2).1
  have pw : (match stp R C sg c w with | some q => (LM R C sg A g n).testBit q | none => false) = true := by
    rw [h2]; exact (LM_on hq).mpr ⟨h3, h4⟩
  obtain ⟨t, t1, t2, t3, t4⟩ := fs_some (P := fun w => match stp R C sg c w with | some q => (LM R C sg A g n).testBit q | none => false) 4 ⟨w, h1, pw⟩
  have e : ft R C sg A g n c = t := by
    unfold ft ftO
    rw [t1]; rfl
  unfold nxc
  rw [e]
  refine ⟨t1, t2, ?_⟩
  cases es : stp R C sg c t with
  | none =>
    rw [es] at t3
    exact absurd t3 (show ¬ false = true by decide)
  | some q' =>
    rw [es] at t3
    have hq' := (stp_lt h hc (show t < 5 by omega) es).1
    obtain ⟨l1, l2⟩ := (LM_on hq').mp t3
    refine ⟨q', rfl, rfl, l1, l2, ?_⟩
    intro w' hw' q2 e2 z
    have := t4 w' hw'
    rw [e2] at this
    have hq2 := (stp_lt h hc (show w' < 5 by omega) e2).1
    have this2 : (LM R C sg A g n).testBit q2 = false := this
    rw [(LM_on hq2).mpr z] at this2
    exact absurd this2 (by decide)
theorem m_stepOnWay {R C A g c0 n : Nat} {sg : Nat → Nat} (dr th er : Nat) (y : YT) (h : okD R C) (hA : A < 2 ^ (R * C)) (hs : ∀ c, c < R * C → A.testBit c = true → sg c ≠ 35) (hc : c0 < R * C) (hac : A.testBit c0 = true) (hg : g < R * C) (hd : isD R C sg A g n c0) {i : Nat} (hi : i < n) : ∃ y', M_X5_stepOnWay y (hOf R C sg dr th er) (nI (2 ^ c0)) (nI (2 ^ g)) (nI A) (nI i) = some (nI (pw R C sg A g i n c0), y') := by
  have h16 := h.n16
  have n15 := D_15 h n c0 hc hd
  unfold M_X5_stepOnWay
  rcases m_measure dr th er y h hA hs hc hac hg with ⟨n', ly, m1, m2, m3, m4⟩ | ⟨m1, ly, m2⟩
  · have e := D_uniq m2 hd
    subst e
    rw [m3, bx]
    have lp : ∀ fu t c, t ≤ i → i - t < fu → c < R * C → isD R C sg A g (n' - t) c → pw R C sg A g (i - t) (n' - t) c = pw R C sg A g i n' c0 → ∃ y', M_X5_stepOnWay_17 (hOf R C sg dr th er) (nI (2 ^ c0)) (nI (2 ^ g)) (nI A) (nI i) fu ((ly, y.2), nI (2 ^ c), nI n', nI t) = some (nI (pw R C sg A g i n' c0), y') := by
      intro fu
      induction fu with
      | zero => intro t c _ h; omega
      | succ fu ih =>
        intro t c ht hfu hcc hdd hpw
        show ∃ y', M_X5_stepOnWay_17b _ _ _ _ _ _ _ = _
        unfold M_X5_stepOnWay_17b
        dsimp only
        obtain ⟨d, hd1⟩ : ∃ d, n' - t = d + 1 := ⟨n' - t - 1, by omega⟩
        rw [hd1] at hdd hpw
        obtain ⟨f1, f2, q, f3, f4, f5, f6, f7⟩ := ft_is h hcc hdd
        have e1 : (nI n' - nI t) - (1 : Int32) = nI d := by
          rw [n_sub (by omega), hd1]
          exact (n_sub (a := d + 1) (b := 1) (by omega)).trans (by rw [Nat.add_sub_cancel])
        rw [if_neg (nI_ge (by omega) (by omega)), e1, m_at _ (by omega) (by omega), bx, m4 d (by omega), m_firstStep dr th er h hcc, bx, f1]
        by_cases u : t = i
        · subst u
          rw [if_pos rfl]
          refine ⟨(ly, y.2), ?_⟩
          have : pw R C sg A g (t - t) (d + 1) c = ft R C sg A g d c := by rw [Nat.sub_self]; rfl
          rw [this] at hpw
          rw [← hpw]
          rfl
        · rw [if_neg (w_ne (by omega) (by omega) u), show oI (some (ft R C sg A g d c)) = nI (ft R C sg A g d c) from rfl, m_stepOrStay sg dr th er h hcc (by omega), bx, ← nI_succ]
          have en : (stp R C sg c (ft R C sg A g d c)).getD c = q := f4
          rw [en]
          refine ih (t + 1) q (by omega) (by omega) (stp_lt h hcc (show ft R C sg A g d c < 5 by omega) f3).1 ?_ ?_
          · rw [show n' - (t + 1) = d by omega]; exact f6
          · rw [show n' - (t + 1) = d by omega, ← hpw]
            obtain ⟨j, hj⟩ : ∃ j, i - t = j + 1 := ⟨i - t - 1, by omega⟩
            rw [show i - (t + 1) = j by omega, hj]
            show _ = pw R C sg A g j (d + 1 - 1) (nxc R C sg A g (d + 1 - 1) c)
            rw [Nat.add_sub_cancel, f4]
    exact lp 200 0 c0 (by omega) (by omega) hc m2 rfl
  · exact absurd hd.1 (m1 n)
end
section
/-! safe -/
def FS (R C : Nat) (sg : Nat → Nat) (A g : Nat) (f : AR) : Prop := ∀ c, c < R * C → sg c ≠ 35 → (∃ n, n ≤ 15 ∧ isD R C sg A g n c ∧ f c = nI n) ∨ ((∀ n, ¬ wk R C sg A g n c) ∧ f c = nI 1000)
theorem FS_at {R C A g n c : Nat} {sg : Nat → Nat} {f : AR} (hf : FS R C sg A g f) (hc : c < R * C) (hs : sg c ≠ 35) (hd : isD R C sg A g n c) : n ≤ 15 ∧ f c = nI n := by
  rcases hf c hc hs with ⟨m, m1, m2, m3⟩ | ⟨m1, m2⟩
  · have e := D_uniq m2 hd
    subst e
    exact ⟨m1, m3⟩
  · exact absurd hd.1 (m1 n)
theorem FS_no {R C A g c : Nat} {sg : Nat → Nat} {f : AR} (hf : FS R C sg A g f) (hc : c < R * C) (hs : sg c ≠ 35) (hd : ∀ n, ¬ wk R C sg A g n c) : f c = nI 1000 := by
  rcases hf c hc hs with ⟨m, m1, m2, m3⟩ | ⟨m1, m2⟩
  · exact absurd m2.1 (hd m)
  · exact m2
theorem m_leads {R C A g c n w : Nat} {sg : Nat → Nat} {dr th er k : Nat} {wc wl wd : Nat → Nat} {mb : BT} {f : AR} (ho : okS R C sg dr th er k wc wl wd) (hr : rM R C sg dr th er k wc wl wd mb) (hA : A < 65536) (hf : FS R C sg A g f) (hc : c < R * C) (hs : sg c ≠ 35) (hd : isD R C sg A g (n + 1) c) (hw : w < 4) : M_X9_leads mb f (nI c) (nI w) (nI A) = some (if (match stp R C sg c w with | some q => (LM R C sg A g n).testBit q | none => false) = true then 1 else 0) := by
  have h16 := ho.1.n16
  obtain ⟨c1, c2⟩ := FS_at hf hc hs hd
  unfold M_X9_leads
  rw [m_beyond ho hr hc (by omega), bx]
  cases e : stp R C sg c w with
  | none => rw [if_pos (show oI none < 0 by decide +kernel)]; rfl
  | some q =>
    obtain ⟨q1, q2, q3⟩ := stp_lt ho.1 hc (show w < 5 by omega) e
    rw [show oI (some q) = nI q from rfl, if_neg (nI_pos (by omega)), bitA hA (by omega)]
    dsimp only
    cases ea : A.testBit q
    · have eL : (LM R C sg A g n).testBit q = false := by rw [LM_bit q1, ea]; rfl
      rw [if_neg (show ¬ false = true by decide), if_neg (show ¬ nI 0 = 1 by decide +kernel), if_neg (show ¬ (LM R C sg A g n).testBit q = true by rw [eL]; decide)]
    · have en : nI (n + 1) - (1 : Int32) = nI n := (n_sub (a := n + 1) (b := 1) (by omega)).trans (by rw [Nat.add_sub_cancel])
      rw [if_pos (show true = true from rfl), if_pos (show nI 1 = 1 from rfl), if_pos (nI_in (c := q) (N := 16) (by omega) (by omega)), if_pos (nI_in (c := c) (N := 16) (by omega) (by omega)), nI_clamp (by omega), nI_clamp (by omega), c2, en]
      by_cases u : isD R C sg A g n q
      · rw [(FS_at hf q1 q2 u).2, if_pos rfl, if_pos ((LM_on q1).mpr ⟨ea, u⟩)]
      · rw [if_neg (c := (LM R C sg A g n).testBit q = true) (fun z => u ((LM_on q1).mp z).2)]
        rcases hf q q1 q2 with ⟨m, m1, m2, m3⟩ | ⟨m1, m2⟩
        · rw [m3, if_neg]
          exact w_ne (by omega) (by omega) (fun z => u (z ▸ m2))
        · rw [m2, if_neg]
          exact w_ne (by omega) (by omega) (by omega)
def cd (w : Nat) : Nat := if w = 0 then 110 else if w = 1 then 101 else if w = 2 then 115 else 119
theorem cdM : ∀ w, w < 4 → M_X9_codeOf (nI w) = some (nI (cd w)) := by decide +kernel
theorem cdX : ∀ w, w < 4 → M_X8_signOfStep (nI w) = some (nI (cd w)) := by decide +kernel
theorem pw_4 {R C A g : Nat} {sg : Nat → Nat} (h : okD R C) : ∀ i n c, i < n → c < R * C → isD R C sg A g n c → pw R C sg A g i n c < 4 := by
  intro i
  induction i with
  | zero =>
    intro n c hi hc hd
    obtain ⟨m, rfl⟩ : ∃ m, n = m + 1 := ⟨n - 1, by omega⟩
    exact (ft_is h hc hd).2.1
  | succ i ih =>
    intro n c hi hc hd
    obtain ⟨m, rfl⟩ : ∃ m, n = m + 1 := ⟨n - 1, by omega⟩
    obtain ⟨f1, f2, q, f3, f4, f5, f6, f7⟩ := ft_is h hc hd
    show pw R C sg A g i (m + 1 - 1) (nxc R C sg A g (m + 1 - 1) c) < 4
    rw [Nat.add_sub_cancel, f4]
    exact ih m q (by omega) (stp_lt h hc (show ft R C sg A g m c < 5 by omega) f3).1 f6
theorem m_layWay9 {R C A g : Nat} {sg : Nat → Nat} {dr th er k : Nat} {wc wl wd : Nat → Nat} {mb : BT} {f : AR} (x1 : Int32) (ho : okS R C sg dr th er k wc wl wd) (hr : rM R C sg dr th er k wc wl wd mb) (hA : A < 65536) (hf : FS R C sg A g f) (hg : g < R * C) : ∀ fu n c s (arr : AR), n < fu → s + n ≤ 30 → c < R * C → sg c ≠ 35 → isD R C sg A g n c → ∃ arr', M_X9_layWay_9 mb x1 (nI g) (nI A) fu (f, (nI s, arr), nI c) = some (f, (nI (s + n), arr')) ∧ (∀ i, i < n → arr' (s + i) = nI (cd (pw R C sg A g i n c))) ∧ ∀ i, i < s → arr' i = arr i := by
  have h16 := ho.1.n16
  intro fu
  induction fu with
  | zero => intro n c s arr h; omega
  | succ fu ih =>
    intro n c s arr hfu hsn hc hs hd
    show ∃ arr', M_X9_layWay_9b _ _ _ _ _ _ = _ ∧ _
    unfold M_X9_layWay_9b
    dsimp only
    cases n with
    | zero =>
      have e : c = g := hd.1
      subst e
      rw [if_pos rfl]
      exact ⟨arr, rfl, fun i hi => absurd hi (by omega), fun i _ => rfl⟩
    | succ n =>
      have ne : c ≠ g := fun z => hd.2 0 (by omega) z
      obtain ⟨f1, f2, q, f3, f4, f5, f6, f7⟩ := ft_is ho.1 hc hd
      obtain ⟨q1, q2, q3⟩ := stp_lt ho.1 hc (show ft R C sg A g n c < 5 by omega) f3
      rw [if_neg (w_ne (by omega) (by omega) ne)]
      have lp : ∀ fv w, w ≤ ft R C sg A g n c → ft R C sg A g n c - w < fv → M_X9_layWay_18 mb x1 (nI g) (nI A) (M_X9_layWay_9 mb x1 (nI g) (nI A) fu) fv (f, (nI s, arr), nI c, nI w) = M_X9_layWay_36 mb x1 (nI g) (nI A) (M_X9_layWay_9 mb x1 (nI g) (nI A) fu) (f, (nI s, arr), nI c, nI (ft R C sg A g n c)) := by
        intro fv
        induction fv with
        | zero => intro w _ h; omega
        | succ fv iv =>
          intro w hw hfv
          show M_X9_layWay_18b _ _ _ _ _ _ _ = _
          unfold M_X9_layWay_18b
          dsimp only
          rw [m_leads ho hr hA hf hc hs hd (show w < 4 by omega), bx]
          by_cases t : w = ft R C sg A g n c
          · rw [if_pos (c := (match stp R C sg c w with | some q => (LM R C sg A g n).testBit q | none => false) = true) (by rw [t, f3]; exact (LM_on q1).mpr ⟨f5, f6⟩), if_neg k10, t]
          · rw [if_neg (c := (match stp R C sg c w with | some q => (LM R C sg A g n).testBit q | none => false) = true), if_pos k00, ← nI_succ]
            · exact iv (w + 1) (by omega) (by omega)
            · cases e : stp R C sg c w with
              | none => exact (show ¬ false = true by decide)
              | some q' =>
                intro z
                exact f7 w (by omega) q' e ((LM_on (stp_lt ho.1 hc (show w < 5 by omega) e).1).mp z)
      rw [show M_X9_layWay_18 mb x1 (nI g) (nI A) (M_X9_layWay_9 mb x1 (nI g) (nI A) fu) 200 (f, (nI s, arr), nI c, 0) = _ from lp 200 0 (by omega) (by omega)]
      unfold M_X9_layWay_36
      dsimp only
      rw [cdM _ f2, bx, if_pos (nI_in (c := s) (N := 32) (by omega) (by omega)), m_beyond ho hr hc (by omega), f3, bx, nI_clamp (by omega), ← nI_succ, show oI (some q) = nI q from rfl]
      obtain ⟨arr', a1, a2, a3⟩ := ih n q (s + 1) (upd arr s (nI (cd (ft R C sg A g n c)))) (by omega) (by omega) q1 q2 f6
      refine ⟨arr', ?_, ?_, ?_⟩
      · rw [a1, show s + 1 + n = s + (n + 1) by omega]
      · intro i hi
        cases i with
        | zero =>
          rw [Nat.add_zero, a3 s (by omega), upd_at]
          rfl
        | succ i =>
          have := a2 i (by omega)
          rw [show s + 1 + i = s + (i + 1) by omega] at this
          rw [this]
          show _ = nI (cd (pw R C sg A g i (n + 1 - 1) (nxc R C sg A g (n + 1 - 1) c)))
          rw [Nat.add_sub_cancel, f4]
      · intro i hi
        rw [a3 i (by omega), upd_ne _ _ (by omega)]
theorem m_layWay {R C A g n c s : Nat} {sg : Nat → Nat} {dr th er k : Nat} {wc wl wd : Nat → Nat} {mb : BT} (mf arr : AR) (ho : okS R C sg dr th er k wc wl wd) (hr : rM R C sg dr th er k wc wl wd mb) (hA : A < 65536) (hg : g < R * C) (hc : c < R * C) (hs : sg c ≠ 35) (hd : isD R C sg A g n c) (hsn : s + n ≤ 30) : ∃ f arr', M_X9_layWay mb mf (nI s, arr) (nI c) (nI g) (nI A) = some (f, (nI (s + n), arr')) ∧ (∀ i, i < n → arr' (s + i) = nI (cd (pw R C sg A g i n c))) ∧ ∀ i, i < s → arr' i = arr i := by
  obtain ⟨f, e1, e2⟩ := m_findFar (g := g) mf ho hr hA hg
  unfold M_X9_layWay
  rw [e1, bx]
  obtain ⟨arr', a1, a2, a3⟩ := m_layWay9 (nI c) ho hr hA e2 hg 200 n c s arr (by have := D_15 ho.1 n c hc hd; omega) hsn hc hs hd
  exact ⟨f, arr', a1, a2, a3⟩
/-- over the door or not: no way goes over it twice -/
theorem door_wk {R C A d g L : Nat} {sg : Nat → Nat} (hd : isD R C sg (A ||| 2 ^ d) g L d) : ∀ j c, j < L → (wk R C sg (A ||| 2 ^ d) g j c ↔ wk R C sg A g j c) := by
  have hb : ∀ q, q ≠ d → (A ||| 2 ^ d).testBit q = A.testBit q := by
    intro q hq
    rw [Nat.testBit_or, Nat.testBit_two_pow, decide_eq_false (fun z => hq z.symm), Bool.or_false]
  intro j
  induction j with
  | zero => intro c _; exact Iff.rfl
  | succ j ih =>
    intro c hj
    constructor
    · intro ⟨w, q, h1, h2, h3, h4⟩
      have nq : q ≠ d := by
        intro z
        subst z
        exact hd.2 j (by omega) h4
      exact ⟨w, q, h1, h2, by rw [← hb q nq]; exact h3, (ih q (by omega)).mp h4⟩
    · intro ⟨w, q, h1, h2, h3, h4⟩
      exact ⟨w, q, h1, h2, by rw [Nat.testBit_or, h3]; rfl, (ih q (by omega)).mpr h4⟩
theorem wk_more {R C A d g : Nat} {sg : Nat → Nat} : ∀ j c, wk R C sg A g j c → wk R C sg (A ||| 2 ^ d) g j c := by
  intro j
  induction j with
  | zero => intro c h; exact h
  | succ j ih =>
    intro c ⟨w, q, h1, h2, h3, h4⟩
    exact ⟨w, q, h1, h2, by rw [Nat.testBit_or, h3]; rfl, ih q h4⟩
theorem door_D {R C A d g L : Nat} {sg : Nat → Nat} (hd : isD R C sg (A ||| 2 ^ d) g L d) : isD R C sg A g L d := by
  refine ⟨?_, fun m hm z => hd.2 m hm (wk_more m d z)⟩
  cases L with
  | zero => exact hd.1
  | succ L =>
    obtain ⟨w, q, h1, h2, h3, h4⟩ := hd.1
    have nq : q ≠ d := by
      intro z
      subst z
      exact hd.2 L (by omega) h4
    refine ⟨w, q, h1, h2, ?_, (door_wk hd L q (by omega)).mp h4⟩
    rw [Nat.testBit_or, Nat.testBit_two_pow, decide_eq_false (fun z => nq z.symm), Bool.or_false] at h3
    exact h3
theorem door_LM {R C A d g L : Nat} {sg : Nat → Nat} (hd : isD R C sg (A ||| 2 ^ d) g L d) {j : Nat} (hj : j < L) : LM R C sg (A ||| 2 ^ d) g j = LM R C sg A g j := by
  apply bits_eq (n := R * C) (LM_lt ..) (LM_lt ..)
  intro c hc
  apply b_eq
  rw [LM_on hc, LM_on hc]
  have eD : isD R C sg (A ||| 2 ^ d) g j c ↔ isD R C sg A g j c := ⟨fun z => ⟨(door_wk hd j c hj).mp z.1, fun m hm y => z.2 m hm ((door_wk hd m c (by omega)).mpr y)⟩, fun z => ⟨(door_wk hd j c hj).mpr z.1, fun m hm y => z.2 m hm ((door_wk hd m c (by omega)).mp y)⟩⟩
  rw [eD]
  by_cases t : c = d
  · subst t
    exact ⟨fun z => absurd z.2 (fun y => by have := D_uniq (door_D hd) y; omega), fun z => absurd z.2 (fun y => by have := D_uniq (door_D hd) y; omega)⟩
  · rw [Nat.testBit_or, Nat.testBit_two_pow, decide_eq_false (fun z => t z.symm), Bool.or_false]
theorem door_pw {R C A d g L : Nat} {sg : Nat → Nat} (hd : isD R C sg (A ||| 2 ^ d) g L d) : ∀ i n c, n ≤ L → i < n → pw R C sg (A ||| 2 ^ d) g i n c = pw R C sg A g i n c := by
  have e : ∀ j c, j < L → ft R C sg (A ||| 2 ^ d) g j c = ft R C sg A g j c := by
    intro j c hj
    unfold ft
    rw [door_LM hd hj]
  intro i
  induction i with
  | zero => intro n c hn hi; exact e (n - 1) c (by omega)
  | succ i ih =>
    intro n c hn hi
    show pw R C sg (A ||| 2 ^ d) g i (n - 1) (nxc R C sg (A ||| 2 ^ d) g (n - 1) c) = pw R C sg A g i (n - 1) (nxc R C sg A g (n - 1) c)
    unfold nxc
    rw [e (n - 1) c (by omega)]
    exact ih (n - 1) _ (by omega) (by omega)
theorem wk_goal {R C A g : Nat} {sg : Nat → Nat} : ∀ n c, wk R C sg A g (n + 1) c → A.testBit g = true := by
  intro n
  induction n with
  | zero =>
    intro c ⟨w, q, h1, h2, h3, h4⟩
    have e : q = g := h4
    rw [← e]; exact h3
  | succ n ih =>
    intro c ⟨w, q, h1, h2, h3, h4⟩
    exact ih q h4
theorem op_safe {h : HT} {v : VT} {mb : BT} (y : YT) (mf : AR) (mt : TT) (x : Int32) (rh : RH h v mb) : ∃ z y' mf' mt', M_X8_safe h v y x = some (z, y') ∧ M_X9_safe mb mf mt x = some (z, mf', mt') := by
  obtain ⟨R, C, sg, dr, th, er, k, wc, wl, wd, ho, ⟨hx1, hx2, hx3⟩, hr⟩ := rh
  subst hx1
  have h16 := ho.1.n16
  obtain ⟨d1, d2⟩ := ho.2.2.1
  obtain ⟨t1, t2⟩ := ho.2.2.2.1
  have hb := brs_lt R C sg er wc wl wd k
  have hb16 := lt16 ho.1 hb
  have ha : brs R C sg er wc wl wd k ||| 2 ^ dr < 2 ^ (R * C) := or_lt hb (p_lt d1)
  have ha16 := lt16 ho.1 ha
  have hbs : ∀ c, c < R * C → (brs R C sg er wc wl wd k).testBit c = true → sg c ≠ 35 := fun c hc z => brs_open hc k z
  have has : ∀ c, c < R * C → (brs R C sg er wc wl wd k ||| 2 ^ dr).testBit c = true → sg c ≠ 35 := by
    intro c hc z
    rw [Nat.testBit_or, Bool.or_eq_true, Nat.testBit_two_pow, decide_eq_true_iff] at z
    rcases z with z | z
    · exact hbs c hc z
    · rw [← z]; exact d2
  have had : (brs R C sg er wc wl wd k ||| 2 ^ dr).testBit dr = true := by
    rw [Nat.testBit_or, Nat.testBit_two_pow]; simp
  unfold M_X8_safe M_X9_safe
  rw [show M_X8_bit (hOf R C sg dr th er).2.2.2.2.2.2.2.2.2.1 = some (nI (2 ^ dr)) from m_bit (by omega), show M_X8_bit (hOf R C sg dr th er).2.2.2.2.2.2.2.2.2.2.1 = some (nI (2 ^ th)) from m_bit (by omega), bx, bx, m_bare ho ⟨rfl, hx2, hx3⟩, bx, m_bareR ho hr, bx, hr.2.2.1, hr.2.2.2.1, n_or, n_pow (by omega), n_or]
  generalize hbn : brs R C sg er wc wl wd k = bn at hb hb16 ha ha16 hbs has had ⊢
  obtain ⟨f1, e1, g1⟩ := m_findFar (g := th) mf ho hr hb16 t1
  rw [e1, bx, if_pos (nI_in (c := dr) (N := 16) (by omega) (by omega)), nI_clamp (by omega)]
  rcases m_measure dr th er y ho.1 ha has d1 had t1 with ⟨n, ly, m1, m2, m3, m4⟩ | ⟨m1, ly, m2⟩
  · have dA := door_D m2
    have gt : (bn ||| 2 ^ dr).testBit th = true := by
      cases n with
      | zero =>
        have e : dr = th := m2.1
        rw [← e]; exact had
      | succ n => exact wk_goal n dr m2.1
    have back := D_rev ho.1 d1 d2 had t1 t2 gt m2
    obtain ⟨f2, arr2, l1, l2, l3⟩ := m_layWay (s := 0) f1 mt.2 ho hr hb16 t1 d1 d2 dA (by omega)
    obtain ⟨f3, e3, g3⟩ := m_findFar (g := dr) f2 ho hr ha16 d1
    obtain ⟨f4, arr4, q1, q2, q3⟩ := m_layWay (s := 0 + n) f3 arr2 ho hr ha16 d1 t1 t2 back (by omega)
    rw [m3, bx, (FS_at g1 d1 d2 dA).2, if_neg (show ¬ nI n = 1000 from w_ne (b := 1000) (by omega) (by omega) (by omega)), show M_X9_layWay mb f1 (0, mt.2) (nI dr) (nI th) (nI bn) = _ from l1, bx]
    dsimp only
    rw [e3, bx, if_pos (nI_in (c := th) (N := 16) (by omega) (by omega)), nI_clamp (by omega), (FS_at g3 t1 t2 back).2, if_neg (show ¬ nI n = 1000 from w_ne (b := 1000) (by omega) (by omega) (by omega)), q1, bx]
    dsimp only
    rw [if_neg (show ¬ nI n = -6 from m6ne (by omega)), show (2 : Int32) * nI n = nI (2 * n) from pk_mul 2 n, show 0 + n + n = 2 * n by omega]
    by_cases c0 : x = -1
    · rw [if_pos c0, if_pos c0]
      exact ⟨_, _, _, _, rfl, rfl⟩
    · rw [if_neg c0, if_neg c0]
      rcases cell_cs (x := x) (n := 2 * n) (by omega) with ⟨i, hi, rfl⟩ | qq
      · rw [if_neg (nI_pos (by omega)), if_pos (nI_lt hi (by omega)), in_good hi (by omega), bx, if_neg k10, if_pos (nI_in (c := i) (N := 32) (by omega) (by omega)), nI_clamp (by omega)]
        rcases Nat.lt_or_ge i n with u | u
        · obtain ⟨y', s1⟩ := m_stepOnWay dr th er (ly, y.2) ho.1 ha has d1 had t1 m2 u
          rw [if_neg (nI_ge u (by omega)), s1, bx]
          unfold M_X8_safe_129
          dsimp only
          have w4 := pw_4 (A := bn ||| 2 ^ dr) (g := th) ho.1 i n dr u d1 m2
          have ai : arr2 i = nI (cd (pw R C sg bn th i n dr)) := by
            have a := l2 i u
            rw [Nat.zero_add] at a
            exact a
          rw [cdX _ w4, bx, q3 i (by omega), ai, door_pw m2 i n dr (Nat.le_refl _) u]
          exact ⟨_, _, _, _, rfl, rfl⟩
        · obtain ⟨y', s1⟩ := m_stepOnWay (i := i - n) dr th er (ly, y.2) ho.1 ha has t1 gt d1 back (by omega)
          rw [if_pos (nI_le u (by omega)), n_sub u, s1, bx]
          unfold M_X8_safe_129
          dsimp only
          have w4 := pw_4 (A := bn ||| 2 ^ dr) (g := dr) ho.1 (i - n) n th (by omega) t1 back
          have ai : arr4 i = nI (cd (pw R C sg (bn ||| 2 ^ dr) dr (i - n) n th)) := by
            have a := q2 (i - n) (by omega)
            rw [show 0 + n + (i - n) = i by omega] at a
            exact a
          rw [cdX _ w4, bx, ai]
          exact ⟨_, _, _, _, rfl, rfl⟩
      · rw [in_bad (by omega) qq, bx, if_pos k00]
        by_cases u : x < 0
        · rw [if_pos u]; exact ⟨_, _, _, _, rfl, rfl⟩
        · rw [if_neg u, if_neg (Int32.not_lt.mpr (qq.resolve_left u))]; exact ⟨_, _, _, _, rfl, rfl⟩
  · have no : ∀ n, ¬ wk R C sg bn th n dr := fun n z => m1 n (wk_more n dr z)
    rw [m2, bx, FS_no g1 d1 d2 no, if_pos (show nI 1000 = 1000 from rfl)]
    dsimp only
    rw [if_pos rfl]
    exact ⟨_, _, _, _, rfl, rfl⟩
end
section
/-! Ways that show least: what they are -/
/-- a way of n steps that weighs v -/
def ew (R C : Nat) (sg : Nat → Nat) (A g : Nat) (s : Nat → Nat) : Nat → Nat → Nat → Prop
  | 0, c, v => c = g ∧ v = 0
  | n + 1, c, v => ∃ w q u, w < 4 ∧ stp R C sg c w = some q ∧ A.testBit q = true ∧ ew R C sg A g s n q u ∧ v = u + s q
def isM (R C : Nat) (sg : Nat → Nat) (A g : Nat) (s : Nat → Nat) (n c v : Nat) : Prop := ew R C sg A g s n c v ∧ ∀ v', ew R C sg A g s n c v' → v ≤ v'
theorem M_uniq {R C A g n c u v : Nat} {sg s : Nat → Nat} (h1 : isM R C sg A g s n c u) (h2 : isM R C sg A g s n c v) : u = v := Nat.le_antisymm (h1.2 v h2.1) (h2.2 u h1.1)
theorem ew_wk {R C A g : Nat} {sg s : Nat → Nat} : ∀ n c v, ew R C sg A g s n c v → wk R C sg A g n c := by
  intro n
  induction n with
  | zero => intro c v h; exact h.1
  | succ n ih =>
    intro c v ⟨w, q, u, h1, h2, h3, h4, h5⟩
    exact ⟨w, q, h1, h2, h3, ih q u h4⟩
theorem ew_le {R C A g : Nat} {sg s : Nat → Nat} (hs : ∀ q, s q ≤ 1) : ∀ n c v, ew R C sg A g s n c v → v ≤ n := by
  intro n
  induction n with
  | zero => intro c v h; rw [h.2]; exact Nat.le_refl _
  | succ n ih =>
    intro c v ⟨w, q, u, h1, h2, h3, h4, h5⟩
    have := ih q u h4
    have := hs q
    omega
theorem ew_snoc {R C A q c w : Nat} {sg s : Nat → Nat} (hw : w < 4) (hs : stp R C sg q w = some c) (ha : A.testBit c = true) : ∀ n x v, ew R C sg A q s n x v → ew R C sg A c s (n + 1) x (v + s c) := by
  intro n
  induction n with
  | zero =>
    intro x v hx
    obtain ⟨e1, e2⟩ := hx
    subst e1
    subst e2
    exact ⟨w, c, 0, hw, hs, ha, ⟨rfl, rfl⟩, rfl⟩
  | succ n ih =>
    intro x v ⟨w', y, u, h1, h2, h3, h4, h5⟩
    exact ⟨w', y, u + s c, h1, h2, h3, ih y u h4, by omega⟩
theorem opw4 : ∀ w, w < 4 → opw w < 4 := by decide +kernel
theorem ew_rev {R C A g : Nat} {sg s : Nat → Nat} (h : okD R C) : ∀ n c v, c < R * C → sg c ≠ 35 → A.testBit c = true → ew R C sg A g s n c v → ∃ v', ew R C sg A c s n g v' ∧ v' + s g = v + s c := by
  intro n
  induction n with
  | zero =>
    intro c v _ _ _ hw
    obtain ⟨e1, e2⟩ := hw
    subst e1
    subst e2
    exact ⟨0, ⟨rfl, rfl⟩, rfl⟩
  | succ n ih =>
    intro c v hc hs ha ⟨w, q, u, h1, h2, h3, h4, h5⟩
    obtain ⟨q1, q2, q3⟩ := stp_lt h hc (by omega) h2
    have n2 := nb_op h hc (show w < 5 by omega) q3
    obtain ⟨u', a1, a2⟩ := ih q u q1 q2 h3 h4
    exact ⟨u' + s c, ew_snoc (opw4 w h1) (stp_of n2 hs) ha n g u' a1, by omega⟩
/-- a weight more or less where no such way goes -/
theorem ew_door {R C A g L d : Nat} {sg s1 s2 : Nat → Nat} (hd : isD R C sg A g L d) (he : ∀ q, q ≠ d → s1 q = s2 q) : ∀ n c v, n ≤ L → ew R C sg A g s1 n c v → ew R C sg A g s2 n c v := by
  intro n
  induction n with
  | zero => intro c v _ h; exact h
  | succ n ih =>
    intro c v hn ⟨w, q, u, h1, h2, h3, h4, h5⟩
    have nq : q ≠ d := by
      intro z
      subst z
      exact hd.2 n (by omega) (ew_wk n q u h4)
    exact ⟨w, q, u, h1, h2, h3, ih q u (by omega) h4, by rw [h5, he q nq]⟩
/-- the least of the ways so far -/
def MN (R C : Nat) (sg : Nat → Nat) (A g : Nat) (s : Nat → Nat) (B d c w x : Nat) : Prop := (∀ w' q v, w' < w → stp R C sg c w' = some q → A.testBit q = true → isM R C sg A g s d q v → x ≤ v + s q) ∧ (x = B ∨ ∃ w' q v, w' < 4 ∧ stp R C sg c w' = some q ∧ A.testBit q = true ∧ isM R C sg A g s d q v ∧ x = v + s q)
theorem MN_0 (R C : Nat) (sg : Nat → Nat) (A g : Nat) (s : Nat → Nat) (B d c : Nat) : MN R C sg A g s B d c 0 B := ⟨fun w' q v h => absurd h (by omega), Or.inl rfl⟩
theorem MN_skip {R C A g B d c w x : Nat} {sg s : Nat → Nat} (h : MN R C sg A g s B d c w x) (hn : ∀ q, stp R C sg c w = some q → A.testBit q = true → ¬ isD R C sg A g d q) (hd : isD R C sg A g (d + 1) c) : MN R C sg A g s B d c (w + 1) x := by
  refine ⟨fun w' q v h1 h2 h3 h4 => ?_, h.2⟩
  by_cases t : w' = w
  · subst t
    rcases Nat.lt_or_ge w' 4 with y | y
    · refine absurd ⟨ew_wk d q v h4.1, fun m hm z => ?_⟩ (hn q h2 h3)
      exact hd.2 (m + 1) (by omega) ⟨w', q, y, h2, h3, z⟩
    · refine absurd ?_ (hn q h2 h3)
      rcases D_cases R C sg A g q with ⟨n, z⟩ | z
      · have := ew_wk d q v h4.1
        rcases Nat.lt_trichotomy n d with u | u | u
        · exact absurd h1 (by
            intro _
            have e : stp R C sg c w' = some q := h2
            have n4 : nb R C c w' = some c := by
              obtain ⟨j, rfl⟩ : ∃ j, w' = j + 4 := ⟨w' - 4, by omega⟩
              rfl
            unfold stp at e
            rw [n4] at e
            dsimp only at e
            by_cases sc : sg c = 35
            · rw [if_pos sc] at e; exact absurd e (by simp)
            · rw [if_neg sc] at e
              injection e with e
              subst e
              exact hd.2 d (by omega) this)
        · rw [← u]; exact z
        · exact absurd this (z.2 d u)
      · exact absurd (ew_wk d q v h4.1) (z d)
  · exact h.1 w' q v (by omega) h2 h3 h4
theorem MN_take {R C A g B d c w x q v : Nat} {sg s : Nat → Nat} (h : MN R C sg A g s B d c w x) (hw : w < 4) (hq : stp R C sg c w = some q) (ha : A.testBit q = true) (hm : isM R C sg A g s d q v) : MN R C sg A g s B d c (w + 1) (if x ≤ v + s q then x else v + s q) := by
  constructor
  · intro w' q' v' h1 h2 h3 h4
    by_cases t : w' = w
    · subst t
      rw [hq] at h2
      injection h2 with h2
      subst h2
      have := M_uniq hm h4
      subst this
      split <;> omega
    · have := h.1 w' q' v' (by omega) h2 h3 h4
      split <;> omega
  · split
    · exact h.2
    · exact Or.inr ⟨w, q, v, hw, hq, ha, hm, rfl⟩
theorem MN_end {R C A g B d c x : Nat} {sg s : Nat → Nat} (h : MN R C sg A g s B d c 4 x) (hok : okD R C) (hs : ∀ q, s q ≤ 1) (hB : d + 1 < B) (hd : isD R C sg A g (d + 1) c) (hM : ∀ q, A.testBit q = true → isD R C sg A g d q → ∃ v, isM R C sg A g s d q v) : isM R C sg A g s (d + 1) c x := by
  obtain ⟨w, q, h1, h2, h3, h4⟩ := D_next hd
  obtain ⟨v, hv⟩ := hM q h3 h4
  have a := h.1 w q v h1 h2 h3 hv
  have b := ew_le hs d q v hv.1
  have c' := hs q
  constructor
  · rcases h.2 with e | ⟨w', q', v', e1, e2, e3, e4, e5⟩
    · omega
    · exact ⟨w', q', v', e1, e2, e3, e4.1, e5⟩
  · intro v' ⟨w', q', u', e1, e2, e3, e4, e5⟩
    have dq : isD R C sg A g d q' := ⟨ew_wk d q' u' e4, fun m hm z => hd.2 (m + 1) (by omega) ⟨w', q', e1, e2, e3, z⟩⟩
    obtain ⟨v2, hv2⟩ := hM q' e3 dq
    have := h.1 w' q' v2 e1 e2 e3 hv2
    have := hv2.2 u' e4
    omega
theorem M_0 {R C A g c : Nat} {sg s : Nat → Nat} (h : isD R C sg A g 0 c) : isM R C sg A g s 0 c 0 := ⟨⟨h.1, rfl⟩, fun v' _ => Nat.zero_le _⟩
/-- what a step weighs -/
def sw (bn g : Nat) (last : Bool) (q : Nat) : Nat := if bn.testBit q = true then 0 else if q = g ∧ last = false then 0 else 1
theorem sw_le (bn g : Nat) (last : Bool) (q : Nat) : sw bn g last q ≤ 1 := by
  unfold sw
  repeat' split
  all_goals omega
end
section
/-! least: the reference's side -/
theorem m_floor {R C : Nat} {sg : Nat → Nat} {dr th er k : Nat} {wc wl wd : Nat → Nat} {mb : BT} (ho : okS R C sg dr th er k wc wl wd) (hr : rM R C sg dr th er k wc wl wd mb) : M_X9_floor mb = some (nI (opn R C sg)) := by
  have h16 := ho.1.n16
  have e : mk (fun i => !(sg i == 35)) (R * C) = opn R C sg := (mk_eq (opn_lt R C sg) (fun i hi => opn_bit sg hi)).symm
  have st : ∀ fu j, j ≤ R * C → R * C - j < fu → M_X9_floor_4 mb fu (nI (mk (fun i => !(sg i == 35)) j), nI j) = some (nI (opn R C sg)) := by
    intro fu
    induction fu with
    | zero => intro j _ h; omega
    | succ fu ih =>
      intro j hj hfu
      show M_X9_floor_4b _ _ _ = _
      unfold M_X9_floor_4b M_X9_floor_28
      dsimp only
      rw [m_cellsM hr, bx]
      rcases Nat.lt_or_ge j (R * C) with y | y
      · have key := ih (j + 1) (by omega) (by omega)
        have e1 : mk (fun i => !(sg i == 35)) (j + 1) = if (!(sg j == 35)) = true then mk (fun i => !(sg i == 35)) j ||| 2 ^ j else mk (fun i => !(sg i == 35)) j := rfl
        rw [if_neg (nI_ge y (by omega)), m_isWall ho hr y, bx, n_pow (by omega), ← nI_succ]
        by_cases t : sg j = 35
        · rw [t, if_neg (by decide)] at e1
          rw [e1] at key
          rw [if_pos t, if_neg k10, n_or0]
          exact key
        · rw [beq_eq_false_iff_ne.mpr t, if_pos (by decide)] at e1
          rw [e1] at key
          rw [if_neg t, if_pos k00, n_or]
          exact key
      · have ej : j = R * C := by omega
        rw [ej, if_pos (nI_le (Nat.le_refl _) (by omega)), e]
  exact st 200 0 (by omega) (by omega)
theorem opn_s {R C : Nat} {sg : Nat → Nat} {c : Nat} (hc : c < R * C) : (opn R C sg).testBit c = true ↔ sg c ≠ 35 := by
  rw [opn_bit sg hc]
  simp
theorem m_fs65 {R C g c d bn : Nat} {last : Bool} {sg : Nat → Nat} {dr th er k : Nat} {wc wl wd : Nat → Nat} {mb : BT} {f : AR} (x1 : Int32) (rc12 : AR × AR × Int32 → Option (Int32 × AR × AR)) (rc22 : AR × AR × Int32 × Int32 → Option (Int32 × AR × AR)) (ho : okS R C sg dr th er k wc wl wd) (hr : rM R C sg dr th er k wc wl wd mb) (hbn : brs R C sg er wc wl wd k = bn) (hf : FS R C sg (opn R C sg) g f) (hg : g < R * C) (hc : c < R * C) (hs : sg c ≠ 35) (hd : isD R C sg (opn R C sg) g (d + 1) c) (sh0 : AR) (hS : ∀ q, q < R * C → sg q ≠ 35 → isD R C sg (opn R C sg) g d q → ∃ v, isM R C sg (opn R C sg) g (sw bn g last) d q v ∧ sh0 q = nI v) : ∀ fu w x (sh : AR), w ≤ 4 → 4 - w < fu → sh c = nI x → x ≤ 1000 → (∀ q, q ≠ c → sh q = sh0 q) → MN R C sg (opn R C sg) g (sw bn g last) 1000 d c w x → ∃ sh' x', M_X9_fewestShown_65 mb x1 (nI g) (bI last) rc12 rc22 fu (f, sh, nI (d + 1), nI c, nI w) = rc22 (f, sh', nI (d + 1), nI (c + 1)) ∧ sh' c = nI x' ∧ (∀ q, q ≠ c → sh' q = sh0 q) ∧ MN R C sg (opn R C sg) g (sw bn g last) 1000 d c 4 x' := by
  have h16 := ho.1.n16
  have h15 := D_15 ho.1 (d + 1) c hc hd
  intro fu
  induction fu with
  | zero => intro w x sh _ h; omega
  | succ fu ih =>
    intro w x sh hw hfu hx hx1 hq hm
    show ∃ sh' x', M_X9_fewestShown_65b _ _ _ _ _ _ _ _ = _ ∧ _
    unfold M_X9_fewestShown_65b
    dsimp only
    rcases Nat.lt_or_ge w 4 with y | y
    · rw [if_neg (show ¬ (4 : Int32) ≤ nI w from nI_ge (b := 4) y (by omega)), if_neg (show ¬ nI (d + 1) ≤ 0 from nI_ge (a := 0) (by omega) (by omega)), m_beyond ho hr hc (by omega), bx]
      have f155 : ∀ i, i ≤ 1000 → M_X9_fewestShown_155 mb x1 (nI g) (bI last) rc12 rc22 (M_X9_fewestShown_65 mb x1 (nI g) (bI last) rc12 rc22 fu) (f, sh, nI (d + 1), nI c, nI w, nI i) = M_X9_fewestShown_65 mb x1 (nI g) (bI last) rc12 rc22 fu (f, upd sh c (nI (if x ≤ i then x else i)), nI (d + 1), nI c, nI (w + 1)) := by
        intro i hi
        unfold M_X9_fewestShown_155 M_X9_fewestShown_187
        dsimp only
        have vc := nI_in (c := c) (N := 16) (by omega) (by omega)
        rw [if_pos vc, if_pos vc, if_pos vc]
        simp only [nI_clamp (n := c) (show c < 2 ^ 31 by omega), hx]
        rw [← nI_succ]
        by_cases u : x ≤ i
        · rw [if_pos (nI_le u (by omega)), if_pos u]
          try rw [if_pos vc]
        · rw [if_neg (nI_ge (by omega) (by omega)), if_neg u]
          try rw [if_pos vc]
      have skip : (∀ q, stp R C sg c w = some q → (opn R C sg).testBit q = true → ¬ isD R C sg (opn R C sg) g d q) → ∃ sh' x', M_X9_fewestShown_155 mb x1 (nI g) (bI last) rc12 rc22 (M_X9_fewestShown_65 mb x1 (nI g) (bI last) rc12 rc22 fu) (f, sh, nI (d + 1), nI c, nI w, (1000 : Int32)) = rc22 (f, sh', nI (d + 1), nI (c + 1)) ∧ sh' c = nI x' ∧ (∀ q, q ≠ c → sh' q = sh0 q) ∧ MN R C sg (opn R C sg) g (sw bn g last) 1000 d c 4 x' := by
        intro hn
        rw [show (1000 : Int32) = nI 1000 from rfl, f155 1000 (Nat.le_refl _), if_pos hx1]
        exact ih (w + 1) x _ (by omega) (by omega) (upd_at ..) hx1 (fun q h => by rw [upd_ne _ _ h]; exact hq q h) (MN_skip hm hn hd)
      unfold M_X9_fewestShown_109 M_X9_fewestShown_110
      dsimp only
      cases e : stp R C sg c w with
      | none =>
        rw [if_pos (show oI none < 0 by decide +kernel), if_pos k00]
        exact skip (fun q z => by rw [e] at z; exact absurd z (by simp))
      | some q =>
        obtain ⟨q1, q2, q3⟩ := stp_lt ho.1 hc (show w < 5 by omega) e
        have vq := nI_in (c := q) (N := 16) (by omega) (by omega)
        have en : nI (d + 1) - (1 : Int32) = nI d := (n_sub (a := d + 1) (b := 1) (by omega)).trans (by rw [Nat.add_sub_cancel])
        rw [show oI (some q) = nI q from rfl, if_neg (nI_pos (by omega)), if_pos vq]
        by_cases u : isD R C sg (opn R C sg) g d q
        · obtain ⟨v, v1, v2⟩ := hS q q1 q2 u
          have vle := ew_le (sw_le bn g last) d q v v1.1
          have nq : q ≠ c := by
            intro z
            subst z
            have := D_uniq u hd
            omega
          have hsh : sh q = nI v := by rw [hq q nq]; exact v2
          have oq := (opn_s q1).mpr q2
          have tk := MN_take hm y e oq v1
          have sle := sw_le bn g last q
          have fin : ∃ sh' x', M_X9_fewestShown_155 mb x1 (nI g) (bI last) rc12 rc22 (M_X9_fewestShown_65 mb x1 (nI g) (bI last) rc12 rc22 fu) (f, sh, nI (d + 1), nI c, nI w, nI (v + sw bn g last q)) = rc22 (f, sh', nI (d + 1), nI (c + 1)) ∧ sh' c = nI x' ∧ (∀ q, q ≠ c → sh' q = sh0 q) ∧ MN R C sg (opn R C sg) g (sw bn g last) 1000 d c 4 x' := by
            rw [f155 _ (by omega)]
            exact ih (w + 1) _ _ (by omega) (by omega) (upd_at ..) (by split <;> omega) (fun q h => by rw [upd_ne _ _ h]; exact hq q h) tk
          have hb := m_isBare ho hr q1
          rw [hbn] at hb
          unfold M_X9_fewestShown_149 M_X9_fewestShown_153 M_X9_fewestShown_154
          dsimp only
          rw [if_pos (show f (nI q).toNatClampNeg = nI (d + 1) - 1 by rw [nI_clamp (by omega), en]; exact (FS_at hf q1 q2 u).2), if_neg k10, if_pos vq, hb, bx, nI_clamp (by omega), hsh]
          unfold sw at fin
          cases eb : bn.testBit q
          · rw [eb, if_neg (show ¬ false = true by decide)] at fin
            rw [if_pos (show bI false = 0 from rfl)]
            by_cases t : q = g
            · rw [if_pos (show nI q = nI g by rw [t])]
              cases last
              · rw [if_pos ⟨t, rfl⟩] at fin
                rw [if_pos (show bI false = 0 from rfl), show nI v + (0 : Int32) = nI (v + 0) from nI_add v 0]
                exact fin
              · rw [if_neg (fun z => absurd z.2 (by decide))] at fin
                rw [if_neg bI0, show nI v + (1 : Int32) = nI (v + 1) from nI_add v 1]
                exact fin
            · rw [if_neg (fun z => t z.1)] at fin
              rw [if_neg (w_ne (by omega) (by omega) t), show nI v + (1 : Int32) = nI (v + 1) from nI_add v 1]
              exact fin
          · rw [eb, if_pos (show true = true from rfl)] at fin
            rw [if_neg bI0, show nI v + (0 : Int32) = nI (v + 0) from nI_add v 0]
            exact fin
        · have fne : ¬ f q = nI d := by
            rcases hf q q1 q2 with ⟨m, m1, m2, m3⟩ | ⟨m1, m2⟩
            · rw [m3]; exact w_ne (by omega) (by omega) (fun z => u (z ▸ m2))
            · rw [m2]; exact w_ne (by omega) (by omega) (by omega)
          rw [if_neg (show ¬ f (nI q).toNatClampNeg = nI (d + 1) - 1 by rw [nI_clamp (by omega), en]; exact fne), if_pos k00]
          exact skip (fun q' z _ => by rw [e] at z; injection z with z; rw [← z]; exact u)
    · have e : w = 4 := by omega
      subst e
      unfold M_X9_fewestShown_194
      rw [if_pos (show (4 : Int32) ≤ nI 4 by decide +kernel), ← nI_succ]
      exact ⟨sh, x, rfl, hx, hq, hm⟩
/-- levels that are done -/
def SL (R C : Nat) (sg : Nat → Nat) (A g : Nat) (s : Nat → Nat) (sh : AR) (d c : Nat) : Prop := ∀ q n, q < R * C → sg q ≠ 35 → isD R C sg A g n q → (n < d ∨ (n = d ∧ q < c)) → ∃ v, isM R C sg A g s n q v ∧ sh q = nI v
theorem m_fs22 {R C g d bn : Nat} {last : Bool} {sg : Nat → Nat} {dr th er k : Nat} {wc wl wd : Nat → Nat} {mb : BT} {f : AR} (x1 : Int32) (rc12 : AR × AR × Int32 → Option (Int32 × AR × AR)) (ho : okS R C sg dr th er k wc wl wd) (hr : rM R C sg dr th er k wc wl wd mb) (hbn : brs R C sg er wc wl wd k = bn) (hf : FS R C sg (opn R C sg) g f) (hfw : ∀ c, c < R * C → sg c = 35 → c ≠ g → f c = nI 1000) (hg : g < R * C) (hgs : sg g ≠ 35) (hd : d < 16) : ∀ fu c (sh : AR), c ≤ R * C → R * C - c < fu → SL R C sg (opn R C sg) g (sw bn g last) sh d c → ∃ sh', M_X9_fewestShown_22 mb x1 (nI g) (bI last) rc12 fu (f, sh, nI d, nI c) = rc12 (f, sh', nI (d + 1)) ∧ SL R C sg (opn R C sg) g (sw bn g last) sh' (d + 1) 0 := by
  have h16 := ho.1.n16
  intro fu
  induction fu with
  | zero => intro c sh _ h; omega
  | succ fu ih =>
    intro c sh hc hfu hS
    show ∃ sh', M_X9_fewestShown_22b _ _ _ _ _ _ _ = _ ∧ _
    unfold M_X9_fewestShown_22b M_X9_fewestShown_200
    dsimp only
    rw [m_cellsM hr, bx]
    rcases Nat.lt_or_ge c (R * C) with y | y
    · have vc := nI_in (c := c) (N := 16) (by omega) (by omega)
      rw [if_neg (nI_ge y (by omega)), if_pos vc, nI_clamp (by omega)]
      have goOn : (¬ (sg c ≠ 35 ∧ isD R C sg (opn R C sg) g d c)) → ∃ sh', M_X9_fewestShown_194 mb x1 (nI g) (bI last) rc12 (M_X9_fewestShown_22 mb x1 (nI g) (bI last) rc12 fu) (f, sh, nI d, nI c) = rc12 (f, sh', nI (d + 1)) ∧ SL R C sg (opn R C sg) g (sw bn g last) sh' (d + 1) 0 := by
        intro hn
        unfold M_X9_fewestShown_194
        dsimp only
        rw [← nI_succ]
        refine ih (c + 1) sh (by omega) (by omega) ?_
        intro q n h1 h2 h3 h4
        rcases h4 with h4 | ⟨h4, h5⟩
        · exact hS q n h1 h2 h3 (Or.inl h4)
        · by_cases t : q = c
          · subst t; subst h4; exact absurd ⟨h2, h3⟩ hn
          · exact hS q n h1 h2 h3 (Or.inr ⟨h4, by omega⟩)
      by_cases t : sg c ≠ 35 ∧ isD R C sg (opn R C sg) g d c
      · obtain ⟨t1, t2⟩ := t
        rw [if_pos (FS_at hf y t1 t2).2]
        have done : ∀ (sh' : AR) x', (∀ q, q ≠ c → sh' q = sh q) → sh' c = nI x' → isM R C sg (opn R C sg) g (sw bn g last) d c x' → SL R C sg (opn R C sg) g (sw bn g last) sh' d (c + 1) := by
          intro sh' x' a1 a2 a3 q n h1 h2 h3 h4
          by_cases u : q = c
          · subst u
            have en := D_uniq h3 t2
            subst en
            exact ⟨x', a3, a2⟩
          · rw [a1 q u]
            rcases h4 with h4 | ⟨h4, h5⟩
            · exact hS q n h1 h2 h3 (Or.inl h4)
            · exact hS q n h1 h2 h3 (Or.inr ⟨h4, by omega⟩)
        cases d with
        | zero =>
          rw [if_pos n0I]
          unfold M_X9_fewestShown_61
          dsimp only
          rw [if_pos vc, nI_clamp (by omega)]
          have e65 : ∀ s : AR, M_X9_fewestShown_65 mb x1 (nI g) (bI last) rc12 (M_X9_fewestShown_22 mb x1 (nI g) (bI last) rc12 fu) 200 (f, s, nI 0, nI c, 0) = M_X9_fewestShown_22 mb x1 (nI g) (bI last) rc12 fu (f, s, nI 0, nI (c + 1)) := by
            intro s
            show M_X9_fewestShown_65b _ _ _ _ _ _ _ _ = _
            unfold M_X9_fewestShown_65b M_X9_fewestShown_194
            dsimp only
            rw [if_neg (show ¬ (4 : Int32) ≤ 0 by decide +kernel), if_pos (show nI 0 ≤ 0 by decide +kernel), ← nI_succ]
          rw [e65]
          exact ih (c + 1) _ (by omega) (by omega) (done _ 0 (fun q h => upd_ne _ _ h) (upd_at ..) (M_0 t2))
        | succ d =>
          rw [if_neg (show ¬ nI (d + 1) = 0 from nI_ne0 (by omega) (by omega))]
          unfold M_X9_fewestShown_61
          dsimp only
          rw [if_pos vc, nI_clamp (by omega)]
          obtain ⟨sh', x', a1, a2, a3, a4⟩ := m_fs65 (last := last) x1 rc12 (M_X9_fewestShown_22 mb x1 (nI g) (bI last) rc12 fu) ho hr hbn hf hg y t1 t2 sh (fun q h1 h2 h3 => hS q d h1 h2 h3 (Or.inl (by omega))) 200 0 1000 (upd sh c 1000) (by omega) (by omega) (upd_at ..) (Nat.le_refl _) (fun q h => upd_ne _ _ h) (MN_0 ..)
          rw [show M_X9_fewestShown_65 mb x1 (nI g) (bI last) rc12 (M_X9_fewestShown_22 mb x1 (nI g) (bI last) rc12 fu) 200 (f, upd sh c 1000, nI (d + 1), nI c, 0) = _ from a1]
          refine ih (c + 1) sh' (by omega) (by omega) (done sh' x' a3 a2 (MN_end a4 ho.1 (sw_le bn g last) (by omega) t2 ?_))
          intro q h1 h2
          by_cases qn : q < R * C
          · obtain ⟨v, v1, _⟩ := hS q d qn ((opn_s qn).mp h1) h2 (Or.inl (by omega))
            exact ⟨v, v1⟩
          · exact absurd h1 (by
              rw [Nat.testBit_lt_two_pow (Nat.lt_of_lt_of_le (opn_lt R C sg) (Nat.pow_le_pow_right (by omega) (show R * C ≤ q by omega)))]
              decide)
      · have fne : ¬ f c = nI d := by
          by_cases s : sg c = 35
          · rw [hfw c y s (fun z => hgs (z ▸ s))]
            exact w_ne (by omega) (by omega) (by omega)
          · rcases hf c y s with ⟨m, m1, m2, m3⟩ | ⟨m1, m2⟩
            · rw [m3]; exact w_ne (by omega) (by omega) (fun z => t ⟨s, z ▸ m2⟩)
            · rw [m2]; exact w_ne (by omega) (by omega) (by omega)
        rw [if_neg fne]
        exact goOn t
    · have e : c = R * C := by omega
      rw [e, if_pos (nI_le (Nat.le_refl _) (by omega)), ← nI_succ]
      refine ⟨sh, rfl, ?_⟩
      intro q n h1 h2 h3 h4
      refine hS q n h1 h2 h3 ?_
      rcases h4 with h4 | ⟨h4, h5⟩
      · rcases Nat.lt_or_ge n d with u | u
        · exact Or.inl u
        · exact Or.inr ⟨by omega, by omega⟩
      · omega
theorem m_fewestShown {R C g c n bn : Nat} {last : Bool} {sg : Nat → Nat} {dr th er k : Nat} {wc wl wd : Nat → Nat} {mb : BT} (mf mz : AR) (ho : okS R C sg dr th er k wc wl wd) (hr : rM R C sg dr th er k wc wl wd mb) (hbn : brs R C sg er wc wl wd k = bn) (hg : g < R * C) (hgs : sg g ≠ 35) (hc : c < R * C) (hs : sg c ≠ 35) (hd : isD R C sg (opn R C sg) g n c) : ∃ v f sh, M_X9_fewestShown mb mf mz (nI c) (nI g) (bI last) = some (nI v, f, sh) ∧ isM R C sg (opn R C sg) g (sw bn g last) n c v := by
  have h16 := ho.1.n16
  have hA := lt16 ho.1 (opn_lt R C sg)
  have h15 := D_15 ho.1 n c hc hd
  obtain ⟨f, f1, f2, f3⟩ := m_findFarW (g := g) mf ho hr hA hg
  unfold M_X9_fewestShown
  rw [m_floor ho hr, bx, f1, bx]
  have lp : ∀ fu d (sh : AR), d ≤ 16 → 16 - d < fu → SL R C sg (opn R C sg) g (sw bn g last) sh d 0 → ∃ sh', M_X9_fewestShown_12 mb (nI c) (nI g) (bI last) fu (f, sh, nI d) = some (sh' c, f, sh') ∧ SL R C sg (opn R C sg) g (sw bn g last) sh' 16 0 := by
    intro fu
    induction fu with
    | zero => intro d sh _ h; omega
    | succ fu ih =>
      intro d sh hd' hfu hS
      show ∃ sh', M_X9_fewestShown_12b _ _ _ _ _ _ = _ ∧ _
      unfold M_X9_fewestShown_12b
      dsimp only
      rcases Nat.lt_or_ge d 16 with y | y
      · rw [if_neg (show ¬ (16 : Int32) ≤ nI d from nI_ge (b := 16) y (by omega))]
        obtain ⟨sh', a1, a2⟩ := m_fs22 (last := last) (nI c) (M_X9_fewestShown_12 mb (nI c) (nI g) (bI last) fu) ho hr hbn f2 f3 hg hgs y 200 0 sh (by omega) (by omega) hS
        rw [show M_X9_fewestShown_22 mb (nI c) (nI g) (bI last) (M_X9_fewestShown_12 mb (nI c) (nI g) (bI last) fu) 200 (f, sh, nI d, 0) = _ from a1]
        exact ih (d + 1) sh' (by omega) (by omega) a2
      · have e : d = 16 := by omega
        subst e
        rw [if_pos (show (16 : Int32) ≤ nI 16 by decide +kernel), if_pos (nI_in (c := c) (N := 16) (by omega) (by omega)), nI_clamp (by omega)]
        exact ⟨sh, rfl, hS⟩
  obtain ⟨sh', l1, l2⟩ := lp 200 0 mz (by omega) (by omega) (fun q n _ _ _ h => by omega)
  obtain ⟨v, v1, v2⟩ := l2 c n hc hs hd (Or.inl (by omega))
  refine ⟨v, f, sh', ?_, v1⟩
  rw [← v2]
  exact l1
end
section
/-! least: the class's side, and both -/
/-- costs of a layer: what a shortest way weighs, its last cell too -/
def CL (R C : Nat) (sg : Nat → Nat) (A g : Nat) (s : Nat → Nat) (co : AR) (n : Nat) : Prop := ∀ q, q < R * C → A.testBit q = true → isD R C sg A g n q → ∃ v, isM R C sg A g s n q v ∧ co q = nI (v + s q)
theorem m_cheapest {R C g c n : Nat} {sg s : Nat → Nat} {A : Nat} {y : YT} (dr th er : Nat) (h : okD R C) (hA : A < 2 ^ (R * C)) (hs1 : ∀ q, s q ≤ 1) (hc : c < R * C) (hd : isD R C sg A g (n + 1) c) (hy : CL R C sg A g s y.2 n) : ∃ v, M_X5_cheapestBefore y (hOf R C sg dr th er) (nI c) (nI (LM R C sg A g n)) = some (nI v) ∧ isM R C sg A g s (n + 1) c v := by
  have h16 := h.n16
  have h15 := D_15 h (n + 1) c hc hd
  have hAq : ∀ q, A.testBit q = true → q < R * C := by
    intro q hq
    rcases Nat.lt_or_ge q (R * C) with z | z
    · exact z
    · rw [Nat.testBit_lt_two_pow (Nat.lt_of_lt_of_le hA (Nat.pow_le_pow_right (by omega) z))] at hq
      exact absurd hq (by decide)
  have lp : ∀ fu w x, w ≤ 4 → 4 - w < fu → x ≤ 16 → MN R C sg A g s 16 n c w x → ∃ v, M_X5_cheapestBefore_7 y (hOf R C sg dr th er) (nI c) (nI (LM R C sg A g n)) fu (nI x, nI w) = some (nI v) ∧ MN R C sg A g s 16 n c 4 v := by
    intro fu
    induction fu with
    | zero => intro w x _ h; omega
    | succ fu ih =>
      intro w x hw hfu hx hm
      show ∃ v, M_X5_cheapestBefore_7b _ _ _ _ _ _ = _ ∧ _
      unfold M_X5_cheapestBefore_7b M_X5_cheapestBefore_51
      dsimp only
      rcases Nat.lt_or_ge w 4 with z | z
      · rw [if_neg (show ¬ (4 : Int32) ≤ nI w from nI_ge (b := 4) z (by omega)), m_bit (by omega), bx, m_stepTo sg dr th er h hc (by omega), bx, n_and, ← nI_succ]
        cases e : stp R C sg c w with
        | none =>
          rw [show oM none = 0 from rfl, Nat.zero_and, if_pos n0I]
          exact ih (w + 1) x (by omega) (by omega) hx (MN_skip hm (fun q y => by rw [e] at y; exact absurd y (by simp)) hd)
        | some q =>
          obtain ⟨q1, q2, q3⟩ := stp_lt h hc (show w < 5 by omega) e
          rw [show oM (some q) = 2 ^ q from rfl, one_and]
          by_cases u : (LM R C sg A g n).testBit q = true
          · obtain ⟨a1, a2⟩ := (LM_on q1).mp u
            obtain ⟨v, v1, v2⟩ := hy q q1 a1 a2
            have vle := ew_le hs1 n q v v1.1
            have sle := hs1 q
            have tk := MN_take hm z e a1 v1
            rw [if_pos u, if_neg (p_ne (by omega)), m_cellOf q (by omega), bx, m_at _ (by omega) (by omega), bx, v2]
            have em : (if nI (v + s q) < nI x then nI (v + s q) else nI x) = nI (if x ≤ v + s q then x else v + s q) := by
              by_cases t : x ≤ v + s q
              · rw [if_neg (nI_nlt t (by omega)), if_pos t]
              · rw [if_pos (nI_lt (by omega) (by omega)), if_neg t]
            rw [em]
            exact ih (w + 1) _ (by omega) (by omega) (by split <;> omega) tk
          · rw [if_neg u, if_pos n0I]
            refine ih (w + 1) x (by omega) (by omega) hx (MN_skip hm (fun q' y1 y2 y3 => ?_) hd)
            rw [e] at y1
            injection y1 with y1
            subst y1
            exact u ((LM_on q1).mpr ⟨y2, y3⟩)
      · have e : w = 4 := by omega
        subst e
        rw [if_pos (show (4 : Int32) ≤ nI 4 by decide +kernel)]
        exact ⟨x, rfl, hm⟩
  obtain ⟨v, l1, l2⟩ := lp 200 0 16 (by omega) (by omega) (Nat.le_refl _) (MN_0 ..)
  refine ⟨v, l1, MN_end l2 h hs1 (by omega) hd ?_⟩
  intro q h1 h2
  obtain ⟨v, v1, _⟩ := hy q (hAq q h1) h1 h2
  exact ⟨v, v1⟩
/-- what shows, as a set -/
theorem m_costLayer {R C g n shw : Nat} {sg s : Nat → Nat} {A : Nat} {y : YT} (dr th er : Nat) (h : okD R C) (hA : A < 2 ^ (R * C)) (hs1 : ∀ q, s q ≤ 1) (hn : n + 1 ≤ 15) (hl : ∀ k, k ≤ n + 1 → y.1 k = nI (LM R C sg A g k)) (hsw : shw < 2 ^ (R * C)) (hss : ∀ q, q < R * C → q ≠ g → A.testBit q = true → s q = if shw.testBit q = true then 1 else 0) (hy : ∀ m, m ≤ n → CL R C sg A g s y.2 m) : ∃ y', M_X5_costLayer y (hOf R C sg dr th er) (nI (n + 1)) (nI shw) = some y' ∧ y'.1 = y.1 ∧ ∀ m, m ≤ n + 1 → CL R C sg A g s y'.2 m := by
  have h16 := h.n16
  have hsw16 := lt16 h hsw
  have lp : ∀ fu c (x : YT), c ≤ 16 → 16 - c < fu → x.1 = y.1 → (∀ m, m ≤ n → CL R C sg A g s x.2 m) → (∀ q, q < c → q < R * C → A.testBit q = true → isD R C sg A g (n + 1) q → ∃ v, isM R C sg A g s (n + 1) q v ∧ x.2 q = nI (v + s q)) → ∃ y', M_X5_costLayer_3 (hOf R C sg dr th er) (nI (n + 1)) (nI shw) fu (x, nI c) = some y' ∧ y'.1 = y.1 ∧ ∀ m, m ≤ n + 1 → CL R C sg A g s y'.2 m := by
    intro fu
    induction fu with
    | zero => intro c x _ h; omega
    | succ fu ih =>
      intro c x hc hfu hx1 hx2 hx3
      show ∃ y', M_X5_costLayer_3b _ _ _ _ _ = _ ∧ _
      unfold M_X5_costLayer_3b M_X5_costLayer_66 M_X5_costLayer_68
      dsimp only
      rcases Nat.lt_or_ge c 16 with z | z
      · have hll := lt16 h (LM_lt R C sg A g (n + 1))
        have e1 : nI (n + 1) - (1 : Int32) = nI n := (n_sub (a := n + 1) (b := 1) (by omega)).trans (by rw [Nat.add_sub_cancel])
        rw [if_neg (nI_ge z (by omega)), e1, m_at _ (by omega) (by omega), bx, m_at _ (by omega) (by omega), bx, hx1, hl (n + 1) (Nat.le_refl _), hl n (by omega), m_has (by omega) (by omega), bx]
        by_cases u : (LM R C sg A g (n + 1)).testBit c = true
        · have hcN : c < R * C := by
            rcases Nat.lt_or_ge c (R * C) with t | t
            · exact t
            · rw [Nat.testBit_lt_two_pow (Nat.lt_of_lt_of_le (LM_lt ..) (Nat.pow_le_pow_right (by omega) t))] at u
              exact absurd u (by decide)
          obtain ⟨a1, a2⟩ := (LM_on hcN).mp u
          obtain ⟨v, v1, v2⟩ := m_cheapest dr th er h hA hs1 hcN a2 (hx2 n (Nat.le_refl _))
          have ng : c ≠ g := fun t => a2.2 0 (by omega) t
          have ss := hss c hcN ng a1
          have go : ∀ i : Int32, i = nI (s c) → ∃ y', (if vin (nI c) 16 then M_X5_costLayer_3 (hOf R C sg dr th er) (nI (n + 1)) (nI shw) fu ((y.1, (upd x.2 (nI c).toNatClampNeg (nI v + i))), (nI c + (1 : Int32))) else none) = some y' ∧ y'.1 = y.1 ∧ ∀ m, m ≤ n + 1 → CL R C sg A g s y'.2 m := by
            intro i hi
            rw [if_pos (nI_in z (by omega)), nI_clamp (by omega), hi, nI_add, ← nI_succ]
            refine ih (c + 1) _ (by omega) (by omega) rfl ?_ ?_
            · intro m hm q q1 qa q2
              have nq : q ≠ c := by
                intro t
                subst t
                have := D_uniq q2 a2
                omega
              show ∃ v', _ ∧ upd x.2 c (nI (v + s c)) q = _
              rw [upd_ne _ _ nq]
              exact hx2 m hm q q1 qa q2
            · intro q q0 q1 qa q2
              show ∃ v', _ ∧ upd x.2 c (nI (v + s c)) q = _
              by_cases t : q = c
              · subst t
                rw [upd_at]
                exact ⟨v, v2, rfl⟩
              · rw [upd_ne _ _ t]
                exact hx3 q (by omega) q1 qa q2
          rw [if_pos u, if_neg k10, v1, bx, m_has (by omega) (by omega), bx]
          by_cases t : shw.testBit c = true
          · rw [if_pos t] at ss
            rw [if_pos t, if_neg k10]
            exact go 1 (by rw [ss]; rfl)
          · rw [if_neg t] at ss
            rw [if_neg t, if_pos k00]
            exact go 0 (by rw [ss]; rfl)
        · rw [if_neg u, if_pos k00, ← nI_succ]
          refine ih (c + 1) x (by omega) (by omega) hx1 hx2 ?_
          intro q q0 q1 qa q2
          by_cases t : q = c
          · subst t
            exact absurd ((LM_on q1).mpr ⟨qa, q2⟩) u
          · exact hx3 q (by omega) q1 qa q2
      · have e : c = 16 := by omega
        subst e
        rw [if_pos (show nI 16 ≤ nI 16 by decide +kernel)]
        refine ⟨x, rfl, hx1, fun m hm => ?_⟩
        by_cases t : m = n + 1
        · subst t
          exact fun q q1 qa q2 => hx3 q (by omega) q1 qa q2
        · exact hx2 m (by omega)
  exact lp 200 0 y (by omega) (by omega) rfl hy (fun q h => absurd h (by omega))
theorem op_least {h : HT} {v : VT} {mb : BT} (y : YT) (mf mz : AR) (x : Int32) (rh : RH h v mb) : ∃ z y' mf' mz', M_X8_least h v y x = some (z, y') ∧ M_X9_least mb mf mz x = some (z, mf', mz') := by
  obtain ⟨R, C, sg, dr, th, er, k, wc, wl, wd, ho, ⟨hx1, hx2, hx3⟩, hr⟩ := rh
  subst hx1
  have h16 := ho.1.n16
  obtain ⟨d1, d2⟩ := ho.2.2.1
  obtain ⟨t1, t2⟩ := ho.2.2.2.1
  have hb := brs_lt R C sg er wc wl wd k
  have hA := opn_lt R C sg
  have hA16 := lt16 ho.1 hA
  have hAs : ∀ c, c < R * C → (opn R C sg).testBit c = true → sg c ≠ 35 := fun c hc z => (opn_s hc).mp z
  have oth := (opn_s t1).mpr t2
  have odr := (opn_s d1).mpr d2
  have e2 : M_X9_in x.toInt64 (0 : Int64) (1 : Int64) = some (if 0 ≤ x ∧ x ≤ 1 then 1 else 0) := m_in x 0 1
  unfold M_X8_least M_X9_least
  rw [m_within, e2, bx, bx]
  by_cases q : 0 ≤ x ∧ x ≤ 1
  · rw [if_pos q, if_neg k10, if_neg k10]
    obtain ⟨w, _, hw1, rfl⟩ := rng (a := 0) (b := 1) (by omega) (by omega) q.1 q.2
    obtain ⟨f1, g1, g2⟩ := m_findFar (g := th) mf ho hr hA16 t1
    rw [show M_X8_bit (hOf R C sg dr th er).2.2.2.2.2.2.2.2.2.1 = some (nI (2 ^ dr)) from m_bit (by omega), show M_X8_bit (hOf R C sg dr th er).2.2.2.2.2.2.2.2.2.2.1 = some (nI (2 ^ th)) from m_bit (by omega), bx, bx, m_open, bx, m_floor ho hr, bx, hr.2.2.2.1, g1, bx, hr.2.2.1, if_pos (nI_in (c := dr) (N := 16) (by omega) (by omega)), nI_clamp (by omega)]
    rcases m_measure dr th er y ho.1 hA hAs t1 oth d1 with ⟨n, ly, m1, m2, m3, m4⟩ | ⟨m1, ly, m2⟩
    · have back := D_rev ho.1 t1 t2 oth d1 d2 odr m2
      rw [show M_X5_measure y (hOf R C sg dr th er) (nI (2 ^ th)) (nI (2 ^ dr)) (nI (andn (2 ^ (R * C) - 1) (sgn R C sg 35))) = _ from m3, bx, (FS_at g2 d1 d2 back).2, if_neg (show ¬ nI n = 1000 from w_ne (b := 1000) (by omega) (by omega) (by omega))]
      dsimp only
      rw [if_neg (show ¬ nI n = -6 from m6ne (by omega))]
      by_cases c1 : w = 1
      · subst c1
        rw [if_pos (show nI 1 = 1 from rfl), if_pos (show nI 1 = 1 from rfl)]
        exact ⟨_, _, _, _, rfl, rfl⟩
      · rw [if_neg (show ¬ nI w = 1 from w_ne (b := 1) (by omega) (by omega) c1), if_neg (show ¬ nI w = 1 from w_ne (b := 1) (by omega) (by omega) c1)]
        obtain ⟨v1, f2, s2, a1, a2⟩ := m_fewestShown (last := true) f1 mz ho hr rfl t1 t2 d1 d2 back
        obtain ⟨v2, f3, s3, b1, b2⟩ := m_fewestShown (last := false) f2 s2 ho hr rfl d1 d2 t1 t2 m2
        rw [show M_X9_fewestShown mb f1 mz (nI dr) (nI th) 1 = _ from a1, bx]
        dsimp only
        rw [show M_X9_fewestShown mb f2 s2 (nI th) (nI dr) 0 = _ from b1, bx, nI_add]
        generalize hbn : brs R C sg er wc wl wd k = bn at hb a2 b2
        unfold M_X5_fewestShowingSteps
        cases n with
        | zero =>
          rw [if_pos n0I, bx]
          have z1 := M_uniq a2 (M_0 back)
          have z2 := M_uniq b2 (M_0 m2)
          rw [z1, z2]
          exact ⟨_, _, _, _, rfl, rfl⟩
        | succ n =>
          have ne : th ≠ dr := fun z => m2.2 0 (by omega) z
          obtain ⟨cf, c1, c2⟩ := m_fill (n := 16) y.2 0 (by omega)
          have hs1 := sw_le bn dr false
          have hshw : andn (opn R C sg) bn < 2 ^ (R * C) := andn_lt hA
          have hss : ∀ q, q < R * C → q ≠ dr → (opn R C sg).testBit q = true → sw bn dr false q = if (andn (opn R C sg) bn).testBit q = true then 1 else 0 := by
            intro q _ hq ha
            rw [andn_bit, ha]
            unfold sw
            cases bn.testBit q
            · rw [if_neg (show ¬ false = true by decide), if_neg (fun z => hq z.1)]; rfl
            · rw [if_pos (show true = true from rfl)]; rfl
          rw [if_neg (show ¬ nI (n + 1) = 0 from nI_ne0 (by omega) (by omega)), m_open, bx, m_bare ho ⟨rfl, hx2, hx3⟩, hbn, bx]
          dsimp only
          rw [c1, bx, n_andn]
          have lp : ∀ fu d (yy : YT), 1 ≤ d → d ≤ n + 2 → n + 2 - d < fu → yy.1 = ly → (∀ m, m ≤ d - 1 → CL R C sg (opn R C sg) dr (sw bn dr false) yy.2 m) → ∃ yy', M_X5_fewestShowingSteps_29 (hOf R C sg dr th er) v (nI (n + 1)) fu (yy, nI (andn (opn R C sg) bn), nI d) = some (nI (2 * v2 + (if (andn (opn R C sg) bn).testBit th = true then 1 else 0)), yy') := by
            intro fu
            induction fu with
            | zero => intro d yy _ _ h; omega
            | succ fu ih =>
              intro d yy hd1 hd2 hfu hy1 hy2
              show ∃ yy', M_X5_fewestShowingSteps_29b _ _ _ _ _ = _
              unfold M_X5_fewestShowingSteps_29b M_X5_fewestShowingSteps_90
              dsimp only
              rcases Nat.lt_or_ge (n + 1) d with z | z
              · have ed : d - 1 = n + 1 := by omega
                rw [ed] at hy2
                have e1 : nI (n + 1) - (1 : Int32) = nI n := (n_sub (a := n + 1) (b := 1) (by omega)).trans (by rw [Nat.add_sub_cancel])
                obtain ⟨vv, u1, u2⟩ := m_cheapest (y := yy) dr th er ho.1 hA hs1 t1 m2 (hy2 n (by omega))
                have ev := M_uniq u2 b2
                subst ev
                have hsw16 := lt16 ho.1 hshw
                rw [if_pos (nI_lt z (by omega)), e1, m_at _ (by omega) (by omega), bx, hy1, m4 n (by omega), show M_X5_cheapestBefore yy (hOf R C sg dr th er) (hOf R C sg dr th er).2.2.2.2.2.2.2.2.2.2.1 (nI (LM R C sg (opn R C sg) dr n)) = some (nI vv) from u1, bx, show M_X8_has (nI (andn (opn R C sg) bn)) (hOf R C sg dr th er).2.2.2.2.2.2.2.2.2.2.1 = _ from m_has (c := th) (by omega) (by omega), bx, show (2 : Int32) * nI vv = nI (2 * vv) from pk_mul 2 vv]
                by_cases tt : (andn (opn R C sg) bn).testBit th = true
                · rw [if_pos tt, if_neg k10, if_pos tt, ← nI_succ]
                  exact ⟨_, rfl⟩
                · rw [if_neg tt, if_pos k00, if_neg tt, show nI (2 * vv) + (0 : Int32) = nI (2 * vv + 0) from nI_add _ 0]
                  exact ⟨_, rfl⟩
              · obtain ⟨dd, rfl⟩ : ∃ dd, d = dd + 1 := ⟨d - 1, by omega⟩
                rw [Nat.add_sub_cancel] at hy2
                obtain ⟨y', p1, p2, p3⟩ := m_costLayer (y := yy) dr th er ho.1 hA hs1 (by omega) (fun k hk => by rw [hy1]; exact m4 k (by omega)) hshw hss hy2
                rw [if_neg (nI_nlt z (by omega)), p1, bx, ← nI_succ]
                exact ih (dd + 1 + 1) y' (by omega) (by omega) (by omega) (p2.trans hy1) p3
          obtain ⟨yy', l1⟩ := lp 200 1 (ly, cf) (by omega) (by omega) (by omega) rfl (by
            intro m hm q _ _ h0
            have em : m = 0 := by omega
            subst em
            have eq : q = dr := h0.1
            have s0 : sw bn dr false q = 0 := by
              unfold sw
              split
              · rfl
              · rw [if_pos ⟨eq, rfl⟩]
            refine ⟨0, M_0 h0, ?_⟩
            rw [s0]
            exact c2 q (by omega))
          have key : v1 + v2 = 2 * v2 + (if (andn (opn R C sg) bn).testBit th = true then 1 else 0) := by
            have st := hss th t1 ne oth
            obtain ⟨u', r1, r2⟩ := ew_rev ho.1 (n + 1) th v2 t1 t2 oth b2.1
            have sdr : sw bn dr false dr = 0 := by
              unfold sw
              split
              · rfl
              · rw [if_pos ⟨rfl, rfl⟩]
            have he : ∀ q, q ≠ dr → sw bn dr false q = sw bn th true q := by
              intro q hq
              unfold sw
              split
              · rfl
              · rw [if_neg (fun z => hq z.1), if_neg (fun z => absurd z.2 (by decide))]
            have le1 := a2.2 u' (ew_door back he (n + 1) dr u' (Nat.le_refl _) r1)
            have w1 := ew_door back (fun q hq => (he q hq).symm) (n + 1) dr v1 (Nat.le_refl _) a2.1
            obtain ⟨u2, r3, r4⟩ := ew_rev ho.1 (n + 1) dr v1 d1 d2 odr w1
            have le2 := b2.2 u2 r3
            rw [← st]
            omega
          rw [show M_X5_fewestShowingSteps_29 (hOf R C sg dr th er) v (nI (n + 1)) 200 ((ly, cf), nI (andn (andn (2 ^ (R * C) - 1) (sgn R C sg 35)) bn), 1) = _ from l1, bx, key]
          exact ⟨_, _, _, _, rfl, rfl⟩
    · have no : ∀ n, ¬ wk R C sg (opn R C sg) th n dr := fun n z => m1 n (wk_rev ho.1 n dr d1 d2 odr z)
      rw [show M_X5_measure y (hOf R C sg dr th er) (nI (2 ^ th)) (nI (2 ^ dr)) (nI (andn (2 ^ (R * C) - 1) (sgn R C sg 35))) = _ from m2, bx, FS_no g2 d1 d2 no, if_pos (show nI 1000 = 1000 from rfl)]
      dsimp only
      rw [if_pos rfl]
      exact ⟨_, _, _, _, rfl, rfl⟩
  · rw [if_neg q, if_pos k00, if_pos k00]
    exact ⟨_, _, _, _, rfl, rfl⟩
end
