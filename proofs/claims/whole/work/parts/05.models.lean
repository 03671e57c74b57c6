/-! Pure models of the methods, printed by wip/whole/gen.py out of the bytecode: none where the machine would not go on as the walk has it -/
def M_J0_isLatin1_aae02 (ks : Nat) : Option (Int32) :=
  if (1 : Int32) = 0 then (some (0 : Int32)) else (if ks < 2 then if (0 : Int32) = 0 then (some (1 : Int32)) else (some (0 : Int32)) else none)
def M_J3_checkIndex_8e157_9 (x1 : Int32) (x2 : Int32) (a9 : Unit) : Option (Int32) :=
  none
def M_J3_checkIndex_8e157 (x1 : Int32) (x2 : Int32) : Option (Int32) :=
  if x1 < 0 then (M_J3_checkIndex_8e157_9 x1 x2 ()) else (if x1 < x2 then (some x1) else (M_J3_checkIndex_8e157_9 x1 x2 ()))
def M_J0_checkIndex_df160 (x1 : Int32) (x2 : Int32) : Option (Unit) :=
  (M_J3_checkIndex_8e157 x1 x2).bind fun r5 => some ()
def M_J1_charAt_3b067 (ks : Nat) (x2 : Int32) : Option (Int32) :=
  if ks < 2 then (M_J0_checkIndex_df160 x2 (5 : Int32)).bind fun r3 => if ks < 2 then if vin x2 5 then if vp_nar .char ((((stb ks x2.toNatClampNeg) &&& (255 : Int32)).toUInt32 % 65536).toInt32) = ((((stb ks x2.toNatClampNeg) &&& (255 : Int32)).toUInt32 % 65536).toInt32) then some ((((stb ks x2.toNatClampNeg) &&& (255 : Int32)).toUInt32 % 65536).toInt32) else none else none else none else none
def M_J0_charAt_5068e (ks : Nat) (x1 : Int32) : Option (Int32) :=
  if ks < 2 then (M_J0_isLatin1_aae02 ks).bind fun r1 => if r1 = 0 then (if ks < 2 then none else none) else (if ks < 2 then (M_J1_charAt_3b067 ks x1).bind fun r12 => if vp_nar .char r12 = r12 then some r12 else none else none) else none
def M_J0_coder_7d493 (ks : Nat) : Option (Int32) :=
  if (1 : Int32) = 0 then (some (1 : Int32)) else (if ks < 2 then some (0 : Int32) else none)
def M_J0_length_8abf5 (ks : Nat) : Option (Int32) :=
  if ks < 2 then if ks < 2 then if ks < 2 then (M_J0_coder_7d493 ks).bind fun r6 => some ((5 : Int32) >>> (r6 &&& 31)) else none else none else none
def M_J1_canEncode_9a6ad (x1 : Int32) : Option (Int32) :=
  if x1 < 0 then (some (0 : Int32)) else (if (255 : Int32) < x1 then (some (0 : Int32)) else (some (1 : Int32)))
def M_J1_indexOfChar_4cfef_7b (ks : Nat) (x2 : Int32) (x3 : Int32) (x4 : Int32) (rc7 : Int32 × Int32 → Option (Int32)) (a7 : Int32 × Int32) : Option (Int32) :=
  if x4 ≤ a7.2 then (some (-1 : Int32)) else (if ks < 2 then if vin a7.2 5 then if (stb ks a7.2.toNatClampNeg) = a7.1 then (some a7.2) else (rc7 (a7.1, (a7.2 + (1 : Int32)))) else none else none)
def M_J1_indexOfChar_4cfef_7 (ks : Nat) (x2 : Int32) (x3 : Int32) (x4 : Int32) : Nat → (Int32 × Int32) → Option (Int32)
  | 0 => fun _ => none
  | k + 1 => M_J1_indexOfChar_4cfef_7b ks x2 x3 x4 (M_J1_indexOfChar_4cfef_7 ks x2 x3 x4 k)
def M_J1_indexOfChar_4cfef (ks : Nat) (x2 : Int32) (x3 : Int32) (x4 : Int32) : Option (Int32) :=
  M_J1_indexOfChar_4cfef_7 ks x2 x3 x4 200 (x2.toInt8.toInt32, x3)
def M_J1_indexOf_4cfef (ks : Nat) (x2 : Int32) (x3 : Int32) (x4 : Int32) : Option (Int32) :=
  (M_J1_canEncode_9a6ad x2).bind fun r1 => if r1 = 0 then (some (-1 : Int32)) else (if ks < 2 then if (if x3 < (0 : Int32) then (0 : Int32) else x3) < (if (5 : Int32) < x4 then (5 : Int32) else x4) then ((M_J1_indexOfChar_4cfef ks x2 (if x3 < (0 : Int32) then (0 : Int32) else x3) (if (5 : Int32) < x4 then (5 : Int32) else x4)).bind fun r33 => some r33) else (some (-1 : Int32)) else none)
def M_J0_indexOf_7cf53 (ks : Nat) (x1 : Int32) (x2 : Int32) : Option (Int32) :=
  if ks < 2 then (M_J0_isLatin1_aae02 ks).bind fun r1 => if r1 = 0 then (if ks < 2 then if ks < 2 then (M_J0_length_8abf5 ks).bind fun r30 => none else none else none) else (if ks < 2 then if ks < 2 then (M_J0_length_8abf5 ks).bind fun r14 => (M_J1_indexOf_4cfef ks x1 x2 r14).bind fun r17 => some r17 else none else none) else none
def M_J0_indexOf_0f7a4 (ks : Nat) (x1 : Int32) : Option (Int32) :=
  if ks < 2 then (M_J0_indexOf_7cf53 ks x1 (0 : Int32)).bind fun r3 => some r3 else none
def M_J6_bitCount_0f7a4 (x1 : Int32) : Option (Int32) :=
  some ((((((((x1 - (((x1.toUInt32 >>> ((1 : Int32).toUInt32 &&& Int32.toUInt32 31)).toInt32) &&& (1431655765 : Int32))) &&& (858993459 : Int32)) + ((((x1 - (((x1.toUInt32 >>> ((1 : Int32).toUInt32 &&& Int32.toUInt32 31)).toInt32) &&& (1431655765 : Int32))).toUInt32 >>> ((2 : Int32).toUInt32 &&& Int32.toUInt32 31)).toInt32) &&& (858993459 : Int32))) + (((((x1 - (((x1.toUInt32 >>> ((1 : Int32).toUInt32 &&& Int32.toUInt32 31)).toInt32) &&& (1431655765 : Int32))) &&& (858993459 : Int32)) + ((((x1 - (((x1.toUInt32 >>> ((1 : Int32).toUInt32 &&& Int32.toUInt32 31)).toInt32) &&& (1431655765 : Int32))).toUInt32 >>> ((2 : Int32).toUInt32 &&& Int32.toUInt32 31)).toInt32) &&& (858993459 : Int32))).toUInt32 >>> ((4 : Int32).toUInt32 &&& Int32.toUInt32 31)).toInt32)) &&& (252645135 : Int32)) + (((((((x1 - (((x1.toUInt32 >>> ((1 : Int32).toUInt32 &&& Int32.toUInt32 31)).toInt32) &&& (1431655765 : Int32))) &&& (858993459 : Int32)) + ((((x1 - (((x1.toUInt32 >>> ((1 : Int32).toUInt32 &&& Int32.toUInt32 31)).toInt32) &&& (1431655765 : Int32))).toUInt32 >>> ((2 : Int32).toUInt32 &&& Int32.toUInt32 31)).toInt32) &&& (858993459 : Int32))) + (((((x1 - (((x1.toUInt32 >>> ((1 : Int32).toUInt32 &&& Int32.toUInt32 31)).toInt32) &&& (1431655765 : Int32))) &&& (858993459 : Int32)) + ((((x1 - (((x1.toUInt32 >>> ((1 : Int32).toUInt32 &&& Int32.toUInt32 31)).toInt32) &&& (1431655765 : Int32))).toUInt32 >>> ((2 : Int32).toUInt32 &&& Int32.toUInt32 31)).toInt32) &&& (858993459 : Int32))).toUInt32 >>> ((4 : Int32).toUInt32 &&& Int32.toUInt32 31)).toInt32)) &&& (252645135 : Int32)).toUInt32 >>> ((8 : Int32).toUInt32 &&& Int32.toUInt32 31)).toInt32)) + ((((((((x1 - (((x1.toUInt32 >>> ((1 : Int32).toUInt32 &&& Int32.toUInt32 31)).toInt32) &&& (1431655765 : Int32))) &&& (858993459 : Int32)) + ((((x1 - (((x1.toUInt32 >>> ((1 : Int32).toUInt32 &&& Int32.toUInt32 31)).toInt32) &&& (1431655765 : Int32))).toUInt32 >>> ((2 : Int32).toUInt32 &&& Int32.toUInt32 31)).toInt32) &&& (858993459 : Int32))) + (((((x1 - (((x1.toUInt32 >>> ((1 : Int32).toUInt32 &&& Int32.toUInt32 31)).toInt32) &&& (1431655765 : Int32))) &&& (858993459 : Int32)) + ((((x1 - (((x1.toUInt32 >>> ((1 : Int32).toUInt32 &&& Int32.toUInt32 31)).toInt32) &&& (1431655765 : Int32))).toUInt32 >>> ((2 : Int32).toUInt32 &&& Int32.toUInt32 31)).toInt32) &&& (858993459 : Int32))).toUInt32 >>> ((4 : Int32).toUInt32 &&& Int32.toUInt32 31)).toInt32)) &&& (252645135 : Int32)) + (((((((x1 - (((x1.toUInt32 >>> ((1 : Int32).toUInt32 &&& Int32.toUInt32 31)).toInt32) &&& (1431655765 : Int32))) &&& (858993459 : Int32)) + ((((x1 - (((x1.toUInt32 >>> ((1 : Int32).toUInt32 &&& Int32.toUInt32 31)).toInt32) &&& (1431655765 : Int32))).toUInt32 >>> ((2 : Int32).toUInt32 &&& Int32.toUInt32 31)).toInt32) &&& (858993459 : Int32))) + (((((x1 - (((x1.toUInt32 >>> ((1 : Int32).toUInt32 &&& Int32.toUInt32 31)).toInt32) &&& (1431655765 : Int32))) &&& (858993459 : Int32)) + ((((x1 - (((x1.toUInt32 >>> ((1 : Int32).toUInt32 &&& Int32.toUInt32 31)).toInt32) &&& (1431655765 : Int32))).toUInt32 >>> ((2 : Int32).toUInt32 &&& Int32.toUInt32 31)).toInt32) &&& (858993459 : Int32))).toUInt32 >>> ((4 : Int32).toUInt32 &&& Int32.toUInt32 31)).toInt32)) &&& (252645135 : Int32)).toUInt32 >>> ((8 : Int32).toUInt32 &&& Int32.toUInt32 31)).toInt32)).toUInt32 >>> ((16 : Int32).toUInt32 &&& Int32.toUInt32 31)).toInt32)) &&& (63 : Int32))
def M_J7_fill_53178_5b (n : Nat) (x2 : Int32) (rc5 : AR × Int32 × Int32 → Option (AR)) (a5 : AR × Int32 × Int32) : Option (AR) :=
  if a5.2.2 ≤ a5.2.1 then (some a5.1) else (if vin a5.2.1 n then rc5 ((upd a5.1 a5.2.1.toNatClampNeg x2), (a5.2.1 + (1 : Int32)), a5.2.2) else none)
def M_J7_fill_53178_5 (n : Nat) (x2 : Int32) : Nat → (AR × Int32 × Int32) → Option (AR)
  | 0 => fun _ => none
  | k + 1 => M_J7_fill_53178_5b n x2 (M_J7_fill_53178_5 n x2 k)
def M_J7_fill_53178 (n : Nat) (f : AR) (x2 : Int32) : Option (AR) :=
  M_J7_fill_53178_5 n x2 200 (f, (0 : Int32), (nI n))
def M_X8_bit (x1 : Int32) : Option (Int32) :=
  some ((1 : Int32) <<< (x1 &&& 31))
def M_X0_moved (h : HT) (x1 : Int32) (x2 : Int32) : Option (Int32) :=
  if x2 = (0 : Int32) then (some ((x1.toUInt32 >>> (h.2.1.toUInt32 &&& Int32.toUInt32 31)).toInt32)) else (if x2 = (1 : Int32) then (some ((x1 &&& (h.2.2.2.2.1 ^^^ (-1 : Int32))) <<< ((1 : Int32) &&& 31))) else (if x2 = (2 : Int32) then (some ((x1 <<< (h.2.1 &&& 31)) &&& h.2.2.1)) else (if x2 = (3 : Int32) then (some (((x1 &&& (h.2.2.2.1 ^^^ (-1 : Int32))).toUInt32 >>> ((1 : Int32).toUInt32 &&& Int32.toUInt32 31)).toInt32)) else (some x1))))
def M_X0_spread_4b (h : HT) (x1 : Int32) (rc4 : Int32 × Int32 → Option (Int32)) (a4 : Int32 × Int32) : Option (Int32) :=
  if (4 : Int32) ≤ a4.2 then (some a4.1) else ((M_X0_moved h x1 a4.2).bind fun r13 => rc4 ((a4.1 ||| r13), (a4.2 + (1 : Int32))))
def M_X0_spread_4 (h : HT) (x1 : Int32) : Nat → (Int32 × Int32) → Option (Int32)
  | 0 => fun _ => none
  | k + 1 => M_X0_spread_4b h x1 (M_X0_spread_4 h x1 k)
def M_X0_spread (h : HT) (x1 : Int32) : Option (Int32) :=
  M_X0_spread_4 h x1 200 (x1, (0 : Int32))
def M_X0_around_8b (h : HT) (x1 : Int32) (x2 : Int32) (rc8 : Int32 × Int32 → Option (Int32)) (a8 : Int32 × Int32) : Option (Int32) :=
  if x2 ≤ a8.2 then (some a8.1) else ((M_X0_spread h a8.1).bind fun r16 => rc8 (r16, (a8.2 + (1 : Int32))))
def M_X0_around_8 (h : HT) (x1 : Int32) (x2 : Int32) : Nat → (Int32 × Int32) → Option (Int32)
  | 0 => fun _ => none
  | k + 1 => M_X0_around_8b h x1 x2 (M_X0_around_8 h x1 x2 k)
def M_X0_around (h : HT) (x1 : Int32) (x2 : Int32) : Option (Int32) :=
  (M_X8_bit x1).bind fun r1 => M_X0_around_8 h x1 x2 200 (r1, (0 : Int32))
def M_X0_open (h : HT) : Option (Int32) :=
  some (h.2.2.1 &&& (h.2.2.2.2.2.1 ^^^ (-1 : Int32)))
def M_X8_at (n : Nat) (f : AR) (x2 : Int32) : Option (Int32) :=
  if x2 < 0 then (some (0 : Int32)) else (if (nI n) ≤ x2 then (some (0 : Int32)) else (if vin x2 n then some (f x2.toNatClampNeg) else none))
def M_X4_cellOfOne (v : VT) (x1 : Int32) : Option (Int32) :=
  (M_X8_at 4 v.2.1 x1).bind fun r5 => some r5
def M_X4_lookingOf (v : VT) (x1 : Int32) : Option (Int32) :=
  (M_X8_at 4 v.2.2.1 x1).bind fun r5 => some r5
def M_X4_hasDog (v : VT) (x1 : Int32) : Option (Int32) :=
  (M_X8_at 4 v.2.2.2 x1).bind fun r5 => if r5 = (1 : Int32) then (some (1 : Int32)) else (some (0 : Int32))
def M_X0_sightFrom_11b (h : HT) (x1 : Int32) (x2 : Int32) (rc11 : Int32 × Int32 × Int32 → Option (Int32)) (a11 : Int32 × Int32 × Int32) : Option (Int32) :=
  if (4 : Int32) ≤ a11.2.2 then (some a11.2.1) else ((M_X0_moved h a11.1 x2).bind fun r20 => rc11 ((r20 &&& (h.2.2.2.2.2.1 ^^^ (-1 : Int32))), (a11.2.1 ||| (r20 &&& (h.2.2.2.2.2.1 ^^^ (-1 : Int32)))), (a11.2.2 + (1 : Int32))))
def M_X0_sightFrom_11 (h : HT) (x1 : Int32) (x2 : Int32) : Nat → (Int32 × Int32 × Int32) → Option (Int32)
  | 0 => fun _ => none
  | k + 1 => M_X0_sightFrom_11b h x1 x2 (M_X0_sightFrom_11 h x1 x2 k)
def M_X0_sightFrom (h : HT) (x1 : Int32) (x2 : Int32) : Option (Int32) :=
  (M_X8_bit x1).bind fun r1 => M_X0_sightFrom_11 h x1 x2 200 (r1, r1, (1 : Int32))
def M_X0_spoiledFrom (h : HT) (x1 : Int32) (x2 : Int32) (x3 : Int32) : Option (Int32) :=
  (M_X0_sightFrom h x1 x2).bind fun r3 => (M_X0_around h x1 h.2.2.2.2.2.2.2.2.2.2.2).bind fun r22 => if x3 = 0 then (some ((r3 &&& (h.2.2.2.2.2.2.1 ||| h.2.2.2.2.2.2.2.2.1)) ||| (r22 &&& h.2.2.2.2.2.2.2.1))) else ((M_X0_around h x1 (1 : Int32)).bind fun r42 => some (((r3 &&& (h.2.2.2.2.2.2.1 ||| h.2.2.2.2.2.2.2.2.1)) ||| (r22 &&& h.2.2.2.2.2.2.2.1)) ||| r42))
def M_X0_bareCells_7b (h : HT) (v : VT) (rc7 : Int32 × Int32 → Option (Int32)) (a7 : Int32 × Int32) : Option (Int32) :=
  if v.1 ≤ a7.2 then (some a7.1) else ((M_X4_cellOfOne v a7.2).bind fun r25 => (M_X4_lookingOf v a7.2).bind fun r33 => (M_X4_hasDog v a7.2).bind fun r41 => (M_X0_spoiledFrom h r25 r33 r41).bind fun r44 => rc7 ((a7.1 &&& (r44 ^^^ (-1 : Int32))), (a7.2 + (1 : Int32))))
def M_X0_bareCells_7 (h : HT) (v : VT) : Nat → (Int32 × Int32) → Option (Int32)
  | 0 => fun _ => none
  | k + 1 => M_X0_bareCells_7b h v (M_X0_bareCells_7 h v k)
def M_X0_bareCells (h : HT) (v : VT) : Option (Int32) :=
  (M_X0_open h).bind fun r1 => M_X0_bareCells_7 h v 200 (r1, (0 : Int32))
def M_X0_cells (h : HT) : Option (Int32) :=
  some (h.1 * h.2.1)
def M_X4_clear (v : VT) : Option (Int32 × VT) :=
  some (v.1, ((0 : Int32), v.2.1, v.2.2.1, v.2.2.2))
def M_X0_clearCells (h : HT) (v : VT) : Option (HT × VT) :=
  (M_X4_clear v).bind fun r24 => some ((h.1, h.2.1, h.2.2.1, h.2.2.2.1, h.2.2.2.2.1, (0 : Int32), (0 : Int32), (0 : Int32), (0 : Int32), h.2.2.2.2.2.2.2.2.2.1, h.2.2.2.2.2.2.2.2.2.2.1, h.2.2.2.2.2.2.2.2.2.2.2), r24.2)
def M_X0_layOut_30b (x1 : Int32) (x2 : Int32) (rc30 : HT × VT × Int32 → Option (HT × VT)) (a30 : HT × VT × Int32) : Option (HT × VT) :=
  if a30.1.1 ≤ a30.2.2 then ((M_X0_clearCells (a30.1.1, a30.1.2.1, a30.1.2.2.1, a30.1.2.2.2.1, (a30.1.2.2.2.1 <<< ((a30.1.2.1 - (1 : Int32)) &&& 31)), a30.1.2.2.2.2.2.1, a30.1.2.2.2.2.2.2.1, a30.1.2.2.2.2.2.2.2.1, a30.1.2.2.2.2.2.2.2.2.1, a30.1.2.2.2.2.2.2.2.2.2.1, a30.1.2.2.2.2.2.2.2.2.2.2.1, a30.1.2.2.2.2.2.2.2.2.2.2.2) a30.2.1).bind fun r78 => (M_X0_cells (r78.1.1, r78.1.2.1, r78.1.2.2.1, r78.1.2.2.2.1, r78.1.2.2.2.2.1, r78.1.2.2.2.2.2.1, r78.1.2.2.2.2.2.2.1, r78.1.2.2.2.2.2.2.2.1, r78.1.2.2.2.2.2.2.2.2.1, (0 : Int32), r78.1.2.2.2.2.2.2.2.2.2.2.1, r78.1.2.2.2.2.2.2.2.2.2.2.2)).bind fun r88 => some ((r78.1.1, r78.1.2.1, r78.1.2.2.1, r78.1.2.2.2.1, r78.1.2.2.2.2.1, r78.1.2.2.2.2.2.1, r78.1.2.2.2.2.2.2.1, r78.1.2.2.2.2.2.2.2.1, r78.1.2.2.2.2.2.2.2.2.1, (0 : Int32), (r88 - (1 : Int32)), r78.1.2.2.2.2.2.2.2.2.2.2.2), r78.2)) else ((M_X8_bit (a30.2.2 * a30.1.2.1)).bind fun r49 => rc30 ((a30.1.1, a30.1.2.1, a30.1.2.2.1, (a30.1.2.2.2.1 ||| r49), a30.1.2.2.2.2.1, a30.1.2.2.2.2.2.1, a30.1.2.2.2.2.2.2.1, a30.1.2.2.2.2.2.2.2.1, a30.1.2.2.2.2.2.2.2.2.1, a30.1.2.2.2.2.2.2.2.2.2.1, a30.1.2.2.2.2.2.2.2.2.2.2.1, a30.1.2.2.2.2.2.2.2.2.2.2.2), a30.2.1, (a30.2.2 + (1 : Int32))))
def M_X0_layOut_30 (x1 : Int32) (x2 : Int32) : Nat → (HT × VT × Int32) → Option (HT × VT)
  | 0 => fun _ => none
  | k + 1 => M_X0_layOut_30b x1 x2 (M_X0_layOut_30 x1 x2 k)
def M_X0_layOut (h : HT) (v : VT) (x1 : Int32) (x2 : Int32) : Option (HT × VT) :=
  (M_X0_cells (x1, x2, h.2.2.1, h.2.2.2.1, h.2.2.2.2.1, h.2.2.2.2.2.1, h.2.2.2.2.2.2.1, h.2.2.2.2.2.2.2.1, h.2.2.2.2.2.2.2.2.1, h.2.2.2.2.2.2.2.2.2.1, h.2.2.2.2.2.2.2.2.2.2.1, h.2.2.2.2.2.2.2.2.2.2.2)).bind fun r12 => (M_X8_bit r12).bind fun r15 => M_X0_layOut_30 x1 x2 200 ((x1, x2, (r15 - (1 : Int32)), (0 : Int32), h.2.2.2.2.1, h.2.2.2.2.2.1, h.2.2.2.2.2.2.1, h.2.2.2.2.2.2.2.1, h.2.2.2.2.2.2.2.2.1, h.2.2.2.2.2.2.2.2.2.1, h.2.2.2.2.2.2.2.2.2.2.1, h.2.2.2.2.2.2.2.2.2.2.2), v, (0 : Int32))
def M_X4_isFull (v : VT) : Option (Int32) :=
  if v.1 < (4 : Int32) then (some (0 : Int32)) else (some (1 : Int32))
def M_X8_put (n : Nat) (f : AR) (x2 : Int32) (x3 : Int32) : Option (AR) :=
  if x2 < 0 then (some f) else (if (nI n) ≤ x2 then (some f) else (if vin x2 n then some (upd f x2.toNatClampNeg x3) else none))
def M_X4_add_50 (x1 : Int32) (x2 : Int32) (x3 : Int32) (a50 : VT × Int32 × Int32) : Option (Int32 × VT) :=
  (M_X8_put 4 a50.1.2.2.2 a50.2.2 a50.2.1).bind fun r50 => some ((1 : Int32), ((a50.1.1 + (1 : Int32)), a50.1.2.1, a50.1.2.2.1, r50))
def M_X4_add (v : VT) (x1 : Int32) (x2 : Int32) (x3 : Int32) : Option (Int32 × VT) :=
  (M_X4_isFull v).bind fun r1 => if r1 = 0 then ((M_X8_put 4 v.2.1 v.1 x1).bind fun r18 => (M_X8_put 4 v.2.2.1 v.1 x2).bind fun r30 => if x3 = 0 then (M_X4_add_50 x1 x2 x3 ((v.1, r18, r30, v.2.2.2), (0 : Int32), v.1)) else (M_X4_add_50 x1 x2 x3 ((v.1, r18, r30, v.2.2.2), (1 : Int32), v.1))) else (some ((0 : Int32), v))
def M_X4_copyFrom_7b (u : VT) (rc7 : VT × Int32 → Option (VT)) (a7 : VT × Int32) : Option (VT) :=
  if u.1 ≤ a7.2 then (some a7.1) else ((M_X4_cellOfOne u a7.2).bind fun r18 => (M_X4_lookingOf u a7.2).bind fun r23 => (M_X4_hasDog u a7.2).bind fun r28 => (M_X4_add a7.1 r18 r23 r28).bind fun r31 => rc7 (r31.2, (a7.2 + (1 : Int32))))
def M_X4_copyFrom_7 (u : VT) : Nat → (VT × Int32) → Option (VT)
  | 0 => fun _ => none
  | k + 1 => M_X4_copyFrom_7b u (M_X4_copyFrom_7 u k)
def M_X4_copyFrom (v : VT) (u : VT) : Option (VT) :=
  (M_X4_clear v).bind fun r1 => M_X4_copyFrom_7 u 200 (r1.2, (0 : Int32))
def M_X0_copyFrom (h : HT) (v : VT) (g : HT) (u : VT) : Option (HT × VT) :=
  (M_X0_layOut h v g.1 g.2.1).bind fun r9 => (M_X4_copyFrom r9.2 u).bind fun r76 => some ((r9.1.1, r9.1.2.1, r9.1.2.2.1, r9.1.2.2.2.1, r9.1.2.2.2.2.1, g.2.2.2.2.2.1, g.2.2.2.2.2.2.1, g.2.2.2.2.2.2.2.1, g.2.2.2.2.2.2.2.2.1, g.2.2.2.2.2.2.2.2.2.1, g.2.2.2.2.2.2.2.2.2.2.1, g.2.2.2.2.2.2.2.2.2.2.2), r76)
def M_X2_signAt (p : PT) (x1 : Int32) : Option (Int32) :=
  if x1 < 0 then (some (32 : Int32)) else (if p.1 ≤ x1 then (some (32 : Int32)) else (if (nI 40) ≤ x1 then (some (32 : Int32)) else (if vin x1 40 then if vp_nar .char (p.2 x1.toNatClampNeg) = (p.2 x1.toNatClampNeg) then some (p.2 x1.toNatClampNeg) else none else none)))
def M_X0_furnishCell_88 (x1 : Int32) (x2 : Int32) (a88 : HT × Int32 × Int32) : Option (HT) :=
  some (a88.1.1, a88.1.2.1, a88.1.2.2.1, a88.1.2.2.2.1, a88.1.2.2.2.2.1, a88.1.2.2.2.2.2.1, a88.1.2.2.2.2.2.2.1, a88.1.2.2.2.2.2.2.2.1, (a88.2.2 ||| a88.2.1), a88.1.2.2.2.2.2.2.2.2.2.1, a88.1.2.2.2.2.2.2.2.2.2.2.1, a88.1.2.2.2.2.2.2.2.2.2.2.2)
def M_X0_furnishCell_65 (x1 : Int32) (x2 : Int32) (a65 : HT × Int32 × Int32) : Option (HT) :=
  if x2 = (100 : Int32) then ((M_X8_bit x1).bind fun r81 => M_X0_furnishCell_88 x1 x2 ((a65.1.1, a65.1.2.1, a65.1.2.2.1, a65.1.2.2.2.1, a65.1.2.2.2.2.1, a65.1.2.2.2.2.2.1, a65.1.2.2.2.2.2.2.1, (a65.2.2 ||| a65.2.1), a65.1.2.2.2.2.2.2.2.2.1, a65.1.2.2.2.2.2.2.2.2.2.1, a65.1.2.2.2.2.2.2.2.2.2.2.1, a65.1.2.2.2.2.2.2.2.2.2.2.2), r81, a65.1.2.2.2.2.2.2.2.2.1)) else (M_X0_furnishCell_88 x1 x2 ((a65.1.1, a65.1.2.1, a65.1.2.2.1, a65.1.2.2.2.1, a65.1.2.2.2.2.1, a65.1.2.2.2.2.2.1, a65.1.2.2.2.2.2.2.1, (a65.2.2 ||| a65.2.1), a65.1.2.2.2.2.2.2.2.2.1, a65.1.2.2.2.2.2.2.2.2.2.1, a65.1.2.2.2.2.2.2.2.2.2.2.1, a65.1.2.2.2.2.2.2.2.2.2.2.2), (0 : Int32), a65.1.2.2.2.2.2.2.2.2.1))
def M_X0_furnishCell_42 (x1 : Int32) (x2 : Int32) (a42 : HT × Int32 × Int32) : Option (HT) :=
  if x2 = (99 : Int32) then ((M_X8_bit x1).bind fun r58 => M_X0_furnishCell_65 x1 x2 ((a42.1.1, a42.1.2.1, a42.1.2.2.1, a42.1.2.2.2.1, a42.1.2.2.2.2.1, a42.1.2.2.2.2.2.1, (a42.2.2 ||| a42.2.1), a42.1.2.2.2.2.2.2.2.1, a42.1.2.2.2.2.2.2.2.2.1, a42.1.2.2.2.2.2.2.2.2.2.1, a42.1.2.2.2.2.2.2.2.2.2.2.1, a42.1.2.2.2.2.2.2.2.2.2.2.2), r58, a42.1.2.2.2.2.2.2.2.1)) else (M_X0_furnishCell_65 x1 x2 ((a42.1.1, a42.1.2.1, a42.1.2.2.1, a42.1.2.2.2.1, a42.1.2.2.2.2.1, a42.1.2.2.2.2.2.1, (a42.2.2 ||| a42.2.1), a42.1.2.2.2.2.2.2.2.1, a42.1.2.2.2.2.2.2.2.2.1, a42.1.2.2.2.2.2.2.2.2.2.1, a42.1.2.2.2.2.2.2.2.2.2.2.1, a42.1.2.2.2.2.2.2.2.2.2.2.2), (0 : Int32), a42.1.2.2.2.2.2.2.2.1))
def M_X0_furnishCell_19 (x1 : Int32) (x2 : Int32) (a19 : HT × Int32 × Int32) : Option (HT) :=
  if x2 = (103 : Int32) then ((M_X8_bit x1).bind fun r35 => M_X0_furnishCell_42 x1 x2 ((a19.1.1, a19.1.2.1, a19.1.2.2.1, a19.1.2.2.2.1, a19.1.2.2.2.2.1, (a19.2.2 ||| a19.2.1), a19.1.2.2.2.2.2.2.1, a19.1.2.2.2.2.2.2.2.1, a19.1.2.2.2.2.2.2.2.2.1, a19.1.2.2.2.2.2.2.2.2.2.1, a19.1.2.2.2.2.2.2.2.2.2.2.1, a19.1.2.2.2.2.2.2.2.2.2.2.2), r35, a19.1.2.2.2.2.2.2.1)) else (M_X0_furnishCell_42 x1 x2 ((a19.1.1, a19.1.2.1, a19.1.2.2.1, a19.1.2.2.2.1, a19.1.2.2.2.2.1, (a19.2.2 ||| a19.2.1), a19.1.2.2.2.2.2.2.1, a19.1.2.2.2.2.2.2.2.1, a19.1.2.2.2.2.2.2.2.2.1, a19.1.2.2.2.2.2.2.2.2.2.1, a19.1.2.2.2.2.2.2.2.2.2.2.1, a19.1.2.2.2.2.2.2.2.2.2.2.2), (0 : Int32), a19.1.2.2.2.2.2.2.1))
def M_X0_furnishCell (h : HT) (x1 : Int32) (x2 : Int32) : Option (HT) :=
  if x2 = (35 : Int32) then ((M_X8_bit x1).bind fun r12 => M_X0_furnishCell_19 x1 x2 (h, r12, h.2.2.2.2.2.1)) else (M_X0_furnishCell_19 x1 x2 (h, (0 : Int32), h.2.2.2.2.2.1))
def M_X8_cellOf (x1 : Int32) : Option (Int32) :=
  (M_J6_bitCount_0f7a4 (x1 - (1 : Int32))).bind fun r3 => some r3
def M_X8_has (x1 : Int32) (x2 : Int32) : Option (Int32) :=
  if (((x1.toUInt32 >>> (x2.toUInt32 &&& Int32.toUInt32 31)).toInt32) &&& (1 : Int32)) = 0 then (some (0 : Int32)) else (some (1 : Int32))
def M_X0_furnish_73 (p : PT) (rc49 : HT × VT × Int32 → Option (HT × VT)) (a73 : HT × VT × Int32) : Option (HT × VT) :=
  rc49 (a73.1, a73.2.1, (a73.2.2 + (1 : Int32)))
def M_X0_furnish_49b (p : PT) (rc49 : HT × VT × Int32 → Option (HT × VT)) (a49 : HT × VT × Int32) : Option (HT × VT) :=
  (M_X0_cells a49.1).bind fun r51 => if r51 ≤ a49.2.2 then (some (a49.1, a49.2.1)) else ((M_X8_has a49.1.2.2.2.2.2.1 a49.2.2).bind fun r62 => if r62 = 0 then (M_X0_furnish_73 p rc49 ((a49.1.1, a49.1.2.1, a49.1.2.2.1, a49.1.2.2.2.1, a49.1.2.2.2.2.1, a49.1.2.2.2.2.2.1, a49.1.2.2.2.2.2.2.1, a49.1.2.2.2.2.2.2.2.1, a49.1.2.2.2.2.2.2.2.2.1, a49.1.2.2.2.2.2.2.2.2.2.1, a49.2.2, a49.1.2.2.2.2.2.2.2.2.2.2.2), a49.2.1, a49.2.2)) else (M_X0_furnish_73 p rc49 (a49.1, a49.2.1, a49.2.2)))
def M_X0_furnish_49 (p : PT) : Nat → (HT × VT × Int32) → Option (HT × VT)
  | 0 => fun _ => none
  | k + 1 => M_X0_furnish_49b p (M_X0_furnish_49 p k)
def M_X0_furnish_6b (p : PT) (rc6 : HT × VT × Int32 → Option (HT × VT)) (a6 : HT × VT × Int32) : Option (HT × VT) :=
  (M_X0_cells a6.1).bind fun r8 => if r8 ≤ a6.2.2 then ((M_X0_open a6.1).bind fun r32 => (M_X0_open a6.1).bind fun r36 => (M_X8_cellOf (r32 &&& (-r36))).bind fun r41 => M_X0_furnish_49 p 200 ((a6.1.1, a6.1.2.1, a6.1.2.2.1, a6.1.2.2.2.1, a6.1.2.2.2.2.1, a6.1.2.2.2.2.2.1, a6.1.2.2.2.2.2.2.1, a6.1.2.2.2.2.2.2.2.1, a6.1.2.2.2.2.2.2.2.2.1, r41, a6.1.2.2.2.2.2.2.2.2.2.2.1, a6.1.2.2.2.2.2.2.2.2.2.2.2), a6.2.1, (0 : Int32))) else ((M_X2_signAt p a6.2.2).bind fun r18 => (M_X0_furnishCell a6.1 a6.2.2 r18).bind fun r21 => rc6 (r21, a6.2.1, (a6.2.2 + (1 : Int32))))
def M_X0_furnish_6 (p : PT) : Nat → (HT × VT × Int32) → Option (HT × VT)
  | 0 => fun _ => none
  | k + 1 => M_X0_furnish_6b p (M_X0_furnish_6 p k)
def M_X0_furnish (h : HT) (v : VT) (p : PT) : Option (HT × VT) :=
  (M_X0_clearCells h v).bind fun r1 => M_X0_furnish_6 p 200 (r1.1, r1.2, (0 : Int32))
def M_X0_isCell (h : HT) (x1 : Int32) : Option (Int32) :=
  if x1 < 0 then (some (0 : Int32)) else ((M_X0_cells h).bind fun r6 => if r6 ≤ x1 then (some (0 : Int32)) else (some (1 : Int32)))
def M_X0_moveDoor (h : HT) (x1 : Int32) : Option (Int32 × HT) :=
  some (h.2.2.2.2.2.2.2.2.2.1, (h.1, h.2.1, h.2.2.1, h.2.2.2.1, h.2.2.2.2.1, h.2.2.2.2.2.1, h.2.2.2.2.2.2.1, h.2.2.2.2.2.2.2.1, h.2.2.2.2.2.2.2.2.1, x1, h.2.2.2.2.2.2.2.2.2.2.1, h.2.2.2.2.2.2.2.2.2.2.2))
def M_X0_moveThing (h : HT) (x1 : Int32) : Option (Int32 × HT) :=
  some (h.2.2.2.2.2.2.2.2.2.2.1, (h.1, h.2.1, h.2.2.1, h.2.2.2.1, h.2.2.2.2.1, h.2.2.2.2.2.1, h.2.2.2.2.2.2.1, h.2.2.2.2.2.2.2.1, h.2.2.2.2.2.2.2.2.1, h.2.2.2.2.2.2.2.2.2.1, x1, h.2.2.2.2.2.2.2.2.2.2.2))
def M_X0_seenBy (h : HT) (v : VT) (x1 : Int32) : Option (Int32) :=
  (M_X4_cellOfOne v x1).bind fun r6 => (M_X4_lookingOf v x1).bind fun r14 => (M_X0_sightFrom h r6 r14).bind fun r17 => some r17
def M_X0_signOf (h : HT) (x1 : Int32) : Option (Int32) :=
  (M_X8_has h.2.2.2.2.2.1 x1).bind fun r5 => if r5 = 0 then ((M_X8_has h.2.2.2.2.2.2.1 x1).bind fun r19 => if r19 = 0 then ((M_X8_has h.2.2.2.2.2.2.2.1 x1).bind fun r33 => if r33 = 0 then ((M_X8_has h.2.2.2.2.2.2.2.2.1 x1).bind fun r47 => if r47 = 0 then (some (46 : Int32)) else (some (100 : Int32))) else (some (99 : Int32))) else (some (103 : Int32))) else (some (35 : Int32))
def M_X0_stepTo (h : HT) (x1 : Int32) (x2 : Int32) : Option (Int32) :=
  (M_X0_moved h x1 x2).bind fun r3 => (M_X0_open h).bind fun r7 => some (r3 &&& r7)
def M_X0_stepOrStay (h : HT) (x1 : Int32) (x2 : Int32) : Option (Int32) :=
  (M_X0_stepTo h x1 x2).bind fun r3 => if r3 = 0 then (some x1) else (some r3)
def M_X2_add (p : PT) (x1 : Int32) : Option (Int32 × PT) :=
  if p.1 < 0 then (some ((0 : Int32), p)) else (if p.1 < (nI 40) then (if vin p.1 40 then some ((1 : Int32), ((p.1 + (1 : Int32)), (upd p.2 p.1.toNatClampNeg (vp_nar .char x1)))) else none) else (some ((0 : Int32), p)))
def M_X2_clear (p : PT) : Option (Int32 × PT) :=
  some (p.1, ((0 : Int32), p.2))
def M_X2_firstWrong_2b (p : PT) (ks : Nat) (x2 : Int32) (rc2 : Int32 → Option (Int32)) (a2 : Int32) : Option (Int32) :=
  if p.1 ≤ a2 then (some (-6 : Int32)) else (if x2 ≤ a2 then (some a2) else ((M_X2_signAt p a2).bind fun r18 => if ks < 2 then (M_J0_indexOf_0f7a4 ks r18).bind fun r21 => if 0 ≤ r21 then (rc2 (a2 + (1 : Int32))) else (some a2) else none))
def M_X2_firstWrong_2 (p : PT) (ks : Nat) (x2 : Int32) : Nat → Int32 → Option (Int32)
  | 0 => fun _ => none
  | k + 1 => M_X2_firstWrong_2b p ks x2 (M_X2_firstWrong_2 p ks x2 k)
def M_X2_firstWrong (p : PT) (ks : Nat) (x2 : Int32) : Option (Int32) :=
  M_X2_firstWrong_2 p ks x2 200 (0 : Int32)
def M_X2_houseFault (p : PT) (x1 : Int32) : Option (Int32) :=
  (M_X2_firstWrong p 0 x1).bind fun r4 => if r4 = (-6 : Int32) then (if x1 ≤ p.1 then (some (-6 : Int32)) else (some p.1)) else (some r4)
def M_X2_isAll_2b (p : PT) (x1 : Int32) (rc2 : Int32 → Option (Int32)) (a2 : Int32) : Option (Int32) :=
  if p.1 ≤ a2 then (some (1 : Int32)) else ((M_X2_signAt p a2).bind fun r12 => if r12 = x1 then (rc2 (a2 + (1 : Int32))) else (some (0 : Int32)))
def M_X2_isAll_2 (p : PT) (x1 : Int32) : Nat → Int32 → Option (Int32)
  | 0 => fun _ => none
  | k + 1 => M_X2_isAll_2b p x1 (M_X2_isAll_2 p x1 k)
def M_X2_isAll (p : PT) (x1 : Int32) : Option (Int32) :=
  M_X2_isAll_2 p x1 200 (0 : Int32)
def M_X2_stepAt (p : PT) (x1 : Int32) : Option (Int32) :=
  (M_X2_signAt p x1).bind fun r4 => (M_J0_indexOf_0f7a4 1 r4).bind fun r7 => some r7
def M_X2_walkFault (p : PT) : Option (Int32) :=
  (M_X2_firstWrong p 1 (40 : Int32)).bind fun r5 => some r5
def M_X3_answer (d : DT) (x1 : Int32) : Option (Int32) :=
  if x1 = (1 : Int32) then (some d.2.1) else (if x1 = (2 : Int32) then (some d.2.2.1) else (if x1 = (3 : Int32) then (some d.2.2.2.1) else (if x1 = (4 : Int32) then (some d.2.2.2.2.1) else (some d.2.2.2.2.2.2))))
def M_X3_forget (d : DT) : Option (DT) :=
  some ((-6 : Int32), (-6 : Int32), (-6 : Int32), (-6 : Int32), (0 : Int32), (0 : Int32), (-6 : Int32))
def M_X6_begin_102 (h : HT) (v : VT) (rc26 : RT × Int32 → Option (RT)) (a102 : RT × Int32 × Int32 × Int32) : Option (RT) :=
  (M_X8_put 4 a102.1.2.2.2.2.2 a102.2.2.2 a102.2.2.1).bind fun r102 => rc26 ((a102.1.1, a102.1.2.1, a102.1.2.2.1, a102.1.2.2.2.1, a102.1.2.2.2.2.1, r102), (a102.2.1 + (1 : Int32)))
def M_X6_begin_26b (h : HT) (v : VT) (rc26 : RT × Int32 → Option (RT)) (a26 : RT × Int32) : Option (RT) :=
  if v.1 ≤ a26.2 then (some a26.1) else ((M_X4_cellOfOne v a26.2).bind fun r42 => (M_X0_seenBy h v a26.2).bind fun r53 => (M_X8_put 4 a26.1.2.2.2.1 a26.2 r53).bind fun r56 => (M_X0_around h r42 h.2.2.2.2.2.2.2.2.2.2.2).bind fun r70 => (M_X8_put 4 a26.1.2.2.2.2.1 a26.2 r70).bind fun r73 => (M_X4_hasDog v a26.2).bind fun r86 => if r86 = 0 then (M_X6_begin_102 h v rc26 ((a26.1.1, a26.1.2.1, a26.1.2.2.1, r56, r73, a26.1.2.2.2.2.2), a26.2, (0 : Int32), a26.2)) else ((M_X0_around h r42 (1 : Int32)).bind fun r95 => M_X6_begin_102 h v rc26 ((a26.1.1, a26.1.2.1, a26.1.2.2.1, r56, r73, a26.1.2.2.2.2.2), a26.2, r95, a26.2)))
def M_X6_begin_26 (h : HT) (v : VT) : Nat → (RT × Int32) → Option (RT)
  | 0 => fun _ => none
  | k + 1 => M_X6_begin_26b h v (M_X6_begin_26 h v k)
def M_X6_begin (r : RT) (h : HT) (v : VT) : Option (RT) :=
  (M_X8_bit h.2.2.2.2.2.2.2.2.2.1).bind fun r5 => if vp_nar .boolean (0 : Int32) = (0 : Int32) then M_X6_begin_26 h v 200 ((r5, r5, (0 : Int32), r.2.2.2.1, r.2.2.2.2.1, r.2.2.2.2.2), (0 : Int32)) else none
def M_X6_take_25 (h : HT) (x2 : Int32) (a25 : RT × Int32 × Int32) : Option (Int32 × RT) :=
  if vp_nar .boolean a25.2.2 = a25.2.2 then if a25.2.1 = 0 then (some ((0 : Int32), (a25.1.1, a25.1.2.1, a25.2.2, a25.1.2.2.2.1, a25.1.2.2.2.2.1, a25.1.2.2.2.2.2))) else (some ((1 : Int32), (a25.2.1, (a25.1.2.1 ||| a25.2.1), a25.2.2, a25.1.2.2.2.1, a25.1.2.2.2.2.1, a25.1.2.2.2.2.2))) else none
def M_X6_take_24 (h : HT) (x2 : Int32) (a24 : RT × Int32) : Option (Int32 × RT) :=
  M_X6_take_25 h x2 (a24.1, a24.2, (0 : Int32))
def M_X6_take (r : RT) (h : HT) (x2 : Int32) : Option (Int32 × RT) :=
  (M_X0_stepTo h r.1 x2).bind fun r6 => if r6 = 0 then (M_X6_take_24 h x2 (r, r6)) else (if x2 = (4 : Int32) then (M_X6_take_24 h x2 (r, r6)) else (M_X6_take_25 h x2 (r, r6, (1 : Int32))))
def M_X6_reasonTo_64 (r : RT) (h : HT) (x2 : Int32) (x3 : Int32) (a64 : Unit) : Option (Int32) :=
  (M_X8_at 4 r.2.2.2.1 x2).bind fun r78 => if ((r.2.1 &&& h.2.2.2.2.2.2.2.2.1) &&& r78) = 0 then ((M_X8_at 4 r.2.2.2.2.2 x2).bind fun r96 => if (r.1 &&& r96) = 0 then (some (0 : Int32)) else (some (4 : Int32))) else (some (3 : Int32))
def M_X6_reasonTo_34 (r : RT) (h : HT) (x2 : Int32) (x3 : Int32) (a34 : Unit) : Option (Int32) :=
  if r.2.2.1 = 0 then (M_X6_reasonTo_64 r h x2 x3 ()) else ((M_X8_at 4 r.2.2.2.2.1 x2).bind fun r55 => if ((r.1 &&& h.2.2.2.2.2.2.2.1) &&& r55) = 0 then (M_X6_reasonTo_64 r h x2 x3 ()) else (some (2 : Int32)))
def M_X6_reasonTo (r : RT) (h : HT) (x2 : Int32) (x3 : Int32) : Option (Int32) :=
  if x3 = 0 then (if r.2.2.1 = 0 then (M_X6_reasonTo_34 r h x2 x3 ()) else ((M_X8_at 4 r.2.2.2.1 x2).bind fun r25 => if ((r.1 &&& h.2.2.2.2.2.2.1) &&& r25) = 0 then (M_X6_reasonTo_34 r h x2 x3 ()) else (some (1 : Int32)))) else (M_X6_reasonTo_34 r h x2 x3 ())
def M_X6_firstShownTo_2b (r : RT) (h : HT) (v : VT) (x2 : Int32) (rc2 : Int32 → Option (Int32)) (a2 : Int32) : Option (Int32) :=
  if v.1 ≤ a2 then (some (-6 : Int32)) else ((M_X6_reasonTo r h a2 x2).bind fun r17 => if r17 = 0 then (rc2 (a2 + (1 : Int32))) else (some a2))
def M_X6_firstShownTo_2 (r : RT) (h : HT) (v : VT) (x2 : Int32) : Nat → Int32 → Option (Int32)
  | 0 => fun _ => none
  | k + 1 => M_X6_firstShownTo_2b r h v x2 (M_X6_firstShownTo_2 r h v x2 k)
def M_X6_firstShownTo (r : RT) (h : HT) (v : VT) (x2 : Int32) : Option (Int32) :=
  M_X6_firstShownTo_2 r h v x2 200 (0 : Int32)
def M_X3_note_48 (h : HT) (v : VT) (r : RT) (x3 : Int32) (a48 : DT) : Option (DT) :=
  (M_X6_firstShownTo r h v (1 : Int32)).bind fun r61 => if r61 = (-6 : Int32) then (some (a48.1, a48.2.1, a48.2.2.1, a48.2.2.2.1, (a48.2.2.2.2.1 + (1 : Int32)), (a48.2.2.2.2.2.1 + (1 : Int32)), a48.2.2.2.2.2.2)) else (some (a48.1, a48.2.1, a48.2.2.1, a48.2.2.2.1, (a48.2.2.2.2.1 + (1 : Int32)), a48.2.2.2.2.2.1, a48.2.2.2.2.2.2))
def M_X3_note (d : DT) (h : HT) (v : VT) (r : RT) (x3 : Int32) : Option (DT) :=
  (M_X6_firstShownTo r h v (0 : Int32)).bind fun r3 => if r3 = (-6 : Int32) then (some d) else (if d.2.1 = (-6 : Int32) then ((M_X6_reasonTo r h r3 (0 : Int32)).bind fun r42 => M_X3_note_48 h v r x3 (d.1, x3, r3, r42, d.2.2.2.2.1, d.2.2.2.2.2.1, d.2.2.2.2.2.2)) else (M_X3_note_48 h v r x3 d))
def M_X3_follow_12b (h : HT) (v : VT) (p : PT) (rc12 : DT × RT × Int32 → Option (DT × RT)) (a12 : DT × RT × Int32) : Option (DT × RT) :=
  if p.1 ≤ a12.2.2 then ((M_X8_cellOf a12.2.1.1).bind fun r61 => some ((a12.1.1, a12.1.2.1, a12.1.2.2.1, a12.1.2.2.2.1, a12.1.2.2.2.2.1, a12.1.2.2.2.2.2.1, r61), a12.2.1)) else ((M_X2_stepAt p a12.2.2).bind fun r26 => (M_X6_take a12.2.1 h r26).bind fun r29 => if r29.1 = 0 then (some ((a12.2.2, a12.1.2.1, a12.1.2.2.1, a12.1.2.2.2.1, a12.1.2.2.2.2.1, a12.1.2.2.2.2.2.1, a12.1.2.2.2.2.2.2), r29.2)) else ((M_X3_note a12.1 h v r29.2 a12.2.2).bind fun r47 => rc12 (r47, r29.2, (a12.2.2 + (1 : Int32)))))
def M_X3_follow_12 (h : HT) (v : VT) (p : PT) : Nat → (DT × RT × Int32) → Option (DT × RT)
  | 0 => fun _ => none
  | k + 1 => M_X3_follow_12b h v p (M_X3_follow_12 h v p k)
def M_X3_follow (d : DT) (h : HT) (v : VT) (p : PT) (r : RT) : Option (DT × RT) :=
  (M_X3_forget d).bind fun r1 => (M_X6_begin r h v).bind fun r6 => M_X3_follow_12 h v p 200 (r1, r6, (0 : Int32))
def M_X4_isOne (v : VT) (x1 : Int32) : Option (Int32) :=
  if x1 < 0 then (some (0 : Int32)) else (if v.1 ≤ x1 then (some (0 : Int32)) else (some (1 : Int32)))
def M_X5_cheapestBefore_51 (y : YT) (h : HT) (x2 : Int32) (x3 : Int32) (rc7 : Int32 × Int32 → Option (Int32)) (a51 : Int32 × Int32) : Option (Int32) :=
  rc7 (a51.1, (a51.2 + (1 : Int32)))
def M_X5_cheapestBefore_7b (y : YT) (h : HT) (x2 : Int32) (x3 : Int32) (rc7 : Int32 × Int32 → Option (Int32)) (a7 : Int32 × Int32) : Option (Int32) :=
  if (4 : Int32) ≤ a7.2 then (some a7.1) else ((M_X8_bit x2).bind fun r15 => (M_X0_stepTo h r15 a7.2).bind fun r20 => if (r20 &&& x3) = 0 then (M_X5_cheapestBefore_51 y h x2 x3 rc7 (a7.1, a7.2)) else ((M_X8_cellOf (r20 &&& x3)).bind fun r40 => (M_X8_at 16 y.2 r40).bind fun r43 => M_X5_cheapestBefore_51 y h x2 x3 rc7 ((if r43 < a7.1 then r43 else a7.1), a7.2)))
def M_X5_cheapestBefore_7 (y : YT) (h : HT) (x2 : Int32) (x3 : Int32) : Nat → (Int32 × Int32) → Option (Int32)
  | 0 => fun _ => none
  | k + 1 => M_X5_cheapestBefore_7b y h x2 x3 (M_X5_cheapestBefore_7 y h x2 x3 k)
def M_X5_cheapestBefore (y : YT) (h : HT) (x2 : Int32) (x3 : Int32) : Option (Int32) :=
  M_X5_cheapestBefore_7 y h x2 x3 200 ((16 : Int32), (0 : Int32))
def M_X5_costLayer_68 (h : HT) (x2 : Int32) (x3 : Int32) (rc3 : YT × Int32 → Option (YT)) (a68 : YT × Int32) : Option (YT) :=
  rc3 (a68.1, (a68.2 + (1 : Int32)))
def M_X5_costLayer_66 (h : HT) (x2 : Int32) (x3 : Int32) (rc3 : YT × Int32 → Option (YT)) (a66 : YT × Int32 × Int32 × Int32 × Int32) : Option (YT) :=
  if vin a66.2.2.2.2 16 then M_X5_costLayer_68 h x2 x3 rc3 ((a66.1.1, (upd a66.1.2 a66.2.2.2.2.toNatClampNeg (a66.2.2.2.1 + a66.2.2.1))), a66.2.1) else none
def M_X5_costLayer_3b (h : HT) (x2 : Int32) (x3 : Int32) (rc3 : YT × Int32 → Option (YT)) (a3 : YT × Int32) : Option (YT) :=
  if (nI 16) ≤ a3.2 then (some a3.1) else ((M_X8_at 16 a3.1.1 x2).bind fun r18 => (M_X8_has r18 a3.2).bind fun r23 => if r23 = 0 then (M_X5_costLayer_68 h x2 x3 rc3 (a3.1, a3.2)) else ((M_X8_at 16 a3.1.1 (x2 - (1 : Int32))).bind fun r46 => (M_X5_cheapestBefore a3.1 h a3.2 r46).bind fun r49 => (M_X8_has x3 a3.2).bind fun r55 => if r55 = 0 then (M_X5_costLayer_66 h x2 x3 rc3 (a3.1, a3.2, (0 : Int32), r49, a3.2)) else (M_X5_costLayer_66 h x2 x3 rc3 (a3.1, a3.2, (1 : Int32), r49, a3.2))))
def M_X5_costLayer_3 (h : HT) (x2 : Int32) (x3 : Int32) : Nat → (YT × Int32) → Option (YT)
  | 0 => fun _ => none
  | k + 1 => M_X5_costLayer_3b h x2 x3 (M_X5_costLayer_3 h x2 x3 k)
def M_X5_costLayer (y : YT) (h : HT) (x2 : Int32) (x3 : Int32) : Option (YT) :=
  M_X5_costLayer_3 h x2 x3 200 (y, (0 : Int32))
def M_X5_isCut_64 (h : HT) (x2 : Int32) (a64 : Int32) : Option (Int32) :=
  (M_X8_has a64 h.2.2.2.2.2.2.2.2.2.2.1).bind fun r69 => if r69 = 0 then (some (1 : Int32)) else (some (0 : Int32))
def M_X5_isCut_20b (h : HT) (x2 : Int32) (rc20 : Int32 × Int32 × Int32 → Option (Int32)) (a20 : Int32 × Int32 × Int32) : Option (Int32) :=
  if (16 : Int32) ≤ a20.2.2 then (M_X5_isCut_64 h x2 a20.2.1) else ((M_X8_has a20.2.1 h.2.2.2.2.2.2.2.2.2.2.1).bind fun r32 => if r32 = 0 then ((M_X0_spread h a20.2.1).bind fun r40 => if (r40 &&& a20.1) = a20.2.1 then (some (1 : Int32)) else (rc20 (a20.1, (r40 &&& a20.1), (a20.2.2 + (1 : Int32))))) else (M_X5_isCut_64 h x2 a20.2.1))
def M_X5_isCut_20 (h : HT) (x2 : Int32) : Nat → (Int32 × Int32 × Int32) → Option (Int32)
  | 0 => fun _ => none
  | k + 1 => M_X5_isCut_20b h x2 (M_X5_isCut_20 h x2 k)
def M_X5_isCut (h : HT) (x2 : Int32) : Option (Int32) :=
  (M_X0_open h).bind fun r1 => (M_X8_bit h.2.2.2.2.2.2.2.2.2.1).bind fun r13 => M_X5_isCut_20 h x2 200 ((r1 &&& (x2 ^^^ (-1 : Int32))), r13, (0 : Int32))
def M_X5_firstCut_87 (self : HT → Int32 → Int32 → Int32 → Option (Int32)) (h : HT) (x2 : Int32) (x3 : Int32) (x4 : Int32) (rc50 : Int32 × Int32 → Option (Int32)) (a87 : Int32 × Int32 × Int32) : Option (Int32) :=
  if a87.2.2 = (-6 : Int32) then (rc50 (a87.1, (a87.2.1 + (1 : Int32)))) else (some a87.2.2)
def M_X5_firstCut_50b (self : HT → Int32 → Int32 → Int32 → Option (Int32)) (h : HT) (x2 : Int32) (x3 : Int32) (x4 : Int32) (rc50 : Int32 × Int32 → Option (Int32)) (a50 : Int32 × Int32) : Option (Int32) :=
  if x3 ≤ a50.2 then (some (-6 : Int32)) else ((M_X8_has a50.1 a50.2).bind fun r60 => if r60 = 0 then (M_X5_firstCut_87 self h x2 x3 x4 rc50 (a50.1, a50.2, (-6 : Int32))) else ((M_X8_bit a50.2).bind fun r70 => (self h (x2 ||| r70) a50.2 (x4 - (1 : Int32))).bind fun r79 => M_X5_firstCut_87 self h x2 x3 x4 rc50 (a50.1, a50.2, r79)))
def M_X5_firstCut_50 (self : HT → Int32 → Int32 → Int32 → Option (Int32)) (h : HT) (x2 : Int32) (x3 : Int32) (x4 : Int32) : Nat → (Int32 × Int32) → Option (Int32)
  | 0 => fun _ => none
  | k + 1 => M_X5_firstCut_50b self h x2 x3 x4 (M_X5_firstCut_50 self h x2 x3 x4 k)
def M_X5_firstCutb (self : HT → Int32 → Int32 → Int32 → Option (Int32)) (h : HT) (x2 : Int32) (x3 : Int32) (x4 : Int32) : Option (Int32) :=
  if 0 < x4 then ((M_X0_open h).bind fun r20 => (M_X8_bit h.2.2.2.2.2.2.2.2.2.1).bind fun r27 => (M_X8_bit h.2.2.2.2.2.2.2.2.2.2.1).bind fun r37 => M_X5_firstCut_50 self h x2 x3 x4 200 (((r20 &&& (r27 ^^^ (-1 : Int32))) &&& (r37 ^^^ (-1 : Int32))), (x4 - (1 : Int32)))) else ((M_X5_isCut h x2).bind fun r6 => if r6 = 0 then (some (-6 : Int32)) else (some x2))
def M_X5_firstCut : Nat → HT → Int32 → Int32 → Int32 → Option (Int32)
  | 0 => fun _ _ _ _ => none
  | k + 1 => M_X5_firstCutb (M_X5_firstCut k)
def M_X5_fewestCut_24b (h : HT) (rc24 : Int32 → Option (Int32)) (a24 : Int32) : Option (Int32) :=
  if (4 : Int32) < a24 then (some (-6 : Int32)) else ((M_X5_firstCut 6 h (0 : Int32) (16 : Int32) a24).bind fun r34 => if r34 = (-6 : Int32) then (rc24 (a24 + (1 : Int32))) else (some r34))
def M_X5_fewestCut_24 (h : HT) : Nat → Int32 → Option (Int32)
  | 0 => fun _ => none
  | k + 1 => M_X5_fewestCut_24b h (M_X5_fewestCut_24 h k)
def M_X5_fewestCut (h : HT) : Option (Int32) :=
  (M_X0_around h h.2.2.2.2.2.2.2.2.2.1 (1 : Int32)).bind fun r6 => (M_X8_has r6 h.2.2.2.2.2.2.2.2.2.2.1).bind fun r13 => if r13 = 0 then (M_X5_fewestCut_24 h 200 (0 : Int32)) else (some (-6 : Int32))
def M_X5_fewestShowingSteps_90 (h : HT) (v : VT) (x2 : Int32) (a90 : YT × Int32 × Int32) : Option (Int32 × YT) :=
  some ((a90.2.2 + a90.2.1), a90.1)
def M_X5_fewestShowingSteps_29b (h : HT) (v : VT) (x2 : Int32) (rc29 : YT × Int32 × Int32 → Option (Int32 × YT)) (a29 : YT × Int32 × Int32) : Option (Int32 × YT) :=
  if x2 < a29.2.2 then ((M_X8_at 16 a29.1.1 (x2 - (1 : Int32))).bind fun r62 => (M_X5_cheapestBefore a29.1 h h.2.2.2.2.2.2.2.2.2.2.1 r62).bind fun r65 => (M_X8_has a29.2.1 h.2.2.2.2.2.2.2.2.2.2.1).bind fun r79 => if r79 = 0 then (M_X5_fewestShowingSteps_90 h v x2 (a29.1, (0 : Int32), ((2 : Int32) * r65))) else (M_X5_fewestShowingSteps_90 h v x2 (a29.1, (1 : Int32), ((2 : Int32) * r65)))) else ((M_X5_costLayer a29.1 h a29.2.2 a29.2.1).bind fun r40 => rc29 (r40, a29.2.1, (a29.2.2 + (1 : Int32))))
def M_X5_fewestShowingSteps_29 (h : HT) (v : VT) (x2 : Int32) : Nat → (YT × Int32 × Int32) → Option (Int32 × YT)
  | 0 => fun _ => none
  | k + 1 => M_X5_fewestShowingSteps_29b h v x2 (M_X5_fewestShowingSteps_29 h v x2 k)
def M_X5_fewestShowingSteps (y : YT) (h : HT) (v : VT) (x2 : Int32) : Option (Int32 × YT) :=
  if x2 = 0 then (some ((0 : Int32), y)) else ((M_X0_open h).bind fun r7 => (M_X0_bareCells h v).bind fun r11 => (M_J7_fill_53178 16 y.2 (0 : Int32)).bind fun r23 => M_X5_fewestShowingSteps_29 h v x2 200 ((y.1, r23), (r7 &&& (r11 ^^^ (-1 : Int32))), (1 : Int32)))
def M_X5_firstStepInto_2b (h : HT) (x2 : Int32) (x3 : Int32) (rc2 : Int32 → Option (Int32)) (a2 : Int32) : Option (Int32) :=
  if (4 : Int32) ≤ a2 then (some (-6 : Int32)) else ((M_X0_stepTo h x2 a2).bind fun r10 => if (r10 &&& x3) = 0 then (rc2 (a2 + (1 : Int32))) else (some a2))
def M_X5_firstStepInto_2 (h : HT) (x2 : Int32) (x3 : Int32) : Nat → Int32 → Option (Int32)
  | 0 => fun _ => none
  | k + 1 => M_X5_firstStepInto_2b h x2 x3 (M_X5_firstStepInto_2 h x2 x3 k)
def M_X5_firstStepInto (h : HT) (x2 : Int32) (x3 : Int32) : Option (Int32) :=
  M_X5_firstStepInto_2 h x2 x3 200 (0 : Int32)
def M_X5_measure_13b (h : HT) (x2 : Int32) (x3 : Int32) (x4 : Int32) (rc13 : YT × Int32 × Int32 × Int32 → Option (Int32 × YT)) (a13 : YT × Int32 × Int32 × Int32) : Option (Int32 × YT) :=
  if (nI 16) ≤ a13.2.2.2 then (some ((-6 : Int32), a13.1)) else (if vin a13.2.2.2 16 then if (a13.2.1 &&& x2) = 0 then ((M_X0_spread h a13.2.1).bind fun r45 => rc13 (((upd a13.1.1 a13.2.2.2.toNatClampNeg a13.2.1), a13.1.2), ((r45 &&& x4) &&& (a13.2.2.1 ^^^ (-1 : Int32))), (a13.2.2.1 ||| ((r45 &&& x4) &&& (a13.2.2.1 ^^^ (-1 : Int32)))), (a13.2.2.2 + (1 : Int32)))) else (some (a13.2.2.2, ((upd a13.1.1 a13.2.2.2.toNatClampNeg a13.2.1), a13.1.2))) else none)
def M_X5_measure_13 (h : HT) (x2 : Int32) (x3 : Int32) (x4 : Int32) : Nat → (YT × Int32 × Int32 × Int32) → Option (Int32 × YT)
  | 0 => fun _ => none
  | k + 1 => M_X5_measure_13b h x2 x3 x4 (M_X5_measure_13 h x2 x3 x4 k)
def M_X5_measure (y : YT) (h : HT) (x2 : Int32) (x3 : Int32) (x4 : Int32) : Option (Int32 × YT) :=
  M_X5_measure_13 h x2 x3 x4 200 (y, (x3 &&& x4), (x3 &&& x4), (0 : Int32))
def M_X5_stepOnWay_17b (h : HT) (x2 : Int32) (x3 : Int32) (x4 : Int32) (x5 : Int32) (rc17 : YT × Int32 × Int32 × Int32 → Option (Int32 × YT)) (a17 : YT × Int32 × Int32 × Int32) : Option (Int32 × YT) :=
  if a17.2.2.1 ≤ a17.2.2.2 then (some ((-6 : Int32), a17.1)) else ((M_X8_at 16 a17.1.1 ((a17.2.2.1 - a17.2.2.2) - (1 : Int32))).bind fun r38 => (M_X5_firstStepInto h a17.2.1 r38).bind fun r41 => if a17.2.2.2 = x5 then (some (r41, a17.1)) else ((M_X0_stepOrStay h a17.2.1 r41).bind fun r61 => rc17 (a17.1, r61, a17.2.2.1, (a17.2.2.2 + (1 : Int32)))))
def M_X5_stepOnWay_17 (h : HT) (x2 : Int32) (x3 : Int32) (x4 : Int32) (x5 : Int32) : Nat → (YT × Int32 × Int32 × Int32) → Option (Int32 × YT)
  | 0 => fun _ => none
  | k + 1 => M_X5_stepOnWay_17b h x2 x3 x4 x5 (M_X5_stepOnWay_17 h x2 x3 x4 x5 k)
def M_X5_stepOnWay (y : YT) (h : HT) (x2 : Int32) (x3 : Int32) (x4 : Int32) (x5 : Int32) : Option (Int32 × YT) :=
  (M_X5_measure y h x2 x3 x4).bind fun r9 => M_X5_stepOnWay_17 h x2 x3 x4 x5 200 (r9.2, x2, r9.1, (0 : Int32))
def M_X7_begin (q : QT) (x1 : Int32) : Option (QT) :=
  (M_J7_fill_53178 16 q.1 (0 : Int32)).bind fun r5 => (M_X8_put 16 r5 x1 (1 : Int32)).bind fun r14 => some (r14, q.2)
def M_X7_waysInto_45 (q : QT) (h : HT) (x2 : Int32) (rc5 : Int32 × Int32 → Option (Int32)) (a45 : Int32 × Int32 × Int32) : Option (Int32) :=
  rc5 ((a45.2.2 + a45.2.1), (a45.1 + (1 : Int32)))
def M_X7_waysInto_5b (q : QT) (h : HT) (x2 : Int32) (rc5 : Int32 × Int32 → Option (Int32)) (a5 : Int32 × Int32) : Option (Int32) :=
  if (5 : Int32) ≤ a5.2 then (some a5.1) else ((M_X8_bit x2).bind fun r13 => (M_X0_stepTo h r13 a5.2).bind fun r18 => if r18 = 0 then (M_X7_waysInto_45 q h x2 rc5 (a5.2, (0 : Int32), a5.1)) else ((M_X8_cellOf r18).bind fun r39 => (M_X8_at 16 q.2 r39).bind fun r42 => M_X7_waysInto_45 q h x2 rc5 (a5.2, r42, a5.1)))
def M_X7_waysInto_5 (q : QT) (h : HT) (x2 : Int32) : Nat → (Int32 × Int32) → Option (Int32)
  | 0 => fun _ => none
  | k + 1 => M_X7_waysInto_5b q h x2 (M_X7_waysInto_5 q h x2 k)
def M_X7_waysInto (q : QT) (h : HT) (x2 : Int32) : Option (Int32) :=
  M_X7_waysInto_5 q h x2 200 ((0 : Int32), (0 : Int32))
def M_X7_passMinute_49 (h : HT) (x2 : Int32) (rc17 : QT × Int32 → Option (QT)) (a49 : QT × Int32 × Int32 × Int32) : Option (QT) :=
  if vin a49.2.2.2 16 then rc17 (((upd a49.1.1 a49.2.2.2.toNatClampNeg a49.2.2.1), a49.1.2), (a49.2.1 + (1 : Int32))) else none
def M_X7_passMinute_17b (h : HT) (x2 : Int32) (rc17 : QT × Int32 → Option (QT)) (a17 : QT × Int32) : Option (QT) :=
  if (nI 16) ≤ a17.2 then (some a17.1) else ((M_X8_has x2 a17.2).bind fun r33 => if r33 = 0 then (M_X7_passMinute_49 h x2 rc17 (a17.1, a17.2, (0 : Int32), a17.2)) else ((M_X7_waysInto a17.1 h a17.2).bind fun r42 => M_X7_passMinute_49 h x2 rc17 (a17.1, a17.2, r42, a17.2)))
def M_X7_passMinute_17 (h : HT) (x2 : Int32) : Nat → (QT × Int32) → Option (QT)
  | 0 => fun _ => none
  | k + 1 => M_X7_passMinute_17b h x2 (M_X7_passMinute_17 h x2 k)
def M_X7_passMinute (q : QT) (h : HT) (x2 : Int32) : Option (QT) :=
  M_X7_passMinute_17 h x2 200 ((q.1, (va_cpy q.1 q.2 (0 : Int32).toNatClampNeg (0 : Int32).toNatClampNeg (16 : Int32).toNatClampNeg)), (0 : Int32))
def M_X7_possibleCells_31 (q : QT) (rc4 : Int32 × Int32 → Option (Int32)) (a31 : Int32 × Int32 × Int32) : Option (Int32) :=
  rc4 ((a31.2.2 ||| a31.2.1), (a31.1 + (1 : Int32)))
def M_X7_possibleCells_4b (q : QT) (rc4 : Int32 × Int32 → Option (Int32)) (a4 : Int32 × Int32) : Option (Int32) :=
  if (nI 16) ≤ a4.2 then (some a4.1) else (if vin a4.2 16 then if (q.1 a4.2.toNatClampNeg) ≤ 0 then (M_X7_possibleCells_31 q rc4 (a4.2, (0 : Int32), a4.1)) else ((M_X8_bit a4.2).bind fun r24 => M_X7_possibleCells_31 q rc4 (a4.2, r24, a4.1)) else none)
def M_X7_possibleCells_4 (q : QT) : Nat → (Int32 × Int32) → Option (Int32)
  | 0 => fun _ => none
  | k + 1 => M_X7_possibleCells_4b q (M_X7_possibleCells_4 q k)
def M_X7_possibleCells (q : QT) : Option (Int32) :=
  M_X7_possibleCells_4 q 200 ((0 : Int32), (0 : Int32))
def M_X7_walks_4b (q : QT) (rc4 : Int32 × Int32 → Option (Int32)) (a4 : Int32 × Int32) : Option (Int32) :=
  if (nI 16) ≤ a4.2 then (some a4.1) else (if vin a4.2 16 then rc4 ((a4.1 + (q.1 a4.2.toNatClampNeg)), (a4.2 + (1 : Int32))) else none)
def M_X7_walks_4 (q : QT) : Nat → (Int32 × Int32) → Option (Int32)
  | 0 => fun _ => none
  | k + 1 => M_X7_walks_4b q (M_X7_walks_4 q k)
def M_X7_walks (q : QT) : Option (Int32) :=
  M_X7_walks_4 q 200 ((0 : Int32), (0 : Int32))
def M_X8_bare (h : HT) (v : VT) : Option (Int32) :=
  (M_X0_bareCells h v).bind fun r4 => some r4
def M_X8_bareWith (h : HT) (x1 : Int32) (x2 : Int32) : Option (Int32) :=
  if ¬ (4 : Int32) = 0 then if ¬ (4 : Int32) = 0 then (M_X0_spoiledFrom h (x2 / (4 : Int32)) (x2 - x2 / (4 : Int32) * (4 : Int32)) (0 : Int32)).bind fun r12 => (M_J6_bitCount_0f7a4 (x1 &&& (r12 ^^^ (-1 : Int32)))).bind fun r18 => some r18 else none else none
def M_X8_bestPost_65 (h : HT) (x1 : Int32) (rc9 : Int32 × Int32 × Int32 → Option (Int32)) (a65 : Int32 × Int32 × Int32) : Option (Int32) :=
  rc9 (a65.1, a65.2.1, (a65.2.2 + (1 : Int32)))
def M_X8_bestPost_51 (h : HT) (x1 : Int32) (rc9 : Int32 × Int32 × Int32 → Option (Int32)) (a51 : Int32 × Int32 × Int32 × Int32) : Option (Int32) :=
  if a51.2.1 ≤ a51.2.2.2 then (M_X8_bestPost_65 h x1 rc9 (a51.1, a51.2.1, a51.2.2.1)) else (M_X8_bestPost_65 h x1 rc9 (a51.2.2.1, a51.2.2.2, a51.2.2.1))
def M_X8_bestPost_9b (h : HT) (x1 : Int32) (rc9 : Int32 × Int32 × Int32 → Option (Int32)) (a9 : Int32 × Int32 × Int32) : Option (Int32) :=
  (M_X0_cells h).bind fun r16 => if ((4 : Int32) * r16) ≤ a9.2.2 then (some a9.1) else (if ¬ (4 : Int32) = 0 then (M_X8_has h.2.2.2.2.2.1 (a9.2.2 / (4 : Int32))).bind fun r34 => if r34 = 0 then ((M_X8_bareWith h x1 a9.2.2).bind fun r48 => M_X8_bestPost_51 h x1 rc9 (a9.1, a9.2.1, a9.2.2, r48)) else (M_X8_bestPost_51 h x1 rc9 (a9.1, a9.2.1, a9.2.2, a9.2.1)) else none)
def M_X8_bestPost_9 (h : HT) (x1 : Int32) : Nat → (Int32 × Int32 × Int32) → Option (Int32)
  | 0 => fun _ => none
  | k + 1 => M_X8_bestPost_9b h x1 (M_X8_bestPost_9 h x1 k)
def M_X8_bestPost (h : HT) (x1 : Int32) : Option (Int32) :=
  M_X8_bestPost_9 h x1 200 ((-6 : Int32), (17 : Int32), (0 : Int32))
def M_X8_build (p : PT) (h : HT) (v : VT) : Option (Int32 × PT × HT × VT) :=
  (M_X0_cells h).bind fun r8 => (M_X2_houseFault p r8).bind fun r11 => if r11 = (-6 : Int32) then ((M_X2_isAll p (35 : Int32)).bind fun r28 => if r28 = 0 then ((M_X0_furnish h v p).bind fun r45 => (M_X2_clear p).bind fun r52 => (M_X0_open r45.1).bind fun r60 => (M_J6_bitCount_0f7a4 r60).bind fun r63 => some (r63, r52.2, r45.1, r45.2)) else (some ((-3 : Int32), p, h, v))) else (some ((-5 : Int32), p, h, v))
def M_X8_cell (h : HT) (x1 : Int32) : Option (Int32) :=
  (M_X0_isCell h x1).bind fun r5 => if r5 = 0 then (some (-1 : Int32)) else ((M_X0_signOf h x1).bind fun r16 => some r16)
def M_X8_dismiss (v : VT) : Option (Int32 × VT) :=
  (M_X4_clear v).bind fun r7 => some (r7.1, r7.2)
def M_X8_within (x1 : Int32) (x2 : Int32) (x3 : Int32) : Option (Int32) :=
  if x1 < x2 then (some (0 : Int32)) else (if x3 < x1 then (some (0 : Int32)) else (some (1 : Int32)))
def M_X8_ears (h : HT) (x1 : Int32) : Option (Int32 × HT) :=
  (M_X8_within x1 (0 : Int32) (6 : Int32)).bind fun r4 => if r4 = 0 then (some ((-2 : Int32), h)) else (some (h.2.2.2.2.2.2.2.2.2.2.2, (h.1, h.2.1, h.2.2.1, h.2.2.2.1, h.2.2.2.2.1, h.2.2.2.2.2.1, h.2.2.2.2.2.2.1, h.2.2.2.2.2.2.2.1, h.2.2.2.2.2.2.2.2.1, h.2.2.2.2.2.2.2.2.2.1, h.2.2.2.2.2.2.2.2.2.2.1, x1)))
def M_X8_fault (p : PT) (h : HT) (x1 : Int32) : Option (Int32) :=
  if x1 = 0 then ((M_X0_cells h).bind fun r12 => (M_X2_houseFault p r12).bind fun r15 => some r15) else (if x1 = (1 : Int32) then ((M_X2_walkFault p).bind fun r28 => some r28) else (some (-2 : Int32)))
def M_X8_stepTold_7b (x1 : Int32) (x2 : Int32) (x3 : Int32) (rc7 : Int32 × Int32 → Option (Int32)) (a7 : Int32 × Int32) : Option (Int32) :=
  if a7.2 ≤ x3 then (if ¬ (5 : Int32) = 0 then some (a7.1 - a7.1 / (5 : Int32) * (5 : Int32)) else none) else (if ¬ (5 : Int32) = 0 then rc7 ((a7.1 / (5 : Int32)), (a7.2 + (-1 : Int32))) else none)
def M_X8_stepTold_7 (x1 : Int32) (x2 : Int32) (x3 : Int32) : Nat → (Int32 × Int32) → Option (Int32)
  | 0 => fun _ => none
  | k + 1 => M_X8_stepTold_7b x1 x2 x3 (M_X8_stepTold_7 x1 x2 x3 k)
def M_X8_stepTold (x1 : Int32) (x2 : Int32) (x3 : Int32) : Option (Int32) :=
  M_X8_stepTold_7 x1 x2 x3 200 (x1, (x2 - (1 : Int32)))
def M_X8_firstMeeting_106 (p : PT) (h : HT) (x1 : Int32) (x2 : Int32) (rc39 : Int32 × Int32 × Int32 × Int32 → Option (Int32)) (a106 : Int32 × Int32 × Int32 × Int32) : Option (Int32) :=
  rc39 (a106.2.2.1, a106.2.2.2, a106.1, (a106.2.1 + (1 : Int32)))
def M_X8_firstMeeting_39b (p : PT) (h : HT) (x1 : Int32) (x2 : Int32) (rc39 : Int32 × Int32 × Int32 × Int32 → Option (Int32)) (a39 : Int32 × Int32 × Int32 × Int32) : Option (Int32) :=
  if a39.2.2.1 ≤ a39.2.2.2 then (some (-6 : Int32)) else ((M_X2_stepAt p a39.2.2.2).bind fun r57 => (M_X0_stepOrStay h a39.1 r57).bind fun r60 => (M_X8_stepTold x1 x2 a39.2.2.2).bind fun r75 => (M_X0_stepOrStay h a39.2.1 r75).bind fun r78 => if r60 = r78 then (some a39.2.2.2) else (if r60 = a39.2.1 then (if r78 = a39.1 then (some a39.2.2.2) else (M_X8_firstMeeting_106 p h x1 x2 rc39 (a39.2.2.1, a39.2.2.2, r60, r78))) else (M_X8_firstMeeting_106 p h x1 x2 rc39 (a39.2.2.1, a39.2.2.2, r60, r78))))
def M_X8_firstMeeting_39 (p : PT) (h : HT) (x1 : Int32) (x2 : Int32) : Nat → (Int32 × Int32 × Int32 × Int32) → Option (Int32)
  | 0 => fun _ => none
  | k + 1 => M_X8_firstMeeting_39b p h x1 x2 (M_X8_firstMeeting_39 p h x1 x2 k)
def M_X8_firstMeeting (p : PT) (h : HT) (x1 : Int32) (x2 : Int32) : Option (Int32) :=
  (M_X8_bit h.2.2.2.2.2.2.2.2.2.1).bind fun r7 => (M_X8_bit h.2.2.2.2.2.2.2.2.2.2.1).bind fun r18 => M_X8_firstMeeting_39 p h x1 x2 200 (r7, r18, (if p.1 < x2 then p.1 else x2), (0 : Int32))
def M_X8_flour (h : HT) (x1 : Int32) : Option (Int32) :=
  (M_X8_within x1 (0 : Int32) (1 : Int32)).bind fun r3 => if r3 = 0 then (some (-2 : Int32)) else ((M_X5_fewestCut h).bind fun r20 => if r20 = (-6 : Int32) then (some (-6 : Int32)) else (if x1 = 0 then ((M_J6_bitCount_0f7a4 r20).bind fun r38 => some r38) else (some r20)))
def M_X8_followWalk (p : PT) (h : HT) (v : VT) (r : RT) (d : DT) : Option (Int32 × RT × DT) :=
  (M_X2_walkFault p).bind fun r4 => if r4 = (-6 : Int32) then ((M_X3_follow d h v p r).bind fun r31 => if r31.1.1 = (-6 : Int32) then (some ((0 : Int32), r31.2, r31.1)) else (some ((-3 : Int32), r31.2, r31.1))) else (some ((-5 : Int32), r, d))
def M_X8_house (h : HT) (v : VT) (x1 : Int32) (x2 : Int32) : Option (Int32 × HT × VT) :=
  (M_X8_within x1 (1 : Int32) (4 : Int32)).bind fun r3 => if r3 = 0 then (some ((-2 : Int32), h, v)) else ((M_X8_within x2 (1 : Int32) (4 : Int32)).bind fun r12 => if r12 = 0 then (some ((-2 : Int32), h, v)) else ((M_X0_layOut h v x1 x2).bind fun r27 => (M_X0_cells r27.1).bind fun r34 => some (r34, r27.1, r27.2)))
def M_X8_image0 (h : HT) (v : VT) (k1 : Int32) (h1 : HT) (v1 : VT) (k2 : Int32) (h2 : HT) (v2 : VT) (x1 : Int32) : Option (Int32 × Int32 × HT × VT × Int32 × HT × VT) :=
  (M_X8_within x1 (0 : Int32) (1 : Int32)).bind fun r3 => if r3 = 0 then (some ((-2 : Int32), k1, h1, v1, k2, h2, v2)) else ((M_X0_copyFrom h1 v1 h v).bind fun r26 => if vp_nar .boolean (1 : Int32) = (1 : Int32) then some ((1 : Int32), (1 : Int32), r26.1, r26.2, k2, h2, v2) else none)
def M_X8_image1 (h : HT) (v : VT) (k1 : Int32) (h1 : HT) (v1 : VT) (k2 : Int32) (h2 : HT) (v2 : VT) (x1 : Int32) : Option (Int32 × Int32 × HT × VT × Int32 × HT × VT) :=
  (M_X8_within x1 (0 : Int32) (1 : Int32)).bind fun r3 => if r3 = 0 then (some ((-2 : Int32), k1, h1, v1, k2, h2, v2)) else ((M_X0_copyFrom h2 v2 h v).bind fun r26 => if vp_nar .boolean (1 : Int32) = (1 : Int32) then some ((1 : Int32), k1, h1, v1, (1 : Int32), r26.1, r26.2) else none)
def M_X8_judge (p : PT) (h : HT) (v : VT) (r : RT) (d : DT) (x1 : Int32) : Option (Int32 × RT × DT) :=
  (M_X8_within x1 (0 : Int32) (5 : Int32)).bind fun r3 => if r3 = 0 then (some ((-2 : Int32), r, d)) else ((M_X8_followWalk p h v r d).bind fun r13 => if r13.1 = (-5 : Int32) then (some ((-5 : Int32), r13.2.1, r13.2.2)) else (if x1 = 0 then (some (r13.2.2.1, r13.2.1, r13.2.2)) else (if r13.1 = (-3 : Int32) then (some ((-3 : Int32), r13.2.1, r13.2.2)) else ((M_X3_answer r13.2.2 x1).bind fun r54 => some (r54, r13.2.1, r13.2.2)))))
def M_X8_least (h : HT) (v : VT) (y : YT) (x1 : Int32) : Option (Int32 × YT) :=
  (M_X8_within x1 (0 : Int32) (1 : Int32)).bind fun r3 => if r3 = 0 then (some ((-2 : Int32), y)) else ((M_X8_bit h.2.2.2.2.2.2.2.2.2.2.1).bind fun r27 => (M_X8_bit h.2.2.2.2.2.2.2.2.2.1).bind fun r37 => (M_X0_open h).bind fun r44 => (M_X5_measure y h r27 r37 r44).bind fun r47 => if r47.1 = (-6 : Int32) then (some ((-6 : Int32), r47.2)) else (if x1 = (1 : Int32) then (some (((2 : Int32) * r47.1), r47.2)) else ((M_X5_fewestShowingSteps r47.2 h v r47.1).bind fun r80 => some (r80.1, r80.2))))
def M_X8_longPower_5b (x1 : Int32) (x2 : Int32) (rc5 : Int64 × Int32 → Option (Int64)) (a5 : Int64 × Int32) : Option (Int64) :=
  if x2 ≤ a5.2 then (some a5.1) else (rc5 ((a5.1 * x1.toInt64), (a5.2 + (1 : Int32))))
def M_X8_longPower_5 (x1 : Int32) (x2 : Int32) : Nat → (Int64 × Int32) → Option (Int64)
  | 0 => fun _ => none
  | k + 1 => M_X8_longPower_5b x1 x2 (M_X8_longPower_5 x1 x2 k)
def M_X8_longPower (x1 : Int32) (x2 : Int32) : Option (Int64) :=
  M_X8_longPower_5 x1 x2 200 ((1 : Int64), (0 : Int32))
def M_X8_power (x1 : Int32) (x2 : Int32) : Option (Int32) :=
  (M_X8_longPower x1 x2).bind fun r2 => some r2.toInt32
def M_X8_meet (p : PT) (h : HT) (v : VT) (r : RT) (d : DT) (x1 : Int32) (x2 : Int32) : Option (Int32 × RT × DT) :=
  (M_X8_within x2 (0 : Int32) (8 : Int32)).bind fun r4 => if r4 = 0 then (some ((-2 : Int32), r, d)) else ((M_X8_power (5 : Int32) x2).bind fun r14 => (M_X8_within x1 (0 : Int32) (r14 - (1 : Int32))).bind fun r19 => if r19 = 0 then (some ((-2 : Int32), r, d)) else ((M_X8_followWalk p h v r d).bind fun r29 => if r29.1 = 0 then ((M_X8_firstMeeting p h x1 x2).bind fun r40 => some (r40, r29.2.1, r29.2.2)) else (some (r29.1, r29.2.1, r29.2.2))))
def M_X8_night_109 (h : HT) (v : VT) (x1 : Int32) (x2 : Int32) (x3 : Int32) (rc53 : RT × Int32 × Int32 × Int32 → Option (Int32 × RT)) (a109 : RT × Int32 × Int32 × Int32) : Option (Int32 × RT) :=
  rc53 (a109.1, a109.2.1, a109.2.2.1, (a109.2.2.2 + (1 : Int32)))
def M_X8_night_53b (h : HT) (v : VT) (x1 : Int32) (x2 : Int32) (x3 : Int32) (rc53 : RT × Int32 × Int32 × Int32 → Option (Int32 × RT)) (a53 : RT × Int32 × Int32 × Int32) : Option (Int32 × RT) :=
  if x2 ≤ a53.2.2.2 then (if x3 = 0 then (some (a53.2.2.1, a53.1)) else (if x3 = (1 : Int32) then ((M_X8_cellOf a53.1.1).bind fun r134 => some (r134, a53.1)) else ((M_J6_bitCount_0f7a4 a53.1.2.1).bind fun r147 => some (r147, a53.1)))) else (if ¬ (65537 : Int32) = 0 then if ¬ (5 : Int32) = 0 then (M_X6_take a53.1 h (((((75 : Int32) * a53.2.1) + (74 : Int32)) - (((75 : Int32) * a53.2.1) + (74 : Int32)) / (65537 : Int32) * (65537 : Int32)) - ((((75 : Int32) * a53.2.1) + (74 : Int32)) - (((75 : Int32) * a53.2.1) + (74 : Int32)) / (65537 : Int32) * (65537 : Int32)) / (5 : Int32) * (5 : Int32))).bind fun r85 => (M_X6_firstShownTo r85.2 h v (0 : Int32)).bind fun r98 => if r98 = (-6 : Int32) then (M_X8_night_109 h v x1 x2 x3 rc53 (r85.2, ((((75 : Int32) * a53.2.1) + (74 : Int32)) - (((75 : Int32) * a53.2.1) + (74 : Int32)) / (65537 : Int32) * (65537 : Int32)), a53.2.2.1, a53.2.2.2)) else (M_X8_night_109 h v x1 x2 x3 rc53 (r85.2, ((((75 : Int32) * a53.2.1) + (74 : Int32)) - (((75 : Int32) * a53.2.1) + (74 : Int32)) / (65537 : Int32) * (65537 : Int32)), (a53.2.2.1 + (1 : Int32)), a53.2.2.2)) else none else none)
def M_X8_night_53 (h : HT) (v : VT) (x1 : Int32) (x2 : Int32) (x3 : Int32) : Nat → (RT × Int32 × Int32 × Int32) → Option (Int32 × RT)
  | 0 => fun _ => none
  | k + 1 => M_X8_night_53b h v x1 x2 x3 (M_X8_night_53 h v x1 x2 x3 k)
def M_X8_night (h : HT) (v : VT) (r : RT) (x1 : Int32) (x2 : Int32) (x3 : Int32) : Option (Int32 × RT) :=
  (M_X8_within x1 (0 : Int32) (9999 : Int32)).bind fun r5 => if r5 = 0 then (some ((-2 : Int32), r)) else ((M_X8_within x2 (0 : Int32) (99 : Int32)).bind fun r15 => if r15 = 0 then (some ((-2 : Int32), r)) else ((M_X8_within x3 (0 : Int32) (2 : Int32)).bind fun r24 => if r24 = 0 then (some ((-2 : Int32), r)) else ((M_X6_begin r h v).bind fun r47 => M_X8_night_53 h v x1 x2 x3 200 (r47, x1, (0 : Int32), (0 : Int32)))))
def M_X8_place (h : HT) (x1 : Int32) (x2 : Int32) : Option (Int32 × HT) :=
  (M_X0_isCell h x2).bind fun r5 => if r5 = 0 then (some ((-1 : Int32), h)) else ((M_X8_within x1 (0 : Int32) (1 : Int32)).bind fun r16 => if r16 = 0 then (some ((-2 : Int32), h)) else ((M_X8_has h.2.2.2.2.2.1 x2).bind fun r33 => if r33 = 0 then (if x1 = 0 then ((M_X0_moveDoor h x2).bind fun r51 => some (r51.1, r51.2)) else ((M_X0_moveThing h x2).bind fun r62 => some (r62.1, r62.2))) else (some ((-3 : Int32), h))))
def M_X8_post (h : HT) (v : VT) (x1 : Int32) : Option (Int32) :=
  (M_X8_within x1 (0 : Int32) (1 : Int32)).bind fun r3 => if r3 = 0 then (some (-2 : Int32)) else ((M_X4_isFull v).bind fun r19 => if r19 = 0 then ((M_X0_bareCells h v).bind fun r32 => (M_X8_bestPost h r32).bind fun r38 => if x1 = 0 then (some r38) else ((M_X8_bareWith h r32 r38).bind fun r53 => some r53)) else (some (-4 : Int32)))
def M_X8_powerOfTenths_35 (x1 : Int32) (x2 : Int32) (x3 : Int32) (a35 : Int32) : Option (Int64) :=
  (M_X8_longPower a35 x2).bind fun r36 => some r36
def M_X8_powerOfTenths_56 (x1 : Int32) (x2 : Int32) (x3 : Int32) (a56 : Int32) : Option (Int64) :=
  (M_X8_longPower a56 x2).bind fun r57 => some r57
def M_X8_powerOfTenths_40 (x1 : Int32) (x2 : Int32) (x3 : Int32) (rc3 : Int32 → Option (Int64)) (a40 : Int32) : Option (Int64) :=
  rc3 (a40 + (-1 : Int32))
def M_X8_powerOfTenths_3b (x1 : Int32) (x2 : Int32) (x3 : Int32) (rc3 : Int32 → Option (Int64)) (a3 : Int32) : Option (Int64) :=
  if a3 ≤ (1 : Int32) then (if x3 = 0 then (M_X8_powerOfTenths_56 x1 x2 x3 x1) else (M_X8_powerOfTenths_56 x1 x2 x3 (10 : Int32))) else (if ¬ a3 = 0 then if (x1 - x1 / a3 * a3) = 0 then (if ¬ a3 = 0 then if ((10 : Int32) - (10 : Int32) / a3 * a3) = 0 then (if x3 = 0 then (if ¬ a3 = 0 then M_X8_powerOfTenths_35 x1 x2 x3 (x1 / a3) else none) else (if ¬ a3 = 0 then M_X8_powerOfTenths_35 x1 x2 x3 ((10 : Int32) / a3) else none)) else (M_X8_powerOfTenths_40 x1 x2 x3 rc3 a3) else none) else (M_X8_powerOfTenths_40 x1 x2 x3 rc3 a3) else none)
def M_X8_powerOfTenths_3 (x1 : Int32) (x2 : Int32) (x3 : Int32) : Nat → Int32 → Option (Int64)
  | 0 => fun _ => none
  | k + 1 => M_X8_powerOfTenths_3b x1 x2 x3 (M_X8_powerOfTenths_3 x1 x2 x3 k)
def M_X8_powerOfTenths (x1 : Int32) (x2 : Int32) (x3 : Int32) : Option (Int64) :=
  M_X8_powerOfTenths_3 x1 x2 x3 200 (10 : Int32)
def M_X8_restore0 (h : HT) (v : VT) (k1 : Int32) (h1 : HT) (v1 : VT) (k2 : Int32) (h2 : HT) (v2 : VT) (x1 : Int32) : Option (Int32 × HT × VT) :=
  (M_X8_within x1 (0 : Int32) (1 : Int32)).bind fun r3 => if r3 = 0 then (some ((-2 : Int32), h, v)) else (if k1 = 0 then (some ((-3 : Int32), h, v)) else ((M_X0_copyFrom h v h1 v1).bind fun r36 => some ((1 : Int32), r36.1, r36.2)))
def M_X8_restore1 (h : HT) (v : VT) (k1 : Int32) (h1 : HT) (v1 : VT) (k2 : Int32) (h2 : HT) (v2 : VT) (x1 : Int32) : Option (Int32 × HT × VT) :=
  (M_X8_within x1 (0 : Int32) (1 : Int32)).bind fun r3 => if r3 = 0 then (some ((-2 : Int32), h, v)) else (if k2 = 0 then (some ((-3 : Int32), h, v)) else ((M_X0_copyFrom h v h2 v2).bind fun r36 => some ((1 : Int32), r36.1, r36.2)))
def M_X8_image (h : HT) (v : VT) (k1 : Int32) (h1 : HT) (v1 : VT) (k2 : Int32) (h2 : HT) (v2 : VT) (x1 : Int32) : Option (Int32 × Int32 × HT × VT × Int32 × HT × VT) := if x1 = 0 then M_X8_image0 h v k1 h1 v1 k2 h2 v2 x1 else M_X8_image1 h v k1 h1 v1 k2 h2 v2 x1
def M_X8_restore (h : HT) (v : VT) (k1 : Int32) (h1 : HT) (v1 : VT) (k2 : Int32) (h2 : HT) (v2 : VT) (x1 : Int32) : Option (Int32 × HT × VT) := if x1 = 0 then M_X8_restore0 h v k1 h1 v1 k2 h2 v2 x1 else M_X8_restore1 h v k1 h1 v1 k2 h2 v2 x1
def M_X8_signOfStep (x1 : Int32) : Option (Int32) :=
  (M_J0_length_8abf5 1).bind fun r5 => (M_X8_within x1 (0 : Int32) (r5 - (1 : Int32))).bind fun r10 => if r10 = 0 then (some (-6 : Int32)) else ((M_J0_charAt_5068e 1 x1).bind fun r20 => some r20)
def M_X8_safe_129 (h : HT) (v : VT) (x1 : Int32) (a129 : YT × Int32) : Option (Int32 × YT) :=
  (M_X8_signOfStep a129.2).bind fun r133 => some (r133, a129.1)
def M_X8_safe (h : HT) (v : VT) (y : YT) (x1 : Int32) : Option (Int32 × YT) :=
  (M_X8_bit h.2.2.2.2.2.2.2.2.2.1).bind fun r7 => (M_X8_bit h.2.2.2.2.2.2.2.2.2.2.1).bind fun r18 => (M_X0_bareCells h v).bind fun r26 => (M_X5_measure y h r7 r18 (r26 ||| r7)).bind fun r45 => if r45.1 = (-6 : Int32) then (some ((-6 : Int32), r45.2)) else (if x1 = (-1 : Int32) then (some (((2 : Int32) * r45.1), r45.2)) else (if x1 < 0 then (some ((-6 : Int32), r45.2)) else (if x1 < ((2 : Int32) * r45.1) then (if r45.1 ≤ x1 then ((M_X5_stepOnWay r45.2 h r18 r7 (r26 ||| r7) (x1 - r45.1)).bind fun r126 => M_X8_safe_129 h v x1 (r126.2, r126.1)) else ((M_X5_stepOnWay r45.2 h r7 r18 (r26 ||| r7) x1).bind fun r104 => M_X8_safe_129 h v x1 (r104.2, r104.1))) else (some ((-6 : Int32), r45.2)))))
def M_X8_say (p : PT) (x1 : Int32) : Option (Int32 × PT) :=
  (M_X8_within x1 (33 : Int32) (126 : Int32)).bind fun r5 => if r5 = 0 then (some ((-2 : Int32), p)) else ((M_X2_add p ((x1.toUInt32 % 65536).toInt32)).bind fun r20 => if r20.1 = 0 then (some ((-4 : Int32), r20.2)) else (some (r20.2.1, r20.2)))
def M_X8_sees (h : HT) (v : VT) (x1 : Int32) : Option (Int32) :=
  (M_X4_isOne v x1).bind fun r8 => if r8 = 0 then (some (-1 : Int32)) else ((M_X0_seenBy h v x1).bind fun r19 => some r19)
def M_X8_toldOfWatcher (v : VT) (x1 : Int32) (x2 : Int32) : Option (Int32) :=
  (M_X4_isOne v x1).bind fun r8 => if r8 = 0 then (some (-2 : Int32)) else (if x2 = (0 : Int32) then ((M_X4_cellOfOne v x1).bind fun r52 => some r52) else (if x2 = (1 : Int32) then ((M_X4_lookingOf v x1).bind fun r64 => some r64) else (if x2 = (2 : Int32) then ((M_X4_hasDog v x1).bind fun r76 => if r76 = 0 then (some (0 : Int32)) else (some (1 : Int32))) else (some (-2 : Int32)))))
def M_X8_told (p : PT) (h : HT) (v : VT) (x1 : Int32) : Option (Int32) :=
  if x1 = (0 : Int32) then (some p.1) else (if x1 = (1 : Int32) then (some h.1) else (if x1 = (2 : Int32) then (some h.2.1) else (if x1 = (3 : Int32) then (some h.2.2.2.2.2.2.2.2.2.1) else (if x1 = (4 : Int32) then (some h.2.2.2.2.2.2.2.2.2.2.1) else (if x1 = (5 : Int32) then (some v.1) else (if x1 = (6 : Int32) then (some h.2.2.2.2.2.2.2.2.2.2.2) else (if (10 : Int32) ≤ x1 then (if ¬ (10 : Int32) = 0 then if ¬ (10 : Int32) = 0 then (M_X8_toldOfWatcher v ((x1 / (10 : Int32)) - (1 : Int32)) (x1 - x1 / (10 : Int32) * (10 : Int32))).bind fun r125 => some r125 else none else none) else (some (-2 : Int32)))))))))
def M_X8_watch (h : HT) (v : VT) (x1 : Int32) (x2 : Int32) (x3 : Int32) : Option (Int32 × VT) :=
  (M_X0_isCell h x1).bind fun r5 => if r5 = 0 then (some ((-1 : Int32), v)) else ((M_X8_within x2 (0 : Int32) (3 : Int32)).bind fun r16 => if r16 = 0 then (some ((-2 : Int32), v)) else ((M_X8_has h.2.2.2.2.2.1 x1).bind fun r33 => if r33 = 0 then ((M_X4_add v x1 x2 x3).bind fun r52 => if r52.1 = 0 then (some ((-4 : Int32), r52.2)) else (some (r52.2.1, r52.2))) else (some ((-3 : Int32), v))))
def M_X8_where_103 (h : HT) (v : VT) (x1 : Int32) (x2 : Int32) (x3 : Int32) (rc63 : QT × Int32 × Int32 → Option (Int32 × QT)) (a103 : QT × Int32 × Int32 × Int32) : Option (Int32 × QT) :=
  (M_X7_passMinute a103.1 h a103.2.2.2).bind fun r103 => rc63 (r103, a103.2.1, (a103.2.2.1 + (1 : Int32)))
def M_X8_where_63b (h : HT) (v : VT) (x1 : Int32) (x2 : Int32) (x3 : Int32) (rc63 : QT × Int32 × Int32 → Option (Int32 × QT)) (a63 : QT × Int32 × Int32) : Option (Int32 × QT) :=
  if x2 ≤ a63.2.2 then (if x3 = 0 then ((M_X7_possibleCells a63.1).bind fun r120 => some (r120, a63.1)) else ((M_X7_walks a63.1).bind fun r130 => some (r130, a63.1))) else ((M_X8_has x1 a63.2.2).bind fun r80 => if r80 = 0 then (M_X8_where_103 h v x1 x2 x3 rc63 (a63.1, a63.2.1, a63.2.2, a63.2.1)) else ((M_X0_open h).bind fun r90 => M_X8_where_103 h v x1 x2 x3 rc63 (a63.1, a63.2.1, a63.2.2, (r90 &&& (a63.2.1 ^^^ (-1 : Int32))))))
def M_X8_where_63 (h : HT) (v : VT) (x1 : Int32) (x2 : Int32) (x3 : Int32) : Nat → (QT × Int32 × Int32) → Option (Int32 × QT)
  | 0 => fun _ => none
  | k + 1 => M_X8_where_63b h v x1 x2 x3 (M_X8_where_63 h v x1 x2 x3 k)
def M_X8_where (h : HT) (v : VT) (q : QT) (x1 : Int32) (x2 : Int32) (x3 : Int32) : Option (Int32 × QT) :=
  (M_X8_within x2 (0 : Int32) (8 : Int32)).bind fun r4 => if r4 = 0 then (some ((-2 : Int32), q)) else ((M_X8_power (2 : Int32) x2).bind fun r14 => (M_X8_within x1 (0 : Int32) (r14 - (1 : Int32))).bind fun r19 => if r19 = 0 then (some ((-2 : Int32), q)) else ((M_X8_within x3 (0 : Int32) (1 : Int32)).bind fun r28 => if r28 = 0 then (some ((-2 : Int32), q)) else ((M_X0_bareCells h v).bind fun r41 => (M_X7_begin q h.2.2.2.2.2.2.2.2.2.1).bind fun r57 => M_X8_where_63 h v x1 x2 x3 200 (r57, r41, (0 : Int32)))))
def M_X8_wind_19 (p : PT) (h : HT) (v : VT) (x1 : Int32) (x2 : Int32) (a19 : RT × DT) : Option (Int64 × RT × DT) :=
  some ((-1000000000000000002 : Int64), a19.1, a19.2)
def M_X8_wind (p : PT) (h : HT) (v : VT) (r : RT) (d : DT) (x1 : Int32) (x2 : Int32) : Option (Int64 × RT × DT) :=
  (M_X8_within x1 (0 : Int32) (10 : Int32)).bind fun r4 => if r4 = 0 then (M_X8_wind_19 p h v x1 x2 (r, d)) else ((M_X8_within x2 (0 : Int32) (1 : Int32)).bind fun r13 => if r13 = 0 then (M_X8_wind_19 p h v x1 x2 (r, d)) else ((M_X8_followWalk p h v r d).bind fun r24 => if r24.1 = 0 then (if r24.2.2.2.2.2.2.2.1 ≤ (12 : Int32) then (if r24.2.2.2.2.2.2.1 ≤ r24.2.2.2.2.2.2.2.1 then ((M_X8_powerOfTenths x1 r24.2.2.2.2.2.2.2.1 x2).bind fun r91 => some (r91, r24.2.1, r24.2.2)) else (if x2 = 0 then (some ((0 : Int64), r24.2.1, r24.2.2)) else (some ((1 : Int64), r24.2.1, r24.2.2)))) else (some ((-1000000000000000004 : Int64), r24.2.1, r24.2.2))) else (some (((-1000000000000000000 : Int64) + r24.1.toInt64), r24.2.1, r24.2.2))))
def M_X8_wipe (p : PT) : Option (Int32 × PT) :=
  (M_X2_clear p).bind fun r4 => some (r4.1, r4.2)
def M_X9_apart_52 (mb : BT) (x1 : Int32) (x2 : Int32) (a52 : Int32 × Int32) : Option (Int32) :=
  some (a52.2 + a52.1)
def M_X9_apart_39 (mb : BT) (x1 : Int32) (x2 : Int32) (a39 : Int32 × Int32) : Option (Int32) :=
  if 0 ≤ a39.1 then (M_X9_apart_52 mb x1 x2 (a39.1, a39.2)) else (M_X9_apart_52 mb x1 x2 ((-a39.1), a39.2))
def M_X9_apart (mb : BT) (x1 : Int32) (x2 : Int32) : Option (Int32) :=
  if ¬ mb.2.1 = 0 then if ¬ mb.2.1 = 0 then if ¬ mb.2.1 = 0 then if ¬ mb.2.1 = 0 then if 0 ≤ ((x1 / mb.2.1) - (x2 / mb.2.1)) then (M_X9_apart_39 mb x1 x2 (((x1 - x1 / mb.2.1 * mb.2.1) - (x2 - x2 / mb.2.1 * mb.2.1)), ((x1 / mb.2.1) - (x2 / mb.2.1)))) else (M_X9_apart_39 mb x1 x2 (((x1 - x1 / mb.2.1 * mb.2.1) - (x2 - x2 / mb.2.1 * mb.2.1)), (-((x1 / mb.2.1) - (x2 / mb.2.1))))) else none else none else none else none
def M_X9_arrive_40 (mb : BT) (x1 : Int32) (a40 : NT × Int32 × Int32) : Option (NT) :=
  some (a40.1.1, a40.1.2.1, (a40.2.2 ||| a40.2.1), a40.1.2.2.2)
def M_X9_arrive (mb : BT) (mn : NT) (x1 : Int32) : Option (NT) :=
  if vin x1 16 then if (mb.2.2.2.2.2.2.1 x1.toNatClampNeg) = (100 : Int32) then (M_X9_arrive_40 mb x1 ((x1, mn.2.1, mn.2.2.1, (mn.2.2.2 ||| ((1 : Int32) <<< (x1 &&& 31)))), ((1 : Int32) <<< (x1 &&& 31)), mn.2.2.1)) else (M_X9_arrive_40 mb x1 ((x1, mn.2.1, mn.2.2.1, (mn.2.2.2 ||| ((1 : Int32) <<< (x1 &&& 31)))), (0 : Int32), mn.2.2.1)) else none
def M_X9_cells (mb : BT) : Option (Int32) :=
  some (mb.1 * mb.2.1)
def M_X9_isWall (mb : BT) (x1 : Int32) : Option (Int32) :=
  if vin x1 16 then if (mb.2.2.2.2.2.2.1 x1.toNatClampNeg) = (35 : Int32) then (some (1 : Int32)) else (some (0 : Int32)) else none
def M_X9_in (x1 : Int64) (x2 : Int64) (x3 : Int64) : Option (Int32) :=
  if (lg_cmp x1 x2) < 0 then (some (0 : Int32)) else (if 0 < (lg_cmp x1 x3) then (some (0 : Int32)) else (some (1 : Int32)))
def M_X9_beyond_92 (mb : BT) (x1 : Int32) (x2 : Int32) (a92 : Int32 × Int32 × Int32) : Option (Int32) :=
  if a92.2.2 = 0 then (some (-6 : Int32)) else ((M_X9_isWall mb ((a92.1 * mb.2.1) + a92.2.1)).bind fun r109 => if r109 = 0 then (some ((a92.1 * mb.2.1) + a92.2.1)) else (some (-6 : Int32)))
def M_X9_beyond_91 (mb : BT) (x1 : Int32) (x2 : Int32) (a91 : Int32 × Int32) : Option (Int32) :=
  M_X9_beyond_92 mb x1 x2 (a91.1, a91.2, (0 : Int32))
def M_X9_beyond_51 (mb : BT) (x1 : Int32) (x2 : Int32) (a51 : Int32 × Int32 × Int32) : Option (Int32) :=
  (M_X9_in a51.1.toInt64 (0 : Int64) ((mb.1 - (1 : Int32)).toInt64)).bind fun r64 => if r64 = 0 then (M_X9_beyond_91 mb x1 x2 (a51.1, (a51.2.2 + a51.2.1))) else ((M_X9_in ((a51.2.2 + a51.2.1).toInt64) (0 : Int64) ((mb.2.1 - (1 : Int32)).toInt64)).bind fun r81 => if r81 = 0 then (M_X9_beyond_91 mb x1 x2 (a51.1, (a51.2.2 + a51.2.1))) else (M_X9_beyond_92 mb x1 x2 (a51.1, (a51.2.2 + a51.2.1), (1 : Int32))))
def M_X9_beyond_24 (mb : BT) (x1 : Int32) (x2 : Int32) (a24 : Int32 × Int32) : Option (Int32) :=
  if ¬ mb.2.1 = 0 then if x2 = (1 : Int32) then (M_X9_beyond_51 mb x1 x2 ((a24.2 + a24.1), (1 : Int32), (x1 - x1 / mb.2.1 * mb.2.1))) else (if x2 = (3 : Int32) then (M_X9_beyond_51 mb x1 x2 ((a24.2 + a24.1), (-1 : Int32), (x1 - x1 / mb.2.1 * mb.2.1))) else (M_X9_beyond_51 mb x1 x2 ((a24.2 + a24.1), (0 : Int32), (x1 - x1 / mb.2.1 * mb.2.1)))) else none
def M_X9_beyond (mb : BT) (x1 : Int32) (x2 : Int32) : Option (Int32) :=
  if ¬ mb.2.1 = 0 then if x2 = 0 then (M_X9_beyond_24 mb x1 x2 ((-1 : Int32), (x1 / mb.2.1))) else (if x2 = (2 : Int32) then (M_X9_beyond_24 mb x1 x2 ((1 : Int32), (x1 / mb.2.1))) else (M_X9_beyond_24 mb x1 x2 ((0 : Int32), (x1 / mb.2.1)))) else none
def M_X9_seenFrom_5b (mb : BT) (x1 : Int32) (x2 : Int32) (rc5 : Int32 × Int32 → Option (Int32)) (a5 : Int32 × Int32) : Option (Int32) :=
  if a5.2 < 0 then (some a5.1) else ((M_X9_beyond mb a5.2 x2).bind fun r21 => rc5 ((a5.1 ||| ((1 : Int32) <<< (a5.2 &&& 31))), r21))
def M_X9_seenFrom_5 (mb : BT) (x1 : Int32) (x2 : Int32) : Nat → (Int32 × Int32) → Option (Int32)
  | 0 => fun _ => none
  | k + 1 => M_X9_seenFrom_5b mb x1 x2 (M_X9_seenFrom_5 mb x1 x2 k)
def M_X9_seenFrom (mb : BT) (x1 : Int32) (x2 : Int32) : Option (Int32) :=
  M_X9_seenFrom_5 mb x1 x2 200 ((0 : Int32), x1)
def M_X9_seenBy (mb : BT) (x1 : Int32) : Option (Int32) :=
  if vin x1 4 then if vin x1 4 then (M_X9_seenFrom mb (mb.2.2.2.2.2.2.2.1 x1.toNatClampNeg) (mb.2.2.2.2.2.2.2.2.1 x1.toNatClampNeg)).bind fun r13 => some r13 else none else none
def M_X9_isBare_146 (mb : BT) (x1 : Int32) (rc16 : Int32 × Int32 → Option (Int32)) (a146 : Int32 × Int32) : Option (Int32) :=
  rc16 (a146.2, (a146.1 + (1 : Int32)))
def M_X9_isBare_145 (mb : BT) (x1 : Int32) (rc16 : Int32 × Int32 → Option (Int32)) (a145 : Int32) : Option (Int32) :=
  M_X9_isBare_146 mb x1 rc16 (a145, (0 : Int32))
def M_X9_isBare_130 (mb : BT) (x1 : Int32) (rc16 : Int32 × Int32 → Option (Int32)) (a130 : Int32 × Int32 × Int32) : Option (Int32) :=
  if a130.1 = 0 then (M_X9_isBare_145 mb x1 rc16 a130.2.1) else (if a130.2.2 = 0 then (M_X9_isBare_146 mb x1 rc16 (a130.2.1, (1 : Int32))) else (M_X9_isBare_145 mb x1 rc16 a130.2.1))
def M_X9_isBare_125 (mb : BT) (x1 : Int32) (rc16 : Int32 × Int32 → Option (Int32)) (a125 : Int32 × Int32) : Option (Int32) :=
  M_X9_isBare_130 mb x1 rc16 (a125.1, a125.2, (1 : Int32))
def M_X9_isBare_129 (mb : BT) (x1 : Int32) (rc16 : Int32 × Int32 → Option (Int32)) (a129 : Int32 × Int32) : Option (Int32) :=
  M_X9_isBare_130 mb x1 rc16 (a129.1, a129.2, (0 : Int32))
def M_X9_isBare_100 (mb : BT) (x1 : Int32) (rc16 : Int32 × Int32 → Option (Int32)) (a100 : Int32 × Int32) : Option (Int32) :=
  if vin a100.2 4 then if (mb.2.2.2.2.2.2.2.2.2 a100.2.toNatClampNeg) = (1 : Int32) then (if vin a100.2 4 then (M_X9_apart mb x1 (mb.2.2.2.2.2.2.2.1 a100.2.toNatClampNeg)).bind fun r118 => if (1 : Int32) < r118 then (M_X9_isBare_129 mb x1 rc16 (a100.1, a100.2)) else (M_X9_isBare_125 mb x1 rc16 (a100.1, a100.2)) else none) else (M_X9_isBare_129 mb x1 rc16 (a100.1, a100.2)) else none
def M_X9_isBare_71 (mb : BT) (x1 : Int32) (rc16 : Int32 × Int32 → Option (Int32)) (a71 : Int32 × Int32) : Option (Int32) :=
  if vin x1 16 then if (mb.2.2.2.2.2.2.1 x1.toNatClampNeg) = (99 : Int32) then (if vin a71.2 4 then (M_X9_apart mb x1 (mb.2.2.2.2.2.2.2.1 a71.2.toNatClampNeg)).bind fun r90 => if r90 ≤ mb.2.2.2.2.2.1 then (M_X9_isBare_125 mb x1 rc16 (a71.1, a71.2)) else (M_X9_isBare_100 mb x1 rc16 (a71.1, a71.2)) else none) else (M_X9_isBare_100 mb x1 rc16 (a71.1, a71.2)) else none
def M_X9_isBare_42 (mb : BT) (x1 : Int32) (rc16 : Int32 × Int32 → Option (Int32)) (a42 : Int32 × Int32 × Int32) : Option (Int32) :=
  if a42.2.2 = 0 then (M_X9_isBare_71 mb x1 rc16 (a42.1, a42.2.1)) else (if vin x1 16 then if (mb.2.2.2.2.2.2.1 x1.toNatClampNeg) = (103 : Int32) then (M_X9_isBare_125 mb x1 rc16 (a42.1, a42.2.1)) else (if vin x1 16 then if (mb.2.2.2.2.2.2.1 x1.toNatClampNeg) = (100 : Int32) then (M_X9_isBare_125 mb x1 rc16 (a42.1, a42.2.1)) else (M_X9_isBare_71 mb x1 rc16 (a42.1, a42.2.1)) else none) else none)
def M_X9_isBare_16b (mb : BT) (x1 : Int32) (rc16 : Int32 × Int32 → Option (Int32)) (a16 : Int32 × Int32) : Option (Int32) :=
  if mb.2.2.2.2.1 ≤ a16.2 then (if vp_nar .boolean a16.1 = a16.1 then some a16.1 else none) else ((M_X9_seenBy mb a16.2).bind fun r26 => if ((r26 >>> (x1 &&& 31)) &&& (1 : Int32)) = (1 : Int32) then (M_X9_isBare_42 mb x1 rc16 (a16.1, a16.2, (1 : Int32))) else (M_X9_isBare_42 mb x1 rc16 (a16.1, a16.2, (0 : Int32))))
def M_X9_isBare_16 (mb : BT) (x1 : Int32) : Nat → (Int32 × Int32) → Option (Int32)
  | 0 => fun _ => none
  | k + 1 => M_X9_isBare_16b mb x1 (M_X9_isBare_16 mb x1 k)
def M_X9_isBare_13 (mb : BT) (x1 : Int32) (a13 : Int32) : Option (Int32) :=
  M_X9_isBare_16 mb x1 200 (a13, (0 : Int32))
def M_X9_isBare (mb : BT) (x1 : Int32) : Option (Int32) :=
  (M_X9_isWall mb x1).bind fun r2 => if r2 = 0 then (M_X9_isBare_13 mb x1 (1 : Int32)) else (M_X9_isBare_13 mb x1 (0 : Int32))
def M_X9_bare_28 (mb : BT) (rc4 : Int32 × Int32 → Option (Int32)) (a28 : Int32 × Int32 × Int32) : Option (Int32) :=
  rc4 ((a28.2.2 ||| a28.2.1), (a28.1 + (1 : Int32)))
def M_X9_bare_4b (mb : BT) (rc4 : Int32 × Int32 → Option (Int32)) (a4 : Int32 × Int32) : Option (Int32) :=
  (M_X9_cells mb).bind fun r6 => if r6 ≤ a4.2 then (some a4.1) else ((M_X9_isBare mb a4.2).bind fun r15 => if r15 = 0 then (M_X9_bare_28 mb rc4 (a4.2, (0 : Int32), a4.1)) else (M_X9_bare_28 mb rc4 (a4.2, ((1 : Int32) <<< (a4.2 &&& 31)), a4.1)))
def M_X9_bare_4 (mb : BT) : Nat → (Int32 × Int32) → Option (Int32)
  | 0 => fun _ => none
  | k + 1 => M_X9_bare_4b mb (M_X9_bare_4 mb k)
def M_X9_bare (mb : BT) : Option (Int32) :=
  M_X9_bare_4 mb 200 ((0 : Int32), (0 : Int32))
def M_X9_begin (mb : BT) (mn : NT) : Option (NT) :=
  if vp_nar .boolean (0 : Int32) = (0 : Int32) then (M_X9_arrive mb (mn.1, (0 : Int32), (0 : Int32), (0 : Int32)) mb.2.2.1).bind fun r20 => some r20 else none
def M_X9_isSort (x1 : Int32) : Option (Int32) :=
  if x1 = (46 : Int32) then (some (1 : Int32)) else (if x1 = (103 : Int32) then (some (1 : Int32)) else (if x1 = (99 : Int32) then (some (1 : Int32)) else (if x1 = (100 : Int32) then (some (1 : Int32)) else (if x1 = (35 : Int32) then (some (1 : Int32)) else (some (0 : Int32))))))
def M_X9_isStep (x1 : Int32) : Option (Int32) :=
  if x1 = (110 : Int32) then (some (1 : Int32)) else (if x1 = (101 : Int32) then (some (1 : Int32)) else (if x1 = (115 : Int32) then (some (1 : Int32)) else (if x1 = (119 : Int32) then (some (1 : Int32)) else (if x1 = (45 : Int32) then (some (1 : Int32)) else (some (0 : Int32))))))
def M_X9_fault_64 (mb : BT) (mo : OT) (x1 : Int32) (rc15 : Int32 → Option (Int32)) (a64 : Int32 × Int32) : Option (Int32) :=
  if a64.2 = 0 then (some a64.1) else (rc15 (a64.1 + (1 : Int32)))
def M_X9_fault_51 (mb : BT) (mo : OT) (x1 : Int32) (rc15 : Int32 → Option (Int32)) (a51 : Int32) : Option (Int32) :=
  M_X9_fault_64 mb mo x1 rc15 (a51, (0 : Int32))
def M_X9_fault_15b (mb : BT) (mo : OT) (x1 : Int32) (rc15 : Int32 → Option (Int32)) (a15 : Int32) : Option (Int32) :=
  if mo.1 ≤ a15 then (if x1 = 0 then ((M_X9_cells mb).bind fun r86 => if r86 ≤ mo.1 then (some (-6 : Int32)) else (some mo.1)) else (some (-6 : Int32))) else (if x1 = 0 then ((M_X9_cells mb).bind fun r29 => if r29 ≤ a15 then (M_X9_fault_51 mb mo x1 rc15 a15) else (if vin a15 40 then (M_X9_isSort (mo.2 a15.toNatClampNeg)).bind fun r41 => if r41 = 0 then (M_X9_fault_51 mb mo x1 rc15 a15) else (M_X9_fault_64 mb mo x1 rc15 (a15, (1 : Int32))) else none)) else (if vin a15 40 then (M_X9_isStep (mo.2 a15.toNatClampNeg)).bind fun r61 => M_X9_fault_64 mb mo x1 rc15 (a15, r61) else none))
def M_X9_fault_15 (mb : BT) (mo : OT) (x1 : Int32) : Nat → Int32 → Option (Int32)
  | 0 => fun _ => none
  | k + 1 => M_X9_fault_15b mb mo x1 (M_X9_fault_15 mb mo x1 k)
def M_X9_fault (mb : BT) (mo : OT) (x1 : Int32) : Option (Int32) :=
  (M_X9_in x1.toInt64 (0 : Int64) (1 : Int64)).bind fun r4 => if r4 = 0 then (some (-2 : Int32)) else (M_X9_fault_15 mb mo x1 200 (0 : Int32))
def M_X9_build_76b  (rc76 : BT × OT × Int32 × Int32 × Int32 × Int32 → Option (Int32 × BT × OT)) (a76 : BT × OT × Int32 × Int32 × Int32 × Int32) : Option (Int32 × BT × OT) :=
  if a76.2.1.1 ≤ a76.2.2.2.2.2 then (some (a76.2.2.1, (a76.1.1, a76.1.2.1, a76.2.2.2.1, a76.2.2.2.2.1, (0 : Int32), a76.1.2.2.2.2.2.1, a76.1.2.2.2.2.2.2.1, a76.1.2.2.2.2.2.2.2.1, a76.1.2.2.2.2.2.2.2.2.1, a76.1.2.2.2.2.2.2.2.2.2), ((0 : Int32), a76.2.1.2))) else (if vin a76.2.2.2.2.2 40 then if vin a76.2.2.2.2.2 16 then rc76 ((a76.1.1, a76.1.2.1, a76.1.2.2.1, a76.1.2.2.2.1, a76.1.2.2.2.2.1, a76.1.2.2.2.2.2.1, (upd a76.1.2.2.2.2.2.2.1 a76.2.2.2.2.2.toNatClampNeg (a76.2.1.2 a76.2.2.2.2.2.toNatClampNeg)), a76.1.2.2.2.2.2.2.2.1, a76.1.2.2.2.2.2.2.2.2.1, a76.1.2.2.2.2.2.2.2.2.2), a76.2.1, a76.2.2.1, a76.2.2.2.1, a76.2.2.2.2.1, (a76.2.2.2.2.2 + (1 : Int32))) else none else none)
def M_X9_build_76  : Nat → (BT × OT × Int32 × Int32 × Int32 × Int32) → Option (Int32 × BT × OT)
  | 0 => fun _ => none
  | k + 1 => M_X9_build_76b  (M_X9_build_76  k)
def M_X9_build_60 (rc22 : BT × OT × Int32 × Int32 × Int32 × Int32 → Option (Int32 × BT × OT)) (a60 : BT × OT × Int32 × Int32 × Int32 × Int32) : Option (Int32 × BT × OT) :=
  rc22 (a60.1, a60.2.1, a60.2.2.1, a60.2.2.2.1, a60.2.2.2.2.1, (a60.2.2.2.2.2 + (1 : Int32)))
def M_X9_build_56 (rc22 : BT × OT × Int32 × Int32 × Int32 × Int32 → Option (Int32 × BT × OT)) (a56 : BT × OT × Int32 × Int32 × Int32) : Option (Int32 × BT × OT) :=
  M_X9_build_60 rc22 (a56.1, a56.2.1, a56.2.2.1, a56.2.2.2.2, a56.2.2.2.1, a56.2.2.2.1)
def M_X9_build_22b  (rc22 : BT × OT × Int32 × Int32 × Int32 × Int32 → Option (Int32 × BT × OT)) (a22 : BT × OT × Int32 × Int32 × Int32 × Int32) : Option (Int32 × BT × OT) :=
  if a22.2.1.1 ≤ a22.2.2.2.2.2 then (if a22.2.2.1 = 0 then (some ((-3 : Int32), a22.1, a22.2.1)) else (M_X9_build_76  200 (a22.1, a22.2.1, a22.2.2.1, a22.2.2.2.1, a22.2.2.2.2.1, (0 : Int32)))) else (if vin a22.2.2.2.2.2 40 then if (a22.2.1.2 a22.2.2.2.2.2.toNatClampNeg) = (35 : Int32) then (M_X9_build_60 rc22 (a22.1, a22.2.1, a22.2.2.1, a22.2.2.2.1, a22.2.2.2.2.1, a22.2.2.2.2.2)) else (if 0 ≤ a22.2.2.2.1 then (M_X9_build_56 rc22 (a22.1, a22.2.1, (a22.2.2.1 + (1 : Int32)), a22.2.2.2.2.2, a22.2.2.2.1)) else (M_X9_build_56 rc22 (a22.1, a22.2.1, (a22.2.2.1 + (1 : Int32)), a22.2.2.2.2.2, a22.2.2.2.2.2))) else none)
def M_X9_build_22  : Nat → (BT × OT × Int32 × Int32 × Int32 × Int32) → Option (Int32 × BT × OT)
  | 0 => fun _ => none
  | k + 1 => M_X9_build_22b  (M_X9_build_22  k)
def M_X9_build (mb : BT) (mo : OT) : Option (Int32 × BT × OT) :=
  (M_X9_fault mb mo (0 : Int32)).bind fun r2 => if r2 < 0 then (M_X9_build_22  200 (mb, mo, (0 : Int32), (-6 : Int32), (-6 : Int32), (0 : Int32))) else (some ((-5 : Int32), mb, mo))
def M_X9_isCell (mb : BT) (x1 : Int32) : Option (Int32) :=
  (M_X9_cells mb).bind fun r4 => (M_X9_in x1.toInt64 (0 : Int64) ((r4 - (1 : Int32)).toInt64)).bind fun r10 => if vp_nar .boolean r10 = r10 then some r10 else none
def M_X9_cell (mb : BT) (x1 : Int32) : Option (Int32) :=
  (M_X9_isCell mb x1).bind fun r2 => if r2 = 0 then (some (-1 : Int32)) else (if vin x1 16 then some (mb.2.2.2.2.2.2.1 x1.toNatClampNeg) else none)
def M_X9_codeOf (x1 : Int32) : Option (Int32) :=
  if x1 = 0 then (some (110 : Int32)) else (if x1 = (1 : Int32) then (some (101 : Int32)) else (if x1 = (2 : Int32) then (some (115 : Int32)) else (some (119 : Int32))))
def M_X9_dismiss (mb : BT) : Option (Int32 × BT) :=
  some (mb.2.2.2.2.1, (mb.1, mb.2.1, mb.2.2.1, mb.2.2.2.1, (0 : Int32), mb.2.2.2.2.2.1, mb.2.2.2.2.2.2.1, mb.2.2.2.2.2.2.2.1, mb.2.2.2.2.2.2.2.2.1, mb.2.2.2.2.2.2.2.2.2))
def M_X9_ears (mb : BT) (x1 : Int32) : Option (Int32 × BT) :=
  (M_X9_in x1.toInt64 (0 : Int64) (6 : Int64)).bind fun r6 => if r6 = 0 then (some ((-2 : Int32), mb)) else (some (mb.2.2.2.2.2.1, (mb.1, mb.2.1, mb.2.2.1, mb.2.2.2.1, mb.2.2.2.2.1, x1, mb.2.2.2.2.2.2.1, mb.2.2.2.2.2.2.2.1, mb.2.2.2.2.2.2.2.2.1, mb.2.2.2.2.2.2.2.2.2)))
def M_X9_floor_28 (mb : BT) (rc4 : Int32 × Int32 → Option (Int32)) (a28 : Int32 × Int32 × Int32) : Option (Int32) :=
  rc4 ((a28.2.2 ||| a28.2.1), (a28.1 + (1 : Int32)))
def M_X9_floor_4b (mb : BT) (rc4 : Int32 × Int32 → Option (Int32)) (a4 : Int32 × Int32) : Option (Int32) :=
  (M_X9_cells mb).bind fun r6 => if r6 ≤ a4.2 then (some a4.1) else ((M_X9_isWall mb a4.2).bind fun r15 => if r15 = 0 then (M_X9_floor_28 mb rc4 (a4.2, ((1 : Int32) <<< (a4.2 &&& 31)), a4.1)) else (M_X9_floor_28 mb rc4 (a4.2, (0 : Int32), a4.1)))
def M_X9_floor_4 (mb : BT) : Nat → (Int32 × Int32) → Option (Int32)
  | 0 => fun _ => none
  | k + 1 => M_X9_floor_4b mb (M_X9_floor_4 mb k)
def M_X9_floor (mb : BT) : Option (Int32) :=
  M_X9_floor_4 mb 200 ((0 : Int32), (0 : Int32))
def M_X9_findFar_162 (mb : BT) (x1 : Int32) (x2 : Int32) (rc32 : AR × Int32 → Option (AR)) (a162 : AR × Int32) : Option (AR) :=
  rc32 (a162.1, (a162.2 + (1 : Int32)))
def M_X9_findFar_156 (mb : BT) (x1 : Int32) (x2 : Int32) (rc32 : AR × Int32 → Option (AR)) (rc41 : AR × Int32 × Int32 → Option (AR)) (a156 : AR × Int32 × Int32) : Option (AR) :=
  rc41 (a156.1, a156.2.1, (a156.2.2 + (1 : Int32)))
def M_X9_findFar_149 (mb : BT) (x1 : Int32) (x2 : Int32) (rc32 : AR × Int32 → Option (AR)) (rc41 : AR × Int32 × Int32 → Option (AR)) (rc53 : AR × Int32 × Int32 × Int32 → Option (AR)) (a149 : AR × Int32 × Int32 × Int32 × Int32 × Int32) : Option (AR) :=
  if vin a149.2.2.2.2.2 16 then rc53 ((upd a149.1 a149.2.2.2.2.2.toNatClampNeg a149.2.2.2.2.1), a149.2.1, a149.2.2.1, (a149.2.2.2.1 + (1 : Int32))) else none
def M_X9_findFar_142 (mb : BT) (x1 : Int32) (x2 : Int32) (rc32 : AR × Int32 → Option (AR)) (rc41 : AR × Int32 × Int32 → Option (AR)) (rc53 : AR × Int32 × Int32 × Int32 → Option (AR)) (a142 : AR × Int32 × Int32 × Int32 × Int32) : Option (AR) :=
  if vin a142.2.2.1 16 then M_X9_findFar_149 mb x1 x2 rc32 rc41 rc53 (a142.1, a142.2.1, a142.2.2.1, a142.2.2.2.1, (a142.1 a142.2.2.1.toNatClampNeg), a142.2.2.2.2) else none
def M_X9_findFar_98 (mb : BT) (x1 : Int32) (x2 : Int32) (rc32 : AR × Int32 → Option (AR)) (rc41 : AR × Int32 × Int32 → Option (AR)) (rc53 : AR × Int32 × Int32 × Int32 → Option (AR)) (a98 : AR × Int32 × Int32 × Int32 × Int32 × Int32) : Option (AR) :=
  if a98.2.2.2.2.2 = 0 then (M_X9_findFar_142 mb x1 x2 rc32 rc41 rc53 (a98.1, a98.2.1, a98.2.2.1, a98.2.2.2.1, a98.2.2.1)) else (if vin a98.2.2.2.2.1 16 then if vin a98.2.2.1 16 then if (a98.1 a98.2.2.1.toNatClampNeg) ≤ ((a98.1 a98.2.2.2.2.1.toNatClampNeg) + (1 : Int32)) then (M_X9_findFar_142 mb x1 x2 rc32 rc41 rc53 (a98.1, a98.2.1, a98.2.2.1, a98.2.2.2.1, a98.2.2.1)) else (if vin a98.2.2.2.2.1 16 then M_X9_findFar_149 mb x1 x2 rc32 rc41 rc53 (a98.1, a98.2.1, a98.2.2.1, a98.2.2.2.1, ((a98.1 a98.2.2.2.2.1.toNatClampNeg) + (1 : Int32)), a98.2.2.1) else none) else none else none)
def M_X9_findFar_97 (mb : BT) (x1 : Int32) (x2 : Int32) (rc32 : AR × Int32 → Option (AR)) (rc41 : AR × Int32 × Int32 → Option (AR)) (rc53 : AR × Int32 × Int32 × Int32 → Option (AR)) (a97 : AR × Int32 × Int32 × Int32 × Int32) : Option (AR) :=
  M_X9_findFar_98 mb x1 x2 rc32 rc41 rc53 (a97.1, a97.2.1, a97.2.2.1, a97.2.2.2.1, a97.2.2.2.2, (0 : Int32))
def M_X9_findFar_53b (mb : BT) (x1 : Int32) (x2 : Int32) (rc32 : AR × Int32 → Option (AR)) (rc41 : AR × Int32 × Int32 → Option (AR)) (rc53 : AR × Int32 × Int32 × Int32 → Option (AR)) (a53 : AR × Int32 × Int32 × Int32) : Option (AR) :=
  if (4 : Int32) ≤ a53.2.2.2 then (M_X9_findFar_156 mb x1 x2 rc32 rc41 (a53.1, a53.2.1, a53.2.2.1)) else ((M_X9_isWall mb a53.2.2.1).bind fun r62 => if r62 = 0 then ((M_X9_beyond mb a53.2.2.1 a53.2.2.2).bind fun r73 => if r73 < 0 then (M_X9_findFar_97 mb x1 x2 rc32 rc41 rc53 (a53.1, a53.2.1, a53.2.2.1, a53.2.2.2, r73)) else (if ((x2 >>> (r73 &&& 31)) &&& (1 : Int32)) = (1 : Int32) then (M_X9_findFar_98 mb x1 x2 rc32 rc41 rc53 (a53.1, a53.2.1, a53.2.2.1, a53.2.2.2, r73, (1 : Int32))) else (M_X9_findFar_97 mb x1 x2 rc32 rc41 rc53 (a53.1, a53.2.1, a53.2.2.1, a53.2.2.2, r73)))) else (M_X9_findFar_156 mb x1 x2 rc32 rc41 (a53.1, a53.2.1, a53.2.2.1)))
def M_X9_findFar_53 (mb : BT) (x1 : Int32) (x2 : Int32) (rc32 : AR × Int32 → Option (AR)) (rc41 : AR × Int32 × Int32 → Option (AR)) : Nat → (AR × Int32 × Int32 × Int32) → Option (AR)
  | 0 => fun _ => none
  | k + 1 => M_X9_findFar_53b mb x1 x2 rc32 rc41 (M_X9_findFar_53 mb x1 x2 rc32 rc41 k)
def M_X9_findFar_41b (mb : BT) (x1 : Int32) (x2 : Int32) (rc32 : AR × Int32 → Option (AR)) (rc41 : AR × Int32 × Int32 → Option (AR)) (a41 : AR × Int32 × Int32) : Option (AR) :=
  (M_X9_cells mb).bind fun r44 => if r44 ≤ a41.2.2 then (M_X9_findFar_162 mb x1 x2 rc32 (a41.1, a41.2.1)) else (M_X9_findFar_53 mb x1 x2 rc32 rc41 200 (a41.1, a41.2.1, a41.2.2, (0 : Int32)))
def M_X9_findFar_41 (mb : BT) (x1 : Int32) (x2 : Int32) (rc32 : AR × Int32 → Option (AR)) : Nat → (AR × Int32 × Int32) → Option (AR)
  | 0 => fun _ => none
  | k + 1 => M_X9_findFar_41b mb x1 x2 rc32 (M_X9_findFar_41 mb x1 x2 rc32 k)
def M_X9_findFar_32b (mb : BT) (x1 : Int32) (x2 : Int32) (rc32 : AR × Int32 → Option (AR)) (a32 : AR × Int32) : Option (AR) :=
  if (16 : Int32) ≤ a32.2 then (some a32.1) else (M_X9_findFar_41 mb x1 x2 rc32 200 (a32.1, a32.2, (0 : Int32)))
def M_X9_findFar_32 (mb : BT) (x1 : Int32) (x2 : Int32) : Nat → (AR × Int32) → Option (AR)
  | 0 => fun _ => none
  | k + 1 => M_X9_findFar_32b mb x1 x2 (M_X9_findFar_32 mb x1 x2 k)
def M_X9_findFar_2b (mb : BT) (x1 : Int32) (x2 : Int32) (rc2 : AR × Int32 → Option (AR)) (a2 : AR × Int32) : Option (AR) :=
  if (16 : Int32) ≤ a2.2 then (if vin x1 16 then M_X9_findFar_32 mb x1 x2 200 ((upd a2.1 x1.toNatClampNeg (0 : Int32)), (0 : Int32)) else none) else (if vin a2.2 16 then rc2 ((upd a2.1 a2.2.toNatClampNeg (1000 : Int32)), (a2.2 + (1 : Int32))) else none)
def M_X9_findFar_2 (mb : BT) (x1 : Int32) (x2 : Int32) : Nat → (AR × Int32) → Option (AR)
  | 0 => fun _ => none
  | k + 1 => M_X9_findFar_2b mb x1 x2 (M_X9_findFar_2 mb x1 x2 k)
def M_X9_findFar (mb : BT) (mf : AR) (x1 : Int32) (x2 : Int32) : Option (AR) :=
  M_X9_findFar_2 mb x1 x2 200 (mf, (0 : Int32))
def M_X9_fewestShown_200 (mb : BT) (x1 : Int32) (x2 : Int32) (x3 : Int32) (rc12 : AR × AR × Int32 → Option (Int32 × AR × AR)) (a200 : AR × AR × Int32) : Option (Int32 × AR × AR) :=
  rc12 (a200.1, a200.2.1, (a200.2.2 + (1 : Int32)))
def M_X9_fewestShown_194 (mb : BT) (x1 : Int32) (x2 : Int32) (x3 : Int32) (rc12 : AR × AR × Int32 → Option (Int32 × AR × AR)) (rc22 : AR × AR × Int32 × Int32 → Option (Int32 × AR × AR)) (a194 : AR × AR × Int32 × Int32) : Option (Int32 × AR × AR) :=
  rc22 (a194.1, a194.2.1, a194.2.2.1, (a194.2.2.2 + (1 : Int32)))
def M_X9_fewestShown_187 (mb : BT) (x1 : Int32) (x2 : Int32) (x3 : Int32) (rc12 : AR × AR × Int32 → Option (Int32 × AR × AR)) (rc22 : AR × AR × Int32 × Int32 → Option (Int32 × AR × AR)) (rc65 : AR × AR × Int32 × Int32 × Int32 → Option (Int32 × AR × AR)) (a187 : AR × AR × Int32 × Int32 × Int32 × Int32 × Int32) : Option (Int32 × AR × AR) :=
  if vin a187.2.2.2.2.2.2 16 then rc65 (a187.1, (upd a187.2.1 a187.2.2.2.2.2.2.toNatClampNeg a187.2.2.2.2.2.1), a187.2.2.1, a187.2.2.2.1, (a187.2.2.2.2.1 + (1 : Int32))) else none
def M_X9_fewestShown_155 (mb : BT) (x1 : Int32) (x2 : Int32) (x3 : Int32) (rc12 : AR × AR × Int32 → Option (Int32 × AR × AR)) (rc22 : AR × AR × Int32 × Int32 → Option (Int32 × AR × AR)) (rc65 : AR × AR × Int32 × Int32 × Int32 → Option (Int32 × AR × AR)) (a155 : AR × AR × Int32 × Int32 × Int32 × Int32) : Option (Int32 × AR × AR) :=
  if vin a155.2.2.2.1 16 then if (a155.2.1 a155.2.2.2.1.toNatClampNeg) ≤ a155.2.2.2.2.2 then (if vin a155.2.2.2.1 16 then M_X9_fewestShown_187 mb x1 x2 x3 rc12 rc22 rc65 (a155.1, a155.2.1, a155.2.2.1, a155.2.2.2.1, a155.2.2.2.2.1, (a155.2.1 a155.2.2.2.1.toNatClampNeg), a155.2.2.2.1) else none) else (M_X9_fewestShown_187 mb x1 x2 x3 rc12 rc22 rc65 (a155.1, a155.2.1, a155.2.2.1, a155.2.2.2.1, a155.2.2.2.2.1, a155.2.2.2.2.2, a155.2.2.2.1)) else none
def M_X9_fewestShown_154 (mb : BT) (x1 : Int32) (x2 : Int32) (x3 : Int32) (rc12 : AR × AR × Int32 → Option (Int32 × AR × AR)) (rc22 : AR × AR × Int32 × Int32 → Option (Int32 × AR × AR)) (rc65 : AR × AR × Int32 × Int32 × Int32 → Option (Int32 × AR × AR)) (a154 : AR × AR × Int32 × Int32 × Int32 × Int32 × Int32) : Option (Int32 × AR × AR) :=
  M_X9_fewestShown_155 mb x1 x2 x3 rc12 rc22 rc65 (a154.1, a154.2.1, a154.2.2.1, a154.2.2.2.1, a154.2.2.2.2.1, (a154.2.2.2.2.2.2 + a154.2.2.2.2.2.1))
def M_X9_fewestShown_149 (mb : BT) (x1 : Int32) (x2 : Int32) (x3 : Int32) (rc12 : AR × AR × Int32 → Option (Int32 × AR × AR)) (rc22 : AR × AR × Int32 × Int32 → Option (Int32 × AR × AR)) (rc65 : AR × AR × Int32 × Int32 × Int32 → Option (Int32 × AR × AR)) (a149 : AR × AR × Int32 × Int32 × Int32 × Int32) : Option (Int32 × AR × AR) :=
  M_X9_fewestShown_154 mb x1 x2 x3 rc12 rc22 rc65 (a149.1, a149.2.1, a149.2.2.1, a149.2.2.2.1, a149.2.2.2.2.1, (0 : Int32), a149.2.2.2.2.2)
def M_X9_fewestShown_153 (mb : BT) (x1 : Int32) (x2 : Int32) (x3 : Int32) (rc12 : AR × AR × Int32 → Option (Int32 × AR × AR)) (rc22 : AR × AR × Int32 × Int32 → Option (Int32 × AR × AR)) (rc65 : AR × AR × Int32 × Int32 × Int32 → Option (Int32 × AR × AR)) (a153 : AR × AR × Int32 × Int32 × Int32 × Int32) : Option (Int32 × AR × AR) :=
  M_X9_fewestShown_154 mb x1 x2 x3 rc12 rc22 rc65 (a153.1, a153.2.1, a153.2.2.1, a153.2.2.2.1, a153.2.2.2.2.1, (1 : Int32), a153.2.2.2.2.2)
def M_X9_fewestShown_110 (mb : BT) (x1 : Int32) (x2 : Int32) (x3 : Int32) (rc12 : AR × AR × Int32 → Option (Int32 × AR × AR)) (rc22 : AR × AR × Int32 × Int32 → Option (Int32 × AR × AR)) (rc65 : AR × AR × Int32 × Int32 × Int32 → Option (Int32 × AR × AR)) (a110 : AR × AR × Int32 × Int32 × Int32 × Int32 × Int32) : Option (Int32 × AR × AR) :=
  if a110.2.2.2.2.2.2 = 0 then (M_X9_fewestShown_155 mb x1 x2 x3 rc12 rc22 rc65 (a110.1, a110.2.1, a110.2.2.1, a110.2.2.2.1, a110.2.2.2.2.1, (1000 : Int32))) else (if vin a110.2.2.2.2.2.1 16 then (M_X9_isBare mb a110.2.2.2.2.2.1).bind fun r133 => if r133 = 0 then (if a110.2.2.2.2.2.1 = x2 then (if x3 = 0 then (M_X9_fewestShown_149 mb x1 x2 x3 rc12 rc22 rc65 (a110.1, a110.2.1, a110.2.2.1, a110.2.2.2.1, a110.2.2.2.2.1, (a110.2.1 a110.2.2.2.2.2.1.toNatClampNeg))) else (M_X9_fewestShown_153 mb x1 x2 x3 rc12 rc22 rc65 (a110.1, a110.2.1, a110.2.2.1, a110.2.2.2.1, a110.2.2.2.2.1, (a110.2.1 a110.2.2.2.2.2.1.toNatClampNeg)))) else (M_X9_fewestShown_153 mb x1 x2 x3 rc12 rc22 rc65 (a110.1, a110.2.1, a110.2.2.1, a110.2.2.2.1, a110.2.2.2.2.1, (a110.2.1 a110.2.2.2.2.2.1.toNatClampNeg)))) else (M_X9_fewestShown_149 mb x1 x2 x3 rc12 rc22 rc65 (a110.1, a110.2.1, a110.2.2.1, a110.2.2.2.1, a110.2.2.2.2.1, (a110.2.1 a110.2.2.2.2.2.1.toNatClampNeg))) else none)
def M_X9_fewestShown_109 (mb : BT) (x1 : Int32) (x2 : Int32) (x3 : Int32) (rc12 : AR × AR × Int32 → Option (Int32 × AR × AR)) (rc22 : AR × AR × Int32 × Int32 → Option (Int32 × AR × AR)) (rc65 : AR × AR × Int32 × Int32 × Int32 → Option (Int32 × AR × AR)) (a109 : AR × AR × Int32 × Int32 × Int32 × Int32) : Option (Int32 × AR × AR) :=
  M_X9_fewestShown_110 mb x1 x2 x3 rc12 rc22 rc65 (a109.1, a109.2.1, a109.2.2.1, a109.2.2.2.1, a109.2.2.2.2.1, a109.2.2.2.2.2, (0 : Int32))
def M_X9_fewestShown_65b (mb : BT) (x1 : Int32) (x2 : Int32) (x3 : Int32) (rc12 : AR × AR × Int32 → Option (Int32 × AR × AR)) (rc22 : AR × AR × Int32 × Int32 → Option (Int32 × AR × AR)) (rc65 : AR × AR × Int32 × Int32 × Int32 → Option (Int32 × AR × AR)) (a65 : AR × AR × Int32 × Int32 × Int32) : Option (Int32 × AR × AR) :=
  if (4 : Int32) ≤ a65.2.2.2.2 then (M_X9_fewestShown_194 mb x1 x2 x3 rc12 rc22 (a65.1, a65.2.1, a65.2.2.1, a65.2.2.2.1)) else (if a65.2.2.1 ≤ 0 then (M_X9_fewestShown_194 mb x1 x2 x3 rc12 rc22 (a65.1, a65.2.1, a65.2.2.1, a65.2.2.2.1)) else ((M_X9_beyond mb a65.2.2.2.1 a65.2.2.2.2).bind fun r81 => if r81 < 0 then (M_X9_fewestShown_109 mb x1 x2 x3 rc12 rc22 rc65 (a65.1, a65.2.1, a65.2.2.1, a65.2.2.2.1, a65.2.2.2.2, r81)) else (if vin r81 16 then if (a65.1 r81.toNatClampNeg) = (a65.2.2.1 - (1 : Int32)) then (M_X9_fewestShown_110 mb x1 x2 x3 rc12 rc22 rc65 (a65.1, a65.2.1, a65.2.2.1, a65.2.2.2.1, a65.2.2.2.2, r81, (1 : Int32))) else (M_X9_fewestShown_109 mb x1 x2 x3 rc12 rc22 rc65 (a65.1, a65.2.1, a65.2.2.1, a65.2.2.2.1, a65.2.2.2.2, r81)) else none)))
def M_X9_fewestShown_65 (mb : BT) (x1 : Int32) (x2 : Int32) (x3 : Int32) (rc12 : AR × AR × Int32 → Option (Int32 × AR × AR)) (rc22 : AR × AR × Int32 × Int32 → Option (Int32 × AR × AR)) : Nat → (AR × AR × Int32 × Int32 × Int32) → Option (Int32 × AR × AR)
  | 0 => fun _ => none
  | k + 1 => M_X9_fewestShown_65b mb x1 x2 x3 rc12 rc22 (M_X9_fewestShown_65 mb x1 x2 x3 rc12 rc22 k)
def M_X9_fewestShown_61 (mb : BT) (x1 : Int32) (x2 : Int32) (x3 : Int32) (rc12 : AR × AR × Int32 → Option (Int32 × AR × AR)) (rc22 : AR × AR × Int32 × Int32 → Option (Int32 × AR × AR)) (a61 : AR × AR × Int32 × Int32 × Int32 × Int32) : Option (Int32 × AR × AR) :=
  if vin a61.2.2.2.2.2 16 then M_X9_fewestShown_65 mb x1 x2 x3 rc12 rc22 200 (a61.1, (upd a61.2.1 a61.2.2.2.2.2.toNatClampNeg a61.2.2.2.2.1), a61.2.2.1, a61.2.2.2.1, (0 : Int32)) else none
def M_X9_fewestShown_22b (mb : BT) (x1 : Int32) (x2 : Int32) (x3 : Int32) (rc12 : AR × AR × Int32 → Option (Int32 × AR × AR)) (rc22 : AR × AR × Int32 × Int32 → Option (Int32 × AR × AR)) (a22 : AR × AR × Int32 × Int32) : Option (Int32 × AR × AR) :=
  (M_X9_cells mb).bind fun r25 => if r25 ≤ a22.2.2.2 then (M_X9_fewestShown_200 mb x1 x2 x3 rc12 (a22.1, a22.2.1, a22.2.2.1)) else (if vin a22.2.2.2 16 then if (a22.1 a22.2.2.2.toNatClampNeg) = a22.2.2.1 then (if a22.2.2.1 = 0 then (M_X9_fewestShown_61 mb x1 x2 x3 rc12 rc22 (a22.1, a22.2.1, a22.2.2.1, a22.2.2.2, (0 : Int32), a22.2.2.2)) else (M_X9_fewestShown_61 mb x1 x2 x3 rc12 rc22 (a22.1, a22.2.1, a22.2.2.1, a22.2.2.2, (1000 : Int32), a22.2.2.2))) else (M_X9_fewestShown_194 mb x1 x2 x3 rc12 rc22 (a22.1, a22.2.1, a22.2.2.1, a22.2.2.2)) else none)
def M_X9_fewestShown_22 (mb : BT) (x1 : Int32) (x2 : Int32) (x3 : Int32) (rc12 : AR × AR × Int32 → Option (Int32 × AR × AR)) : Nat → (AR × AR × Int32 × Int32) → Option (Int32 × AR × AR)
  | 0 => fun _ => none
  | k + 1 => M_X9_fewestShown_22b mb x1 x2 x3 rc12 (M_X9_fewestShown_22 mb x1 x2 x3 rc12 k)
def M_X9_fewestShown_12b (mb : BT) (x1 : Int32) (x2 : Int32) (x3 : Int32) (rc12 : AR × AR × Int32 → Option (Int32 × AR × AR)) (a12 : AR × AR × Int32) : Option (Int32 × AR × AR) :=
  if (16 : Int32) ≤ a12.2.2 then (if vin x1 16 then some ((a12.2.1 x1.toNatClampNeg), a12.1, a12.2.1) else none) else (M_X9_fewestShown_22 mb x1 x2 x3 rc12 200 (a12.1, a12.2.1, a12.2.2, (0 : Int32)))
def M_X9_fewestShown_12 (mb : BT) (x1 : Int32) (x2 : Int32) (x3 : Int32) : Nat → (AR × AR × Int32) → Option (Int32 × AR × AR)
  | 0 => fun _ => none
  | k + 1 => M_X9_fewestShown_12b mb x1 x2 x3 (M_X9_fewestShown_12 mb x1 x2 x3 k)
def M_X9_fewestShown (mb : BT) (mf : AR) (mz : AR) (x1 : Int32) (x2 : Int32) (x3 : Int32) : Option (Int32 × AR × AR) :=
  (M_X9_floor mb).bind fun r3 => (M_X9_findFar mb mf x2 r3).bind fun r6 => M_X9_fewestShown_12 mb x1 x2 x3 200 (r6, mz, (0 : Int32))
def M_X9_fives_4b (x1 : Int32) (rc4 : Int32 × Int32 → Option (Int32)) (a4 : Int32 × Int32) : Option (Int32) :=
  if x1 ≤ a4.2 then (some a4.1) else (rc4 ((a4.1 * (5 : Int32)), (a4.2 + (1 : Int32))))
def M_X9_fives_4 (x1 : Int32) : Nat → (Int32 × Int32) → Option (Int32)
  | 0 => fun _ => none
  | k + 1 => M_X9_fives_4b x1 (M_X9_fives_4 x1 k)
def M_X9_fives (x1 : Int32) : Option (Int32) :=
  M_X9_fives_4 x1 200 ((1 : Int32), (0 : Int32))
def M_X9_ones_4b (x1 : Int32) (rc4 : Int32 × Int32 → Option (Int32)) (a4 : Int32 × Int32) : Option (Int32) :=
  if a4.2 = 0 then (some a4.1) else (rc4 ((a4.1 + (1 : Int32)), (a4.2 &&& (a4.2 - (1 : Int32)))))
def M_X9_ones_4 (x1 : Int32) : Nat → (Int32 × Int32) → Option (Int32)
  | 0 => fun _ => none
  | k + 1 => M_X9_ones_4b x1 (M_X9_ones_4 x1 k)
def M_X9_ones (x1 : Int32) : Option (Int32) :=
  M_X9_ones_4 x1 200 ((0 : Int32), x1)
def M_X9_flour_141 (mb : BT) (x1 : Int32) (rc70 : AR × Int32 × Int32 × Int32 × Int32 → Option (Int32 × AR)) (a141 : AR × Int32 × Int32 × Int32 × Int32) : Option (Int32 × AR) :=
  rc70 (a141.1, a141.2.1, a141.2.2.1, a141.2.2.2.1, (a141.2.2.2.2 + (1 : Int32)))
def M_X9_flour_139 (mb : BT) (x1 : Int32) (rc70 : AR × Int32 × Int32 × Int32 × Int32 → Option (Int32 × AR)) (a139 : AR × Int32 × Int32 × Int32 × Int32) : Option (Int32 × AR) :=
  M_X9_flour_141 mb x1 rc70 (a139.1, a139.2.1, a139.2.2.1, a139.2.2.2.2, a139.2.2.2.1)
def M_X9_flour_103 (mb : BT) (x1 : Int32) (rc70 : AR × Int32 × Int32 × Int32 × Int32 → Option (Int32 × AR)) (a103 : AR × Int32 × Int32 × Int32 × Int32) : Option (Int32 × AR) :=
  (M_X9_findFar mb a103.1 mb.2.2.2.1 (a103.2.1 &&& (a103.2.2.2.2 ^^^ (-1 : Int32)))).bind fun r114 => if vin mb.2.2.1 16 then if (r114 mb.2.2.1.toNatClampNeg) = (1000 : Int32) then (M_X9_flour_139 mb x1 rc70 (r114, a103.2.1, a103.2.2.1, a103.2.2.2.2, a103.2.2.2.2)) else (M_X9_flour_139 mb x1 rc70 (r114, a103.2.1, a103.2.2.1, a103.2.2.2.2, a103.2.2.2.1)) else none
def M_X9_flour_70b (mb : BT) (x1 : Int32) (rc70 : AR × Int32 × Int32 × Int32 × Int32 → Option (Int32 × AR)) (a70 : AR × Int32 × Int32 × Int32 × Int32) : Option (Int32 × AR) :=
  if a70.2.2.1 < a70.2.2.2.2 then (if x1 = 0 then ((M_X9_ones a70.2.2.2.1).bind fun r153 => some (r153, a70.1)) else (some (a70.2.2.2.1, a70.1))) else (if (a70.2.2.2.2 &&& (a70.2.2.1 ^^^ (-1 : Int32))) = 0 then (if a70.2.2.2.1 < 0 then (M_X9_flour_103 mb x1 rc70 (a70.1, a70.2.1, a70.2.2.1, a70.2.2.2.1, a70.2.2.2.2)) else ((M_X9_ones a70.2.2.2.2).bind fun r92 => (M_X9_ones a70.2.2.2.1).bind fun r97 => if r97 ≤ r92 then (M_X9_flour_141 mb x1 rc70 (a70.1, a70.2.1, a70.2.2.1, a70.2.2.2.1, a70.2.2.2.2)) else (M_X9_flour_103 mb x1 rc70 (a70.1, a70.2.1, a70.2.2.1, a70.2.2.2.1, a70.2.2.2.2)))) else (M_X9_flour_141 mb x1 rc70 (a70.1, a70.2.1, a70.2.2.1, a70.2.2.2.1, a70.2.2.2.2)))
def M_X9_flour_70 (mb : BT) (x1 : Int32) : Nat → (AR × Int32 × Int32 × Int32 × Int32) → Option (Int32 × AR)
  | 0 => fun _ => none
  | k + 1 => M_X9_flour_70b mb x1 (M_X9_flour_70 mb x1 k)
def M_X9_flour (mb : BT) (mf : AR) (x1 : Int32) : Option (Int32 × AR) :=
  (M_X9_in x1.toInt64 (0 : Int64) (1 : Int64)).bind fun r4 => if r4 = 0 then (some ((-2 : Int32), mf)) else ((M_X9_floor mb).bind fun r14 => (M_X9_findFar mb mf mb.2.2.2.1 r14).bind fun r24 => if vin mb.2.2.1 16 then if (2 : Int32) ≤ (r24 mb.2.2.1.toNatClampNeg) then (M_X9_flour_70 mb x1 70000 (r24, r14, ((r14 &&& (((1 : Int32) <<< (mb.2.2.1 &&& 31)) ^^^ (-1 : Int32))) &&& (((1 : Int32) <<< (mb.2.2.2.1 &&& 31)) ^^^ (-1 : Int32))), (-6 : Int32), (0 : Int32))) else (some ((-6 : Int32), r24)) else none)
def M_X9_wayOf (x1 : Int32) : Option (Int32) :=
  if x1 = (110 : Int32) then (some (0 : Int32)) else (if x1 = (101 : Int32) then (some (1 : Int32)) else (if x1 = (115 : Int32) then (some (2 : Int32)) else (if x1 = (119 : Int32) then (some (3 : Int32)) else (some (4 : Int32)))))
def M_X9_step_49 (mb : BT) (x1 : Int32) (a49 : NT × Int32) : Option (Int32 × NT) :=
  if a49.2 < 0 then (some ((0 : Int32), a49.1)) else (some ((1 : Int32), a49.1))
def M_X9_step_37 (mb : BT) (x1 : Int32) (a37 : NT × Int32 × Int32) : Option (Int32 × NT) :=
  if vp_nar .boolean a37.2.2 = a37.2.2 then if a37.2.1 < 0 then (M_X9_step_49 mb x1 ((a37.1.1, a37.2.2, a37.1.2.2.1, a37.1.2.2.2), a37.2.1)) else ((M_X9_arrive mb (a37.1.1, a37.2.2, a37.1.2.2.1, a37.1.2.2.2) a37.2.1).bind fun r46 => M_X9_step_49 mb x1 (r46, a37.2.1)) else none
def M_X9_step_36 (mb : BT) (x1 : Int32) (a36 : NT × Int32) : Option (Int32 × NT) :=
  M_X9_step_37 mb x1 (a36.1, a36.2, (0 : Int32))
def M_X9_step_21 (mb : BT) (x1 : Int32) (a21 : NT × Int32) : Option (Int32 × NT) :=
  if (4 : Int32) ≤ x1 then (M_X9_step_36 mb x1 (a21.1, a21.2)) else (if a21.2 < 0 then (M_X9_step_36 mb x1 (a21.1, a21.2)) else (M_X9_step_37 mb x1 (a21.1, a21.2, (1 : Int32))))
def M_X9_step (mb : BT) (mn : NT) (x1 : Int32) : Option (Int32 × NT) :=
  if x1 = (4 : Int32) then (M_X9_step_21 mb x1 (mn, mn.1)) else ((M_X9_beyond mb mn.1 x1).bind fun r18 => M_X9_step_21 mb x1 (mn, r18))
def M_X9_why_97 (mb : BT) (mn : NT) (x1 : Int32) (x2 : Int32) (a97 : Unit) : Option (Int32) :=
  (M_X9_seenBy mb x1).bind fun r99 => if (r99 &&& mn.2.2.1) = 0 then (if vin x1 4 then if (mb.2.2.2.2.2.2.2.2.2 x1.toNatClampNeg) = (1 : Int32) then (if vin x1 4 then (M_X9_apart mb mn.1 (mb.2.2.2.2.2.2.2.1 x1.toNatClampNeg)).bind fun r133 => if (1 : Int32) < r133 then (some (-6 : Int32)) else (some (4 : Int32)) else none) else (some (-6 : Int32)) else none) else (some (3 : Int32))
def M_X9_why_53 (mb : BT) (mn : NT) (x1 : Int32) (x2 : Int32) (a53 : Unit) : Option (Int32) :=
  if mn.2.1 = 0 then (M_X9_why_97 mb mn x1 x2 ()) else (if vin mn.1 16 then if (mb.2.2.2.2.2.2.1 mn.1.toNatClampNeg) = (99 : Int32) then (if vin x1 4 then (M_X9_apart mb mn.1 (mb.2.2.2.2.2.2.2.1 x1.toNatClampNeg)).bind fun r85 => if mb.2.2.2.2.2.1 < r85 then (M_X9_why_97 mb mn x1 x2 ()) else (some (2 : Int32)) else none) else (M_X9_why_97 mb mn x1 x2 ()) else none)
def M_X9_why_21 (mb : BT) (mn : NT) (x1 : Int32) (x2 : Int32) (a21 : Int32) : Option (Int32) :=
  if x2 = 0 then (M_X9_why_53 mb mn x1 x2 ()) else (if mn.2.1 = 0 then (M_X9_why_53 mb mn x1 x2 ()) else (if vin mn.1 16 then if (mb.2.2.2.2.2.2.1 mn.1.toNatClampNeg) = (103 : Int32) then (if a21 = 0 then (M_X9_why_53 mb mn x1 x2 ()) else (some (1 : Int32))) else (M_X9_why_53 mb mn x1 x2 ()) else none))
def M_X9_why (mb : BT) (mn : NT) (x1 : Int32) (x2 : Int32) : Option (Int32) :=
  (M_X9_seenBy mb x1).bind fun r2 => if ((r2 >>> (mn.1 &&& 31)) &&& (1 : Int32)) = (1 : Int32) then (M_X9_why_21 mb mn x1 x2 (1 : Int32)) else (M_X9_why_21 mb mn x1 x2 (0 : Int32))
def M_X9_shownTo_2b (mb : BT) (mn : NT) (x1 : Int32) (rc2 : Int32 → Option (Int32)) (a2 : Int32) : Option (Int32) :=
  if mb.2.2.2.2.1 ≤ a2 then (some (-6 : Int32)) else ((M_X9_why mb mn a2 x1).bind fun r13 => if r13 ≤ 0 then (rc2 (a2 + (1 : Int32))) else (some a2))
def M_X9_shownTo_2 (mb : BT) (mn : NT) (x1 : Int32) : Nat → Int32 → Option (Int32)
  | 0 => fun _ => none
  | k + 1 => M_X9_shownTo_2b mb mn x1 (M_X9_shownTo_2 mb mn x1 k)
def M_X9_shownTo (mb : BT) (mn : NT) (x1 : Int32) : Option (Int32) :=
  M_X9_shownTo_2 mb mn x1 200 (0 : Int32)
def M_X9_goWalk_160 (mb : BT) (mo : OT) (rc40 : NT × GT × Int32 → Option (NT × GT)) (a160 : NT × GT × Int32) : Option (NT × GT) :=
  rc40 (a160.1, a160.2.1, (a160.2.2 + (1 : Int32)))
def M_X9_goWalk_156 (mb : BT) (mo : OT) (rc40 : NT × GT × Int32 → Option (NT × GT)) (a156 : NT × GT × Int32 × Int32 × Int32) : Option (NT × GT) :=
  M_X9_goWalk_160 mb mo rc40 (a156.1, (a156.2.1.1, a156.2.1.2.1, a156.2.1.2.2.1, a156.2.1.2.2.2.1, a156.2.1.2.2.2.2.1, (a156.2.2.2.2 + a156.2.2.2.1)), a156.2.2.1)
def M_X9_goWalk_155 (mb : BT) (mo : OT) (rc40 : NT × GT × Int32 → Option (NT × GT)) (a155 : NT × GT × Int32 × Int32) : Option (NT × GT) :=
  M_X9_goWalk_156 mb mo rc40 (a155.1, a155.2.1, a155.2.2.1, (0 : Int32), a155.2.2.2)
def M_X9_goWalk_130 (mb : BT) (mo : OT) (rc40 : NT × GT × Int32 → Option (NT × GT)) (a130 : NT × GT × Int32 × Int32 × Int32 × Int32) : Option (NT × GT) :=
  if a130.2.2.2.1 < 0 then (M_X9_goWalk_155 mb mo rc40 (a130.1, (a130.2.1.1, a130.2.1.2.1, a130.2.1.2.2.1, a130.2.1.2.2.2.1, (a130.2.2.2.2.2 + a130.2.2.2.2.1), a130.2.1.2.2.2.2.2), a130.2.2.1, a130.2.1.2.2.2.2.2)) else ((M_X9_shownTo mb a130.1 (0 : Int32)).bind fun r145 => if 0 ≤ r145 then (M_X9_goWalk_155 mb mo rc40 (a130.1, (a130.2.1.1, a130.2.1.2.1, a130.2.1.2.2.1, a130.2.1.2.2.2.1, (a130.2.2.2.2.2 + a130.2.2.2.2.1), a130.2.1.2.2.2.2.2), a130.2.2.1, a130.2.1.2.2.2.2.2)) else (M_X9_goWalk_156 mb mo rc40 (a130.1, (a130.2.1.1, a130.2.1.2.1, a130.2.1.2.2.1, a130.2.1.2.2.2.1, (a130.2.2.2.2.2 + a130.2.2.2.2.1), a130.2.1.2.2.2.2.2), a130.2.2.1, (1 : Int32), a130.2.1.2.2.2.2.2)))
def M_X9_goWalk_116 (mb : BT) (mo : OT) (rc40 : NT × GT × Int32 → Option (NT × GT)) (a116 : NT × GT × Int32 × Int32) : Option (NT × GT) :=
  if a116.2.2.2 < 0 then (M_X9_goWalk_130 mb mo rc40 (a116.1, a116.2.1, a116.2.2.1, a116.2.2.2, (0 : Int32), a116.2.1.2.2.2.2.1)) else (M_X9_goWalk_130 mb mo rc40 (a116.1, a116.2.1, a116.2.2.1, a116.2.2.2, (1 : Int32), a116.2.1.2.2.2.2.1))
def M_X9_goWalk_40b (mb : BT) (mo : OT) (rc40 : NT × GT × Int32 → Option (NT × GT)) (a40 : NT × GT × Int32) : Option (NT × GT) :=
  if mo.1 ≤ a40.2.2 then (some (a40.1, a40.2.1)) else (if 0 ≤ a40.2.1.1 then (some (a40.1, a40.2.1)) else (if vin a40.2.2 40 then (M_X9_wayOf (mo.2 a40.2.2.toNatClampNeg)).bind fun r62 => (M_X9_step mb a40.1 r62).bind fun r65 => if r65.1 = 0 then (M_X9_goWalk_160 mb mo rc40 (r65.2, (a40.2.2, a40.2.1.2.1, a40.2.1.2.2.1, a40.2.1.2.2.2.1, a40.2.1.2.2.2.2.1, a40.2.1.2.2.2.2.2), a40.2.2)) else ((M_X9_shownTo mb r65.2 (1 : Int32)).bind fun r81 => if r81 < 0 then (M_X9_goWalk_116 mb mo rc40 (r65.2, a40.2.1, a40.2.2, r81)) else (if 0 ≤ a40.2.1.2.1 then (M_X9_goWalk_116 mb mo rc40 (r65.2, a40.2.1, a40.2.2, r81)) else ((M_X9_why mb r65.2 r81 (1 : Int32)).bind fun r110 => M_X9_goWalk_116 mb mo rc40 (r65.2, (a40.2.1.1, a40.2.2, r81, r110, a40.2.1.2.2.2.2.1, a40.2.1.2.2.2.2.2), a40.2.2, r81)))) else none))
def M_X9_goWalk_40 (mb : BT) (mo : OT) : Nat → (NT × GT × Int32) → Option (NT × GT)
  | 0 => fun _ => none
  | k + 1 => M_X9_goWalk_40b mb mo (M_X9_goWalk_40 mb mo k)
def M_X9_goWalk (mb : BT) (mo : OT) (mn : NT) (mg : GT) : Option (NT × GT) :=
  (M_X9_begin mb mn).bind fun r1 => M_X9_goWalk_40 mb mo 200 (r1, ((-6 : Int32), (-6 : Int32), (-6 : Int32), (-6 : Int32), (0 : Int32), (0 : Int32)), (0 : Int32))
def M_X9_lay_12b (x1 : Int32) (x2 : Int32) (rc12 : BT × Int32 → Option (BT)) (a12 : BT × Int32) : Option (BT) :=
  if (16 : Int32) ≤ a12.2 then (some (a12.1.1, a12.1.2.1, (0 : Int32), ((x1 * x2) - (1 : Int32)), (0 : Int32), a12.1.2.2.2.2.2.1, a12.1.2.2.2.2.2.2.1, a12.1.2.2.2.2.2.2.2.1, a12.1.2.2.2.2.2.2.2.2.1, a12.1.2.2.2.2.2.2.2.2.2)) else (if vin a12.2 16 then rc12 ((a12.1.1, a12.1.2.1, a12.1.2.2.1, a12.1.2.2.2.1, a12.1.2.2.2.2.1, a12.1.2.2.2.2.2.1, (upd a12.1.2.2.2.2.2.2.1 a12.2.toNatClampNeg (46 : Int32)), a12.1.2.2.2.2.2.2.2.1, a12.1.2.2.2.2.2.2.2.2.1, a12.1.2.2.2.2.2.2.2.2.2), (a12.2 + (1 : Int32))) else none)
def M_X9_lay_12 (x1 : Int32) (x2 : Int32) : Nat → (BT × Int32) → Option (BT)
  | 0 => fun _ => none
  | k + 1 => M_X9_lay_12b x1 x2 (M_X9_lay_12 x1 x2 k)
def M_X9_lay (mb : BT) (x1 : Int32) (x2 : Int32) : Option (BT) :=
  M_X9_lay_12 x1 x2 200 ((x1, x2, mb.2.2.1, mb.2.2.2.1, mb.2.2.2.2.1, mb.2.2.2.2.2.1, mb.2.2.2.2.2.2.1, mb.2.2.2.2.2.2.2.1, mb.2.2.2.2.2.2.2.2.1, mb.2.2.2.2.2.2.2.2.2), (0 : Int32))
def M_X9_house (mb : BT) (x1 : Int32) (x2 : Int32) : Option (Int32 × BT) :=
  (M_X9_in x1.toInt64 (1 : Int64) (4 : Int64)).bind fun r6 => if r6 = 0 then (some ((-2 : Int32), mb)) else ((M_X9_in x2.toInt64 (1 : Int64) (4 : Int64)).bind fun r18 => if r18 = 0 then (some ((-2 : Int32), mb)) else ((M_X9_lay mb x1 x2).bind fun r30 => (M_X9_cells r30).bind fun r34 => some (r34, r30)))
def M_X9_pass_20 (x1 : Int32) (a20 : IT × Int32) : Option (Int32 × IT) :=
  if vin a20.1.1 80 then some (a20.2, ((a20.1.1 + (1 : Int32)), a20.1.2.1, (upd a20.1.2.2.1 a20.1.1.toNatClampNeg a20.2), a20.1.2.2.2)) else none
def M_X9_pass (mi : IT) (x1 : Int32) : Option (Int32 × IT) :=
  if mi.2.1 = 0 then (if vin mi.1 80 then M_X9_pass_20 x1 (mi, (mi.2.2.1 mi.1.toNatClampNeg)) else none) else (M_X9_pass_20 x1 (mi, x1))
def M_X9_passAll_104b  (rc104 : BT × IT × Int32 → Option (BT × IT)) (a104 : BT × IT × Int32) : Option (BT × IT) :=
  if (4 : Int32) ≤ a104.2.2 then (some (a104.1, a104.2.1)) else (if vin a104.2.2 4 then (M_X9_pass a104.2.1 (a104.1.2.2.2.2.2.2.2.1 a104.2.2.toNatClampNeg)).bind fun r121 => if vin a104.2.2 4 then if vin a104.2.2 4 then (M_X9_pass r121.2 (a104.1.2.2.2.2.2.2.2.2.1 a104.2.2.toNatClampNeg)).bind fun r137 => if vin a104.2.2 4 then if vin a104.2.2 4 then (M_X9_pass r137.2 (a104.1.2.2.2.2.2.2.2.2.2 a104.2.2.toNatClampNeg)).bind fun r153 => if vin a104.2.2 4 then rc104 ((a104.1.1, a104.1.2.1, a104.1.2.2.1, a104.1.2.2.2.1, a104.1.2.2.2.2.1, a104.1.2.2.2.2.2.1, a104.1.2.2.2.2.2.2.1, (upd a104.1.2.2.2.2.2.2.2.1 a104.2.2.toNatClampNeg r121.1), (upd a104.1.2.2.2.2.2.2.2.2.1 a104.2.2.toNatClampNeg r137.1), (upd a104.1.2.2.2.2.2.2.2.2.2 a104.2.2.toNatClampNeg r153.1)), r153.2, (a104.2.2 + (1 : Int32))) else none else none else none else none else none else none)
def M_X9_passAll_104  : Nat → (BT × IT × Int32) → Option (BT × IT)
  | 0 => fun _ => none
  | k + 1 => M_X9_passAll_104b  (M_X9_passAll_104  k)
def M_X9_passAll_74b  (rc74 : BT × IT × Int32 → Option (BT × IT)) (a74 : BT × IT × Int32) : Option (BT × IT) :=
  if (16 : Int32) ≤ a74.2.2 then (M_X9_passAll_104  200 (a74.1, a74.2.1, (0 : Int32))) else (if vin a74.2.2 16 then (M_X9_pass a74.2.1 (a74.1.2.2.2.2.2.2.1 a74.2.2.toNatClampNeg)).bind fun r92 => if vin a74.2.2 16 then rc74 ((a74.1.1, a74.1.2.1, a74.1.2.2.1, a74.1.2.2.2.1, a74.1.2.2.2.2.1, a74.1.2.2.2.2.2.1, (upd a74.1.2.2.2.2.2.2.1 a74.2.2.toNatClampNeg r92.1), a74.1.2.2.2.2.2.2.2.1, a74.1.2.2.2.2.2.2.2.2.1, a74.1.2.2.2.2.2.2.2.2.2), r92.2, (a74.2.2 + (1 : Int32))) else none else none)
def M_X9_passAll_74  : Nat → (BT × IT × Int32) → Option (BT × IT)
  | 0 => fun _ => none
  | k + 1 => M_X9_passAll_74b  (M_X9_passAll_74  k)
def M_X9_passAll (mb : BT) (mi : IT) : Option (BT × IT) :=
  (M_X9_pass mi mb.1).bind fun r6 => (M_X9_pass r6.2 mb.2.1).bind fun r18 => (M_X9_pass r18.2 mb.2.2.1).bind fun r30 => (M_X9_pass r30.2 mb.2.2.2.1).bind fun r42 => (M_X9_pass r42.2 mb.2.2.2.2.1).bind fun r54 => (M_X9_pass r54.2 mb.2.2.2.2.2.1).bind fun r66 => M_X9_passAll_74  200 ((r6.1, r18.1, r30.1, r42.1, r54.1, r66.1, mb.2.2.2.2.2.2.1, mb.2.2.2.2.2.2.2.1, mb.2.2.2.2.2.2.2.2.1, mb.2.2.2.2.2.2.2.2.2), r66.2, (0 : Int32))
def M_X9_image (mb : BT) (mi : IT) (x1 : Int32) : Option (Int32 × BT × IT) :=
  (M_X9_in x1.toInt64 (0 : Int64) (1 : Int64)).bind fun r4 => if r4 = 0 then (some ((-2 : Int32), mb, mi)) else (if vp_nar .boolean (1 : Int32) = (1 : Int32) then (M_X9_passAll mb (((40 : Int32) * x1), (1 : Int32), mi.2.2.1, mi.2.2.2)).bind fun r27 => if vin x1 2 then some ((1 : Int32), r27.1, (r27.2.1, r27.2.2.1, r27.2.2.2.1, (upd r27.2.2.2.2 x1.toNatClampNeg (vp_nar .boolean (1 : Int32))))) else none else none)
def M_X9_refusal (mb : BT) (mo : OT) (mn : NT) (mg : GT) : Option (Int32 × NT × GT) :=
  (M_X9_fault mb mo (1 : Int32)).bind fun r2 => if r2 < 0 then ((M_X9_goWalk mb mo mn mg).bind fun r12 => if r12.2.1 < 0 then (some ((-6 : Int32), r12.1, r12.2)) else (some ((-3 : Int32), r12.1, r12.2))) else (some ((-5 : Int32), mn, mg))
def M_X9_judge_38 (mb : BT) (mo : OT) (x1 : Int32) (a38 : NT × GT) : Option (Int32 × NT × GT) :=
  if x1 = (0 : Int32) then (some (a38.2.1, a38.1, a38.2)) else (if x1 = (1 : Int32) then (some (a38.2.2.1, a38.1, a38.2)) else (if x1 = (2 : Int32) then (some (a38.2.2.2.1, a38.1, a38.2)) else (if x1 = (3 : Int32) then (some (a38.2.2.2.2.1, a38.1, a38.2)) else (if x1 = (4 : Int32) then (some (a38.2.2.2.2.2.1, a38.1, a38.2)) else (some (a38.1.1, a38.1, a38.2))))))
def M_X9_judge (mb : BT) (mo : OT) (mn : NT) (mg : GT) (x1 : Int32) : Option (Int32 × NT × GT) :=
  (M_X9_in x1.toInt64 (0 : Int64) (5 : Int64)).bind fun r6 => if r6 = 0 then (some ((-2 : Int32), mn, mg)) else ((M_X9_refusal mb mo mn mg).bind fun r16 => if r16.1 = (-5 : Int32) then (some (r16.1, r16.2.1, r16.2.2)) else (if x1 ≤ 0 then (M_X9_judge_38 mb mo x1 (r16.2.1, r16.2.2)) else (if r16.1 = (-6 : Int32) then (M_X9_judge_38 mb mo x1 (r16.2.1, r16.2.2)) else (some (r16.1, r16.2.1, r16.2.2)))))
def M_X9_leads (mb : BT) (mf : AR) (x1 : Int32) (x2 : Int32) (x3 : Int32) : Option (Int32) :=
  (M_X9_beyond mb x1 x2).bind fun r3 => if r3 < 0 then (some (0 : Int32)) else (if ((x3 >>> (r3 &&& 31)) &&& (1 : Int32)) = (1 : Int32) then (if vin r3 16 then if vin x1 16 then if (mf r3.toNatClampNeg) = ((mf x1.toNatClampNeg) - (1 : Int32)) then (some (1 : Int32)) else (some (0 : Int32)) else none else none) else (some (0 : Int32)))
def M_X9_layWay_36 (mb : BT) (x1 : Int32) (x2 : Int32) (x3 : Int32) (rc9 : AR × TT × Int32 → Option (AR × TT)) (a36 : AR × TT × Int32 × Int32) : Option (AR × TT) :=
  (M_X9_codeOf a36.2.2.2).bind fun r46 => if vin a36.2.1.1 32 then (M_X9_beyond mb a36.2.2.1 a36.2.2.2).bind fun r65 => rc9 (a36.1, ((a36.2.1.1 + (1 : Int32)), (upd a36.2.1.2 a36.2.1.1.toNatClampNeg r46)), r65) else none
def M_X9_layWay_18b (mb : BT) (x1 : Int32) (x2 : Int32) (x3 : Int32) (rc9 : AR × TT × Int32 → Option (AR × TT)) (rc18 : AR × TT × Int32 × Int32 → Option (AR × TT)) (a18 : AR × TT × Int32 × Int32) : Option (AR × TT) :=
  (M_X9_leads mb a18.1 a18.2.2.1 a18.2.2.2 x3).bind fun r24 => if r24 = 0 then (rc18 (a18.1, a18.2.1, a18.2.2.1, (a18.2.2.2 + (1 : Int32)))) else (M_X9_layWay_36 mb x1 x2 x3 rc9 (a18.1, a18.2.1, a18.2.2.1, a18.2.2.2))
def M_X9_layWay_18 (mb : BT) (x1 : Int32) (x2 : Int32) (x3 : Int32) (rc9 : AR × TT × Int32 → Option (AR × TT)) : Nat → (AR × TT × Int32 × Int32) → Option (AR × TT)
  | 0 => fun _ => none
  | k + 1 => M_X9_layWay_18b mb x1 x2 x3 rc9 (M_X9_layWay_18 mb x1 x2 x3 rc9 k)
def M_X9_layWay_9b (mb : BT) (x1 : Int32) (x2 : Int32) (x3 : Int32) (rc9 : AR × TT × Int32 → Option (AR × TT)) (a9 : AR × TT × Int32) : Option (AR × TT) :=
  if a9.2.2 = x2 then (some (a9.1, a9.2.1)) else (M_X9_layWay_18 mb x1 x2 x3 rc9 200 (a9.1, a9.2.1, a9.2.2, (0 : Int32)))
def M_X9_layWay_9 (mb : BT) (x1 : Int32) (x2 : Int32) (x3 : Int32) : Nat → (AR × TT × Int32) → Option (AR × TT)
  | 0 => fun _ => none
  | k + 1 => M_X9_layWay_9b mb x1 x2 x3 (M_X9_layWay_9 mb x1 x2 x3 k)
def M_X9_layWay (mb : BT) (mf : AR) (mt : TT) (x1 : Int32) (x2 : Int32) (x3 : Int32) : Option (AR × TT) :=
  (M_X9_findFar mb mf x2 x3).bind fun r3 => M_X9_layWay_9 mb x1 x2 x3 200 (r3, mt, x1)
def M_X9_least (mb : BT) (mf : AR) (mz : AR) (x1 : Int32) : Option (Int32 × AR × AR) :=
  (M_X9_in x1.toInt64 (0 : Int64) (1 : Int64)).bind fun r4 => if r4 = 0 then (some ((-2 : Int32), mf, mz)) else ((M_X9_floor mb).bind fun r19 => (M_X9_findFar mb mf mb.2.2.2.1 r19).bind fun r22 => if vin mb.2.2.1 16 then if (r22 mb.2.2.1.toNatClampNeg) = (1000 : Int32) then (some ((-6 : Int32), r22, mz)) else (if x1 = (1 : Int32) then (some (((2 : Int32) * (r22 mb.2.2.1.toNatClampNeg)), r22, mz)) else ((M_X9_fewestShown mb r22 mz mb.2.2.1 mb.2.2.2.1 (1 : Int32)).bind fun r66 => (M_X9_fewestShown mb r66.2.1 r66.2.2 mb.2.2.2.1 mb.2.2.1 (0 : Int32)).bind fun r79 => some ((r66.1 + r79.1), r79.2.1, r79.2.2))) else none)
def M_X9_lowest_6b (x1 : Int64) (x2 : Int64) (x3 : Int32) (rc6 : Int64 × Int64 → Option (Int64)) (a6 : Int64 × Int64) : Option (Int64) :=
  if (lg_cmp a6.2 (0 : Int64)) = 0 then (if x3 = 0 then (if ¬ a6.1 = 0 then some (x1 / a6.1) else none) else (if ¬ a6.1 = 0 then some (x2 / a6.1) else none)) else (if ¬ a6.2 = 0 then rc6 (a6.2, (a6.1 - a6.1 / a6.2 * a6.2)) else none)
def M_X9_lowest_6 (x1 : Int64) (x2 : Int64) (x3 : Int32) : Nat → (Int64 × Int64) → Option (Int64)
  | 0 => fun _ => none
  | k + 1 => M_X9_lowest_6b x1 x2 x3 (M_X9_lowest_6 x1 x2 x3 k)
def M_X9_lowest (x1 : Int64) (x2 : Int64) (x3 : Int32) : Option (Int64) :=
  M_X9_lowest_6 x1 x2 x3 200 (x2, x1)
def M_X9_meet_191 (mb : BT) (mo : OT) (x1 : Int32) (x2 : Int32) (rc73 : NT × GT × Int32 × Int32 → Option (Int32 × NT × GT)) (a191 : NT × GT × Int32 × Int32) : Option (Int32 × NT × GT) :=
  rc73 (a191.1, a191.2.1, a191.2.2.1, (a191.2.2.2 + (1 : Int32)))
def M_X9_meet_161 (mb : BT) (mo : OT) (x1 : Int32) (x2 : Int32) (rc73 : NT × GT × Int32 × Int32 → Option (Int32 × NT × GT)) (a161 : NT × GT × Int32 × Int32 × Int32 × Int32) : Option (Int32 × NT × GT) :=
  if a161.1.1 = a161.2.2.2.2.2 then (some (a161.2.2.1, a161.1, a161.2.1)) else (if a161.1.1 = a161.2.2.2.2.1 then (if a161.2.2.2.2.2 = a161.2.2.2.1 then (some (a161.2.2.1, a161.1, a161.2.1)) else (M_X9_meet_191 mb mo x1 x2 rc73 (a161.1, a161.2.1, a161.2.2.2.2.2, a161.2.2.1))) else (M_X9_meet_191 mb mo x1 x2 rc73 (a161.1, a161.2.1, a161.2.2.2.2.2, a161.2.2.1)))
def M_X9_meet_147 (mb : BT) (mo : OT) (x1 : Int32) (x2 : Int32) (rc73 : NT × GT × Int32 × Int32 → Option (Int32 × NT × GT)) (a147 : NT × GT × Int32 × Int32 × Int32 × Int32 × Int32) : Option (Int32 × NT × GT) :=
  if a147.2.2.2.2.2.2 < 0 then (M_X9_meet_161 mb mo x1 x2 rc73 (a147.1, a147.2.1, a147.2.2.2.1, a147.2.2.2.2.1, a147.2.2.2.2.2.1, a147.2.2.1)) else (M_X9_meet_161 mb mo x1 x2 rc73 (a147.1, a147.2.1, a147.2.2.2.1, a147.2.2.2.2.1, a147.2.2.2.2.2.1, a147.2.2.2.2.2.2))
def M_X9_meet_73b (mb : BT) (mo : OT) (x1 : Int32) (x2 : Int32) (rc73 : NT × GT × Int32 × Int32 → Option (Int32 × NT × GT)) (a73 : NT × GT × Int32 × Int32) : Option (Int32 × NT × GT) :=
  if mo.1 ≤ a73.2.2.2 then (some ((-6 : Int32), a73.1, a73.2.1)) else (if x2 ≤ a73.2.2.2 then (some ((-6 : Int32), a73.1, a73.2.1)) else (if vin a73.2.2.2 40 then (M_X9_wayOf (mo.2 a73.2.2.2.toNatClampNeg)).bind fun r106 => (M_X9_step mb a73.1 r106).bind fun r109 => (M_X9_fives ((x2 - (1 : Int32)) - a73.2.2.2)).bind fun r120 => if ¬ r120 = 0 then if ¬ (5 : Int32) = 0 then if ((x1 / r120) - (x1 / r120) / (5 : Int32) * (5 : Int32)) = (4 : Int32) then (M_X9_meet_147 mb mo x1 x2 rc73 (r109.2, a73.2.1, a73.2.2.1, a73.2.2.2, a73.1.1, a73.2.2.1, a73.2.2.1)) else ((M_X9_beyond mb a73.2.2.1 ((x1 / r120) - (x1 / r120) / (5 : Int32) * (5 : Int32))).bind fun r144 => M_X9_meet_147 mb mo x1 x2 rc73 (r109.2, a73.2.1, a73.2.2.1, a73.2.2.2, a73.1.1, a73.2.2.1, r144)) else none else none else none))
def M_X9_meet_73 (mb : BT) (mo : OT) (x1 : Int32) (x2 : Int32) : Nat → (NT × GT × Int32 × Int32) → Option (Int32 × NT × GT)
  | 0 => fun _ => none
  | k + 1 => M_X9_meet_73b mb mo x1 x2 (M_X9_meet_73 mb mo x1 x2 k)
def M_X9_meet_32 (mb : BT) (mo : OT) (x1 : Int32) (x2 : Int32) (a32 : NT × GT × Int32 × Int64 × Int64) : Option (Int32 × NT × GT) :=
  (M_X9_fives a32.2.2.1).bind fun r32 => (M_X9_in a32.2.2.2.2 a32.2.2.2.1 ((r32 - (1 : Int32)).toInt64)).bind fun r38 => if r38 = 0 then (some ((-2 : Int32), a32.1, a32.2.1)) else ((M_X9_refusal mb mo a32.1 a32.2.1).bind fun r48 => if r48.1 = (-6 : Int32) then ((M_X9_begin mb r48.2.1).bind fun r61 => M_X9_meet_73 mb mo x1 x2 200 (r61, r48.2.2, mb.2.2.2.1, (0 : Int32))) else (some (r48.1, r48.2.1, r48.2.2)))
def M_X9_meet (mb : BT) (mo : OT) (mn : NT) (mg : GT) (x1 : Int32) (x2 : Int32) : Option (Int32 × NT × GT) :=
  (M_X9_in x2.toInt64 (0 : Int64) (8 : Int64)).bind fun r6 => if r6 = 0 then (some ((-2 : Int32), mn, mg)) else ((M_X9_in x2.toInt64 (0 : Int64) (8 : Int64)).bind fun r21 => if r21 = 0 then (M_X9_meet_32 mb mo x1 x2 (mn, mg, (0 : Int32), (0 : Int64), x1.toInt64)) else (M_X9_meet_32 mb mo x1 x2 (mn, mg, x2, (0 : Int64), x1.toInt64)))
def M_X9_night_100 (mb : BT) (x1 : Int32) (x2 : Int32) (x3 : Int32) (rc52 : NT × Int32 × Int32 × Int32 → Option (Int32 × NT)) (a100 : NT × Int32 × Int32 × Int32 × Int32) : Option (Int32 × NT) :=
  rc52 (a100.1, a100.2.1, (a100.2.2.2.2 + a100.2.2.2.1), (a100.2.2.1 + (1 : Int32)))
def M_X9_night_52b (mb : BT) (x1 : Int32) (x2 : Int32) (x3 : Int32) (rc52 : NT × Int32 × Int32 × Int32 → Option (Int32 × NT)) (a52 : NT × Int32 × Int32 × Int32) : Option (Int32 × NT) :=
  if x2 ≤ a52.2.2.2 then (if x3 = 0 then (some (a52.2.2.1, a52.1)) else (if x3 = (1 : Int32) then (some (a52.1.1, a52.1)) else ((M_X9_ones a52.1.2.2.2).bind fun r134 => some (r134, a52.1)))) else (if ¬ (65537 : Int64) = 0 then if ¬ (5 : Int32) = 0 then (M_X9_step mb a52.1 ((((((75 : Int64) * a52.2.1.toInt64) + (74 : Int64)) - (((75 : Int64) * a52.2.1.toInt64) + (74 : Int64)) / (65537 : Int64) * (65537 : Int64)).toInt32) - (((((75 : Int64) * a52.2.1.toInt64) + (74 : Int64)) - (((75 : Int64) * a52.2.1.toInt64) + (74 : Int64)) / (65537 : Int64) * (65537 : Int64)).toInt32) / (5 : Int32) * (5 : Int32))).bind fun r81 => (M_X9_shownTo mb r81.2 (1 : Int32)).bind fun r89 => if r89 < 0 then (M_X9_night_100 mb x1 x2 x3 rc52 (r81.2, ((((75 : Int64) * a52.2.1.toInt64) + (74 : Int64)) - (((75 : Int64) * a52.2.1.toInt64) + (74 : Int64)) / (65537 : Int64) * (65537 : Int64)).toInt32, a52.2.2.2, (0 : Int32), a52.2.2.1)) else (M_X9_night_100 mb x1 x2 x3 rc52 (r81.2, ((((75 : Int64) * a52.2.1.toInt64) + (74 : Int64)) - (((75 : Int64) * a52.2.1.toInt64) + (74 : Int64)) / (65537 : Int64) * (65537 : Int64)).toInt32, a52.2.2.2, (1 : Int32), a52.2.2.1)) else none else none)
def M_X9_night_52 (mb : BT) (x1 : Int32) (x2 : Int32) (x3 : Int32) : Nat → (NT × Int32 × Int32 × Int32) → Option (Int32 × NT)
  | 0 => fun _ => none
  | k + 1 => M_X9_night_52b mb x1 x2 x3 (M_X9_night_52 mb x1 x2 x3 k)
def M_X9_night (mb : BT) (mn : NT) (x1 : Int32) (x2 : Int32) (x3 : Int32) : Option (Int32 × NT) :=
  (M_X9_in x1.toInt64 (0 : Int64) (9999 : Int64)).bind fun r6 => if r6 = 0 then (some ((-2 : Int32), mn)) else ((M_X9_in x2.toInt64 (0 : Int64) (99 : Int64)).bind fun r18 => if r18 = 0 then (some ((-2 : Int32), mn)) else ((M_X9_in x3.toInt64 (0 : Int64) (2 : Int64)).bind fun r30 => if r30 = 0 then (some ((-2 : Int32), mn)) else ((M_X9_begin mb mn).bind fun r40 => M_X9_night_52 mb x1 x2 x3 200 (r40, x1, (0 : Int32), (0 : Int32)))))
def M_X9_oneMinute_128b (mb : BT) (x1 : Int32) (rc128 : LT × Int32 → Option (LT)) (a128 : LT × Int32) : Option (LT) :=
  (M_X9_cells mb).bind fun r130 => if r130 ≤ a128.2 then (some a128.1) else (if vin a128.2 16 then if vin a128.2 16 then rc128 (((upd a128.1.1 a128.2.toNatClampNeg (a128.1.2 a128.2.toNatClampNeg)), a128.1.2), (a128.2 + (1 : Int32))) else none else none)
def M_X9_oneMinute_128 (mb : BT) (x1 : Int32) : Nat → (LT × Int32) → Option (LT)
  | 0 => fun _ => none
  | k + 1 => M_X9_oneMinute_128b mb x1 (M_X9_oneMinute_128 mb x1 k)
def M_X9_oneMinute_120 (mb : BT) (x1 : Int32) (rc30 : LT × Int32 × Int32 → Option (LT)) (a120 : LT × Int32 × Int32) : Option (LT) :=
  rc30 (a120.1, a120.2.1, (a120.2.2 + (1 : Int32)))
def M_X9_oneMinute_114 (mb : BT) (x1 : Int32) (rc30 : LT × Int32 × Int32 → Option (LT)) (rc41 : LT × Int32 × Int32 × Int32 → Option (LT)) (a114 : LT × Int32 × Int32 × Int32) : Option (LT) :=
  rc41 (a114.1, a114.2.1, a114.2.2.1, (a114.2.2.2 + (1 : Int32)))
def M_X9_oneMinute_95 (mb : BT) (x1 : Int32) (rc30 : LT × Int32 × Int32 → Option (LT)) (rc41 : LT × Int32 × Int32 × Int32 → Option (LT)) (a95 : LT × Int32 × Int32 × Int32 × Int32 × Int32 × Int32) : Option (LT) :=
  if a95.2.2.2.2.2.2 = a95.2.2.2.2.2.1 then (if vin a95.2.2.2.2.1 16 then if vin a95.2.2.1 16 then if vin a95.2.2.2.2.1 16 then M_X9_oneMinute_114 mb x1 rc30 rc41 ((a95.1.1, (upd a95.1.2 a95.2.2.2.2.1.toNatClampNeg ((a95.1.2 a95.2.2.2.2.1.toNatClampNeg) + (a95.1.1 a95.2.2.1.toNatClampNeg)))), a95.2.1, a95.2.2.1, a95.2.2.2.1) else none else none else none) else (M_X9_oneMinute_114 mb x1 rc30 rc41 (a95.1, a95.2.1, a95.2.2.1, a95.2.2.2.1))
def M_X9_oneMinute_64 (mb : BT) (x1 : Int32) (rc30 : LT × Int32 × Int32 → Option (LT)) (rc41 : LT × Int32 × Int32 × Int32 → Option (LT)) (a64 : LT × Int32 × Int32 × Int32 × Int32) : Option (LT) :=
  if a64.2.2.2.2 < 0 then (M_X9_oneMinute_114 mb x1 rc30 rc41 (a64.1, a64.2.1, a64.2.2.1, a64.2.2.2.1)) else (if vin a64.2.2.1 16 then if (a64.1.1 a64.2.2.1.toNatClampNeg) ≤ 0 then (M_X9_oneMinute_114 mb x1 rc30 rc41 (a64.1, a64.2.1, a64.2.2.1, a64.2.2.2.1)) else (if x1 = 0 then (M_X9_oneMinute_95 mb x1 rc30 rc41 (a64.1, a64.2.1, a64.2.2.1, a64.2.2.2.1, a64.2.2.2.2, (1 : Int32), ((a64.2.1 >>> (a64.2.2.2.2 &&& 31)) &&& (1 : Int32)))) else (M_X9_oneMinute_95 mb x1 rc30 rc41 (a64.1, a64.2.1, a64.2.2.1, a64.2.2.2.1, a64.2.2.2.2, (0 : Int32), ((a64.2.1 >>> (a64.2.2.2.2 &&& 31)) &&& (1 : Int32))))) else none)
def M_X9_oneMinute_41b (mb : BT) (x1 : Int32) (rc30 : LT × Int32 × Int32 → Option (LT)) (rc41 : LT × Int32 × Int32 × Int32 → Option (LT)) (a41 : LT × Int32 × Int32 × Int32) : Option (LT) :=
  if (5 : Int32) ≤ a41.2.2.2 then (M_X9_oneMinute_120 mb x1 rc30 (a41.1, a41.2.1, a41.2.2.1)) else (if a41.2.2.2 = (4 : Int32) then (M_X9_oneMinute_64 mb x1 rc30 rc41 (a41.1, a41.2.1, a41.2.2.1, a41.2.2.2, a41.2.2.1)) else ((M_X9_beyond mb a41.2.2.1 a41.2.2.2).bind fun r61 => M_X9_oneMinute_64 mb x1 rc30 rc41 (a41.1, a41.2.1, a41.2.2.1, a41.2.2.2, r61)))
def M_X9_oneMinute_41 (mb : BT) (x1 : Int32) (rc30 : LT × Int32 × Int32 → Option (LT)) : Nat → (LT × Int32 × Int32 × Int32) → Option (LT)
  | 0 => fun _ => none
  | k + 1 => M_X9_oneMinute_41b mb x1 rc30 (M_X9_oneMinute_41 mb x1 rc30 k)
def M_X9_oneMinute_30b (mb : BT) (x1 : Int32) (rc30 : LT × Int32 × Int32 → Option (LT)) (a30 : LT × Int32 × Int32) : Option (LT) :=
  (M_X9_cells mb).bind fun r32 => if r32 ≤ a30.2.2 then (M_X9_oneMinute_128 mb x1 200 (a30.1, (0 : Int32))) else (M_X9_oneMinute_41 mb x1 rc30 200 (a30.1, a30.2.1, a30.2.2, (0 : Int32)))
def M_X9_oneMinute_30 (mb : BT) (x1 : Int32) : Nat → (LT × Int32 × Int32) → Option (LT)
  | 0 => fun _ => none
  | k + 1 => M_X9_oneMinute_30b mb x1 (M_X9_oneMinute_30 mb x1 k)
def M_X9_oneMinute_7b (mb : BT) (x1 : Int32) (rc7 : LT × Int32 × Int32 → Option (LT)) (a7 : LT × Int32 × Int32) : Option (LT) :=
  (M_X9_cells mb).bind fun r9 => if r9 ≤ a7.2.2 then (M_X9_oneMinute_30 mb x1 200 (a7.1, a7.2.1, (0 : Int32))) else (if vin a7.2.2 16 then rc7 ((a7.1.1, (upd a7.1.2 a7.2.2.toNatClampNeg (0 : Int32))), a7.2.1, (a7.2.2 + (1 : Int32))) else none)
def M_X9_oneMinute_7 (mb : BT) (x1 : Int32) : Nat → (LT × Int32 × Int32) → Option (LT)
  | 0 => fun _ => none
  | k + 1 => M_X9_oneMinute_7b mb x1 (M_X9_oneMinute_7 mb x1 k)
def M_X9_oneMinute (mb : BT) (ml : LT) (x1 : Int32) : Option (LT) :=
  (M_X9_bare mb).bind fun r1 => M_X9_oneMinute_7 mb x1 200 (ml, r1, (0 : Int32))
def M_X9_place_80 (x1 : Int32) (x2 : Int32) (a80 : BT × Int32 × Int32) : Option (Int32 × BT) :=
  some (a80.2.1, (a80.1.1, a80.1.2.1, a80.1.2.2.1, a80.2.2, a80.1.2.2.2.2.1, a80.1.2.2.2.2.2.1, a80.1.2.2.2.2.2.2.1, a80.1.2.2.2.2.2.2.2.1, a80.1.2.2.2.2.2.2.2.2.1, a80.1.2.2.2.2.2.2.2.2.2))
def M_X9_place_63 (x1 : Int32) (x2 : Int32) (a63 : BT × Int32 × Int32) : Option (Int32 × BT) :=
  if x1 = (1 : Int32) then (M_X9_place_80 x1 x2 ((a63.1.1, a63.1.2.1, a63.2.2, a63.1.2.2.2.1, a63.1.2.2.2.2.1, a63.1.2.2.2.2.2.1, a63.1.2.2.2.2.2.2.1, a63.1.2.2.2.2.2.2.2.1, a63.1.2.2.2.2.2.2.2.2.1, a63.1.2.2.2.2.2.2.2.2.2), a63.2.1, x2)) else (M_X9_place_80 x1 x2 ((a63.1.1, a63.1.2.1, a63.2.2, a63.1.2.2.2.1, a63.1.2.2.2.2.1, a63.1.2.2.2.2.2.1, a63.1.2.2.2.2.2.2.1, a63.1.2.2.2.2.2.2.2.1, a63.1.2.2.2.2.2.2.2.2.1, a63.1.2.2.2.2.2.2.2.2.2), a63.2.1, a63.1.2.2.2.1))
def M_X9_place_49 (x1 : Int32) (x2 : Int32) (a49 : BT × Int32) : Option (Int32 × BT) :=
  if x1 = 0 then (M_X9_place_63 x1 x2 (a49.1, a49.2, x2)) else (M_X9_place_63 x1 x2 (a49.1, a49.2, a49.1.2.2.1))
def M_X9_place (mb : BT) (x1 : Int32) (x2 : Int32) : Option (Int32 × BT) :=
  (M_X9_isCell mb x2).bind fun r2 => if r2 = 0 then (some ((-1 : Int32), mb)) else ((M_X9_in x1.toInt64 (0 : Int64) (1 : Int64)).bind fun r14 => if r14 = 0 then (some ((-2 : Int32), mb)) else ((M_X9_isWall mb x2).bind fun r25 => if r25 = 0 then (if x1 = 0 then (M_X9_place_49 x1 x2 (mb, mb.2.2.1)) else (M_X9_place_49 x1 x2 (mb, mb.2.2.2.1))) else (some ((-3 : Int32), mb))))
def M_X9_post_143 (x1 : Int32) (rc56 : BT × Int32 × Int32 × Int32 → Option (Int32 × BT)) (a143 : BT × Int32 × Int32 × Int32) : Option (Int32 × BT) :=
  rc56 (a143.1, a143.2.1, a143.2.2.1, (a143.2.2.2 + (1 : Int32)))
def M_X9_post_142 (x1 : Int32) (rc56 : BT × Int32 × Int32 × Int32 → Option (Int32 × BT)) (a142 : BT × Int32 × Int32 × Int32) : Option (Int32 × BT) :=
  M_X9_post_143 x1 rc56 (a142.1, a142.2.1, a142.2.2.2, a142.2.2.1)
def M_X9_post_129 (x1 : Int32) (rc56 : BT × Int32 × Int32 × Int32 → Option (Int32 × BT)) (a129 : BT × Int32 × Int32 × Int32 × Int32) : Option (Int32 × BT) :=
  if a129.2.1 ≤ a129.2.2.2.1 then (M_X9_post_142 x1 rc56 (a129.1, a129.2.2.2.2, a129.2.2.1, a129.2.1)) else (M_X9_post_142 x1 rc56 (a129.1, a129.2.2.2.2, a129.2.2.1, a129.2.2.2.1))
def M_X9_post_56b (x1 : Int32) (rc56 : BT × Int32 × Int32 × Int32 → Option (Int32 × BT)) (a56 : BT × Int32 × Int32 × Int32) : Option (Int32 × BT) :=
  (M_X9_cells a56.1).bind fun r60 => if ((4 : Int32) * r60) ≤ a56.2.2.2 then (if x1 = 0 then (some (a56.2.1, (a56.1.1, a56.1.2.1, a56.1.2.2.1, a56.1.2.2.2.1, (a56.1.2.2.2.2.1 - (1 : Int32)), a56.1.2.2.2.2.2.1, a56.1.2.2.2.2.2.2.1, a56.1.2.2.2.2.2.2.2.1, a56.1.2.2.2.2.2.2.2.2.1, a56.1.2.2.2.2.2.2.2.2.2))) else (some (a56.2.2.1, (a56.1.1, a56.1.2.1, a56.1.2.2.1, a56.1.2.2.2.1, (a56.1.2.2.2.2.1 - (1 : Int32)), a56.1.2.2.2.2.2.1, a56.1.2.2.2.2.2.2.1, a56.1.2.2.2.2.2.2.2.1, a56.1.2.2.2.2.2.2.2.2.1, a56.1.2.2.2.2.2.2.2.2.2)))) else (if ¬ (4 : Int32) = 0 then (M_X9_isWall a56.1 (a56.2.2.2 / (4 : Int32))).bind fun r72 => if r72 = 0 then (if ¬ (4 : Int32) = 0 then if vin (a56.1.2.2.2.2.1 - (1 : Int32)) 4 then if ¬ (4 : Int32) = 0 then if vin (a56.1.2.2.2.2.1 - (1 : Int32)) 4 then (M_X9_bare (a56.1.1, a56.1.2.1, a56.1.2.2.1, a56.1.2.2.2.1, a56.1.2.2.2.2.1, a56.1.2.2.2.2.2.1, a56.1.2.2.2.2.2.2.1, (upd a56.1.2.2.2.2.2.2.2.1 (a56.1.2.2.2.2.1 - (1 : Int32)).toNatClampNeg (a56.2.2.2 / (4 : Int32))), (upd a56.1.2.2.2.2.2.2.2.2.1 (a56.1.2.2.2.2.1 - (1 : Int32)).toNatClampNeg (a56.2.2.2 - a56.2.2.2 / (4 : Int32) * (4 : Int32))), a56.1.2.2.2.2.2.2.2.2.2)).bind fun r109 => (M_X9_ones r109).bind fun r112 => if a56.2.2.1 ≤ r112 then (M_X9_post_129 x1 rc56 ((a56.1.1, a56.1.2.1, a56.1.2.2.1, a56.1.2.2.2.1, a56.1.2.2.2.2.1, a56.1.2.2.2.2.2.1, a56.1.2.2.2.2.2.2.1, (upd a56.1.2.2.2.2.2.2.2.1 (a56.1.2.2.2.2.1 - (1 : Int32)).toNatClampNeg (a56.2.2.2 / (4 : Int32))), (upd a56.1.2.2.2.2.2.2.2.2.1 (a56.1.2.2.2.2.1 - (1 : Int32)).toNatClampNeg (a56.2.2.2 - a56.2.2.2 / (4 : Int32) * (4 : Int32))), a56.1.2.2.2.2.2.2.2.2.2), a56.2.2.1, a56.2.2.2, r112, a56.2.1)) else (M_X9_post_129 x1 rc56 ((a56.1.1, a56.1.2.1, a56.1.2.2.1, a56.1.2.2.2.1, a56.1.2.2.2.2.1, a56.1.2.2.2.2.2.1, a56.1.2.2.2.2.2.2.1, (upd a56.1.2.2.2.2.2.2.2.1 (a56.1.2.2.2.2.1 - (1 : Int32)).toNatClampNeg (a56.2.2.2 / (4 : Int32))), (upd a56.1.2.2.2.2.2.2.2.2.1 (a56.1.2.2.2.2.1 - (1 : Int32)).toNatClampNeg (a56.2.2.2 - a56.2.2.2 / (4 : Int32) * (4 : Int32))), a56.1.2.2.2.2.2.2.2.2.2), a56.2.2.1, a56.2.2.2, r112, a56.2.2.2)) else none else none else none else none) else (M_X9_post_143 x1 rc56 (a56.1, a56.2.1, a56.2.2.1, a56.2.2.2)) else none)
def M_X9_post_56 (x1 : Int32) : Nat → (BT × Int32 × Int32 × Int32) → Option (Int32 × BT)
  | 0 => fun _ => none
  | k + 1 => M_X9_post_56b x1 (M_X9_post_56 x1 k)
def M_X9_post (mb : BT) (x1 : Int32) : Option (Int32 × BT) :=
  (M_X9_in x1.toInt64 (0 : Int64) (1 : Int64)).bind fun r4 => if r4 = 0 then (some ((-2 : Int32), mb)) else (if mb.2.2.2.2.1 = (4 : Int32) then (some ((-4 : Int32), mb)) else (if vin ((mb.2.2.2.2.1 + (1 : Int32)) - (1 : Int32)) 4 then M_X9_post_56 x1 200 ((mb.1, mb.2.1, mb.2.2.1, mb.2.2.2.1, (mb.2.2.2.2.1 + (1 : Int32)), mb.2.2.2.2.2.1, mb.2.2.2.2.2.2.1, mb.2.2.2.2.2.2.2.1, mb.2.2.2.2.2.2.2.2.1, (upd mb.2.2.2.2.2.2.2.2.2 ((mb.2.2.2.2.1 + (1 : Int32)) - (1 : Int32)).toNatClampNeg (0 : Int32))), (-6 : Int32), (1000 : Int32), (0 : Int32)) else none))
def M_X9_restore (mb : BT) (mi : IT) (x1 : Int32) : Option (Int32 × BT × IT) :=
  (M_X9_in x1.toInt64 (0 : Int64) (1 : Int64)).bind fun r4 => if r4 = 0 then (some ((-2 : Int32), mb, mi)) else (if vin x1 2 then if (mi.2.2.2 x1.toNatClampNeg) = 0 then (some ((-3 : Int32), mb, mi)) else (if vp_nar .boolean (0 : Int32) = (0 : Int32) then (M_X9_passAll mb (((40 : Int32) * x1), (0 : Int32), mi.2.2.1, mi.2.2.2)).bind fun r39 => some ((1 : Int32), r39.1, r39.2) else none) else none)
def M_X9_safe (mb : BT) (mf : AR) (mt : TT) (x1 : Int32) : Option (Int32 × AR × TT) :=
  (M_X9_bare mb).bind fun r1 => (M_X9_findFar mb mf mb.2.2.2.1 r1).bind fun r16 => if vin mb.2.2.1 16 then if (r16 mb.2.2.1.toNatClampNeg) = (1000 : Int32) then (some ((-6 : Int32), r16, ((0 : Int32), mt.2))) else ((M_X9_layWay mb r16 ((0 : Int32), mt.2) mb.2.2.1 mb.2.2.2.1 r1).bind fun r47 => (M_X9_findFar mb r47.1 mb.2.2.1 (r1 ||| ((1 : Int32) <<< (mb.2.2.1 &&& 31)))).bind fun r65 => if vin mb.2.2.2.1 16 then if (r65 mb.2.2.2.1.toNatClampNeg) = (1000 : Int32) then (some ((-6 : Int32), r65, r47.2)) else ((M_X9_layWay mb r65 r47.2 mb.2.2.2.1 mb.2.2.1 (r1 ||| ((1 : Int32) <<< (mb.2.2.1 &&& 31)))).bind fun r96 => if x1 = (-1 : Int32) then (some (r96.2.1, r96.1, r96.2)) else ((M_X9_in x1.toInt64 (0 : Int64) ((r96.2.1 - (1 : Int32)).toInt64)).bind fun r121 => if r121 = 0 then (some ((-6 : Int32), r96.1, r96.2)) else (if vin x1 32 then some ((r96.2.2 x1.toNatClampNeg), r96.1, r96.2) else none))) else none) else none
def M_X9_say (mo : OT) (x1 : Int32) : Option (Int32 × OT) :=
  (M_X9_in x1.toInt64 (33 : Int64) (126 : Int64)).bind fun r8 => if r8 = 0 then (some ((-2 : Int32), mo)) else (if mo.1 = (40 : Int32) then (some ((-4 : Int32), mo)) else (if vin mo.1 40 then some ((mo.1 + (1 : Int32)), ((mo.1 + (1 : Int32)), (upd mo.2 mo.1.toNatClampNeg x1))) else none))
def M_X9_sees (mb : BT) (x1 : Int32) : Option (Int32) :=
  (M_X9_in x1.toInt64 (0 : Int64) ((mb.2.2.2.2.1 - (1 : Int32)).toInt64)).bind fun r10 => if r10 = 0 then (some (-1 : Int32)) else ((M_X9_seenBy mb x1).bind fun r18 => some r18)
def M_X9_told (mb : BT) (mo : OT) (x1 : Int32) : Option (Int32) :=
  (M_X9_in x1.toInt64 (10 : Int64) (49 : Int64)).bind fun r8 => if r8 = 0 then (if x1 = (0 : Int32) then (some mo.1) else (if x1 = (1 : Int32) then (some mb.1) else (if x1 = (2 : Int32) then (some mb.2.1) else (if x1 = (3 : Int32) then (some mb.2.2.1) else (if x1 = (4 : Int32) then (some mb.2.2.2.1) else (if x1 = (5 : Int32) then (some mb.2.2.2.2.1) else (if x1 = (6 : Int32) then (some mb.2.2.2.2.2.1) else (some (-2 : Int32))))))))) else (if ¬ (10 : Int32) = 0 then if ¬ (10 : Int32) = 0 then if mb.2.2.2.2.1 ≤ ((x1 / (10 : Int32)) - (1 : Int32)) then (some (-2 : Int32)) else (if (x1 - x1 / (10 : Int32) * (10 : Int32)) ≤ (2 : Int32) then (if (x1 - x1 / (10 : Int32) * (10 : Int32)) = 0 then (if vin ((x1 / (10 : Int32)) - (1 : Int32)) 4 then some (mb.2.2.2.2.2.2.2.1 ((x1 / (10 : Int32)) - (1 : Int32)).toNatClampNeg) else none) else (if (x1 - x1 / (10 : Int32) * (10 : Int32)) = (1 : Int32) then (if vin ((x1 / (10 : Int32)) - (1 : Int32)) 4 then some (mb.2.2.2.2.2.2.2.2.1 ((x1 / (10 : Int32)) - (1 : Int32)).toNatClampNeg) else none) else (if vin ((x1 / (10 : Int32)) - (1 : Int32)) 4 then some (mb.2.2.2.2.2.2.2.2.2 ((x1 / (10 : Int32)) - (1 : Int32)).toNatClampNeg) else none))) else (some (-2 : Int32))) else none else none)
def M_X9_watch_84 (x1 : Int32) (x2 : Int32) (x3 : Int32) (a84 : BT × Int32 × Int32) : Option (Int32 × BT) :=
  if vin a84.2.2 4 then some ((a84.1.2.2.2.2.1 + (1 : Int32)), (a84.1.1, a84.1.2.1, a84.1.2.2.1, a84.1.2.2.2.1, (a84.1.2.2.2.2.1 + (1 : Int32)), a84.1.2.2.2.2.2.1, a84.1.2.2.2.2.2.2.1, a84.1.2.2.2.2.2.2.2.1, a84.1.2.2.2.2.2.2.2.2.1, (upd a84.1.2.2.2.2.2.2.2.2.2 a84.2.2.toNatClampNeg a84.2.1))) else none
def M_X9_watch (mb : BT) (x1 : Int32) (x2 : Int32) (x3 : Int32) : Option (Int32 × BT) :=
  (M_X9_isCell mb x1).bind fun r2 => if r2 = 0 then (some ((-1 : Int32), mb)) else ((M_X9_in x2.toInt64 (0 : Int64) (3 : Int64)).bind fun r16 => if r16 = 0 then (some ((-2 : Int32), mb)) else ((M_X9_isWall mb x1).bind fun r27 => if r27 = 0 then (if mb.2.2.2.2.1 = (4 : Int32) then (some ((-4 : Int32), mb)) else (if vin mb.2.2.2.2.1 4 then if vin mb.2.2.2.2.1 4 then if x3 = 0 then (M_X9_watch_84 x1 x2 x3 ((mb.1, mb.2.1, mb.2.2.1, mb.2.2.2.1, mb.2.2.2.2.1, mb.2.2.2.2.2.1, mb.2.2.2.2.2.2.1, (upd mb.2.2.2.2.2.2.2.1 mb.2.2.2.2.1.toNatClampNeg x1), (upd mb.2.2.2.2.2.2.2.2.1 mb.2.2.2.2.1.toNatClampNeg x2), mb.2.2.2.2.2.2.2.2.2), (0 : Int32), mb.2.2.2.2.1)) else (M_X9_watch_84 x1 x2 x3 ((mb.1, mb.2.1, mb.2.2.1, mb.2.2.2.1, mb.2.2.2.2.1, mb.2.2.2.2.2.1, mb.2.2.2.2.2.2.1, (upd mb.2.2.2.2.2.2.2.1 mb.2.2.2.2.1.toNatClampNeg x1), (upd mb.2.2.2.2.2.2.2.2.1 mb.2.2.2.2.1.toNatClampNeg x2), mb.2.2.2.2.2.2.2.2.2), (1 : Int32), mb.2.2.2.2.1)) else none else none)) else (some ((-3 : Int32), mb))))
def M_X9_where_165 (mb : BT) (x1 : Int32) (x2 : Int32) (x3 : Int32) (rc136 : LT × Int32 × Int32 × Int32 → Option (Int32 × LT)) (a165 : LT × Int32 × Int32 × Int32 × Int32) : Option (Int32 × LT) :=
  if vin a165.2.2.1 16 then rc136 (a165.1, (a165.2.2.2.2 ||| a165.2.2.2.1), (a165.2.1 + (a165.1.1 a165.2.2.1.toNatClampNeg)), (a165.2.2.1 + (1 : Int32))) else none
def M_X9_where_136b (mb : BT) (x1 : Int32) (x2 : Int32) (x3 : Int32) (rc136 : LT × Int32 × Int32 × Int32 → Option (Int32 × LT)) (a136 : LT × Int32 × Int32 × Int32) : Option (Int32 × LT) :=
  (M_X9_cells mb).bind fun r139 => if r139 ≤ a136.2.2.2 then (if x3 = 0 then (some (a136.2.1, a136.1)) else (some (a136.2.2.1, a136.1))) else (if vin a136.2.2.2 16 then if (a136.1.1 a136.2.2.2.toNatClampNeg) ≤ 0 then (M_X9_where_165 mb x1 x2 x3 rc136 (a136.1, a136.2.2.1, a136.2.2.2, (0 : Int32), a136.2.1)) else (M_X9_where_165 mb x1 x2 x3 rc136 (a136.1, a136.2.2.1, a136.2.2.2, ((1 : Int32) <<< (a136.2.2.2 &&& 31)), a136.2.1)) else none)
def M_X9_where_136 (mb : BT) (x1 : Int32) (x2 : Int32) (x3 : Int32) : Nat → (LT × Int32 × Int32 × Int32) → Option (Int32 × LT)
  | 0 => fun _ => none
  | k + 1 => M_X9_where_136b mb x1 x2 x3 (M_X9_where_136 mb x1 x2 x3 k)
def M_X9_where_118 (mb : BT) (x1 : Int32) (x2 : Int32) (x3 : Int32) (rc96 : LT × Int32 → Option (Int32 × LT)) (a118 : LT × Int32 × Int32) : Option (Int32 × LT) :=
  (M_X9_oneMinute mb a118.1 a118.2.2).bind fun r118 => rc96 (r118, (a118.2.1 + (1 : Int32)))
def M_X9_where_96b (mb : BT) (x1 : Int32) (x2 : Int32) (x3 : Int32) (rc96 : LT × Int32 → Option (Int32 × LT)) (a96 : LT × Int32) : Option (Int32 × LT) :=
  if x2 ≤ a96.2 then (M_X9_where_136 mb x1 x2 x3 200 (a96.1, (0 : Int32), (0 : Int32), (0 : Int32))) else (if ((x1 >>> (a96.2 &&& 31)) &&& (1 : Int32)) = (1 : Int32) then (M_X9_where_118 mb x1 x2 x3 rc96 (a96.1, a96.2, (1 : Int32))) else (M_X9_where_118 mb x1 x2 x3 rc96 (a96.1, a96.2, (0 : Int32))))
def M_X9_where_96 (mb : BT) (x1 : Int32) (x2 : Int32) (x3 : Int32) : Nat → (LT × Int32) → Option (Int32 × LT)
  | 0 => fun _ => none
  | k + 1 => M_X9_where_96b mb x1 x2 x3 (M_X9_where_96 mb x1 x2 x3 k)
def M_X9_where_86 (mb : BT) (x1 : Int32) (x2 : Int32) (x3 : Int32) (rc59 : LT × Int32 → Option (Int32 × LT)) (a86 : LT × Int32 × Int32 × Int32) : Option (Int32 × LT) :=
  if vin a86.2.2.2 16 then rc59 (((upd a86.1.1 a86.2.2.2.toNatClampNeg a86.2.2.1), a86.1.2), (a86.2.1 + (1 : Int32))) else none
def M_X9_where_59b (mb : BT) (x1 : Int32) (x2 : Int32) (x3 : Int32) (rc59 : LT × Int32 → Option (Int32 × LT)) (a59 : LT × Int32) : Option (Int32 × LT) :=
  if (16 : Int32) ≤ a59.2 then (M_X9_where_96 mb x1 x2 x3 200 (a59.1, (0 : Int32))) else (if a59.2 = mb.2.2.1 then (M_X9_where_86 mb x1 x2 x3 rc59 (a59.1, a59.2, (1 : Int32), a59.2)) else (M_X9_where_86 mb x1 x2 x3 rc59 (a59.1, a59.2, (0 : Int32), a59.2)))
def M_X9_where_59 (mb : BT) (x1 : Int32) (x2 : Int32) (x3 : Int32) : Nat → (LT × Int32) → Option (Int32 × LT)
  | 0 => fun _ => none
  | k + 1 => M_X9_where_59b mb x1 x2 x3 (M_X9_where_59 mb x1 x2 x3 k)
def M_X9_where_43 (mb : BT) (x1 : Int32) (x2 : Int32) (x3 : Int32) (a43 : LT × Int32 × Int32 × Int64 × Int64) : Option (Int32 × LT) :=
  (M_X9_in a43.2.2.2.2 a43.2.2.2.1 (((a43.2.2.1 <<< (a43.2.1 &&& 31)) - (1 : Int32)).toInt64)).bind fun r47 => if r47 = 0 then (some ((-2 : Int32), a43.1)) else (M_X9_where_59 mb x1 x2 x3 200 (a43.1, (0 : Int32)))
def M_X9_where (mb : BT) (ml : LT) (x1 : Int32) (x2 : Int32) (x3 : Int32) : Option (Int32 × LT) :=
  (M_X9_in x2.toInt64 (0 : Int64) (8 : Int64)).bind fun r6 => if r6 = 0 then (some ((-2 : Int32), ml)) else ((M_X9_in x3.toInt64 (0 : Int64) (1 : Int64)).bind fun r16 => if r16 = 0 then (some ((-2 : Int32), ml)) else ((M_X9_in x2.toInt64 (0 : Int64) (8 : Int64)).bind fun r32 => if r32 = 0 then (M_X9_where_43 mb x1 x2 x3 (ml, (0 : Int32), (1 : Int32), (0 : Int64), x1.toInt64)) else (M_X9_where_43 mb x1 x2 x3 (ml, x2, (1 : Int32), (0 : Int64), x1.toInt64))))
def M_X9_wind_22 (mb : BT) (mo : OT) (x1 : Int32) (x2 : Int32) (a22 : NT × GT) : Option (Int64 × NT × GT) :=
  some ((-1000000000000000002 : Int64), a22.1, a22.2)
def M_X9_wind_80b (mb : BT) (mo : OT) (x1 : Int32) (x2 : Int32) (rc80 : NT × GT × Int64 × Int64 × Int32 → Option (Int64 × NT × GT)) (a80 : NT × GT × Int64 × Int64 × Int32) : Option (Int64 × NT × GT) :=
  if a80.2.1.2.2.2.2.2 ≤ a80.2.2.2.2 then ((M_X9_lowest a80.2.2.1 a80.2.2.2.1 x2).bind fun r115 => some (r115, a80.1, a80.2.1)) else (rc80 (a80.1, a80.2.1, (a80.2.2.1 * x1.toInt64), (a80.2.2.2.1 * (10 : Int64)), (a80.2.2.2.2 + (1 : Int32))))
def M_X9_wind_80 (mb : BT) (mo : OT) (x1 : Int32) (x2 : Int32) : Nat → (NT × GT × Int64 × Int64 × Int32) → Option (Int64 × NT × GT)
  | 0 => fun _ => none
  | k + 1 => M_X9_wind_80b mb mo x1 x2 (M_X9_wind_80 mb mo x1 x2 k)
def M_X9_wind (mb : BT) (mo : OT) (mn : NT) (mg : GT) (x1 : Int32) (x2 : Int32) : Option (Int64 × NT × GT) :=
  (M_X9_in x1.toInt64 (0 : Int64) (10 : Int64)).bind fun r6 => if r6 = 0 then (M_X9_wind_22 mb mo x1 x2 (mn, mg)) else ((M_X9_in x2.toInt64 (0 : Int64) (1 : Int64)).bind fun r16 => if r16 = 0 then (M_X9_wind_22 mb mo x1 x2 (mn, mg)) else ((M_X9_refusal mb mo mn mg).bind fun r27 => if r27.1 = (-6 : Int32) then (if r27.2.2.2.2.2.2.2 ≤ (12 : Int32) then (if r27.2.2.2.2.2.2.1 ≤ r27.2.2.2.2.2.2.2 then (M_X9_wind_80 mb mo x1 x2 200 (r27.2.1, r27.2.2, (1 : Int64), (1 : Int64), (0 : Int32))) else (some (x2.toInt64, r27.2.1, r27.2.2))) else (some ((-1000000000000000004 : Int64), r27.2.1, r27.2.2))) else (some (((-1000000000000000000 : Int64) + r27.1.toInt64), r27.2.1, r27.2.2))))
def M_X9_wipe (mo : OT) : Option (Int32 × OT) :=
  some (mo.1, ((0 : Int32), mo.2))
