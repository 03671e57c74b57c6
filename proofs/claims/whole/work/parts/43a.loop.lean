/-! The loop over the script: every call answers alike -/
theorem lt4 {L j : Nat} (hL : L ≤ 300) (hj : j ≤ 300) : (Int32.ofNat L - (4 : Int32) < nI j) ↔ L < j + 4 := by
  show nI L - nI 4 < nI j ↔ _
  rw [Int32.lt_iff_toInt_lt, pk_sub_toInt (by omega) (by omega), nI_toInt (by omega)]
  omega
set_option maxHeartbeats 8000000 in
theorem lw_ops {L : Nat} (xs : Nat → Int32) (hL : L ≤ 256) : ∀ fu j (p : PT) (h : HT) (v : VT) (k1 : Int32) (h1 : HT) (v1 : VT) (k2 : Int32) (h2 : HT) (v2 : VT) (r : RT) (d : DT) (y : YT) (q : QT) (mb : BT) (mo : OT) (mn : NT) (mg : GT) (mf : AR) (mt : TT) (mz : AR) (ml : LT) (mi : IT), j ≤ L → L + 8 - j < 4 * fu → RPd p mo → RH h v mb → RIm 0 k1 h1 v1 mi → RIm 1 k2 h2 v2 mi → M_L_law_18 L xs fu (p, h, v, k1, h1, v1, k2, h2, v2, r, d, y, q, mb, mo, mn, mg, mf, mt, mz, ml, mi, nI j) = some () := by
  intro fu
  induction fu with
  | zero => intro j p h v k1 h1 v1 k2 h2 v2 r d y q mb mo mn mg mf mt mz ml mi _ hf; omega
  | succ fu ih =>
    intro j p h v k1 h1 v1 k2 h2 v2 r d y q mb mo mn mg mf mt mz ml mi hj hf rp rh i1 i2
    show M_L_law_18b L xs (M_L_law_18 L xs fu) (p, h, v, k1, h1, v1, k2, h2, v2, r, d, y, q, mb, mo, mn, mg, mf, mt, mz, ml, mi, nI j) = some ()
    unfold M_L_law_18b
    dsimp only
    by_cases end4 : L < j + 4
    · rw [if_pos ((lt4 (by omega) (by omega)).mpr end4)]
    rw [if_neg (fun z => end4 ((lt4 (by omega) (by omega)).mp z))]
    have s1 : nI j + (1 : Int32) = nI (j + 1) := nI_add j 1
    have s2 : nI j + (2 : Int32) = nI (j + 2) := nI_add j 2
    have s3 : nI j + (3 : Int32) = nI (j + 3) := nI_add j 3
    have s4 : nI j + (4 : Int32) = nI (j + 4) := nI_add j 4
    have w0 : vin (nI j) L := nI_in (by omega) (by omega)
    have w1 : vin (nI j + (1 : Int32)) L := by rw [s1]; exact nI_in (by omega) (by omega)
    have w2 : vin (nI j + (2 : Int32)) L := by rw [s2]; exact nI_in (by omega) (by omega)
    have w3 : vin (nI j + (3 : Int32)) L := by rw [s3]; exact nI_in (by omega) (by omega)
    have go : ∀ (p : PT) (h : HT) (v : VT) (k1 : Int32) (h1 : HT) (v1 : VT) (k2 : Int32) (h2 : HT) (v2 : VT) (r : RT) (d : DT) (y : YT) (q : QT) (mb : BT) (mo : OT) (mn : NT) (mg : GT) (mf : AR) (mt : TT) (mz : AR) (ml : LT) (mi : IT), RPd p mo → RH h v mb → RIm 0 k1 h1 v1 mi → RIm 1 k2 h2 v2 mi → M_L_law_773 L xs (M_L_law_18 L xs fu) (p, h, v, k1, h1, v1, k2, h2, v2, r, d, y, q, mb, mo, mn, mg, mf, mt, mz, ml, mi, nI j) = some () := by
      intro p h v k1 h1 v1 k2 h2 v2 r d y q mb mo mn mg mf mt mz ml mi rp rh i1 i2
      unfold M_L_law_773
      dsimp only
      rw [s4]
      exact ih (j + 4) _ _ _ _ _ _ _ _ _ _ _ _ _ _ _ _ _ _ _ _ _ _ (by omega) (by omega) rp rh i1 i2
    clear ih
    rw [if_pos w0]
    by_cases c0 : (xs (nI j).toNatClampNeg) &&& (31 : Int32) = (0 : Int32)
    · rw [if_pos c0]
      rw [if_pos w1, if_pos w2]
      obtain ⟨z, h', v', mb', e1, e2, rh'⟩ := op_house (xs (nI j + 1).toNatClampNeg) (xs (nI j + 2).toNatClampNeg) rh
      rw [e1, bx, if_pos w1, if_pos w2]
      rw [e2, bx]
      try dsimp only
      rw [if_pos rfl]
      exact go _ _ _ _ _ _ _ _ _ _ _ _ _ _ _ _ _ _ _ _ _ _ rp rh' i1 i2
    rw [if_neg c0]
    by_cases c1 : (xs (nI j).toNatClampNeg) &&& (31 : Int32) = (1 : Int32)
    · rw [if_pos c1]
      rw [if_pos w1]
      obtain ⟨z, p', mo', e1, e2, rp'⟩ := op_say (xs (nI j + 1).toNatClampNeg) rp
      rw [e1, bx, if_pos w1]
      rw [e2, bx]
      try dsimp only
      rw [if_pos rfl]
      exact go _ _ _ _ _ _ _ _ _ _ _ _ _ _ _ _ _ _ _ _ _ _ rp' rh i1 i2
    rw [if_neg c1]
    by_cases c2 : (xs (nI j).toNatClampNeg) &&& (31 : Int32) = (2 : Int32)
    · rw [if_pos c2]
      obtain ⟨z, p', mo', e1, e2, rp'⟩ := op_wipe rp
      rw [e1, bx]
      rw [e2, bx]
      try dsimp only
      rw [if_pos rfl]
      exact go _ _ _ _ _ _ _ _ _ _ _ _ _ _ _ _ _ _ _ _ _ _ rp' rh i1 i2
    rw [if_neg c2]
    by_cases c3 : (xs (nI j).toNatClampNeg) &&& (31 : Int32) = (3 : Int32)
    · rw [if_pos c3]
      rw [if_pos w1]
      obtain ⟨z, e1, e2⟩ := op_fault (xs (nI j + 1).toNatClampNeg) rp rh
      rw [e1, bx, if_pos w1]
      rw [e2, bx]
      try dsimp only
      rw [if_pos rfl]
      exact go _ _ _ _ _ _ _ _ _ _ _ _ _ _ _ _ _ _ _ _ _ _ rp rh i1 i2
    rw [if_neg c3]
    by_cases c4 : (xs (nI j).toNatClampNeg) &&& (31 : Int32) = (4 : Int32)
    · rw [if_pos c4]
      obtain ⟨z, p', h', v', mb', mo', e1, e2, rp', rh'⟩ := op_build rp rh
      rw [e1, bx]
      rw [e2, bx]
      try dsimp only
      rw [if_pos rfl]
      exact go _ _ _ _ _ _ _ _ _ _ _ _ _ _ _ _ _ _ _ _ _ _ rp' rh' i1 i2
    rw [if_neg c4]
    by_cases c5 : (xs (nI j).toNatClampNeg) &&& (31 : Int32) = (5 : Int32)
    · rw [if_pos c5]
      rw [if_pos w1]
      obtain ⟨z, e1, e2⟩ := op_cell (xs (nI j + 1).toNatClampNeg) rh
      rw [e1, bx, if_pos w1]
      rw [e2, bx]
      try dsimp only
      rw [if_pos rfl]
      exact go _ _ _ _ _ _ _ _ _ _ _ _ _ _ _ _ _ _ _ _ _ _ rp rh i1 i2
    rw [if_neg c5]
    by_cases c6 : (xs (nI j).toNatClampNeg) &&& (31 : Int32) = (6 : Int32)
    · rw [if_pos c6]
      rw [if_pos w1, if_pos w2]
      obtain ⟨z, h', mb', e1, e2, rh'⟩ := op_place (xs (nI j + 1).toNatClampNeg) (xs (nI j + 2).toNatClampNeg) rh
      rw [e1, bx, if_pos w1, if_pos w2]
      rw [e2, bx]
      try dsimp only
      rw [if_pos rfl]
      exact go _ _ _ _ _ _ _ _ _ _ _ _ _ _ _ _ _ _ _ _ _ _ rp rh' i1 i2
    rw [if_neg c6]
    by_cases c7 : (xs (nI j).toNatClampNeg) &&& (31 : Int32) = (7 : Int32)
    · rw [if_pos c7]
      rw [if_pos w1, if_pos w2, if_pos w3]
      by_cases t : (xs (nI j + 3).toNatClampNeg) = 0
      · rw [if_pos t]
        unfold M_L_law_329
        dsimp only
        obtain ⟨z, v', mb', e1, e2, rh'⟩ := op_watch (xs (nI j + 1).toNatClampNeg) (xs (nI j + 2).toNatClampNeg) 0 rh
        rw [e1, bx, if_pos w1, if_pos w2, if_pos w3, if_pos t]
        unfold M_L_law_356
        dsimp only
        rw [e2, bx]
        dsimp only
        rw [if_pos rfl]
        exact go _ _ _ _ _ _ _ _ _ _ _ _ _ _ _ _ _ _ _ _ _ _ rp rh' i1 i2
      · rw [if_neg t]
        unfold M_L_law_329
        dsimp only
        obtain ⟨z, v', mb', e1, e2, rh'⟩ := op_watch (xs (nI j + 1).toNatClampNeg) (xs (nI j + 2).toNatClampNeg) 1 rh
        rw [e1, bx, if_pos w1, if_pos w2, if_pos w3, if_neg t]
        unfold M_L_law_356
        dsimp only
        rw [e2, bx]
        dsimp only
        rw [if_pos rfl]
        exact go _ _ _ _ _ _ _ _ _ _ _ _ _ _ _ _ _ _ _ _ _ _ rp rh' i1 i2
    rw [if_neg c7]
    by_cases c8 : (xs (nI j).toNatClampNeg) &&& (31 : Int32) = (8 : Int32)
    · rw [if_pos c8]
      obtain ⟨z, v', mb', e1, e2, rh'⟩ := op_dismiss rh
      rw [e1, bx]
      rw [e2, bx]
      try dsimp only
      rw [if_pos rfl]
      exact go _ _ _ _ _ _ _ _ _ _ _ _ _ _ _ _ _ _ _ _ _ _ rp rh' i1 i2
    rw [if_neg c8]
    by_cases c9 : (xs (nI j).toNatClampNeg) &&& (31 : Int32) = (9 : Int32)
    · rw [if_pos c9]
      rw [if_pos w1]
      obtain ⟨z, h', mb', e1, e2, rh'⟩ := op_ears (xs (nI j + 1).toNatClampNeg) rh
      rw [e1, bx, if_pos w1]
      rw [e2, bx]
      try dsimp only
      rw [if_pos rfl]
      exact go _ _ _ _ _ _ _ _ _ _ _ _ _ _ _ _ _ _ _ _ _ _ rp rh' i1 i2
    rw [if_neg c9]
    by_cases c10 : (xs (nI j).toNatClampNeg) &&& (31 : Int32) = (10 : Int32)
    · rw [if_pos c10]
      rw [if_pos w1]
      obtain ⟨z, r', d', mn', mg', e1, e2⟩ := op_judge r d mn mg (xs (nI j + 1).toNatClampNeg) rp rh
      rw [e1, bx, if_pos w1]
      rw [e2, bx]
      try dsimp only
      rw [if_pos rfl]
      exact go _ _ _ _ _ _ _ _ _ _ _ _ _ _ _ _ _ _ _ _ _ _ rp rh i1 i2
    rw [if_neg c10]
    by_cases c11 : (xs (nI j).toNatClampNeg) &&& (31 : Int32) = (11 : Int32)
    · rw [if_pos c11]
      rw [if_pos w1]
      obtain ⟨z, e1, e2⟩ := op_sees (xs (nI j + 1).toNatClampNeg) rh
      rw [e1, bx, if_pos w1]
      rw [e2, bx]
      try dsimp only
      rw [if_pos rfl]
      exact go _ _ _ _ _ _ _ _ _ _ _ _ _ _ _ _ _ _ _ _ _ _ rp rh i1 i2
    rw [if_neg c11]
    by_cases c12 : (xs (nI j).toNatClampNeg) &&& (31 : Int32) = (12 : Int32)
    · rw [if_pos c12]
      obtain ⟨z, e1, e2⟩ := op_bare rh
      rw [e1, bx]
      rw [e2, bx]
      try dsimp only
      rw [if_pos rfl]
      exact go _ _ _ _ _ _ _ _ _ _ _ _ _ _ _ _ _ _ _ _ _ _ rp rh i1 i2
    rw [if_neg c12]
    by_cases c13 : (xs (nI j).toNatClampNeg) &&& (31 : Int32) = (13 : Int32)
    · rw [if_pos c13]
      rw [if_pos w1]
      obtain ⟨z, y', mf', mt', e1, e2⟩ := op_safe y mf mt (xs (nI j + 1).toNatClampNeg) rh
      rw [e1, bx, if_pos w1]
      rw [e2, bx]
      try dsimp only
      rw [if_pos rfl]
      exact go _ _ _ _ _ _ _ _ _ _ _ _ _ _ _ _ _ _ _ _ _ _ rp rh i1 i2
    rw [if_neg c13]
    by_cases c14 : (xs (nI j).toNatClampNeg) &&& (31 : Int32) = (14 : Int32)
    · rw [if_pos c14]
      rw [if_pos w1]
      obtain ⟨z, y', mf', mz', e1, e2⟩ := op_least y mf mz (xs (nI j + 1).toNatClampNeg) rh
      rw [e1, bx, if_pos w1]
      rw [e2, bx]
      try dsimp only
      rw [if_pos rfl]
      exact go _ _ _ _ _ _ _ _ _ _ _ _ _ _ _ _ _ _ _ _ _ _ rp rh i1 i2
    rw [if_neg c14]
    by_cases c15 : (xs (nI j).toNatClampNeg) &&& (31 : Int32) = (15 : Int32)
    · rw [if_pos c15]
      rw [if_pos w1]
      obtain ⟨z, mf', e1, e2⟩ := op_flour mf (xs (nI j + 1).toNatClampNeg) rh
      rw [e1, bx, if_pos w1]
      rw [e2, bx]
      try dsimp only
      rw [if_pos rfl]
      exact go _ _ _ _ _ _ _ _ _ _ _ _ _ _ _ _ _ _ _ _ _ _ rp rh i1 i2
    rw [if_neg c15]
    by_cases c16 : (xs (nI j).toNatClampNeg) &&& (31 : Int32) = (16 : Int32)
    · rw [if_pos c16]
      rw [if_pos w1]
      obtain ⟨z, mb', e1, e2, rh'⟩ := op_post (xs (nI j + 1).toNatClampNeg) rh
      rw [e1, bx, if_pos w1]
      rw [e2, bx]
      try dsimp only
      rw [if_pos rfl]
      exact go _ _ _ _ _ _ _ _ _ _ _ _ _ _ _ _ _ _ _ _ _ _ rp rh' i1 i2
    rw [if_neg c16]
    by_cases c17 : (xs (nI j).toNatClampNeg) &&& (31 : Int32) = (17 : Int32)
    · rw [if_pos c17]
      rw [if_pos w1, if_pos w2]
      obtain ⟨z, r', d', mn', mg', e1, e2⟩ := op_meet r d mn mg (xs (nI j + 1).toNatClampNeg) (xs (nI j + 2).toNatClampNeg) rp rh
      rw [e1, bx, if_pos w1, if_pos w2]
      rw [e2, bx]
      try dsimp only
      rw [if_pos rfl]
      exact go _ _ _ _ _ _ _ _ _ _ _ _ _ _ _ _ _ _ _ _ _ _ rp rh i1 i2
    rw [if_neg c17]
    by_cases c18 : (xs (nI j).toNatClampNeg) &&& (31 : Int32) = (18 : Int32)
    · rw [if_pos c18]
      rw [if_pos w1, if_pos w2, if_pos w3]
      obtain ⟨z, q', ml', e1, e2⟩ := op_where q ml (xs (nI j + 1).toNatClampNeg) (xs (nI j + 2).toNatClampNeg) (xs (nI j + 3).toNatClampNeg) rh
      rw [e1, bx, if_pos w1, if_pos w2, if_pos w3]
      rw [e2, bx]
      try dsimp only
      rw [if_pos rfl]
      exact go _ _ _ _ _ _ _ _ _ _ _ _ _ _ _ _ _ _ _ _ _ _ rp rh i1 i2
    rw [if_neg c18]
    by_cases c19 : (xs (nI j).toNatClampNeg) &&& (31 : Int32) = (19 : Int32)
    · rw [if_pos c19]
      rw [if_pos w1, if_pos w2]
      obtain ⟨z, r', d', mn', mg', e1, e2⟩ := op_wind r d mn mg (xs (nI j + 1).toNatClampNeg) (xs (nI j + 2).toNatClampNeg) rp rh
      rw [e1, bx, if_pos w1, if_pos w2]
      rw [e2, bx]
      try dsimp only
      rw [if_pos ((lg_cmp_eq _ _).mpr rfl)]
      exact go _ _ _ _ _ _ _ _ _ _ _ _ _ _ _ _ _ _ _ _ _ _ rp rh i1 i2
    rw [if_neg c19]
    by_cases c20 : (xs (nI j).toNatClampNeg) &&& (31 : Int32) = (20 : Int32)
    · rw [if_pos c20]
      rw [if_pos w1, if_pos w2, if_pos w3]
      obtain ⟨z, r', mn', e1, e2⟩ := op_night r mn (xs (nI j + 1).toNatClampNeg) (xs (nI j + 2).toNatClampNeg) (xs (nI j + 3).toNatClampNeg) rh
      rw [e1, bx, if_pos w1, if_pos w2, if_pos w3]
      rw [e2, bx]
      try dsimp only
      rw [if_pos rfl]
      exact go _ _ _ _ _ _ _ _ _ _ _ _ _ _ _ _ _ _ _ _ _ _ rp rh i1 i2
    rw [if_neg c20]
    by_cases c21 : (xs (nI j).toNatClampNeg) &&& (31 : Int32) = (21 : Int32)
    · rw [if_pos c21]
      rw [if_pos w1]
      obtain ⟨z, k1', h1', v1', k2', h2', v2', mb', mi', e1, e2, rh', j1, j2⟩ := op_image (xs (nI j + 1).toNatClampNeg) rh i1 i2
      rw [e1, bx, if_pos w1]
      rw [e2, bx]
      try dsimp only
      rw [if_pos rfl]
      exact go _ _ _ _ _ _ _ _ _ _ _ _ _ _ _ _ _ _ _ _ _ _ rp rh' j1 j2
    rw [if_neg c21]
    by_cases c22 : (xs (nI j).toNatClampNeg) &&& (31 : Int32) = (22 : Int32)
    · rw [if_pos c22]
      rw [if_pos w1]
      obtain ⟨z, h', v', mb', mi', e1, e2, rh', j1, j2⟩ := op_restore (xs (nI j + 1).toNatClampNeg) rh i1 i2
      rw [e1, bx, if_pos w1]
      rw [e2, bx]
      try dsimp only
      rw [if_pos rfl]
      exact go _ _ _ _ _ _ _ _ _ _ _ _ _ _ _ _ _ _ _ _ _ _ rp rh' j1 j2
    rw [if_neg c22]
    by_cases c23 : (xs (nI j).toNatClampNeg) &&& (31 : Int32) = (23 : Int32)
    · rw [if_pos c23]
      rw [if_pos w1]
      obtain ⟨z, e1, e2⟩ := op_told (xs (nI j + 1).toNatClampNeg) rp rh
      rw [e1, bx, if_pos w1]
      rw [e2, bx]
      try dsimp only
      rw [if_pos rfl]
      exact go _ _ _ _ _ _ _ _ _ _ _ _ _ _ _ _ _ _ _ _ _ _ rp rh i1 i2
    rw [if_neg c23]
    exact go _ _ _ _ _ _ _ _ _ _ _ _ _ _ _ _ _ _ _ _ _ _ rp rh i1 i2
