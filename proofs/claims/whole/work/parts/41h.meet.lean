/-! meet, wind -/
theorem pw5 : ∀ n, n < 9 → M_X8_power 5 (nI n) = some (nI (5 ^ n)) := by decide +kernel
theorem fv5 : ∀ n, n < 9 → M_X9_fives (nI n) = some (nI (5 ^ n)) := by decide +kernel
theorem fv5lt : ∀ n, n < 9 → 5 ^ n < 400000 := by decide +kernel
theorem within_good {c n : Nat} (hc : c < n) (hn : n < 2 ^ 31) : M_X8_within (nI c) 0 (nI n - 1) = some 1 := by
  rw [m_within, if_pos]
  have e : nI n - 1 = nI (n - 1) := n_sub (a := n) (b := 1) (by omega)
  rw [e]
  exact ⟨nI_pos' (by omega), nI_le (by omega) (by omega)⟩
theorem within_bad {x : Int32} {n : Nat} (h0 : 0 < n) (hn : n < 2 ^ 31) (h : x < 0 ∨ nI n ≤ x) : M_X8_within x 0 (nI n - 1) = some 0 := by
  rw [m_within, if_neg]
  intro ab
  have e : nI n - 1 = nI (n - 1) := n_sub (a := n) (b := 1) h0
  rw [e] at ab
  rcases h with h | h
  · exact absurd ab.1 (Int32.not_le.mpr h)
  · exact absurd (Int32.le_trans h ab.2) (nI_ge (by omega) hn)
theorem p2_eq : ∀ a, a < 16 → ∀ b, b < 16 → (nI (2 ^ a) = nI (2 ^ b) ↔ a = b) := by decide +kernel
theorem m_stepTold {st n i : Nat} (hs : st < 2 ^ 31) (hi : i < n) (hn : n < 9) : M_X8_stepTold (nI st) (nI n) (nI i) = some (nI (st / 5 ^ (n - 1 - i) % 5)) := by
  have lp : ∀ fu d rest, d < fu → d < 9 → rest < 2 ^ 31 → M_X8_stepTold_7 (nI st) (nI n) (nI i) fu (nI rest, nI (i + d)) = some (nI (rest / 5 ^ d % 5)) := by
    intro fu
    induction fu with
    | zero => intro d _ h; omega
    | succ fu ih =>
      intro d rest hd h9 hr
      show M_X8_stepTold_7b _ _ _ _ _ = _
      unfold M_X8_stepTold_7b
      dsimp only
      have d1 : nI rest / (5 : Int32) = nI (rest / 5) := pk_div (d := 5) hr (by omega) (by omega)
      have d2 : nI rest - nI rest / (5 : Int32) * (5 : Int32) = nI (rest % 5) := n_rem (d := 5) hr (by omega) (by omega)
      cases d with
      | zero =>
        rw [if_pos (nI_le (a := i + 0) (b := i) (by omega) (by omega)), if_pos k5, d2, Nat.pow_zero, Nat.div_one]
      | succ d =>
        rw [if_neg (nI_ge (a := i) (b := i + (d + 1)) (by omega) (by omega)), if_pos k5, d1, show nI (i + (d + 1)) + (-1) = nI (i + d) from pk_m1 (i + d), ih d _ (by omega) (by omega) (by omega), Nat.div_div_eq_div_mul, Nat.pow_succ, Nat.mul_comm (5 ^ d) 5]
  unfold M_X8_stepTold
  have e : nI n - (1 : Int32) = nI (i + (n - 1 - i)) := by
    rw [show nI n - (1 : Int32) = nI (n - 1) from n_sub (b := 1) (by omega)]
    congr 1
    omega
  rw [e]
  exact lp 200 _ _ (by omega) (by omega) hs
theorem stp4 {R C c : Nat} {sg : Nat → Nat} (h : sg c ≠ 35) : stp R C sg c 4 = some c := by
  unfold stp
  rw [show nb R C c 4 = some c from rfl]
  exact if_neg h
theorem getD_lt {R C c w : Nat} {sg : Nat → Nat} (h : okD R C) (hc : c < R * C) (hs : sg c ≠ 35) (hw : w < 5) : (stp R C sg c w).getD c < R * C ∧ sg ((stp R C sg c w).getD c) ≠ 35 := by
  cases e : stp R C sg c w with
  | none => exact ⟨hc, hs⟩
  | some q => exact ⟨(stp_lt h hc hw e).1, (stp_lt h hc hw e).2.1⟩
theorem m_meetB {R C n m i st now b oth : Nat} {s : Bool} {f : Nat → Nat} {p : PT} {mo : OT} {sg : Nat → Nat} {dr th er k : Nat} {wc wl wd : Nat → Nat} {r : RT} {mn : NT} {mb : BT} (rc : NT × GT × Int32 × Int32 → Option (Int32 × NT × GT)) (mg : GT) (ho : okS R C sg dr th er k wc wl wd) (hr : rM R C sg dr th er k wc wl wd mb) (hp : PdX n f p mo) (hw : WR R C sg er k wc wl wd now b s r mn) (hi : i < n) (him : i < m) (hm : m < 9) (hst : st < 2 ^ 31) (o1 : oth < R * C) (o2 : sg oth ≠ 35) : ∃ r' mn' b' s', M_X9_meet_73b mb mo (nI st) (nI m) rc (mn, mg, nI oth, nI i) = M_X9_meet_147 mb mo (nI st) (nI m) rc (mn', mg, nI oth, nI i, nI now, nI oth, oI (stp R C sg oth (st / 5 ^ (m - 1 - i) % 5))) ∧ WR R C sg er k wc wl wd ((stp R C sg now (wv (f i))).getD now) b' s' r' mn' := by
  obtain ⟨h40, h1, h2, hf⟩ := id hp
  obtain ⟨f1, f2, f3, f4⟩ := hf i hi
  have p6 := fv5lt (m - 1 - i) (by omega)
  have p7 : 0 < 5 ^ (m - 1 - i) := Nat.pow_pos (by omega)
  have ee : (nI m - (1 : Int32)) - nI i = nI (m - 1 - i) := by
    rw [show nI m - (1 : Int32) = nI (m - 1) from n_sub (b := 1) (by omega), n_sub (by omega)]
  have dd : nI st / nI (5 ^ (m - 1 - i)) = nI (st / 5 ^ (m - 1 - i)) := pk_div (by omega) p7 (by omega)
  have le : st / 5 ^ (m - 1 - i) ≤ st := Nat.div_le_self _ _
  have d5 : nI (st / 5 ^ (m - 1 - i)) - nI (st / 5 ^ (m - 1 - i)) / (5 : Int32) * (5 : Int32) = nI (st / 5 ^ (m - 1 - i) % 5) := n_rem (d := 5) (by omega) (by omega) (by omega)
  have h5 : st / 5 ^ (m - 1 - i) % 5 < 5 := Nat.mod_lt _ (by omega)
  have em : mn.1 = nI now := by rw [hw.2.2.2.2.2.2.2]
  have fin : ∀ c mn', M_X9_step mb mn (nI (wv (f i))) = some (c, mn') → M_X9_meet_73b mb mo (nI st) (nI m) rc (mn, mg, nI oth, nI i) = M_X9_meet_147 mb mo (nI st) (nI m) rc (mn', mg, nI oth, nI i, nI now, nI oth, oI (stp R C sg oth (st / 5 ^ (m - 1 - i) % 5))) := by
    intro c mn' t2
    unfold M_X9_meet_73b
    dsimp only
    rw [h2, if_neg (nI_ge hi (by omega)), if_neg (nI_ge him (by omega)), if_pos (nI_in (c := i) (N := 40) (by omega) (by omega)), nI_clamp (by omega), f4, wyw _ (by omega), bx, t2, bx, ee, fv5 _ (by omega), bx, if_pos (nI_ne0 p7 (by omega)), if_pos k5, dd, d5, em]
    generalize st / 5 ^ (m - 1 - i) % 5 = w at h5 ⊢
    by_cases w4 : w = 4
    · subst w4
      rw [if_pos (show nI 4 = 4 from rfl), stp4 o2]
      rfl
    · rw [if_neg (show ¬ nI w = 4 from w_ne (b := 4) (by omega) (by omega) w4), m_beyond ho hr o1 h5, bx]
  rcases m_take ho hr hw (wv5 (f i)) with ⟨e, r', mn', t1, t2, t3⟩ | ⟨q, r', mn', e, t1, t2, t3⟩
  · refine ⟨r', mn', b, false, fin _ _ t2, ?_⟩
    rw [e]; exact t3
  · refine ⟨r', mn', b ||| 2 ^ q, decide (wv (f i) < 4), fin _ _ t2, ?_⟩
    rw [e]; exact t3
theorem m_meetC {R C n m i st now now' oth : Nat} {sg : Nat → Nat} {mb : BT} {mo : OT} {mn' : NT} (rc : NT × GT × Int32 × Int32 → Option (Int32 × NT × GT)) (mg : GT) (o : Option Nat) (e1 : mn'.1 = nI now') (ho : ∀ q, o = some q → q < 16) (h1 : now' < 16) (h2 : oth < 16) (h3 : now < 16) : M_X9_meet_147 mb mo (nI st) (nI m) rc (mn', mg, nI oth, nI i, nI now, nI oth, oI o) = (if now' = o.getD oth ∨ (now' = oth ∧ o.getD oth = now) then some (nI i, mn', mg) else rc (mn', mg, nI (o.getD oth), nI (i + 1))) := by
  have k : M_X9_meet_147 mb mo (nI st) (nI m) rc (mn', mg, nI oth, nI i, nI now, nI oth, oI o) = M_X9_meet_161 mb mo (nI st) (nI m) rc (mn', mg, nI i, nI now, nI oth, nI (o.getD oth)) := by
    unfold M_X9_meet_147
    dsimp only
    cases o with
    | none => rw [if_pos (show oI none < 0 by decide +kernel)]; rfl
    | some q =>
      have := ho q rfl
      rw [if_neg (show ¬ oI (some q) < 0 from nI_pos (by omega))]; rfl
  have h4 : o.getD oth < 16 := by
    cases o with
    | none => exact h2
    | some q => exact ho q rfl
  rw [k]
  unfold M_X9_meet_161 M_X9_meet_191
  dsimp only
  rw [e1, ← nI_succ]
  generalize o.getD oth = t at h4 ⊢
  by_cases c1 : now' = t
  · rw [if_pos (show nI now' = nI t by rw [c1]), if_pos (Or.inl c1)]
  · rw [if_neg (w_ne (by omega) (by omega) c1)]
    by_cases c2 : now' = oth
    · rw [if_pos (show nI now' = nI oth by rw [c2])]
      by_cases c3 : t = now
      · rw [if_pos (show nI t = nI now by rw [c3]), if_pos (Or.inr ⟨c2, c3⟩)]
      · rw [if_neg (w_ne (by omega) (by omega) c3), if_neg (fun z => z.elim c1 (fun z => c3 z.2))]
    · rw [if_neg (w_ne (by omega) (by omega) c2), if_neg (fun z => z.elim c1 (fun z => c2 z.1))]
theorem m_meetX {R C n m i st now oth : Nat} {f : Nat → Nat} {p : PT} {mo : OT} {sg : Nat → Nat} (dr th er : Nat) (x : Int32) (rc : Int32 × Int32 × Int32 × Int32 → Option Int32) (h : okD R C) (hp : PdX n f p mo) (hW : isW (f i) = true) (hi : i < n) (him : i < m) (hm : m < 9) (hst : st < 2 ^ 31) (a1 : now < R * C) (a2 : sg now ≠ 35) (o1 : oth < R * C) (o2 : sg oth ≠ 35) (hx : ¬ x ≤ nI i) : M_X8_firstMeeting_39b p (hOf R C sg dr th er) (nI st) (nI m) rc (nI (2 ^ now), nI (2 ^ oth), x, nI i) = (if (stp R C sg now (wv (f i))).getD now = (stp R C sg oth (st / 5 ^ (m - 1 - i) % 5)).getD oth ∨ ((stp R C sg now (wv (f i))).getD now = oth ∧ (stp R C sg oth (st / 5 ^ (m - 1 - i) % 5)).getD oth = now) then some (nI i) else rc (nI (2 ^ ((stp R C sg now (wv (f i))).getD now)), nI (2 ^ ((stp R C sg oth (st / 5 ^ (m - 1 - i) % 5)).getD oth)), x, nI (i + 1))) := by
  have h16 := h.n16
  have h5 : st / 5 ^ (m - 1 - i) % 5 < 5 := Nat.mod_lt _ (by omega)
  unfold M_X8_firstMeeting_39b M_X8_firstMeeting_106
  dsimp only
  rw [if_neg hx, m_stepAt hp hi hW, bx, m_stepOrStay sg dr th er h a1 (wv5 (f i)), bx, m_stepTold hst him hm, bx, m_stepOrStay sg dr th er h o1 h5, bx, ← nI_succ]
  have g1 := (getD_lt h a1 a2 (wv5 (f i))).1
  have g2 := (getD_lt h o1 o2 h5).1
  generalize (stp R C sg now (wv (f i))).getD now = u at g1 ⊢
  generalize (stp R C sg oth (st / 5 ^ (m - 1 - i) % 5)).getD oth = t at g2 ⊢
  by_cases c1 : u = t
  · rw [if_pos ((p2_eq u (by omega) t (by omega)).mpr c1), if_pos (Or.inl c1)]
  · rw [if_neg (fun z => c1 ((p2_eq u (by omega) t (by omega)).mp z))]
    by_cases c2 : u = oth
    · rw [if_pos ((p2_eq u (by omega) oth (by omega)).mpr c2)]
      by_cases c3 : t = now
      · rw [if_pos ((p2_eq t (by omega) now (by omega)).mpr c3), if_pos (Or.inr ⟨c2, c3⟩)]
      · rw [if_neg (fun z => c3 ((p2_eq t (by omega) now (by omega)).mp z)), if_neg (fun z => z.elim c1 (fun z => c3 z.2))]
    · rw [if_neg (fun z => c2 ((p2_eq u (by omega) oth (by omega)).mp z)), if_neg (fun z => z.elim c1 (fun z => c2 z.1))]
theorem op_meet {p : PT} {mo : OT} {h : HT} {v : VT} {mb : BT} (r : RT) (d : DT) (mn : NT) (mg : GT) (x1 x2 : Int32) (rp : RPd p mo) (rh : RH h v mb) : ∃ z r' d' mn' mg', M_X8_meet p h v r d x1 x2 = some (z, r', d') ∧ M_X9_meet mb mo mn mg x1 x2 = some (z, mn', mg') := by
  obtain ⟨R, C, sg, dr, th, er, k, wc, wl, wd, ho, ⟨hx1, hx2, hx3⟩, hr⟩ := rh
  obtain ⟨n, f, hp⟩ := rp
  have hp : PdX n f p mo := hp
  obtain ⟨h40, h1, h2, hf⟩ := id hp
  subst hx1
  have h16 := ho.1.n16
  have e1 : M_X9_in x2.toInt64 (0 : Int64) (8 : Int64) = some (if 0 ≤ x2 ∧ x2 ≤ 8 then 1 else 0) := m_in x2 0 8
  unfold M_X8_meet M_X9_meet
  rw [m_within, e1, bx, bx]
  by_cases q1 : 0 ≤ x2 ∧ x2 ≤ 8
  · rw [if_pos q1, if_neg k10, if_neg k10, bx, if_neg k10]
    obtain ⟨m, _, m1, rfl⟩ := rng (a := 0) (b := 8) (by omega) (by omega) q1.1 q1.2
    have p5 := fv5lt m (by omega)
    have p0 : 0 < 5 ^ m := Nat.pow_pos (by omega)
    unfold M_X9_meet_32
    dsimp only
    rw [pw5 m (by omega), fv5 m (by omega), bx, bx]
    rcases cell_cs (x := x1) (n := 5 ^ m) (by omega) with ⟨st, hst, rfl⟩ | q
    · rw [within_good hst (by omega), in_good hst (by omega), bx, bx, if_neg k10, if_neg k10]
      rcases m_walk r d mn mg ho hx2 hx3 hr hp with ⟨w1, w2⟩ | ⟨d', r', mn', g', w1, w2, w3⟩ | ⟨d', r', mn', g', w1, w2, w3, w4, w5⟩
      · rw [w1, w2, bx, bx]
        dsimp only
        rw [if_neg (show ¬ (-5 : Int32) = 0 by decide +kernel), if_neg (show ¬ (-5 : Int32) = -6 by decide +kernel)]
        exact ⟨_, _, _, _, _, rfl, rfl⟩
      · rw [w1, w2, bx, bx]
        dsimp only
        rw [if_neg (show ¬ (-3 : Int32) = 0 by decide +kernel), if_neg (show ¬ (-3 : Int32) = -6 by decide +kernel)]
        exact ⟨_, _, _, _, _, rfl, rfl⟩
      · rw [w1, w2, bx, bx]
        dsimp only
        rw [if_pos k00, if_pos (show (-6 : Int32) = -6 from rfl)]
        obtain ⟨r0, mn0, b1, b2, b3⟩ := m_begin r mn' ho hx2 hx3 hr
        have lp : ∀ fu i now b s oth (r : RT) (mn : NT), i ≤ n → i ≤ m → n - i < fu → WR R C sg er k wc wl wd now b s r mn → oth < R * C → sg oth ≠ 35 → ∃ z mn2 mg2, M_X8_firstMeeting_39 p (hOf R C sg dr th er) (nI st) (nI m) fu (nI (2 ^ now), nI (2 ^ oth), nI (if n < m then n else m), nI i) = some z ∧ M_X9_meet_73 mb mo (nI st) (nI m) fu (mn, g', nI oth, nI i) = some (z, mn2, mg2) := by
          intro fu
          induction fu with
          | zero => intro i now b s oth r mn _ _ h; omega
          | succ fu ih =>
            intro i now b s oth r mn hi him hfu hw ho1 ho2
            have ex : ∀ a, M_X8_firstMeeting_39 p (hOf R C sg dr th er) (nI st) (nI m) (fu + 1) a = M_X8_firstMeeting_39b p (hOf R C sg dr th er) (nI st) (nI m) (M_X8_firstMeeting_39 p (hOf R C sg dr th er) (nI st) (nI m) fu) a := fun a => rfl
            have em : ∀ a, M_X9_meet_73 mb mo (nI st) (nI m) (fu + 1) a = M_X9_meet_73b mb mo (nI st) (nI m) (M_X9_meet_73 mb mo (nI st) (nI m) fu) a := fun a => rfl
            rw [ex, em]
            by_cases q : i < n ∧ i < m
            · have hmin : i < (if n < m then n else m) := by split <;> omega
              have hminl : (if n < m then n else m) < 2 ^ 31 := by split <;> omega
              have h5 : st / 5 ^ (m - 1 - i) % 5 < 5 := Nat.mod_lt _ (by omega)
              obtain ⟨a1, a2, _⟩ := id hw
              obtain ⟨r', mn', b', s', t1, t2⟩ := m_meetB (st := st) (M_X9_meet_73 mb mo (nI st) (nI m) fu) g' ho hr hp hw q.1 q.2 (by omega) (by omega) ho1 ho2
              have g1 := getD_lt ho.1 a1 a2 (wv5 (f i))
              have g2 := getD_lt ho.1 ho1 ho2 h5
              rw [m_meetX dr th er _ _ ho.1 hp (w5 i q.1) q.1 q.2 (by omega) (by omega) a1 a2 ho1 ho2 (nI_ge hmin hminl), t1, m_meetC (sg := sg) (R := R) (C := C) (n := n) _ _ _ (by rw [t2.2.2.2.2.2.2.2]) (fun q' e => by have := (stp_lt ho.1 ho1 h5 e).1; omega) (by omega) (by omega) (by omega)]
              split
              · exact ⟨_, _, _, rfl, rfl⟩
              · exact ih (i + 1) _ _ _ _ _ _ (by omega) (by omega) (by omega) t2 g2.1 g2.2
            · unfold M_X8_firstMeeting_39b M_X9_meet_73b
              dsimp only
              have hmin : (if n < m then n else m) ≤ i := by split <;> omega
              rw [if_pos (nI_le hmin (by omega)), h2]
              by_cases y : i < n
              · rw [if_neg (nI_ge y (by omega)), if_pos (nI_le (by omega) (by omega))]
                exact ⟨_, _, _, rfl, rfl⟩
              · rw [if_pos (nI_le (by omega) (by omega))]
                exact ⟨_, _, _, rfl, rfl⟩
        obtain ⟨z, mn2, mg2, l1, l2⟩ := lp 200 0 dr (2 ^ dr) false th r0 mn0 (by omega) (by omega) (by omega) b3 ho.2.2.2.1.1 ho.2.2.2.1.2
        have hmn : (if p.1 < nI m then p.1 else nI m) = nI (if n < m then n else m) := by
          rw [h1]
          by_cases y : n < m
          · rw [if_pos (nI_lt y (by omega)), if_pos y]
          · rw [if_neg (nI_nlt (by omega) (by omega)), if_neg y]
        unfold M_X8_firstMeeting
        rw [show M_X8_bit (hOf R C sg dr th er).2.2.2.2.2.2.2.2.2.1 = some (nI (2 ^ dr)) from m_bit (by have := ho.2.2.1.1; omega), show M_X8_bit (hOf R C sg dr th er).2.2.2.2.2.2.2.2.2.2.1 = some (nI (2 ^ th)) from m_bit (by have := ho.2.2.2.1.1; omega), bx, bx, hmn, show M_X8_firstMeeting_39 p (hOf R C sg dr th er) (nI st) (nI m) 200 (nI (2 ^ dr), nI (2 ^ th), nI (if n < m then n else m), 0) = some z from l1, b2, bx, bx, hr.2.2.2.1, show M_X9_meet_73 mb mo (nI st) (nI m) 200 (mn0, g', nI th, 0) = some (z, mn2, mg2) from l2]
        exact ⟨_, _, _, _, _, rfl, rfl⟩
    · rw [within_bad p0 (by omega) q, in_bad (by omega) q, bx, bx, if_pos k00, if_pos k00]
      exact ⟨_, _, _, _, _, rfl, rfl⟩
  · rw [if_neg q1, if_pos k00, if_pos k00]
    exact ⟨_, _, _, _, _, rfl, rfl⟩
def pwL (x : Int64) : Nat → Int64
  | 0 => 1
  | n + 1 => pwL x n * x
theorem pt_low : ∀ w, w < 11 → ∀ b, b < 13 → ∀ q, q < 2 → M_X8_powerOfTenths (nI w) (nI b) (nI q) = M_X9_lowest (pwL (nI w).toInt64 b) (pwL 10 b) (nI q) := by decide +kernel
theorem pt_some : ∀ w, w < 11 → ∀ b, b < 13 → ∀ q, q < 2 → (M_X8_powerOfTenths (nI w) (nI b) (nI q)).isSome = true := by decide +kernel
theorem op_wind {p : PT} {mo : OT} {h : HT} {v : VT} {mb : BT} (r : RT) (d : DT) (mn : NT) (mg : GT) (x1 x2 : Int32) (rp : RPd p mo) (rh : RH h v mb) : ∃ z r' d' mn' mg', M_X8_wind p h v r d x1 x2 = some (z, r', d') ∧ M_X9_wind mb mo mn mg x1 x2 = some (z, mn', mg') := by
  obtain ⟨R, C, sg, dr, th, er, k, wc, wl, wd, ho, ⟨hx1, hx2, hx3⟩, hr⟩ := rh
  obtain ⟨n, f, hp⟩ := rp
  have hp : PdX n f p mo := hp
  have h40 := hp.1
  subst hx1
  have e1 : M_X9_in x1.toInt64 (0 : Int64) (10 : Int64) = some (if 0 ≤ x1 ∧ x1 ≤ 10 then 1 else 0) := m_in x1 0 10
  have e2 : M_X9_in x2.toInt64 (0 : Int64) (1 : Int64) = some (if 0 ≤ x2 ∧ x2 ≤ 1 then 1 else 0) := m_in x2 0 1
  unfold M_X8_wind M_X9_wind M_X8_wind_19 M_X9_wind_22
  rw [m_within, m_within, e1, e2]
  simp only [bx]
  by_cases q1 : 0 ≤ x1 ∧ x1 ≤ 10
  · rw [if_pos q1, if_neg k10, if_neg k10]
    by_cases q2 : 0 ≤ x2 ∧ x2 ≤ 1
    · rw [if_pos q2, if_neg k10, if_neg k10]
      obtain ⟨w, _, w1, rfl⟩ := rng (a := 0) (b := 10) (by omega) (by omega) q1.1 q1.2
      obtain ⟨pp, _, p1, rfl⟩ := rng (a := 0) (b := 1) (by omega) (by omega) q2.1 q2.2
      rcases m_walk r d mn mg ho hx2 hx3 hr hp with ⟨w1, w2⟩ | ⟨d', r', mn', g', w1, w2, w3⟩ | ⟨d', r', mn', g', y1, y2, y3, y4, y5⟩
      · rw [w1, w2, bx, bx]
        dsimp only
        rw [if_neg (show ¬ (-5 : Int32) = 0 by decide +kernel), if_neg (show ¬ (-5 : Int32) = -6 by decide +kernel)]
        exact ⟨_, _, _, _, _, rfl, rfl⟩
      · rw [w1, w2, bx, bx]
        dsimp only
        rw [if_neg (show ¬ (-3 : Int32) = 0 by decide +kernel), if_neg (show ¬ (-3 : Int32) = -6 by decide +kernel)]
        exact ⟨_, _, _, _, _, rfl, rfl⟩
      · obtain ⟨d1, g1, ⟨c1, c2⟩, e3, e4, a, b, a1, b1, z2, z3, z4, z5⟩ := y3
        rw [y1, y2, bx, bx]
        dsimp only
        rw [if_pos k00, if_pos (show (-6 : Int32) = -6 from rfl), z2, z3, z4, z5]
        by_cases t : b ≤ 12
        · rw [if_pos (show nI b ≤ 12 from nI_le (b := 12) t (by omega)), if_pos (show nI b ≤ 12 from nI_le (b := 12) t (by omega))]
          by_cases y : a ≤ b
          · rw [if_pos (nI_le y (by omega)), if_pos (nI_le y (by omega))]
            have lp : ∀ fu j, j ≤ b → b - j < fu → M_X9_wind_80 mb mo (nI w) (nI pp) fu (mn', g', pwL (nI w).toInt64 j, pwL 10 j, nI j) = (M_X9_lowest (pwL (nI w).toInt64 b) (pwL 10 b) (nI pp)).bind fun z115 => some (z115, mn', g') := by
              intro fu
              induction fu with
              | zero => intro j _ h; omega
              | succ fu ih =>
                intro j hj hfu
                show M_X9_wind_80b _ _ _ _ _ _ = _
                unfold M_X9_wind_80b
                dsimp only
                rw [z5]
                rcases Nat.lt_or_ge j b with q | q
                · rw [if_neg (nI_ge q (by omega)), ← nI_succ]
                  exact ih (j + 1) (by omega) (by omega)
                · have e : j = b := by omega
                  rw [e, if_pos (nI_le (Nat.le_refl _) (by omega))]
            have l0 := lp 200 0 (by omega) (by omega)
            have ps := pt_some w (by omega) b (by omega) pp (by omega)
            have pe := pt_low w (by omega) b (by omega) pp (by omega)
            obtain ⟨z, hz⟩ := Option.isSome_iff_exists.mp ps
            rw [← pe, hz, bx] at l0
            rw [hz, bx, show M_X9_wind_80 mb mo (nI w) (nI pp) 200 (mn', g', 1, 1, 0) = _ from l0]
            exact ⟨_, _, _, _, _, rfl, rfl⟩
          · rw [if_neg (nI_ge (by omega) (by omega)), if_neg (nI_ge (by omega) (by omega))]
            obtain rfl | rfl : pp = 0 ∨ pp = 1 := by omega
            · rw [if_pos n0I, show (nI 0).toInt64 = 0 by decide +kernel]
              exact ⟨_, _, _, _, _, rfl, rfl⟩
            · rw [if_neg (show ¬ nI 1 = 0 by decide +kernel), show (nI 1).toInt64 = 1 by decide +kernel]
              exact ⟨_, _, _, _, _, rfl, rfl⟩
        · rw [if_neg (show ¬ nI b ≤ 12 from nI_ge (a := 12) (by omega) (by omega)), if_neg (show ¬ nI b ≤ 12 from nI_ge (a := 12) (by omega) (by omega))]
          exact ⟨_, _, _, _, _, rfl, rfl⟩
    · rw [if_neg q2, if_pos k00, if_pos k00]
      exact ⟨_, _, _, _, _, rfl, rfl⟩
  · rw [if_neg q1, if_pos k00, if_pos k00]
    exact ⟨_, _, _, _, _, rfl, rfl⟩
