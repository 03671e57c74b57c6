/-! The reference's geometry -/
theorem in_n {a n : Nat} (ha : a < 2 ^ 31) (h0 : 0 < n) (hn : n < 2 ^ 31) : M_X9_in (nI a).toInt64 (0 : Int64) ((nI n - (1 : Int32)).toInt64) = some (if a < n then 1 else 0) := by
  have e : nI n - 1 = nI (n - 1) := n_sub (a := n) (b := 1) h0
  have z : (0 : Int64) = (0 : Int32).toInt64 := by decide +kernel
  rw [e, z, m_in]
  congr 1
  by_cases q : a < n
  · rw [if_pos q, if_pos ⟨nI_pos' ha, nI_le (by omega) (by omega)⟩]
  · rw [if_neg q, if_neg (fun k => nI_ge (a := n - 1) (b := a) (by omega) ha k.2)]
theorem in_m {n : Nat} : M_X9_in (-1 : Int32).toInt64 (0 : Int64) ((nI n - (1 : Int32)).toInt64) = some 0 := by
  have z : (0 : Int64) = (0 : Int32).toInt64 := by decide +kernel
  rw [z, m_in, if_neg (fun k => absurd k.1 (by decide +kernel))]
/-- the cell a way on, none where it is no cell or a wall -/
def stp (R C : Nat) (sg : Nat → Nat) (c w : Nat) : Option Nat := match nb R C c w with
  | some q => if sg q = 35 then none else some q
  | none => none
def oI (o : Option Nat) : Int32 := match o with
  | some q => nI q
  | none => -6
theorem m_isWall {R C c : Nat} {sg : Nat → Nat} {dr th er k : Nat} {wc wl wd : Nat → Nat} {mb : BT} (ho : okS R C sg dr th er k wc wl wd) (hr : rM R C sg dr th er k wc wl wd mb) (hc : c < R * C) : M_X9_isWall mb (nI c) = some (if sg c = 35 then 1 else 0) := by
  have h16 := ho.1.n16
  unfold M_X9_isWall
  rw [if_pos (nI_in (by omega) (by omega)), nI_clamp (by omega), hr.2.2.2.2.2.2.1 c hc]
  have hs : sg c < 2 ^ 31 := by rcases ho.2.1 c hc with z | z | z | z | z <;> omega
  by_cases q : sg c = 35
  · rw [if_pos q, q]; rfl
  · rw [if_neg q, if_neg (show ¬ nI (sg c) = (35 : Int32) from w_ne (b := 35) hs (by omega) q)]
theorem m_bey92 {R C r q : Nat} {sg : Nat → Nat} {dr th er k : Nat} {wc wl wd : Nat → Nat} {mb : BT} (x1 x2 : Int32) (ho : okS R C sg dr th er k wc wl wd) (hr : rM R C sg dr th er k wc wl wd mb) (h : r * C + q < R * C) : M_X9_beyond_92 mb x1 x2 (nI r, nI q, 1) = some (oI (if sg (r * C + q) = 35 then none else some (r * C + q))) := by
  unfold M_X9_beyond_92
  dsimp only
  have e : nI r * mb.2.1 + nI q = nI (r * C + q) := by rw [hr.2.1, ← nI_add]; congr 1; exact (Int32.ofNat_mul r C).symm
  rw [if_neg (by decide +kernel), e, m_isWall ho hr h, Option.bind_some]
  by_cases z : sg (r * C + q) = 35
  · rw [if_pos z, if_pos z, if_neg (by decide +kernel)]; rfl
  · rw [if_neg z, if_neg z, if_pos rfl]; rfl
