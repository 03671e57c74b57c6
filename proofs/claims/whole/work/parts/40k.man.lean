/-- steps between two cells, walls or not -/
def man (C a b : Nat) : Nat := (a / C - b / C) + (b / C - a / C) + ((a % C - b % C) + (b % C - a % C))
theorem arnd_0' : ∀ R, R < 5 → ∀ C, C < 5 → ∀ c, c < 16 → c < R * C → mk (fun i => decide (man C c i ≤ 0)) (R * C) = 2 ^ c := by decide +kernel
theorem arnd_s' : ∀ R, R < 5 → ∀ C, C < 5 → ∀ c, c < 16 → c < R * C → ∀ n, n < 6 → sp R C (mk (fun i => decide (man C c i ≤ n)) (R * C)) = mk (fun i => decide (man C c i ≤ n + 1)) (R * C) := by decide +kernel
theorem arnd_man {R C c : Nat} (h : okD R C) (hc : c < R * C) : ∀ n, n ≤ 6 → arnd R C (2 ^ c) n = mk (fun i => decide (man C c i ≤ n)) (R * C) := by
  have hR : R < 5 := by have := h.2.1; omega
  have hC : C < 5 := by have := h.2.2.2; omega
  have h16 := h.n16
  intro n
  induction n with
  | zero => intro _; exact (arnd_0' R hR C hC c (by omega) hc).symm
  | succ n ih =>
    intro hn
    show sp R C (arnd R C (2 ^ c) n) = _
    rw [ih (by omega), arnd_s' R hR C hC c (by omega) hc n (by omega)]
