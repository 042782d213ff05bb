/-! the reference reads: bytes, spaces, numbers -/
abbrev TxR (M : MM) (r : Nat) : Prop := (0 ≤ M r 5 ∧ M r 5 ≤ 150) ∧ ∀ j : Int, 0 ≤ j → j < M r 5 → 0 ≤ M (r + 4) j ∧ M (r + 4) j ≤ 127
theorem TxR.fr {M M2 : MM} {r : Nat} (h : TxR M r) (h1 : M2 (r + 4) = M (r + 4)) (h0 : M2 r 5 = M r 5) : TxR M2 r := by
  unfold TxR; rw [h1, h0]; exact h
def hR (t : Int → Int) (n p : Int) : Int := if p < n then t p else -1000
theorem ModelK.k0 {K : Nat → Nat} {r : Nat} (h : ModelK K r) : K r = 9 := h 0 (by decide)