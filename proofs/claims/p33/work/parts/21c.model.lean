/-! the reference: the title's place, the survey -/
theorem Mdl.fr {M M2 : MM} {r : Nat} {S : MM} (h : Mdl M r S) (h1 : ∀ i, r + 6 ≤ i → i ≤ r + 10 → M2 i = M i) (h2 : M2 r 14 = M r 14) : Mdl M2 r S := by
  unfold Mdl Plc Shs Srd
  rw [h1 (r + 6) (by omega) (by omega), h1 (r + 7) (by omega) (by omega), h1 (r + 8) (by omega) (by omega), h1 (r + 9) (by omega) (by omega), h1 (r + 10) (by omega) (by omega), h2]
  exact h
/-- the model is surveyed -/
def Sur (M : MM) (r : Nat) (S : MM) : Prop := Mdl M r S ∧ M r 12 = pct S ∧ (M r 15 = wnd S 1 ∧ M r 16 = wnd S 0) ∧ (M r 17 = 1 ∧ M r 18 = (ttl S).1 ∧ M r 19 = (ttl S).2 ∧ 0 ≤ (ttl S).1 ∨ M r 17 = 0 ∧ (ttl S).1 < 0)
