/-! the reference: words -/
def kM (j : Nat) : Nat := if j = 0 then 9 else if j < 3 then 1198 else if j = 3 then 1792 else if j = 4 then 1150 else if j = 11 then 1006 else 1020
/-- a model at r -/
def ModelK (K : Nat → Nat) (r : Nat) : Prop := ∀ j, j < 12 → K (r + j) = kM j
/-- what stands against a setting -/
abbrev fSe (w v : Int) : Prop := (w = 0 ∨ w = 3) ∧ (0 ≤ v ∧ v ≤ 100) ∨ w = 1 ∧ (1 ≤ v ∧ v ≤ 5) ∨ w = 2 ∧ (0 ≤ v ∧ v ≤ 15)