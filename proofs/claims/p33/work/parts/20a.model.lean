/-- what stands against a setting -/
abbrev fSe (w v : Int) : Prop := (w = 0 ∨ w = 3) ∧ (0 ≤ v ∧ v ≤ 100) ∨ w = 1 ∧ (1 ≤ v ∧ v ≤ 5) ∨ w = 2 ∧ (0 ≤ v ∧ v ≤ 15)