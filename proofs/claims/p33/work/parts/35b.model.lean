/-! the reference's faces: changes -/
theorem gA_0 {S : MM} {p u v w : Int} (h : gA S p u v w = 0) : (p = -1000 ∨ hs S p) ∧ ¬ bx S p ∧ plc u v w ∧ S 1 0 < 20 ∧ (if hs S p then S 3 p + 1 else 0) ≤ 5 := by
  unfold gA at h
  by_cases h1 : p ≠ -1000 ∧ ¬ hs S p
  · rw [if_pos h1] at h; omega
  rw [if_neg h1] at h
  by_cases h2 : bx S p ∨ ¬ plc u v w
  · rw [if_pos h2] at h; omega
  rw [if_neg h2] at h
  by_cases h3 : 20 ≤ S 1 0 ∨ 5 < (if hs S p then S 3 p + 1 else 0)
  · rw [if_pos h3] at h; omega
  exact ⟨by omega, fun q => h2 (Or.inl q), by omega, by omega, by omega⟩
theorem gB_0 {S : MM} {p u v w wd hg : Int} (h : gB S p u v w wd hg = 0) : gA S p u v w = 0 ∧ (1 ≤ wd ∧ wd ≤ 100) ∧ (1 ≤ hg ∧ hg ≤ 100) := by
  unfold gB at h
  split at h
  · omega
  · exact ⟨h, by omega, by omega⟩
abbrev arS (S : MM) (p : Int) : Int := if hs S p then S 3 p + 1 else 0