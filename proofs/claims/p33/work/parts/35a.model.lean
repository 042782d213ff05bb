theorem KpM.row {M M2 : MM} {r i : Nat} (h : KpM M r M2) (h1 : i ≠ r) (h2 : i ≠ r + 3) : M2 i = M i := by
  obtain ⟨z, c, -, -, -, -, h5, -⟩ := h
  exact h5 i h1 h2
/-- what stands against a node, on the page -/
def gA (S : MM) (p u v w : Int) : Int := if p ≠ -1000 ∧ ¬ hs S p then 1 else if bx S p ∨ ¬ plc u v w then 2 else if 20 ≤ S 1 0 ∨ 5 < (if hs S p then S 3 p + 1 else 0) then 3 else 0
def gB (S : MM) (p u v w wd hg : Int) : Int := if gA S p u v w ≠ 1 ∧ ¬ ((1 ≤ wd ∧ wd ≤ 100) ∧ (1 ≤ hg ∧ hg ≤ 100)) then 2 else gA S p u v w
section RULES
variable {E : EE} {X : JX} {cc : ByteArray} {own : String} {nl d c0 s0 : Nat} {pc : Nat} {L : List (Nat × Value)} {st : List Value} {K : Nat → Nat} {M : MM} {a b : Nat}
end RULES