theorem ce_11 {E : EE} {ad : Nat → Nat} {i : Nat} {M : MM} : ce E ad 11 i M = .inl (E.2.1.2.2.1, 1, .inr (.inl (fun j : Nat => Int64.ofInt (M i j)))) := by
  unfold ce; rw [if_neg (by decide), if_neg (by decide), if_pos rfl]
section RULES
variable {E : EE} {X : JX} {cc : ByteArray} {own : String} {nl d c0 s0 : Nat} {pc : Nat} {L : List (Nat × Value)} {st : List Value} {K : Nat → Nat} {M : MM} {a b : Nat}
end RULES
theorem ce_12 {E : EE} {ad : Nat → Nat} {i : Nat} {M : MM} : ce E ad 12 i M = .inl (E.2.1.2.2.2, 1, .inr (.inr (.inr (.inl (fun j : Nat => UInt64.ofNat (M i j).toNat))))) := by
  unfold ce; rw [if_neg (by decide), if_neg (by decide), if_neg (by decide), if_pos rfl]
abbrev vDn (x : Int) : Value := .double (UInt64.ofNat x.toNat)
section RULES
variable {E : EE} {X : JX} {cc : ByteArray} {own : String} {nl d c0 s0 : Nat} {pc : Nat} {L : List (Nat × Value)} {st : List Value} {K : Nat → Nat} {M : MM} {a b : Nat}
end RULES

