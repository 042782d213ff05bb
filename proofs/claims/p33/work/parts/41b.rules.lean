/-! more rules for the law -/
section RULES
variable {E : EE} {X : JX} {cc : ByteArray} {own : String} {nl d c0 s0 : Nat} {pc : Nat} {L : List (Nat × Value)} {st : List Value} {K : Nat → Nat} {M : MM} {a b : Nat}
theorem J_and31 (hX : XO E X cc own nl d c0 s0) {x : Int} (hd : decode cc pc = .ok (.iand, 1)) (k1 : ∀ y : Int, 0 ≤ y ∧ y < 32 → J E X (pc + 1) L (vI y :: st) K M a b) : J E X pc L (vI 31 :: vI x :: st) K M a b := by
  obtain ⟨j, hj, e⟩ := pk_andE (Int32.ofInt x) (m := 31) 5 (by decide)
  have h1 := k1 (j : Int) ⟨by omega, by omega⟩
  obtain ⟨p, l, e9, R, s, m, args, below, meth, c, Q, nL, K0, ad0⟩ := X
  intro ad H locs ls hR he hs hv
  have kk := h1 ad H locs ls hR he hs hv
  refine lv_iand hX.1 hX.2.1 hd ?_
  rw [show Int32.ofInt x &&& Int32.ofInt 31 = Int32.ofInt (j : Int) from e.trans Int32.ofInt_eq_ofNat.symm]
  exact kk
end RULES

