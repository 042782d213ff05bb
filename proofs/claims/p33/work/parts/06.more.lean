section RULES
variable {E : EE} {X : JX} {cc : ByteArray} {own : String} {nl d c0 s0 : Nat} {pc : Nat} {L : List (Nat × Value)} {st : List Value} {K : Nat → Nat} {M : MM} {a b : Nat}
theorem J_gr (hX : XO E X cc own nl d c0 s0) {idx k f o i : Nat} (i2 : Nat) (hF : FR own idx k f o) (hd : decode cc pc = .ok (.getfield idx, 3)) (hK : K i = k) (hi : i + o = i2) (k1 : J E X (pc + 3) L (.ref i2 :: st) K M a b) : J E X pc L (.ref i :: st) K M a b := by
  subst hi
  exact J_getr hX hF hd hK k1
theorem J_ixor (hX : XO E X cc own nl d c0 s0) {x y : Int} (hd : decode cc pc = .ok (.ixor, 1)) (hx : i32 x) (hy : i32 y) (k1 : ∀ z, i32 z → (z < 0 ↔ ¬ (x < 0 ↔ y < 0)) → J E X (pc + 1) L (vI z :: st) K M a b) : J E X pc L (vI y :: vI x :: st) K M a b := by
  have h1 : ∀ q : Int32, q.toInt < 0 ↔ q.toBitVec.msb = true := fun q => by
    show q.toBitVec.toInt < 0 ↔ _
    rw [BitVec.msb_eq_toInt]; simp
  have h2 : (Int32.ofInt x ^^^ Int32.ofInt y).toInt < 0 ↔ ¬ (x < 0 ↔ y < 0) := by
    rw [h1, Int32.toBitVec_xor, BitVec.msb_xor]
    have e1 := h1 (Int32.ofInt x)
    have e2 := h1 (Int32.ofInt y)
    rw [oi_t hx] at e1
    rw [oi_t hy] at e2
    rw [e1, e2]
    cases (Int32.ofInt x).toBitVec.msb <;> cases (Int32.ofInt y).toBitVec.msb <;> simp
  have h3 : i32 (Int32.ofInt x ^^^ Int32.ofInt y).toInt := by
    have a1 := (Int32.ofInt x ^^^ Int32.ofInt y).le_toInt
    have a2 := (Int32.ofInt x ^^^ Int32.ofInt y).toInt_lt
    omega
  have h4 := k1 _ h3 h2
  obtain ⟨p, l, e, R, s, m, args, below, meth, c, Q, nL, K0, ad0⟩ := X
  intro ad H locs ls hR he hs hv
  refine lv_ixor hX.1 hX.2.1 hd ?_
  have h5 := h4 ad H locs ls hR he hs hv
  rwa [List.map_cons, show cv ad (vI (Int32.ofInt x ^^^ Int32.ofInt y).toInt) = .int (Int32.ofInt x ^^^ Int32.ofInt y) by show Value.int (Int32.ofInt _) = _; rw [Int32.ofInt_toInt]] at h5
theorem fd_pos {x y : Int} (hy : 0 < y) : (if ¬ (x < 0 ↔ y < 0) ∧ x.tdiv y * y ≠ x then x.tdiv y - 1 else x.tdiv y) = x / y := by
  have e := Int.tdiv_eq_ediv (a := x) (b := y)
  have e2 := Int.emod_nonneg x (show y ≠ 0 by omega)
  have e3 := Int.emod_lt_of_pos x hy
  have e4 := Int.mul_ediv_add_emod x y
  have e5 := Int.emod_eq_zero_of_dvd (a := y) (b := x)
  rw [Int.mul_comm] at e4
  have hs : y.sign = 1 := Int.sign_eq_one_of_pos hy
  rw [hs] at e
  by_cases h0 : 0 ≤ x ∨ y ∣ x
  · rw [if_pos h0] at e
    rw [Int.add_zero] at e
    rw [e]
    split
    · rename_i h
      rcases h0 with h0 | h0
      · exact absurd (show (x < 0 ↔ y < 0) by omega) h.1
      · have := e5 h0; omega
    · rfl
  · rw [if_neg h0] at e
    have hx : x < 0 := by omega
    have hne : x % y ≠ 0 := fun q => h0 (Or.inr (Int.dvd_of_emod_eq_zero q))
    rw [e, if_pos, show x / y + 1 - 1 = x / y by omega]
    refine ⟨by omega, ?_⟩
    rw [Int.add_mul]
    omega
end RULES
