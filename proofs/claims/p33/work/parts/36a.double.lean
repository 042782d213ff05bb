/-! doubles: a mean is no NaN -/
theorem n64_of {r : UInt64} (h : r.toNat % 2 ^ 63 ≤ 9218868437227405312) : vf_n64 r := by
  unfold vf_n64
  rw [UInt64.le_iff_toNat_le, UInt64.toNat_and]
  show r.toNat &&& (2 ^ 63 - 1) ≤ 9218868437227405312
  rw [Nat.and_two_pow_sub_one_eq_mod]
  exact h
theorem asm_ok (s : Bool) (e t : Nat) (h : e * 4503599627370496 + t ≤ 9218868437227405312) : Jvm.FP.Core.assemble Jvm.FP.Core.b64 s e t % 2 ^ 63 ≤ 9218868437227405312 := by
  show ((s.toNat * 2048 + e) * 4503599627370496 + t) % 2 ^ 63 ≤ _
  cases s
  · show ((0 * 2048 + e) * 4503599627370496 + t) % 2 ^ 63 ≤ _
    omega
  · show ((1 * 2048 + e) * 4503599627370496 + t) % 2 ^ 63 ≤ _
    omega
theorem enc_fin (s : Bool) (c : Nat) (q : Int) (hc : c < 9007199254740992) (hq : q ≤ 971) : Jvm.FP.Core.encode Jvm.FP.Core.b64 (.fin s c q) % 2 ^ 63 ≤ 9218868437227405312 := by
  show (if c < 4503599627370496 then _ else _) % 2 ^ 63 ≤ _
  split
  · exact asm_ok s 0 c (by omega)
  · exact asm_ok s ((q - -1074).toNat + 1) (c - 4503599627370496) (by omega)
theorem enc_inf (s : Bool) : Jvm.FP.Core.encode Jvm.FP.Core.b64 (.inf s) % 2 ^ 63 ≤ 9218868437227405312 := asm_ok s 2047 0 (by decide)
theorem bnd_ok (s : Bool) (c : Nat) (q : Int) (hc : c < 9007199254740992) : Jvm.FP.Core.encode Jvm.FP.Core.b64 (Jvm.FP.Core.bound Jvm.FP.Core.b64 s c q) % 2 ^ 63 ≤ 9218868437227405312 := by
  unfold Jvm.FP.Core.bound
  split
  · rename_i h
    exact enc_fin s c q hc h
  · exact enc_inf s
theorem rr_ok (s : Bool) (c d : Nat) (e : Int) : Jvm.FP.Core.encode Jvm.FP.Core.b64 (Jvm.FP.Core.roundRatio Jvm.FP.Core.b64 s c d e) % 2 ^ 63 ≤ 9218868437227405312 := by
  unfold Jvm.FP.Core.roundRatio
  split
  · exact enc_fin s 0 _ (by decide) (by decide)
  · unfold Jvm.FP.Core.roundAt Jvm.FP.Core.settle
    split
    · rename_i h
      exact bnd_ok s _ _ h
    · exact bnd_ok s _ _ (by decide)
def finB : Jvm.FP.Core.Datum → Bool
  | .fin _ _ _ => true
  | _ => false
def fnzB : Jvm.FP.Core.Datum → Bool
  | .fin _ c _ => decide (c ≠ 0)
  | _ => false
theorem div_ok {x y : Nat} (hx : finB (Jvm.FP.Core.decode Jvm.FP.Core.b64 x) = true) (hy : fnzB (Jvm.FP.Core.decode Jvm.FP.Core.b64 y) = true) : Jvm.FP.Core.div Jvm.FP.Core.b64 x y % 2 ^ 63 ≤ 9218868437227405312 := by
  unfold Jvm.FP.Core.div
  cases h1 : Jvm.FP.Core.decode Jvm.FP.Core.b64 x with
  | nan => rw [h1] at hx; cases hx
  | inf s => rw [h1] at hx; cases hx
  | fin s c q =>
    cases h2 : Jvm.FP.Core.decode Jvm.FP.Core.b64 y with
    | nan => rw [h2] at hy; cases hy
    | inf s => rw [h2] at hy; cases hy
    | fin t d r =>
      rw [h2] at hy
      have hd : d ≠ 0 := of_decide_eq_true hy
      show Jvm.FP.Core.encode _ (if d = 0 then _ else _) % 2 ^ 63 ≤ _
      rw [if_neg hd]
      exact rr_ok _ _ _ _
theorem i2d_fin1 : (List.range 3001).all (fun k => finB (Jvm.FP.Core.decode Jvm.FP.Core.b64 (FP.i2d (Int32.ofInt (k : Nat))).toNat)) = true := by decide +kernel
theorem i2d_fnz1 : (List.range 201).all (fun k => k == 0 || fnzB (Jvm.FP.Core.decode Jvm.FP.Core.b64 (FP.i2d (Int32.ofInt (k : Nat))).toNat)) = true := by decide +kernel
def dd (s w : Int) : UInt64 := FP.ddiv (FP.i2d (Int32.ofInt s)) (FP.i2d (Int32.ofInt w))
theorem dd_n {s w : Int} (hs : 0 ≤ s ∧ s ≤ 3000) (hw : 20 ≤ w ∧ w ≤ 200) : vf_n64 (dd s w) := by
  have h1 := List.all_eq_true.mp i2d_fin1 s.toNat (List.mem_range.mpr (by omega))
  have h2 := List.all_eq_true.mp i2d_fnz1 w.toNat (List.mem_range.mpr (by omega))
  rw [show ((s.toNat : Nat) : Int) = s by omega] at h1
  rw [show ((w.toNat : Nat) : Int) = w by omega] at h2
  have h2' : fnzB (Jvm.FP.Core.decode Jvm.FP.Core.b64 (FP.i2d (Int32.ofInt w)).toNat) = true := by
    rcases Bool.or_eq_true _ _ ▸ h2 with h | h
    · have : w.toNat = 0 := by simpa using h
      omega
    · exact h
  have h := div_ok h1 h2'
  refine n64_of ?_
  show (UInt64.ofNat (Jvm.FP.Core.div Jvm.FP.Core.b64 _ _)).toNat % 2 ^ 63 ≤ _
  rw [UInt64.toNat_ofNat']
  omega
section RULES
variable {E : EE} {X : JX} {cc : ByteArray} {own : String} {nl d c0 s0 : Nat} {pc : Nat} {L : List (Nat × Value)} {st : List Value} {K : Nat → Nat} {M : MM} {a b : Nat}
theorem J_i2d (hX : XO E X cc own nl d c0 s0) {x : Int} (hd : decode cc pc = .ok (.i2d, 1)) (k1 : J E X (pc + 1) L (.double (FP.i2d (Int32.ofInt x)) :: st) K M a b) : J E X pc L (vI x :: st) K M a b := by
  obtain ⟨p, l, e, R, s, m, args, below, meth, c, Q, nL, K0, ad0⟩ := X
  intro ad H locs ls hR he hs hv
  exact lv_i2d hX.1 hX.2.1 hd (k1 ad H locs ls hR he hs hv)
theorem J_ddiv (hX : XO E X cc own nl d c0 s0) {x y : UInt64} (hd : decode cc pc = .ok (.ddiv, 1)) (hn : vf_n64 (FP.ddiv x y)) (k1 : J E X (pc + 1) L (.double (FP.ddiv x y) :: st) K M a b) : J E X pc L (.double y :: .double x :: st) K M a b := by
  obtain ⟨p, l, e, R, s, m, args, below, meth, c, Q, nL, K0, ad0⟩ := X
  intro ad H locs ls hR he hs hv
  exact lv_ddiv hX.1 hX.2.1 hd hn (k1 ad H locs ls hR he hs hv)
theorem J_dconst0 (hX : XO E X cc own nl d c0 s0) (hd : decode cc pc = .ok (.dconst 0, 1)) (k1 : J E X (pc + 1) L (.double FP.dconst0 :: st) K M a b) : J E X pc L st K M a b := by
  obtain ⟨p, l, e, R, s, m, args, below, meth, c, Q, nL, K0, ad0⟩ := X
  intro ad H locs ls hR he hs hv
  exact lv_dconst0 hX.1 hX.2.1 hd (k1 ad H locs ls hR he hs hv)
theorem J_dret (hX : XO E X cc own nl d c0 s0) {post : Option Value → (Nat → Nat) → MM → Prop} (hQ : XQ E X (some .double) post c0 s0) {x : UInt64} (hd : decode cc pc = .ok (.dreturn, 1)) (hp : post (some (.double x)) K M) (ha : a ≤ c0) (hb : b ≤ s0) : J E X pc L [(.double x)] K M a b := by
  obtain ⟨p, l, e, R, s, m, args, below, meth, c, Q, nL, K0, ad0⟩ := X
  intro ad H locs ls hR he hs hv
  obtain ⟨hr, hlocks, rfl⟩ := hQ
  refine W.widen ha hb ?_
  exact W.dret hX.1 hX.2.1 hr (fun t ht hW => ⟨some (.double x), K, M, ad, rfl, hp, by rw [ht]; exact hR, he⟩) hs hd hlocks
end RULES
