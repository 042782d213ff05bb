theorem w_acopy_l : Cond.methodLink RX9 281 arraycopyName ∈ tb := inT 376 (by decide +kernel)
theorem w_acopy_s : Cond.static arraycopyName ∈ tb := inT 377 (by decide +kernel)
theorem w_acopy_n : Cond.native arraycopyName ∈ tb := inT 378 (by decide +kernel)
theorem w_system : Cond.initialized "java/lang/System" ∈ tb := inT 48 (by decide +kernel)
theorem w_nat : nativeFrameWords "java/lang/System" "arraycopy" 5 + 11 ≤ 37 := by decide +kernel
section RULES
variable {E : EE} {X : JX} {cc : ByteArray} {own : String} {nl d c0 s0 : Nat} {pc : Nat} {L : List (Nat × Value)} {st : List Value} {K : Nat → Nat} {M : MM} {a b : Nat}
theorem J_acopy (hX : XO E X cc RX9 nl d c0 s0) {i0 i1 n0 n1 : Nat} {n : Int} (hd : decode cc pc = .ok (.invokestatic 281, 3)) (h0 : K i0 = 1000 + n0) (h1 : K i1 = 1000 + n1) (hn : 0 ≤ n ∧ n ≤ n0 ∧ n ≤ n1) (hb0 : n0 < 1000000) (hb1 : n1 < 1000000) (hdp : 1 ≤ d)
    (k1 : ∀ M2 : MM, (∀ i, i ≠ i1 → M2 i = M i) → (∀ j, M2 i1 j = if 0 ≤ j ∧ j < n then M i0 j else M i1 j) → J E X (pc + 3) L [] K M2 a b) : J E X pc L [vI n, vI 0, .ref i1, vI 0, .ref i0] K M a b := by
  obtain ⟨p, l, e, R, s, m, args, below, meth, c, Q, nL, K0, ad0⟩ := X
  intro ad H locs ls hR he hs hv T hT S
  obtain ⟨hx, hb, ⟨hml, hnl⟩, hown, hts, hroom, hKF⟩ := hX
  have hc0 := hR.1 i0 (by omega)
  have hc1 := hR.1 i1 (by omega)
  rw [h0, ce_arr] at hc0
  rw [h1, ce_arr] at hc1
  have hc0 : H[ad i0]? = some (vp_cell E.2.1.1 (n0, .inl (fun j => Int32.ofInt (M i0 j)))) := hc0
  have hc1 : H[ad i1]? = some (vp_cell E.2.1.1 (n1, .inl (fun j => Int32.ofInt (M i1 j)))) := hc1
  obtain ⟨-, k0, hk0, cm0, hkk0⟩ := (hKF.1.2 0 _ tys_0).1 n0 (fun j => .int (Int32.ofInt (M i0 j)))
  obtain ⟨-, kk1, hk1, cm1, hkk1⟩ := (hKF.1.2 0 _ tys_0).1 n1 (fun j => .int (Int32.ofInt (M i1 j)))
  have hnt : (Int32.ofInt n).toInt = n := oi_t (by omega)
  have hnc : (Int32.ofInt n).toNatClampNeg = n.toNat := oi_cl (by omega)
  have hz : (Int32.ofInt 0).toInt = 0 := rfl
  obtain ⟨vm', X', step⟩ := S.arraycopy hx hown (hts _ w_acopy_l) (hts _ w_acopy_n) (hts _ w_acopy_s) (hts _ w_system) (src := ad i0) (dst := ad i1) (cs := vp_cell E.2.1.1 (n0, .inl (fun j => Int32.ofInt (M i0 j)))) (cd := vp_cell E.2.1.1 (n1, .inl (fun j => Int32.ofInt (M i1 j)))) (srcPos := Int32.ofInt 0) (destPos := Int32.ofInt 0) (n := Int32.ofInt n)
    (by rw [hT]; exact hc0) (by rw [hT]; exact hc1) (fun _ h => by cases h) (fun _ h => by cases h) (fun h => by cases h) (fun h => by cases h) hk0 hk1 hkk0 hkk1 rfl (by decide) (by decide)
    (by rw [Int32.lt_iff_toInt_lt, hnt, Int32.toInt_zero]; omega)
    (by rw [hz, hnt]; show ¬ _ > ((arrV _ n0 (fun j => .int (Int32.ofInt (M i0 j)))).slots.size : Int); rw [arrV_size]; omega)
    (by rw [hz, hnt]; show ¬ _ > ((arrV _ n1 (fun j => .int (Int32.ofInt (M i1 j)))).slots.size : Int); rw [arrV_size]; omega)
    (fun vm₁ _ i hi => by
      rw [hnc] at hi
      have e : (vp_cell E.2.1.1 (n0, .inl (fun j => Int32.ofInt (M i0 j)))).slots.getD ((Int32.ofInt 0).toNatClampNeg + i) .null = .int (Int32.ofInt (M i0 (((Int32.ofInt 0).toNatClampNeg + i : Nat) : Int))) := by
        have hz2 : (Int32.ofInt 0).toNatClampNeg = 0 := rfl
        show (arrV _ n0 (fun j => .int (Int32.ofInt (M i0 j)))).slots.getD _ _ = _
        rw [Array.getD_eq_getD_getElem?, arrV_read _ _ (by rw [hz2]; omega)]
        rfl
      rw [e]
      exact ⟨rfl, trivial⟩)
    (g := F0 m pc ls (([vI n, vI 0, .ref i1, vI 0, .ref i0] : List Value).map (cv ad))) rfl (hv.1.trans hml.symm) (rest := []) rfl (by rw [hb]; exact hd) (by omega) (by have := w_nat; show 2 * 0 + 0 + _ ≤ _; omega)
  have e1 : copied (vp_cell E.2.1.1 (n0, .inl (fun j => Int32.ofInt (M i0 j)))) (vp_cell E.2.1.1 (n1, .inl (fun j => Int32.ofInt (M i1 j)))) (Int32.ofInt 0) (Int32.ofInt 0) (Int32.ofInt n) = vp_cell E.2.1.1 (n1, .inl (va_cpy (fun j : Nat => Int32.ofInt (M i0 j)) (fun j : Nat => Int32.ofInt (M i1 j)) 0 0 n.toNat)) := by
    have := va_copied (sp := 0) (dp := 0) (n := n.toNat) (n0 := n0) (n1 := n1) (fun z : Int32 => Value.int z) E.2.1.1 E.2.1.1 (fun j : Nat => Int32.ofInt (M i0 j)) (fun j : Nat => Int32.ofInt (M i1 j)) (by omega)
    have hz2 : (Int32.ofInt 0).toNatClampNeg = 0 := rfl
    unfold copied
    rw [hz2, hnc]
    exact this
  rw [e1] at X' step
  have hl : ad i1 < H.size := (Array.getElem?_eq_some_iff.mp hc1).1
  have hk1n : K i1 ≠ 0 := by omega
  let M2 : MM := fun i j => if i = i1 then (if 0 ≤ j ∧ j < n then M i0 j else M i1 j) else M i j
  have m1 : ∀ i, i ≠ i1 → M2 i = M i := fun i hi => by funext j; show (if i = i1 then _ else _) = _; rw [if_neg hi]
  have m2 : ∀ j, M2 i1 j = if 0 ≤ j ∧ j < n then M i0 j else M i1 j := fun j => by show (if i1 = i1 then _ else _) = _; rw [if_pos rfl]
  have hrg : ∀ j, rg (K i1) j (M2 i1 j) := fun j => by
    rw [m2]
    split
    · have := hR.2.2.2.2 i0 j (by omega)
      refine Or.inr (rg_i this ?_ ?_ ?_) <;> omega
    · exact hR.2.2.2.2 i1 j hk1n
  have hR2 : Rep E ad K M2 (H.setIfInBounds (ad i1) (vp_cell E.2.1.1 (n1, .inl (va_cpy (fun j : Nat => Int32.ofInt (M i0 j)) (fun j : Nat => Int32.ofInt (M i1 j)) 0 0 n.toNat)))) := by
    refine Rep_set hR hk1n ?_ (by simp) (fun q hq => by simp [Array.getElem?_setIfInBounds, Ne.symm hq]) m1 hrg
    rw [h1, ce_arr]
    show (H.setIfInBounds (ad i1) _)[ad i1]? = some (vp_cell _ _)
    rw [Array.getElem?_setIfInBounds, if_pos rfl, if_pos hl]
    congr 1
    have ef : va_cpy (fun j : Nat => Int32.ofInt (M i0 j)) (fun j : Nat => Int32.ofInt (M i1 j)) 0 0 n.toNat = fun j : Nat => Int32.ofInt (M2 i1 j) := by
      funext q
      unfold va_cpy
      rw [m2]
      by_cases hq : q < n.toNat
      · rw [if_pos ⟨by omega, by omega⟩, if_pos ⟨by omega, by omega⟩]; simp
      · rw [if_neg (by omega), if_neg (by omega)]
    rw [ef]
  obtain ⟨t, a1, b1⟩ := k1 M2 m1 m2 ad _ _ ls hR2 he (fun z hz => by
      rcases List.mem_append.mp hz with h | h
      · exact hs z h
      · obtain ⟨w, -, hw⟩ := List.mem_map.mp h
        rw [← hw]; exact hR.2.2.1 i1 hk1n) hv _ (by rw [← hT]; rfl) X'
  exact ⟨t, step t a1, b1⟩
/- longs -/
theorem J_i2l (hX : XO E X cc own nl d c0 s0) {x : Int} (hd : decode cc pc = .ok (.i2l, 1)) (hx : i32 x) (k1 : J E X (pc + 1) L (vL x :: st) K M a b) : J E X pc L (vI x :: st) K M a b := by
  obtain ⟨p, l, e, R, s, m, args, below, meth, c, Q, nL, K0, ad0⟩ := X
  intro ad H locs ls hR he hs hv
  exact lv_i2l hX.1 hX.2.1 hd (Int32.toInt64_ofInt (by rw [oi_minV]; omega) (by rw [oi_maxV]; omega)) (k1 ad H locs ls hR he hs hv)
theorem J_ladd (hX : XO E X cc own nl d c0 s0) {x y : Int} (hd : decode cc pc = .ok (.ladd, 1)) (k1 : J E X (pc + 1) L (vL (x + y) :: st) K M a b) : J E X pc L (vL y :: vL x :: st) K M a b := by
  obtain ⟨p, l, e, R, s, m, args, below, meth, c, Q, nL, K0, ad0⟩ := X
  intro ad H locs ls hR he hs hv
  refine lv_ladd hX.1 hX.2.1 hd ?_
  rw [← Int64.ofInt_add]
  exact k1 ad H locs ls hR he hs hv
theorem J_lsub (hX : XO E X cc own nl d c0 s0) {x y : Int} (hd : decode cc pc = .ok (.lsub, 1)) (k1 : J E X (pc + 1) L (vL (x - y) :: st) K M a b) : J E X pc L (vL y :: vL x :: st) K M a b := by
  obtain ⟨p, l, e, R, s, m, args, below, meth, c, Q, nL, K0, ad0⟩ := X
  intro ad H locs ls hR he hs hv
  refine lv_lsub hX.1 hX.2.1 hd ?_
  rw [← Int64.ofInt_sub]
  exact k1 ad H locs ls hR he hs hv
theorem J_lmul (hX : XO E X cc own nl d c0 s0) {x y : Int} (hd : decode cc pc = .ok (.lmul, 1)) (k1 : J E X (pc + 1) L (vL (x * y) :: st) K M a b) : J E X pc L (vL y :: vL x :: st) K M a b := by
  obtain ⟨p, l, e, R, s, m, args, below, meth, c, Q, nL, K0, ad0⟩ := X
  intro ad H locs ls hR he hs hv
  refine lv_lmul hX.1 hX.2.1 hd ?_
  rw [← Int64.ofInt_mul]
  exact k1 ad H locs ls hR he hs hv
theorem J_ldc2 (hX : XO E X cc own nl d c0 s0) {idx : Nat} {v : Int64} {x : Int} (hd : decode cc pc = .ok (.ldc2_w idx, 3)) (hw : Cond.constantLong own idx v ∈ tb) (hv0 : v = Int64.ofInt x) (k1 : J E X (pc + 3) L (vL x :: st) K M a b) : J E X pc L st K M a b := by
  obtain ⟨p, l, e, R, s, m, args, below, meth, c, Q, nL, K0, ad0⟩ := X
  intro ad H locs ls hR he hs hv
  subst hv0
  exact lv_ldc2 hX.1 hX.2.1 hX.2.2.2.1 (hX.2.2.2.2.1 _ hw) hd (k1 ad H locs ls hR he hs hv)
theorem J_lconst (hX : XO E X cc own nl d c0 s0) {n : Fin 2} {x : Int} (hd : decode cc pc = .ok (.lconst n, 1)) (hv0 : Int64.ofNat n.val = Int64.ofInt x) (k1 : J E X (pc + 1) L (vL x :: st) K M a b) : J E X pc L st K M a b := by
  obtain ⟨p, l, e, R, s, m, args, below, meth, c, Q, nL, K0, ad0⟩ := X
  intro ad H locs ls hR he hs hv
  exact lv_lconst hX.1 hX.2.1 hd hv0 (k1 ad H locs ls hR he hs hv)
theorem J_lstore_n (hX : XO E X cc own nl d c0 s0) {k : Fin 4} {v : Int} (hd : decode cc pc = .ok (.lstore_n k, 1)) (hi : k.val + 1 < nl) (k1 : J E X (pc + 1) (lset2 L k.val (vL v)) st K M a b) : J E X pc L (vL v :: st) K M a b := by
  obtain ⟨p, l, e, R, s, m, args, below, meth, c, Q, nL, K0, ad0⟩ := X
  intro ad H locs ls hR he hs hv
  exact lv_lstore_n hX.1 hX.2.1 hd rfl hv (by rw [hX.2.2.1.2]; exact hi) (mlv_lset2 ad L k.val (vL v)) (fun ls2 h2 => k1 ad H locs ls2 hR he hs h2)
theorem J_lstore (hX : XO E X cc own nl d c0 s0) {i : Nat} {v : Int} (hd : decode cc pc = .ok (.lstore i, 2)) (hi : i + 1 < nl) (k1 : J E X (pc + 2) (lset2 L i (vL v)) st K M a b) : J E X pc L (vL v :: st) K M a b := by
  obtain ⟨p, l, e, R, s, m, args, below, meth, c, Q, nL, K0, ad0⟩ := X
  intro ad H locs ls hR he hs hv
  exact lv_lstore hX.1 hX.2.1 hd hv (by rw [hX.2.2.1.2]; exact hi) (mlv_lset2 ad L i (vL v)) (fun ls2 h2 => k1 ad H locs ls2 hR he hs h2)
end RULES
