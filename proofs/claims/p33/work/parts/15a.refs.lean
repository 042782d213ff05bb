/-! the array of four stages -/
theorem tys_1 {E : EE} : (tys E)[1]? = some (E.2.1.2.1, .object RX5) := rfl
theorem ce_q {E : EE} {ad : Nat → Nat} {i : Nat} {M : MM} : ce E ad 10 i M = .inl (E.2.1.2.1, 4, .inr (.inr (.inr (.inr (fun j : Nat => if M i j < 0 then none else some (ad (M i j).toNat)))))) := by
  unfold ce; rw [if_neg (by decide), if_pos rfl]
theorem Cl_q {K : Nat → Nat} {M : MM} {i v : Nat} {j : Int} (h : Cl K M) (hK : K i = 10) (hv : K v ≠ 0) : Cl K (mset M i j v) := by
  intro n hn
  obtain ⟨c1, c2, c3⟩ := h n hn
  by_cases e : n = i
  · subst e
    refine ⟨c1, fun q j2 h2 => ?_, fun f o h1 => by omega⟩
    by_cases e2 : (j2 : Int) = j
    · rw [e2, mset_eq]; simpa using hv
    · rw [mset_nj e2] at h2 ⊢; exact c2 q j2 h2
  · rw [mset_ne e]; exact ⟨c1, c2, c3⟩
section RULES
variable {E : EE} {X : JX} {cc : ByteArray} {own : String} {nl d c0 s0 : Nat} {pc : Nat} {L : List (Nat × Value)} {st : List Value} {K : Nat → Nat} {M : MM} {a b : Nat}
theorem J_aald (hX : XO E X cc own nl d c0 s0) {i : Nat} {j : Int} (hd : decode cc pc = .ok (.aaload, 1)) (hK : K i = 10) (hj : 0 ≤ j ∧ j < 4) (h0 : 0 ≤ M i j) (k1 : J E X (pc + 1) L (.ref (M i j).toNat :: st) K M a b) : J E X pc L (vI j :: .ref i :: st) K M a b := by
  obtain ⟨p, l, e, R, s, m, args, below, meth, c, Q, nL, K0, ad0⟩ := X
  intro ad H locs ls hR he hs hv
  have hat := hR.1 i (by omega)
  rw [hK, ce_q] at hat
  have hP : va_P E.1 vwCl [(ad i, .inl (E.2.1.2.1, 4, .inr (.inr (.inr (.inr (fun j : Nat => if M i j < 0 then none else some (ad (M i j).toNat)))))))] H := fun j q hq => by
    cases j with
    | zero => cases hq; exact hat
    | succ j => cases hq
  refine va_aldq hX.1 hX.2.1 hX.2.2.2.2.2.2.1 hP 0 1 rfl tys_1 (oi_in hj.1 hj.2 (by decide)) hd ?_
  rw [oi_cl (by omega), oi_cast hj.1, if_neg (by omega)]
  exact k1 ad H locs ls hR he hs hv
theorem J_aaldN (hX : XO E X cc own nl d c0 s0) {i : Nat} {j : Int} (hd : decode cc pc = .ok (.aaload, 1)) (hK : K i = 10) (hj : 0 ≤ j ∧ j < 4) (h0 : M i j < 0) (k1 : J E X (pc + 1) L (.null :: st) K M a b) : J E X pc L (vI j :: .ref i :: st) K M a b := by
  obtain ⟨p, l, e, R, s, m, args, below, meth, c, Q, nL, K0, ad0⟩ := X
  intro ad H locs ls hR he hs hv
  have hat := hR.1 i (by omega)
  rw [hK, ce_q] at hat
  have hP : va_P E.1 vwCl [(ad i, .inl (E.2.1.2.1, 4, .inr (.inr (.inr (.inr (fun j : Nat => if M i j < 0 then none else some (ad (M i j).toNat)))))))] H := fun j q hq => by
    cases j with
    | zero => cases hq; exact hat
    | succ j => cases hq
  refine va_aldq hX.1 hX.2.1 hX.2.2.2.2.2.2.1 hP 0 1 rfl tys_1 (oi_in hj.1 hj.2 (by decide)) hd ?_
  rw [oi_cl (by omega), oi_cast hj.1, if_pos h0]
  exact k1 ad H locs ls hR he hs hv
theorem J_aast (hX : XO E X cc own nl d c0 s0) {i v : Nat} {j : Int} (hd : decode cc pc = .ok (.aastore, 1)) (hK : K i = 10) (hj : 0 ≤ j ∧ j < 4) (hv5 : K v = 5) (hb : v < 1000000) (k1 : ∀ M2, M2 = mset M i j v → J E X (pc + 1) L st K M2 a b) : J E X pc L (.ref v :: vI j :: .ref i :: st) K M a b := by
  obtain ⟨p, l, e, R, s, m, args, below, meth, c, Q, nL, K0, ad0⟩ := X
  intro ad H locs ls hR he hs hv
  have hk0 : K i ≠ 0 := by omega
  have hat := hR.1 i hk0
  rw [hK, ce_q] at hat
  have hatv := hR.1 v (by omega)
  rw [hv5, ce_obj (by decide)] at hatv
  obtain ⟨r', hr', cellV, g1, g2, g3, -⟩ := hatv
  have hKK := hX.2.2.2.2.2.2.1
  have hcls := (hKK.1 4 _ (rfl : vwCl[4]? = some (RX5, TX5, 8))).2
  obtain ⟨kA, comp, k1', k2', k3', -⟩ := (hKK.2 1 _ tys_1).2
  have hcomp : comp = E.1.1 4 := Option.some.inj (k3'.symm.trans hcls.1)
  subst hcomp
  obtain ⟨kC, hkC, -⟩ := hcls.2
  have hin := oi_in (n := 4) hj.1 hj.2 (by decide)
  have h0 : ¬ Int32.ofInt j < 0 := fun q => hin (Or.inl q)
  have hlt : (Int32.ofInt j).toNatClampNeg < 4 := Nat.not_le.mp fun q => hin (Or.inr q)
  have hr'' : r' = (RX5, TX5, 8) := Option.some.inj (hr'.symm.trans rfl)
  subst hr''
  have g2 : cellV.cls = E.1.1 4 := g2
  refine W.aast hX.1 hX.2.1 (a := ad i) (v := ad v) (j := Int32.ofInt j) hat (fun q h => by cases h) (fun h => by cases h) k1' k2' rfl hkC ⟨h0, by show _ < (arrV _ _ _).slots.size; rw [arrV_size]; exact hlt⟩ g1 (fun q h => by rw [g3] at h; cases h) (by rw [g2]; exact hkC) (by rw [g2]; exact va_assign hcls) rfl rfl hd fun H2 e1 z oq => ?_
  refine k1 _ rfl ad H2 _ ls (Rep_set hR hk0 ?_ z oq (fun i2 h => mset_ne h) (mset_rg (fun j2 => hR.2.2.2.2 i j2 hk0) (Or.inr (by omega)))) he ?_ hv
  · rw [hK, ce_q]
    show H2[ad i]? = some (vp_cell _ _)
    rw [e1, vp_cell_q, vp_cell_q, arrV_store, oi_cl (by omega)]
    congr 2
    funext q
    unfold updV
    by_cases hq : q = j.toNat
    · have e9 : mset M i j (v : Int) i (q : Int) = v := by rw [show (q : Int) = j by omega, mset_eq]
      rw [if_pos hq, e9, if_neg (by omega), Int.toNat_natCast]; rfl
    · have e9 : mset M i j (v : Int) i (q : Int) = M i q := mset_nj (by omega)
      rw [if_neg hq, e9]
  · intro z hz
    rcases List.mem_append.mp hz with h | h
    · exact hs z h
    · rw [List.mem_singleton.mp h]; exact hR.2.2.1 i hk0
theorem J_ifnull (hX : XO E X cc own nl d c0 s0) {off : Int} {v : Nat} (hd : decode cc pc = .ok (.ifnull off, 3)) (k1 : J E X (pc + 3) L st K M a b) : J E X pc L (.ref v :: st) K M a b := by
  obtain ⟨p, l, e, R, s, m, args, below, meth, c, Q, nL, K0, ad0⟩ := X
  intro ad H locs ls hR he hs hv
  exact lv_ifnull hX.1 hX.2.1 hd (k1 ad H locs ls hR he hs hv)
theorem J_ifnonnull (hX : XO E X cc own nl d c0 s0) {off : Int} {v : Nat} (t : Nat) (hd : decode cc pc = .ok (.ifnonnull off, 3)) (ht : (pc : Int) + off = (t : Int)) (k1 : J E X t L st K M a b) : J E X pc L (.ref v :: st) K M a b := by
  obtain ⟨p, l, e, R, s, m, args, below, meth, c, Q, nL, K0, ad0⟩ := X
  intro ad H locs ls hR he hs hv
  exact lv_ifnonnull hX.1 hX.2.1 hd ht (k1 ad H locs ls hR he hs hv)
theorem J_ifnullN (hX : XO E X cc own nl d c0 s0) {off : Int} (t : Nat) (hd : decode cc pc = .ok (.ifnull off, 3)) (ht : (pc : Int) + off = (t : Int)) (k1 : J E X t L st K M a b) : J E X pc L (.null :: st) K M a b := by
  obtain ⟨p, l, e, R, s, m, args, below, meth, c, Q, nL, K0, ad0⟩ := X
  intro ad H locs ls hR he hs hv
  exact lv_ifnullN hX.1 hX.2.1 hd ht (k1 ad H locs ls hR he hs hv)
theorem J_ifnonnullN (hX : XO E X cc own nl d c0 s0) {off : Int} (hd : decode cc pc = .ok (.ifnonnull off, 3)) (k1 : J E X (pc + 3) L st K M a b) : J E X pc L (.null :: st) K M a b := by
  obtain ⟨p, l, e, R, s, m, args, below, meth, c, Q, nL, K0, ad0⟩ := X
  intro ad H locs ls hR he hs hv
  exact lv_ifnonnullN hX.1 hX.2.1 hd (k1 ad H locs ls hR he hs hv)
theorem J_aload_nN (hX : XO E X cc own nl d c0 s0) {k : Fin 4} (hd : decode cc pc = .ok (.aload_n k, 1)) (hl : lget L k.val = some .null) (k1 : J E X (pc + 1) L (.null :: st) K M a b) : J E X pc L st K M a b := by
  obtain ⟨p, l, e, R, s, m, args, below, meth, c, Q, nL, K0, ad0⟩ := X
  intro ad H locs ls hR he hs hv
  exact lv_aload_nN hX.1 hX.2.1 hd rfl (lget_at hv hl) (k1 ad H locs ls hR he hs hv)
theorem J_astore_nN (hX : XO E X cc own nl d c0 s0) {k : Fin 4} (hd : decode cc pc = .ok (.astore_n k, 1)) (hi : k.val < nl) (k1 : J E X (pc + 1) (lset L k.val .null) st K M a b) : J E X pc L (.null :: st) K M a b := by
  obtain ⟨p, l, e, R, s, m, args, below, meth, c, Q, nL, K0, ad0⟩ := X
  intro ad H locs ls hR he hs hv
  exact lv_astore_nN hX.1 hX.2.1 hd rfl hv (by rw [hX.2.2.1.2]; exact hi) (mlv_lset ad L k.val .null) (fun ls2 h2 => k1 ad H locs ls2 hR he hs h2)
end RULES
