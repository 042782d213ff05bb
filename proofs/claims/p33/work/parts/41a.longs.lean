/-! arrays of one long -/
theorem tys_2 {E : EE} : (tys E)[2]? = some (E.2.1.2.2.1, .long) := rfl
theorem tys_3 {E : EE} : (tys E)[3]? = some (E.2.1.2.2.2, .double) := rfl
theorem ac_long : Cond.arrayClass .long ∈ tb := inT 1723 (by decide +kernel)
theorem ce_11 {E : EE} {ad : Nat → Nat} {i : Nat} {M : MM} : ce E ad 11 i M = .inl (E.2.1.2.2.1, 1, .inr (.inl (fun j : Nat => Int64.ofInt (M i j)))) := by
  unfold ce; rw [if_neg (by decide), if_neg (by decide), if_pos rfl]
section RULES
variable {E : EE} {X : JX} {cc : ByteArray} {own : String} {nl d c0 s0 : Nat} {pc : Nat} {L : List (Nat × Value)} {st : List Value} {K : Nat → Nat} {M : MM} {a b : Nat}
theorem J_newl (hX : XO E X cc own nl d c0 s0) (i : Nat) (hd : decode cc pc = .ok (.newarray .long, 2)) (hi : K i = 0) (hg : ∀ j, XK X j ≠ 0 → K j ≠ 0) (hC : Cl K M) (hL : lvs K (L.map (fun q => q.2))) (hst : lvs K st) (hcs : a + 1 ≤ c0 ∧ b + 1 ≤ s0)
    (k1 : ∀ K2 M2, K2 = upK K i 11 → M2 = upM M i (fun _ => 0) → Cl K2 M2 → J E X (pc + 2) L (.ref i :: st) K2 M2 (a + 1) (b + 1)) : J E X pc L (vI 1 :: st) K M a b := by
  obtain ⟨p, l, e, R, s, m, args, below, meth, c, Q, nL, K0, ad0⟩ := X
  intro ad H locs ls hR he hs hv
  obtain ⟨hx, hb, ⟨hml, hnl⟩, hown, hts, hroom, hKF⟩ := hX
  have hkeep : ∀ j, K j ≠ 0 → upK ad i H.size j = ad j := fun j hj => upK_ne (fun q => hj (by rw [q]; exact hi))
  have hti := (hKF.1.2 2 _ tys_2).2
  refine va_newaK (atype := .long) (n := Int32.ofInt 1) (N := 1) (h := H.size) hx hb (hts _ ac_long) rfl hd rfl ?_ (oi_cl (a := 1) (by omega)) ?_ (by omega) (by omega) rfl fun H1 cA e1 z1 o1 hA hf => ?_
  · rw [oi_0, oi_lt (by omega) (by omega)]; omega
  · show 1 * 8 ≤ _; omega
  have hcA : cA = E.2.1.2.2.1 := Option.some.inj (hf.symm.trans hti)
  subst hcA
  have hat : va_at E.1 vwCl (H.size, ce E (upK ad i H.size) 11 i (upM M i (fun _ => 0))) H1 := by
    rw [ce_11]
    show H1[H.size]? = some (vp_cell _ _)
    rw [e1, upM_eq]; rfl
  have hR2 := Rep_ext hR hC hi z1 o1 hat (fun j => Or.inl (by omega))
  have hfin := k1 _ _ rfl rfl (Cl_ext hC hi (by decide) (Or.inl ⟨by decide, by decide⟩)) _ H1 locs ls hR2 (adE_ext he hg hi (by decide)) hs (by rw [mlv_keep hkeep L hL]; exact hv)
  have e3 : (Value.ref i :: st).map (cv (upK ad i H.size)) = .ref H.size :: st.map (cv ad) := by
    rw [List.map_cons, cv_keep hkeep st hst]
    show Value.ref (upK ad i H.size i) :: _ = _
    rw [upK_eq]
  rw [e3] at hfin
  exact hfin
theorem J_lald (hX : XO E X cc own nl d c0 s0) {i : Nat} (hd : decode cc pc = .ok (.laload, 1)) (hK : K i = 11) (k1 : J E X (pc + 1) L (vL (M i 0) :: st) K M a b) : J E X pc L (vI 0 :: .ref i :: st) K M a b := by
  obtain ⟨p, l, e, R, s, m, args, below, meth, c, Q, nL, K0, ad0⟩ := X
  intro ad H locs ls hR he hs hv
  have hk0 : K i ≠ 0 := by omega
  have hat := hR.1 i hk0
  rw [hK, ce_11] at hat
  have hP : va_P E.1 vwCl [(ad i, .inl (E.2.1.2.2.1, 1, .inr (.inl (fun j : Nat => Int64.ofInt (M i j)))))] H := fun j q hq => by
    cases j with
    | zero => cases hq; exact hat
    | succ j => cases hq
  exact va_lald hX.1 hX.2.1 hX.2.2.2.2.2.2.1 hP 0 2 rfl tys_2 (oi_in (j := 0) (n := 1) (by decide) (by decide) (by decide)) hd (k1 ad H locs ls hR he hs hv)
theorem J_last (hX : XO E X cc own nl d c0 s0) {i : Nat} {x : Int} (hd : decode cc pc = .ok (.lastore, 1)) (hK : K i = 11) (k1 : ∀ M2, M2 = mset M i 0 x → J E X (pc + 1) L st K M2 a b) : J E X pc L (vL x :: vI 0 :: .ref i :: st) K M a b := by
  obtain ⟨p, l, e, R, s, m, args, below, meth, c, Q, nL, K0, ad0⟩ := X
  intro ad H locs ls hR he hs hv
  have hk0 : K i ≠ 0 := by omega
  have hat := hR.1 i hk0
  rw [hK, ce_11] at hat
  refine W.last hX.1 hX.2.1 (a := ad i) (cell := arrV E.2.1.2.2.1 1 (fun j => .long (Int64.ofInt (M i j)))) (x := Int64.ofInt (x)) (j := Int32.ofInt 0) hat ((hX.2.2.2.2.2.2.1.2 2 _ tys_2).1 1 _) (fun q => by cases q) (by rw [arrV_size]; exact oi_in (j := 0) (n := 1) (by decide) (by decide) (by decide)) rfl rfl hd fun H2 e1 z oq => ?_
  refine k1 _ rfl ad H2 _ ls (Rep_set hR hk0 ?_ z oq (fun i2 h => mset_ne h) (mset_rg (fun j2 => hR.2.2.2.2 i j2 hk0) (Or.inl (by rw [hK]; decide)))) he ?_ hv
  · rw [hK, ce_11]
    show H2[ad i]? = some (vp_cell _ _)
    rw [e1, vp_cell_l, arrV_store]
    congr 2
    funext q
    unfold updV mset
    by_cases hq : q = 0
    · rw [if_pos (by rw [hq]; rfl), if_pos ⟨rfl, by omega⟩]
    · rw [if_neg (fun z => hq (by rw [z]; rfl)), if_neg (by omega)]
  · intro z hz
    rcases List.mem_append.mp hz with h | h
    · exact hs z h
    · rw [List.mem_singleton.mp h]; exact hR.2.2.1 i hk0
end RULES
theorem ac_double : Cond.arrayClass .double ∈ tb := inT 1724 (by decide +kernel)
theorem ce_12 {E : EE} {ad : Nat → Nat} {i : Nat} {M : MM} : ce E ad 12 i M = .inl (E.2.1.2.2.2, 1, .inr (.inr (.inr (.inl (fun j : Nat => UInt64.ofNat (M i j).toNat))))) := by
  unfold ce; rw [if_neg (by decide), if_neg (by decide), if_neg (by decide), if_pos rfl]
abbrev vDn (x : Int) : Value := .double (UInt64.ofNat x.toNat)
section RULES
variable {E : EE} {X : JX} {cc : ByteArray} {own : String} {nl d c0 s0 : Nat} {pc : Nat} {L : List (Nat × Value)} {st : List Value} {K : Nat → Nat} {M : MM} {a b : Nat}
theorem J_newd (hX : XO E X cc own nl d c0 s0) (i : Nat) (hd : decode cc pc = .ok (.newarray .double, 2)) (hi : K i = 0) (hg : ∀ j, XK X j ≠ 0 → K j ≠ 0) (hC : Cl K M) (hL : lvs K (L.map (fun q => q.2))) (hst : lvs K st) (hcs : a + 1 ≤ c0 ∧ b + 1 ≤ s0)
    (k1 : ∀ K2 M2, K2 = upK K i 12 → M2 = upM M i (fun _ => 0) → Cl K2 M2 → J E X (pc + 2) L (.ref i :: st) K2 M2 (a + 1) (b + 1)) : J E X pc L (vI 1 :: st) K M a b := by
  obtain ⟨p, l, e, R, s, m, args, below, meth, c, Q, nL, K0, ad0⟩ := X
  intro ad H locs ls hR he hs hv
  obtain ⟨hx, hb, ⟨hml, hnl⟩, hown, hts, hroom, hKF⟩ := hX
  have hkeep : ∀ j, K j ≠ 0 → upK ad i H.size j = ad j := fun j hj => upK_ne (fun q => hj (by rw [q]; exact hi))
  have hti := (hKF.1.2 3 _ tys_3).2
  refine va_newaK (atype := .double) (n := Int32.ofInt 1) (N := 1) (h := H.size) hx hb (hts _ ac_double) rfl hd rfl ?_ (oi_cl (a := 1) (by omega)) ?_ (by omega) (by omega) rfl fun H1 cA e1 z1 o1 hA hf => ?_
  · rw [oi_0, oi_lt (by omega) (by omega)]; omega
  · show 1 * 8 ≤ _; omega
  have hcA : cA = E.2.1.2.2.2 := Option.some.inj (hf.symm.trans hti)
  subst hcA
  have hat : va_at E.1 vwCl (H.size, ce E (upK ad i H.size) 12 i (upM M i (fun _ => 0))) H1 := by
    rw [ce_12]
    show H1[H.size]? = some (vp_cell _ _)
    rw [e1, upM_eq]; rfl
  have hR2 := Rep_ext hR hC hi z1 o1 hat (fun j => Or.inl (by omega))
  have hfin := k1 _ _ rfl rfl (Cl_ext hC hi (by decide) (Or.inl ⟨by decide, by decide⟩)) _ H1 locs ls hR2 (adE_ext he hg hi (by decide)) hs (by rw [mlv_keep hkeep L hL]; exact hv)
  have e3 : (Value.ref i :: st).map (cv (upK ad i H.size)) = .ref H.size :: st.map (cv ad) := by
    rw [List.map_cons, cv_keep hkeep st hst]
    show Value.ref (upK ad i H.size i) :: _ = _
    rw [upK_eq]
  rw [e3] at hfin
  exact hfin
theorem J_dald (hX : XO E X cc own nl d c0 s0) {i : Nat} (hd : decode cc pc = .ok (.daload, 1)) (hK : K i = 12) (k1 : J E X (pc + 1) L (vDn (M i 0) :: st) K M a b) : J E X pc L (vI 0 :: .ref i :: st) K M a b := by
  obtain ⟨p, l, e, R, s, m, args, below, meth, c, Q, nL, K0, ad0⟩ := X
  intro ad H locs ls hR he hs hv
  have hk0 : K i ≠ 0 := by omega
  have hat := hR.1 i hk0
  rw [hK, ce_12] at hat
  have hP : va_P E.1 vwCl [(ad i, .inl (E.2.1.2.2.2, 1, .inr (.inr (.inr (.inl (fun j : Nat => UInt64.ofNat (M i j).toNat))))))] H := fun j q hq => by
    cases j with
    | zero => cases hq; exact hat
    | succ j => cases hq
  exact va_dald hX.1 hX.2.1 hX.2.2.2.2.2.2.1 hP 0 3 rfl tys_3 (oi_in (j := 0) (n := 1) (by decide) (by decide) (by decide)) hd (k1 ad H locs ls hR he hs hv)
theorem J_dast (hX : XO E X cc own nl d c0 s0) {i : Nat} {x : Int} (hd : decode cc pc = .ok (.dastore, 1)) (hK : K i = 12) (k1 : ∀ M2, M2 = mset M i 0 x → J E X (pc + 1) L st K M2 a b) : J E X pc L (vDn x :: vI 0 :: .ref i :: st) K M a b := by
  obtain ⟨p, l, e, R, s, m, args, below, meth, c, Q, nL, K0, ad0⟩ := X
  intro ad H locs ls hR he hs hv
  have hk0 : K i ≠ 0 := by omega
  have hat := hR.1 i hk0
  rw [hK, ce_12] at hat
  refine W.dast hX.1 hX.2.1 (a := ad i) (cell := arrV E.2.1.2.2.2 1 (fun j => .double (UInt64.ofNat (M i j).toNat))) (x := UInt64.ofNat x.toNat) (j := Int32.ofInt 0) hat ((hX.2.2.2.2.2.2.1.2 3 _ tys_3).1 1 _) (fun q => by cases q) (by rw [arrV_size]; exact oi_in (j := 0) (n := 1) (by decide) (by decide) (by decide)) rfl rfl hd fun H2 e1 z oq => ?_
  refine k1 _ rfl ad H2 _ ls (Rep_set hR hk0 ?_ z oq (fun i2 h => mset_ne h) (mset_rg (fun j2 => hR.2.2.2.2 i j2 hk0) (Or.inl (by rw [hK]; decide)))) he ?_ hv
  · rw [hK, ce_12]
    show H2[ad i]? = some (vp_cell _ _)
    rw [e1, vp_cell_d, arrV_store]
    congr 2
    funext q
    unfold updV mset
    by_cases hq : q = 0
    · rw [if_pos (by rw [hq]; rfl), if_pos ⟨rfl, by omega⟩]
    · rw [if_neg (fun z => hq (by rw [z]; rfl)), if_neg (by omega)]
  · intro z hz
    rcases List.mem_append.mp hz with h | h
    · exact hs z h
    · rw [List.mem_singleton.mp h]; exact hR.2.2.1 i hk0
end RULES

