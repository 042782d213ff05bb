/-! the law's other cases: the walks -/
set_option maxHeartbeats 4000000 in
set_option maxRecDepth 100000 in
theorem lc_clearTitle {E : EE} {X : JX} {c0 s0 a b n N x r o : Nat} {T i : Int} {sc : Int → Int} {K : Nat → Nat} {M : MM} (hX : XO E X cL_law RL 9 12 c0 s0) (hl : XL X) (hE : LF E N sc) (hI : Inv n T K M x r o) (hS : Sep x r o) (hi : 0 ≤ i ∧ i + 7 ≤ N) (hN : N < 1000000) (hT : T + 30200 ≤ 1000000000) (hab : a + 20 ≤ c0 ∧ b + 260 ≤ s0)
    (k1 : ∀ n2 K2 M2, Inv n2 (T + 30200) K2 M2 x r o → JP E X 2013 (LL x r o i) [] K2 M2 (a + 20) (b + 260)) : JP E X 902 (LL x r o i) [] K M a b := by
  obtain ⟨e1, e2, e3⟩ := id hS
  have w9 := hI.wf.2.1
  unfold WFs at w9
  have hpo : ∀ r9 K' M', (r9 = some (vI (M (x + 3) 7)) ∧ ∃ M1, KeptX n K M x K' M1 ∧ M' = entM M1 (x + 3) 0 0 0) → Cl K' M' ∧ (∀ i, 1000000 ≤ i → K' i = 0) ∧ ∀ v ∈ r9.toList, ∀ ad1 ad2 : Nat → Nat, cv ad1 v = cv ad2 v := by
    rintro r9 K' M' ⟨rfl, M1, hk, rfl⟩
    have hK := kept_K hI.1 hS hk
    exact ⟨Cl_inv hS hK hk.2.2.1 (fun i hi => by unfold entM; (repeat rw [mset_ne (by omega)])), fun i hi => hK.2.2.2 i (by omega), ints_k⟩
  refine JP_in hX hl (fun X2 hX2 hl2 hP2 hK2 hsm2 => ?_)
  refine J_aload_n hX2 dL_law_902 rfl ?_
  refine J_callVKP hX2 hP2 hK2 [] dL_law_903 cw_RL_139 (m_X9_clearTitle hI.1.1 hI.2.1 hI.2.2.1) ⟨hI.1.1.1, by decide, by decide, rfl⟩ rfl (Nat.le_of_ble_eq_true rfl) ⟨by decide, by decide⟩ ⟨by omega, by omega⟩ (lvs_LL hI hS) trivial hpo (fun r9 K1 Mc h => hsm2 _ _ _ _ _ _ _ ?_)
  obtain ⟨hr9, M9, hkept, hMc⟩ := h
  rw [hr9]
  have hK9 := kept_K hI.1 hS hkept
  have hfr : ∀ i, i < x + 3 ∨ x + 18 < i → Mc i = M9 i := fun i hi => by rw [hMc]; unfold entM; (repeat rw [mset_ne (by omega)])
  have hreg : ∀ i, r ≤ i → i < r + 12 → Mc i = M i := fun i h1 h2 => by rw [hfr i (by omega), hkept.2.2.2.2.1 i (by omega) (by omega) (by omega) (by omega)]
  have hst : stg M9 (x + 3) = stg M (x + 3) := stg_eq (fun k hk => hkept.stage k hk)
  have hSS : stg Mc (x + 3) = mset (mset (mset (stg M (x + 3)) 0 5 0) 0 6 0) 0 7 0 := by rw [hMc, ← hst]; exact stg_ent
  have hWS := WFS_tit (x := 0) (y := 0) (l := 0) (WF_iS.mp hI.wf) ⟨by decide, by show (0 : Int) < M (x + 3) 3; omega⟩ ⟨by decide, by show (0 : Int) < M (x + 3) 4; omega⟩ (by decide)
  refine JP_in hX hl (fun X3 hX3 hl3 hP3 hK3 hsm3 => ?_)
  refine J_aload_n hX3 dL_law_906 rfl ?_
  refine J_callVM hX3 [vI (M (x + 3) 7)] dL_law_907 cw_RL_142 (m_X10_clearTitle (T := T) (S := stg M (x + 3)) hK9.2.1 (by rw [hreg (r + 1) (by omega) (by omega)]; exact hI.rs) (WF_iS.mp hI.wf) (by rw [hreg r (by omega) (by omega)]; exact hI.h3)) ⟨hK9.2.1.k0, by decide, by decide, rfl⟩ rfl (Nat.le_of_ble_eq_true rfl) ⟨by decide, by decide⟩ ⟨by omega, by omega⟩ (fun r8 M2 q => ?_)
  rw [← mset_id (M := Mc) (i := o) (j := 0)] at q
  obtain ⟨⟨n2, hI2⟩, ho, h6, h8⟩ := inv_ch (T2 := T) hI hS (by omega) hkept hfr (WF_iS.mpr (by rw [hSS]; exact hWS)) hSS q rfl
  have h8b : r8 = some (vI (M (x + 3) 7)) := h8
  rw [h8b]
  refine J_icmpS hX3 2013 dL_law_910 (by decide) ?_
  exact J_loc (LL x r o i) rfl (J_widen (by omega) (by omega) (J_JP hP3 hK3 (hsm3 _ _ _ _ _ _ _ (k1 n2 K1 M2 (Inv_mo hI2 (by omega) hT)))))
set_option maxHeartbeats 4000000 in
set_option maxRecDepth 100000 in
theorem lc_fittingGain {E : EE} {X : JX} {c0 s0 a b n N x r o : Nat} {T i : Int} {sc : Int → Int} {K : Nat → Nat} {M : MM} (hX : XO E X cL_law RL 9 12 c0 s0) (hl : XL X) (hE : LF E N sc) (hI : Inv n T K M x r o) (hS : Sep x r o) (hi : 0 ≤ i ∧ i + 7 ≤ N) (hN : N < 1000000) (hT : T + 30200 ≤ 1000000000) (hab : a + 20 ≤ c0 ∧ b + 260 ≤ s0)
    (k1 : ∀ n2 K2 M2, Inv n2 (T + 30200) K2 M2 x r o → JP E X 2013 (LL x r o i) [] K2 M2 (a + 20) (b + 260)) : JP E X 1736 (LL x r o i) [] K M a b := by
  obtain ⟨e1, e2, e3⟩ := id hS
  refine JP_in hX hl (fun X2 hX2 hl2 hP2 hK2 hsm2 => ?_)
  refine J_aload_n hX2 dL_law_1736 rfl ?_
  refine J_callVM hX2 [] dL_law_1737 cw_RL_181 (m_X9_fittingGain hI.1.1 hI.wf hI.fr) ⟨hI.1.1.1, by decide, by decide, rfl⟩ rfl (Nat.le_of_ble_eq_true rfl) ⟨by decide, by decide⟩ ⟨by omega, by omega⟩ (fun r9 Mc h => ?_)
  obtain ⟨hr9, hP⟩ := h
  rw [hr9]
  have hQ := lkd_q hI hP
  have hreg : ∀ i, r ≤ i → i < r + 12 → Mc i = M i := fun i h1 h2 => hQ.2.2.2 i (by omega)
  refine J_aload_n hX2 dL_law_1740 rfl ?_
  refine J_callVM hX2 [vI (gainF (stg M (x + 3)) 100 : Nat)] dL_law_1741 cw_RL_184 (m_X10_fittingGain (T := T) (S := stg M (x + 3)) hI.1.2.1 (by rw [hreg (r + 1) (by omega) (by omega)]; exact hI.rs) (WF_iS.mp hI.wf)) ⟨hI.1.2.1.k0, by decide, by decide, rfl⟩ rfl (Nat.le_of_ble_eq_true rfl) ⟨by decide, by decide⟩ ⟨by omega, by omega⟩ (fun r8 M2 q => ?_)
  rw [← mset_id (M := Mc) (i := o) (j := 0)] at q
  obtain ⟨hI2, ho, h6, h8, -⟩ := inv_q hI hS (Or.inl rfl) hQ q (by decide)
  rw [h8 rfl]
  refine J_icmpS hX2 2013 dL_law_1744 (by decide) ?_
  exact J_loc (LL x r o i) rfl (J_widen (by omega) (by omega) (J_JP hP2 hK2 (hsm2 _ _ _ _ _ _ _ (k1 n K M2 (Inv_mo hI2 (by omega) hT)))))
set_option maxHeartbeats 4000000 in
set_option maxRecDepth 100000 in
theorem lc_clearCommands {E : EE} {X : JX} {c0 s0 a b n N x r o : Nat} {T i : Int} {sc : Int → Int} {K : Nat → Nat} {M : MM} (hX : XO E X cL_law RL 9 12 c0 s0) (hl : XL X) (hE : LF E N sc) (hI : Inv n T K M x r o) (hS : Sep x r o) (hi : 0 ≤ i ∧ i + 7 ≤ N) (hN : N < 1000000) (hT : T + 30200 ≤ 1000000000) (hab : a + 20 ≤ c0 ∧ b + 260 ≤ s0)
    (k1 : ∀ n2 K2 M2, Inv n2 (T + 30200) K2 M2 x r o → JP E X 2013 (LL x r o i) [] K2 M2 (a + 20) (b + 260)) : JP E X 1929 (LL x r o i) [] K M a b := by
  obtain ⟨e1, e2, e3⟩ := id hS
  obtain ⟨t1, t2, t3⟩ := id hI.tx
  refine JP_in hX hl (fun X2 hX2 hl2 hP2 hK2 hsm2 => ?_)
  refine J_aload_n hX2 dL_law_1929 rfl ?_
  refine J_callVM hX2 [] dL_law_1930 cw_RL_194 (m_X9_clearCommands hI.1.1) ⟨hI.1.1.1, by decide, by decide, rfl⟩ rfl (Nat.le_of_ble_eq_true rfl) ⟨by decide, by decide⟩ ⟨by omega, by omega⟩ (fun r9 Mc h => ?_)
  obtain ⟨hr9, hMc⟩ := h
  rw [hr9]
  have hf : ∀ i, i ≠ x + 57 → Mc i = M i := fun i hi => by rw [hMc, mset_ne hi]
  refine J_aload_n hX2 dL_law_1933 rfl ?_
  refine J_callVM hX2 [vI (M (x + 57) 0)] dL_law_1934 cw_RL_197 (m_X10_clearCommands hI.1.2.1) ⟨hI.1.2.1.k0, by decide, by decide, rfl⟩ rfl (Nat.le_of_ble_eq_true rfl) ⟨by decide, by decide⟩ ⟨by omega, by omega⟩ (fun r8 M2 q => ?_)
  obtain ⟨q6, q8, q5, qf, qj⟩ := q
  have h8 : r8 = some (vI (M (x + 57) 0)) := by rw [q8, hf r (by omega), t1]
  rw [h8]
  have hI2 : Inv n T K M2 x r o := inv_text hI hS (fun i _ h1 _ _ h4 _ _ => by rw [qf i h4, hf i h1]) (by rw [qj 3 (by decide) (by decide), hf r (by omega)]) ⟨by rw [qf _ (by omega), q5, hMc]; exact mset_eq, by rw [q5]; decide, fun j j0 j1 => by rw [q5] at j1; omega⟩ (by rw [q6]; decide)
  refine J_icmpS hX2 2013 dL_law_1937 (by decide) ?_
  exact J_loc (LL x r o i) rfl (J_widen (by omega) (by omega) (J_JP hP2 hK2 (hsm2 _ _ _ _ _ _ _ (k1 n K M2 (Inv_mo hI2 (by omega) hT)))))
set_option maxHeartbeats 4000000 in
set_option maxRecDepth 100000 in
theorem lc_digest {E : EE} {X : JX} {c0 s0 a b n N x r o : Nat} {T i : Int} {sc : Int → Int} {K : Nat → Nat} {M : MM} (hX : XO E X cL_law RL 9 12 c0 s0) (hl : XL X) (hE : LF E N sc) (hI : Inv n T K M x r o) (hS : Sep x r o) (hi : 0 ≤ i ∧ i + 7 ≤ N) (hN : N < 1000000) (hT : T + 30200 ≤ 1000000000) (hab : a + 20 ≤ c0 ∧ b + 260 ≤ s0)
    (k1 : ∀ n2 K2 M2, Inv n2 (T + 30200) K2 M2 x r o → JP E X 2013 (LL x r o i) [] K2 M2 (a + 20) (b + 260)) : JP E X 1999 (LL x r o i) [] K M a b := by
  obtain ⟨e1, e2, e3⟩ := id hS
  refine JP_in hX hl (fun X2 hX2 hl2 hP2 hK2 hsm2 => ?_)
  refine J_aload_n hX2 dL_law_1999 rfl ?_
  refine J_callVM hX2 [] dL_law_2000 cw_RL_206 (m_X9_digest hI.1.1 hI.wf hI.fr) ⟨hI.1.1.1, by decide, by decide, rfl⟩ rfl (Nat.le_of_ble_eq_true rfl) ⟨by decide, by decide⟩ ⟨by omega, by omega⟩ (fun r9 Mc h => ?_)
  obtain ⟨hr9, hP⟩ := h
  rw [hr9]
  have hQ := lkd_q hI hP
  have hreg : ∀ i, r ≤ i → i < r + 12 → Mc i = M i := fun i h1 h2 => hQ.2.2.2 i (by omega)
  refine J_aload_n hX2 dL_law_2003 rfl ?_
  refine J_callVM hX2 [vL (dig (stg M (x + 1 + 2)) (M (x + 55) 0) (M (x + 57) 0))] dL_law_2004 cw_RL_210 (m_X10_digest (T := T) (S := stg M (x + 3)) hI.1.2.1 (by rw [hreg (r + 1) (by omega) (by omega)]; exact hI.rs) (WF_iS.mp hI.wf)) ⟨hI.1.2.1.k0, by decide, by decide, rfl⟩ rfl (Nat.le_of_ble_eq_true rfl) ⟨by decide, by decide⟩ ⟨by omega, by omega⟩ (fun r8 M2 q => ?_)
  obtain ⟨q8, q6, qf, qm, qj⟩ := q
  have h8 : r8 = some (vL (dig (stg M (x + 1 + 2)) (M (x + 55) 0) (M (x + 57) 0))) := by rw [q8, hreg r (by omega) (by omega), hI.sv.1, hI.tx.1]
  rw [h8]
  obtain ⟨hI2, -⟩ := inv_q (v := Mc o 0) (c := 0) (w := 0) (r9 := some (vI 0)) hI hS (Or.inl rfl) hQ (by rw [mset_id]; exact ⟨q6, Or.inr ⟨rfl, rfl⟩, qf, qm, qj⟩) (by decide)
  refine J_lcmpeq hX2 2013 dL_law_2007 dL_law_2008 (by decide) ?_
  exact J_loc (LL x r o i) rfl (J_widen (by omega) (by omega) (J_JP hP2 hK2 (hsm2 _ _ _ _ _ _ _ (k1 n K M2 (Inv_mo hI2 (by omega) hT)))))
set_option maxHeartbeats 4000000 in
set_option maxRecDepth 100000 in
theorem lc_runCommands {E : EE} {X : JX} {c0 s0 a b n N x r o : Nat} {T i : Int} {sc : Int → Int} {K : Nat → Nat} {M : MM} (hX : XO E X cL_law RL 9 12 c0 s0) (hl : XL X) (hE : LF E N sc) (hI : Inv n T K M x r o) (hS : Sep x r o) (hi : 0 ≤ i ∧ i + 7 ≤ N) (hN : N < 1000000) (hT : T + 30200 ≤ 1000000000) (hab : a + 20 ≤ c0 ∧ b + 260 ≤ s0)
    (k1 : ∀ n2 K2 M2, Inv n2 (T + 30200) K2 M2 x r o → JP E X 2013 (LL x r o i) [] K2 M2 (a + 20) (b + 260)) : JP E X 1942 (LL x r o i) [] K M a b := by
  obtain ⟨e1, e2, e3⟩ := id hS
  obtain ⟨t1, t2, t3⟩ := id hI.tx
  have hxt : Txt M (x + 57) := ⟨by rw [t1]; exact t2, fun j j0 j1 => by
    rw [t1] at j1
    have := t3 j j0 j1
    have e : M (x + 57 + 1) j = M (x + 58) j := rfl
    omega⟩
  have hme : Sme (M (x + 58)) (M (r + 4)) (M r 5) := fun j j0 j1 => (t3 j j0 j1).1
  have hfe : ff (M (x + 58)) (M (x + 57) 0) = ff (M (r + 4)) (M r 5) := by rw [t1]; exact ff_cg hme t2.1
  have hpo : ∀ r9 K' M', RunX n K M x T r9 K' M' → Cl K' M' ∧ (∀ i, 1000000 ≤ i → K' i = 0) ∧ ∀ v ∈ r9.toList, ∀ ad1 ad2 : Nat → Nat, cv ad1 v = cv ad2 v := by
    intro r9 K' M' h
    rcases h with ⟨-, rfl, rfl, hsc⟩ | ⟨-, M0, M1, hsc, hk, hrn⟩
    · exact ⟨Cl_inv hS hI.1 hI.2.2.1 (fun i hi => hsc.1 i (by omega) (by omega)), fun i hi => hI.1.2.2.2 i (by omega), ints_k⟩
    · obtain ⟨d, rfl, -, -, -, rf, -⟩ := hrn
      have hK := kept_K hI.1 hS hk
      exact ⟨Cl_inv hS hK hk.2.2.1 (fun i hi => rf i (by omega) (by omega) (by omega)), fun i hi => hK.2.2.2 i (by omega), ints_k⟩
  refine JP_in hX hl (fun X2 hX2 hl2 hP2 hK2 hsm2 => ?_)
  refine J_aload_n hX2 dL_law_1942 rfl ?_
  refine J_callVKP hX2 hP2 hK2 [] dL_law_1943 cw_RL_198 (m_X9_runCommands hE.cf hI.1.1 hI.wf hI.2.1 hI.2.2.1 (fun i hi => hI.1.2.2.2 i (by omega)) hxt hT) ⟨hI.1.1.1, by decide, by decide, rfl⟩ rfl (Nat.le_of_ble_eq_true rfl) ⟨by decide, by decide⟩ ⟨by omega, by omega⟩ (lvs_LL hI hS) trivial hpo (fun r9 K1 Mc h => hsm2 _ _ _ _ _ _ _ ?_)
  rcases h with ⟨hff, hr9, hKK, hsc⟩ | ⟨hff, M0, M1, hsc, hk, hrn⟩
  · rw [hr9, hKK]
    have hreg : ∀ i, r ≤ i → i < r + 12 → Mc i = M i := fun i h1 h2 => hsc.1 i (by omega) (by omega)
    refine JP_in hX hl (fun X3 hX3 hl3 hP3 hK3 hsm3 => ?_)
    refine J_aload_n hX3 dL_law_1946 rfl ?_
    refine J_callVM hX3 [vI (-10 - ff (M (x + 58)) (M (x + 57) 0))] dL_law_1947 cw_RL_201 (m_X10_runCommands (T := T) (S := stg M (x + 3)) (S2 := fun _ _ => 0) (d2 := 0) hI.1.2.1 (by rw [hreg (r + 1) (by omega) (by omega)]; exact hI.rs) (WF_iS.mp hI.wf) (by unfold TxR; rw [hreg r (by omega) (by omega), hreg (r + 4) (by omega) (by omega)]; exact ⟨t2, fun j j0 j1 => (t3 j j0 j1).2⟩) (by rw [hreg r (by omega) (by omega)]; exact hI.h3) hT (fun k hk => stg_hi hk) (fun z => absurd z (by rw [hreg r (by omega) (by omega), hreg (r + 4) (by omega) (by omega), ← hfe]; omega))) ⟨hI.1.2.1.k0, by decide, by decide, rfl⟩ rfl (Nat.le_of_ble_eq_true rfl) ⟨by decide, by decide⟩ ⟨by omega, by omega⟩ (fun r8 M2 q => ?_)
    obtain ⟨h8, qf, qj, q6⟩ := q.1 (by rw [hreg r (by omega) (by omega), hreg (r + 4) (by omega) (by omega), ← hfe]; exact hff)
    rw [hreg r (by omega) (by omega), hreg (r + 4) (by omega) (by omega), ← hfe] at h8
    rw [h8]
    have hI2 : Inv n T K M2 x r o := inv_text hI hS (fun i _ h1 _ h3 h4 _ h5 => by rw [qf i h4 h5, hsc.1 i h1 (by omega)]) (by rw [qj 3 (by decide) (by decide) (by decide), hreg r (by omega) (by omega)]) (by
      unfold TxE
      rw [qf (x + 57) (by omega) (by omega), qf (x + 58) (by omega) (by omega), qf (r + 4) (by omega) (by omega), qj 5 (by decide) (by decide) (by decide), hsc.2 0 (by decide) (by decide), hsc.1 (x + 58) (by omega) (by omega), hreg r (by omega) (by omega), hreg (r + 4) (by omega) (by omega)]
      exact hI.tx) (by rw [q6]; decide)
    refine J_icmpS hX3 2013 dL_law_1950 (by decide) ?_
    exact J_loc (LL x r o i) rfl (J_widen (by omega) (by omega) (J_JP hP3 hK3 (hsm3 _ _ _ _ _ _ _ (k1 n K M2 (Inv_mo hI2 (by omega) hT)))))
  · obtain ⟨d, hr9, hd, hrr, hWc, rf, rj⟩ := id hrn
    rw [hr9]
    have hK9 := kept_K hI.1 hS hk
    have hreg : ∀ i, r ≤ i → i < r + 12 → Mc i = M i := fun i h1 h2 => by rw [rf i (by omega) (by omega) (by omega), hk.2.2.2.2.1 i (by omega) (by omega) (by omega) (by omega), hsc.1 i (by omega) (by omega)]
    have h57 : M1 (x + 57) 0 = M r 5 := by rw [hk.2.2.2.2.1 _ (by omega) (by omega) (by omega) (by omega), hsc.2 0 (by decide) (by decide), t1]
    have h58 : M1 (x + 57 + 1) = M (x + 58) := by rw [hk.2.2.2.2.1 _ (by omega) (by omega) (by omega) (by omega), hsc.1 _ (by omega) (by omega)]
    have hs1 : stg M1 (x + 1 + 2) = stg M (x + 3) := stg_of (fun i a1 a2 => by rw [hk.2.2.2.2.1 _ (by omega) (by omega) (by omega) (by omega), hsc.1 _ (by omega) (by omega)])
    rw [h57, h58, hs1] at hrr
    have hru : rnR (M (r + 4)) (M r 5) 150 (sk (M (r + 4)) (M r 5) 0) (stg M (x + 3)) 0 (stg Mc (x + 3)) d := by
      rw [← sk_cg hme (p := 0) (by omega)]
      exact rnR_cg hme _ _ _ _ _ _ (sk_ge (t := M (x + 58))) (sk_le t2.1) hrr
    refine JP_in hX hl (fun X3 hX3 hl3 hP3 hK3 hsm3 => ?_)
    refine J_aload_n hX3 dL_law_1946 rfl ?_
    refine J_callVM hX3 [vI d] dL_law_1947 cw_RL_201 (m_X10_runCommands (T := T) (S := stg M (x + 3)) (S2 := stg Mc (x + 3)) (d2 := d) hK9.2.1 (by rw [hreg (r + 1) (by omega) (by omega)]; exact hI.rs) (WF_iS.mp hI.wf) (by unfold TxR; rw [hreg r (by omega) (by omega), hreg (r + 4) (by omega) (by omega)]; exact ⟨t2, fun j j0 j1 => (t3 j j0 j1).2⟩) (by rw [hreg r (by omega) (by omega)]; exact hI.h3) hT (fun k hk => stg_hi hk) (fun _ => by rw [hreg r (by omega) (by omega), hreg (r + 4) (by omega) (by omega)]; exact hru)) ⟨hK9.2.1.k0, by decide, by decide, rfl⟩ rfl (Nat.le_of_ble_eq_true rfl) ⟨by decide, by decide⟩ ⟨by omega, by omega⟩ (fun r8 M2 q => ?_)
    obtain ⟨h8, hm⟩ := q.2 (by rw [hreg r (by omega) (by omega), hreg (r + 4) (by omega) (by omega), ← hfe]; exact hff)
    rw [h8]
    obtain ⟨n2, hI2⟩ := inv_run hI hS hT hsc hk hrn hm
    refine J_icmpS hX3 2013 dL_law_1950 (by decide) ?_
    exact J_loc (LL x r o i) rfl (J_widen (by omega) (by omega) (J_JP hP3 hK3 (hsm3 _ _ _ _ _ _ _ (k1 n2 K1 M2 hI2))))
