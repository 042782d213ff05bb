/-! the law's cases: questions -/
theorem cd_g {P P2 Q : Prop} [Decidable P] [Decidable P2] [Decidable Q] {k : Int} (hp : P ↔ P2) : (XKc (f2l (if P then 0 else 1) (if Q then 0 else 2)) 1 2 (-1) k → (if ¬ P2 then 1 else if Q then 0 else 2 : Int) = k ∧ k ≠ 0) ∧ (f2l (if P then 0 else 1) (if Q then 0 else 2) = (0 : Int) → (if ¬ P2 then 1 else if Q then 0 else 2 : Int) = 0) := by
  by_cases h : P2 <;> by_cases h2 : Q <;> simp [h, hp, h2, XKc, f2l] <;> omega
theorem tl_node : TL 1006 (977) := ⟨⟨dL_law_1006, dL_law_1008, dL_law_1009, dL_law_1012, dL_law_1014⟩, ⟨dL_law_1019, dL_law_1021, dL_law_1024, dL_law_1025, dL_law_1026⟩, dL_law_1027, dL_law_1029, dL_law_1030, dL_law_1031, dL_law_1036, by decide⟩
set_option maxHeartbeats 4000000 in
set_option maxRecDepth 100000 in
theorem lc_node {E : EE} {X : JX} {c0 s0 a b n N x r o : Nat} {T i : Int} {sc : Int → Int} {K : Nat → Nat} {M : MM} (hX : XO E X cL_law RL 9 12 c0 s0) (hl : XL X) (hE : LF E N sc) (hI : Inv n T K M x r o) (hS : Sep x r o) (hi : 0 ≤ i ∧ i + 7 ≤ N) (hN : N < 1000000) (hT : T + 30200 ≤ 1000000000) (hab : a + 20 ≤ c0 ∧ b + 260 ≤ s0)
    (k1 : ∀ n2 K2 M2, Inv n2 (T + 30200) K2 M2 x r o → JP E X 2013 (LL x r o i) [] K2 M2 (a + 20) (b + 260)) : JP E X 971 (LL x r o i) [] K M a b := by
  obtain ⟨e1, e2, e3⟩ := id hS
  obtain ⟨q1, hq1⟩ : ∃ q, sc (i + 1) = q := ⟨_, rfl⟩
  have hi1 : i32 q1 := hq1 ▸ hE.rg _
  obtain ⟨q2, hq2⟩ : ∃ q, sc (i + 2) = q := ⟨_, rfl⟩
  have hi2 : i32 q2 := hq2 ▸ hE.rg _
  refine JP_in hX hl (fun X2 hX2 hl2 hP2 hK2 hsm2 => ?_)
  refine J_aload_n hX2 dL_law_971 rfl ?_
  refine J_cellq hX2 hP2 hK2 hE.cell 1 hq1 rfl rfl (by omega) hN dL_law_972 dL_law_973 dL_law_975 dL_law_976 dL_law_977 ?_
  refine J_cellq hX2 hP2 hK2 hE.cell 2 hq2 rfl rfl (by omega) hN dL_law_978 dL_law_979 dL_law_981 dL_law_982 dL_law_983 ?_
  refine J_aload_n hX2 dL_law_984 rfl ?_
  refine J_callHP hX2 hl2 hP2 hK2 [] dL_law_985 cwL_node (m_L_node hE.th hI.1.1 hI.wf hI.fr hi1 hi2 hI.1.2.2.1.1) rfl (Nat.le_of_ble_eq_true rfl) ⟨by decide, by decide⟩ ⟨by omega, by omega⟩ (lvs_LL hI hS) trivial (fun _ _ _ h => wr_q hI hS (fun _ _ h i hi => lkd_fr h.2 i (by omega)) h) (fun r9 K1 M1 h => hsm2 _ _ _ _ _ _ _ ?_)
  rcases h with ⟨k, hk, hr9, hKK, hM1⟩ | ⟨hr9, v, hv, Mc, ⟨hf, hKK, hval, hP⟩, hM1⟩
  · rw [hr9, hKK, hM1]
    have hcd := cd_f.1 hk
    have hk32 : i32 k := XKc_32 hk (by decide) (by decide) (by decide)
    refine JP_in hX hl (fun X3 hX3 hl3 hP3 hK3 hsm3 => ?_)
    refine J_istore hX3 dL_law_988 (by decide) ?_
    refine J_loc (LLk x r o i k) rfl ?_
    refine J_aload_n hX3 dL_law_990 rfl ?_
    refine J_cellq hX3 hP3 hK3 hE.cell 1 hq1 rfl rfl (by omega) hN dL_law_991 dL_law_992 dL_law_994 dL_law_995 dL_law_996 ?_
    refine J_cellq hX3 hP3 hK3 hE.cell 2 hq2 rfl rfl (by omega) hN dL_law_997 dL_law_998 dL_law_1000 dL_law_1001 dL_law_1002 ?_
    refine J_callVM hX3 _ dL_law_1003 cw_RL_148 (m_X10_node (T := T) (S := stg M (x + 3)) hI.1.2.1 hI.rs (WF_iS.mp hI.wf) hi1 hi2) ⟨hI.1.2.1.k0, by decide, by decide, rfl⟩ rfl (Nat.le_of_ble_eq_true rfl) ⟨by decide, by decide⟩ ⟨by omega, by omega⟩ (fun r8 M2 q => ?_)
    obtain ⟨hI2, h6, h8⟩ := inv_qno hI hS q (fun e => hcd.2 (hcd.1.symm.trans e)) (i32_eq hcd.1 hk32)
    rw [h8]
    refine J_tail hX3 tl_node hI2.1.2.1 (h6.trans hcd.1) hk32 (by decide) hI2.1.2.2.1.1 (fun e => absurd e hcd.2) (by decide) ⟨by omega, by omega⟩ ?_
    exact J_loc (LL x r o i) rfl (J_widen (by omega) (by omega) (J_JP hP3 hK3 (hsm3 _ _ _ _ _ _ _ (k1 n K M2 (Inv_mo hI2 (by omega) hT)))))
  · rw [hr9, hKK]
    have hQ := lkd_q hI hP
    have hreg : ∀ i, r ≤ i → i < r + 12 → M1 i = M i := fun i h1 h2 => by rw [hM1, mset_ne (by omega), hQ.2.2.2 i (by omega)]
    refine JP_in hX hl (fun X3 hX3 hl3 hP3 hK3 hsm3 => ?_)
    refine J_istore hX3 dL_law_988 (by decide) ?_
    refine J_loc (LLk x r o i 0) rfl ?_
    refine J_aload_n hX3 dL_law_990 rfl ?_
    refine J_cellq hX3 hP3 hK3 hE.cell 1 hq1 rfl rfl (by omega) hN dL_law_991 dL_law_992 dL_law_994 dL_law_995 dL_law_996 ?_
    refine J_cellq hX3 hP3 hK3 hE.cell 2 hq2 rfl rfl (by omega) hN dL_law_997 dL_law_998 dL_law_1000 dL_law_1001 dL_law_1002 ?_
    refine J_callVM hX3 _ dL_law_1003 cw_RL_148 (m_X10_node (T := T) (S := stg M (x + 3)) hI.1.2.1 (by rw [hreg (r + 1) (by omega) (by omega)]; exact hI.rs) (WF_iS.mp hI.wf) hi1 hi2) ⟨hI.1.2.1.k0, by decide, by decide, rfl⟩ rfl (Nat.le_of_ble_eq_true rfl) ⟨by decide, by decide⟩ ⟨by omega, by omega⟩ (fun r8 M2 q => ?_)
    rw [hM1] at q
    obtain ⟨hI2, ho, h6, h8, -⟩ := inv_q hI hS (Or.inl rfl) hQ q (i32_eq ((cd_f (k := 0)).2 hf) (by decide))
    have h8b : r8 = some (vI v) := (h8 ((cd_f (k := 0)).2 hf)).trans hval.symm
    rw [h8b]
    refine J_tail hX3 tl_node hI2.1.2.1 (h6.trans ((cd_f (k := 0)).2 hf)) (by decide) hv hI2.1.2.2.1.1 (fun _ => ho) (by decide) ⟨by omega, by omega⟩ ?_
    exact J_loc (LL x r o i) rfl (J_widen (by omega) (by omega) (J_JP hP3 hK3 (hsm3 _ _ _ _ _ _ _ (k1 n K M2 (Inv_mo hI2 (by omega) hT)))))
theorem tl_painted : TL 1062 (921) := ⟨⟨dL_law_1062, dL_law_1064, dL_law_1065, dL_law_1068, dL_law_1070⟩, ⟨dL_law_1075, dL_law_1077, dL_law_1080, dL_law_1081, dL_law_1082⟩, dL_law_1083, dL_law_1085, dL_law_1086, dL_law_1087, dL_law_1092, by decide⟩
set_option maxHeartbeats 4000000 in
set_option maxRecDepth 100000 in
theorem lc_painted {E : EE} {X : JX} {c0 s0 a b n N x r o : Nat} {T i : Int} {sc : Int → Int} {K : Nat → Nat} {M : MM} (hX : XO E X cL_law RL 9 12 c0 s0) (hl : XL X) (hE : LF E N sc) (hI : Inv n T K M x r o) (hS : Sep x r o) (hi : 0 ≤ i ∧ i + 7 ≤ N) (hN : N < 1000000) (hT : T + 30200 ≤ 1000000000) (hab : a + 20 ≤ c0 ∧ b + 260 ≤ s0)
    (k1 : ∀ n2 K2 M2, Inv n2 (T + 30200) K2 M2 x r o → JP E X 2013 (LL x r o i) [] K2 M2 (a + 20) (b + 260)) : JP E X 1039 (LL x r o i) [] K M a b := by
  obtain ⟨e1, e2, e3⟩ := id hS
  obtain ⟨q1, hq1⟩ : ∃ q, sc (i + 1) = q := ⟨_, rfl⟩
  have hi1 : i32 q1 := hq1 ▸ hE.rg _
  refine JP_in hX hl (fun X2 hX2 hl2 hP2 hK2 hsm2 => ?_)
  refine J_aload_n hX2 dL_law_1039 rfl ?_
  refine J_cellq hX2 hP2 hK2 hE.cell 1 hq1 rfl rfl (by omega) hN dL_law_1040 dL_law_1041 dL_law_1043 dL_law_1044 dL_law_1045 ?_
  refine J_aload_n hX2 dL_law_1046 rfl ?_
  refine J_callHP hX2 hl2 hP2 hK2 [] dL_law_1047 cwL_painted (m_L_painted hE.th hI.1.1 hI.wf hI.fr hi1 hI.1.2.2.1.1) rfl (Nat.le_of_ble_eq_true rfl) ⟨by decide, by decide⟩ ⟨by omega, by omega⟩ (lvs_LL hI hS) trivial (fun _ _ _ h => wr_q hI hS (fun _ _ h i hi => lkd_fr h.2 i (by omega)) h) (fun r9 K1 M1 h => hsm2 _ _ _ _ _ _ _ ?_)
  rcases h with ⟨k, hk, hr9, hKK, hM1⟩ | ⟨hr9, v, hv, Mc, ⟨hf, hKK, hval, hP⟩, hM1⟩
  · rw [hr9, hKK, hM1]
    have hcd := cd_p.1 hk
    have hk32 : i32 k := XKc_32 hk (by decide) (by decide) (by decide)
    refine JP_in hX hl (fun X3 hX3 hl3 hP3 hK3 hsm3 => ?_)
    refine J_istore hX3 dL_law_1050 (by decide) ?_
    refine J_loc (LLk x r o i k) rfl ?_
    refine J_aload_n hX3 dL_law_1052 rfl ?_
    refine J_cellq hX3 hP3 hK3 hE.cell 1 hq1 rfl rfl (by omega) hN dL_law_1053 dL_law_1054 dL_law_1056 dL_law_1057 dL_law_1058 ?_
    refine J_callVM hX3 _ dL_law_1059 cw_RL_151 (m_X10_painted (T := T) (S := stg M (x + 3)) hI.1.2.1 hI.rs (WF_iS.mp hI.wf) hi1) ⟨hI.1.2.1.k0, by decide, by decide, rfl⟩ rfl (Nat.le_of_ble_eq_true rfl) ⟨by decide, by decide⟩ ⟨by omega, by omega⟩ (fun r8 M2 q => ?_)
    obtain ⟨hI2, h6, h8⟩ := inv_qno hI hS q (fun e => hcd.2 (hcd.1.symm.trans e)) (i32_eq hcd.1 hk32)
    rw [h8]
    refine J_tail hX3 tl_painted hI2.1.2.1 (h6.trans hcd.1) hk32 (by decide) hI2.1.2.2.1.1 (fun e => absurd e hcd.2) (by decide) ⟨by omega, by omega⟩ ?_
    exact J_loc (LL x r o i) rfl (J_widen (by omega) (by omega) (J_JP hP3 hK3 (hsm3 _ _ _ _ _ _ _ (k1 n K M2 (Inv_mo hI2 (by omega) hT)))))
  · rw [hr9, hKK]
    have hQ := lkd_q hI hP
    have hreg : ∀ i, r ≤ i → i < r + 12 → M1 i = M i := fun i h1 h2 => by rw [hM1, mset_ne (by omega), hQ.2.2.2 i (by omega)]
    refine JP_in hX hl (fun X3 hX3 hl3 hP3 hK3 hsm3 => ?_)
    refine J_istore hX3 dL_law_1050 (by decide) ?_
    refine J_loc (LLk x r o i 0) rfl ?_
    refine J_aload_n hX3 dL_law_1052 rfl ?_
    refine J_cellq hX3 hP3 hK3 hE.cell 1 hq1 rfl rfl (by omega) hN dL_law_1053 dL_law_1054 dL_law_1056 dL_law_1057 dL_law_1058 ?_
    refine J_callVM hX3 _ dL_law_1059 cw_RL_151 (m_X10_painted (T := T) (S := stg M (x + 3)) hI.1.2.1 (by rw [hreg (r + 1) (by omega) (by omega)]; exact hI.rs) (WF_iS.mp hI.wf) hi1) ⟨hI.1.2.1.k0, by decide, by decide, rfl⟩ rfl (Nat.le_of_ble_eq_true rfl) ⟨by decide, by decide⟩ ⟨by omega, by omega⟩ (fun r8 M2 q => ?_)
    rw [hM1] at q
    obtain ⟨hI2, ho, h6, h8, -⟩ := inv_q hI hS (Or.inl rfl) hQ q (i32_eq ((cd_p (k := 0)).2 hf) (by decide))
    have h8b : r8 = some (vI v) := (h8 ((cd_p (k := 0)).2 hf)).trans hval.symm
    rw [h8b]
    refine J_tail hX3 tl_painted hI2.1.2.1 (h6.trans ((cd_p (k := 0)).2 hf)) (by decide) hv hI2.1.2.2.1.1 (fun _ => ho) (by decide) ⟨by omega, by omega⟩ ?_
    exact J_loc (LL x r o i) rfl (J_widen (by omega) (by omega) (J_JP hP3 hK3 (hsm3 _ _ _ _ _ _ _ (k1 n K M2 (Inv_mo hI2 (by omega) hT)))))
theorem tl_scene : TL 1130 (853) := ⟨⟨dL_law_1130, dL_law_1132, dL_law_1133, dL_law_1136, dL_law_1138⟩, ⟨dL_law_1143, dL_law_1145, dL_law_1148, dL_law_1149, dL_law_1150⟩, dL_law_1151, dL_law_1153, dL_law_1154, dL_law_1155, dL_law_1160, by decide⟩
set_option maxHeartbeats 4000000 in
set_option maxRecDepth 100000 in
theorem lc_scene {E : EE} {X : JX} {c0 s0 a b n N x r o : Nat} {T i : Int} {sc : Int → Int} {K : Nat → Nat} {M : MM} (hX : XO E X cL_law RL 9 12 c0 s0) (hl : XL X) (hE : LF E N sc) (hI : Inv n T K M x r o) (hS : Sep x r o) (hi : 0 ≤ i ∧ i + 7 ≤ N) (hN : N < 1000000) (hT : T + 30200 ≤ 1000000000) (hab : a + 20 ≤ c0 ∧ b + 260 ≤ s0)
    (k1 : ∀ n2 K2 M2, Inv n2 (T + 30200) K2 M2 x r o → JP E X 2013 (LL x r o i) [] K2 M2 (a + 20) (b + 260)) : JP E X 1095 (LL x r o i) [] K M a b := by
  obtain ⟨e1, e2, e3⟩ := id hS
  obtain ⟨q1, hq1⟩ : ∃ q, sc (i + 1) = q := ⟨_, rfl⟩
  have hi1 : i32 q1 := hq1 ▸ hE.rg _
  obtain ⟨q2, hq2⟩ : ∃ q, sc (i + 2) = q := ⟨_, rfl⟩
  have hi2 : i32 q2 := hq2 ▸ hE.rg _
  have w9 := hI.wf.2.1
  unfold WFs at w9
  have hsw : hsc M (x + 1 + 2) q1 ↔ (0 ≤ q1 ∧ q1 < stg M (x + 3) 11 0) := by
    show (0 ≤ q1 ∧ q1 < M (x + 3 + 11) 0 ∧ q1 < 8) ↔ (0 ≤ q1 ∧ q1 < M (x + 3 + 11) 0)
    omega
  refine JP_in hX hl (fun X2 hX2 hl2 hP2 hK2 hsm2 => ?_)
  refine J_aload_n hX2 dL_law_1095 rfl ?_
  refine J_cellq hX2 hP2 hK2 hE.cell 1 hq1 rfl rfl (by omega) hN dL_law_1096 dL_law_1097 dL_law_1099 dL_law_1100 dL_law_1101 ?_
  refine J_cellq hX2 hP2 hK2 hE.cell 2 hq2 rfl rfl (by omega) hN dL_law_1102 dL_law_1103 dL_law_1105 dL_law_1106 dL_law_1107 ?_
  refine J_aload_n hX2 dL_law_1108 rfl ?_
  refine J_callHP hX2 hl2 hP2 hK2 [] dL_law_1109 cwL_scene (m_L_scene hE.th hI.1.1 hI.wf hi1 hi2 hI.1.2.2.1.1) rfl (Nat.le_of_ble_eq_true rfl) ⟨by decide, by decide⟩ ⟨by omega, by omega⟩ (lvs_LL hI hS) trivial (fun _ _ _ h => wr_q hI hS (fun _ _ h i hi => by rw [h.2]) h) (fun r9 K1 M1 h => hsm2 _ _ _ _ _ _ _ ?_)
  rcases h with ⟨k, hk, hr9, hKK, hM1⟩ | ⟨hr9, v, hv, Mc, ⟨hf, hKK, hval, hP⟩, hM1⟩
  · rw [hr9, hKK, hM1]
    have hcd := (cd_g hsw).1 hk
    have hk32 : i32 k := XKc_32 hk (by decide) (by decide) (by decide)
    refine JP_in hX hl (fun X3 hX3 hl3 hP3 hK3 hsm3 => ?_)
    refine J_istore hX3 dL_law_1112 (by decide) ?_
    refine J_loc (LLk x r o i k) rfl ?_
    refine J_aload_n hX3 dL_law_1114 rfl ?_
    refine J_cellq hX3 hP3 hK3 hE.cell 1 hq1 rfl rfl (by omega) hN dL_law_1115 dL_law_1116 dL_law_1118 dL_law_1119 dL_law_1120 ?_
    refine J_cellq hX3 hP3 hK3 hE.cell 2 hq2 rfl rfl (by omega) hN dL_law_1121 dL_law_1122 dL_law_1124 dL_law_1125 dL_law_1126 ?_
    refine J_callVM hX3 _ dL_law_1127 cw_RL_154 (m_X10_scene (T := T) (S := stg M (x + 3)) hI.1.2.1 hI.rs (WF_iS.mp hI.wf) hi1 hi2) ⟨hI.1.2.1.k0, by decide, by decide, rfl⟩ rfl (Nat.le_of_ble_eq_true rfl) ⟨by decide, by decide⟩ ⟨by omega, by omega⟩ (fun r8 M2 q => ?_)
    obtain ⟨hI2, h6, h8⟩ := inv_qno hI hS q (fun e => hcd.2 (hcd.1.symm.trans e)) (i32_eq hcd.1 hk32)
    rw [h8]
    refine J_tail hX3 tl_scene hI2.1.2.1 (h6.trans hcd.1) hk32 (by decide) hI2.1.2.2.1.1 (fun e => absurd e hcd.2) (by decide) ⟨by omega, by omega⟩ ?_
    exact J_loc (LL x r o i) rfl (J_widen (by omega) (by omega) (J_JP hP3 hK3 (hsm3 _ _ _ _ _ _ _ (k1 n K M2 (Inv_mo hI2 (by omega) hT)))))
  · rw [hr9, hKK]
    have hQ : Qs M x Mc := by rw [hP]; exact qs_refl hI
    have hreg : ∀ i, r ≤ i → i < r + 12 → M1 i = M i := fun i h1 h2 => by rw [hM1, mset_ne (by omega), hQ.2.2.2 i (by omega)]
    refine JP_in hX hl (fun X3 hX3 hl3 hP3 hK3 hsm3 => ?_)
    refine J_istore hX3 dL_law_1112 (by decide) ?_
    refine J_loc (LLk x r o i 0) rfl ?_
    refine J_aload_n hX3 dL_law_1114 rfl ?_
    refine J_cellq hX3 hP3 hK3 hE.cell 1 hq1 rfl rfl (by omega) hN dL_law_1115 dL_law_1116 dL_law_1118 dL_law_1119 dL_law_1120 ?_
    refine J_cellq hX3 hP3 hK3 hE.cell 2 hq2 rfl rfl (by omega) hN dL_law_1121 dL_law_1122 dL_law_1124 dL_law_1125 dL_law_1126 ?_
    refine J_callVM hX3 _ dL_law_1127 cw_RL_154 (m_X10_scene (T := T) (S := stg M (x + 3)) hI.1.2.1 (by rw [hreg (r + 1) (by omega) (by omega)]; exact hI.rs) (WF_iS.mp hI.wf) hi1 hi2) ⟨hI.1.2.1.k0, by decide, by decide, rfl⟩ rfl (Nat.le_of_ble_eq_true rfl) ⟨by decide, by decide⟩ ⟨by omega, by omega⟩ (fun r8 M2 q => ?_)
    rw [hM1] at q
    obtain ⟨hI2, ho, h6, h8, -⟩ := inv_q hI hS (Or.inl rfl) hQ q (i32_eq ((cd_g (k := 0) hsw).2 hf) (by decide))
    have h8b : r8 = some (vI v) := (h8 ((cd_g (k := 0) hsw).2 hf)).trans hval.symm
    rw [h8b]
    refine J_tail hX3 tl_scene hI2.1.2.1 (h6.trans ((cd_g (k := 0) hsw).2 hf)) (by decide) hv hI2.1.2.2.1.1 (fun _ => ho) (by decide) ⟨by omega, by omega⟩ ?_
    exact J_loc (LL x r o i) rfl (J_widen (by omega) (by omega) (J_JP hP3 hK3 (hsm3 _ _ _ _ _ _ _ (k1 n K M2 (Inv_mo hI2 (by omega) hT)))))
theorem tl_title : TL 1186 (797) := ⟨⟨dL_law_1186, dL_law_1188, dL_law_1189, dL_law_1192, dL_law_1194⟩, ⟨dL_law_1199, dL_law_1201, dL_law_1204, dL_law_1205, dL_law_1206⟩, dL_law_1207, dL_law_1209, dL_law_1210, dL_law_1211, dL_law_1216, by decide⟩
set_option maxHeartbeats 4000000 in
set_option maxRecDepth 100000 in
theorem lc_title {E : EE} {X : JX} {c0 s0 a b n N x r o : Nat} {T i : Int} {sc : Int → Int} {K : Nat → Nat} {M : MM} (hX : XO E X cL_law RL 9 12 c0 s0) (hl : XL X) (hE : LF E N sc) (hI : Inv n T K M x r o) (hS : Sep x r o) (hi : 0 ≤ i ∧ i + 7 ≤ N) (hN : N < 1000000) (hT : T + 30200 ≤ 1000000000) (hab : a + 20 ≤ c0 ∧ b + 260 ≤ s0)
    (k1 : ∀ n2 K2 M2, Inv n2 (T + 30200) K2 M2 x r o → JP E X 2013 (LL x r o i) [] K2 M2 (a + 20) (b + 260)) : JP E X 1163 (LL x r o i) [] K M a b := by
  obtain ⟨e1, e2, e3⟩ := id hS
  obtain ⟨q1, hq1⟩ : ∃ q, sc (i + 1) = q := ⟨_, rfl⟩
  have hi1 : i32 q1 := hq1 ▸ hE.rg _
  refine JP_in hX hl (fun X2 hX2 hl2 hP2 hK2 hsm2 => ?_)
  refine J_aload_n hX2 dL_law_1163 rfl ?_
  refine J_cellq hX2 hP2 hK2 hE.cell 1 hq1 rfl rfl (by omega) hN dL_law_1164 dL_law_1165 dL_law_1167 dL_law_1168 dL_law_1169 ?_
  refine J_aload_n hX2 dL_law_1170 rfl ?_
  refine J_callHP hX2 hl2 hP2 hK2 [] dL_law_1171 cwL_title (m_L_title hE.th hI.1.1 hI.wf hI.fr hi1 hI.1.2.2.1.1) rfl (Nat.le_of_ble_eq_true rfl) ⟨by decide, by decide⟩ ⟨by omega, by omega⟩ (lvs_LL hI hS) trivial (fun _ _ _ h => wr_q hI hS (fun _ _ h i hi => lkd_fr h.2 i (by omega)) h) (fun r9 K1 M1 h => hsm2 _ _ _ _ _ _ _ ?_)
  rcases h with ⟨k, hk, hr9, hKK, hM1⟩ | ⟨hr9, v, hv, Mc, ⟨hf, hKK, hval, hP⟩, hM1⟩
  · rw [hr9, hKK, hM1]
    have hcd := cd_a.1 hk
    have hk32 : i32 k := XKc_32 hk (by decide) (by decide) (by decide)
    refine JP_in hX hl (fun X3 hX3 hl3 hP3 hK3 hsm3 => ?_)
    refine J_istore hX3 dL_law_1174 (by decide) ?_
    refine J_loc (LLk x r o i k) rfl ?_
    refine J_aload_n hX3 dL_law_1176 rfl ?_
    refine J_cellq hX3 hP3 hK3 hE.cell 1 hq1 rfl rfl (by omega) hN dL_law_1177 dL_law_1178 dL_law_1180 dL_law_1181 dL_law_1182 ?_
    refine J_callVM hX3 _ dL_law_1183 cw_RL_157 (m_X10_title (T := T) (S := stg M (x + 3)) hI.1.2.1 hI.rs (WF_iS.mp hI.wf) hi1) ⟨hI.1.2.1.k0, by decide, by decide, rfl⟩ rfl (Nat.le_of_ble_eq_true rfl) ⟨by decide, by decide⟩ ⟨by omega, by omega⟩ (fun r8 M2 q => ?_)
    obtain ⟨hI2, h6, h8⟩ := inv_qno hI hS q (fun e => hcd.2 (hcd.1.symm.trans e)) (i32_eq hcd.1 hk32)
    rw [h8]
    refine J_tail hX3 tl_title hI2.1.2.1 (h6.trans hcd.1) hk32 (by decide) hI2.1.2.2.1.1 (fun e => absurd e hcd.2) (by decide) ⟨by omega, by omega⟩ ?_
    exact J_loc (LL x r o i) rfl (J_widen (by omega) (by omega) (J_JP hP3 hK3 (hsm3 _ _ _ _ _ _ _ (k1 n K M2 (Inv_mo hI2 (by omega) hT)))))
  · rw [hr9, hKK]
    have hQ := lkd_q hI hP
    have hreg : ∀ i, r ≤ i → i < r + 12 → M1 i = M i := fun i h1 h2 => by rw [hM1, mset_ne (by omega), hQ.2.2.2 i (by omega)]
    refine JP_in hX hl (fun X3 hX3 hl3 hP3 hK3 hsm3 => ?_)
    refine J_istore hX3 dL_law_1174 (by decide) ?_
    refine J_loc (LLk x r o i 0) rfl ?_
    refine J_aload_n hX3 dL_law_1176 rfl ?_
    refine J_cellq hX3 hP3 hK3 hE.cell 1 hq1 rfl rfl (by omega) hN dL_law_1177 dL_law_1178 dL_law_1180 dL_law_1181 dL_law_1182 ?_
    refine J_callVM hX3 _ dL_law_1183 cw_RL_157 (m_X10_title (T := T) (S := stg M (x + 3)) hI.1.2.1 (by rw [hreg (r + 1) (by omega) (by omega)]; exact hI.rs) (WF_iS.mp hI.wf) hi1) ⟨hI.1.2.1.k0, by decide, by decide, rfl⟩ rfl (Nat.le_of_ble_eq_true rfl) ⟨by decide, by decide⟩ ⟨by omega, by omega⟩ (fun r8 M2 q => ?_)
    rw [hM1] at q
    obtain ⟨hI2, ho, h6, h8, -⟩ := inv_q hI hS (Or.inl rfl) hQ q (i32_eq ((cd_a (k := 0)).2 hf) (by decide))
    have h8b : r8 = some (vI v) := (h8 ((cd_a (k := 0)).2 hf)).trans hval.symm
    rw [h8b]
    refine J_tail hX3 tl_title hI2.1.2.1 (h6.trans ((cd_a (k := 0)).2 hf)) (by decide) hv hI2.1.2.2.1.1 (fun _ => ho) (by decide) ⟨by omega, by omega⟩ ?_
    exact J_loc (LL x r o i) rfl (J_widen (by omega) (by omega) (J_JP hP3 hK3 (hsm3 _ _ _ _ _ _ _ (k1 n K M2 (Inv_mo hI2 (by omega) hT)))))
theorem tl_whole : TL 1242 (741) := ⟨⟨dL_law_1242, dL_law_1244, dL_law_1245, dL_law_1248, dL_law_1250⟩, ⟨dL_law_1255, dL_law_1257, dL_law_1260, dL_law_1261, dL_law_1262⟩, dL_law_1263, dL_law_1265, dL_law_1266, dL_law_1267, dL_law_1272, by decide⟩
set_option maxHeartbeats 4000000 in
set_option maxRecDepth 100000 in
theorem lc_whole {E : EE} {X : JX} {c0 s0 a b n N x r o : Nat} {T i : Int} {sc : Int → Int} {K : Nat → Nat} {M : MM} (hX : XO E X cL_law RL 9 12 c0 s0) (hl : XL X) (hE : LF E N sc) (hI : Inv n T K M x r o) (hS : Sep x r o) (hi : 0 ≤ i ∧ i + 7 ≤ N) (hN : N < 1000000) (hT : T + 30200 ≤ 1000000000) (hab : a + 20 ≤ c0 ∧ b + 260 ≤ s0)
    (k1 : ∀ n2 K2 M2, Inv n2 (T + 30200) K2 M2 x r o → JP E X 2013 (LL x r o i) [] K2 M2 (a + 20) (b + 260)) : JP E X 1219 (LL x r o i) [] K M a b := by
  obtain ⟨e1, e2, e3⟩ := id hS
  obtain ⟨q1, hq1⟩ : ∃ q, sc (i + 1) = q := ⟨_, rfl⟩
  have hi1 : i32 q1 := hq1 ▸ hE.rg _
  refine JP_in hX hl (fun X2 hX2 hl2 hP2 hK2 hsm2 => ?_)
  refine J_aload_n hX2 dL_law_1219 rfl ?_
  refine J_cellq hX2 hP2 hK2 hE.cell 1 hq1 rfl rfl (by omega) hN dL_law_1220 dL_law_1221 dL_law_1223 dL_law_1224 dL_law_1225 ?_
  refine J_aload_n hX2 dL_law_1226 rfl ?_
  refine J_callHP hX2 hl2 hP2 hK2 [] dL_law_1227 cwL_whole (m_L_whole hE.th hI.1.1 hI.wf hI.fr hi1 hI.1.2.2.1.1) rfl (Nat.le_of_ble_eq_true rfl) ⟨by decide, by decide⟩ ⟨by omega, by omega⟩ (lvs_LL hI hS) trivial (fun _ _ _ h => wr_q hI hS (fun _ _ h i hi => lkd_fr h.2 i (by omega)) h) (fun r9 K1 M1 h => hsm2 _ _ _ _ _ _ _ ?_)
  rcases h with ⟨k, hk, hr9, hKK, hM1⟩ | ⟨hr9, v, hv, Mc, ⟨hf, hKK, hval, hP⟩, hM1⟩
  · rw [hr9, hKK, hM1]
    have hcd := cd_a.1 hk
    have hk32 : i32 k := XKc_32 hk (by decide) (by decide) (by decide)
    refine JP_in hX hl (fun X3 hX3 hl3 hP3 hK3 hsm3 => ?_)
    refine J_istore hX3 dL_law_1230 (by decide) ?_
    refine J_loc (LLk x r o i k) rfl ?_
    refine J_aload_n hX3 dL_law_1232 rfl ?_
    refine J_cellq hX3 hP3 hK3 hE.cell 1 hq1 rfl rfl (by omega) hN dL_law_1233 dL_law_1234 dL_law_1236 dL_law_1237 dL_law_1238 ?_
    refine J_callVM hX3 _ dL_law_1239 cw_RL_160 (m_X10_whole (T := T) (S := stg M (x + 3)) hI.1.2.1 hI.rs (WF_iS.mp hI.wf) hi1) ⟨hI.1.2.1.k0, by decide, by decide, rfl⟩ rfl (Nat.le_of_ble_eq_true rfl) ⟨by decide, by decide⟩ ⟨by omega, by omega⟩ (fun r8 M2 q => ?_)
    obtain ⟨hI2, h6, h8⟩ := inv_qno hI hS q (fun e => hcd.2 (hcd.1.symm.trans e)) (i32_eq hcd.1 hk32)
    rw [h8]
    refine J_tail hX3 tl_whole hI2.1.2.1 (h6.trans hcd.1) hk32 (by decide) hI2.1.2.2.1.1 (fun e => absurd e hcd.2) (by decide) ⟨by omega, by omega⟩ ?_
    exact J_loc (LL x r o i) rfl (J_widen (by omega) (by omega) (J_JP hP3 hK3 (hsm3 _ _ _ _ _ _ _ (k1 n K M2 (Inv_mo hI2 (by omega) hT)))))
  · rw [hr9, hKK]
    have hQ := lkd_q hI hP
    have hreg : ∀ i, r ≤ i → i < r + 12 → M1 i = M i := fun i h1 h2 => by rw [hM1, mset_ne (by omega), hQ.2.2.2 i (by omega)]
    refine JP_in hX hl (fun X3 hX3 hl3 hP3 hK3 hsm3 => ?_)
    refine J_istore hX3 dL_law_1230 (by decide) ?_
    refine J_loc (LLk x r o i 0) rfl ?_
    refine J_aload_n hX3 dL_law_1232 rfl ?_
    refine J_cellq hX3 hP3 hK3 hE.cell 1 hq1 rfl rfl (by omega) hN dL_law_1233 dL_law_1234 dL_law_1236 dL_law_1237 dL_law_1238 ?_
    refine J_callVM hX3 _ dL_law_1239 cw_RL_160 (m_X10_whole (T := T) (S := stg M (x + 3)) hI.1.2.1 (by rw [hreg (r + 1) (by omega) (by omega)]; exact hI.rs) (WF_iS.mp hI.wf) hi1) ⟨hI.1.2.1.k0, by decide, by decide, rfl⟩ rfl (Nat.le_of_ble_eq_true rfl) ⟨by decide, by decide⟩ ⟨by omega, by omega⟩ (fun r8 M2 q => ?_)
    rw [hM1] at q
    obtain ⟨hI2, ho, h6, h8, -⟩ := inv_q hI hS (Or.inl rfl) hQ q (i32_eq ((cd_a (k := 0)).2 hf) (by decide))
    have h8b : r8 = some (vI v) := (h8 ((cd_a (k := 0)).2 hf)).trans hval.symm
    rw [h8b]
    refine J_tail hX3 tl_whole hI2.1.2.1 (h6.trans ((cd_a (k := 0)).2 hf)) (by decide) hv hI2.1.2.2.1.1 (fun _ => ho) (by decide) ⟨by omega, by omega⟩ ?_
    exact J_loc (LL x r o i) rfl (J_widen (by omega) (by omega) (J_JP hP3 hK3 (hsm3 _ _ _ _ _ _ _ (k1 n K M2 (Inv_mo hI2 (by omega) hT)))))
theorem tl_shade : TL 1338 (645) := ⟨⟨dL_law_1338, dL_law_1340, dL_law_1341, dL_law_1344, dL_law_1346⟩, ⟨dL_law_1351, dL_law_1353, dL_law_1356, dL_law_1357, dL_law_1358⟩, dL_law_1359, dL_law_1361, dL_law_1362, dL_law_1363, dL_law_1368, by decide⟩
set_option maxHeartbeats 4000000 in
set_option maxRecDepth 100000 in
theorem lc_shade {E : EE} {X : JX} {c0 s0 a b n N x r o : Nat} {T i : Int} {sc : Int → Int} {K : Nat → Nat} {M : MM} (hX : XO E X cL_law RL 9 12 c0 s0) (hl : XL X) (hE : LF E N sc) (hI : Inv n T K M x r o) (hS : Sep x r o) (hi : 0 ≤ i ∧ i + 7 ≤ N) (hN : N < 1000000) (hT : T + 30200 ≤ 1000000000) (hab : a + 20 ≤ c0 ∧ b + 260 ≤ s0)
    (k1 : ∀ n2 K2 M2, Inv n2 (T + 30200) K2 M2 x r o → JP E X 2013 (LL x r o i) [] K2 M2 (a + 20) (b + 260)) : JP E X 1275 (LL x r o i) [] K M a b := by
  obtain ⟨e1, e2, e3⟩ := id hS
  obtain ⟨q1, hq1⟩ : ∃ q, sc (i + 1) = q := ⟨_, rfl⟩
  have hi1 : i32 q1 := hq1 ▸ hE.rg _
  obtain ⟨l1, hl1⟩ : ∃ l, bI (q1 ≠ 0) = l := ⟨_, rfl⟩
  have hl01 : l1 = 0 ∨ l1 = 1 := hl1 ▸ bI_01 _
  obtain ⟨q2, hq2⟩ : ∃ q, sc (i + 2) = q := ⟨_, rfl⟩
  have hi2 : i32 q2 := hq2 ▸ hE.rg _
  obtain ⟨q3, hq3⟩ : ∃ q, sc (i + 3) = q := ⟨_, rfl⟩
  have hi3 : i32 q3 := hq3 ▸ hE.rg _
  refine JP_in hX hl (fun X2 hX2 hl2 hP2 hK2 hsm2 => ?_)
  refine J_aload_n hX2 dL_law_1275 rfl ?_
  refine J_cellq hX2 hP2 hK2 hE.cell 1 hq1 rfl rfl (by omega) hN dL_law_1276 dL_law_1277 dL_law_1279 dL_law_1280 dL_law_1281 ?_
  refine J_bool hX2 hi1 dL_law_1282 dL_law_1285 dL_law_1286 dL_law_1289 ?_
  rw [hl1]
  refine J_cellq hX2 hP2 hK2 hE.cell 2 hq2 rfl rfl (by omega) hN dL_law_1290 dL_law_1291 dL_law_1293 dL_law_1294 dL_law_1295 ?_
  refine J_cellq hX2 hP2 hK2 hE.cell 3 hq3 rfl rfl (by omega) hN dL_law_1296 dL_law_1297 dL_law_1299 dL_law_1300 dL_law_1301 ?_
  refine J_aload_n hX2 dL_law_1302 rfl ?_
  refine J_callHP hX2 hl2 hP2 hK2 [] dL_law_1303 cwL_shade (m_L_shade hE.th hI.1.1 hI.wf hI.fr hl01 hi2 hi3 hI.1.2.2.1.1) rfl (Nat.le_of_ble_eq_true rfl) ⟨by decide, by decide⟩ ⟨by omega, by omega⟩ (lvs_LL hI hS) trivial (fun _ _ _ h => wr_q hI hS (fun _ _ h i hi => lkd_fr h.2 i (by omega)) h) (fun r9 K1 M1 h => hsm2 _ _ _ _ _ _ _ ?_)
  rcases h with ⟨k, hk, hr9, hKK, hM1⟩ | ⟨hr9, v, hv, Mc, ⟨hf, hKK, hval, hP⟩, hM1⟩
  · rw [hr9, hKK, hM1]
    have hcd := cd_i.1 hk
    have hk32 : i32 k := XKc_32 hk (by decide) (by decide) (by decide)
    refine JP_in hX hl (fun X3 hX3 hl3 hP3 hK3 hsm3 => ?_)
    refine J_istore hX3 dL_law_1306 (by decide) ?_
    refine J_loc (LLk x r o i k) rfl ?_
    refine J_aload_n hX3 dL_law_1308 rfl ?_
    refine J_cellq hX3 hP3 hK3 hE.cell 1 hq1 rfl rfl (by omega) hN dL_law_1309 dL_law_1310 dL_law_1312 dL_law_1313 dL_law_1314 ?_
    refine J_bool hX3 hi1 dL_law_1315 dL_law_1318 dL_law_1319 dL_law_1322 ?_
    rw [hl1]
    refine J_cellq hX3 hP3 hK3 hE.cell 2 hq2 rfl rfl (by omega) hN dL_law_1323 dL_law_1324 dL_law_1326 dL_law_1327 dL_law_1328 ?_
    refine J_cellq hX3 hP3 hK3 hE.cell 3 hq3 rfl rfl (by omega) hN dL_law_1329 dL_law_1330 dL_law_1332 dL_law_1333 dL_law_1334 ?_
    refine J_callVM hX3 _ dL_law_1335 cw_RL_164 (m_X10_shade (T := T) (S := stg M (x + 3)) hI.1.2.1 hI.rs (WF_iS.mp hI.wf) hl01 hi2 hi3) ⟨hI.1.2.1.k0, by decide, by decide, rfl⟩ rfl (Nat.le_of_ble_eq_true rfl) ⟨by decide, by decide⟩ ⟨by omega, by omega⟩ (fun r8 M2 q => ?_)
    obtain ⟨hI2, h6, h8⟩ := inv_qno hI hS q (fun e => hcd.2 (hcd.1.symm.trans e)) (i32_eq hcd.1 hk32)
    rw [h8]
    refine J_tail hX3 tl_shade hI2.1.2.1 (h6.trans hcd.1) hk32 (by decide) hI2.1.2.2.1.1 (fun e => absurd e hcd.2) (by decide) ⟨by omega, by omega⟩ ?_
    exact J_loc (LL x r o i) rfl (J_widen (by omega) (by omega) (J_JP hP3 hK3 (hsm3 _ _ _ _ _ _ _ (k1 n K M2 (Inv_mo hI2 (by omega) hT)))))
  · rw [hr9, hKK]
    have hQ := lkd_q hI hP
    have hreg : ∀ i, r ≤ i → i < r + 12 → M1 i = M i := fun i h1 h2 => by rw [hM1, mset_ne (by omega), hQ.2.2.2 i (by omega)]
    refine JP_in hX hl (fun X3 hX3 hl3 hP3 hK3 hsm3 => ?_)
    refine J_istore hX3 dL_law_1306 (by decide) ?_
    refine J_loc (LLk x r o i 0) rfl ?_
    refine J_aload_n hX3 dL_law_1308 rfl ?_
    refine J_cellq hX3 hP3 hK3 hE.cell 1 hq1 rfl rfl (by omega) hN dL_law_1309 dL_law_1310 dL_law_1312 dL_law_1313 dL_law_1314 ?_
    refine J_bool hX3 hi1 dL_law_1315 dL_law_1318 dL_law_1319 dL_law_1322 ?_
    rw [hl1]
    refine J_cellq hX3 hP3 hK3 hE.cell 2 hq2 rfl rfl (by omega) hN dL_law_1323 dL_law_1324 dL_law_1326 dL_law_1327 dL_law_1328 ?_
    refine J_cellq hX3 hP3 hK3 hE.cell 3 hq3 rfl rfl (by omega) hN dL_law_1329 dL_law_1330 dL_law_1332 dL_law_1333 dL_law_1334 ?_
    refine J_callVM hX3 _ dL_law_1335 cw_RL_164 (m_X10_shade (T := T) (S := stg M (x + 3)) hI.1.2.1 (by rw [hreg (r + 1) (by omega) (by omega)]; exact hI.rs) (WF_iS.mp hI.wf) hl01 hi2 hi3) ⟨hI.1.2.1.k0, by decide, by decide, rfl⟩ rfl (Nat.le_of_ble_eq_true rfl) ⟨by decide, by decide⟩ ⟨by omega, by omega⟩ (fun r8 M2 q => ?_)
    rw [hM1] at q
    obtain ⟨hI2, ho, h6, h8, -⟩ := inv_q hI hS (Or.inl rfl) hQ q (i32_eq ((cd_i (k := 0)).2 hf) (by decide))
    have h8b : r8 = some (vI v) := (h8 ((cd_i (k := 0)).2 hf)).trans hval.symm
    rw [h8b]
    refine J_tail hX3 tl_shade hI2.1.2.1 (h6.trans ((cd_i (k := 0)).2 hf)) (by decide) hv hI2.1.2.2.1.1 (fun _ => ho) (by decide) ⟨by omega, by omega⟩ ?_
    exact J_loc (LL x r o i) rfl (J_widen (by omega) (by omega) (J_JP hP3 hK3 (hsm3 _ _ _ _ _ _ _ (k1 n K M2 (Inv_mo hI2 (by omega) hT)))))
theorem tl_shown : TL 1434 (549) := ⟨⟨dL_law_1434, dL_law_1436, dL_law_1437, dL_law_1440, dL_law_1442⟩, ⟨dL_law_1447, dL_law_1449, dL_law_1452, dL_law_1453, dL_law_1454⟩, dL_law_1455, dL_law_1457, dL_law_1458, dL_law_1459, dL_law_1464, by decide⟩
set_option maxHeartbeats 4000000 in
set_option maxRecDepth 100000 in
theorem lc_shown {E : EE} {X : JX} {c0 s0 a b n N x r o : Nat} {T i : Int} {sc : Int → Int} {K : Nat → Nat} {M : MM} (hX : XO E X cL_law RL 9 12 c0 s0) (hl : XL X) (hE : LF E N sc) (hI : Inv n T K M x r o) (hS : Sep x r o) (hi : 0 ≤ i ∧ i + 7 ≤ N) (hN : N < 1000000) (hT : T + 30200 ≤ 1000000000) (hab : a + 20 ≤ c0 ∧ b + 260 ≤ s0)
    (k1 : ∀ n2 K2 M2, Inv n2 (T + 30200) K2 M2 x r o → JP E X 2013 (LL x r o i) [] K2 M2 (a + 20) (b + 260)) : JP E X 1371 (LL x r o i) [] K M a b := by
  obtain ⟨e1, e2, e3⟩ := id hS
  obtain ⟨q1, hq1⟩ : ∃ q, sc (i + 1) = q := ⟨_, rfl⟩
  have hi1 : i32 q1 := hq1 ▸ hE.rg _
  obtain ⟨l1, hl1⟩ : ∃ l, bI (q1 ≠ 0) = l := ⟨_, rfl⟩
  have hl01 : l1 = 0 ∨ l1 = 1 := hl1 ▸ bI_01 _
  obtain ⟨q2, hq2⟩ : ∃ q, sc (i + 2) = q := ⟨_, rfl⟩
  have hi2 : i32 q2 := hq2 ▸ hE.rg _
  obtain ⟨q3, hq3⟩ : ∃ q, sc (i + 3) = q := ⟨_, rfl⟩
  have hi3 : i32 q3 := hq3 ▸ hE.rg _
  refine JP_in hX hl (fun X2 hX2 hl2 hP2 hK2 hsm2 => ?_)
  refine J_aload_n hX2 dL_law_1371 rfl ?_
  refine J_cellq hX2 hP2 hK2 hE.cell 1 hq1 rfl rfl (by omega) hN dL_law_1372 dL_law_1373 dL_law_1375 dL_law_1376 dL_law_1377 ?_
  refine J_bool hX2 hi1 dL_law_1378 dL_law_1381 dL_law_1382 dL_law_1385 ?_
  rw [hl1]
  refine J_cellq hX2 hP2 hK2 hE.cell 2 hq2 rfl rfl (by omega) hN dL_law_1386 dL_law_1387 dL_law_1389 dL_law_1390 dL_law_1391 ?_
  refine J_cellq hX2 hP2 hK2 hE.cell 3 hq3 rfl rfl (by omega) hN dL_law_1392 dL_law_1393 dL_law_1395 dL_law_1396 dL_law_1397 ?_
  refine J_aload_n hX2 dL_law_1398 rfl ?_
  refine J_callHP hX2 hl2 hP2 hK2 [] dL_law_1399 cwL_shown (m_L_shown hE.th hI.1.1 hI.wf hI.fr hl01 hi2 hi3 hI.1.2.2.1.1) rfl (Nat.le_of_ble_eq_true rfl) ⟨by decide, by decide⟩ ⟨by omega, by omega⟩ (lvs_LL hI hS) trivial (fun _ _ _ h => wr_q hI hS (fun _ _ h i hi => lkd_fr h.2 i (by omega)) h) (fun r9 K1 M1 h => hsm2 _ _ _ _ _ _ _ ?_)
  rcases h with ⟨k, hk, hr9, hKK, hM1⟩ | ⟨hr9, v, hv, Mc, ⟨hf, hKK, hval, hP⟩, hM1⟩
  · rw [hr9, hKK, hM1]
    have hcd := cd_i.1 hk
    have hk32 : i32 k := XKc_32 hk (by decide) (by decide) (by decide)
    refine JP_in hX hl (fun X3 hX3 hl3 hP3 hK3 hsm3 => ?_)
    refine J_istore hX3 dL_law_1402 (by decide) ?_
    refine J_loc (LLk x r o i k) rfl ?_
    refine J_aload_n hX3 dL_law_1404 rfl ?_
    refine J_cellq hX3 hP3 hK3 hE.cell 1 hq1 rfl rfl (by omega) hN dL_law_1405 dL_law_1406 dL_law_1408 dL_law_1409 dL_law_1410 ?_
    refine J_bool hX3 hi1 dL_law_1411 dL_law_1414 dL_law_1415 dL_law_1418 ?_
    rw [hl1]
    refine J_cellq hX3 hP3 hK3 hE.cell 2 hq2 rfl rfl (by omega) hN dL_law_1419 dL_law_1420 dL_law_1422 dL_law_1423 dL_law_1424 ?_
    refine J_cellq hX3 hP3 hK3 hE.cell 3 hq3 rfl rfl (by omega) hN dL_law_1425 dL_law_1426 dL_law_1428 dL_law_1429 dL_law_1430 ?_
    refine J_callVM hX3 _ dL_law_1431 cw_RL_167 (m_X10_shown (T := T) (S := stg M (x + 3)) hI.1.2.1 hI.rs (WF_iS.mp hI.wf) hl01 hi2 hi3) ⟨hI.1.2.1.k0, by decide, by decide, rfl⟩ rfl (Nat.le_of_ble_eq_true rfl) ⟨by decide, by decide⟩ ⟨by omega, by omega⟩ (fun r8 M2 q => ?_)
    obtain ⟨hI2, h6, h8⟩ := inv_qno hI hS q (fun e => hcd.2 (hcd.1.symm.trans e)) (i32_eq hcd.1 hk32)
    rw [h8]
    refine J_tail hX3 tl_shown hI2.1.2.1 (h6.trans hcd.1) hk32 (by decide) hI2.1.2.2.1.1 (fun e => absurd e hcd.2) (by decide) ⟨by omega, by omega⟩ ?_
    exact J_loc (LL x r o i) rfl (J_widen (by omega) (by omega) (J_JP hP3 hK3 (hsm3 _ _ _ _ _ _ _ (k1 n K M2 (Inv_mo hI2 (by omega) hT)))))
  · rw [hr9, hKK]
    have hQ := lkd_q hI hP
    have hreg : ∀ i, r ≤ i → i < r + 12 → M1 i = M i := fun i h1 h2 => by rw [hM1, mset_ne (by omega), hQ.2.2.2 i (by omega)]
    refine JP_in hX hl (fun X3 hX3 hl3 hP3 hK3 hsm3 => ?_)
    refine J_istore hX3 dL_law_1402 (by decide) ?_
    refine J_loc (LLk x r o i 0) rfl ?_
    refine J_aload_n hX3 dL_law_1404 rfl ?_
    refine J_cellq hX3 hP3 hK3 hE.cell 1 hq1 rfl rfl (by omega) hN dL_law_1405 dL_law_1406 dL_law_1408 dL_law_1409 dL_law_1410 ?_
    refine J_bool hX3 hi1 dL_law_1411 dL_law_1414 dL_law_1415 dL_law_1418 ?_
    rw [hl1]
    refine J_cellq hX3 hP3 hK3 hE.cell 2 hq2 rfl rfl (by omega) hN dL_law_1419 dL_law_1420 dL_law_1422 dL_law_1423 dL_law_1424 ?_
    refine J_cellq hX3 hP3 hK3 hE.cell 3 hq3 rfl rfl (by omega) hN dL_law_1425 dL_law_1426 dL_law_1428 dL_law_1429 dL_law_1430 ?_
    refine J_callVM hX3 _ dL_law_1431 cw_RL_167 (m_X10_shown (T := T) (S := stg M (x + 3)) hI.1.2.1 (by rw [hreg (r + 1) (by omega) (by omega)]; exact hI.rs) (WF_iS.mp hI.wf) hl01 hi2 hi3) ⟨hI.1.2.1.k0, by decide, by decide, rfl⟩ rfl (Nat.le_of_ble_eq_true rfl) ⟨by decide, by decide⟩ ⟨by omega, by omega⟩ (fun r8 M2 q => ?_)
    rw [hM1] at q
    obtain ⟨hI2, ho, h6, h8, -⟩ := inv_q hI hS (Or.inl rfl) hQ q (i32_eq ((cd_i (k := 0)).2 hf) (by decide))
    have h8b : r8 = some (vI v) := (h8 ((cd_i (k := 0)).2 hf)).trans hval.symm
    rw [h8b]
    refine J_tail hX3 tl_shown hI2.1.2.1 (h6.trans ((cd_i (k := 0)).2 hf)) (by decide) hv hI2.1.2.2.1.1 (fun _ => ho) (by decide) ⟨by omega, by omega⟩ ?_
    exact J_loc (LL x r o i) rfl (J_widen (by omega) (by omega) (J_JP hP3 hK3 (hsm3 _ _ _ _ _ _ _ (k1 n K M2 (Inv_mo hI2 (by omega) hT)))))
theorem tl_ghost : TL 1502 (481) := ⟨⟨dL_law_1502, dL_law_1504, dL_law_1505, dL_law_1508, dL_law_1510⟩, ⟨dL_law_1515, dL_law_1517, dL_law_1520, dL_law_1521, dL_law_1522⟩, dL_law_1523, dL_law_1525, dL_law_1526, dL_law_1527, dL_law_1532, by decide⟩
set_option maxHeartbeats 4000000 in
set_option maxRecDepth 100000 in
theorem lc_ghost {E : EE} {X : JX} {c0 s0 a b n N x r o : Nat} {T i : Int} {sc : Int → Int} {K : Nat → Nat} {M : MM} (hX : XO E X cL_law RL 9 12 c0 s0) (hl : XL X) (hE : LF E N sc) (hI : Inv n T K M x r o) (hS : Sep x r o) (hi : 0 ≤ i ∧ i + 7 ≤ N) (hN : N < 1000000) (hT : T + 30200 ≤ 1000000000) (hab : a + 20 ≤ c0 ∧ b + 260 ≤ s0)
    (k1 : ∀ n2 K2 M2, Inv n2 (T + 30200) K2 M2 x r o → JP E X 2013 (LL x r o i) [] K2 M2 (a + 20) (b + 260)) : JP E X 1467 (LL x r o i) [] K M a b := by
  obtain ⟨e1, e2, e3⟩ := id hS
  obtain ⟨q1, hq1⟩ : ∃ q, sc (i + 1) = q := ⟨_, rfl⟩
  have hi1 : i32 q1 := hq1 ▸ hE.rg _
  obtain ⟨q2, hq2⟩ : ∃ q, sc (i + 2) = q := ⟨_, rfl⟩
  have hi2 : i32 q2 := hq2 ▸ hE.rg _
  refine JP_in hX hl (fun X2 hX2 hl2 hP2 hK2 hsm2 => ?_)
  refine J_aload_n hX2 dL_law_1467 rfl ?_
  refine J_cellq hX2 hP2 hK2 hE.cell 1 hq1 rfl rfl (by omega) hN dL_law_1468 dL_law_1469 dL_law_1471 dL_law_1472 dL_law_1473 ?_
  refine J_cellq hX2 hP2 hK2 hE.cell 2 hq2 rfl rfl (by omega) hN dL_law_1474 dL_law_1475 dL_law_1477 dL_law_1478 dL_law_1479 ?_
  refine J_aload_n hX2 dL_law_1480 rfl ?_
  refine J_callHP hX2 hl2 hP2 hK2 [] dL_law_1481 cwL_ghost (m_L_ghost hE.th hI.1.1 hI.wf hI.fr hi1 hi2 hI.1.2.2.1.1) rfl (Nat.le_of_ble_eq_true rfl) ⟨by decide, by decide⟩ ⟨by omega, by omega⟩ (lvs_LL hI hS) trivial (fun _ _ _ h => wr_q hI hS (fun _ _ h i hi => lkd_fr h.2 i (by omega)) h) (fun r9 K1 M1 h => hsm2 _ _ _ _ _ _ _ ?_)
  rcases h with ⟨k, hk, hr9, hKK, hM1⟩ | ⟨hr9, v, hv, Mc, ⟨hf, hKK, hval, hP⟩, hM1⟩
  · rw [hr9, hKK, hM1]
    have hcd := cd_i.1 hk
    have hk32 : i32 k := XKc_32 hk (by decide) (by decide) (by decide)
    refine JP_in hX hl (fun X3 hX3 hl3 hP3 hK3 hsm3 => ?_)
    refine J_istore hX3 dL_law_1484 (by decide) ?_
    refine J_loc (LLk x r o i k) rfl ?_
    refine J_aload_n hX3 dL_law_1486 rfl ?_
    refine J_cellq hX3 hP3 hK3 hE.cell 1 hq1 rfl rfl (by omega) hN dL_law_1487 dL_law_1488 dL_law_1490 dL_law_1491 dL_law_1492 ?_
    refine J_cellq hX3 hP3 hK3 hE.cell 2 hq2 rfl rfl (by omega) hN dL_law_1493 dL_law_1494 dL_law_1496 dL_law_1497 dL_law_1498 ?_
    refine J_callVM hX3 _ dL_law_1499 cw_RL_170 (m_X10_ghost (T := T) (S := stg M (x + 3)) hI.1.2.1 hI.rs (WF_iS.mp hI.wf) hi1 hi2) ⟨hI.1.2.1.k0, by decide, by decide, rfl⟩ rfl (Nat.le_of_ble_eq_true rfl) ⟨by decide, by decide⟩ ⟨by omega, by omega⟩ (fun r8 M2 q => ?_)
    obtain ⟨hI2, h6, h8⟩ := inv_qno hI hS q (fun e => hcd.2 (hcd.1.symm.trans e)) (i32_eq hcd.1 hk32)
    rw [h8]
    refine J_tail hX3 tl_ghost hI2.1.2.1 (h6.trans hcd.1) hk32 (by decide) hI2.1.2.2.1.1 (fun e => absurd e hcd.2) (by decide) ⟨by omega, by omega⟩ ?_
    exact J_loc (LL x r o i) rfl (J_widen (by omega) (by omega) (J_JP hP3 hK3 (hsm3 _ _ _ _ _ _ _ (k1 n K M2 (Inv_mo hI2 (by omega) hT)))))
  · rw [hr9, hKK]
    have hQ := lkd_q hI hP
    have hreg : ∀ i, r ≤ i → i < r + 12 → M1 i = M i := fun i h1 h2 => by rw [hM1, mset_ne (by omega), hQ.2.2.2 i (by omega)]
    refine JP_in hX hl (fun X3 hX3 hl3 hP3 hK3 hsm3 => ?_)
    refine J_istore hX3 dL_law_1484 (by decide) ?_
    refine J_loc (LLk x r o i 0) rfl ?_
    refine J_aload_n hX3 dL_law_1486 rfl ?_
    refine J_cellq hX3 hP3 hK3 hE.cell 1 hq1 rfl rfl (by omega) hN dL_law_1487 dL_law_1488 dL_law_1490 dL_law_1491 dL_law_1492 ?_
    refine J_cellq hX3 hP3 hK3 hE.cell 2 hq2 rfl rfl (by omega) hN dL_law_1493 dL_law_1494 dL_law_1496 dL_law_1497 dL_law_1498 ?_
    refine J_callVM hX3 _ dL_law_1499 cw_RL_170 (m_X10_ghost (T := T) (S := stg M (x + 3)) hI.1.2.1 (by rw [hreg (r + 1) (by omega) (by omega)]; exact hI.rs) (WF_iS.mp hI.wf) hi1 hi2) ⟨hI.1.2.1.k0, by decide, by decide, rfl⟩ rfl (Nat.le_of_ble_eq_true rfl) ⟨by decide, by decide⟩ ⟨by omega, by omega⟩ (fun r8 M2 q => ?_)
    rw [hM1] at q
    obtain ⟨hI2, ho, h6, h8, -⟩ := inv_q hI hS (Or.inl rfl) hQ q (i32_eq ((cd_i (k := 0)).2 hf) (by decide))
    have h8b : r8 = some (vI v) := (h8 ((cd_i (k := 0)).2 hf)).trans hval.symm
    rw [h8b]
    refine J_tail hX3 tl_ghost hI2.1.2.1 (h6.trans ((cd_i (k := 0)).2 hf)) (by decide) hv hI2.1.2.2.1.1 (fun _ => ho) (by decide) ⟨by omega, by omega⟩ ?_
    exact J_loc (LL x r o i) rfl (J_widen (by omega) (by omega) (J_JP hP3 hK3 (hsm3 _ _ _ _ _ _ _ (k1 n K M2 (Inv_mo hI2 (by omega) hT)))))
theorem tl_ghosts : TL 1558 (425) := ⟨⟨dL_law_1558, dL_law_1560, dL_law_1561, dL_law_1564, dL_law_1566⟩, ⟨dL_law_1571, dL_law_1573, dL_law_1576, dL_law_1577, dL_law_1578⟩, dL_law_1579, dL_law_1581, dL_law_1582, dL_law_1583, dL_law_1588, by decide⟩
set_option maxHeartbeats 4000000 in
set_option maxRecDepth 100000 in
theorem lc_ghosts {E : EE} {X : JX} {c0 s0 a b n N x r o : Nat} {T i : Int} {sc : Int → Int} {K : Nat → Nat} {M : MM} (hX : XO E X cL_law RL 9 12 c0 s0) (hl : XL X) (hE : LF E N sc) (hI : Inv n T K M x r o) (hS : Sep x r o) (hi : 0 ≤ i ∧ i + 7 ≤ N) (hN : N < 1000000) (hT : T + 30200 ≤ 1000000000) (hab : a + 20 ≤ c0 ∧ b + 260 ≤ s0)
    (k1 : ∀ n2 K2 M2, Inv n2 (T + 30200) K2 M2 x r o → JP E X 2013 (LL x r o i) [] K2 M2 (a + 20) (b + 260)) : JP E X 1535 (LL x r o i) [] K M a b := by
  obtain ⟨e1, e2, e3⟩ := id hS
  obtain ⟨q1, hq1⟩ : ∃ q, sc (i + 1) = q := ⟨_, rfl⟩
  have hi1 : i32 q1 := hq1 ▸ hE.rg _
  refine JP_in hX hl (fun X2 hX2 hl2 hP2 hK2 hsm2 => ?_)
  refine J_aload_n hX2 dL_law_1535 rfl ?_
  refine J_cellq hX2 hP2 hK2 hE.cell 1 hq1 rfl rfl (by omega) hN dL_law_1536 dL_law_1537 dL_law_1539 dL_law_1540 dL_law_1541 ?_
  refine J_aload_n hX2 dL_law_1542 rfl ?_
  refine J_callHP hX2 hl2 hP2 hK2 [] dL_law_1543 cwL_ghosts (m_L_ghosts hE.th hI.1.1 hI.wf hI.fr hi1 hI.1.2.2.1.1) rfl (Nat.le_of_ble_eq_true rfl) ⟨by decide, by decide⟩ ⟨by omega, by omega⟩ (lvs_LL hI hS) trivial (fun _ _ _ h => wr_q hI hS (fun _ _ h i hi => lkd_fr h.2 i (by omega)) h) (fun r9 K1 M1 h => hsm2 _ _ _ _ _ _ _ ?_)
  rcases h with ⟨k, hk, hr9, hKK, hM1⟩ | ⟨hr9, v, hv, Mc, ⟨hf, hKK, hval, hP⟩, hM1⟩
  · rw [hr9, hKK, hM1]
    have hcd := cd_a.1 hk
    have hk32 : i32 k := XKc_32 hk (by decide) (by decide) (by decide)
    refine JP_in hX hl (fun X3 hX3 hl3 hP3 hK3 hsm3 => ?_)
    refine J_istore hX3 dL_law_1546 (by decide) ?_
    refine J_loc (LLk x r o i k) rfl ?_
    refine J_aload_n hX3 dL_law_1548 rfl ?_
    refine J_cellq hX3 hP3 hK3 hE.cell 1 hq1 rfl rfl (by omega) hN dL_law_1549 dL_law_1550 dL_law_1552 dL_law_1553 dL_law_1554 ?_
    refine J_callVM hX3 _ dL_law_1555 cw_RL_173 (m_X10_ghosts (T := T) (S := stg M (x + 3)) hI.1.2.1 hI.rs (WF_iS.mp hI.wf) hi1) ⟨hI.1.2.1.k0, by decide, by decide, rfl⟩ rfl (Nat.le_of_ble_eq_true rfl) ⟨by decide, by decide⟩ ⟨by omega, by omega⟩ (fun r8 M2 q => ?_)
    obtain ⟨hI2, h6, h8⟩ := inv_qno hI hS q (fun e => hcd.2 (hcd.1.symm.trans e)) (i32_eq hcd.1 hk32)
    rw [h8]
    refine J_tail hX3 tl_ghosts hI2.1.2.1 (h6.trans hcd.1) hk32 (by decide) hI2.1.2.2.1.1 (fun e => absurd e hcd.2) (by decide) ⟨by omega, by omega⟩ ?_
    exact J_loc (LL x r o i) rfl (J_widen (by omega) (by omega) (J_JP hP3 hK3 (hsm3 _ _ _ _ _ _ _ (k1 n K M2 (Inv_mo hI2 (by omega) hT)))))
  · rw [hr9, hKK]
    have hQ := lkd_q hI hP
    have hreg : ∀ i, r ≤ i → i < r + 12 → M1 i = M i := fun i h1 h2 => by rw [hM1, mset_ne (by omega), hQ.2.2.2 i (by omega)]
    refine JP_in hX hl (fun X3 hX3 hl3 hP3 hK3 hsm3 => ?_)
    refine J_istore hX3 dL_law_1546 (by decide) ?_
    refine J_loc (LLk x r o i 0) rfl ?_
    refine J_aload_n hX3 dL_law_1548 rfl ?_
    refine J_cellq hX3 hP3 hK3 hE.cell 1 hq1 rfl rfl (by omega) hN dL_law_1549 dL_law_1550 dL_law_1552 dL_law_1553 dL_law_1554 ?_
    refine J_callVM hX3 _ dL_law_1555 cw_RL_173 (m_X10_ghosts (T := T) (S := stg M (x + 3)) hI.1.2.1 (by rw [hreg (r + 1) (by omega) (by omega)]; exact hI.rs) (WF_iS.mp hI.wf) hi1) ⟨hI.1.2.1.k0, by decide, by decide, rfl⟩ rfl (Nat.le_of_ble_eq_true rfl) ⟨by decide, by decide⟩ ⟨by omega, by omega⟩ (fun r8 M2 q => ?_)
    rw [hM1] at q
    obtain ⟨hI2, ho, h6, h8, -⟩ := inv_q hI hS (Or.inl rfl) hQ q (i32_eq ((cd_a (k := 0)).2 hf) (by decide))
    have h8b : r8 = some (vI v) := (h8 ((cd_a (k := 0)).2 hf)).trans hval.symm
    rw [h8b]
    refine J_tail hX3 tl_ghosts hI2.1.2.1 (h6.trans ((cd_a (k := 0)).2 hf)) (by decide) hv hI2.1.2.2.1.1 (fun _ => ho) (by decide) ⟨by omega, by omega⟩ ?_
    exact J_loc (LL x r o i) rfl (J_widen (by omega) (by omega) (J_JP hP3 hK3 (hsm3 _ _ _ _ _ _ _ (k1 n K M2 (Inv_mo hI2 (by omega) hT)))))
theorem tl_percentageFor : TL 1703 (280) := ⟨⟨dL_law_1703, dL_law_1705, dL_law_1706, dL_law_1709, dL_law_1711⟩, ⟨dL_law_1716, dL_law_1718, dL_law_1721, dL_law_1722, dL_law_1723⟩, dL_law_1724, dL_law_1726, dL_law_1727, dL_law_1728, dL_law_1733, by decide⟩
set_option maxHeartbeats 4000000 in
set_option maxRecDepth 100000 in
theorem lc_percentageFor {E : EE} {X : JX} {c0 s0 a b n N x r o : Nat} {T i : Int} {sc : Int → Int} {K : Nat → Nat} {M : MM} (hX : XO E X cL_law RL 9 12 c0 s0) (hl : XL X) (hE : LF E N sc) (hI : Inv n T K M x r o) (hS : Sep x r o) (hi : 0 ≤ i ∧ i + 7 ≤ N) (hN : N < 1000000) (hT : T + 30200 ≤ 1000000000) (hab : a + 20 ≤ c0 ∧ b + 260 ≤ s0)
    (k1 : ∀ n2 K2 M2, Inv n2 (T + 30200) K2 M2 x r o → JP E X 2013 (LL x r o i) [] K2 M2 (a + 20) (b + 260)) : JP E X 1668 (LL x r o i) [] K M a b := by
  obtain ⟨e1, e2, e3⟩ := id hS
  obtain ⟨q1, hq1⟩ : ∃ q, sc (i + 1) = q := ⟨_, rfl⟩
  have hi1 : i32 q1 := hq1 ▸ hE.rg _
  obtain ⟨q2, hq2⟩ : ∃ q, sc (i + 2) = q := ⟨_, rfl⟩
  have hi2 : i32 q2 := hq2 ▸ hE.rg _
  refine JP_in hX hl (fun X2 hX2 hl2 hP2 hK2 hsm2 => ?_)
  refine J_aload_n hX2 dL_law_1668 rfl ?_
  refine J_cellq hX2 hP2 hK2 hE.cell 1 hq1 rfl rfl (by omega) hN dL_law_1669 dL_law_1670 dL_law_1672 dL_law_1673 dL_law_1674 ?_
  refine J_cellq hX2 hP2 hK2 hE.cell 2 hq2 rfl rfl (by omega) hN dL_law_1675 dL_law_1676 dL_law_1678 dL_law_1679 dL_law_1680 ?_
  refine J_aload_n hX2 dL_law_1681 rfl ?_
  refine J_callHP hX2 hl2 hP2 hK2 [] dL_law_1682 cwL_percentageFor (m_L_percentageFor hE.th hI.1.1 hI.wf hI.fr hi1 hi2 hI.1.2.2.1.1) rfl (Nat.le_of_ble_eq_true rfl) ⟨by decide, by decide⟩ ⟨by omega, by omega⟩ (lvs_LL hI hS) trivial (fun _ _ _ h => wr_q hI hS (fun _ _ h i hi => lkd_fr h.2 i (by omega)) h) (fun r9 K1 M1 h => hsm2 _ _ _ _ _ _ _ ?_)
  rcases h with ⟨k, hk, hr9, hKK, hM1⟩ | ⟨hr9, v, hv, Mc, ⟨hf, hKK, hval, hP⟩, hM1⟩
  · rw [hr9, hKK, hM1]
    have hcd := cd_a.1 hk
    have hk32 : i32 k := XKc_32 hk (by decide) (by decide) (by decide)
    refine JP_in hX hl (fun X3 hX3 hl3 hP3 hK3 hsm3 => ?_)
    refine J_istore hX3 dL_law_1685 (by decide) ?_
    refine J_loc (LLk x r o i k) rfl ?_
    refine J_aload_n hX3 dL_law_1687 rfl ?_
    refine J_cellq hX3 hP3 hK3 hE.cell 1 hq1 rfl rfl (by omega) hN dL_law_1688 dL_law_1689 dL_law_1691 dL_law_1692 dL_law_1693 ?_
    refine J_cellq hX3 hP3 hK3 hE.cell 2 hq2 rfl rfl (by omega) hN dL_law_1694 dL_law_1695 dL_law_1697 dL_law_1698 dL_law_1699 ?_
    refine J_callVM hX3 _ dL_law_1700 cw_RL_180 (m_X10_percentageFor (T := T) (S := stg M (x + 3)) hI.1.2.1 hI.rs (WF_iS.mp hI.wf) hi1 hi2) ⟨hI.1.2.1.k0, by decide, by decide, rfl⟩ rfl (Nat.le_of_ble_eq_true rfl) ⟨by decide, by decide⟩ ⟨by omega, by omega⟩ (fun r8 M2 q => ?_)
    obtain ⟨hI2, h6, h8⟩ := inv_qno hI hS q (fun e => hcd.2 (hcd.1.symm.trans e)) (i32_eq hcd.1 hk32)
    rw [h8]
    refine J_tail hX3 tl_percentageFor hI2.1.2.1 (h6.trans hcd.1) hk32 (by decide) hI2.1.2.2.1.1 (fun e => absurd e hcd.2) (by decide) ⟨by omega, by omega⟩ ?_
    exact J_loc (LL x r o i) rfl (J_widen (by omega) (by omega) (J_JP hP3 hK3 (hsm3 _ _ _ _ _ _ _ (k1 n K M2 (Inv_mo hI2 (by omega) hT)))))
  · rw [hr9, hKK]
    have hQ := lkd_q hI hP
    have hreg : ∀ i, r ≤ i → i < r + 12 → M1 i = M i := fun i h1 h2 => by rw [hM1, mset_ne (by omega), hQ.2.2.2 i (by omega)]
    refine JP_in hX hl (fun X3 hX3 hl3 hP3 hK3 hsm3 => ?_)
    refine J_istore hX3 dL_law_1685 (by decide) ?_
    refine J_loc (LLk x r o i 0) rfl ?_
    refine J_aload_n hX3 dL_law_1687 rfl ?_
    refine J_cellq hX3 hP3 hK3 hE.cell 1 hq1 rfl rfl (by omega) hN dL_law_1688 dL_law_1689 dL_law_1691 dL_law_1692 dL_law_1693 ?_
    refine J_cellq hX3 hP3 hK3 hE.cell 2 hq2 rfl rfl (by omega) hN dL_law_1694 dL_law_1695 dL_law_1697 dL_law_1698 dL_law_1699 ?_
    refine J_callVM hX3 _ dL_law_1700 cw_RL_180 (m_X10_percentageFor (T := T) (S := stg M (x + 3)) hI.1.2.1 (by rw [hreg (r + 1) (by omega) (by omega)]; exact hI.rs) (WF_iS.mp hI.wf) hi1 hi2) ⟨hI.1.2.1.k0, by decide, by decide, rfl⟩ rfl (Nat.le_of_ble_eq_true rfl) ⟨by decide, by decide⟩ ⟨by omega, by omega⟩ (fun r8 M2 q => ?_)
    rw [hM1] at q
    obtain ⟨hI2, ho, h6, h8, -⟩ := inv_q hI hS (Or.inl rfl) hQ q (i32_eq ((cd_a (k := 0)).2 hf) (by decide))
    have h8b : r8 = some (vI v) := (h8 ((cd_a (k := 0)).2 hf)).trans hval.symm
    rw [h8b]
    refine J_tail hX3 tl_percentageFor hI2.1.2.1 (h6.trans ((cd_a (k := 0)).2 hf)) (by decide) hv hI2.1.2.2.1.1 (fun _ => ho) (by decide) ⟨by omega, by omega⟩ ?_
    exact J_loc (LL x r o i) rfl (J_widen (by omega) (by omega) (J_JP hP3 hK3 (hsm3 _ _ _ _ _ _ _ (k1 n K M2 (Inv_mo hI2 (by omega) hT)))))
theorem tl_fullAfter : TL 1772 (211) := ⟨⟨dL_law_1772, dL_law_1774, dL_law_1775, dL_law_1778, dL_law_1780⟩, ⟨dL_law_1785, dL_law_1787, dL_law_1790, dL_law_1791, dL_law_1792⟩, dL_law_1793, dL_law_1795, dL_law_1796, dL_law_1797, dL_law_1802, by decide⟩
set_option maxHeartbeats 4000000 in
set_option maxRecDepth 100000 in
theorem lc_fullAfter {E : EE} {X : JX} {c0 s0 a b n N x r o : Nat} {T i : Int} {sc : Int → Int} {K : Nat → Nat} {M : MM} (hX : XO E X cL_law RL 9 12 c0 s0) (hl : XL X) (hE : LF E N sc) (hI : Inv n T K M x r o) (hS : Sep x r o) (hi : 0 ≤ i ∧ i + 7 ≤ N) (hN : N < 1000000) (hT : T + 30200 ≤ 1000000000) (hab : a + 20 ≤ c0 ∧ b + 260 ≤ s0)
    (k1 : ∀ n2 K2 M2, Inv n2 (T + 30200) K2 M2 x r o → JP E X 2013 (LL x r o i) [] K2 M2 (a + 20) (b + 260)) : JP E X 1749 (LL x r o i) [] K M a b := by
  obtain ⟨e1, e2, e3⟩ := id hS
  obtain ⟨To, hWo⟩ := hI.ot
  obtain ⟨q1, hq1⟩ : ∃ q, sc (i + 1) = q := ⟨_, rfl⟩
  have hi1 : i32 q1 := hq1 ▸ hE.rg _
  refine JP_in hX hl (fun X2 hX2 hl2 hP2 hK2 hsm2 => ?_)
  refine J_aload_n hX2 dL_law_1749 rfl ?_
  refine J_cellq hX2 hP2 hK2 hE.cell 1 hq1 rfl rfl (by omega) hN dL_law_1750 dL_law_1751 dL_law_1753 dL_law_1754 dL_law_1755 ?_
  refine J_aload_n hX2 dL_law_1756 rfl ?_
  refine J_callHP hX2 hl2 hP2 hK2 [] dL_law_1757 cwL_fullAfter (m_L_fullAfter hE.th hI.1.1 hI.wf hI.fr hi1 (by omega) hWo hI.1.2.2.1.1) rfl (Nat.le_of_ble_eq_true rfl) ⟨by decide, by decide⟩ ⟨by omega, by omega⟩ (lvs_LL hI hS) trivial (fun _ _ _ h => wr_q hI hS (fun _ _ h i hi => by obtain ⟨-, ⟨M9, hL9, hf9⟩, -⟩ := h; rw [hf9 i (by omega), lkd_fr hL9 i (by omega)]) h) (fun r9 K1 M1 h => hsm2 _ _ _ _ _ _ _ ?_)
  rcases h with ⟨k, hk, hr9, hKK, hM1⟩ | ⟨hr9, v, hv, Mc, ⟨hf, hKK, hval, ⟨M9, hL9, hf9⟩, T9, -, hW9⟩, hM1⟩
  · rw [hr9, hKK, hM1]
    have hcd := cd_a.1 hk
    have hk32 : i32 k := XKc_32 hk (by decide) (by decide) (by decide)
    refine JP_in hX hl (fun X3 hX3 hl3 hP3 hK3 hsm3 => ?_)
    refine J_istore hX3 dL_law_1760 (by decide) ?_
    refine J_loc (LLk x r o i k) rfl ?_
    refine J_aload_n hX3 dL_law_1762 rfl ?_
    refine J_cellq hX3 hP3 hK3 hE.cell 1 hq1 rfl rfl (by omega) hN dL_law_1763 dL_law_1764 dL_law_1766 dL_law_1767 dL_law_1768 ?_
    refine J_callVM hX3 _ dL_law_1769 cw_RL_187 (m_X10_fullAfter (T := T) (S := stg M (x + 3)) hI.1.2.1 hI.rs (WF_iS.mp hI.wf) hi1 (by omega) (fun k9 h9 => stg_hi h9)) ⟨hI.1.2.1.k0, by decide, by decide, rfl⟩ rfl (Nat.le_of_ble_eq_true rfl) ⟨by decide, by decide⟩ ⟨by omega, by omega⟩ (fun r8 M2 q => ?_)
    obtain ⟨hI2, h6, h8⟩ := inv_qno hI hS q (fun e => hcd.2 (hcd.1.symm.trans e)) (i32_eq hcd.1 hk32)
    rw [h8]
    refine J_tail hX3 tl_fullAfter hI2.1.2.1 (h6.trans hcd.1) hk32 (by decide) hI2.1.2.2.1.1 (fun e => absurd e hcd.2) (by decide) ⟨by omega, by omega⟩ ?_
    exact J_loc (LL x r o i) rfl (J_widen (by omega) (by omega) (J_JP hP3 hK3 (hsm3 _ _ _ _ _ _ _ (k1 n K M2 (Inv_mo hI2 (by omega) hT)))))
  · rw [hr9, hKK]
    have hQ := oth_q2 hL9 hf9 hW9
    have hreg : ∀ i, r ≤ i → i < r + 12 → M1 i = M i := fun i h1 h2 => by rw [hM1, mset_ne (by omega), hQ.2.2.2 i (by omega)]
    refine JP_in hX hl (fun X3 hX3 hl3 hP3 hK3 hsm3 => ?_)
    refine J_istore hX3 dL_law_1760 (by decide) ?_
    refine J_loc (LLk x r o i 0) rfl ?_
    refine J_aload_n hX3 dL_law_1762 rfl ?_
    refine J_cellq hX3 hP3 hK3 hE.cell 1 hq1 rfl rfl (by omega) hN dL_law_1763 dL_law_1764 dL_law_1766 dL_law_1767 dL_law_1768 ?_
    refine J_callVM hX3 _ dL_law_1769 cw_RL_187 (m_X10_fullAfter (T := T) (S := stg M (x + 3)) hI.1.2.1 (by rw [hreg (r + 1) (by omega) (by omega)]; exact hI.rs) (WF_iS.mp hI.wf) hi1 (by omega) (fun k9 h9 => stg_hi h9)) ⟨hI.1.2.1.k0, by decide, by decide, rfl⟩ rfl (Nat.le_of_ble_eq_true rfl) ⟨by decide, by decide⟩ ⟨by omega, by omega⟩ (fun r8 M2 q => ?_)
    rw [hM1] at q
    obtain ⟨hI2, ho, h6, h8, -⟩ := inv_q hI hS (Or.inl rfl) hQ q (i32_eq ((cd_a (k := 0)).2 hf) (by decide))
    have h8b : r8 = some (vI v) := (h8 ((cd_a (k := 0)).2 hf)).trans hval.symm
    rw [h8b]
    refine J_tail hX3 tl_fullAfter hI2.1.2.1 (h6.trans ((cd_a (k := 0)).2 hf)) (by decide) hv hI2.1.2.2.1.1 (fun _ => ho) (by decide) ⟨by omega, by omega⟩ ?_
    exact J_loc (LL x r o i) rfl (J_widen (by omega) (by omega) (J_JP hP3 hK3 (hsm3 _ _ _ _ _ _ _ (k1 n K M2 (Inv_mo hI2 (by omega) hT)))))
theorem tl_ghostsWithout : TL 1840 (143) := ⟨⟨dL_law_1840, dL_law_1842, dL_law_1843, dL_law_1846, dL_law_1848⟩, ⟨dL_law_1853, dL_law_1855, dL_law_1858, dL_law_1859, dL_law_1860⟩, dL_law_1861, dL_law_1863, dL_law_1864, dL_law_1865, dL_law_1870, by decide⟩
set_option maxHeartbeats 4000000 in
set_option maxRecDepth 100000 in
theorem lc_ghostsWithout {E : EE} {X : JX} {c0 s0 a b n N x r o : Nat} {T i : Int} {sc : Int → Int} {K : Nat → Nat} {M : MM} (hX : XO E X cL_law RL 9 12 c0 s0) (hl : XL X) (hE : LF E N sc) (hI : Inv n T K M x r o) (hS : Sep x r o) (hi : 0 ≤ i ∧ i + 7 ≤ N) (hN : N < 1000000) (hT : T + 30200 ≤ 1000000000) (hab : a + 20 ≤ c0 ∧ b + 260 ≤ s0)
    (k1 : ∀ n2 K2 M2, Inv n2 (T + 30200) K2 M2 x r o → JP E X 2013 (LL x r o i) [] K2 M2 (a + 20) (b + 260)) : JP E X 1805 (LL x r o i) [] K M a b := by
  obtain ⟨e1, e2, e3⟩ := id hS
  obtain ⟨q1, hq1⟩ : ∃ q, sc (i + 1) = q := ⟨_, rfl⟩
  have hi1 : i32 q1 := hq1 ▸ hE.rg _
  obtain ⟨q2, hq2⟩ : ∃ q, sc (i + 2) = q := ⟨_, rfl⟩
  have hi2 : i32 q2 := hq2 ▸ hE.rg _
  refine JP_in hX hl (fun X2 hX2 hl2 hP2 hK2 hsm2 => ?_)
  refine J_aload_n hX2 dL_law_1805 rfl ?_
  refine J_cellq hX2 hP2 hK2 hE.cell 1 hq1 rfl rfl (by omega) hN dL_law_1806 dL_law_1807 dL_law_1809 dL_law_1810 dL_law_1811 ?_
  refine J_cellq hX2 hP2 hK2 hE.cell 2 hq2 rfl rfl (by omega) hN dL_law_1812 dL_law_1813 dL_law_1815 dL_law_1816 dL_law_1817 ?_
  refine J_aload_n hX2 dL_law_1818 rfl ?_
  refine J_callHP hX2 hl2 hP2 hK2 [] dL_law_1819 cwL_ghostsWithout (m_L_ghostsWithout hE.th hI.1.1 hI.wf hi1 hi2 hI.1.2.2.1.1) rfl (Nat.le_of_ble_eq_true rfl) ⟨by decide, by decide⟩ ⟨by omega, by omega⟩ (lvs_LL hI hS) trivial (fun _ _ _ h => wr_q hI hS (fun _ _ h i hi => by obtain ⟨S9, -, -, hf9, -⟩ := h; exact hf9 i (by omega)) h) (fun r9 K1 M1 h => hsm2 _ _ _ _ _ _ _ ?_)
  rcases h with ⟨k, hk, hr9, hKK, hM1⟩ | ⟨hr9, v, hv, Mc, ⟨hf, hKK, S9, hD9, hval, hf9, hW9⟩, hM1⟩
  · rw [hr9, hKK, hM1]
    have hcd := cd_f.1 hk
    have hk32 : i32 k := XKc_32 hk (by decide) (by decide) (by decide)
    refine JP_in hX hl (fun X3 hX3 hl3 hP3 hK3 hsm3 => ?_)
    refine J_istore hX3 dL_law_1822 (by decide) ?_
    refine J_loc (LLk x r o i k) rfl ?_
    refine J_aload_n hX3 dL_law_1824 rfl ?_
    refine J_cellq hX3 hP3 hK3 hE.cell 1 hq1 rfl rfl (by omega) hN dL_law_1825 dL_law_1826 dL_law_1828 dL_law_1829 dL_law_1830 ?_
    refine J_cellq hX3 hP3 hK3 hE.cell 2 hq2 rfl rfl (by omega) hN dL_law_1831 dL_law_1832 dL_law_1834 dL_law_1835 dL_law_1836 ?_
    refine J_callVM hX3 _ dL_law_1837 cw_RL_190 (m_X10_ghostsWithout (T := T) (S := stg M (x + 3)) hI.1.2.1 hI.rs (WF_iS.mp hI.wf) hi1 hi2 (S2 := fun _ _ => 0) (fun z => absurd (hcd.1.symm.trans z) hcd.2)) ⟨hI.1.2.1.k0, by decide, by decide, rfl⟩ rfl (Nat.le_of_ble_eq_true rfl) ⟨by decide, by decide⟩ ⟨by omega, by omega⟩ (fun r8 M2 q => ?_)
    obtain ⟨hI2, h6, h8⟩ := inv_qno hI hS q (fun e => hcd.2 (hcd.1.symm.trans e)) (i32_eq hcd.1 hk32)
    rw [h8]
    refine J_tail hX3 tl_ghostsWithout hI2.1.2.1 (h6.trans hcd.1) hk32 (by decide) hI2.1.2.2.1.1 (fun e => absurd e hcd.2) (by decide) ⟨by omega, by omega⟩ ?_
    exact J_loc (LL x r o i) rfl (J_widen (by omega) (by omega) (J_JP hP3 hK3 (hsm3 _ _ _ _ _ _ _ (k1 n K M2 (Inv_mo hI2 (by omega) hT)))))
  · rw [hr9, hKK]
    have hQ := oth_q hI.fr hf9 hW9
    have hreg : ∀ i, r ≤ i → i < r + 12 → M1 i = M i := fun i h1 h2 => by rw [hM1, mset_ne (by omega), hQ.2.2.2 i (by omega)]
    refine JP_in hX hl (fun X3 hX3 hl3 hP3 hK3 hsm3 => ?_)
    refine J_istore hX3 dL_law_1822 (by decide) ?_
    refine J_loc (LLk x r o i 0) rfl ?_
    refine J_aload_n hX3 dL_law_1824 rfl ?_
    refine J_cellq hX3 hP3 hK3 hE.cell 1 hq1 rfl rfl (by omega) hN dL_law_1825 dL_law_1826 dL_law_1828 dL_law_1829 dL_law_1830 ?_
    refine J_cellq hX3 hP3 hK3 hE.cell 2 hq2 rfl rfl (by omega) hN dL_law_1831 dL_law_1832 dL_law_1834 dL_law_1835 dL_law_1836 ?_
    refine J_callVM hX3 _ dL_law_1837 cw_RL_190 (m_X10_ghostsWithout (T := T) (S := stg M (x + 3)) hI.1.2.1 (by rw [hreg (r + 1) (by omega) (by omega)]; exact hI.rs) (WF_iS.mp hI.wf) hi1 hi2 (S2 := S9) (fun _ => hD9)) ⟨hI.1.2.1.k0, by decide, by decide, rfl⟩ rfl (Nat.le_of_ble_eq_true rfl) ⟨by decide, by decide⟩ ⟨by omega, by omega⟩ (fun r8 M2 q => ?_)
    rw [hM1] at q
    obtain ⟨hI2, ho, h6, h8, -⟩ := inv_q hI hS (Or.inl rfl) hQ q (i32_eq ((cd_f (k := 0)).2 hf) (by decide))
    have h8b : r8 = some (vI v) := (h8 ((cd_f (k := 0)).2 hf)).trans hval.symm
    rw [h8b]
    refine J_tail hX3 tl_ghostsWithout hI2.1.2.1 (h6.trans ((cd_f (k := 0)).2 hf)) (by decide) hv hI2.1.2.2.1.1 (fun _ => ho) (by decide) ⟨by omega, by omega⟩ ?_
    exact J_loc (LL x r o i) rfl (J_widen (by omega) (by omega) (J_JP hP3 hK3 (hsm3 _ _ _ _ _ _ _ (k1 n K M2 (Inv_mo hI2 (by omega) hT)))))
