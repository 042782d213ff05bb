/-! the law's cases: changes and questions -/
set_option maxHeartbeats 4000000 in
set_option maxRecDepth 100000 in
theorem m_X10_removeNode2 {E : EE} {K : Nat → Nat} {M : MM} {r : Nat} {T : Int} {S : MM} {n : Int} (hM : ModelK K r) (hR : RS S (M (r + 1))) (hW : WFS T S) (hn : i32 n) (h3 : 0 ≤ M r 3 ∧ M r 3 ≤ 4) : CnM E 4 yX10_removeNode cX10_removeNode 2 (Option.some FieldType.int) [.ref r, vI n] K M (fun r9 M2 => ∀ S2, (hs S n → Drd S S2 n) → ChM M r (if hs S n then 0 else 1) (nwn S n (S 1 0)) S2 r9 M2) := by
  obtain ⟨⟨rs0, rs1, rs2, rs3, rs4, rs5, rs6, rs7, rs8, rs9, rs10, rs13⟩, rst, rsn, rsc⟩ := id hR
  have hs9 := hW.2.1
  unfold WFSs at hs9
  refine Cn_of RX10 (plainFor_of_name (by decide)) rfl (Nat.le_of_ble_eq_true rfl) (fun X hX hQ => ?_)
  refine J_aload_n hX dX10_removeNode_0 rfl ?_
  refine J_aload_n hX dX10_removeNode_1 rfl ?_
  refine J_iload_n hX dX10_removeNode_2 rfl ?_
  refine J_callVI hX _ dX10_removeNode_3 cw_RX10_110 (m_X10_notRemove hM hR hW (by omega)) ⟨(show K (r) = 9 from hM 0 (by decide)), by decide, by decide, rfl⟩ rfl (Nat.le_of_ble_eq_true rfl) (by decide) ⟨Nat.zero_le _, Nat.zero_le _⟩ (fun r3 => ?_)
  refine J_putA hX fw_RX10_47 dX10_removeNode_6 (show K (r) = 9 from hM 0 (by decide)) (by omega) (Or.inl rfl) (fun m6 hm6 => ?_)
  have fm6 : ∀ i, i ≠ r → m6 i = M i := fun i h => by rw [hm6]; exact mset_ne h
  have gm6 : ∀ i j, j ≠ 6 → m6 i j = M i j := fun i j h => by rw [hm6]; exact mset_nj h
  have vm6 := (congrFun (congrFun hm6 (r)) 6).trans mset_eq
  have hRm : RS S (m6 (r + 1)) := by rw [fm6 _ (by omega)]; exact hR
  have h3b : 0 ≤ m6 r 3 ∧ m6 r 3 ≤ 4 := by rw [gm6 _ 3 (by decide)]; exact h3
  have ec : m6 r 6 = (if hs S n then 0 else 1) := by first | exact vm6 | exact vm6.trans (by (repeat' split) <;> omega)
  refine J_aload_n hX dX10_removeNode_9 rfl ?_
  refine J_geti hX fi_RX10_47 dX10_removeNode_10 (show K (r) = 9 from hM 0 (by decide)) (fun r10 => ?_)
  refine J_if_eq hX 18 dX10_removeNode_13 (by omega) (by decide) (fun c13 => ?_) (fun c13 => ?_)
  · have ez : (if hs S n then 0 else 1) = (0 : Int) := by rw [← ec]; first | assumption | exact vm6
    have g0 := if_0 (by decide) ez
    refine J_aload_n hX dX10_removeNode_18 rfl ?_
    refine J_callVM hX _ dX10_removeNode_19 cw_RX10_69 (m_X10_keep hM h3b) ⟨(show K (r) = 9 from hM 0 (by decide)), by decide, by decide, rfl⟩ rfl (Nat.le_of_ble_eq_true rfl) (by decide) ⟨Nat.zero_le _, Nat.zero_le _⟩ (fun r9 M19 q19 => ?_)
    obtain ⟨rfl, kpM19⟩ := q19
    have hRk : RS S (M19 (r + 1)) := by rw [kpM19.row (by omega) (by omega)]; exact hRm
    obtain ⟨⟨k0, k1, k2, k3, k4, k5, k6, k7, k8, k9, k10, k13⟩, kt, kn, kc⟩ := id hRk
    refine J_aload_n hX dX10_removeNode_22 rfl ?_
    refine J_iload_n hX dX10_removeNode_23 rfl ?_
    refine J_callVM hX _ dX10_removeNode_24 cw_RX10_113 (m_X10_removes hM hRk hW g0) ⟨(show K (r) = 9 from hM 0 (by decide)), by decide, by decide, rfl⟩ rfl (Nat.le_of_ble_eq_true rfl) (by decide) ⟨Nat.zero_le _, Nat.zero_le _⟩ (fun r9 M24 q24 => ?_)
    obtain ⟨rfl, fM24, dM24⟩ := q24
    exact J_iret hX hQ dX10_removeNode_27 ⟨rfl, by intro S2 hD; first | exact ⟨m6, ⟨ec, fm6, gm6 r⟩, Or.inl ⟨by rw [← ec]; assumption, rfl, rfl⟩⟩ | exact ⟨m6, ⟨ec, fm6, gm6 r⟩, Or.inr ⟨ez, rfl, M19, kpM19, fun i i1 i2 => fM24 i i1 i2, dM24 S2 (hD g0)⟩⟩⟩ (Nat.zero_le _) (Nat.zero_le _)
  · refine J_iconst hX dX10_removeNode_16 ?_
    exact J_iret hX hQ dX10_removeNode_17 ⟨rfl, by intro S2 hD; first | exact ⟨m6, ⟨ec, fm6, gm6 r⟩, Or.inl ⟨by rw [← ec]; assumption, rfl, rfl⟩⟩ | exact ⟨m6, ⟨ec, fm6, gm6 r⟩, Or.inr ⟨ez, rfl, M19, kpM19, fun i i1 i2 => fM24 i i1 i2, dM24 S2 (hD g0)⟩⟩⟩ (Nat.zero_le _) (Nat.zero_le _)
theorem cdm_0 {P Q : Prop} [Decidable P] [Decidable Q] (h : (if ¬ P then 1 else if Q then 0 else 2 : Int) = 0) : P ∧ Q := by
  by_cases p : P <;> by_cases q : Q <;> simp [p, q] at h ⊢
theorem cdt_0 {P Q : Prop} [Decidable P] [Decidable Q] (h : (if P then (if Q then 3 else 0) else 2 : Int) = 0) : P ∧ ¬ Q := by
  by_cases p : P <;> by_cases q : Q <;> simp [p, q] at h ⊢
theorem ifn_0 {P : Prop} [Decidable P] {k : Int} (hk : k ≠ 0) (h : (if P then 0 else 1 : Int) = k) : ¬ P := by
  intro p
  rw [if_pos p] at h
  exact hk h.symm
theorem tl_begin : TL 215 (1768) := ⟨⟨dL_law_215, dL_law_217, dL_law_218, dL_law_221, dL_law_223⟩, ⟨dL_law_228, dL_law_230, dL_law_233, dL_law_234, dL_law_235⟩, dL_law_236, dL_law_238, dL_law_239, dL_law_240, dL_law_245, by decide⟩
set_option maxHeartbeats 4000000 in
set_option maxRecDepth 100000 in
theorem lc_begin {E : EE} {X : JX} {c0 s0 a b n N x r o : Nat} {T i : Int} {sc : Int → Int} {K : Nat → Nat} {M : MM} (hX : XO E X cL_law RL 9 12 c0 s0) (hl : XL X) (hE : LF E N sc) (hI : Inv n T K M x r o) (hS : Sep x r o) (hi : 0 ≤ i ∧ i + 7 ≤ N) (hN : N < 1000000) (hT : T + 30200 ≤ 1000000000) (hab : a + 20 ≤ c0 ∧ b + 260 ≤ s0)
    (k1 : ∀ n2 K2 M2, Inv n2 (T + 30200) K2 M2 x r o → JP E X 2013 (LL x r o i) [] K2 M2 (a + 20) (b + 260)) : JP E X 180 (LL x r o i) [] K M a b := by
  obtain ⟨e1, e2, e3⟩ := id hS
  obtain ⟨q1, hq1⟩ : ∃ q, sc (i + 1) = q := ⟨_, rfl⟩
  have hi1 : i32 q1 := hq1 ▸ hE.rg _
  obtain ⟨q2, hq2⟩ : ∃ q, sc (i + 2) = q := ⟨_, rfl⟩
  have hi2 : i32 q2 := hq2 ▸ hE.rg _
  refine JP_in hX hl (fun X2 hX2 hl2 hP2 hK2 hsm2 => ?_)
  refine J_aload_n hX2 dL_law_180 rfl ?_
  refine J_cellq hX2 hP2 hK2 hE.cell 1 hq1 rfl rfl (by omega) hN dL_law_181 dL_law_182 dL_law_184 dL_law_185 dL_law_186 ?_
  refine J_cellq hX2 hP2 hK2 hE.cell 2 hq2 rfl rfl (by omega) hN dL_law_187 dL_law_188 dL_law_190 dL_law_191 dL_law_192 ?_
  refine J_aload_n hX2 dL_law_193 rfl ?_
  refine J_callHP hX2 hl2 hP2 hK2 [] dL_law_194 cwL_begin (m_L_begin hE.th hI.1.1 hI.wf hI.2.1 hI.2.2.1 hi1 hi2 hI.1.2.2.1.1) rfl (Nat.le_of_ble_eq_true rfl) ⟨by decide, by decide⟩ ⟨by omega, by omega⟩ (lvs_LL hI hS) trivial (fun _ _ _ h => wr_ch hI hS (fun M1 Mc h i hi => by rw [h]; unfold begM clM; (repeat rw [mset_ne (by omega)])) h) (fun r9 K1 M1 h => hsm2 _ _ _ _ _ _ _ ?_)
  rcases h with ⟨k, hk, hr9, hKK, hM1⟩ | ⟨hr9, v, hv, Mc, ⟨hf, hval, M9, hkept, hMc⟩, hM1⟩
  · rw [hr9, hKK, hM1]
    have hcd := cd_a.1 hk
    have hk32 : i32 k := XKc_32 hk (by decide) (by decide) (by decide)
    refine JP_in hX hl (fun X3 hX3 hl3 hP3 hK3 hsm3 => ?_)
    refine J_istore hX3 dL_law_197 (by decide) ?_
    refine J_loc (LLk x r o i k) rfl ?_
    refine J_aload_n hX3 dL_law_199 rfl ?_
    refine J_cellq hX3 hP3 hK3 hE.cell 1 hq1 rfl rfl (by omega) hN dL_law_200 dL_law_201 dL_law_203 dL_law_204 dL_law_205 ?_
    refine J_cellq hX3 hP3 hK3 hE.cell 2 hq2 rfl rfl (by omega) hN dL_law_206 dL_law_207 dL_law_209 dL_law_210 dL_law_211 ?_
    refine J_callVM hX3 _ dL_law_212 cw_RL_107 (m_X10_begin (T := T) (S := stg M (x + 3)) hI.1.2.1 hI.rs (WF_iS.mp hI.wf) hi1 hi2 hI.h3) ⟨hI.1.2.1.k0, by decide, by decide, rfl⟩ rfl (Nat.le_of_ble_eq_true rfl) ⟨by decide, by decide⟩ ⟨by omega, by omega⟩ (fun r8 M2 q => ?_)
    obtain ⟨hI2, h6, h8⟩ := inv_chno hI hS q (fun e => hcd.2 (hcd.1.symm.trans e)) (i32_eq hcd.1 hk32)
    rw [h8]
    refine J_tail hX3 tl_begin hI2.1.2.1 (h6.trans hcd.1) hk32 (by decide) hI2.1.2.2.1.1 (fun e => absurd e hcd.2) (by decide) ⟨by omega, by omega⟩ ?_
    exact J_loc (LL x r o i) rfl (J_widen (by omega) (by omega) (J_JP hP3 hK3 (hsm3 _ _ _ _ _ _ _ (k1 n K M2 (Inv_mo hI2 (by omega) hT)))))
  · rw [hr9]
    have hK9 := kept_K hI.1 hS hkept
    have hfr : ∀ i, i < x + 3 ∨ x + 18 < i → Mc i = M9 i := fun i hi => by rw [hMc]; unfold begM clM; (repeat rw [mset_ne (by omega)])
    have hreg : ∀ i, r ≤ i → i < r + 12 → M1 i = M i := fun i h1 h2 => by rw [hM1, mset_ne (by omega), hfr i (by omega), hkept.2.2.2.2.1 i (by omega) (by omega) (by omega) (by omega)]
    have hst : stg M9 (x + 3) = stg M (x + 3) := stg_eq (fun k hk => hkept.stage k hk)
    have hSS : stg Mc (x + 3) = begS (stg M (x + 3)) q1 q2 := by rw [hMc, ← hst]; exact stg_beg
    have hc9 := if_0 (by decide) hf
    have hWS := WFS_beg (WF_iS.mp hI.wf) hc9.1 hc9.2
    refine JP_in hX hl (fun X3 hX3 hl3 hP3 hK3 hsm3 => ?_)
    refine J_istore hX3 dL_law_197 (by decide) ?_
    refine J_loc (LLk x r o i 0) rfl ?_
    refine J_aload_n hX3 dL_law_199 rfl ?_
    refine J_cellq hX3 hP3 hK3 hE.cell 1 hq1 rfl rfl (by omega) hN dL_law_200 dL_law_201 dL_law_203 dL_law_204 dL_law_205 ?_
    refine J_cellq hX3 hP3 hK3 hE.cell 2 hq2 rfl rfl (by omega) hN dL_law_206 dL_law_207 dL_law_209 dL_law_210 dL_law_211 ?_
    refine J_callVM hX3 _ dL_law_212 cw_RL_107 (m_X10_begin (T := T) (S := stg M (x + 3)) hK9.2.1 (by rw [hreg (r + 1) (by omega) (by omega)]; exact hI.rs) (WF_iS.mp hI.wf) hi1 hi2 (by rw [hreg r (by omega) (by omega)]; exact hI.h3)) ⟨hK9.2.1.k0, by decide, by decide, rfl⟩ rfl (Nat.le_of_ble_eq_true rfl) ⟨by decide, by decide⟩ ⟨by omega, by omega⟩ (fun r8 M2 q => ?_)
    rw [hM1] at q
    obtain ⟨⟨n2, hI2⟩, ho, h6, h8⟩ := inv_ch (T2 := T) hI hS (by omega) hkept hfr (WF_iS.mpr (by rw [hSS]; exact hWS)) hSS q ((cd_a (k := 0)).2 hf)
    have h8b : r8 = some (vI v) := h8.trans hval.symm
    rw [h8b]
    refine J_tail hX3 tl_begin hI2.1.2.1 h6 (by decide) hv hI2.1.2.2.1.1 (fun _ => ho) (by decide) ⟨by omega, by omega⟩ ?_
    exact J_loc (LL x r o i) rfl (J_widen (by omega) (by omega) (J_JP hP3 hK3 (hsm3 _ _ _ _ _ _ _ (k1 n2 K1 M2 (Inv_mo hI2 (by omega) hT)))))
theorem tl_addGroup : TL 307 (1676) := ⟨⟨dL_law_307, dL_law_309, dL_law_310, dL_law_313, dL_law_315⟩, ⟨dL_law_320, dL_law_322, dL_law_325, dL_law_326, dL_law_327⟩, dL_law_328, dL_law_330, dL_law_331, dL_law_332, dL_law_337, by decide⟩
set_option maxHeartbeats 4000000 in
set_option maxRecDepth 100000 in
theorem lc_addGroup {E : EE} {X : JX} {c0 s0 a b n N x r o : Nat} {T i : Int} {sc : Int → Int} {K : Nat → Nat} {M : MM} (hX : XO E X cL_law RL 9 12 c0 s0) (hl : XL X) (hE : LF E N sc) (hI : Inv n T K M x r o) (hS : Sep x r o) (hi : 0 ≤ i ∧ i + 7 ≤ N) (hN : N < 1000000) (hT : T + 30200 ≤ 1000000000) (hab : a + 20 ≤ c0 ∧ b + 260 ≤ s0)
    (k1 : ∀ n2 K2 M2, Inv n2 (T + 30200) K2 M2 x r o → JP E X 2013 (LL x r o i) [] K2 M2 (a + 20) (b + 260)) : JP E X 248 (LL x r o i) [] K M a b := by
  obtain ⟨e1, e2, e3⟩ := id hS
  obtain ⟨q1, hq1⟩ : ∃ q, sc (i + 1) = q := ⟨_, rfl⟩
  have hi1 : i32 q1 := hq1 ▸ hE.rg _
  obtain ⟨q2, hq2⟩ : ∃ q, sc (i + 2) = q := ⟨_, rfl⟩
  have hi2 : i32 q2 := hq2 ▸ hE.rg _
  obtain ⟨q3, hq3⟩ : ∃ q, sc (i + 3) = q := ⟨_, rfl⟩
  have hi3 : i32 q3 := hq3 ▸ hE.rg _
  obtain ⟨q4, hq4⟩ : ∃ q, sc (i + 4) = q := ⟨_, rfl⟩
  have hi4 : i32 q4 := hq4 ▸ hE.rg _
  refine JP_in hX hl (fun X2 hX2 hl2 hP2 hK2 hsm2 => ?_)
  refine J_aload_n hX2 dL_law_248 rfl ?_
  refine J_cellq hX2 hP2 hK2 hE.cell 1 hq1 rfl rfl (by omega) hN dL_law_249 dL_law_250 dL_law_252 dL_law_253 dL_law_254 ?_
  refine J_cellq hX2 hP2 hK2 hE.cell 2 hq2 rfl rfl (by omega) hN dL_law_255 dL_law_256 dL_law_258 dL_law_259 dL_law_260 ?_
  refine J_cellq hX2 hP2 hK2 hE.cell 3 hq3 rfl rfl (by omega) hN dL_law_261 dL_law_262 dL_law_264 dL_law_265 dL_law_266 ?_
  refine J_cellq hX2 hP2 hK2 hE.cell 4 hq4 rfl rfl (by omega) hN dL_law_267 dL_law_268 dL_law_270 dL_law_271 dL_law_272 ?_
  refine J_aload_n hX2 dL_law_273 rfl ?_
  refine J_callHP hX2 hl2 hP2 hK2 [] dL_law_274 cwL_addGroup (m_L_addGroup hE.th hI.1.1 hI.wf hI.2.1 hI.2.2.1 hi1 hi2 hi3 hi4 hI.1.2.2.1.1) rfl (Nat.le_of_ble_eq_true rfl) ⟨by decide, by decide⟩ ⟨by omega, by omega⟩ (lvs_LL hI hS) trivial (fun _ _ _ h => wr_ch hI hS (fun M1 Mc h i hi => by rw [h]; unfold addM; (repeat rw [mset_ne (by omega)])) h) (fun r9 K1 M1 h => hsm2 _ _ _ _ _ _ _ ?_)
  rcases h with ⟨k, hk, hr9, hKK, hM1⟩ | ⟨hr9, v, hv, Mc, ⟨hf, hval, M9, hkept, hMc⟩, hM1⟩
  · rw [hr9, hKK, hM1]
    have hcd := cd_k.1 hk
    have hk32 : i32 k := XKc_32 hk (by decide) (by decide) (by decide)
    refine JP_in hX hl (fun X3 hX3 hl3 hP3 hK3 hsm3 => ?_)
    refine J_istore hX3 dL_law_277 (by decide) ?_
    refine J_loc (LLk x r o i k) rfl ?_
    refine J_aload_n hX3 dL_law_279 rfl ?_
    refine J_cellq hX3 hP3 hK3 hE.cell 1 hq1 rfl rfl (by omega) hN dL_law_280 dL_law_281 dL_law_283 dL_law_284 dL_law_285 ?_
    refine J_cellq hX3 hP3 hK3 hE.cell 2 hq2 rfl rfl (by omega) hN dL_law_286 dL_law_287 dL_law_289 dL_law_290 dL_law_291 ?_
    refine J_cellq hX3 hP3 hK3 hE.cell 3 hq3 rfl rfl (by omega) hN dL_law_292 dL_law_293 dL_law_295 dL_law_296 dL_law_297 ?_
    refine J_cellq hX3 hP3 hK3 hE.cell 4 hq4 rfl rfl (by omega) hN dL_law_298 dL_law_299 dL_law_301 dL_law_302 dL_law_303 ?_
    refine J_callVM hX3 _ dL_law_304 cw_RL_114 (m_X10_addGroup (T := T) (S := stg M (x + 3)) hI.1.2.1 hI.rs (WF_iS.mp hI.wf) hi1 hi2 hi3 hi4 hI.h3) ⟨hI.1.2.1.k0, by decide, by decide, rfl⟩ rfl (Nat.le_of_ble_eq_true rfl) ⟨by decide, by decide⟩ ⟨by omega, by omega⟩ (fun r8 M2 q => ?_)
    obtain ⟨hI2, h6, h8⟩ := inv_chno hI hS q (fun e => hcd.2 (hcd.1.symm.trans e)) (i32_eq hcd.1 hk32)
    rw [h8]
    refine J_tail hX3 tl_addGroup hI2.1.2.1 (h6.trans hcd.1) hk32 (by decide) hI2.1.2.2.1.1 (fun e => absurd e hcd.2) (by decide) ⟨by omega, by omega⟩ ?_
    exact J_loc (LL x r o i) rfl (J_widen (by omega) (by omega) (J_JP hP3 hK3 (hsm3 _ _ _ _ _ _ _ (k1 n K M2 (Inv_mo hI2 (by omega) hT)))))
  · rw [hr9]
    have hK9 := kept_K hI.1 hS hkept
    have hfr : ∀ i, i < x + 3 ∨ x + 18 < i → Mc i = M9 i := fun i hi => by rw [hMc]; unfold addM; (repeat rw [mset_ne (by omega)])
    have hreg : ∀ i, r ≤ i → i < r + 12 → M1 i = M i := fun i h1 h2 => by rw [hM1, mset_ne (by omega), hfr i (by omega), hkept.2.2.2.2.1 i (by omega) (by omega) (by omega) (by omega)]
    have hst : stg M9 (x + 3) = stg M (x + 3) := stg_eq (fun k hk => hkept.stage k hk)
    have hSS : stg Mc (x + 3) = adS (stg M (x + 3)) (arS (stg M (x + 3)) q1) q1 q2 q3 q4 0 0 := by rw [hMc, ← hst]; exact stg_add
    have g0 := gA_0 (S := stg M (x + 3)) hf
    have hWS := WFS_add (wd := 0) (hg := 0) (WF_iS.mp hI.wf) g0.2.2.2.1 (gA_ar (WF_iS.mp hI.wf) g0.1 g0.2.1) g0.2.2.2.2 g0.2.2.1 (by decide) (by decide) (Or.inl rfl)
    refine JP_in hX hl (fun X3 hX3 hl3 hP3 hK3 hsm3 => ?_)
    refine J_istore hX3 dL_law_277 (by decide) ?_
    refine J_loc (LLk x r o i 0) rfl ?_
    refine J_aload_n hX3 dL_law_279 rfl ?_
    refine J_cellq hX3 hP3 hK3 hE.cell 1 hq1 rfl rfl (by omega) hN dL_law_280 dL_law_281 dL_law_283 dL_law_284 dL_law_285 ?_
    refine J_cellq hX3 hP3 hK3 hE.cell 2 hq2 rfl rfl (by omega) hN dL_law_286 dL_law_287 dL_law_289 dL_law_290 dL_law_291 ?_
    refine J_cellq hX3 hP3 hK3 hE.cell 3 hq3 rfl rfl (by omega) hN dL_law_292 dL_law_293 dL_law_295 dL_law_296 dL_law_297 ?_
    refine J_cellq hX3 hP3 hK3 hE.cell 4 hq4 rfl rfl (by omega) hN dL_law_298 dL_law_299 dL_law_301 dL_law_302 dL_law_303 ?_
    refine J_callVM hX3 _ dL_law_304 cw_RL_114 (m_X10_addGroup (T := T) (S := stg M (x + 3)) hK9.2.1 (by rw [hreg (r + 1) (by omega) (by omega)]; exact hI.rs) (WF_iS.mp hI.wf) hi1 hi2 hi3 hi4 (by rw [hreg r (by omega) (by omega)]; exact hI.h3)) ⟨hK9.2.1.k0, by decide, by decide, rfl⟩ rfl (Nat.le_of_ble_eq_true rfl) ⟨by decide, by decide⟩ ⟨by omega, by omega⟩ (fun r8 M2 q => ?_)
    rw [hM1] at q
    obtain ⟨⟨n2, hI2⟩, ho, h6, h8⟩ := inv_ch (T2 := T) hI hS (by omega) hkept hfr (WF_iS.mpr (by rw [hSS]; exact hWS)) hSS q (hf)
    have h8b : r8 = some (vI v) := h8.trans hval.symm
    rw [h8b]
    refine J_tail hX3 tl_addGroup hI2.1.2.1 h6 (by decide) hv hI2.1.2.2.1.1 (fun _ => ho) (by decide) ⟨by omega, by omega⟩ ?_
    exact J_loc (LL x r o i) rfl (J_widen (by omega) (by omega) (J_JP hP3 hK3 (hsm3 _ _ _ _ _ _ _ (k1 n2 K1 M2 (Inv_mo hI2 (by omega) hT)))))
theorem tl_addBox : TL 425 (1558) := ⟨⟨dL_law_425, dL_law_427, dL_law_428, dL_law_431, dL_law_433⟩, ⟨dL_law_438, dL_law_440, dL_law_443, dL_law_444, dL_law_445⟩, dL_law_446, dL_law_448, dL_law_449, dL_law_450, dL_law_455, by decide⟩
set_option maxHeartbeats 4000000 in
set_option maxRecDepth 100000 in
theorem lc_addBox {E : EE} {X : JX} {c0 s0 a b n N x r o : Nat} {T i : Int} {sc : Int → Int} {K : Nat → Nat} {M : MM} (hX : XO E X cL_law RL 9 12 c0 s0) (hl : XL X) (hE : LF E N sc) (hI : Inv n T K M x r o) (hS : Sep x r o) (hi : 0 ≤ i ∧ i + 7 ≤ N) (hN : N < 1000000) (hT : T + 30200 ≤ 1000000000) (hab : a + 20 ≤ c0 ∧ b + 260 ≤ s0)
    (k1 : ∀ n2 K2 M2, Inv n2 (T + 30200) K2 M2 x r o → JP E X 2013 (LL x r o i) [] K2 M2 (a + 20) (b + 260)) : JP E X 340 (LL x r o i) [] K M a b := by
  obtain ⟨e1, e2, e3⟩ := id hS
  obtain ⟨q1, hq1⟩ : ∃ q, sc (i + 1) = q := ⟨_, rfl⟩
  have hi1 : i32 q1 := hq1 ▸ hE.rg _
  obtain ⟨q2, hq2⟩ : ∃ q, sc (i + 2) = q := ⟨_, rfl⟩
  have hi2 : i32 q2 := hq2 ▸ hE.rg _
  obtain ⟨q3, hq3⟩ : ∃ q, sc (i + 3) = q := ⟨_, rfl⟩
  have hi3 : i32 q3 := hq3 ▸ hE.rg _
  obtain ⟨q4, hq4⟩ : ∃ q, sc (i + 4) = q := ⟨_, rfl⟩
  have hi4 : i32 q4 := hq4 ▸ hE.rg _
  obtain ⟨q5, hq5⟩ : ∃ q, sc (i + 5) = q := ⟨_, rfl⟩
  have hi5 : i32 q5 := hq5 ▸ hE.rg _
  obtain ⟨q6, hq6⟩ : ∃ q, sc (i + 6) = q := ⟨_, rfl⟩
  have hi6 : i32 q6 := hq6 ▸ hE.rg _
  refine JP_in hX hl (fun X2 hX2 hl2 hP2 hK2 hsm2 => ?_)
  refine J_aload_n hX2 dL_law_340 rfl ?_
  refine J_cellq hX2 hP2 hK2 hE.cell 1 hq1 rfl rfl (by omega) hN dL_law_341 dL_law_342 dL_law_344 dL_law_345 dL_law_346 ?_
  refine J_cellq hX2 hP2 hK2 hE.cell 2 hq2 rfl rfl (by omega) hN dL_law_347 dL_law_348 dL_law_350 dL_law_351 dL_law_352 ?_
  refine J_cellq hX2 hP2 hK2 hE.cell 3 hq3 rfl rfl (by omega) hN dL_law_353 dL_law_354 dL_law_356 dL_law_357 dL_law_358 ?_
  refine J_cellq hX2 hP2 hK2 hE.cell 4 hq4 rfl rfl (by omega) hN dL_law_359 dL_law_360 dL_law_362 dL_law_363 dL_law_364 ?_
  refine J_cellq hX2 hP2 hK2 hE.cell 5 hq5 rfl rfl (by omega) hN dL_law_365 dL_law_366 dL_law_368 dL_law_369 dL_law_370 ?_
  refine J_cellBq hX2 hP2 hK2 hE.cell 6 rfl hq6 rfl rfl (by omega) hN dL_law_371 dL_law_372 dL_law_374 dL_law_376 dL_law_377 ?_
  refine J_aload_n hX2 dL_law_378 rfl ?_
  refine J_callHP hX2 hl2 hP2 hK2 [] dL_law_379 cwL_addBox (m_L_addBox hE.th hI.1.1 hI.wf hI.2.1 hI.2.2.1 hi1 hi2 hi3 hi4 hi5 hi6 hI.1.2.2.1.1) rfl (Nat.le_of_ble_eq_true rfl) ⟨by decide, by decide⟩ ⟨by omega, by omega⟩ (lvs_LL hI hS) trivial (fun _ _ _ h => wr_ch hI hS (fun M1 Mc h i hi => by rw [h]; unfold addM; (repeat rw [mset_ne (by omega)])) h) (fun r9 K1 M1 h => hsm2 _ _ _ _ _ _ _ ?_)
  rcases h with ⟨k, hk, hr9, hKK, hM1⟩ | ⟨hr9, v, hv, Mc, ⟨hf, hval, M9, hkept, hMc⟩, hM1⟩
  · rw [hr9, hKK, hM1]
    have hcd := cd_k.1 hk
    have hk32 : i32 k := XKc_32 hk (by decide) (by decide) (by decide)
    refine JP_in hX hl (fun X3 hX3 hl3 hP3 hK3 hsm3 => ?_)
    refine J_istore hX3 dL_law_382 (by decide) ?_
    refine J_loc (LLk x r o i k) rfl ?_
    refine J_aload_n hX3 dL_law_384 rfl ?_
    refine J_cellq hX3 hP3 hK3 hE.cell 1 hq1 rfl rfl (by omega) hN dL_law_385 dL_law_386 dL_law_388 dL_law_389 dL_law_390 ?_
    refine J_cellq hX3 hP3 hK3 hE.cell 2 hq2 rfl rfl (by omega) hN dL_law_391 dL_law_392 dL_law_394 dL_law_395 dL_law_396 ?_
    refine J_cellq hX3 hP3 hK3 hE.cell 3 hq3 rfl rfl (by omega) hN dL_law_397 dL_law_398 dL_law_400 dL_law_401 dL_law_402 ?_
    refine J_cellq hX3 hP3 hK3 hE.cell 4 hq4 rfl rfl (by omega) hN dL_law_403 dL_law_404 dL_law_406 dL_law_407 dL_law_408 ?_
    refine J_cellq hX3 hP3 hK3 hE.cell 5 hq5 rfl rfl (by omega) hN dL_law_409 dL_law_410 dL_law_412 dL_law_413 dL_law_414 ?_
    refine J_cellBq hX3 hP3 hK3 hE.cell 6 rfl hq6 rfl rfl (by omega) hN dL_law_415 dL_law_416 dL_law_418 dL_law_420 dL_law_421 ?_
    refine J_callVM hX3 _ dL_law_422 cw_RL_118 (m_X10_addBox (T := T) (S := stg M (x + 3)) hI.1.2.1 hI.rs (WF_iS.mp hI.wf) hi1 hi2 hi3 hi4 hi5 hi6 hI.h3) ⟨hI.1.2.1.k0, by decide, by decide, rfl⟩ rfl (Nat.le_of_ble_eq_true rfl) ⟨by decide, by decide⟩ ⟨by omega, by omega⟩ (fun r8 M2 q => ?_)
    obtain ⟨hI2, h6, h8⟩ := inv_chno hI hS q (fun e => hcd.2 (hcd.1.symm.trans e)) (i32_eq hcd.1 hk32)
    rw [h8]
    refine J_tail hX3 tl_addBox hI2.1.2.1 (h6.trans hcd.1) hk32 (by decide) hI2.1.2.2.1.1 (fun e => absurd e hcd.2) (by decide) ⟨by omega, by omega⟩ ?_
    exact J_loc (LL x r o i) rfl (J_widen (by omega) (by omega) (J_JP hP3 hK3 (hsm3 _ _ _ _ _ _ _ (k1 n K M2 (Inv_mo hI2 (by omega) hT)))))
  · rw [hr9]
    have hK9 := kept_K hI.1 hS hkept
    have hfr : ∀ i, i < x + 3 ∨ x + 18 < i → Mc i = M9 i := fun i hi => by rw [hMc]; unfold addM; (repeat rw [mset_ne (by omega)])
    have hreg : ∀ i, r ≤ i → i < r + 12 → M1 i = M i := fun i h1 h2 => by rw [hM1, mset_ne (by omega), hfr i (by omega), hkept.2.2.2.2.1 i (by omega) (by omega) (by omega) (by omega)]
    have hst : stg M9 (x + 3) = stg M (x + 3) := stg_eq (fun k hk => hkept.stage k hk)
    have hSS : stg Mc (x + 3) = adS (stg M (x + 3)) (arS (stg M (x + 3)) q1) q1 q2 q3 q4 q5 q6 := by rw [hMc, ← hst]; exact stg_add
    have gb := gB_0 (S := stg M (x + 3)) hf
    have g0 := gA_0 gb.1
    have hWS := WFS_add (wd := q5) (hg := q6) (WF_iS.mp hI.wf) g0.2.2.2.1 (gA_ar (WF_iS.mp hI.wf) g0.1 g0.2.1) g0.2.2.2.2 g0.2.2.1 (by omega) (by omega) (Or.inr (by omega))
    refine JP_in hX hl (fun X3 hX3 hl3 hP3 hK3 hsm3 => ?_)
    refine J_istore hX3 dL_law_382 (by decide) ?_
    refine J_loc (LLk x r o i 0) rfl ?_
    refine J_aload_n hX3 dL_law_384 rfl ?_
    refine J_cellq hX3 hP3 hK3 hE.cell 1 hq1 rfl rfl (by omega) hN dL_law_385 dL_law_386 dL_law_388 dL_law_389 dL_law_390 ?_
    refine J_cellq hX3 hP3 hK3 hE.cell 2 hq2 rfl rfl (by omega) hN dL_law_391 dL_law_392 dL_law_394 dL_law_395 dL_law_396 ?_
    refine J_cellq hX3 hP3 hK3 hE.cell 3 hq3 rfl rfl (by omega) hN dL_law_397 dL_law_398 dL_law_400 dL_law_401 dL_law_402 ?_
    refine J_cellq hX3 hP3 hK3 hE.cell 4 hq4 rfl rfl (by omega) hN dL_law_403 dL_law_404 dL_law_406 dL_law_407 dL_law_408 ?_
    refine J_cellq hX3 hP3 hK3 hE.cell 5 hq5 rfl rfl (by omega) hN dL_law_409 dL_law_410 dL_law_412 dL_law_413 dL_law_414 ?_
    refine J_cellBq hX3 hP3 hK3 hE.cell 6 rfl hq6 rfl rfl (by omega) hN dL_law_415 dL_law_416 dL_law_418 dL_law_420 dL_law_421 ?_
    refine J_callVM hX3 _ dL_law_422 cw_RL_118 (m_X10_addBox (T := T) (S := stg M (x + 3)) hK9.2.1 (by rw [hreg (r + 1) (by omega) (by omega)]; exact hI.rs) (WF_iS.mp hI.wf) hi1 hi2 hi3 hi4 hi5 hi6 (by rw [hreg r (by omega) (by omega)]; exact hI.h3)) ⟨hK9.2.1.k0, by decide, by decide, rfl⟩ rfl (Nat.le_of_ble_eq_true rfl) ⟨by decide, by decide⟩ ⟨by omega, by omega⟩ (fun r8 M2 q => ?_)
    rw [hM1] at q
    obtain ⟨⟨n2, hI2⟩, ho, h6, h8⟩ := inv_ch (T2 := T) hI hS (by omega) hkept hfr (WF_iS.mpr (by rw [hSS]; exact hWS)) hSS q (hf)
    have h8b : r8 = some (vI v) := h8.trans hval.symm
    rw [h8b]
    refine J_tail hX3 tl_addBox hI2.1.2.1 h6 (by decide) hv hI2.1.2.2.1.1 (fun _ => ho) (by decide) ⟨by omega, by omega⟩ ?_
    exact J_loc (LL x r o i) rfl (J_widen (by omega) (by omega) (J_JP hP3 hK3 (hsm3 _ _ _ _ _ _ _ (k1 n2 K1 M2 (Inv_mo hI2 (by omega) hT)))))
theorem tl_move : TL 517 (1466) := ⟨⟨dL_law_517, dL_law_519, dL_law_520, dL_law_523, dL_law_525⟩, ⟨dL_law_530, dL_law_532, dL_law_535, dL_law_536, dL_law_537⟩, dL_law_538, dL_law_540, dL_law_541, dL_law_542, dL_law_547, by decide⟩
set_option maxHeartbeats 4000000 in
set_option maxRecDepth 100000 in
theorem lc_move {E : EE} {X : JX} {c0 s0 a b n N x r o : Nat} {T i : Int} {sc : Int → Int} {K : Nat → Nat} {M : MM} (hX : XO E X cL_law RL 9 12 c0 s0) (hl : XL X) (hE : LF E N sc) (hI : Inv n T K M x r o) (hS : Sep x r o) (hi : 0 ≤ i ∧ i + 7 ≤ N) (hN : N < 1000000) (hT : T + 30200 ≤ 1000000000) (hab : a + 20 ≤ c0 ∧ b + 260 ≤ s0)
    (k1 : ∀ n2 K2 M2, Inv n2 (T + 30200) K2 M2 x r o → JP E X 2013 (LL x r o i) [] K2 M2 (a + 20) (b + 260)) : JP E X 458 (LL x r o i) [] K M a b := by
  obtain ⟨e1, e2, e3⟩ := id hS
  obtain ⟨q1, hq1⟩ : ∃ q, sc (i + 1) = q := ⟨_, rfl⟩
  have hi1 : i32 q1 := hq1 ▸ hE.rg _
  obtain ⟨q2, hq2⟩ : ∃ q, sc (i + 2) = q := ⟨_, rfl⟩
  have hi2 : i32 q2 := hq2 ▸ hE.rg _
  obtain ⟨q3, hq3⟩ : ∃ q, sc (i + 3) = q := ⟨_, rfl⟩
  have hi3 : i32 q3 := hq3 ▸ hE.rg _
  obtain ⟨q4, hq4⟩ : ∃ q, sc (i + 4) = q := ⟨_, rfl⟩
  have hi4 : i32 q4 := hq4 ▸ hE.rg _
  refine JP_in hX hl (fun X2 hX2 hl2 hP2 hK2 hsm2 => ?_)
  refine J_aload_n hX2 dL_law_458 rfl ?_
  refine J_cellq hX2 hP2 hK2 hE.cell 1 hq1 rfl rfl (by omega) hN dL_law_459 dL_law_460 dL_law_462 dL_law_463 dL_law_464 ?_
  refine J_cellq hX2 hP2 hK2 hE.cell 2 hq2 rfl rfl (by omega) hN dL_law_465 dL_law_466 dL_law_468 dL_law_469 dL_law_470 ?_
  refine J_cellq hX2 hP2 hK2 hE.cell 3 hq3 rfl rfl (by omega) hN dL_law_471 dL_law_472 dL_law_474 dL_law_475 dL_law_476 ?_
  refine J_cellq hX2 hP2 hK2 hE.cell 4 hq4 rfl rfl (by omega) hN dL_law_477 dL_law_478 dL_law_480 dL_law_481 dL_law_482 ?_
  refine J_aload_n hX2 dL_law_483 rfl ?_
  refine J_callHP hX2 hl2 hP2 hK2 [] dL_law_484 cwL_move (m_L_move hE.th hI.1.1 hI.wf hI.2.1 hI.2.2.1 hi1 hi2 hi3 hi4 hI.1.2.2.1.1) rfl (Nat.le_of_ble_eq_true rfl) ⟨by decide, by decide⟩ ⟨by omega, by omega⟩ (lvs_LL hI hS) trivial (fun _ _ _ h => wr_ch hI hS (fun M1 Mc h i hi => by rw [h]; unfold movM; (repeat rw [mset_ne (by omega)])) h) (fun r9 K1 M1 h => hsm2 _ _ _ _ _ _ _ ?_)
  rcases h with ⟨k, hk, hr9, hKK, hM1⟩ | ⟨hr9, v, hv, Mc, ⟨hf, hval, M9, hkept, hMc⟩, hM1⟩
  · rw [hr9, hKK, hM1]
    have hcd := cd_m.1 hk
    have hk32 : i32 k := XKc_32 hk (by decide) (by decide) (by decide)
    refine JP_in hX hl (fun X3 hX3 hl3 hP3 hK3 hsm3 => ?_)
    refine J_istore hX3 dL_law_487 (by decide) ?_
    refine J_loc (LLk x r o i k) rfl ?_
    refine J_aload_n hX3 dL_law_489 rfl ?_
    refine J_cellq hX3 hP3 hK3 hE.cell 1 hq1 rfl rfl (by omega) hN dL_law_490 dL_law_491 dL_law_493 dL_law_494 dL_law_495 ?_
    refine J_cellq hX3 hP3 hK3 hE.cell 2 hq2 rfl rfl (by omega) hN dL_law_496 dL_law_497 dL_law_499 dL_law_500 dL_law_501 ?_
    refine J_cellq hX3 hP3 hK3 hE.cell 3 hq3 rfl rfl (by omega) hN dL_law_502 dL_law_503 dL_law_505 dL_law_506 dL_law_507 ?_
    refine J_cellq hX3 hP3 hK3 hE.cell 4 hq4 rfl rfl (by omega) hN dL_law_508 dL_law_509 dL_law_511 dL_law_512 dL_law_513 ?_
    refine J_callVM hX3 _ dL_law_514 cw_RL_121 (m_X10_move (T := T) (S := stg M (x + 3)) hI.1.2.1 hI.rs (WF_iS.mp hI.wf) hi1 hi2 hi3 hi4 hI.h3) ⟨hI.1.2.1.k0, by decide, by decide, rfl⟩ rfl (Nat.le_of_ble_eq_true rfl) ⟨by decide, by decide⟩ ⟨by omega, by omega⟩ (fun r8 M2 q => ?_)
    obtain ⟨hI2, h6, h8⟩ := inv_chno hI hS q (fun e => hcd.2 (hcd.1.symm.trans e)) (i32_eq hcd.1 hk32)
    rw [h8]
    refine J_tail hX3 tl_move hI2.1.2.1 (h6.trans hcd.1) hk32 (by decide) hI2.1.2.2.1.1 (fun e => absurd e hcd.2) (by decide) ⟨by omega, by omega⟩ ?_
    exact J_loc (LL x r o i) rfl (J_widen (by omega) (by omega) (J_JP hP3 hK3 (hsm3 _ _ _ _ _ _ _ (k1 n K M2 (Inv_mo hI2 (by omega) hT)))))
  · rw [hr9]
    have hK9 := kept_K hI.1 hS hkept
    have hfr : ∀ i, i < x + 3 ∨ x + 18 < i → Mc i = M9 i := fun i hi => by rw [hMc]; unfold movM; (repeat rw [mset_ne (by omega)])
    have hreg : ∀ i, r ≤ i → i < r + 12 → M1 i = M i := fun i h1 h2 => by rw [hM1, mset_ne (by omega), hfr i (by omega), hkept.2.2.2.2.1 i (by omega) (by omega) (by omega) (by omega)]
    have hst : stg M9 (x + 3) = stg M (x + 3) := stg_eq (fun k hk => hkept.stage k hk)
    have hSS : stg Mc (x + 3) = mset (mset (mset (stg M (x + 3)) 4 q1 q2) 5 q1 q3) 6 q1 q4 := by rw [hMc, ← hst]; exact stg_mov
    have hc9 := cdm_0 hf
    have hWS := WFS_mov (n := q1) (WF_iS.mp hI.wf) hc9.2
    refine JP_in hX hl (fun X3 hX3 hl3 hP3 hK3 hsm3 => ?_)
    refine J_istore hX3 dL_law_487 (by decide) ?_
    refine J_loc (LLk x r o i 0) rfl ?_
    refine J_aload_n hX3 dL_law_489 rfl ?_
    refine J_cellq hX3 hP3 hK3 hE.cell 1 hq1 rfl rfl (by omega) hN dL_law_490 dL_law_491 dL_law_493 dL_law_494 dL_law_495 ?_
    refine J_cellq hX3 hP3 hK3 hE.cell 2 hq2 rfl rfl (by omega) hN dL_law_496 dL_law_497 dL_law_499 dL_law_500 dL_law_501 ?_
    refine J_cellq hX3 hP3 hK3 hE.cell 3 hq3 rfl rfl (by omega) hN dL_law_502 dL_law_503 dL_law_505 dL_law_506 dL_law_507 ?_
    refine J_cellq hX3 hP3 hK3 hE.cell 4 hq4 rfl rfl (by omega) hN dL_law_508 dL_law_509 dL_law_511 dL_law_512 dL_law_513 ?_
    refine J_callVM hX3 _ dL_law_514 cw_RL_121 (m_X10_move (T := T) (S := stg M (x + 3)) hK9.2.1 (by rw [hreg (r + 1) (by omega) (by omega)]; exact hI.rs) (WF_iS.mp hI.wf) hi1 hi2 hi3 hi4 (by rw [hreg r (by omega) (by omega)]; exact hI.h3)) ⟨hK9.2.1.k0, by decide, by decide, rfl⟩ rfl (Nat.le_of_ble_eq_true rfl) ⟨by decide, by decide⟩ ⟨by omega, by omega⟩ (fun r8 M2 q => ?_)
    rw [hM1] at q
    obtain ⟨⟨n2, hI2⟩, ho, h6, h8⟩ := inv_ch (T2 := T) hI hS (by omega) hkept hfr (WF_iS.mpr (by rw [hSS]; exact hWS)) hSS q ((cd_m (k := 0)).2 hf)
    have h8b : r8 = some (vI v) := h8.trans hval.symm
    rw [h8b]
    refine J_tail hX3 tl_move hI2.1.2.1 h6 (by decide) hv hI2.1.2.2.1.1 (fun _ => ho) (by decide) ⟨by omega, by omega⟩ ?_
    exact J_loc (LL x r o i) rfl (J_widen (by omega) (by omega) (J_JP hP3 hK3 (hsm3 _ _ _ _ _ _ _ (k1 n2 K1 M2 (Inv_mo hI2 (by omega) hT)))))
theorem tl_setShade : TL 585 (1398) := ⟨⟨dL_law_585, dL_law_587, dL_law_588, dL_law_591, dL_law_593⟩, ⟨dL_law_598, dL_law_600, dL_law_603, dL_law_604, dL_law_605⟩, dL_law_606, dL_law_608, dL_law_609, dL_law_610, dL_law_615, by decide⟩
set_option maxHeartbeats 4000000 in
set_option maxRecDepth 100000 in
theorem lc_setShade {E : EE} {X : JX} {c0 s0 a b n N x r o : Nat} {T i : Int} {sc : Int → Int} {K : Nat → Nat} {M : MM} (hX : XO E X cL_law RL 9 12 c0 s0) (hl : XL X) (hE : LF E N sc) (hI : Inv n T K M x r o) (hS : Sep x r o) (hi : 0 ≤ i ∧ i + 7 ≤ N) (hN : N < 1000000) (hT : T + 30200 ≤ 1000000000) (hab : a + 20 ≤ c0 ∧ b + 260 ≤ s0)
    (k1 : ∀ n2 K2 M2, Inv n2 (T + 30200) K2 M2 x r o → JP E X 2013 (LL x r o i) [] K2 M2 (a + 20) (b + 260)) : JP E X 550 (LL x r o i) [] K M a b := by
  obtain ⟨e1, e2, e3⟩ := id hS
  obtain ⟨q1, hq1⟩ : ∃ q, sc (i + 1) = q := ⟨_, rfl⟩
  have hi1 : i32 q1 := hq1 ▸ hE.rg _
  obtain ⟨q2, hq2⟩ : ∃ q, sc (i + 2) = q := ⟨_, rfl⟩
  have hi2 : i32 q2 := hq2 ▸ hE.rg _
  refine JP_in hX hl (fun X2 hX2 hl2 hP2 hK2 hsm2 => ?_)
  refine J_aload_n hX2 dL_law_550 rfl ?_
  refine J_cellq hX2 hP2 hK2 hE.cell 1 hq1 rfl rfl (by omega) hN dL_law_551 dL_law_552 dL_law_554 dL_law_555 dL_law_556 ?_
  refine J_cellq hX2 hP2 hK2 hE.cell 2 hq2 rfl rfl (by omega) hN dL_law_557 dL_law_558 dL_law_560 dL_law_561 dL_law_562 ?_
  refine J_aload_n hX2 dL_law_563 rfl ?_
  refine J_callHP hX2 hl2 hP2 hK2 [] dL_law_564 cwL_setShade (m_L_setShade hE.th hI.1.1 hI.wf hI.2.1 hI.2.2.1 hi1 hi2 hI.1.2.2.1.1) rfl (Nat.le_of_ble_eq_true rfl) ⟨by decide, by decide⟩ ⟨by omega, by omega⟩ (lvs_LL hI hS) trivial (fun _ _ _ h => wr_ch hI hS (fun M1 Mc h i hi => by rw [h]; (repeat rw [mset_ne (by omega)])) h) (fun r9 K1 M1 h => hsm2 _ _ _ _ _ _ _ ?_)
  rcases h with ⟨k, hk, hr9, hKK, hM1⟩ | ⟨hr9, v, hv, Mc, ⟨hf, hval, M9, hkept, hMc⟩, hM1⟩
  · rw [hr9, hKK, hM1]
    have hcd := cd_m.1 hk
    have hk32 : i32 k := XKc_32 hk (by decide) (by decide) (by decide)
    refine JP_in hX hl (fun X3 hX3 hl3 hP3 hK3 hsm3 => ?_)
    refine J_istore hX3 dL_law_567 (by decide) ?_
    refine J_loc (LLk x r o i k) rfl ?_
    refine J_aload_n hX3 dL_law_569 rfl ?_
    refine J_cellq hX3 hP3 hK3 hE.cell 1 hq1 rfl rfl (by omega) hN dL_law_570 dL_law_571 dL_law_573 dL_law_574 dL_law_575 ?_
    refine J_cellq hX3 hP3 hK3 hE.cell 2 hq2 rfl rfl (by omega) hN dL_law_576 dL_law_577 dL_law_579 dL_law_580 dL_law_581 ?_
    refine J_callVM hX3 _ dL_law_582 cw_RL_124 (m_X10_setShade (T := T) (S := stg M (x + 3)) hI.1.2.1 hI.rs (WF_iS.mp hI.wf) hi1 hi2 hI.h3) ⟨hI.1.2.1.k0, by decide, by decide, rfl⟩ rfl (Nat.le_of_ble_eq_true rfl) ⟨by decide, by decide⟩ ⟨by omega, by omega⟩ (fun r8 M2 q => ?_)
    obtain ⟨hI2, h6, h8⟩ := inv_chno hI hS q (fun e => hcd.2 (hcd.1.symm.trans e)) (i32_eq hcd.1 hk32)
    rw [h8]
    refine J_tail hX3 tl_setShade hI2.1.2.1 (h6.trans hcd.1) hk32 (by decide) hI2.1.2.2.1.1 (fun e => absurd e hcd.2) (by decide) ⟨by omega, by omega⟩ ?_
    exact J_loc (LL x r o i) rfl (J_widen (by omega) (by omega) (J_JP hP3 hK3 (hsm3 _ _ _ _ _ _ _ (k1 n K M2 (Inv_mo hI2 (by omega) hT)))))
  · rw [hr9]
    have hK9 := kept_K hI.1 hS hkept
    have hfr : ∀ i, i < x + 3 ∨ x + 18 < i → Mc i = M9 i := fun i hi => by rw [hMc]; (repeat rw [mset_ne (by omega)])
    have hreg : ∀ i, r ≤ i → i < r + 12 → M1 i = M i := fun i h1 h2 => by rw [hM1, mset_ne (by omega), hfr i (by omega), hkept.2.2.2.2.1 i (by omega) (by omega) (by omega) (by omega)]
    have hst : stg M9 (x + 3) = stg M (x + 3) := stg_eq (fun k hk => hkept.stage k hk)
    have hSS : stg Mc (x + 3) = mset (stg M (x + 3)) 9 q1 q2 := by rw [hMc, ← hst]; exact stg_mset (k := 9) (by decide)
    have hc9 := cdm_0 hf
    have hWS := WFS_col (n := q1) (WF_iS.mp hI.wf) hc9.2.2
    refine JP_in hX hl (fun X3 hX3 hl3 hP3 hK3 hsm3 => ?_)
    refine J_istore hX3 dL_law_567 (by decide) ?_
    refine J_loc (LLk x r o i 0) rfl ?_
    refine J_aload_n hX3 dL_law_569 rfl ?_
    refine J_cellq hX3 hP3 hK3 hE.cell 1 hq1 rfl rfl (by omega) hN dL_law_570 dL_law_571 dL_law_573 dL_law_574 dL_law_575 ?_
    refine J_cellq hX3 hP3 hK3 hE.cell 2 hq2 rfl rfl (by omega) hN dL_law_576 dL_law_577 dL_law_579 dL_law_580 dL_law_581 ?_
    refine J_callVM hX3 _ dL_law_582 cw_RL_124 (m_X10_setShade (T := T) (S := stg M (x + 3)) hK9.2.1 (by rw [hreg (r + 1) (by omega) (by omega)]; exact hI.rs) (WF_iS.mp hI.wf) hi1 hi2 (by rw [hreg r (by omega) (by omega)]; exact hI.h3)) ⟨hK9.2.1.k0, by decide, by decide, rfl⟩ rfl (Nat.le_of_ble_eq_true rfl) ⟨by decide, by decide⟩ ⟨by omega, by omega⟩ (fun r8 M2 q => ?_)
    rw [hM1] at q
    obtain ⟨⟨n2, hI2⟩, ho, h6, h8⟩ := inv_ch (T2 := T) hI hS (by omega) hkept hfr (WF_iS.mpr (by rw [hSS]; exact hWS)) hSS q ((cd_m (k := 0)).2 hf)
    have h8b : r8 = some (vI v) := h8.trans hval.symm
    rw [h8b]
    refine J_tail hX3 tl_setShade hI2.1.2.1 h6 (by decide) hv hI2.1.2.2.1.1 (fun _ => ho) (by decide) ⟨by omega, by omega⟩ ?_
    exact J_loc (LL x r o i) rfl (J_widen (by omega) (by omega) (J_JP hP3 hK3 (hsm3 _ _ _ _ _ _ _ (k1 n2 K1 M2 (Inv_mo hI2 (by omega) hT)))))
theorem tl_removeNode : TL 641 (1342) := ⟨⟨dL_law_641, dL_law_643, dL_law_644, dL_law_647, dL_law_649⟩, ⟨dL_law_654, dL_law_656, dL_law_659, dL_law_660, dL_law_661⟩, dL_law_662, dL_law_664, dL_law_665, dL_law_666, dL_law_671, by decide⟩
set_option maxHeartbeats 4000000 in
set_option maxRecDepth 100000 in
theorem lc_removeNode {E : EE} {X : JX} {c0 s0 a b n N x r o : Nat} {T i : Int} {sc : Int → Int} {K : Nat → Nat} {M : MM} (hX : XO E X cL_law RL 9 12 c0 s0) (hl : XL X) (hE : LF E N sc) (hI : Inv n T K M x r o) (hS : Sep x r o) (hi : 0 ≤ i ∧ i + 7 ≤ N) (hN : N < 1000000) (hT : T + 30200 ≤ 1000000000) (hab : a + 20 ≤ c0 ∧ b + 260 ≤ s0)
    (k1 : ∀ n2 K2 M2, Inv n2 (T + 30200) K2 M2 x r o → JP E X 2013 (LL x r o i) [] K2 M2 (a + 20) (b + 260)) : JP E X 618 (LL x r o i) [] K M a b := by
  obtain ⟨e1, e2, e3⟩ := id hS
  obtain ⟨q1, hq1⟩ : ∃ q, sc (i + 1) = q := ⟨_, rfl⟩
  have hi1 : i32 q1 := hq1 ▸ hE.rg _
  refine JP_in hX hl (fun X2 hX2 hl2 hP2 hK2 hsm2 => ?_)
  refine J_aload_n hX2 dL_law_618 rfl ?_
  refine J_cellq hX2 hP2 hK2 hE.cell 1 hq1 rfl rfl (by omega) hN dL_law_619 dL_law_620 dL_law_622 dL_law_623 dL_law_624 ?_
  refine J_aload_n hX2 dL_law_625 rfl ?_
  refine J_callHP hX2 hl2 hP2 hK2 [] dL_law_626 cwL_removeNode (m_L_removeNode hE.th hI.1.1 hI.wf hI.2.1 hI.2.2.1 hi1 hI.1.2.2.1.1) rfl (Nat.le_of_ble_eq_true rfl) ⟨by decide, by decide⟩ ⟨by omega, by omega⟩ (lvs_LL hI hS) trivial (fun _ _ _ h => wr_ch hI hS (fun M1 Mc h i hi => h.2 i (by omega)) h) (fun r9 K1 M1 h => hsm2 _ _ _ _ _ _ _ ?_)
  rcases h with ⟨k, hk, hr9, hKK, hM1⟩ | ⟨hr9, v, hv, Mc, ⟨hf, hval, M9, hkept, hMc⟩, hM1⟩
  · rw [hr9, hKK, hM1]
    have hcd := cd_i.1 hk
    have hk32 : i32 k := XKc_32 hk (by decide) (by decide) (by decide)
    refine JP_in hX hl (fun X3 hX3 hl3 hP3 hK3 hsm3 => ?_)
    refine J_istore hX3 dL_law_629 (by decide) ?_
    refine J_loc (LLk x r o i k) rfl ?_
    refine J_aload_n hX3 dL_law_631 rfl ?_
    refine J_cellq hX3 hP3 hK3 hE.cell 1 hq1 rfl rfl (by omega) hN dL_law_632 dL_law_633 dL_law_635 dL_law_636 dL_law_637 ?_
    refine J_callVM hX3 _ dL_law_638 cw_RL_128 (m_X10_removeNode2 (T := T) (S := stg M (x + 3)) hI.1.2.1 hI.rs (WF_iS.mp hI.wf) hi1 hI.h3) ⟨hI.1.2.1.k0, by decide, by decide, rfl⟩ rfl (Nat.le_of_ble_eq_true rfl) ⟨by decide, by decide⟩ ⟨by omega, by omega⟩ (fun r8 M2 q => ?_)
    obtain ⟨hI2, h6, h8⟩ := inv_chno hI hS (q (fun _ _ => 0) (fun z => absurd z (ifn_0 hcd.2 hcd.1))) (fun e => hcd.2 (hcd.1.symm.trans e)) (i32_eq hcd.1 hk32)
    rw [h8]
    refine J_tail hX3 tl_removeNode hI2.1.2.1 (h6.trans hcd.1) hk32 (by decide) hI2.1.2.2.1.1 (fun e => absurd e hcd.2) (by decide) ⟨by omega, by omega⟩ ?_
    exact J_loc (LL x r o i) rfl (J_widen (by omega) (by omega) (J_JP hP3 hK3 (hsm3 _ _ _ _ _ _ _ (k1 n K M2 (Inv_mo hI2 (by omega) hT)))))
  · rw [hr9]
    have hK9 := kept_K hI.1 hS hkept
    have hfr : ∀ i, i < x + 3 ∨ x + 18 < i → Mc i = M9 i := fun i hi => hMc.2 i (by omega)
    have hreg : ∀ i, r ≤ i → i < r + 12 → M1 i = M i := fun i h1 h2 => by rw [hM1, mset_ne (by omega), hfr i (by omega), hkept.2.2.2.2.1 i (by omega) (by omega) (by omega) (by omega)]
    have hst : stg M9 (x + 3) = stg M (x + 3) := stg_eq (fun k hk => hkept.stage k hk)
    have hSS : stg Mc (x + 3) = stg Mc (x + 3) := rfl
    have hWS := WFS_drop (WF_iS.mp hI.wf) hMc.1
    refine JP_in hX hl (fun X3 hX3 hl3 hP3 hK3 hsm3 => ?_)
    refine J_istore hX3 dL_law_629 (by decide) ?_
    refine J_loc (LLk x r o i 0) rfl ?_
    refine J_aload_n hX3 dL_law_631 rfl ?_
    refine J_cellq hX3 hP3 hK3 hE.cell 1 hq1 rfl rfl (by omega) hN dL_law_632 dL_law_633 dL_law_635 dL_law_636 dL_law_637 ?_
    refine J_callVM hX3 _ dL_law_638 cw_RL_128 (m_X10_removeNode2 (T := T) (S := stg M (x + 3)) hK9.2.1 (by rw [hreg (r + 1) (by omega) (by omega)]; exact hI.rs) (WF_iS.mp hI.wf) hi1 (by rw [hreg r (by omega) (by omega)]; exact hI.h3)) ⟨hK9.2.1.k0, by decide, by decide, rfl⟩ rfl (Nat.le_of_ble_eq_true rfl) ⟨by decide, by decide⟩ ⟨by omega, by omega⟩ (fun r8 M2 q => ?_)
    have q := q (stg Mc (x + 3)) (fun _ => hMc.1)
    rw [hM1] at q
    obtain ⟨⟨n2, hI2⟩, ho, h6, h8⟩ := inv_ch (T2 := T) hI hS (by omega) hkept hfr (WF_iS.mpr (by rw [hSS]; exact hWS)) hSS q ((cd_i (k := 0)).2 hf)
    have h8b : r8 = some (vI v) := h8.trans hval.symm
    rw [h8b]
    refine J_tail hX3 tl_removeNode hI2.1.2.1 h6 (by decide) hv hI2.1.2.2.1.1 (fun _ => ho) (by decide) ⟨by omega, by omega⟩ ?_
    exact J_loc (LL x r o i) rfl (J_widen (by omega) (by omega) (J_JP hP3 hK3 (hsm3 _ _ _ _ _ _ _ (k1 n2 K1 M2 (Inv_mo hI2 (by omega) hT)))))
theorem tl_addScene : TL 721 (1262) := ⟨⟨dL_law_721, dL_law_723, dL_law_724, dL_law_727, dL_law_729⟩, ⟨dL_law_734, dL_law_736, dL_law_739, dL_law_740, dL_law_741⟩, dL_law_742, dL_law_744, dL_law_745, dL_law_746, dL_law_751, by decide⟩
set_option maxHeartbeats 4000000 in
set_option maxRecDepth 100000 in
theorem lc_addScene {E : EE} {X : JX} {c0 s0 a b n N x r o : Nat} {T i : Int} {sc : Int → Int} {K : Nat → Nat} {M : MM} (hX : XO E X cL_law RL 9 12 c0 s0) (hl : XL X) (hE : LF E N sc) (hI : Inv n T K M x r o) (hS : Sep x r o) (hi : 0 ≤ i ∧ i + 7 ≤ N) (hN : N < 1000000) (hT : T + 30200 ≤ 1000000000) (hab : a + 20 ≤ c0 ∧ b + 260 ≤ s0)
    (k1 : ∀ n2 K2 M2, Inv n2 (T + 30200) K2 M2 x r o → JP E X 2013 (LL x r o i) [] K2 M2 (a + 20) (b + 260)) : JP E X 674 (LL x r o i) [] K M a b := by
  obtain ⟨e1, e2, e3⟩ := id hS
  obtain ⟨q1, hq1⟩ : ∃ q, sc (i + 1) = q := ⟨_, rfl⟩
  have hi1 : i32 q1 := hq1 ▸ hE.rg _
  obtain ⟨q2, hq2⟩ : ∃ q, sc (i + 2) = q := ⟨_, rfl⟩
  have hi2 : i32 q2 := hq2 ▸ hE.rg _
  obtain ⟨q3, hq3⟩ : ∃ q, sc (i + 3) = q := ⟨_, rfl⟩
  have hi3 : i32 q3 := hq3 ▸ hE.rg _
  refine JP_in hX hl (fun X2 hX2 hl2 hP2 hK2 hsm2 => ?_)
  refine J_aload_n hX2 dL_law_674 rfl ?_
  refine J_cellq hX2 hP2 hK2 hE.cell 1 hq1 rfl rfl (by omega) hN dL_law_675 dL_law_676 dL_law_678 dL_law_679 dL_law_680 ?_
  refine J_cellq hX2 hP2 hK2 hE.cell 2 hq2 rfl rfl (by omega) hN dL_law_681 dL_law_682 dL_law_684 dL_law_685 dL_law_686 ?_
  refine J_cellq hX2 hP2 hK2 hE.cell 3 hq3 rfl rfl (by omega) hN dL_law_687 dL_law_688 dL_law_690 dL_law_691 dL_law_692 ?_
  refine J_aload_n hX2 dL_law_693 rfl ?_
  refine J_callHP hX2 hl2 hP2 hK2 [] dL_law_694 cwL_addScene (m_L_addScene hE.th hI.1.1 hI.wf hI.2.1 hI.2.2.1 hi1 hi2 hi3 hI.1.2.2.1.1) rfl (Nat.le_of_ble_eq_true rfl) ⟨by decide, by decide⟩ ⟨by omega, by omega⟩ (lvs_LL hI hS) trivial (fun _ _ _ h => wr_ch hI hS (fun M1 Mc h i hi => by rw [h]; unfold scM; (repeat rw [mset_ne (by omega)])) h) (fun r9 K1 M1 h => hsm2 _ _ _ _ _ _ _ ?_)
  rcases h with ⟨k, hk, hr9, hKK, hM1⟩ | ⟨hr9, v, hv, Mc, ⟨hf, hval, M9, hkept, hMc⟩, hM1⟩
  · rw [hr9, hKK, hM1]
    have hcd := cd_t.1 hk
    have hk32 : i32 k := XKc_32 hk (by decide) (by decide) (by decide)
    refine JP_in hX hl (fun X3 hX3 hl3 hP3 hK3 hsm3 => ?_)
    refine J_istore hX3 dL_law_697 (by decide) ?_
    refine J_loc (LLk x r o i k) rfl ?_
    refine J_aload_n hX3 dL_law_699 rfl ?_
    refine J_cellq hX3 hP3 hK3 hE.cell 1 hq1 rfl rfl (by omega) hN dL_law_700 dL_law_701 dL_law_703 dL_law_704 dL_law_705 ?_
    refine J_cellq hX3 hP3 hK3 hE.cell 2 hq2 rfl rfl (by omega) hN dL_law_706 dL_law_707 dL_law_709 dL_law_710 dL_law_711 ?_
    refine J_cellq hX3 hP3 hK3 hE.cell 3 hq3 rfl rfl (by omega) hN dL_law_712 dL_law_713 dL_law_715 dL_law_716 dL_law_717 ?_
    refine J_callVM hX3 _ dL_law_718 cw_RL_132 (m_X10_addScene (T := T) (S := stg M (x + 3)) hI.1.2.1 hI.rs (WF_iS.mp hI.wf) hi1 hi2 hi3 hI.h3) ⟨hI.1.2.1.k0, by decide, by decide, rfl⟩ rfl (Nat.le_of_ble_eq_true rfl) ⟨by decide, by decide⟩ ⟨by omega, by omega⟩ (fun r8 M2 q => ?_)
    obtain ⟨hI2, h6, h8⟩ := inv_chno hI hS q (fun e => hcd.2 (hcd.1.symm.trans e)) (i32_eq hcd.1 hk32)
    rw [h8]
    refine J_tail hX3 tl_addScene hI2.1.2.1 (h6.trans hcd.1) hk32 (by decide) hI2.1.2.2.1.1 (fun e => absurd e hcd.2) (by decide) ⟨by omega, by omega⟩ ?_
    exact J_loc (LL x r o i) rfl (J_widen (by omega) (by omega) (J_JP hP3 hK3 (hsm3 _ _ _ _ _ _ _ (k1 n K M2 (Inv_mo hI2 (by omega) hT)))))
  · rw [hr9]
    have hK9 := kept_K hI.1 hS hkept
    have hfr : ∀ i, i < x + 3 ∨ x + 18 < i → Mc i = M9 i := fun i hi => by rw [hMc]; unfold scM; (repeat rw [mset_ne (by omega)])
    have hreg : ∀ i, r ≤ i → i < r + 12 → M1 i = M i := fun i h1 h2 => by rw [hM1, mset_ne (by omega), hfr i (by omega), hkept.2.2.2.2.1 i (by omega) (by omega) (by omega) (by omega)]
    have hst : stg M9 (x + 3) = stg M (x + 3) := stg_eq (fun k hk => hkept.stage k hk)
    have hSS : stg Mc (x + 3) = scS (stg M (x + 3)) q1 q2 q3 := by rw [hMc, ← hst]; exact stg_sc
    have hc9 := cdt_0 hf
    have hWS := WFS_sc (WF_iS.mp hI.wf) (Int.not_le.mp hc9.2) hc9.1.1 hc9.1.2
    refine JP_in hX hl (fun X3 hX3 hl3 hP3 hK3 hsm3 => ?_)
    refine J_istore hX3 dL_law_697 (by decide) ?_
    refine J_loc (LLk x r o i 0) rfl ?_
    refine J_aload_n hX3 dL_law_699 rfl ?_
    refine J_cellq hX3 hP3 hK3 hE.cell 1 hq1 rfl rfl (by omega) hN dL_law_700 dL_law_701 dL_law_703 dL_law_704 dL_law_705 ?_
    refine J_cellq hX3 hP3 hK3 hE.cell 2 hq2 rfl rfl (by omega) hN dL_law_706 dL_law_707 dL_law_709 dL_law_710 dL_law_711 ?_
    refine J_cellq hX3 hP3 hK3 hE.cell 3 hq3 rfl rfl (by omega) hN dL_law_712 dL_law_713 dL_law_715 dL_law_716 dL_law_717 ?_
    refine J_callVM hX3 _ dL_law_718 cw_RL_132 (m_X10_addScene (T := T) (S := stg M (x + 3)) hK9.2.1 (by rw [hreg (r + 1) (by omega) (by omega)]; exact hI.rs) (WF_iS.mp hI.wf) hi1 hi2 hi3 (by rw [hreg r (by omega) (by omega)]; exact hI.h3)) ⟨hK9.2.1.k0, by decide, by decide, rfl⟩ rfl (Nat.le_of_ble_eq_true rfl) ⟨by decide, by decide⟩ ⟨by omega, by omega⟩ (fun r8 M2 q => ?_)
    rw [hM1] at q
    obtain ⟨⟨n2, hI2⟩, ho, h6, h8⟩ := inv_ch (T2 := T) hI hS (by omega) hkept hfr (WF_iS.mpr (by rw [hSS]; exact hWS)) hSS q ((cd_t (k := 0)).2 hf)
    have h8b : r8 = some (vI v) := h8.trans hval.symm
    rw [h8b]
    refine J_tail hX3 tl_addScene hI2.1.2.1 h6 (by decide) hv hI2.1.2.2.1.1 (fun _ => ho) (by decide) ⟨by omega, by omega⟩ ?_
    exact J_loc (LL x r o i) rfl (J_widen (by omega) (by omega) (J_JP hP3 hK3 (hsm3 _ _ _ _ _ _ _ (k1 n2 K1 M2 (Inv_mo hI2 (by omega) hT)))))
theorem tl_set : TL 789 (1194) := ⟨⟨dL_law_789, dL_law_791, dL_law_792, dL_law_795, dL_law_797⟩, ⟨dL_law_802, dL_law_804, dL_law_807, dL_law_808, dL_law_809⟩, dL_law_810, dL_law_812, dL_law_813, dL_law_814, dL_law_819, by decide⟩
set_option maxHeartbeats 4000000 in
set_option maxRecDepth 100000 in
theorem lc_set {E : EE} {X : JX} {c0 s0 a b n N x r o : Nat} {T i : Int} {sc : Int → Int} {K : Nat → Nat} {M : MM} (hX : XO E X cL_law RL 9 12 c0 s0) (hl : XL X) (hE : LF E N sc) (hI : Inv n T K M x r o) (hS : Sep x r o) (hi : 0 ≤ i ∧ i + 7 ≤ N) (hN : N < 1000000) (hT : T + 30200 ≤ 1000000000) (hab : a + 20 ≤ c0 ∧ b + 260 ≤ s0)
    (k1 : ∀ n2 K2 M2, Inv n2 (T + 30200) K2 M2 x r o → JP E X 2013 (LL x r o i) [] K2 M2 (a + 20) (b + 260)) : JP E X 754 (LL x r o i) [] K M a b := by
  obtain ⟨e1, e2, e3⟩ := id hS
  obtain ⟨q1, hq1⟩ : ∃ q, sc (i + 1) = q := ⟨_, rfl⟩
  have hi1 : i32 q1 := hq1 ▸ hE.rg _
  obtain ⟨q2, hq2⟩ : ∃ q, sc (i + 2) = q := ⟨_, rfl⟩
  have hi2 : i32 q2 := hq2 ▸ hE.rg _
  refine JP_in hX hl (fun X2 hX2 hl2 hP2 hK2 hsm2 => ?_)
  refine J_aload_n hX2 dL_law_754 rfl ?_
  refine J_cellq hX2 hP2 hK2 hE.cell 1 hq1 rfl rfl (by omega) hN dL_law_755 dL_law_756 dL_law_758 dL_law_759 dL_law_760 ?_
  refine J_cellq hX2 hP2 hK2 hE.cell 2 hq2 rfl rfl (by omega) hN dL_law_761 dL_law_762 dL_law_764 dL_law_765 dL_law_766 ?_
  refine J_aload_n hX2 dL_law_767 rfl ?_
  refine J_callHP hX2 hl2 hP2 hK2 [] dL_law_768 cwL_set (m_L_set hE.th hI.1.1 hI.wf hI.2.1 hI.2.2.1 hi1 hi2 hE.cf (fun i9 h9 => hI.1.2.2.2 i9 (by omega)) hI.1.2.2.1.1) rfl (Nat.le_of_ble_eq_true rfl) ⟨by decide, by decide⟩ ⟨by omega, by omega⟩ (lvs_LL hI hS) trivial (fun _ _ _ h => wr_ch hI hS (fun M1 Mc h i hi => by rw [h]; (repeat rw [mset_ne (by omega)])) h) (fun r9 K1 M1 h => hsm2 _ _ _ _ _ _ _ ?_)
  rcases h with ⟨k, hk, hr9, hKK, hM1⟩ | ⟨hr9, v, hv, Mc, ⟨hf, hval, M9, hkept, hMc⟩, hM1⟩
  · rw [hr9, hKK, hM1]
    have hcd := cd_a.1 hk
    have hk32 : i32 k := XKc_32 hk (by decide) (by decide) (by decide)
    refine JP_in hX hl (fun X3 hX3 hl3 hP3 hK3 hsm3 => ?_)
    refine J_istore hX3 dL_law_771 (by decide) ?_
    refine J_loc (LLk x r o i k) rfl ?_
    refine J_aload_n hX3 dL_law_773 rfl ?_
    refine J_cellq hX3 hP3 hK3 hE.cell 1 hq1 rfl rfl (by omega) hN dL_law_774 dL_law_775 dL_law_777 dL_law_778 dL_law_779 ?_
    refine J_cellq hX3 hP3 hK3 hE.cell 2 hq2 rfl rfl (by omega) hN dL_law_780 dL_law_781 dL_law_783 dL_law_784 dL_law_785 ?_
    refine J_callVM hX3 _ dL_law_786 cw_RL_135 (m_X10_set (T := T) (S := stg M (x + 3)) hI.1.2.1 hI.rs (WF_iS.mp hI.wf) hi1 hi2 hI.h3) ⟨hI.1.2.1.k0, by decide, by decide, rfl⟩ rfl (Nat.le_of_ble_eq_true rfl) ⟨by decide, by decide⟩ ⟨by omega, by omega⟩ (fun r8 M2 q => ?_)
    obtain ⟨hI2, h6, h8⟩ := inv_chno hI hS q (fun e => hcd.2 (hcd.1.symm.trans e)) (i32_eq hcd.1 hk32)
    rw [h8]
    refine J_tail hX3 tl_set hI2.1.2.1 (h6.trans hcd.1) hk32 (by decide) hI2.1.2.2.1.1 (fun e => absurd e hcd.2) (by decide) ⟨by omega, by omega⟩ ?_
    exact J_loc (LL x r o i) rfl (J_widen (by omega) (by omega) (J_JP hP3 hK3 (hsm3 _ _ _ _ _ _ _ (k1 n K M2 (Inv_mo hI2 (by omega) hT)))))
  · rw [hr9]
    have hK9 := kept_K hI.1 hS hkept
    have hfr : ∀ i, i < x + 3 ∨ x + 18 < i → Mc i = M9 i := fun i hi => by rw [hMc]; (repeat rw [mset_ne (by omega)])
    have hreg : ∀ i, r ≤ i → i < r + 12 → M1 i = M i := fun i h1 h2 => by rw [hM1, mset_ne (by omega), hfr i (by omega), hkept.2.2.2.2.1 i (by omega) (by omega) (by omega) (by omega)]
    have hst : stg M9 (x + 3) = stg M (x + 3) := stg_eq (fun k hk => hkept.stage k hk)
    have hSS : stg Mc (x + 3) = mset (stg M (x + 3)) 15 q1 q2 := by rw [hMc, ← hst]; exact stg_mset (k := 15) (by decide)
    have hc9 := if_0 (by decide) hf
    have hWS := WFS_set (WF_iS.mp hI.wf) hc9
    refine JP_in hX hl (fun X3 hX3 hl3 hP3 hK3 hsm3 => ?_)
    refine J_istore hX3 dL_law_771 (by decide) ?_
    refine J_loc (LLk x r o i 0) rfl ?_
    refine J_aload_n hX3 dL_law_773 rfl ?_
    refine J_cellq hX3 hP3 hK3 hE.cell 1 hq1 rfl rfl (by omega) hN dL_law_774 dL_law_775 dL_law_777 dL_law_778 dL_law_779 ?_
    refine J_cellq hX3 hP3 hK3 hE.cell 2 hq2 rfl rfl (by omega) hN dL_law_780 dL_law_781 dL_law_783 dL_law_784 dL_law_785 ?_
    refine J_callVM hX3 _ dL_law_786 cw_RL_135 (m_X10_set (T := T) (S := stg M (x + 3)) hK9.2.1 (by rw [hreg (r + 1) (by omega) (by omega)]; exact hI.rs) (WF_iS.mp hI.wf) hi1 hi2 (by rw [hreg r (by omega) (by omega)]; exact hI.h3)) ⟨hK9.2.1.k0, by decide, by decide, rfl⟩ rfl (Nat.le_of_ble_eq_true rfl) ⟨by decide, by decide⟩ ⟨by omega, by omega⟩ (fun r8 M2 q => ?_)
    rw [hM1] at q
    obtain ⟨⟨n2, hI2⟩, ho, h6, h8⟩ := inv_ch (T2 := T) hI hS (by omega) hkept hfr (WF_iS.mpr (by rw [hSS]; exact hWS)) hSS q ((cd_a (k := 0)).2 hf)
    have h8b : r8 = some (vI v) := h8.trans hval.symm
    rw [h8b]
    refine J_tail hX3 tl_set hI2.1.2.1 h6 (by decide) hv hI2.1.2.2.1.1 (fun _ => ho) (by decide) ⟨by omega, by omega⟩ ?_
    exact J_loc (LL x r o i) rfl (J_widen (by omega) (by omega) (J_JP hP3 hK3 (hsm3 _ _ _ _ _ _ _ (k1 n2 K1 M2 (Inv_mo hI2 (by omega) hT)))))
theorem tl_setTitle : TL 869 (1114) := ⟨⟨dL_law_869, dL_law_871, dL_law_872, dL_law_875, dL_law_877⟩, ⟨dL_law_882, dL_law_884, dL_law_887, dL_law_888, dL_law_889⟩, dL_law_890, dL_law_892, dL_law_893, dL_law_894, dL_law_899, by decide⟩
set_option maxHeartbeats 4000000 in
set_option maxRecDepth 100000 in
theorem lc_setTitle {E : EE} {X : JX} {c0 s0 a b n N x r o : Nat} {T i : Int} {sc : Int → Int} {K : Nat → Nat} {M : MM} (hX : XO E X cL_law RL 9 12 c0 s0) (hl : XL X) (hE : LF E N sc) (hI : Inv n T K M x r o) (hS : Sep x r o) (hi : 0 ≤ i ∧ i + 7 ≤ N) (hN : N < 1000000) (hT : T + 30200 ≤ 1000000000) (hab : a + 20 ≤ c0 ∧ b + 260 ≤ s0)
    (k1 : ∀ n2 K2 M2, Inv n2 (T + 30200) K2 M2 x r o → JP E X 2013 (LL x r o i) [] K2 M2 (a + 20) (b + 260)) : JP E X 822 (LL x r o i) [] K M a b := by
  obtain ⟨e1, e2, e3⟩ := id hS
  obtain ⟨q1, hq1⟩ : ∃ q, sc (i + 1) = q := ⟨_, rfl⟩
  have hi1 : i32 q1 := hq1 ▸ hE.rg _
  obtain ⟨q2, hq2⟩ : ∃ q, sc (i + 2) = q := ⟨_, rfl⟩
  have hi2 : i32 q2 := hq2 ▸ hE.rg _
  obtain ⟨q3, hq3⟩ : ∃ q, sc (i + 3) = q := ⟨_, rfl⟩
  have hi3 : i32 q3 := hq3 ▸ hE.rg _
  refine JP_in hX hl (fun X2 hX2 hl2 hP2 hK2 hsm2 => ?_)
  refine J_aload_n hX2 dL_law_822 rfl ?_
  refine J_cellq hX2 hP2 hK2 hE.cell 1 hq1 rfl rfl (by omega) hN dL_law_823 dL_law_824 dL_law_826 dL_law_827 dL_law_828 ?_
  refine J_cellq hX2 hP2 hK2 hE.cell 2 hq2 rfl rfl (by omega) hN dL_law_829 dL_law_830 dL_law_832 dL_law_833 dL_law_834 ?_
  refine J_cellq hX2 hP2 hK2 hE.cell 3 hq3 rfl rfl (by omega) hN dL_law_835 dL_law_836 dL_law_838 dL_law_839 dL_law_840 ?_
  refine J_aload_n hX2 dL_law_841 rfl ?_
  refine J_callHP hX2 hl2 hP2 hK2 [] dL_law_842 cwL_setTitle (m_L_setTitle hE.th hI.1.1 hI.wf hI.2.1 hI.2.2.1 hi1 hi2 hi3 hI.1.2.2.1.1) rfl (Nat.le_of_ble_eq_true rfl) ⟨by decide, by decide⟩ ⟨by omega, by omega⟩ (lvs_LL hI hS) trivial (fun _ _ _ h => wr_ch hI hS (fun M1 Mc h i hi => by rw [h]; unfold entM; (repeat rw [mset_ne (by omega)])) h) (fun r9 K1 M1 h => hsm2 _ _ _ _ _ _ _ ?_)
  rcases h with ⟨k, hk, hr9, hKK, hM1⟩ | ⟨hr9, v, hv, Mc, ⟨hf, hval, M9, hkept, hMc⟩, hM1⟩
  · rw [hr9, hKK, hM1]
    have hcd := cd_a.1 hk
    have hk32 : i32 k := XKc_32 hk (by decide) (by decide) (by decide)
    refine JP_in hX hl (fun X3 hX3 hl3 hP3 hK3 hsm3 => ?_)
    refine J_istore hX3 dL_law_845 (by decide) ?_
    refine J_loc (LLk x r o i k) rfl ?_
    refine J_aload_n hX3 dL_law_847 rfl ?_
    refine J_cellq hX3 hP3 hK3 hE.cell 1 hq1 rfl rfl (by omega) hN dL_law_848 dL_law_849 dL_law_851 dL_law_852 dL_law_853 ?_
    refine J_cellq hX3 hP3 hK3 hE.cell 2 hq2 rfl rfl (by omega) hN dL_law_854 dL_law_855 dL_law_857 dL_law_858 dL_law_859 ?_
    refine J_cellq hX3 hP3 hK3 hE.cell 3 hq3 rfl rfl (by omega) hN dL_law_860 dL_law_861 dL_law_863 dL_law_864 dL_law_865 ?_
    refine J_callVM hX3 _ dL_law_866 cw_RL_138 (m_X10_setTitle (T := T) (S := stg M (x + 3)) hI.1.2.1 hI.rs (WF_iS.mp hI.wf) hi1 hi2 hi3 hI.h3) ⟨hI.1.2.1.k0, by decide, by decide, rfl⟩ rfl (Nat.le_of_ble_eq_true rfl) ⟨by decide, by decide⟩ ⟨by omega, by omega⟩ (fun r8 M2 q => ?_)
    obtain ⟨hI2, h6, h8⟩ := inv_chno hI hS q (fun e => hcd.2 (hcd.1.symm.trans e)) (i32_eq hcd.1 hk32)
    rw [h8]
    refine J_tail hX3 tl_setTitle hI2.1.2.1 (h6.trans hcd.1) hk32 (by decide) hI2.1.2.2.1.1 (fun e => absurd e hcd.2) (by decide) ⟨by omega, by omega⟩ ?_
    exact J_loc (LL x r o i) rfl (J_widen (by omega) (by omega) (J_JP hP3 hK3 (hsm3 _ _ _ _ _ _ _ (k1 n K M2 (Inv_mo hI2 (by omega) hT)))))
  · rw [hr9]
    have hK9 := kept_K hI.1 hS hkept
    have hfr : ∀ i, i < x + 3 ∨ x + 18 < i → Mc i = M9 i := fun i hi => by rw [hMc]; unfold entM; (repeat rw [mset_ne (by omega)])
    have hreg : ∀ i, r ≤ i → i < r + 12 → M1 i = M i := fun i h1 h2 => by rw [hM1, mset_ne (by omega), hfr i (by omega), hkept.2.2.2.2.1 i (by omega) (by omega) (by omega) (by omega)]
    have hst : stg M9 (x + 3) = stg M (x + 3) := stg_eq (fun k hk => hkept.stage k hk)
    have hSS : stg Mc (x + 3) = mset (mset (mset (stg M (x + 3)) 0 5 q1) 0 6 q2) 0 7 q3 := by rw [hMc, ← hst]; exact stg_ent
    have hc9 := if_0 (by decide) hf
    have hWS := WFS_tit (WF_iS.mp hI.wf) ⟨hc9.1.1.1, Int.lt_of_le_sub_one hc9.1.1.2⟩ ⟨hc9.1.2.1, Int.lt_of_le_sub_one hc9.1.2.2⟩ ⟨Int.le_trans (by decide) hc9.2.1, hc9.2.2⟩
    refine JP_in hX hl (fun X3 hX3 hl3 hP3 hK3 hsm3 => ?_)
    refine J_istore hX3 dL_law_845 (by decide) ?_
    refine J_loc (LLk x r o i 0) rfl ?_
    refine J_aload_n hX3 dL_law_847 rfl ?_
    refine J_cellq hX3 hP3 hK3 hE.cell 1 hq1 rfl rfl (by omega) hN dL_law_848 dL_law_849 dL_law_851 dL_law_852 dL_law_853 ?_
    refine J_cellq hX3 hP3 hK3 hE.cell 2 hq2 rfl rfl (by omega) hN dL_law_854 dL_law_855 dL_law_857 dL_law_858 dL_law_859 ?_
    refine J_cellq hX3 hP3 hK3 hE.cell 3 hq3 rfl rfl (by omega) hN dL_law_860 dL_law_861 dL_law_863 dL_law_864 dL_law_865 ?_
    refine J_callVM hX3 _ dL_law_866 cw_RL_138 (m_X10_setTitle (T := T) (S := stg M (x + 3)) hK9.2.1 (by rw [hreg (r + 1) (by omega) (by omega)]; exact hI.rs) (WF_iS.mp hI.wf) hi1 hi2 hi3 (by rw [hreg r (by omega) (by omega)]; exact hI.h3)) ⟨hK9.2.1.k0, by decide, by decide, rfl⟩ rfl (Nat.le_of_ble_eq_true rfl) ⟨by decide, by decide⟩ ⟨by omega, by omega⟩ (fun r8 M2 q => ?_)
    rw [hM1] at q
    obtain ⟨⟨n2, hI2⟩, ho, h6, h8⟩ := inv_ch (T2 := T) hI hS (by omega) hkept hfr (WF_iS.mpr (by rw [hSS]; exact hWS)) hSS q ((cd_a (k := 0)).2 hf)
    have h8b : r8 = some (vI v) := h8.trans hval.symm
    rw [h8b]
    refine J_tail hX3 tl_setTitle hI2.1.2.1 h6 (by decide) hv hI2.1.2.2.1.1 (fun _ => ho) (by decide) ⟨by omega, by omega⟩ ?_
    exact J_loc (LL x r o i) rfl (J_widen (by omega) (by omega) (J_JP hP3 hK3 (hsm3 _ _ _ _ _ _ _ (k1 n2 K1 M2 (Inv_mo hI2 (by omega) hT)))))
theorem tl_tick : TL 938 (1045) := ⟨⟨dL_law_938, dL_law_940, dL_law_941, dL_law_944, dL_law_946⟩, ⟨dL_law_951, dL_law_953, dL_law_956, dL_law_957, dL_law_958⟩, dL_law_959, dL_law_961, dL_law_962, dL_law_963, dL_law_968, by decide⟩
set_option maxHeartbeats 4000000 in
set_option maxRecDepth 100000 in
theorem lc_tick {E : EE} {X : JX} {c0 s0 a b n N x r o : Nat} {T i : Int} {sc : Int → Int} {K : Nat → Nat} {M : MM} (hX : XO E X cL_law RL 9 12 c0 s0) (hl : XL X) (hE : LF E N sc) (hI : Inv n T K M x r o) (hS : Sep x r o) (hi : 0 ≤ i ∧ i + 7 ≤ N) (hN : N < 1000000) (hT : T + 30200 ≤ 1000000000) (hab : a + 20 ≤ c0 ∧ b + 260 ≤ s0)
    (k1 : ∀ n2 K2 M2, Inv n2 (T + 30200) K2 M2 x r o → JP E X 2013 (LL x r o i) [] K2 M2 (a + 20) (b + 260)) : JP E X 915 (LL x r o i) [] K M a b := by
  obtain ⟨e1, e2, e3⟩ := id hS
  obtain ⟨q1, hq1⟩ : ∃ q, sc (i + 1) = q := ⟨_, rfl⟩
  have hi1 : i32 q1 := hq1 ▸ hE.rg _
  refine JP_in hX hl (fun X2 hX2 hl2 hP2 hK2 hsm2 => ?_)
  refine J_aload_n hX2 dL_law_915 rfl ?_
  refine J_cellq hX2 hP2 hK2 hE.cell 1 hq1 rfl rfl (by omega) hN dL_law_916 dL_law_917 dL_law_919 dL_law_920 dL_law_921 ?_
  refine J_aload_n hX2 dL_law_922 rfl ?_
  refine J_callHP hX2 hl2 hP2 hK2 [] dL_law_923 cwL_tick (m_L_tick hE.th hI.1.1 hI.wf hI.2.1 hI.2.2.1 hi1 (by omega) hI.1.2.2.1.1) rfl (Nat.le_of_ble_eq_true rfl) ⟨by decide, by decide⟩ ⟨by omega, by omega⟩ (lvs_LL hI hS) trivial (fun _ _ _ h => wr_ch hI hS (fun M1 Mc h i hi => by rw [h]; exact tkN_out (by omega) _) h) (fun r9 K1 M1 h => hsm2 _ _ _ _ _ _ _ ?_)
  rcases h with ⟨k, hk, hr9, hKK, hM1⟩ | ⟨hr9, v, hv, Mc, ⟨hf, hval, M9, hkept, hMc⟩, hM1⟩
  · rw [hr9, hKK, hM1]
    have hcd := cd_a.1 hk
    have hk32 : i32 k := XKc_32 hk (by decide) (by decide) (by decide)
    refine JP_in hX hl (fun X3 hX3 hl3 hP3 hK3 hsm3 => ?_)
    refine J_istore hX3 dL_law_926 (by decide) ?_
    refine J_loc (LLk x r o i k) rfl ?_
    refine J_aload_n hX3 dL_law_928 rfl ?_
    refine J_cellq hX3 hP3 hK3 hE.cell 1 hq1 rfl rfl (by omega) hN dL_law_929 dL_law_930 dL_law_932 dL_law_933 dL_law_934 ?_
    refine J_callVM hX3 _ dL_law_935 cw_RL_145 (m_X10_tick (T := T) (S := stg M (x + 3)) hI.1.2.1 hI.rs (WF_iS.mp hI.wf) hi1 (by omega) (fun k9 h9 => stg_hi h9) hI.h3) ⟨hI.1.2.1.k0, by decide, by decide, rfl⟩ rfl (Nat.le_of_ble_eq_true rfl) ⟨by decide, by decide⟩ ⟨by omega, by omega⟩ (fun r8 M2 q => ?_)
    obtain ⟨hI2, h6, h8⟩ := inv_chno hI hS q (fun e => hcd.2 (hcd.1.symm.trans e)) (i32_eq hcd.1 hk32)
    rw [h8]
    refine J_tail hX3 tl_tick hI2.1.2.1 (h6.trans hcd.1) hk32 (by decide) hI2.1.2.2.1.1 (fun e => absurd e hcd.2) (by decide) ⟨by omega, by omega⟩ ?_
    exact J_loc (LL x r o i) rfl (J_widen (by omega) (by omega) (J_JP hP3 hK3 (hsm3 _ _ _ _ _ _ _ (k1 n K M2 (Inv_mo hI2 (by omega) hT)))))
  · rw [hr9]
    have hK9 := kept_K hI.1 hS hkept
    have hfr : ∀ i, i < x + 3 ∨ x + 18 < i → Mc i = M9 i := fun i hi => by rw [hMc]; exact tkN_out (by omega) _
    have hreg : ∀ i, r ≤ i → i < r + 12 → M1 i = M i := fun i h1 h2 => by rw [hM1, mset_ne (by omega), hfr i (by omega), hkept.2.2.2.2.1 i (by omega) (by omega) (by omega) (by omega)]
    have hst : stg M9 (x + 3) = stg M (x + 3) := stg_eq (fun k hk => hkept.stage k hk)
    have hc9 := if_0 (by decide) hf
    have e15 : M9 (x + 1 + 2 + 15) 1 = M (x + 1 + 2 + 15) 1 := congrFun (hkept.stage 15 (by decide)) 1
    have hW9 : WF T M9 (x + 3) := WF_fr hst hI.wf
    have hSS : stg Mc (x + 3) = tkSn q1.toNat (stg M (x + 3)) := by rw [hMc, ← e15, ← hst]; exact tkN_S hW9 q1.toNat (by omega)
    have hWS : WFS (T + (q1.toNat : Int)) (tkSn q1.toNat (stg M (x + 3))) := WFS_tkSn (WF_iS.mp hI.wf) (fun k h => stg_hi h) q1.toNat (by omega)
    have e11 : Mc (x + 1 + 2 + 11) 1 = tkSn q1.toNat (stg M (x + 3)) 11 1 := congrFun (congrFun hSS 11) 1
    rw [e11] at hval
    refine JP_in hX hl (fun X3 hX3 hl3 hP3 hK3 hsm3 => ?_)
    refine J_istore hX3 dL_law_926 (by decide) ?_
    refine J_loc (LLk x r o i 0) rfl ?_
    refine J_aload_n hX3 dL_law_928 rfl ?_
    refine J_cellq hX3 hP3 hK3 hE.cell 1 hq1 rfl rfl (by omega) hN dL_law_929 dL_law_930 dL_law_932 dL_law_933 dL_law_934 ?_
    refine J_callVM hX3 _ dL_law_935 cw_RL_145 (m_X10_tick (T := T) (S := stg M (x + 3)) hK9.2.1 (by rw [hreg (r + 1) (by omega) (by omega)]; exact hI.rs) (WF_iS.mp hI.wf) hi1 (by omega) (fun k9 h9 => stg_hi h9) (by rw [hreg r (by omega) (by omega)]; exact hI.h3)) ⟨hK9.2.1.k0, by decide, by decide, rfl⟩ rfl (Nat.le_of_ble_eq_true rfl) ⟨by decide, by decide⟩ ⟨by omega, by omega⟩ (fun r8 M2 q => ?_)
    rw [hM1] at q
    obtain ⟨⟨n2, hI2⟩, ho, h6, h8⟩ := inv_ch (T2 := T + (q1.toNat : Int)) hI hS (by omega) hkept hfr (WF_iS.mpr (by rw [hSS]; exact hWS)) hSS q ((cd_a (k := 0)).2 hf)
    have h8b : r8 = some (vI v) := h8.trans hval.symm
    rw [h8b]
    refine J_tail hX3 tl_tick hI2.1.2.1 h6 (by decide) hv hI2.1.2.2.1.1 (fun _ => ho) (by decide) ⟨by omega, by omega⟩ ?_
    exact J_loc (LL x r o i) rfl (J_widen (by omega) (by omega) (J_JP hP3 hK3 (hsm3 _ _ _ _ _ _ _ (k1 n2 K1 M2 (Inv_mo hI2 (by omega) hT)))))
