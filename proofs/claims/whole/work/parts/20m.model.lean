def nowS (S : MM) : Int := if S 11 0 = 0 then -1000 else (prs (S 14) (S 11 1) ((S 11 0).toNat - 1) 0 : Nat)
theorem now_S {M : MM} {b : Nat} : now M b = nowS (stg M b) := rfl
theorem nowS_rng {T : Int} {S : MM} (hW : WFS T S) : i32 (nowS S) ∧ (S 11 0 ≠ 0 → 0 ≤ nowS S ∧ nowS S < S 11 0) ∧ (S 11 0 = 0 → nowS S = -1000) := by
  have hs := hW.2.1
  unfold WFSs at hs
  have h := prs_rng (S 14) (S 11 1) ((S 11 0).toNat - 1) 0
  unfold nowS
  refine ⟨by split <;> omega, fun q => ?_, fun q => if_pos q⟩
  rw [if_neg q]; omega
-- X10_sceneNow
set_option maxHeartbeats 4000000 in
set_option maxRecDepth 100000 in
theorem m_X10_sceneNow {E : EE} {K : Nat → Nat} {M : MM} {r : Nat} {T : Int} {S : MM}  (hM : ModelK K r) (hR : RS S (M (r + 1))) (hW : WFS T S)  : CnI E 0 yX10_sceneNow cX10_sceneNow 3 (Option.some FieldType.int) [.ref r] K M (nowS S) := by
  obtain ⟨⟨rs0, rs1, rs2, rs3, rs4, rs5, rs6, rs7, rs8, rs9, rs10, rs13⟩, rst, rsn, rsc⟩ := id hR
  have hs9 := hW.2.1
  unfold WFSs at hs9
  have hsm : ∀ k : Nat, (k : Int) ≤ S 11 0 → 0 ≤ sm (S 14) k ∧ sm (S 14) k ≤ 400 := fun k hk => by have h := sm_rng (f := S 14) (A := 50) (k := k) (fun j hj => by have := hW.2.2.2 (j : Int) (by omega) (by omega); omega); omega
  refine ⟨Cn_of RX10 (plainFor_of_name (by decide)) rfl (Nat.le_of_ble_eq_true rfl) (fun X hX hQ => ?_), (nowS_rng hW).1⟩
  refine J_iconst hX dX10_sceneNow_0 ?_
  refine J_istore_n hX dX10_sceneNow_1 (by decide) ?_
  refine J_iconst hX dX10_sceneNow_2 ?_
  refine J_istore_n hX dX10_sceneNow_3 (by decide) ?_
  have HL4 : ∀ k : Nat, k ≤ (S 11 0).toNat → ∀ (s : Int), (s = sm (S 14) k ∧ (S 11 0 ≠ 0 → prs (S 14) (S 11 1) ((S 11 0).toNat - 1) 0 = prs (S 14) (S 11 1) ((S 11 0).toNat - 1 - k) k) ∧ (S 11 0 ≠ 0 → (k : Int) < S 11 0)) → J E X 4 [(0, .ref r), (1, vI s), (2, vI (k : Int))] [] K M 0 0 := by
    refine up_ind ((S 11 0).toNat) (fun k hk4 ih4 => ?_)
    intro s  hi4
    have hr4 := hsm k (by omega)
    refine J_iload_n hX dX10_sceneNow_4 rfl ?_
    refine J_aload_n hX dX10_sceneNow_5 rfl ?_
    refine J_gr hX (r + 1) fr_RX10_7 dX10_sceneNow_6 (show K (r) = 9 from hM 0 (by decide)) rfl ?_
    refine J_iconst hX dX10_sceneNow_9 ?_
    refine J_iald hX dX10_sceneNow_10 (show K (r + 1) = 1000 + 198 from hM 1 (by decide)) ⟨by omega, by omega⟩ (by decide) (fun r10 => ?_)
    refine J_icmp_ge hX 61 dX10_sceneNow_11 (by omega) (by omega) (by decide) (fun c11 => ?_) (fun c11 => ?_)
    · refine J_sipush hX dX10_sceneNow_61 rfl ?_
      exact J_retI hX hQ dX10_sceneNow_64 (by first | (exfalso; omega) | (unfold nowS; rw [if_pos (by omega)]) | (unfold nowS; rw [if_neg (by omega), hi4.2.1 (by omega), prs_0 (by omega)]) | (unfold nowS; rw [if_neg (by omega), hi4.2.1 (by omega)]; by_cases e9 : (S 11 0).toNat - 1 - k = 0; (rw [prs_0 e9]); (rw [prs_t (m1 := (S 11 0).toNat - 1 - (k + 1)) (by omega) (by omega)]))) rfl rfl (Nat.zero_le _) (Nat.zero_le _)
    · have hw := hW.2.2.2 (k : Int) (by omega) (by omega)
      have qi := rsc (k : Int) (by omega) (by omega)
      refine J_iload_n hX dX10_sceneNow_14 rfl ?_
      refine J_aload_n hX dX10_sceneNow_15 rfl ?_
      refine J_gr hX (r + 1) fr_RX10_7 dX10_sceneNow_16 (show K (r) = 9 from hM 0 (by decide)) rfl ?_
      refine J_sipush hX dX10_sceneNow_19 rfl ?_
      refine J_iconst hX dX10_sceneNow_22 ?_
      refine J_iload_n hX dX10_sceneNow_23 rfl ?_
      refine J_imul hX dX10_sceneNow_24 ?_
      refine J_iadd hX dX10_sceneNow_25 ?_
      refine J_iconst hX dX10_sceneNow_26 ?_
      refine J_iadd hX dX10_sceneNow_27 ?_
      refine J_iald hX dX10_sceneNow_28 (show K (r + 1) = 1000 + 198 from hM 1 (by decide)) ⟨by omega, by omega⟩ (by decide) (fun r28 => ?_)
      refine J_iadd hX dX10_sceneNow_29 ?_
      refine J_istore_n hX dX10_sceneNow_30 (by decide) ?_
      refine J_aload_n hX dX10_sceneNow_31 rfl ?_
      refine J_gr hX (r + 1) fr_RX10_7 dX10_sceneNow_32 (show K (r) = 9 from hM 0 (by decide)) rfl ?_
      refine J_iconst hX dX10_sceneNow_35 ?_
      refine J_iald hX dX10_sceneNow_36 (show K (r + 1) = 1000 + 198 from hM 1 (by decide)) ⟨by omega, by omega⟩ (by decide) (fun r36 => ?_)
      refine J_iload_n hX dX10_sceneNow_37 rfl ?_
      refine J_icmp_lt hX 53 dX10_sceneNow_38 (by omega) (by omega) (by decide) (fun c38 => ?_) (fun c38 => ?_)
      · refine J_iload_n hX dX10_sceneNow_53 rfl ?_
        exact J_retI hX hQ dX10_sceneNow_54 (by first | (exfalso; omega) | (unfold nowS; rw [if_pos (by omega)]) | (unfold nowS; rw [if_neg (by omega), hi4.2.1 (by omega), prs_0 (by omega)]) | (unfold nowS; rw [if_neg (by omega), hi4.2.1 (by omega)]; by_cases e9 : (S 11 0).toNat - 1 - k = 0; (rw [prs_0 e9]); (rw [prs_t (m1 := (S 11 0).toNat - 1 - (k + 1)) (by omega) (by omega)]))) rfl rfl (Nat.zero_le _) (Nat.zero_le _)
      · refine J_iload_n hX dX10_sceneNow_41 rfl ?_
        refine J_aload_n hX dX10_sceneNow_42 rfl ?_
        refine J_gr hX (r + 1) fr_RX10_7 dX10_sceneNow_43 (show K (r) = 9 from hM 0 (by decide)) rfl ?_
        refine J_iconst hX dX10_sceneNow_46 ?_
        refine J_iald hX dX10_sceneNow_47 (show K (r + 1) = 1000 + 198 from hM 1 (by decide)) ⟨by omega, by omega⟩ (by decide) (fun r47 => ?_)
        refine J_iconst hX dX10_sceneNow_48 ?_
        refine J_isub hX dX10_sceneNow_49 ?_
        refine J_icmp_ne hX 55 dX10_sceneNow_50 (by omega) (by omega) (by decide) (fun c50 => ?_) (fun c50 => ?_)
        · refine J_iinc hX dX10_sceneNow_55 rfl (by decide) ?_
          refine J_goto hX 4 dX10_sceneNow_58 (by decide) ?_
          exact J_locI (ih4 (k + 1) (by omega) (by omega) _ ⟨by rw [hi4.1, qi.2.2]; rfl, fun h => by rw [hi4.2.1 h, prs_f (m1 := (S 11 0).toNat - 1 - (k + 1)) (by omega) (by omega)], fun _ => by omega⟩) rfl
        · refine J_iload_n hX dX10_sceneNow_53 rfl ?_
          exact J_retI hX hQ dX10_sceneNow_54 (by first | (exfalso; omega) | (unfold nowS; rw [if_pos (by omega)]) | (unfold nowS; rw [if_neg (by omega), hi4.2.1 (by omega), prs_0 (by omega)]) | (unfold nowS; rw [if_neg (by omega), hi4.2.1 (by omega)]; by_cases e9 : (S 11 0).toNat - 1 - k = 0; (rw [prs_0 e9]); (rw [prs_t (m1 := (S 11 0).toNat - 1 - (k + 1)) (by omega) (by omega)]))) rfl rfl (Nat.zero_le _) (Nat.zero_le _)
  exact J_locI (HL4 0 (Nat.zero_le _) _ ⟨rfl, fun _ => rfl, fun _ => by omega⟩) rfl
