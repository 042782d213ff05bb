/-! the reference: means and digests -/
-- X10_meanGhost
set_option maxHeartbeats 4000000 in
set_option maxRecDepth 100000 in
theorem m_X10_meanGhost {E : EE} {K : Nat → Nat} {M : MM} {r : Nat} {T : Int} {S : MM} {row : Int} (hM : ModelK K r) (hR : RS S (M (r + 1))) (hW : WFS T S) (hrow : i32 row) : CnM E 7 yX10_meanGhost cX10_meanGhost 4 (Option.some FieldType.double) [.ref r, vI row] K M (fun r9 M2 => M2 r 6 = (if 0 ≤ row ∧ row ≤ S 0 4 - 1 then 0 else 1) ∧ ((if 0 ≤ row ∧ row ≤ S 0 4 - 1 then 0 else 1) ≠ (0 : Int) ∧ (∃ u, r9 = some (.double u)) ∨ (if 0 ≤ row ∧ row ≤ S 0 4 - 1 then 0 else 1) = (0 : Int) ∧ r9 = some (.double (dd (gsum S row) (S 0 3)))) ∧ (∀ i, i = r + 3 ∨ i = r + 4 ∨ i < r ∨ r + 11 < i → M2 i = M i) ∧ (∀ j : Int, 0 ≤ j → j < 198 → M2 (r + 1) j = M (r + 1) j) ∧ ∀ j, j = 3 ∨ j = 5 → M2 r j = M r j) := by
  obtain ⟨⟨rs0, rs1, rs2, rs3, rs4, rs5, rs6, rs7, rs8, rs9, rs10, rs13⟩, rst, rsn, rsc⟩ := id hR
  have hs9 := hW.2.1
  unfold WFSs at hs9
  refine Cn_of RX10 (plainFor_of_name (by decide)) rfl (Nat.le_of_ble_eq_true rfl) (fun X hX hQ => ?_)
  refine J_aload_n hX dX10_meanGhost_0 rfl ?_
  refine J_iload_n hX dX10_meanGhost_1 rfl ?_
  refine J_iconst hX dX10_meanGhost_2 ?_
  refine J_aload_n hX dX10_meanGhost_3 rfl ?_
  refine J_gr hX (r + 1) fr_RX10_7 dX10_meanGhost_4 (show K (r) = 9 from hM 0 (by decide)) rfl ?_
  refine J_iconst hX dX10_meanGhost_7 ?_
  refine J_iald hX dX10_meanGhost_8 (show K (r + 1) = 1000 + 198 from hM 1 (by decide)) ⟨by omega, by omega⟩ (by decide) (fun r8 => ?_)
  refine J_iconst hX dX10_meanGhost_9 ?_
  refine J_isub hX dX10_meanGhost_10 ?_
  refine J_callSB hX _ dX10_meanGhost_11 cw_RX10_58 (m_X10_in (by omega) (by omega) (by omega)) rfl (Nat.le_of_ble_eq_true rfl) (by decide) ⟨Nat.zero_le _, Nat.zero_le _⟩ ?_
  refine J_ifb_eq hX 21 dX10_meanGhost_14 (by decide) (fun c14 => ?_) (fun c14 => ?_)
  · refine J_iconst hX dX10_meanGhost_21 ?_
    refine J_putA hX fw_RX10_47 dX10_meanGhost_22 (show K (r) = 9 from hM 0 (by decide)) (by omega) (Or.inl rfl) (fun m22 hm22 => ?_)
    have fm22 : ∀ i, i ≠ r → m22 i = M i := fun i h => by rw [hm22]; exact mset_ne h
    have gm22 : ∀ i j, j ≠ 6 → m22 i j = M i j := fun i j h => by rw [hm22]; exact mset_nj h
    have vm22 := (congrFun (congrFun hm22 (r)) 6).trans mset_eq
    have hRm : RS S (m22 (r + 1)) := by rw [fm22 _ (by omega)]; exact hR
    have ec : m22 r 6 = (if 0 ≤ row ∧ row ≤ S 0 4 - 1 then 0 else 1) := vm22.trans (by (repeat' split) <;> omega)
    refine J_aload_n hX dX10_meanGhost_25 rfl ?_
    refine J_geti hX fi_RX10_47 dX10_meanGhost_26 (show K (r) = 9 from hM 0 (by decide)) (fun r26 => ?_)
    refine J_if_eq hX 34 dX10_meanGhost_29 (by omega) (by decide) (fun c29 => ?_) (fun c29 => ?_)
    · have ez : (if 0 ≤ row ∧ row ≤ S 0 4 - 1 then 0 else 1) = (0 : Int) := by rw [← ec]; assumption
      have g1 := if_0 (by decide) ez
      refine J_aload_n hX dX10_meanGhost_34 rfl ?_
      refine J_callVM hX _ dX10_meanGhost_35 cw_RX10_235 (m_X10_survey hM hRm hW) ⟨(show K (r) = 9 from hM 0 (by decide)), by decide, by decide, rfl⟩ rfl (Nat.le_of_ble_eq_true rfl) (by decide) ⟨Nat.zero_le _, Nat.zero_le _⟩ (fun r9 M35 q35 => ?_)
      obtain ⟨rfl, frM35, grM35, svM35⟩ := q35
      have hRs : RS S (M35 (r + 1)) := by rw [frM35 _ (by omega) (by omega)]; exact hRm
      have w0 : M35 (r + 1) 0 = S 0 3 := hRs.1.1
      refine J_iconst hX dX10_meanGhost_38 ?_
      refine J_istore_n hX dX10_meanGhost_39 (by decide) ?_
      refine J_iconst hX dX10_meanGhost_40 ?_
      refine J_istore_n hX dX10_meanGhost_41 (by decide) ?_
      have HL42 : ∀ k : Nat, k ≤ (S 0 3).toNat → ∀ (s : Int), (s = sm (fun c => ghs S c row) k) → J E X 42 [(0, .ref r), (1, vI row), (2, vI s), (3, vI (k : Int))] [] K M35 0 0 := by
        refine up_ind ((S 0 3).toNat) (fun k hk42 ih42 => ?_)
        intro s  hi42
        have smr := sm_ghs hW row k (by omega)
        refine J_iload_n hX dX10_meanGhost_42 rfl ?_
        refine J_aload_n hX dX10_meanGhost_43 rfl ?_
        refine J_gr hX (r + 1) fr_RX10_7 dX10_meanGhost_44 (show K (r) = 9 from hM 0 (by decide)) rfl ?_
        refine J_iconst hX dX10_meanGhost_47 ?_
        refine J_iald hX dX10_meanGhost_48 (show K (r + 1) = 1000 + 198 from hM 1 (by decide)) ⟨by omega, by omega⟩ (by decide) (fun r48 => ?_)
        refine J_icmp_ge hX 67 dX10_meanGhost_49 (by omega) (by omega) (by decide) (fun c49 => ?_) (fun c49 => ?_)
        · refine J_iload_n hX dX10_meanGhost_67 rfl ?_
          refine J_i2d hX dX10_meanGhost_68 ?_
          refine J_aload_n hX dX10_meanGhost_69 rfl ?_
          refine J_gr hX (r + 1) fr_RX10_7 dX10_meanGhost_70 (show K (r) = 9 from hM 0 (by decide)) rfl ?_
          refine J_iconst hX dX10_meanGhost_73 ?_
          refine J_iald hX dX10_meanGhost_74 (show K (r + 1) = 1000 + 198 from hM 1 (by decide)) ⟨by omega, by omega⟩ (by decide) (fun r74 => ?_)
          rw [w0]
          refine J_i2d hX dX10_meanGhost_75 ?_
          refine J_ddiv hX dX10_meanGhost_76 (by exact dd_n ⟨by omega, by omega⟩ ⟨by omega, by omega⟩) ?_
          exact J_dret hX hQ dX10_meanGhost_77 ⟨rfl, by first | exact ⟨ec, Or.inl ⟨by rw [← ec]; assumption, _, rfl⟩, fun i hi => fm22 i (by omega), fun j _ _ => congrFun (fm22 (r + 1) (by omega)) j, fun j hj => gm22 _ j (by omega)⟩ | exact ⟨by rw [grM35 6 (by omega)]; exact ec, Or.inr ⟨ez, by rw [hi42, show sm (fun c => ghs S c row) k = gsum S row by unfold gsum; rw [show (S 0 3).toNat = k by omega]]; rfl⟩, fun i hi => by rw [frM35 i (by omega) (by omega)]; exact fm22 i (by omega), fun j _ _ => by rw [frM35 _ (by omega) (by omega), fm22 _ (by omega)], fun j hj => by rw [grM35 j (by omega)]; exact gm22 _ j (by omega)⟩⟩ (Nat.zero_le _) (Nat.zero_le _)
        · have gr9 := ghs_rng hW (k : Int) row
          refine J_iload_n hX dX10_meanGhost_52 rfl ?_
          refine J_aload_n hX dX10_meanGhost_53 rfl ?_
          refine J_iload_n hX dX10_meanGhost_54 rfl ?_
          refine J_iload_n hX dX10_meanGhost_55 rfl ?_
          refine J_callVI hX _ dX10_meanGhost_56 cw_RX10_264 (m_X10_ghostOf hM hRs hW svM35 (by omega) (by omega)) ⟨(show K (r) = 9 from hM 0 (by decide)), by decide, by decide, rfl⟩ rfl (Nat.le_of_ble_eq_true rfl) (by decide) ⟨Nat.zero_le _, Nat.zero_le _⟩ (fun r56 => ?_)
          refine J_iadd hX dX10_meanGhost_59 ?_
          refine J_istore_n hX dX10_meanGhost_60 (by decide) ?_
          refine J_iinc hX dX10_meanGhost_61 rfl (by decide) ?_
          refine J_goto hX 42 dX10_meanGhost_64 (by decide) ?_
          exact J_locI (ih42 (k + 1) (by omega) (by omega) _ (by rw [hi42]; rfl)) rfl
      exact J_locI (HL42 0 (Nat.zero_le _) _ rfl) rfl
    · refine J_dconst0 hX dX10_meanGhost_32 ?_
      exact J_dret hX hQ dX10_meanGhost_33 ⟨rfl, by first | exact ⟨ec, Or.inl ⟨by rw [← ec]; assumption, _, rfl⟩, fun i hi => fm22 i (by omega), fun j _ _ => congrFun (fm22 (r + 1) (by omega)) j, fun j hj => gm22 _ j (by omega)⟩ | exact ⟨by rw [grM35 6 (by omega)]; exact ec, Or.inr ⟨ez, by rw [hi42, show sm (fun c => ghs S c row) k = gsum S row by unfold gsum; rw [show (S 0 3).toNat = k by omega]]; rfl⟩, fun i hi => by rw [frM35 i (by omega) (by omega)]; exact fm22 i (by omega), fun j _ _ => by rw [frM35 _ (by omega) (by omega), fm22 _ (by omega)], fun j hj => by rw [grM35 j (by omega)]; exact gm22 _ j (by omega)⟩⟩ (Nat.zero_le _) (Nat.zero_le _)
  · refine J_iconst hX dX10_meanGhost_17 ?_
    refine J_goto hX 22 dX10_meanGhost_18 (by decide) ?_
    refine J_putA hX fw_RX10_47 dX10_meanGhost_22 (show K (r) = 9 from hM 0 (by decide)) (by omega) (Or.inl rfl) (fun m22 hm22 => ?_)
    have fm22 : ∀ i, i ≠ r → m22 i = M i := fun i h => by rw [hm22]; exact mset_ne h
    have gm22 : ∀ i j, j ≠ 6 → m22 i j = M i j := fun i j h => by rw [hm22]; exact mset_nj h
    have vm22 := (congrFun (congrFun hm22 (r)) 6).trans mset_eq
    have hRm : RS S (m22 (r + 1)) := by rw [fm22 _ (by omega)]; exact hR
    have ec : m22 r 6 = (if 0 ≤ row ∧ row ≤ S 0 4 - 1 then 0 else 1) := vm22.trans (by (repeat' split) <;> omega)
    refine J_aload_n hX dX10_meanGhost_25 rfl ?_
    refine J_geti hX fi_RX10_47 dX10_meanGhost_26 (show K (r) = 9 from hM 0 (by decide)) (fun r26 => ?_)
    refine J_if_eq hX 34 dX10_meanGhost_29 (by omega) (by decide) (fun c29 => ?_) (fun c29 => ?_)
    · have ez : (if 0 ≤ row ∧ row ≤ S 0 4 - 1 then 0 else 1) = (0 : Int) := by rw [← ec]; assumption
      have g1 := if_0 (by decide) ez
      refine J_aload_n hX dX10_meanGhost_34 rfl ?_
      refine J_callVM hX _ dX10_meanGhost_35 cw_RX10_235 (m_X10_survey hM hRm hW) ⟨(show K (r) = 9 from hM 0 (by decide)), by decide, by decide, rfl⟩ rfl (Nat.le_of_ble_eq_true rfl) (by decide) ⟨Nat.zero_le _, Nat.zero_le _⟩ (fun r9 M35 q35 => ?_)
      obtain ⟨rfl, frM35, grM35, svM35⟩ := q35
      have hRs : RS S (M35 (r + 1)) := by rw [frM35 _ (by omega) (by omega)]; exact hRm
      have w0 : M35 (r + 1) 0 = S 0 3 := hRs.1.1
      refine J_iconst hX dX10_meanGhost_38 ?_
      refine J_istore_n hX dX10_meanGhost_39 (by decide) ?_
      refine J_iconst hX dX10_meanGhost_40 ?_
      refine J_istore_n hX dX10_meanGhost_41 (by decide) ?_
      have HL42 : ∀ k : Nat, k ≤ (S 0 3).toNat → ∀ (s : Int), (s = sm (fun c => ghs S c row) k) → J E X 42 [(0, .ref r), (1, vI row), (2, vI s), (3, vI (k : Int))] [] K M35 0 0 := by
        refine up_ind ((S 0 3).toNat) (fun k hk42 ih42 => ?_)
        intro s  hi42
        have smr := sm_ghs hW row k (by omega)
        refine J_iload_n hX dX10_meanGhost_42 rfl ?_
        refine J_aload_n hX dX10_meanGhost_43 rfl ?_
        refine J_gr hX (r + 1) fr_RX10_7 dX10_meanGhost_44 (show K (r) = 9 from hM 0 (by decide)) rfl ?_
        refine J_iconst hX dX10_meanGhost_47 ?_
        refine J_iald hX dX10_meanGhost_48 (show K (r + 1) = 1000 + 198 from hM 1 (by decide)) ⟨by omega, by omega⟩ (by decide) (fun r48 => ?_)
        refine J_icmp_ge hX 67 dX10_meanGhost_49 (by omega) (by omega) (by decide) (fun c49 => ?_) (fun c49 => ?_)
        · refine J_iload_n hX dX10_meanGhost_67 rfl ?_
          refine J_i2d hX dX10_meanGhost_68 ?_
          refine J_aload_n hX dX10_meanGhost_69 rfl ?_
          refine J_gr hX (r + 1) fr_RX10_7 dX10_meanGhost_70 (show K (r) = 9 from hM 0 (by decide)) rfl ?_
          refine J_iconst hX dX10_meanGhost_73 ?_
          refine J_iald hX dX10_meanGhost_74 (show K (r + 1) = 1000 + 198 from hM 1 (by decide)) ⟨by omega, by omega⟩ (by decide) (fun r74 => ?_)
          rw [w0]
          refine J_i2d hX dX10_meanGhost_75 ?_
          refine J_ddiv hX dX10_meanGhost_76 (by exact dd_n ⟨by omega, by omega⟩ ⟨by omega, by omega⟩) ?_
          exact J_dret hX hQ dX10_meanGhost_77 ⟨rfl, by first | exact ⟨ec, Or.inl ⟨by rw [← ec]; assumption, _, rfl⟩, fun i hi => fm22 i (by omega), fun j _ _ => congrFun (fm22 (r + 1) (by omega)) j, fun j hj => gm22 _ j (by omega)⟩ | exact ⟨by rw [grM35 6 (by omega)]; exact ec, Or.inr ⟨ez, by rw [hi42, show sm (fun c => ghs S c row) k = gsum S row by unfold gsum; rw [show (S 0 3).toNat = k by omega]]; rfl⟩, fun i hi => by rw [frM35 i (by omega) (by omega)]; exact fm22 i (by omega), fun j _ _ => by rw [frM35 _ (by omega) (by omega), fm22 _ (by omega)], fun j hj => by rw [grM35 j (by omega)]; exact gm22 _ j (by omega)⟩⟩ (Nat.zero_le _) (Nat.zero_le _)
        · have gr9 := ghs_rng hW (k : Int) row
          refine J_iload_n hX dX10_meanGhost_52 rfl ?_
          refine J_aload_n hX dX10_meanGhost_53 rfl ?_
          refine J_iload_n hX dX10_meanGhost_54 rfl ?_
          refine J_iload_n hX dX10_meanGhost_55 rfl ?_
          refine J_callVI hX _ dX10_meanGhost_56 cw_RX10_264 (m_X10_ghostOf hM hRs hW svM35 (by omega) (by omega)) ⟨(show K (r) = 9 from hM 0 (by decide)), by decide, by decide, rfl⟩ rfl (Nat.le_of_ble_eq_true rfl) (by decide) ⟨Nat.zero_le _, Nat.zero_le _⟩ (fun r56 => ?_)
          refine J_iadd hX dX10_meanGhost_59 ?_
          refine J_istore_n hX dX10_meanGhost_60 (by decide) ?_
          refine J_iinc hX dX10_meanGhost_61 rfl (by decide) ?_
          refine J_goto hX 42 dX10_meanGhost_64 (by decide) ?_
          exact J_locI (ih42 (k + 1) (by omega) (by omega) _ (by rw [hi42]; rfl)) rfl
      exact J_locI (HL42 0 (Nat.zero_le _) _ rfl) rfl
    · refine J_dconst0 hX dX10_meanGhost_32 ?_
      exact J_dret hX hQ dX10_meanGhost_33 ⟨rfl, by first | exact ⟨ec, Or.inl ⟨by rw [← ec]; assumption, _, rfl⟩, fun i hi => fm22 i (by omega), fun j _ _ => congrFun (fm22 (r + 1) (by omega)) j, fun j hj => gm22 _ j (by omega)⟩ | exact ⟨by rw [grM35 6 (by omega)]; exact ec, Or.inr ⟨ez, by rw [hi42, show sm (fun c => ghs S c row) k = gsum S row by unfold gsum; rw [show (S 0 3).toNat = k by omega]]; rfl⟩, fun i hi => by rw [frM35 i (by omega) (by omega)]; exact fm22 i (by omega), fun j _ _ => by rw [frM35 _ (by omega) (by omega), fm22 _ (by omega)], fun j hj => by rw [grM35 j (by omega)]; exact gm22 _ j (by omega)⟩⟩ (Nat.zero_le _) (Nat.zero_le _)
-- X10_mix
set_option maxHeartbeats 4000000 in
set_option maxRecDepth 100000 in
theorem m_X10_mix {E : EE} {K : Nat → Nat} {M : MM} {r : Nat} {v : Int} (hM : ModelK K r)  : CnM E 0 yX10_mix cX10_mix 3 none [.ref r, vL v] K M (fun r9 M2 => r9 = none ∧ M2 = mset M r 23 (31 * M r 23 + v)) := by
  refine Cn_of RX10 (plainFor_of_name (by decide)) rfl (Nat.le_of_ble_eq_true rfl) (fun X hX hQ => ?_)
  refine J_aload_n hX dX10_mix_0 rfl ?_
  refine J_ldc2 (x := 31) hX dX10_mix_1 kl_RX10_338 rfl ?_
  refine J_aload_n hX dX10_mix_4 rfl ?_
  refine J_getl hX fx_RX10_340 dX10_mix_5 (show K (r) = 9 from hM 0 (by decide)) ?_
  refine J_lmul hX dX10_mix_8 ?_
  refine J_lload_n hX dX10_mix_9 rfl ?_
  refine J_ladd hX dX10_mix_10 ?_
  refine J_putl hX fx_RX10_340 fw_hash dX10_mix_11 (show K (r) = 9 from hM 0 (by decide)) (fun m11 hm11 => ?_)
  have fm11 : ∀ i, i ≠ r → m11 i = M i := fun i h => by rw [hm11]; exact mset_ne h
  have gm11 : ∀ i j, j ≠ 23 → m11 i j = M i j := fun i j h => by rw [hm11]; exact mset_nj h
  have vm11 := (congrFun (congrFun hm11 (r)) 23).trans mset_eq
  exact J_vret hX hQ dX10_mix_14 ⟨rfl, by exact ⟨rfl, hm11⟩⟩ (Nat.zero_le _) (Nat.zero_le _)
-- X10_mixThings
set_option maxHeartbeats 4000000 in
set_option maxRecDepth 100000 in
theorem m_X10_mixThings {E : EE} {K : Nat → Nat} {M : MM} {r : Nat} {T : Int} {S : MM}  (hM : ModelK K r) (hR : RS S (M (r + 1))) (hW : WFS T S) (hSv : Sur M r S) : CnM E 6 yX10_mixThings cX10_mixThings 3 none [.ref r] K M (fun r9 M2 => r9 = none ∧ (∀ i, i ≠ r → M2 i = M i) ∧ (∀ j, j ≠ 23 → M2 r j = M r j) ∧ M2 r 23 = mixL (tvl S) 7 (mixR (scv S) 4 (S 11 0).toNat (mixR (nvl S) 16 (S 1 0).toNat (M r 23)))) := by
  obtain ⟨⟨rs0, rs1, rs2, rs3, rs4, rs5, rs6, rs7, rs8, rs9, rs10, rs13⟩, rst, rsn, rsc⟩ := id hR
  have hs9 := hW.2.1
  unfold WFSs at hs9
  refine Cn_of RX10 (plainFor_of_name (by decide)) rfl (Nat.le_of_ble_eq_true rfl) (fun X hX hQ => ?_)
  refine J_iconst hX dX10_mixThings_0 ?_
  refine J_istore_n hX dX10_mixThings_1 (by decide) ?_
  have HL2 : ∀ k1 : Nat, k1 ≤ (S 1 0).toNat → ∀ (M3 : MM), ((∀ i, i ≠ r → M3 i = M i) ∧ (∀ j, j ≠ 23 → M3 r j = M r j) ∧ M3 r 23 = mixR (nvl S) 16 k1 (M r 23)) → J E X 2 [(0, .ref r), (1, vI (k1 : Int))] [] K M3 0 0 := by
    refine up_ind ((S 1 0).toNat) (fun k1 hk2 ih2 => ?_)
    intro M3  hi2
    have hR3 : RS S (M3 (r + 1)) := by rw [hi2.1 _ (by omega)]; exact hR
    have hS3 := Sur_fr2 hSv hi2.1 hi2.2.1
    have w2 : M3 (r + 1) 2 = S 1 0 := by rw [hi2.1 _ (by omega)]; exact rs2
    refine J_iload_n hX dX10_mixThings_2 rfl ?_
    refine J_aload_n hX dX10_mixThings_3 rfl ?_
    refine J_gr hX (r + 1) fr_RX10_7 dX10_mixThings_4 (show K (r) = 9 from hM 0 (by decide)) rfl ?_
    refine J_iconst hX dX10_mixThings_7 ?_
    refine J_iald hX dX10_mixThings_8 (show K (r + 1) = 1000 + 198 from hM 1 (by decide)) ⟨by omega, by omega⟩ (by decide) (fun r8 => ?_)
    refine J_icmp_ge hX 43 dX10_mixThings_9 (by omega) (by omega) (by decide) (fun c9 => ?_) (fun c9 => ?_)
    · refine J_iconst hX dX10_mixThings_43 ?_
      refine J_istore_n hX dX10_mixThings_44 (by decide) ?_
      have HL45 : ∀ k3 : Nat, k3 ≤ (4 * S 11 0).toNat → ∀ (M3 : MM), ((∀ i, i ≠ r → M3 i = M i) ∧ (∀ j, j ≠ 23 → M3 r j = M r j) ∧ M3 r 23 = mixL (fun j => scv S (j / 4) (j % 4)) k3 (mixR (nvl S) 16 (S 1 0).toNat (M r 23))) → J E X 45 [(0, .ref r), (1, vI (k3 : Int))] [] K M3 0 0 := by
        refine up_ind ((4 * S 11 0).toNat) (fun k3 hk45 ih45 => ?_)
        intro M3  hi45
        have hR3 : RS S (M3 (r + 1)) := by rw [hi45.1 _ (by omega)]; exact hR
        have hS3 := Sur_fr2 hSv hi45.1 hi45.2.1
        have w3 : M3 (r + 1) 3 = S 11 0 := by rw [hi45.1 _ (by omega)]; exact rs3
        refine J_iload_n hX dX10_mixThings_45 rfl ?_
        refine J_iconst hX dX10_mixThings_46 ?_
        refine J_aload_n hX dX10_mixThings_47 rfl ?_
        refine J_gr hX (r + 1) fr_RX10_7 dX10_mixThings_48 (show K (r) = 9 from hM 0 (by decide)) rfl ?_
        refine J_iconst hX dX10_mixThings_51 ?_
        refine J_iald hX dX10_mixThings_52 (show K (r + 1) = 1000 + 198 from hM 1 (by decide)) ⟨by omega, by omega⟩ (by decide) (fun r52 => ?_)
        refine J_imul hX dX10_mixThings_53 ?_
        refine J_icmp_ge hX 78 dX10_mixThings_54 (by omega) (by omega) (by decide) (fun c54 => ?_) (fun c54 => ?_)
        · refine J_iconst hX dX10_mixThings_78 ?_
          refine J_istore_n hX dX10_mixThings_79 (by decide) ?_
          have HL80 : ∀ k4 : Nat, k4 ≤ 7 → ∀ (M3 : MM), ((∀ i, i ≠ r → M3 i = M i) ∧ (∀ j, j ≠ 23 → M3 r j = M r j) ∧ M3 r 23 = mixL (tvl S) k4 (mixR (scv S) 4 (S 11 0).toNat (mixR (nvl S) 16 (S 1 0).toNat (M r 23)))) → J E X 80 [(0, .ref r), (1, vI (k4 : Int))] [] K M3 0 0 := by
            refine up_ind (7) (fun k4 hk80 ih80 => ?_)
            intro M3  hi80
            have hR3 : RS S (M3 (r + 1)) := by rw [hi80.1 _ (by omega)]; exact hR
            have hS3 := Sur_fr2 hSv hi80.1 hi80.2.1
            refine J_iload_n hX dX10_mixThings_80 rfl ?_
            refine J_bipush hX dX10_mixThings_81 rfl ?_
            refine J_icmp_ge hX 102 dX10_mixThings_83 (by omega) (by decide) (by decide) (fun c83 => ?_) (fun c83 => ?_)
            · exact J_vret hX hQ dX10_mixThings_102 ⟨rfl, by exact ⟨rfl, hi80.1, hi80.2.1, by rw [hi80.2.2, show k4 = 7 by omega]⟩⟩ (Nat.zero_le _) (Nat.zero_le _)
            · refine J_aload_n hX dX10_mixThings_86 rfl ?_
              refine J_aload_n hX dX10_mixThings_87 rfl ?_
              refine J_iload_n hX dX10_mixThings_88 rfl ?_
              refine J_callVI hX _ dX10_mixThings_89 cw_RX10_244 (m_X10_titleOf hM hR3 hW (by omega) hS3) ⟨(show K (r) = 9 from hM 0 (by decide)), by decide, by decide, rfl⟩ rfl (Nat.le_of_ble_eq_true rfl) (by decide) ⟨Nat.zero_le _, Nat.zero_le _⟩ (fun r89 => ?_)
              refine J_i2l hX dX10_mixThings_92 (by omega) ?_
              refine J_callVM hX _ dX10_mixThings_93 cw_RX10_344 (m_X10_mix hM) ⟨(show K (r) = 9 from hM 0 (by decide)), by decide, by decide, rfl⟩ rfl (Nat.le_of_ble_eq_true rfl) (by decide) ⟨Nat.zero_le _, Nat.zero_le _⟩ (fun r9 M93 q93 => ?_)
              obtain ⟨rfl, hM93⟩ := q93
              have fM93 : ∀ i, i ≠ r → M93 i = M3 i := fun i h => by rw [hM93]; exact mset_ne h
              have gM93 : ∀ i j, j ≠ 23 → M93 i j = M3 i j := fun i j h => by rw [hM93]; exact mset_nj h
              have vM93 := (congrFun (congrFun hM93 r) 23).trans mset_eq
              refine J_iinc hX dX10_mixThings_96 rfl (by decide) ?_
              refine J_goto hX 80 dX10_mixThings_99 (by decide) ?_
              exact J_locI (ih80 (k4 + 1) (by omega) (by omega) _ ⟨fun i hi => by rw [fM93 i hi]; exact hi80.1 i hi, fun j hj => by rw [gM93 _ j hj]; exact hi80.2.1 j hj, by rw [vM93, hi80.2.2]; rfl⟩) rfl
          exact J_locI (HL80 0 (Nat.zero_le _) _ ⟨hi45.1, hi45.2.1, by rw [hi45.2.2, show k3 = 4 * (S 11 0).toNat + 0 by omega]; exact mixL_grid (f := scv S) (w := 4) (by decide) _ (S 11 0).toNat 0 (Nat.zero_le _)⟩) rfl
        · refine J_aload_n hX dX10_mixThings_57 rfl ?_
          have em0 := Int.emod_nonneg (k3 : Int) (show (4 : Int) ≠ 0 by decide)
          have em1 := Int.emod_lt_of_pos (k3 : Int) (show (0 : Int) < 4 by decide)
          have ed0 := Int.ediv_nonneg (a := (k3 : Int)) (b := 4) (by omega) (by decide)
          have et1 : (k3 : Int).tmod 4 = (k3 : Int) % 4 := Int.tmod_eq_emod_of_nonneg (by omega)
          have et2 : (k3 : Int).tdiv 4 = (k3 : Int) / 4 := Int.tdiv_eq_ediv_of_nonneg (by omega)
          refine J_aload_n hX dX10_mixThings_58 rfl ?_
          refine J_iload_n hX dX10_mixThings_59 rfl ?_
          refine J_iconst hX dX10_mixThings_60 ?_
          refine J_idiv hX dX10_mixThings_61 (by omega) ⟨by omega, by omega⟩ ?_
          refine J_iload_n hX dX10_mixThings_62 rfl ?_
          refine J_iconst hX dX10_mixThings_63 ?_
          refine J_irem hX dX10_mixThings_64 (by omega) ⟨by omega, by omega⟩ ?_
          rw [et1, et2]
          refine J_callVI hX _ dX10_mixThings_65 cw_RX10_241 (m_X10_sceneOf hM hR3 hW (by omega) (by omega)) ⟨(show K (r) = 9 from hM 0 (by decide)), by decide, by decide, rfl⟩ rfl (Nat.le_of_ble_eq_true rfl) (by decide) ⟨Nat.zero_le _, Nat.zero_le _⟩ (fun r65 => ?_)
          refine J_i2l hX dX10_mixThings_68 (by omega) ?_
          refine J_callVM hX _ dX10_mixThings_69 cw_RX10_344 (m_X10_mix hM) ⟨(show K (r) = 9 from hM 0 (by decide)), by decide, by decide, rfl⟩ rfl (Nat.le_of_ble_eq_true rfl) (by decide) ⟨Nat.zero_le _, Nat.zero_le _⟩ (fun r9 M69 q69 => ?_)
          obtain ⟨rfl, hM69⟩ := q69
          have fM69 : ∀ i, i ≠ r → M69 i = M3 i := fun i h => by rw [hM69]; exact mset_ne h
          have gM69 : ∀ i j, j ≠ 23 → M69 i j = M3 i j := fun i j h => by rw [hM69]; exact mset_nj h
          have vM69 := (congrFun (congrFun hM69 r) 23).trans mset_eq
          refine J_iinc hX dX10_mixThings_72 rfl (by decide) ?_
          refine J_goto hX 45 dX10_mixThings_75 (by decide) ?_
          exact J_locI (ih45 (k3 + 1) (by omega) (by omega) _ ⟨fun i hi => by rw [fM69 i hi]; exact hi45.1 i hi, fun j hj => by rw [gM69 _ j hj]; exact hi45.2.1 j hj, by rw [vM69, hi45.2.2]; rfl⟩) rfl
      exact J_locI (HL45 0 (Nat.zero_le _) _ ⟨hi2.1, hi2.2.1, by rw [hi2.2.2, show (S 1 0).toNat = k1 by omega]; rfl⟩) rfl
    · refine J_iconst hX dX10_mixThings_12 ?_
      refine J_istore_n hX dX10_mixThings_13 (by decide) ?_
      have HL14 : ∀ k2 : Nat, k2 ≤ 16 → ∀ (M3 : MM), ((∀ i, i ≠ r → M3 i = M i) ∧ (∀ j, j ≠ 23 → M3 r j = M r j) ∧ M3 r 23 = mixL (nvl S k1) k2 (mixR (nvl S) 16 k1 (M r 23))) → J E X 14 [(0, .ref r), (1, vI (k1 : Int)), (2, vI (k2 : Int))] [] K M3 0 0 := by
        refine up_ind (16) (fun k2 hk14 ih14 => ?_)
        intro M3  hi14
        have hR3 : RS S (M3 (r + 1)) := by rw [hi14.1 _ (by omega)]; exact hR
        have hS3 := Sur_fr2 hSv hi14.1 hi14.2.1
        refine J_iload_n hX dX10_mixThings_14 rfl ?_
        refine J_bipush hX dX10_mixThings_15 rfl ?_
        refine J_icmp_ge hX 37 dX10_mixThings_17 (by omega) (by decide) (by decide) (fun c17 => ?_) (fun c17 => ?_)
        · refine J_iinc hX dX10_mixThings_37 rfl (by decide) ?_
          refine J_goto hX 2 dX10_mixThings_40 (by decide) ?_
          exact J_locI (ih2 (k1 + 1) (by omega) (by omega) _ ⟨hi14.1, hi14.2.1, by rw [hi14.2.2, show k2 = 16 by omega]; rfl⟩) rfl
        · refine J_aload_n hX dX10_mixThings_20 rfl ?_
          refine J_aload_n hX dX10_mixThings_21 rfl ?_
          refine J_iload_n hX dX10_mixThings_22 rfl ?_
          refine J_iload_n hX dX10_mixThings_23 rfl ?_
          refine J_callVI hX _ dX10_mixThings_24 cw_RX10_238 (m_X10_nodeOf hM hR3 hW (show hs S (k1 : Int) by omega) (by omega) hS3.1) ⟨(show K (r) = 9 from hM 0 (by decide)), by decide, by decide, rfl⟩ rfl (Nat.le_of_ble_eq_true rfl) (by decide) ⟨Nat.zero_le _, Nat.zero_le _⟩ (fun r24 => ?_)
          refine J_i2l hX dX10_mixThings_27 (by omega) ?_
          refine J_callVM hX _ dX10_mixThings_28 cw_RX10_344 (m_X10_mix hM) ⟨(show K (r) = 9 from hM 0 (by decide)), by decide, by decide, rfl⟩ rfl (Nat.le_of_ble_eq_true rfl) (by decide) ⟨Nat.zero_le _, Nat.zero_le _⟩ (fun r9 M28 q28 => ?_)
          obtain ⟨rfl, hM28⟩ := q28
          have fM28 : ∀ i, i ≠ r → M28 i = M3 i := fun i h => by rw [hM28]; exact mset_ne h
          have gM28 : ∀ i j, j ≠ 23 → M28 i j = M3 i j := fun i j h => by rw [hM28]; exact mset_nj h
          have vM28 := (congrFun (congrFun hM28 r) 23).trans mset_eq
          refine J_iinc hX dX10_mixThings_31 rfl (by decide) ?_
          refine J_goto hX 14 dX10_mixThings_34 (by decide) ?_
          exact J_locI (ih14 (k2 + 1) (by omega) (by omega) _ ⟨fun i hi => by rw [fM28 i hi]; exact hi14.1 i hi, fun j hj => by rw [gM28 _ j hj]; exact hi14.2.1 j hj, by rw [vM28, hi14.2.2]; rfl⟩) rfl
      exact J_locI (HL14 0 (Nat.zero_le _) _ ⟨hi2.1, hi2.2.1, by rw [hi2.2.2]; rfl⟩) rfl
  exact J_locI (HL2 0 (Nat.zero_le _) _ ⟨fun _ _ => rfl, fun _ _ => rfl, rfl⟩) rfl
