-- X10_groupsAround
set_option maxHeartbeats 4000000 in
set_option maxRecDepth 100000 in
theorem m_X10_groupsAround {E : EE} {K : Nat → Nat} {M : MM} {r : Nat} {T : Int} {S : MM} {n : Int} (hM : ModelK K r) (hR : RS S (M (r + 1))) (hW : WFS T S) (hn : hs S n) : CnI E 1 yX10_groupsAround cX10_groupsAround 4 (Option.some FieldType.int) [.ref r, vI n] K M (S 3 n) := by
  obtain ⟨⟨rs0, rs1, rs2, rs3, rs4, rs5, rs6, rs7, rs8, rs9, rs10, rs13⟩, rst, rsn, rsc⟩ := id hR
  have hs9 := hW.2.1
  unfold WFSs at hs9
  have q := rsn n hn.1 hn.2.1
  have hwn := hW.2.2.1 n hn.1 hn.2.1
  have q0n : M (r + 1) (14 + 8 * n + 0) = S 2 n := by rw [Int.add_zero]; exact q.1
  refine ⟨Cn_of RX10 (plainFor_of_name (by decide)) rfl (Nat.le_of_ble_eq_true rfl) (fun X hX hQ => ?_), by have := hW.2.2.1 n hn.1 hn.2.1; omega⟩
  refine J_iconst hX dX10_groupsAround_0 ?_
  refine J_istore_n hX dX10_groupsAround_1 (by decide) ?_
  refine J_aload_n hX dX10_groupsAround_2 rfl ?_
  refine J_iload_n hX dX10_groupsAround_3 rfl ?_
  refine J_iconst hX dX10_groupsAround_4 ?_
  refine J_callVI hX _ dX10_groupsAround_5 cw_RX10_62 (m_X10_of hM (by omega) (by omega) (by omega)) ⟨(show K (r) = 9 from hM 0 (by decide)), by decide, by decide, rfl⟩ rfl (Nat.le_of_ble_eq_true rfl) (by decide) ⟨Nat.zero_le _, Nat.zero_le _⟩ (fun r5 => ?_)
  refine J_istore_n hX dX10_groupsAround_8 (by decide) ?_
  have HL9 : ∀ k : Nat, k ≤ 20 → ∀ (i s : Int), ((i = -1000 ∨ (0 ≤ i ∧ i < n - k ∧ i < S 1 0)) ∧ 0 ≤ s ∧ s ≤ k ∧ s + (if i = -1000 then 0 else S 3 i + 1) = S 3 n) → J E X 9 [(0, .ref r), (1, vI n), (2, vI s), (3, vI i)] [] K M 0 0 := by
    refine up_ind (20) (fun k hk9 ih9 => ?_)
    intro i s  hi9
    refine J_iload_n hX dX10_groupsAround_9 rfl ?_
    refine J_sipush hX dX10_groupsAround_10 rfl ?_
    refine J_icmp_eq hX 29 dX10_groupsAround_13 (by omega) (by decide) (by decide) (fun c13 => ?_) (fun c13 => ?_)
    · refine J_iload_n hX dX10_groupsAround_29 rfl ?_
      exact J_retI hX hQ dX10_groupsAround_30 (by have h9 := hi9.2.2.2; rw [if_pos (by assumption)] at h9; omega) rfl rfl (Nat.zero_le _) (Nat.zero_le _)
    · have hw := hW.2.2.1 i (by omega) (by omega)
      have qi := rsn i (by omega) (by omega)
      have q0 : M (r + 1) (14 + 8 * i + 0) = S 2 i := by rw [Int.add_zero]; exact qi.1
      refine J_iinc hX dX10_groupsAround_16 rfl (by decide) ?_
      refine J_aload_n hX dX10_groupsAround_19 rfl ?_
      refine J_iload_n hX dX10_groupsAround_20 rfl ?_
      refine J_iconst hX dX10_groupsAround_21 ?_
      refine J_callVI hX _ dX10_groupsAround_22 cw_RX10_62 (m_X10_of hM (by omega) (by omega) (by omega)) ⟨(show K (r) = 9 from hM 0 (by decide)), by decide, by decide, rfl⟩ rfl (Nat.le_of_ble_eq_true rfl) (by decide) ⟨Nat.zero_le _, Nat.zero_le _⟩ (fun r22 => ?_)
      refine J_istore_n hX dX10_groupsAround_25 (by decide) ?_
      refine J_goto hX 9 dX10_groupsAround_26 (by decide) ?_
      exact J_locI (ih9 (k + 1) (by omega) (by omega) _ _ ⟨by omega, by omega, by omega, by have h9 := hi9.2.2.2; rw [if_neg (by assumption)] at h9; rcases hw.1 with w1 | w1; (rw [if_pos (by omega)]; omega); (rw [if_neg (by omega), q0]; omega)⟩) rfl
  exact J_locI (HL9 0 (Nat.zero_le _) _ _ ⟨by omega, by omega, by omega, by rw [q0n]; split <;> omega⟩) rfl
-- X10_sumOf
set_option maxHeartbeats 4000000 in
set_option maxRecDepth 100000 in
theorem m_X10_sumOf {E : EE} {K : Nat → Nat} {M : MM} {r : Nat} {T : Int} {S : MM} {n w : Int} {kk : Nat} (hM : ModelK K r) (hR : RS S (M (r + 1))) (hW : WFS T S) (hn : hs S n) (hk : kk = 4 ∨ kk = 5 ∨ kk = 6) (hwk : w = (kk : Int) - 3) : CnI E 1 yX10_sumOf cX10_sumOf 5 (Option.some FieldType.int) [.ref r, vI n, vI w] K M (pos S kk n) := by
  obtain ⟨⟨rs0, rs1, rs2, rs3, rs4, rs5, rs6, rs7, rs8, rs9, rs10, rs13⟩, rst, rsn, rsc⟩ := id hR
  have hs9 := hW.2.1
  unfold WFSs at hs9
  have q := rsn n hn.1 hn.2.1
  have hwn := hW.2.2.1 n hn.1 hn.2.1
  refine ⟨Cn_of RX10 (plainFor_of_name (by decide)) rfl (Nat.le_of_ble_eq_true rfl) (fun X hX hQ => ?_), by have := pos_rng hW hk n hn.2.1; omega⟩
  refine J_iconst hX dX10_sumOf_0 ?_
  refine J_istore_n hX dX10_sumOf_1 (by decide) ?_
  refine J_iload_n hX dX10_sumOf_2 rfl ?_
  refine J_istore hX dX10_sumOf_3 (by decide) ?_
  have HL5 : ∀ k : Nat, k ≤ 20 → ∀ (i s : Int), ((i = -1000 ∨ (0 ≤ i ∧ i ≤ n - k ∧ i < S 1 0)) ∧ (-200 * k ≤ s ∧ s ≤ 200 * k) ∧ s + pos S kk i = pos S kk n) → J E X 5 [(0, .ref r), (1, vI n), (2, vI w), (3, vI s), (4, vI i)] [] K M 0 0 := by
    refine up_ind (20) (fun k hk5 ih5 => ?_)
    intro i s  hi5
    refine J_iload hX dX10_sumOf_5 rfl ?_
    refine J_sipush hX dX10_sumOf_7 rfl ?_
    refine J_icmp_eq hX 35 dX10_sumOf_10 (by omega) (by decide) (by decide) (fun c10 => ?_) (fun c10 => ?_)
    · refine J_iload_n hX dX10_sumOf_35 rfl ?_
      exact J_retI hX hQ dX10_sumOf_36 (by have h9 := hi5.2.2; rw [show i = -1000 by assumption, pos_neg (by decide)] at h9; omega) rfl rfl (Nat.zero_le _) (Nat.zero_le _)
    · have hw := hW.2.2.1 i (by omega) (by omega)
      have qi := rsn i (by omega) (by omega)
      have q0 : M (r + 1) (14 + 8 * i + 0) = S 2 i := by rw [Int.add_zero]; exact qi.1
      have qs : M (r + 1) (14 + 8 * i + w) = S kk i := by rcases hk with rfl | rfl | rfl; (rw [show w = 1 by omega]; exact qi.2.1); (rw [show w = 2 by omega]; exact qi.2.2.1); (rw [show w = 3 by omega]; exact qi.2.2.2.1)
      have sr : -200 ≤ S kk i ∧ S kk i ≤ 200 := by rcases hk with rfl | rfl | rfl <;> omega
      have pe := pos_eq hW kk (n := i) (by omega) (by omega)
      refine J_iload_n hX dX10_sumOf_13 rfl ?_
      refine J_aload_n hX dX10_sumOf_14 rfl ?_
      refine J_iload hX dX10_sumOf_15 rfl ?_
      refine J_iload_n hX dX10_sumOf_17 rfl ?_
      refine J_callVI hX _ dX10_sumOf_18 cw_RX10_62 (m_X10_of hM (by omega) (by omega) (by omega)) ⟨(show K (r) = 9 from hM 0 (by decide)), by decide, by decide, rfl⟩ rfl (Nat.le_of_ble_eq_true rfl) (by decide) ⟨Nat.zero_le _, Nat.zero_le _⟩ (fun r18 => ?_)
      refine J_iadd hX dX10_sumOf_21 ?_
      refine J_istore_n hX dX10_sumOf_22 (by decide) ?_
      refine J_aload_n hX dX10_sumOf_23 rfl ?_
      refine J_iload hX dX10_sumOf_24 rfl ?_
      refine J_iconst hX dX10_sumOf_26 ?_
      refine J_callVI hX _ dX10_sumOf_27 cw_RX10_62 (m_X10_of hM (by omega) (by omega) (by omega)) ⟨(show K (r) = 9 from hM 0 (by decide)), by decide, by decide, rfl⟩ rfl (Nat.le_of_ble_eq_true rfl) (by decide) ⟨Nat.zero_le _, Nat.zero_le _⟩ (fun r27 => ?_)
      refine J_istore hX dX10_sumOf_30 (by decide) ?_
      refine J_goto hX 5 dX10_sumOf_32 (by decide) ?_
      exact J_locI (ih5 (k + 1) (by omega) (by omega) _ _ ⟨by omega, by omega, by rw [q0]; omega⟩) rfl
  exact J_locI (HL5 0 (Nat.zero_le _) _ _ ⟨by omega, by omega, by omega⟩) rfl
