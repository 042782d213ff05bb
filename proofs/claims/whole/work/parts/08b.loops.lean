-- X6_boxes
set_option maxHeartbeats 4000000 in
set_option maxRecDepth 100000 in
theorem m_X6_boxes {E : EE} {K : Nat → Nat} {M : MM} {b : Nat} {T : Int} (hS : StageK K b) (hW : WF T M b) : CnI E 1 yX6_boxes cX6_boxes 3 (Option.some FieldType.int) [.ref (b + 1)] K M (ct (box M b) (M (b + 1) 0).toNat) := by
  have hW0 := hW
  obtain ⟨hT0, ⟨ws1, ws2, ws3, ws4, ws5, ws6, ws7, ws8, ws9, ws10, ws11, ws12, ws13, ws14⟩, hWn, hWc⟩ := hW0
  have hrg := ct_rng (box M b)
  refine ⟨Cn_of RX6 (plainFor_of_name (by decide)) rfl (Nat.le_of_ble_eq_true rfl) (fun X hX hQ => ?_), by have := ct_rng (box M b) (M (b + 1) 0).toNat; have := hW.2.1; unfold WFs at this; omega⟩
  refine J_iconst hX dX6_boxes_0 ?_
  refine J_istore_n hX dX6_boxes_1 (by decide) ?_
  refine J_iconst hX dX6_boxes_2 ?_
  refine J_istore_n hX dX6_boxes_3 (by decide) ?_
  have HL4 : ∀ k : Nat, k ≤ (M (b + 1) 0).toNat → ∀ (s : Int), s = ct (box M b) k → J E X 4 [(0, .ref (b + 1)), (1, vI s), (2, vI (k : Int))] [] K M 0 0 := by
    refine up_ind ((M (b + 1) 0).toNat) (fun k hk4 ih4 => ?_)
    intro s  hi4
    have hr4 := hrg k
    refine J_iload_n hX dX6_boxes_4 rfl ?_
    refine J_aload_n hX dX6_boxes_5 rfl ?_
    refine J_geti hX fi_RX6_39 dX6_boxes_6 (show K (b + 1) = 6 from hS 1 (by decide)) (fun r1 => ?_)
    refine J_icmp_ge hX 34 dX6_boxes_9 (by omega) (by omega) (by decide) (fun c2 => ?_) (fun c2 => ?_)
    · refine J_iload_n hX dX6_boxes_34 rfl ?_
      exact J_retI hX hQ dX6_boxes_35 (by rw [hi4, show (M (b + 1) 0).toNat = k by omega]) rfl rfl (Nat.zero_le _) (Nat.zero_le _)
    · refine J_iload_n hX dX6_boxes_12 rfl ?_
      refine J_aload_n hX dX6_boxes_13 rfl ?_
      refine J_iload_n hX dX6_boxes_14 rfl ?_
      refine J_callVB hX _ dX6_boxes_15 cw_RX6_43 (m_X6_isBox hS (by omega)) ⟨(show K (b + 1) = 6 from hS 1 (by decide)), by decide, by decide, rfl⟩ rfl (Nat.le_of_ble_eq_true rfl) (by decide) ⟨Nat.zero_le _, Nat.zero_le _⟩ ?_
      refine J_ifb_eq hX 25 dX6_boxes_18 (by decide) (fun c3 => ?_) (fun c3 => ?_)
      · refine J_iconst hX dX6_boxes_25 ?_
        refine J_iadd hX dX6_boxes_26 ?_
        refine J_istore_n hX dX6_boxes_27 (by decide) ?_
        refine J_iinc hX dX6_boxes_28 rfl (by decide) ?_
        refine J_goto hX 4 dX6_boxes_31 (by decide) ?_
        exact J_locI (ih4 (k + 1) (by omega) (by omega) _ (by first | (rw [hi4, ct_t (by assumption)]) | (rw [hi4, ct_f (by assumption)]; omega))) rfl
      · refine J_iconst hX dX6_boxes_21 ?_
        refine J_goto hX 26 dX6_boxes_22 (by decide) ?_
        refine J_iadd hX dX6_boxes_26 ?_
        refine J_istore_n hX dX6_boxes_27 (by decide) ?_
        refine J_iinc hX dX6_boxes_28 rfl (by decide) ?_
        refine J_goto hX 4 dX6_boxes_31 (by decide) ?_
        exact J_locI (ih4 (k + 1) (by omega) (by omega) _ (by first | (rw [hi4, ct_t (by assumption)]) | (rw [hi4, ct_f (by assumption)]; omega))) rfl
  exact J_locI (HL4 0 (Nat.zero_le _) 0 rfl) rfl
-- X6_children
set_option maxHeartbeats 4000000 in
set_option maxRecDepth 100000 in
theorem m_X6_children {E : EE} {K : Nat → Nat} {M : MM} {b : Nat} {T p : Int} (hS : StageK K b) (hW : WF T M b) (hp : i32 p) : CnI E 0 yX6_children cX6_children 4 (Option.some FieldType.int) [.ref (b + 1), vI p] K M (ct (fun n : Int => M (b + 2) n = p) (M (b + 1) 0).toNat) := by
  have hW0 := hW
  obtain ⟨hT0, ⟨ws1, ws2, ws3, ws4, ws5, ws6, ws7, ws8, ws9, ws10, ws11, ws12, ws13, ws14⟩, hWn, hWc⟩ := hW0
  have hrg := ct_rng (fun n : Int => M (b + 2) n = p)
  refine ⟨Cn_of RX6 (plainFor_of_name (by decide)) rfl (Nat.le_of_ble_eq_true rfl) (fun X hX hQ => ?_), by have := ct_rng (fun n : Int => M (b + 2) n = p) (M (b + 1) 0).toNat; have := hW.2.1; unfold WFs at this; omega⟩
  refine J_iconst hX dX6_children_0 ?_
  refine J_istore_n hX dX6_children_1 (by decide) ?_
  refine J_iconst hX dX6_children_2 ?_
  refine J_istore_n hX dX6_children_3 (by decide) ?_
  have HL4 : ∀ k : Nat, k ≤ (M (b + 1) 0).toNat → ∀ (s : Int), s = ct (fun n : Int => M (b + 2) n = p) k → J E X 4 [(0, .ref (b + 1)), (1, vI p), (2, vI s), (3, vI (k : Int))] [] K M 0 0 := by
    refine up_ind ((M (b + 1) 0).toNat) (fun k hk4 ih4 => ?_)
    intro s  hi4
    have hr4 := hrg k
    refine J_iload_n hX dX6_children_4 rfl ?_
    refine J_aload_n hX dX6_children_5 rfl ?_
    refine J_geti hX fi_RX6_39 dX6_children_6 (show K (b + 1) = 6 from hS 1 (by decide)) (fun r1 => ?_)
    refine J_icmp_ge hX 42 dX6_children_9 (by omega) (by omega) (by decide) (fun c2 => ?_) (fun c2 => ?_)
    · refine J_iload_n hX dX6_children_42 rfl ?_
      exact J_retI hX hQ dX6_children_43 (by rw [hi4, show (M (b + 1) 0).toNat = k by omega]) rfl rfl (Nat.zero_le _) (Nat.zero_le _)
    · refine J_iload_n hX dX6_children_12 rfl ?_
      refine J_bipush hX dX6_children_13 rfl ?_
      refine J_icmp_ge hX 42 dX6_children_15 (by omega) (by decide) (by decide) (fun c3 => ?_) (fun c3 => ?_)
      · refine J_iload_n hX dX6_children_42 rfl ?_
        exact J_retI hX hQ dX6_children_43 (by rw [hi4, show (M (b + 1) 0).toNat = k by omega]) rfl rfl (Nat.zero_le _) (Nat.zero_le _)
      · refine J_iload_n hX dX6_children_18 rfl ?_
        refine J_aload_n hX dX6_children_19 rfl ?_
        refine J_gr hX (b + 2) fr_RX6_9 dX6_children_20 (show K (b + 1) = 6 from hS 1 (by decide)) rfl ?_
        refine J_iload_n hX dX6_children_23 rfl ?_
        refine J_iald hX dX6_children_24 (show K (b + 2) = 1000 + 20 from hS 2 (by decide)) ⟨by omega, by omega⟩ (by decide) (fun r4 => ?_)
        refine J_iload_n hX dX6_children_25 rfl ?_
        refine J_icmp_ne hX 33 dX6_children_26 (by omega) (by omega) (by decide) (fun c5 => ?_) (fun c5 => ?_)
        · refine J_iconst hX dX6_children_33 ?_
          refine J_iadd hX dX6_children_34 ?_
          refine J_istore_n hX dX6_children_35 (by decide) ?_
          refine J_iinc hX dX6_children_36 rfl (by decide) ?_
          refine J_goto hX 4 dX6_children_39 (by decide) ?_
          exact J_locI (ih4 (k + 1) (by omega) (by omega) _ (by first | (rw [hi4, ct_t (by assumption)]) | (rw [hi4, ct_f (by assumption)]; omega))) rfl
        · refine J_iconst hX dX6_children_29 ?_
          refine J_goto hX 34 dX6_children_30 (by decide) ?_
          refine J_iadd hX dX6_children_34 ?_
          refine J_istore_n hX dX6_children_35 (by decide) ?_
          refine J_iinc hX dX6_children_36 rfl (by decide) ?_
          refine J_goto hX 4 dX6_children_39 (by decide) ?_
          exact J_locI (ih4 (k + 1) (by omega) (by omega) _ (by first | (rw [hi4, ct_t (by assumption)]) | (rw [hi4, ct_f (by assumption)]; omega))) rfl
  exact J_locI (HL4 0 (Nat.zero_le _) 0 rfl) rfl
-- X3_beginOf
set_option maxHeartbeats 4000000 in
set_option maxRecDepth 100000 in
theorem m_X3_beginOf {E : EE} {K : Nat → Nat} {M : MM} {b : Nat} {T n : Int} (hS : StageK K b) (hW : WF T M b) (hn : hsc M b n) : CnI E 0 yX3_beginOf cX3_beginOf 4 (Option.some FieldType.int) [.ref (b + 11), vI n] K M (sm (M (b + 14)) n.toNat) := by
  have hW0 := hW
  obtain ⟨hT0, ⟨ws1, ws2, ws3, ws4, ws5, ws6, ws7, ws8, ws9, ws10, ws11, ws12, ws13, ws14⟩, hWn, hWc⟩ := hW0
  have hrg := sm_tk hW
  refine ⟨Cn_of RX3 (plainFor_of_name (by decide)) rfl (Nat.le_of_ble_eq_true rfl) (fun X hX hQ => ?_), by have := sm_tk hW n.toNat (by omega); omega⟩
  refine J_iconst hX dX3_beginOf_0 ?_
  refine J_istore_n hX dX3_beginOf_1 (by decide) ?_
  refine J_iconst hX dX3_beginOf_2 ?_
  refine J_istore_n hX dX3_beginOf_3 (by decide) ?_
  have HL4 : ∀ k : Nat, k ≤ n.toNat → ∀ (s : Int), s = sm (M (b + 14)) k → J E X 4 [(0, .ref (b + 11)), (1, vI n), (2, vI s), (3, vI (k : Int))] [] K M 0 0 := by
    refine up_ind (n.toNat) (fun k hk4 ih4 => ?_)
    intro s  hi4
    have hr4 := hrg k (by omega)
    refine J_iload_n hX dX3_beginOf_4 rfl ?_
    refine J_iload_n hX dX3_beginOf_5 rfl ?_
    refine J_icmp_ge hX 38 dX3_beginOf_6 (by omega) (by omega) (by decide) (fun c1 => ?_) (fun c1 => ?_)
    · refine J_iload_n hX dX3_beginOf_38 rfl ?_
      exact J_retI hX hQ dX3_beginOf_39 (by rw [hi4, show n.toNat = k by omega]) rfl rfl (Nat.zero_le _) (Nat.zero_le _)
    · refine J_iload_n hX dX3_beginOf_9 rfl ?_
      refine J_aload_n hX dX3_beginOf_10 rfl ?_
      refine J_geti hX fi_RX3_28 dX3_beginOf_11 (show K (b + 11) = 3 from hS 11 (by decide)) (fun r2 => ?_)
      refine J_icmp_ge hX 38 dX3_beginOf_14 (by omega) (by omega) (by decide) (fun c3 => ?_) (fun c3 => ?_)
      · refine J_iload_n hX dX3_beginOf_38 rfl ?_
        exact J_retI hX hQ dX3_beginOf_39 (by rw [hi4, show n.toNat = k by omega]) rfl rfl (Nat.zero_le _) (Nat.zero_le _)
      · refine J_iload_n hX dX3_beginOf_17 rfl ?_
        refine J_bipush hX dX3_beginOf_18 rfl ?_
        refine J_icmp_ge hX 38 dX3_beginOf_20 (by omega) (by decide) (by decide) (fun c4 => ?_) (fun c4 => ?_)
        · refine J_iload_n hX dX3_beginOf_38 rfl ?_
          exact J_retI hX hQ dX3_beginOf_39 (by rw [hi4, show n.toNat = k by omega]) rfl rfl (Nat.zero_le _) (Nat.zero_le _)
        · refine J_iload_n hX dX3_beginOf_23 rfl ?_
          refine J_aload_n hX dX3_beginOf_24 rfl ?_
          refine J_gr hX (b + 14) fr_RX3_25 dX3_beginOf_25 (show K (b + 11) = 3 from hS 11 (by decide)) rfl ?_
          refine J_iload_n hX dX3_beginOf_28 rfl ?_
          refine J_iald hX dX3_beginOf_29 (show K (b + 14) = 1000 + 8 from hS 14 (by decide)) ⟨by omega, by omega⟩ (by decide) (fun r5 => ?_)
          have q1 := hWc (k : Int) (by omega) (by omega)
          refine J_iadd hX dX3_beginOf_30 ?_
          refine J_istore_n hX dX3_beginOf_31 (by decide) ?_
          refine J_iinc hX dX3_beginOf_32 rfl (by decide) ?_
          refine J_goto hX 4 dX3_beginOf_35 (by decide) ?_
          exact J_locI (ih4 (k + 1) (by omega) (by omega) _ (by rw [hi4]; rfl)) rfl
  exact J_locI (HL4 0 (Nat.zero_le _) 0 rfl) rfl
-- X3_present
set_option maxHeartbeats 4000000 in
set_option maxRecDepth 100000 in
theorem m_X3_present {E : EE} {K : Nat → Nat} {M : MM} {b : Nat} {T : Int} (hS : StageK K b) (hW : WF T M b) : CnI E 0 yX3_present cX3_present 3 (Option.some FieldType.int) [.ref (b + 11)] K M (now M b) := by
  have hW0 := hW
  obtain ⟨hT0, ⟨ws1, ws2, ws3, ws4, ws5, ws6, ws7, ws8, ws9, ws10, ws11, ws12, ws13, ws14⟩, hWn, hWc⟩ := hW0
  have hrg := sm_tk hW
  refine ⟨Cn_of RX3 (plainFor_of_name (by decide)) rfl (Nat.le_of_ble_eq_true rfl) (fun X hX hQ => ?_), (now_rng hW).1⟩
  refine J_aload_n hX dX3_present_0 rfl ?_
  refine J_geti hX fi_RX3_28 dX3_present_1 (show K (b + 11) = 3 from hS 11 (by decide)) (fun r1 => ?_)
  refine J_if_ne hX 11 dX3_present_4 (by omega) (by decide) (fun c2 => ?_) (fun c2 => ?_)
  · refine J_iconst hX dX3_present_11 ?_
    refine J_istore_n hX dX3_present_12 (by decide) ?_
    refine J_iconst hX dX3_present_13 ?_
    refine J_istore_n hX dX3_present_14 (by decide) ?_
    have HL15 : ∀ k : Nat, k ≤ (M (b + 11) 0).toNat - 1 → ∀ (s : Int), s = sm (M (b + 14)) k ∧ prs (M (b + 14)) (M (b + 11) 1) ((M (b + 11) 0).toNat - 1) 0 = prs (M (b + 14)) (M (b + 11) 1) ((M (b + 11) 0).toNat - 1 - k) k → J E X 15 [(0, .ref (b + 11)), (1, vI s), (2, vI (k : Int))] [] K M 0 0 := by
      refine up_ind ((M (b + 11) 0).toNat - 1) (fun k hk15 ih15 => ?_)
      intro s  hi15
      have hr4 := hrg k (by omega)
      refine J_iload_n hX dX3_present_15 rfl ?_
      refine J_aload_n hX dX3_present_16 rfl ?_
      refine J_geti hX fi_RX3_28 dX3_present_17 (show K (b + 11) = 3 from hS 11 (by decide)) (fun r3 => ?_)
      refine J_iconst hX dX3_present_20 ?_
      refine J_isub hX dX3_present_21 ?_
      refine J_icmp_ge hX 56 dX3_present_22 (by omega) (by omega) (by decide) (fun c4 => ?_) (fun c4 => ?_)
      · refine J_aload_n hX dX3_present_56 rfl ?_
        refine J_geti hX fi_RX3_28 dX3_present_57 (show K (b + 11) = 3 from hS 11 (by decide)) (fun r5 => ?_)
        refine J_iconst hX dX3_present_60 ?_
        refine J_isub hX dX3_present_61 ?_
        exact J_retI hX hQ dX3_present_62 (by first | (unfold now; rw [if_pos (by omega)]) | (unfold now; rw [if_neg (by omega), hi15.2]; have e9 : (M (b + 11) 0).toNat - 1 - k = 0 := (by omega); rw [e9]; simp only [prs]; omega) | (unfold now; rw [if_neg (by omega), hi15.2]; have e9 : (M (b + 11) 0).toNat - 1 - k = ((M (b + 11) 0).toNat - 1 - (k + 1)) + 1 := (by omega); rw [e9]; simp only [prs, sm]; rw [if_pos (by omega)])) rfl rfl (Nat.zero_le _) (Nat.zero_le _)
      · refine J_iload_n hX dX3_present_25 rfl ?_
        refine J_bipush hX dX3_present_26 rfl ?_
        refine J_icmp_ge hX 56 dX3_present_28 (by omega) (by decide) (by decide) (fun c6 => ?_) (fun c6 => ?_)
        · refine J_aload_n hX dX3_present_56 rfl ?_
          refine J_geti hX fi_RX3_28 dX3_present_57 (show K (b + 11) = 3 from hS 11 (by decide)) (fun r7 => ?_)
          refine J_iconst hX dX3_present_60 ?_
          refine J_isub hX dX3_present_61 ?_
          exact J_retI hX hQ dX3_present_62 (by first | (unfold now; rw [if_pos (by omega)]) | (unfold now; rw [if_neg (by omega), hi15.2]; have e9 : (M (b + 11) 0).toNat - 1 - k = 0 := (by omega); rw [e9]; simp only [prs]; omega) | (unfold now; rw [if_neg (by omega), hi15.2]; have e9 : (M (b + 11) 0).toNat - 1 - k = ((M (b + 11) 0).toNat - 1 - (k + 1)) + 1 := (by omega); rw [e9]; simp only [prs, sm]; rw [if_pos (by omega)])) rfl rfl (Nat.zero_le _) (Nat.zero_le _)
        · refine J_iload_n hX dX3_present_31 rfl ?_
          refine J_aload_n hX dX3_present_32 rfl ?_
          refine J_gr hX (b + 14) fr_RX3_25 dX3_present_33 (show K (b + 11) = 3 from hS 11 (by decide)) rfl ?_
          refine J_iload_n hX dX3_present_36 rfl ?_
          refine J_iald hX dX3_present_37 (show K (b + 14) = 1000 + 8 from hS 14 (by decide)) ⟨by omega, by omega⟩ (by decide) (fun r8 => ?_)
          have q1 := hWc (k : Int) (by omega) (by omega)
          refine J_iadd hX dX3_present_38 ?_
          refine J_istore_n hX dX3_present_39 (by decide) ?_
          refine J_aload_n hX dX3_present_40 rfl ?_
          refine J_geti hX fi_RX3_39 dX3_present_41 (show K (b + 11) = 3 from hS 11 (by decide)) (fun r9 => ?_)
          refine J_iload_n hX dX3_present_44 rfl ?_
          refine J_icmp_ge hX 50 dX3_present_45 (by omega) (by omega) (by decide) (fun c10 => ?_) (fun c10 => ?_)
          · refine J_iinc hX dX3_present_50 rfl (by decide) ?_
            refine J_goto hX 15 dX3_present_53 (by decide) ?_
            exact J_locI (ih15 (k + 1) (by omega) (by omega) _ ⟨by rw [hi15.1]; rfl, by rw [hi15.2]; have e9 : (M (b + 11) 0).toNat - 1 - k = ((M (b + 11) 0).toNat - 1 - (k + 1)) + 1 := (by omega); rw [e9]; simp only [prs, sm]; rw [if_neg (by omega)]⟩) rfl
          · refine J_iload_n hX dX3_present_48 rfl ?_
            exact J_retI hX hQ dX3_present_49 (by first | (unfold now; rw [if_pos (by omega)]) | (unfold now; rw [if_neg (by omega), hi15.2]; have e9 : (M (b + 11) 0).toNat - 1 - k = 0 := (by omega); rw [e9]; simp only [prs]; omega) | (unfold now; rw [if_neg (by omega), hi15.2]; have e9 : (M (b + 11) 0).toNat - 1 - k = ((M (b + 11) 0).toNat - 1 - (k + 1)) + 1 := (by omega); rw [e9]; simp only [prs, sm]; rw [if_pos (by omega)])) rfl rfl (Nat.zero_le _) (Nat.zero_le _)
    exact J_locI (HL15 0 (Nat.zero_le _) 0 ⟨rfl, rfl⟩) rfl
  · refine J_sipush hX dX3_present_7 rfl ?_
    exact J_retI hX hQ dX3_present_10 (by first | (unfold now; rw [if_pos (by omega)]) | (unfold now; rw [if_neg (by omega), hi15.2]; have e9 : (M (b + 11) 0).toNat - 1 - k = 0 := (by omega); rw [e9]; simp only [prs]; omega) | (unfold now; rw [if_neg (by omega), hi15.2]; have e9 : (M (b + 11) 0).toNat - 1 - k = ((M (b + 11) 0).toNat - 1 - (k + 1)) + 1 := (by omega); rw [e9]; simp only [prs, sm]; rw [if_pos (by omega)])) rfl rfl (Nat.zero_le _) (Nat.zero_le _)
