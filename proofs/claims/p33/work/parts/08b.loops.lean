-- X6_boxes
set_option maxHeartbeats 4000000 in
set_option maxRecDepth 100000 in
theorem m_X6_boxes {E : EE} {K : Nat → Nat} {M : MM} {b : Nat} {T : Int} (hS : StageK K b) (hW : WF T M b) : CnI E 1 yX6_boxes cX6_boxes 3 (Option.some FieldType.int) [.ref (b + 1)] K M (ct (box M b) (M (b + 1) 0).toNat) := by
  have hW0 := hW
  obtain ⟨hT0, ⟨ws1, ws2, ws3, ws4, ws5, ws6, ws7, ws8, ws9, ws10, ws11, ws12, ws13, ws14⟩, hWn, hWc⟩ := hW0
  have hrg := ct_rng (box M b)
  refine ⟨Cn_of RX6 (plainFor_of_name (by decide)) rfl (Nat.le_of_ble_eq_true rfl) (fun X hX hQ => ?_), by have := ct_rng (box M b) (M (b + 1) 0).toNat; have := hW.2.1; unfold WFs at this; omega⟩
  refine J_iconst hX dX6_boxes_0 ?_
  refine J_istore_n hX dX6_boxes_1 (by decide) ?_
  refine J_iconst hX dX6_boxes_2 ?_
  refine J_istore_n hX dX6_boxes_3 (by decide) ?_
  have HL4 : ∀ k : Nat, k ≤ (M (b + 1) 0).toNat → ∀ (s : Int), (s = ct (box M b) k) → J E X 4 [(0, .ref (b + 1)), (1, vI s), (2, vI (k : Int))] [] K M 0 0 := by
    refine up_ind ((M (b + 1) 0).toNat) (fun k hk4 ih4 => ?_)
    intro s  hi4
    have hr4 := hrg k
    refine J_iload_n hX dX6_boxes_4 rfl ?_
    refine J_aload_n hX dX6_boxes_5 rfl ?_
    refine J_geti hX fi_RX6_39 dX6_boxes_6 (show K (b + 1) = 6 from hS 1 (by decide)) (fun r6 => ?_)
    refine J_icmp_ge hX 34 dX6_boxes_9 (by omega) (by omega) (by decide) (fun c9 => ?_) (fun c9 => ?_)
    · refine J_iload_n hX dX6_boxes_34 rfl ?_
      exact J_retI hX hQ dX6_boxes_35 (by rw [hi4, show (M (b + 1) 0).toNat = k by omega]) rfl rfl (Nat.zero_le _) (Nat.zero_le _)
    · refine J_iload_n hX dX6_boxes_12 rfl ?_
      refine J_aload_n hX dX6_boxes_13 rfl ?_
      refine J_iload_n hX dX6_boxes_14 rfl ?_
      refine J_callVB hX _ dX6_boxes_15 cw_RX6_43 (m_X6_isBox hS (by omega)) ⟨(show K (b + 1) = 6 from hS 1 (by decide)), by decide, by decide, rfl⟩ rfl (Nat.le_of_ble_eq_true rfl) (by decide) ⟨Nat.zero_le _, Nat.zero_le _⟩ ?_
      refine J_ifb_eq hX 25 dX6_boxes_18 (by decide) (fun c18 => ?_) (fun c18 => ?_)
      · refine J_iconst hX dX6_boxes_25 ?_
        refine J_iadd hX dX6_boxes_26 ?_
        refine J_istore_n hX dX6_boxes_27 (by decide) ?_
        refine J_iinc hX dX6_boxes_28 rfl (by decide) ?_
        refine J_goto hX 4 dX6_boxes_31 (by decide) ?_
        exact J_locI (ih4 (k + 1) (by omega) (by omega) _ (by first | (rw [hi4, ct_t (by assumption)]) | (rw [hi4, ct_f (by assumption)]; omega))) rfl
      · refine J_iconst hX dX6_boxes_21 ?_
        refine J_goto hX 26 dX6_boxes_22 (by decide) ?_
        refine J_iadd hX dX6_boxes_26 ?_
        refine J_istore_n hX dX6_boxes_27 (by decide) ?_
        refine J_iinc hX dX6_boxes_28 rfl (by decide) ?_
        refine J_goto hX 4 dX6_boxes_31 (by decide) ?_
        exact J_locI (ih4 (k + 1) (by omega) (by omega) _ (by first | (rw [hi4, ct_t (by assumption)]) | (rw [hi4, ct_f (by assumption)]; omega))) rfl
  exact J_locI (HL4 0 (Nat.zero_le _) 0 rfl) rfl
-- X6_children
set_option maxHeartbeats 4000000 in
set_option maxRecDepth 100000 in
theorem m_X6_children {E : EE} {K : Nat → Nat} {M : MM} {b : Nat} {T p : Int} (hS : StageK K b) (hW : WF T M b) (hp : i32 p) : CnI E 0 yX6_children cX6_children 4 (Option.some FieldType.int) [.ref (b + 1), vI p] K M (ct (fun n : Int => M (b + 2) n = p) (M (b + 1) 0).toNat) := by
  have hW0 := hW
  obtain ⟨hT0, ⟨ws1, ws2, ws3, ws4, ws5, ws6, ws7, ws8, ws9, ws10, ws11, ws12, ws13, ws14⟩, hWn, hWc⟩ := hW0
  have hrg := ct_rng (fun n : Int => M (b + 2) n = p)
  refine ⟨Cn_of RX6 (plainFor_of_name (by decide)) rfl (Nat.le_of_ble_eq_true rfl) (fun X hX hQ => ?_), by have := ct_rng (fun n : Int => M (b + 2) n = p) (M (b + 1) 0).toNat; have := hW.2.1; unfold WFs at this; omega⟩
  refine J_iconst hX dX6_children_0 ?_
  refine J_istore_n hX dX6_children_1 (by decide) ?_
  refine J_iconst hX dX6_children_2 ?_
  refine J_istore_n hX dX6_children_3 (by decide) ?_
  have HL4 : ∀ k : Nat, k ≤ (M (b + 1) 0).toNat → ∀ (s : Int), (s = ct (fun n : Int => M (b + 2) n = p) k) → J E X 4 [(0, .ref (b + 1)), (1, vI p), (2, vI s), (3, vI (k : Int))] [] K M 0 0 := by
    refine up_ind ((M (b + 1) 0).toNat) (fun k hk4 ih4 => ?_)
    intro s  hi4
    have hr4 := hrg k
    refine J_iload_n hX dX6_children_4 rfl ?_
    refine J_aload_n hX dX6_children_5 rfl ?_
    refine J_geti hX fi_RX6_39 dX6_children_6 (show K (b + 1) = 6 from hS 1 (by decide)) (fun r6 => ?_)
    refine J_icmp_ge hX 42 dX6_children_9 (by omega) (by omega) (by decide) (fun c9 => ?_) (fun c9 => ?_)
    · refine J_iload_n hX dX6_children_42 rfl ?_
      exact J_retI hX hQ dX6_children_43 (by rw [hi4, show (M (b + 1) 0).toNat = k by omega]) rfl rfl (Nat.zero_le _) (Nat.zero_le _)
    · refine J_iload_n hX dX6_children_12 rfl ?_
      refine J_bipush hX dX6_children_13 rfl ?_
      refine J_icmp_ge hX 42 dX6_children_15 (by omega) (by decide) (by decide) (fun c15 => ?_) (fun c15 => ?_)
      · refine J_iload_n hX dX6_children_42 rfl ?_
        exact J_retI hX hQ dX6_children_43 (by rw [hi4, show (M (b + 1) 0).toNat = k by omega]) rfl rfl (Nat.zero_le _) (Nat.zero_le _)
      · refine J_iload_n hX dX6_children_18 rfl ?_
        refine J_aload_n hX dX6_children_19 rfl ?_
        refine J_gr hX (b + 2) fr_RX6_9 dX6_children_20 (show K (b + 1) = 6 from hS 1 (by decide)) rfl ?_
        refine J_iload_n hX dX6_children_23 rfl ?_
        refine J_iald hX dX6_children_24 (show K (b + 2) = 1000 + 20 from hS 2 (by decide)) ⟨by omega, by omega⟩ (by decide) (fun r24 => ?_)
        refine J_iload_n hX dX6_children_25 rfl ?_
        refine J_icmp_ne hX 33 dX6_children_26 (by omega) (by omega) (by decide) (fun c26 => ?_) (fun c26 => ?_)
        · refine J_iconst hX dX6_children_33 ?_
          refine J_iadd hX dX6_children_34 ?_
          refine J_istore_n hX dX6_children_35 (by decide) ?_
          refine J_iinc hX dX6_children_36 rfl (by decide) ?_
          refine J_goto hX 4 dX6_children_39 (by decide) ?_
          exact J_locI (ih4 (k + 1) (by omega) (by omega) _ (by first | (rw [hi4, ct_t (by assumption)]) | (rw [hi4, ct_f (by assumption)]; omega))) rfl
        · refine J_iconst hX dX6_children_29 ?_
          refine J_goto hX 34 dX6_children_30 (by decide) ?_
          refine J_iadd hX dX6_children_34 ?_
          refine J_istore_n hX dX6_children_35 (by decide) ?_
          refine J_iinc hX dX6_children_36 rfl (by decide) ?_
          refine J_goto hX 4 dX6_children_39 (by decide) ?_
          exact J_locI (ih4 (k + 1) (by omega) (by omega) _ (by first | (rw [hi4, ct_t (by assumption)]) | (rw [hi4, ct_f (by assumption)]; omega))) rfl
  exact J_locI (HL4 0 (Nat.zero_le _) 0 rfl) rfl
-- X3_beginOf
set_option maxHeartbeats 4000000 in
set_option maxRecDepth 100000 in
theorem m_X3_beginOf {E : EE} {K : Nat → Nat} {M : MM} {b : Nat} {T n : Int} (hS : StageK K b) (hW : WF T M b) (hn : hsc M b n) : CnI E 0 yX3_beginOf cX3_beginOf 4 (Option.some FieldType.int) [.ref (b + 11), vI n] K M (sm (M (b + 14)) n.toNat) := by
  have hW0 := hW
  obtain ⟨hT0, ⟨ws1, ws2, ws3, ws4, ws5, ws6, ws7, ws8, ws9, ws10, ws11, ws12, ws13, ws14⟩, hWn, hWc⟩ := hW0
  have hrg := sm_tk hW
  refine ⟨Cn_of RX3 (plainFor_of_name (by decide)) rfl (Nat.le_of_ble_eq_true rfl) (fun X hX hQ => ?_), by have := sm_tk hW n.toNat (by omega); omega⟩
  refine J_iconst hX dX3_beginOf_0 ?_
  refine J_istore_n hX dX3_beginOf_1 (by decide) ?_
  refine J_iconst hX dX3_beginOf_2 ?_
  refine J_istore_n hX dX3_beginOf_3 (by decide) ?_
  have HL4 : ∀ k : Nat, k ≤ n.toNat → ∀ (s : Int), (s = sm (M (b + 14)) k) → J E X 4 [(0, .ref (b + 11)), (1, vI n), (2, vI s), (3, vI (k : Int))] [] K M 0 0 := by
    refine up_ind (n.toNat) (fun k hk4 ih4 => ?_)
    intro s  hi4
    have hr4 := hrg k (by omega)
    refine J_iload_n hX dX3_beginOf_4 rfl ?_
    refine J_iload_n hX dX3_beginOf_5 rfl ?_
    refine J_icmp_ge hX 38 dX3_beginOf_6 (by omega) (by omega) (by decide) (fun c6 => ?_) (fun c6 => ?_)
    · refine J_iload_n hX dX3_beginOf_38 rfl ?_
      exact J_retI hX hQ dX3_beginOf_39 (by rw [hi4, show n.toNat = k by omega]) rfl rfl (Nat.zero_le _) (Nat.zero_le _)
    · refine J_iload_n hX dX3_beginOf_9 rfl ?_
      refine J_aload_n hX dX3_beginOf_10 rfl ?_
      refine J_geti hX fi_RX3_28 dX3_beginOf_11 (show K (b + 11) = 3 from hS 11 (by decide)) (fun r11 => ?_)
      refine J_icmp_ge hX 38 dX3_beginOf_14 (by omega) (by omega) (by decide) (fun c14 => ?_) (fun c14 => ?_)
      · refine J_iload_n hX dX3_beginOf_38 rfl ?_
        exact J_retI hX hQ dX3_beginOf_39 (by rw [hi4, show n.toNat = k by omega]) rfl rfl (Nat.zero_le _) (Nat.zero_le _)
      · refine J_iload_n hX dX3_beginOf_17 rfl ?_
        refine J_bipush hX dX3_beginOf_18 rfl ?_
        refine J_icmp_ge hX 38 dX3_beginOf_20 (by omega) (by decide) (by decide) (fun c20 => ?_) (fun c20 => ?_)
        · refine J_iload_n hX dX3_beginOf_38 rfl ?_
          exact J_retI hX hQ dX3_beginOf_39 (by rw [hi4, show n.toNat = k by omega]) rfl rfl (Nat.zero_le _) (Nat.zero_le _)
        · refine J_iload_n hX dX3_beginOf_23 rfl ?_
          refine J_aload_n hX dX3_beginOf_24 rfl ?_
          refine J_gr hX (b + 14) fr_RX3_25 dX3_beginOf_25 (show K (b + 11) = 3 from hS 11 (by decide)) rfl ?_
          refine J_iload_n hX dX3_beginOf_28 rfl ?_
          refine J_iald hX dX3_beginOf_29 (show K (b + 14) = 1000 + 8 from hS 14 (by decide)) ⟨by omega, by omega⟩ (by decide) (fun r29 => ?_)
          have q1 := hWc (k : Int) (by omega) (by omega)
          refine J_iadd hX dX3_beginOf_30 ?_
          refine J_istore_n hX dX3_beginOf_31 (by decide) ?_
          refine J_iinc hX dX3_beginOf_32 rfl (by decide) ?_
          refine J_goto hX 4 dX3_beginOf_35 (by decide) ?_
          exact J_locI (ih4 (k + 1) (by omega) (by omega) _ (by rw [hi4]; rfl)) rfl
  exact J_locI (HL4 0 (Nat.zero_le _) 0 rfl) rfl
-- X3_present
set_option maxHeartbeats 4000000 in
set_option maxRecDepth 100000 in
theorem m_X3_present {E : EE} {K : Nat → Nat} {M : MM} {b : Nat} {T : Int} (hS : StageK K b) (hW : WF T M b) : CnI E 0 yX3_present cX3_present 3 (Option.some FieldType.int) [.ref (b + 11)] K M (now M b) := by
  have hW0 := hW
  obtain ⟨hT0, ⟨ws1, ws2, ws3, ws4, ws5, ws6, ws7, ws8, ws9, ws10, ws11, ws12, ws13, ws14⟩, hWn, hWc⟩ := hW0
  have hrg := sm_tk hW
  refine ⟨Cn_of RX3 (plainFor_of_name (by decide)) rfl (Nat.le_of_ble_eq_true rfl) (fun X hX hQ => ?_), (now_rng hW).1⟩
  refine J_aload_n hX dX3_present_0 rfl ?_
  refine J_geti hX fi_RX3_28 dX3_present_1 (show K (b + 11) = 3 from hS 11 (by decide)) (fun r1 => ?_)
  refine J_if_ne hX 11 dX3_present_4 (by omega) (by decide) (fun c4 => ?_) (fun c4 => ?_)
  · refine J_iconst hX dX3_present_11 ?_
    refine J_istore_n hX dX3_present_12 (by decide) ?_
    refine J_iconst hX dX3_present_13 ?_
    refine J_istore_n hX dX3_present_14 (by decide) ?_
    have HL15 : ∀ k : Nat, k ≤ (M (b + 11) 0).toNat - 1 → ∀ (s : Int), (s = sm (M (b + 14)) k ∧ prs (M (b + 14)) (M (b + 11) 1) ((M (b + 11) 0).toNat - 1) 0 = prs (M (b + 14)) (M (b + 11) 1) ((M (b + 11) 0).toNat - 1 - k) k) → J E X 15 [(0, .ref (b + 11)), (1, vI s), (2, vI (k : Int))] [] K M 0 0 := by
      refine up_ind ((M (b + 11) 0).toNat - 1) (fun k hk15 ih15 => ?_)
      intro s  hi15
      have hr4 := hrg k (by omega)
      refine J_iload_n hX dX3_present_15 rfl ?_
      refine J_aload_n hX dX3_present_16 rfl ?_
      refine J_geti hX fi_RX3_28 dX3_present_17 (show K (b + 11) = 3 from hS 11 (by decide)) (fun r17 => ?_)
      refine J_iconst hX dX3_present_20 ?_
      refine J_isub hX dX3_present_21 ?_
      refine J_icmp_ge hX 56 dX3_present_22 (by omega) (by omega) (by decide) (fun c22 => ?_) (fun c22 => ?_)
      · refine J_aload_n hX dX3_present_56 rfl ?_
        refine J_geti hX fi_RX3_28 dX3_present_57 (show K (b + 11) = 3 from hS 11 (by decide)) (fun r57 => ?_)
        refine J_iconst hX dX3_present_60 ?_
        refine J_isub hX dX3_present_61 ?_
        exact J_retI hX hQ dX3_present_62 (by first | (exfalso; omega) | (unfold now; rw [if_pos (by omega)]) | (unfold now; rw [if_neg (by omega), hi15.2, prs_t (m1 := (M (b + 11) 0).toNat - 1 - (k + 1)) (by omega) (by omega)]) | (unfold now; rw [if_neg (by omega), hi15.2, prs_0 (by omega)]; omega)) rfl rfl (Nat.zero_le _) (Nat.zero_le _)
      · refine J_iload_n hX dX3_present_25 rfl ?_
        refine J_bipush hX dX3_present_26 rfl ?_
        refine J_icmp_ge hX 56 dX3_present_28 (by omega) (by decide) (by decide) (fun c28 => ?_) (fun c28 => ?_)
        · refine J_aload_n hX dX3_present_56 rfl ?_
          refine J_geti hX fi_RX3_28 dX3_present_57 (show K (b + 11) = 3 from hS 11 (by decide)) (fun r57 => ?_)
          refine J_iconst hX dX3_present_60 ?_
          refine J_isub hX dX3_present_61 ?_
          exact J_retI hX hQ dX3_present_62 (by first | (exfalso; omega) | (unfold now; rw [if_pos (by omega)]) | (unfold now; rw [if_neg (by omega), hi15.2, prs_t (m1 := (M (b + 11) 0).toNat - 1 - (k + 1)) (by omega) (by omega)]) | (unfold now; rw [if_neg (by omega), hi15.2, prs_0 (by omega)]; omega)) rfl rfl (Nat.zero_le _) (Nat.zero_le _)
        · refine J_iload_n hX dX3_present_31 rfl ?_
          refine J_aload_n hX dX3_present_32 rfl ?_
          refine J_gr hX (b + 14) fr_RX3_25 dX3_present_33 (show K (b + 11) = 3 from hS 11 (by decide)) rfl ?_
          refine J_iload_n hX dX3_present_36 rfl ?_
          refine J_iald hX dX3_present_37 (show K (b + 14) = 1000 + 8 from hS 14 (by decide)) ⟨by omega, by omega⟩ (by decide) (fun r37 => ?_)
          have q1 := hWc (k : Int) (by omega) (by omega)
          refine J_iadd hX dX3_present_38 ?_
          refine J_istore_n hX dX3_present_39 (by decide) ?_
          refine J_aload_n hX dX3_present_40 rfl ?_
          refine J_geti hX fi_RX3_39 dX3_present_41 (show K (b + 11) = 3 from hS 11 (by decide)) (fun r41 => ?_)
          refine J_iload_n hX dX3_present_44 rfl ?_
          refine J_icmp_ge hX 50 dX3_present_45 (by omega) (by omega) (by decide) (fun c45 => ?_) (fun c45 => ?_)
          · refine J_iinc hX dX3_present_50 rfl (by decide) ?_
            refine J_goto hX 15 dX3_present_53 (by decide) ?_
            exact J_locI (ih15 (k + 1) (by omega) (by omega) _ ⟨by rw [hi15.1]; rfl, by rw [hi15.2, prs_f (m1 := (M (b + 11) 0).toNat - 1 - (k + 1)) (by omega) (by omega)]⟩) rfl
          · refine J_iload_n hX dX3_present_48 rfl ?_
            exact J_retI hX hQ dX3_present_49 (by first | (exfalso; omega) | (unfold now; rw [if_pos (by omega)]) | (unfold now; rw [if_neg (by omega), hi15.2, prs_t (m1 := (M (b + 11) 0).toNat - 1 - (k + 1)) (by omega) (by omega)]) | (unfold now; rw [if_neg (by omega), hi15.2, prs_0 (by omega)]; omega)) rfl rfl (Nat.zero_le _) (Nat.zero_le _)
    exact J_locI (HL15 0 (Nat.zero_le _) 0 ⟨rfl, rfl⟩) rfl
  · refine J_sipush hX dX3_present_7 rfl ?_
    exact J_retI hX hQ dX3_present_10 (by first | (exfalso; omega) | (unfold now; rw [if_pos (by omega)]) | (unfold now; rw [if_neg (by omega), hi15.2, prs_t (m1 := (M (b + 11) 0).toNat - 1 - (k + 1)) (by omega) (by omega)]) | (unfold now; rw [if_neg (by omega), hi15.2, prs_0 (by omega)]; omega)) rfl rfl (Nat.zero_le _) (Nat.zero_le _)
-- X3_passTick
set_option maxHeartbeats 4000000 in
set_option maxRecDepth 100000 in
theorem m_X3_passTick {E : EE} {K : Nat → Nat} {M : MM} {b : Nat} {T r : Int} (hS : StageK K b) (hW : WF T M b) (hT : T < 1000000000) (hr : 0 ≤ r ∧ r ≤ 5) : CnM E 2 yX3_passTick cX3_passTick 3 none [.ref (b + 11), vI r] K M (fun q M2 => q = none ∧ M2 = tkM M b r) := by
  have hW0 := hW
  obtain ⟨hT0, ⟨ws1, ws2, ws3, ws4, ws5, ws6, ws7, ws8, ws9, ws10, ws11, ws12, ws13, ws14⟩, hWn, hWc⟩ := hW0
  have hW1 := WF_time hW hT
  refine Cn_of RX3 (plainFor_of_name (by decide)) rfl (Nat.le_of_ble_eq_true rfl) (fun X hX hQ => ?_)
  refine J_aload_n hX dX3_passTick_0 rfl ?_
  refine J_dup hX dX3_passTick_1 rfl ?_
  refine J_geti hX fi_RX3_39 dX3_passTick_2 (show K (b + 11) = 3 from hS 11 (by decide)) (fun r2 => ?_)
  refine J_iconst hX dX3_passTick_5 ?_
  refine J_iadd hX dX3_passTick_6 ?_
  refine J_putA hX fw_RX3_39 dX3_passTick_7 (show K (b + 11) = 3 from hS 11 (by decide)) (by omega) (Or.inl rfl) (fun m7 hm7 => ?_)
  have fm7 : ∀ i, i ≠ b + 11 → m7 i = M i := fun i h => by rw [hm7]; exact mset_ne h
  have gm7 : ∀ i j, j ≠ 1 → m7 i j = M i j := fun i j h => by rw [hm7]; exact mset_nj h
  have vm7 := (congrFun (congrFun hm7 (b + 11)) 1).trans mset_eq
  rw [← hm7] at hW1
  have hnw := now_rng hW1
  refine J_aload_n hX dX3_passTick_10 rfl ?_
  refine J_callVI hX _ dX3_passTick_11 cw_RX3_42 (m_X3_present hS hW1) ⟨(show K (b + 11) = 3 from hS 11 (by decide)), by decide, by decide, rfl⟩ rfl (Nat.le_of_ble_eq_true rfl) (by decide) ⟨Nat.zero_le _, Nat.zero_le _⟩ (fun r11 => ?_)
  refine J_istore_n hX dX3_passTick_14 (by decide) ?_
  refine J_aload_n hX dX3_passTick_15 rfl ?_
  refine J_iload_n hX dX3_passTick_16 rfl ?_
  refine J_callVB hX _ dX3_passTick_17 cw_RX3_46 (m_X3_has hS (by omega)) ⟨(show K (b + 11) = 3 from hS 11 (by decide)), by decide, by decide, rfl⟩ rfl (Nat.le_of_ble_eq_true rfl) (by decide) ⟨Nat.zero_le _, Nat.zero_le _⟩ ?_
  refine J_ifb_eq hX 59 dX3_passTick_20 (by decide) (fun c20 => ?_) (fun c20 => ?_)
  · exact J_vret hX hQ dX3_passTick_59 ⟨rfl, by first | (subst hm56 hm38 hm7; exact ⟨rfl, (if_pos (by assumption)).symm⟩) | (subst hm7; exact ⟨rfl, (if_neg (by assumption)).symm⟩)⟩ (Nat.zero_le _) (Nat.zero_le _)
  · refine J_aload_n hX dX3_passTick_23 rfl ?_
    obtain ⟨hT1, ⟨wt1, wt2, wt3, wt4, wt5, wt6, wt7, wt8, wt9, wt10, wt11, wt12, wt13, wt14⟩, hWn1, hWc1⟩ := hW1
    have q1 := hWc1 (now m7 b) (by omega) (by omega)
    refine J_aload_n hX dX3_passTick_24 rfl ?_
    refine J_geti hX fi_RX3_9 dX3_passTick_25 (show K (b + 11) = 3 from hS 11 (by decide)) (fun r25 => ?_)
    refine J_aload_n hX dX3_passTick_28 rfl ?_
    refine J_gr hX (b + 12) fr_RX3_18 dX3_passTick_29 (show K (b + 11) = 3 from hS 11 (by decide)) rfl ?_
    refine J_iload_n hX dX3_passTick_32 rfl ?_
    refine J_iald hX dX3_passTick_33 (show K (b + 12) = 1000 + 8 from hS 12 (by decide)) ⟨by omega, by omega⟩ (by decide) (fun r33 => ?_)
    refine J_iload_n hX dX3_passTick_34 rfl ?_
    refine J_callSI hX _ dX3_passTick_35 cw_RX3_50 (m_X3_towards (by omega) (by omega) (by omega)) rfl (Nat.le_of_ble_eq_true rfl) (by decide) ⟨Nat.zero_le _, Nat.zero_le _⟩ (fun r35 => ?_)
    have q4 := tow_rng (s := r) wt6 q1.1 hr.1
    refine J_putA hX fw_RX3_9 dX3_passTick_38 (show K (b + 11) = 3 from hS 11 (by decide)) (by omega) (Or.inl rfl) (fun m38 hm38 => ?_)
    have fm38 : ∀ i, i ≠ b + 11 → m38 i = m7 i := fun i h => by rw [hm38]; exact mset_ne h
    have gm38 : ∀ i j, j ≠ 2 → m38 i j = m7 i j := fun i j h => by rw [hm38]; exact mset_nj h
    have vm38 := (congrFun (congrFun hm38 (b + 11)) 2).trans mset_eq
    refine J_aload_n hX dX3_passTick_41 rfl ?_
    refine J_aload_n hX dX3_passTick_42 rfl ?_
    refine J_geti hX fi_RX3_15 dX3_passTick_43 (show K (b + 11) = 3 from hS 11 (by decide)) (fun r43 => ?_)
    have q5 := gm38 (b + 11) 3 (by decide)
    have q6 := congrFun (fm38 (b + 13) (by omega)) (now m7 b)
    refine J_aload_n hX dX3_passTick_46 rfl ?_
    refine J_gr hX (b + 13) fr_RX3_22 dX3_passTick_47 (show K (b + 11) = 3 from hS 11 (by decide)) rfl ?_
    refine J_iload_n hX dX3_passTick_50 rfl ?_
    refine J_iald hX dX3_passTick_51 (show K (b + 13) = 1000 + 8 from hS 13 (by decide)) ⟨by omega, by omega⟩ (by decide) (fun r51 => ?_)
    refine J_iload_n hX dX3_passTick_52 rfl ?_
    refine J_callSI hX _ dX3_passTick_53 cw_RX3_50 (m_X3_towards (by omega) (by omega) (by omega)) rfl (Nat.le_of_ble_eq_true rfl) (by decide) ⟨Nat.zero_le _, Nat.zero_le _⟩ (fun r53 => ?_)
    refine J_putA hX fw_RX3_15 dX3_passTick_56 (show K (b + 11) = 3 from hS 11 (by decide)) (by omega) (Or.inl rfl) (fun m56 hm56 => ?_)
    have fm56 : ∀ i, i ≠ b + 11 → m56 i = m38 i := fun i h => by rw [hm56]; exact mset_ne h
    have gm56 : ∀ i j, j ≠ 3 → m56 i j = m38 i j := fun i j h => by rw [hm56]; exact mset_nj h
    have vm56 := (congrFun (congrFun hm56 (b + 11)) 3).trans mset_eq
    exact J_vret hX hQ dX3_passTick_59 ⟨rfl, by first | (subst hm56 hm38 hm7; exact ⟨rfl, (if_pos (by assumption)).symm⟩) | (subst hm7; exact ⟨rfl, (if_neg (by assumption)).symm⟩)⟩ (Nat.zero_le _) (Nat.zero_le _)
