-- X9_within
set_option maxHeartbeats 4000000 in
set_option maxRecDepth 100000 in
theorem m_X9_within {E : EE} {K : Nat → Nat} {M : MM} {v lo hi : Int} (hv : i32 v) (hl : i32 lo) (hh : i32 hi) : CnB E 0 yX9_within cX9_within 3 [vI v, vI lo, vI hi] K M (lo ≤ v ∧ v ≤ hi) := by
  refine Cn_of RX9 (by decide) rfl (Nat.le_of_ble_eq_true rfl) (fun X hX hQ => ?_)
  refine J_iload_n hX dX9_within_0 rfl ?_
  refine J_iload_n hX dX9_within_1 rfl ?_
  refine J_icmp_lt hX 14 dX9_within_2 (by omega) (by omega) (by decide) (fun c1 => ?_) (fun c1 => ?_)
  · refine J_iconst hX dX9_within_14 ?_
    exact J_retF hX hQ dX9_within_15 (by omega) rfl rfl (Nat.zero_le _) (Nat.zero_le _)
  · refine J_iload_n hX dX9_within_5 rfl ?_
    refine J_iload_n hX dX9_within_6 rfl ?_
    refine J_icmp_gt hX 14 dX9_within_7 (by omega) (by omega) (by decide) (fun c2 => ?_) (fun c2 => ?_)
    · refine J_iconst hX dX9_within_14 ?_
      exact J_retF hX hQ dX9_within_15 (by omega) rfl rfl (Nat.zero_le _) (Nat.zero_le _)
    · refine J_iconst hX dX9_within_10 ?_
      refine J_goto hX 15 dX9_within_11 (by decide) ?_
      exact J_retT hX hQ dX9_within_15 (by omega) rfl rfl (Nat.zero_le _) (Nat.zero_le _)
-- X9_faultOfRange
set_option maxHeartbeats 4000000 in
set_option maxRecDepth 100000 in
theorem m_X9_faultOfRange {E : EE} {K : Nat → Nat} {M : MM} {v lo hi : Int} (hv : i32 v) (hl : i32 lo) (hh : i32 hi) : CnI E 1 yX9_faultOfRange cX9_faultOfRange 3 (Option.some FieldType.int) [vI v, vI lo, vI hi] K M (if lo ≤ v ∧ v ≤ hi then 0 else 2) := by
  refine ⟨Cn_of RX9 (by decide) rfl (Nat.le_of_ble_eq_true rfl) (fun X hX hQ => ?_), by split <;> omega⟩
  refine J_iload_n hX dX9_faultOfRange_0 rfl ?_
  refine J_iload_n hX dX9_faultOfRange_1 rfl ?_
  refine J_iload_n hX dX9_faultOfRange_2 rfl ?_
  refine J_callSB hX _ dX9_faultOfRange_3 cw_RX9_269 (m_X9_within (by omega) (by omega) (by omega)) rfl (Nat.le_of_ble_eq_true rfl) (by decide) ⟨Nat.zero_le _, Nat.zero_le _⟩ ?_
  refine J_ifb_eq hX 13 dX9_faultOfRange_6 (by decide) (fun c1 => ?_) (fun c1 => ?_)
  · refine J_iconst hX dX9_faultOfRange_13 ?_
    exact J_retI hX hQ dX9_faultOfRange_14 (by split <;> omega) rfl rfl (Nat.zero_le _) (Nat.zero_le _)
  · refine J_iconst hX dX9_faultOfRange_9 ?_
    refine J_goto hX 14 dX9_faultOfRange_10 (by decide) ?_
    exact J_retI hX hQ dX9_faultOfRange_14 (by split <;> omega) rfl rfl (Nat.zero_le _) (Nat.zero_le _)
-- X9_faultOfBudget
set_option maxHeartbeats 4000000 in
set_option maxRecDepth 100000 in
theorem m_X9_faultOfBudget {E : EE} {K : Nat → Nat} {M : MM} {lo hi : Int} (hl : i32 lo) (hh : i32 hi) : CnI E 1 yX9_faultOfBudget cX9_faultOfBudget 2 (Option.some FieldType.int) [vI lo, vI hi] K M (if (-20 ≤ lo ∧ lo ≤ 0) ∧ (0 ≤ hi ∧ hi ≤ 20) then 0 else 2) := by
  refine ⟨Cn_of RX9 (by decide) rfl (Nat.le_of_ble_eq_true rfl) (fun X hX hQ => ?_), by split <;> omega⟩
  refine J_iload_n hX dX9_faultOfBudget_0 rfl ?_
  refine J_bipush hX dX9_faultOfBudget_1 rfl ?_
  refine J_iconst hX dX9_faultOfBudget_3 ?_
  refine J_callSB hX _ dX9_faultOfBudget_4 cw_RX9_269 (m_X9_within (by omega) (by omega) (by omega)) rfl (Nat.le_of_ble_eq_true rfl) (by decide) ⟨Nat.zero_le _, Nat.zero_le _⟩ ?_
  refine J_ifb_eq hX 24 dX9_faultOfBudget_7 (by decide) (fun c1 => ?_) (fun c1 => ?_)
  · refine J_iconst hX dX9_faultOfBudget_24 ?_
    exact J_retI hX hQ dX9_faultOfBudget_25 (by split <;> omega) rfl rfl (Nat.zero_le _) (Nat.zero_le _)
  · refine J_iload_n hX dX9_faultOfBudget_10 rfl ?_
    refine J_iconst hX dX9_faultOfBudget_11 ?_
    refine J_bipush hX dX9_faultOfBudget_12 rfl ?_
    refine J_callSB hX _ dX9_faultOfBudget_14 cw_RX9_269 (m_X9_within (by omega) (by omega) (by omega)) rfl (Nat.le_of_ble_eq_true rfl) (by decide) ⟨Nat.zero_le _, Nat.zero_le _⟩ ?_
    refine J_ifb_eq hX 24 dX9_faultOfBudget_17 (by decide) (fun c2 => ?_) (fun c2 => ?_)
    · refine J_iconst hX dX9_faultOfBudget_24 ?_
      exact J_retI hX hQ dX9_faultOfBudget_25 (by split <;> omega) rfl rfl (Nat.zero_le _) (Nat.zero_le _)
    · refine J_iconst hX dX9_faultOfBudget_20 ?_
      refine J_goto hX 25 dX9_faultOfBudget_21 (by decide) ?_
      exact J_retI hX hQ dX9_faultOfBudget_25 (by split <;> omega) rfl rfl (Nat.zero_le _) (Nat.zero_le _)
abbrev has (M : MM) (b : Nat) (n : Int) : Prop := 0 ≤ n ∧ n < M (b + 1) 0 ∧ n < 20
abbrev box (M : MM) (b : Nat) (n : Int) : Prop := has M b n ∧ 0 < M (b + 7) n
-- X6_has
set_option maxHeartbeats 4000000 in
set_option maxRecDepth 100000 in
theorem m_X6_has {E : EE} {K : Nat → Nat} {M : MM} {b : Nat} {n : Int} (hS : StageK K b) (hn : i32 n) : CnB E 0 yX6_has cX6_has 2 [.ref (b + 1), vI n] K M (has M b n) := by
  refine Cn_of RX6 (by decide) rfl (Nat.le_of_ble_eq_true rfl) (fun X hX hQ => ?_)
  refine J_iload_n hX dX6_has_0 rfl ?_
  refine J_if_lt hX 22 dX6_has_1 (by omega) (by decide) (fun c1 => ?_) (fun c1 => ?_)
  · refine J_iconst hX dX6_has_22 ?_
    exact J_retF hX hQ dX6_has_23 (by omega) rfl rfl (Nat.zero_le _) (Nat.zero_le _)
  · refine J_iload_n hX dX6_has_4 rfl ?_
    refine J_aload_n hX dX6_has_5 rfl ?_
    refine J_geti hX fi_RX6_39 dX6_has_6 (show K (b + 1) = 6 from hS 1 (by decide)) (fun r2 => ?_)
    refine J_icmp_ge hX 22 dX6_has_9 (by omega) (by omega) (by decide) (fun c3 => ?_) (fun c3 => ?_)
    · refine J_iconst hX dX6_has_22 ?_
      exact J_retF hX hQ dX6_has_23 (by omega) rfl rfl (Nat.zero_le _) (Nat.zero_le _)
    · refine J_iload_n hX dX6_has_12 rfl ?_
      refine J_bipush hX dX6_has_13 rfl ?_
      refine J_icmp_ge hX 22 dX6_has_15 (by omega) (by decide) (by decide) (fun c4 => ?_) (fun c4 => ?_)
      · refine J_iconst hX dX6_has_22 ?_
        exact J_retF hX hQ dX6_has_23 (by omega) rfl rfl (Nat.zero_le _) (Nat.zero_le _)
      · refine J_iconst hX dX6_has_18 ?_
        refine J_goto hX 23 dX6_has_19 (by decide) ?_
        exact J_retT hX hQ dX6_has_23 (by omega) rfl rfl (Nat.zero_le _) (Nat.zero_le _)
-- X6_isBox
set_option maxHeartbeats 4000000 in
set_option maxRecDepth 100000 in
theorem m_X6_isBox {E : EE} {K : Nat → Nat} {M : MM} {b : Nat} {n : Int} (hS : StageK K b) (hn : i32 n) : CnB E 0 yX6_isBox cX6_isBox 2 [.ref (b + 1), vI n] K M (box M b n) := by
  refine Cn_of RX6 (by decide) rfl (Nat.le_of_ble_eq_true rfl) (fun X hX hQ => ?_)
  refine J_iload_n hX dX6_isBox_0 rfl ?_
  refine J_if_lt hX 31 dX6_isBox_1 (by omega) (by decide) (fun c1 => ?_) (fun c1 => ?_)
  · refine J_iconst hX dX6_isBox_31 ?_
    exact J_retF hX hQ dX6_isBox_32 (by omega) rfl rfl (Nat.zero_le _) (Nat.zero_le _)
  · refine J_iload_n hX dX6_isBox_4 rfl ?_
    refine J_aload_n hX dX6_isBox_5 rfl ?_
    refine J_geti hX fi_RX6_39 dX6_isBox_6 (show K (b + 1) = 6 from hS 1 (by decide)) (fun r2 => ?_)
    refine J_icmp_ge hX 31 dX6_isBox_9 (by omega) (by omega) (by decide) (fun c3 => ?_) (fun c3 => ?_)
    · refine J_iconst hX dX6_isBox_31 ?_
      exact J_retF hX hQ dX6_isBox_32 (by omega) rfl rfl (Nat.zero_le _) (Nat.zero_le _)
    · refine J_iload_n hX dX6_isBox_12 rfl ?_
      refine J_bipush hX dX6_isBox_13 rfl ?_
      refine J_icmp_ge hX 31 dX6_isBox_15 (by omega) (by decide) (by decide) (fun c4 => ?_) (fun c4 => ?_)
      · refine J_iconst hX dX6_isBox_31 ?_
        exact J_retF hX hQ dX6_isBox_32 (by omega) rfl rfl (Nat.zero_le _) (Nat.zero_le _)
      · refine J_aload_n hX dX6_isBox_18 rfl ?_
        refine J_gr hX (b + 7) fr_RX6_27 dX6_isBox_19 (show K (b + 1) = 6 from hS 1 (by decide)) rfl ?_
        refine J_iload_n hX dX6_isBox_22 rfl ?_
        refine J_iald hX dX6_isBox_23 (show K (b + 7) = 1000 + 20 from hS 7 (by decide)) ⟨by omega, by omega⟩ (by decide) (fun r5 => ?_)
        refine J_if_le hX 31 dX6_isBox_24 (by omega) (by decide) (fun c6 => ?_) (fun c6 => ?_)
        · refine J_iconst hX dX6_isBox_31 ?_
          exact J_retF hX hQ dX6_isBox_32 (by omega) rfl rfl (Nat.zero_le _) (Nat.zero_le _)
        · refine J_iconst hX dX6_isBox_27 ?_
          refine J_goto hX 32 dX6_isBox_28 (by decide) ?_
          exact J_retT hX hQ dX6_isBox_32 (by omega) rfl rfl (Nat.zero_le _) (Nat.zero_le _)
-- X6_faultOfNumber
set_option maxHeartbeats 4000000 in
set_option maxRecDepth 100000 in
theorem m_X6_faultOfNumber {E : EE} {K : Nat → Nat} {M : MM} {b : Nat} {n : Int} (hS : StageK K b) (hn : i32 n) : CnI E 1 yX6_faultOfNumber cX6_faultOfNumber 2 (Option.some FieldType.int) [.ref (b + 1), vI n] K M (if has M b n then 0 else 1) := by
  refine ⟨Cn_of RX6 (by decide) rfl (Nat.le_of_ble_eq_true rfl) (fun X hX hQ => ?_), by split <;> omega⟩
  refine J_aload_n hX dX6_faultOfNumber_0 rfl ?_
  refine J_iload_n hX dX6_faultOfNumber_1 rfl ?_
  refine J_callVB hX _ dX6_faultOfNumber_2 cw_RX6_47 (m_X6_has hS (by omega)) ⟨(show K (b + 1) = 6 from hS 1 (by decide)), by decide, by decide, rfl⟩ rfl (Nat.le_of_ble_eq_true rfl) (by decide) ⟨Nat.zero_le _, Nat.zero_le _⟩ ?_
  refine J_ifb_eq hX 12 dX6_faultOfNumber_5 (by decide) (fun c1 => ?_) (fun c1 => ?_)
  · refine J_iconst hX dX6_faultOfNumber_12 ?_
    exact J_retI hX hQ dX6_faultOfNumber_13 (by split <;> omega) rfl rfl (Nat.zero_le _) (Nat.zero_le _)
  · refine J_iconst hX dX6_faultOfNumber_8 ?_
    refine J_goto hX 13 dX6_faultOfNumber_9 (by decide) ?_
    exact J_retI hX hQ dX6_faultOfNumber_13 (by split <;> omega) rfl rfl (Nat.zero_le _) (Nat.zero_le _)
-- X6_isCoordinate
set_option maxHeartbeats 4000000 in
set_option maxRecDepth 100000 in
theorem m_X6_isCoordinate {E : EE} {K : Nat → Nat} {M : MM} {v : Int} (hv : i32 v) : CnB E 0 yX6_isCoordinate cX6_isCoordinate 1 [vI v] K M (-200 ≤ v ∧ v ≤ 200) := by
  refine Cn_of RX6 (by decide) rfl (Nat.le_of_ble_eq_true rfl) (fun X hX hQ => ?_)
  refine J_iload_n hX dX6_isCoordinate_0 rfl ?_
  refine J_sipush hX dX6_isCoordinate_1 rfl ?_
  refine J_icmp_lt hX 18 dX6_isCoordinate_4 (by omega) (by decide) (by decide) (fun c1 => ?_) (fun c1 => ?_)
  · refine J_iconst hX dX6_isCoordinate_18 ?_
    exact J_retF hX hQ dX6_isCoordinate_19 (by omega) rfl rfl (Nat.zero_le _) (Nat.zero_le _)
  · refine J_iload_n hX dX6_isCoordinate_7 rfl ?_
    refine J_sipush hX dX6_isCoordinate_8 rfl ?_
    refine J_icmp_gt hX 18 dX6_isCoordinate_11 (by omega) (by decide) (by decide) (fun c2 => ?_) (fun c2 => ?_)
    · refine J_iconst hX dX6_isCoordinate_18 ?_
      exact J_retF hX hQ dX6_isCoordinate_19 (by omega) rfl rfl (Nat.zero_le _) (Nat.zero_le _)
    · refine J_iconst hX dX6_isCoordinate_14 ?_
      refine J_goto hX 19 dX6_isCoordinate_15 (by decide) ?_
      exact J_retT hX hQ dX6_isCoordinate_19 (by omega) rfl rfl (Nat.zero_le _) (Nat.zero_le _)
-- X6_isPlace
set_option maxHeartbeats 4000000 in
set_option maxRecDepth 100000 in
theorem m_X6_isPlace {E : EE} {K : Nat → Nat} {M : MM} {u v w : Int} (hu : i32 u) (hv : i32 v) (hw : i32 w) : CnB E 1 yX6_isPlace cX6_isPlace 3 [vI u, vI v, vI w] K M ((-200 ≤ u ∧ u ≤ 200) ∧ (-200 ≤ v ∧ v ≤ 200) ∧ (-200 ≤ w ∧ w ≤ 200)) := by
  refine Cn_of RX6 (by decide) rfl (Nat.le_of_ble_eq_true rfl) (fun X hX hQ => ?_)
  refine J_iload_n hX dX6_isPlace_0 rfl ?_
  refine J_callSB hX _ dX6_isPlace_1 cw_RX6_50 (m_X6_isCoordinate (by omega)) rfl (Nat.le_of_ble_eq_true rfl) (by decide) ⟨Nat.zero_le _, Nat.zero_le _⟩ ?_
  refine J_ifb_eq hX 25 dX6_isPlace_4 (by decide) (fun c1 => ?_) (fun c1 => ?_)
  · refine J_iconst hX dX6_isPlace_25 ?_
    exact J_retF hX hQ dX6_isPlace_26 (by omega) rfl rfl (Nat.zero_le _) (Nat.zero_le _)
  · refine J_iload_n hX dX6_isPlace_7 rfl ?_
    refine J_callSB hX _ dX6_isPlace_8 cw_RX6_50 (m_X6_isCoordinate (by omega)) rfl (Nat.le_of_ble_eq_true rfl) (by decide) ⟨Nat.zero_le _, Nat.zero_le _⟩ ?_
    refine J_ifb_eq hX 25 dX6_isPlace_11 (by decide) (fun c2 => ?_) (fun c2 => ?_)
    · refine J_iconst hX dX6_isPlace_25 ?_
      exact J_retF hX hQ dX6_isPlace_26 (by omega) rfl rfl (Nat.zero_le _) (Nat.zero_le _)
    · refine J_iload_n hX dX6_isPlace_14 rfl ?_
      refine J_callSB hX _ dX6_isPlace_15 cw_RX6_50 (m_X6_isCoordinate (by omega)) rfl (Nat.le_of_ble_eq_true rfl) (by decide) ⟨Nat.zero_le _, Nat.zero_le _⟩ ?_
      refine J_ifb_eq hX 25 dX6_isPlace_18 (by decide) (fun c3 => ?_) (fun c3 => ?_)
      · refine J_iconst hX dX6_isPlace_25 ?_
        exact J_retF hX hQ dX6_isPlace_26 (by omega) rfl rfl (Nat.zero_le _) (Nat.zero_le _)
      · refine J_iconst hX dX6_isPlace_21 ?_
        refine J_goto hX 26 dX6_isPlace_22 (by decide) ?_
        exact J_retT hX hQ dX6_isPlace_26 (by omega) rfl rfl (Nat.zero_le _) (Nat.zero_le _)
