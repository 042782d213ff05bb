-- J9_floorDiv_7cf53
set_option maxHeartbeats 4000000 in
set_option maxRecDepth 100000 in
theorem m_J9_floorDiv_7cf53 {E : EE} {K : Nat → Nat} {M : MM} {x y : Int} (hx : i32 x) (hy : y = 2 ∨ y = 100) : CnI E 0 yJ9_floorDiv_7cf53 cJ9_floorDiv_7cf53 3 (Option.some FieldType.int) [vI x, vI y] K M (x / y) := by
  have h1 := fd_pos (x := x) (y := y) (by omega)
  have h2 := td_rng (x := x) (y := y) hx hy
  refine ⟨Cn_of RJ9 (by decide +kernel) rfl (Nat.le_of_ble_eq_true rfl) (fun X hX hQ => ?_), fd_rng hx (by omega)⟩
  refine J_iload_n hX dJ9_floorDiv_7cf53_0 rfl ?_
  refine J_iload_n hX dJ9_floorDiv_7cf53_1 rfl ?_
  refine J_idiv hX dJ9_floorDiv_7cf53_2 (by omega) ⟨by omega, by omega⟩ ?_
  refine J_istore_n hX dJ9_floorDiv_7cf53_3 (by decide) ?_
  refine J_iload_n hX dJ9_floorDiv_7cf53_4 rfl ?_
  refine J_iload_n hX dJ9_floorDiv_7cf53_5 rfl ?_
  refine J_ixor hX dJ9_floorDiv_7cf53_6 (by omega) (by omega) (fun z6 rz6 hz6 => ?_)
  refine J_if_ge hX 21 dJ9_floorDiv_7cf53_7 (by omega) (by decide) (fun c7 => ?_) (fun c7 => ?_)
  · refine J_iload_n hX dJ9_floorDiv_7cf53_21 rfl ?_
    exact J_retI hX hQ dJ9_floorDiv_7cf53_22 (by first | (rw [← h1, if_pos (by omega)]) | (rw [← h1, if_neg (by omega)])) rfl rfl (Nat.zero_le _) (Nat.zero_le _)
  · refine J_iload_n hX dJ9_floorDiv_7cf53_10 rfl ?_
    refine J_iload_n hX dJ9_floorDiv_7cf53_11 rfl ?_
    refine J_imul hX dJ9_floorDiv_7cf53_12 ?_
    refine J_iload_n hX dJ9_floorDiv_7cf53_13 rfl ?_
    refine J_icmp_eq hX 21 dJ9_floorDiv_7cf53_14 (by omega) (by omega) (by decide) (fun c14 => ?_) (fun c14 => ?_)
    · refine J_iload_n hX dJ9_floorDiv_7cf53_21 rfl ?_
      exact J_retI hX hQ dJ9_floorDiv_7cf53_22 (by first | (rw [← h1, if_pos (by omega)]) | (rw [← h1, if_neg (by omega)])) rfl rfl (Nat.zero_le _) (Nat.zero_le _)
    · refine J_iload_n hX dJ9_floorDiv_7cf53_17 rfl ?_
      refine J_iconst hX dJ9_floorDiv_7cf53_18 ?_
      refine J_isub hX dJ9_floorDiv_7cf53_19 ?_
      exact J_retI hX hQ dJ9_floorDiv_7cf53_20 (by first | (rw [← h1, if_pos (by omega)]) | (rw [← h1, if_neg (by omega)])) rfl rfl (Nat.zero_le _) (Nat.zero_le _)
-- J9_min_7cf53
set_option maxHeartbeats 4000000 in
set_option maxRecDepth 100000 in
theorem m_J9_min_7cf53 {E : EE} {K : Nat → Nat} {M : MM} {x y : Int} (hx : i32 x) (hy : i32 y) : CnI E 0 yJ9_min_7cf53 cJ9_min_7cf53 2 (Option.some FieldType.int) [vI x, vI y] K M (if y < x then y else x) := by
  refine ⟨Cn_of RJ9 (by decide +kernel) rfl (Nat.le_of_ble_eq_true rfl) (fun X hX hQ => ?_), by split <;> omega⟩
  refine J_iload_n hX dJ9_min_7cf53_0 rfl ?_
  refine J_iload_n hX dJ9_min_7cf53_1 rfl ?_
  refine J_icmp_gt hX 9 dJ9_min_7cf53_2 (by omega) (by omega) (by decide) (fun c2 => ?_) (fun c2 => ?_)
  · refine J_iload_n hX dJ9_min_7cf53_9 rfl ?_
    exact J_retI hX hQ dJ9_min_7cf53_10 (by split <;> omega) rfl rfl (Nat.zero_le _) (Nat.zero_le _)
  · refine J_iload_n hX dJ9_min_7cf53_5 rfl ?_
    refine J_goto hX 10 dJ9_min_7cf53_6 (by decide) ?_
    exact J_retI hX hQ dJ9_min_7cf53_10 (by split <;> omega) rfl rfl (Nat.zero_le _) (Nat.zero_le _)
-- J9_max_7cf53
set_option maxHeartbeats 4000000 in
set_option maxRecDepth 100000 in
theorem m_J9_max_7cf53 {E : EE} {K : Nat → Nat} {M : MM} {x y : Int} (hx : i32 x) (hy : i32 y) : CnI E 0 yJ9_max_7cf53 cJ9_max_7cf53 2 (Option.some FieldType.int) [vI x, vI y] K M (if x < y then y else x) := by
  refine ⟨Cn_of RJ9 (by decide +kernel) rfl (Nat.le_of_ble_eq_true rfl) (fun X hX hQ => ?_), by split <;> omega⟩
  refine J_iload_n hX dJ9_max_7cf53_0 rfl ?_
  refine J_iload_n hX dJ9_max_7cf53_1 rfl ?_
  refine J_icmp_lt hX 9 dJ9_max_7cf53_2 (by omega) (by omega) (by decide) (fun c2 => ?_) (fun c2 => ?_)
  · refine J_iload_n hX dJ9_max_7cf53_9 rfl ?_
    exact J_retI hX hQ dJ9_max_7cf53_10 (by split <;> omega) rfl rfl (Nat.zero_le _) (Nat.zero_le _)
  · refine J_iload_n hX dJ9_max_7cf53_5 rfl ?_
    refine J_goto hX 10 dJ9_max_7cf53_6 (by decide) ?_
    exact J_retI hX hQ dJ9_max_7cf53_10 (by split <;> omega) rfl rfl (Nat.zero_le _) (Nat.zero_le _)
-- J9_abs_0f7a4
set_option maxHeartbeats 4000000 in
set_option maxRecDepth 100000 in
theorem m_J9_abs_0f7a4 {E : EE} {K : Nat → Nat} {M : MM} {x : Int} (hx : -2147483647 ≤ x ∧ x ≤ 2147483647) : CnI E 0 yJ9_abs_0f7a4 cJ9_abs_0f7a4 1 (Option.some FieldType.int) [vI x] K M (if x < 0 then -x else x) := by
  refine ⟨Cn_of RJ9 (by decide +kernel) rfl (Nat.le_of_ble_eq_true rfl) (fun X hX hQ => ?_), by split <;> omega⟩
  refine J_iload_n hX dJ9_abs_0f7a4_0 rfl ?_
  refine J_if_ge hX 9 dJ9_abs_0f7a4_1 (by omega) (by decide) (fun c1 => ?_) (fun c1 => ?_)
  · refine J_iload_n hX dJ9_abs_0f7a4_9 rfl ?_
    exact J_retI hX hQ dJ9_abs_0f7a4_10 (by split <;> omega) rfl rfl (Nat.zero_le _) (Nat.zero_le _)
  · refine J_iload_n hX dJ9_abs_0f7a4_4 rfl ?_
    refine J_ineg hX dJ9_abs_0f7a4_5 ?_
    refine J_goto hX 10 dJ9_abs_0f7a4_6 (by decide) ?_
    exact J_retI hX hQ dJ9_abs_0f7a4_10 (by split <;> omega) rfl rfl (Nat.zero_le _) (Nat.zero_le _)
-- X9_within
set_option maxHeartbeats 4000000 in
set_option maxRecDepth 100000 in
theorem m_X9_within {E : EE} {K : Nat → Nat} {M : MM} {v lo hi : Int} (hv : i32 v) (hl : i32 lo) (hh : i32 hi) : CnB E 0 yX9_within cX9_within 3 [vI v, vI lo, vI hi] K M (lo ≤ v ∧ v ≤ hi) := by
  refine Cn_of RX9 (plainFor_of_name (by decide)) rfl (Nat.le_of_ble_eq_true rfl) (fun X hX hQ => ?_)
  refine J_iload_n hX dX9_within_0 rfl ?_
  refine J_iload_n hX dX9_within_1 rfl ?_
  refine J_icmp_lt hX 14 dX9_within_2 (by omega) (by omega) (by decide) (fun c2 => ?_) (fun c2 => ?_)
  · refine J_iconst hX dX9_within_14 ?_
    exact J_retF hX hQ dX9_within_15 (by omega) rfl rfl (Nat.zero_le _) (Nat.zero_le _)
  · refine J_iload_n hX dX9_within_5 rfl ?_
    refine J_iload_n hX dX9_within_6 rfl ?_
    refine J_icmp_gt hX 14 dX9_within_7 (by omega) (by omega) (by decide) (fun c7 => ?_) (fun c7 => ?_)
    · refine J_iconst hX dX9_within_14 ?_
      exact J_retF hX hQ dX9_within_15 (by omega) rfl rfl (Nat.zero_le _) (Nat.zero_le _)
    · refine J_iconst hX dX9_within_10 ?_
      refine J_goto hX 15 dX9_within_11 (by decide) ?_
      exact J_retT hX hQ dX9_within_15 (by omega) rfl rfl (Nat.zero_le _) (Nat.zero_le _)
-- X9_faultOfRange
set_option maxHeartbeats 4000000 in
set_option maxRecDepth 100000 in
theorem m_X9_faultOfRange {E : EE} {K : Nat → Nat} {M : MM} {v lo hi : Int} (hv : i32 v) (hl : i32 lo) (hh : i32 hi) : CnI E 1 yX9_faultOfRange cX9_faultOfRange 3 (Option.some FieldType.int) [vI v, vI lo, vI hi] K M (if lo ≤ v ∧ v ≤ hi then 0 else 2) := by
  refine ⟨Cn_of RX9 (plainFor_of_name (by decide)) rfl (Nat.le_of_ble_eq_true rfl) (fun X hX hQ => ?_), by split <;> omega⟩
  refine J_iload_n hX dX9_faultOfRange_0 rfl ?_
  refine J_iload_n hX dX9_faultOfRange_1 rfl ?_
  refine J_iload_n hX dX9_faultOfRange_2 rfl ?_
  refine J_callSB hX _ dX9_faultOfRange_3 cw_RX9_269 (m_X9_within (by omega) (by omega) (by omega)) rfl (Nat.le_of_ble_eq_true rfl) (by decide) ⟨Nat.zero_le _, Nat.zero_le _⟩ ?_
  refine J_ifb_eq hX 13 dX9_faultOfRange_6 (by decide) (fun c6 => ?_) (fun c6 => ?_)
  · refine J_iconst hX dX9_faultOfRange_13 ?_
    exact J_retI hX hQ dX9_faultOfRange_14 (by split <;> omega) rfl rfl (Nat.zero_le _) (Nat.zero_le _)
  · refine J_iconst hX dX9_faultOfRange_9 ?_
    refine J_goto hX 14 dX9_faultOfRange_10 (by decide) ?_
    exact J_retI hX hQ dX9_faultOfRange_14 (by split <;> omega) rfl rfl (Nat.zero_le _) (Nat.zero_le _)
-- X9_faultOfBudget
set_option maxHeartbeats 4000000 in
set_option maxRecDepth 100000 in
theorem m_X9_faultOfBudget {E : EE} {K : Nat → Nat} {M : MM} {lo hi : Int} (hl : i32 lo) (hh : i32 hi) : CnI E 1 yX9_faultOfBudget cX9_faultOfBudget 2 (Option.some FieldType.int) [vI lo, vI hi] K M (if (-20 ≤ lo ∧ lo ≤ 0) ∧ (0 ≤ hi ∧ hi ≤ 20) then 0 else 2) := by
  refine ⟨Cn_of RX9 (plainFor_of_name (by decide)) rfl (Nat.le_of_ble_eq_true rfl) (fun X hX hQ => ?_), by split <;> omega⟩
  refine J_iload_n hX dX9_faultOfBudget_0 rfl ?_
  refine J_bipush hX dX9_faultOfBudget_1 rfl ?_
  refine J_iconst hX dX9_faultOfBudget_3 ?_
  refine J_callSB hX _ dX9_faultOfBudget_4 cw_RX9_269 (m_X9_within (by omega) (by omega) (by omega)) rfl (Nat.le_of_ble_eq_true rfl) (by decide) ⟨Nat.zero_le _, Nat.zero_le _⟩ ?_
  refine J_ifb_eq hX 24 dX9_faultOfBudget_7 (by decide) (fun c7 => ?_) (fun c7 => ?_)
  · refine J_iconst hX dX9_faultOfBudget_24 ?_
    exact J_retI hX hQ dX9_faultOfBudget_25 (by split <;> omega) rfl rfl (Nat.zero_le _) (Nat.zero_le _)
  · refine J_iload_n hX dX9_faultOfBudget_10 rfl ?_
    refine J_iconst hX dX9_faultOfBudget_11 ?_
    refine J_bipush hX dX9_faultOfBudget_12 rfl ?_
    refine J_callSB hX _ dX9_faultOfBudget_14 cw_RX9_269 (m_X9_within (by omega) (by omega) (by omega)) rfl (Nat.le_of_ble_eq_true rfl) (by decide) ⟨Nat.zero_le _, Nat.zero_le _⟩ ?_
    refine J_ifb_eq hX 24 dX9_faultOfBudget_17 (by decide) (fun c17 => ?_) (fun c17 => ?_)
    · refine J_iconst hX dX9_faultOfBudget_24 ?_
      exact J_retI hX hQ dX9_faultOfBudget_25 (by split <;> omega) rfl rfl (Nat.zero_le _) (Nat.zero_le _)
    · refine J_iconst hX dX9_faultOfBudget_20 ?_
      refine J_goto hX 25 dX9_faultOfBudget_21 (by decide) ?_
      exact J_retI hX hQ dX9_faultOfBudget_25 (by split <;> omega) rfl rfl (Nat.zero_le _) (Nat.zero_le _)
-- X6_has
set_option maxHeartbeats 4000000 in
set_option maxRecDepth 100000 in
theorem m_X6_has {E : EE} {K : Nat → Nat} {M : MM} {b : Nat} {n : Int} (hS : StageK K b) (hn : i32 n) : CnB E 0 yX6_has cX6_has 2 [.ref (b + 1), vI n] K M (has M b n) := by
  refine Cn_of RX6 (plainFor_of_name (by decide)) rfl (Nat.le_of_ble_eq_true rfl) (fun X hX hQ => ?_)
  refine J_iload_n hX dX6_has_0 rfl ?_
  refine J_if_lt hX 22 dX6_has_1 (by omega) (by decide) (fun c1 => ?_) (fun c1 => ?_)
  · refine J_iconst hX dX6_has_22 ?_
    exact J_retF hX hQ dX6_has_23 (by omega) rfl rfl (Nat.zero_le _) (Nat.zero_le _)
  · refine J_iload_n hX dX6_has_4 rfl ?_
    refine J_aload_n hX dX6_has_5 rfl ?_
    refine J_geti hX fi_RX6_39 dX6_has_6 (show K (b + 1) = 6 from hS 1 (by decide)) (fun r6 => ?_)
    refine J_icmp_ge hX 22 dX6_has_9 (by omega) (by omega) (by decide) (fun c9 => ?_) (fun c9 => ?_)
    · refine J_iconst hX dX6_has_22 ?_
      exact J_retF hX hQ dX6_has_23 (by omega) rfl rfl (Nat.zero_le _) (Nat.zero_le _)
    · refine J_iload_n hX dX6_has_12 rfl ?_
      refine J_bipush hX dX6_has_13 rfl ?_
      refine J_icmp_ge hX 22 dX6_has_15 (by omega) (by decide) (by decide) (fun c15 => ?_) (fun c15 => ?_)
      · refine J_iconst hX dX6_has_22 ?_
        exact J_retF hX hQ dX6_has_23 (by omega) rfl rfl (Nat.zero_le _) (Nat.zero_le _)
      · refine J_iconst hX dX6_has_18 ?_
        refine J_goto hX 23 dX6_has_19 (by decide) ?_
        exact J_retT hX hQ dX6_has_23 (by omega) rfl rfl (Nat.zero_le _) (Nat.zero_le _)
-- X6_isBox
set_option maxHeartbeats 4000000 in
set_option maxRecDepth 100000 in
theorem m_X6_isBox {E : EE} {K : Nat → Nat} {M : MM} {b : Nat} {n : Int} (hS : StageK K b) (hn : i32 n) : CnB E 0 yX6_isBox cX6_isBox 2 [.ref (b + 1), vI n] K M (box M b n) := by
  refine Cn_of RX6 (plainFor_of_name (by decide)) rfl (Nat.le_of_ble_eq_true rfl) (fun X hX hQ => ?_)
  refine J_iload_n hX dX6_isBox_0 rfl ?_
  refine J_if_lt hX 31 dX6_isBox_1 (by omega) (by decide) (fun c1 => ?_) (fun c1 => ?_)
  · refine J_iconst hX dX6_isBox_31 ?_
    exact J_retF hX hQ dX6_isBox_32 (by omega) rfl rfl (Nat.zero_le _) (Nat.zero_le _)
  · refine J_iload_n hX dX6_isBox_4 rfl ?_
    refine J_aload_n hX dX6_isBox_5 rfl ?_
    refine J_geti hX fi_RX6_39 dX6_isBox_6 (show K (b + 1) = 6 from hS 1 (by decide)) (fun r6 => ?_)
    refine J_icmp_ge hX 31 dX6_isBox_9 (by omega) (by omega) (by decide) (fun c9 => ?_) (fun c9 => ?_)
    · refine J_iconst hX dX6_isBox_31 ?_
      exact J_retF hX hQ dX6_isBox_32 (by omega) rfl rfl (Nat.zero_le _) (Nat.zero_le _)
    · refine J_iload_n hX dX6_isBox_12 rfl ?_
      refine J_bipush hX dX6_isBox_13 rfl ?_
      refine J_icmp_ge hX 31 dX6_isBox_15 (by omega) (by decide) (by decide) (fun c15 => ?_) (fun c15 => ?_)
      · refine J_iconst hX dX6_isBox_31 ?_
        exact J_retF hX hQ dX6_isBox_32 (by omega) rfl rfl (Nat.zero_le _) (Nat.zero_le _)
      · refine J_aload_n hX dX6_isBox_18 rfl ?_
        refine J_gr hX (b + 7) fr_RX6_27 dX6_isBox_19 (show K (b + 1) = 6 from hS 1 (by decide)) rfl ?_
        refine J_iload_n hX dX6_isBox_22 rfl ?_
        refine J_iald hX dX6_isBox_23 (show K (b + 7) = 1000 + 20 from hS 7 (by decide)) ⟨by omega, by omega⟩ (by decide) (fun r23 => ?_)
        refine J_if_le hX 31 dX6_isBox_24 (by omega) (by decide) (fun c24 => ?_) (fun c24 => ?_)
        · refine J_iconst hX dX6_isBox_31 ?_
          exact J_retF hX hQ dX6_isBox_32 (by omega) rfl rfl (Nat.zero_le _) (Nat.zero_le _)
        · refine J_iconst hX dX6_isBox_27 ?_
          refine J_goto hX 32 dX6_isBox_28 (by decide) ?_
          exact J_retT hX hQ dX6_isBox_32 (by omega) rfl rfl (Nat.zero_le _) (Nat.zero_le _)
-- X6_faultOfNumber
set_option maxHeartbeats 4000000 in
set_option maxRecDepth 100000 in
theorem m_X6_faultOfNumber {E : EE} {K : Nat → Nat} {M : MM} {b : Nat} {n : Int} (hS : StageK K b) (hn : i32 n) : CnI E 1 yX6_faultOfNumber cX6_faultOfNumber 2 (Option.some FieldType.int) [.ref (b + 1), vI n] K M (if has M b n then 0 else 1) := by
  refine ⟨Cn_of RX6 (plainFor_of_name (by decide)) rfl (Nat.le_of_ble_eq_true rfl) (fun X hX hQ => ?_), by split <;> omega⟩
  refine J_aload_n hX dX6_faultOfNumber_0 rfl ?_
  refine J_iload_n hX dX6_faultOfNumber_1 rfl ?_
  refine J_callVB hX _ dX6_faultOfNumber_2 cw_RX6_47 (m_X6_has hS (by omega)) ⟨(show K (b + 1) = 6 from hS 1 (by decide)), by decide, by decide, rfl⟩ rfl (Nat.le_of_ble_eq_true rfl) (by decide) ⟨Nat.zero_le _, Nat.zero_le _⟩ ?_
  refine J_ifb_eq hX 12 dX6_faultOfNumber_5 (by decide) (fun c5 => ?_) (fun c5 => ?_)
  · refine J_iconst hX dX6_faultOfNumber_12 ?_
    exact J_retI hX hQ dX6_faultOfNumber_13 (by split <;> omega) rfl rfl (Nat.zero_le _) (Nat.zero_le _)
  · refine J_iconst hX dX6_faultOfNumber_8 ?_
    refine J_goto hX 13 dX6_faultOfNumber_9 (by decide) ?_
    exact J_retI hX hQ dX6_faultOfNumber_13 (by split <;> omega) rfl rfl (Nat.zero_le _) (Nat.zero_le _)
-- X6_isCoordinate
set_option maxHeartbeats 4000000 in
set_option maxRecDepth 100000 in
theorem m_X6_isCoordinate {E : EE} {K : Nat → Nat} {M : MM} {v : Int} (hv : i32 v) : CnB E 0 yX6_isCoordinate cX6_isCoordinate 1 [vI v] K M (-200 ≤ v ∧ v ≤ 200) := by
  refine Cn_of RX6 (plainFor_of_name (by decide)) rfl (Nat.le_of_ble_eq_true rfl) (fun X hX hQ => ?_)
  refine J_iload_n hX dX6_isCoordinate_0 rfl ?_
  refine J_sipush hX dX6_isCoordinate_1 rfl ?_
  refine J_icmp_lt hX 18 dX6_isCoordinate_4 (by omega) (by decide) (by decide) (fun c4 => ?_) (fun c4 => ?_)
  · refine J_iconst hX dX6_isCoordinate_18 ?_
    exact J_retF hX hQ dX6_isCoordinate_19 (by omega) rfl rfl (Nat.zero_le _) (Nat.zero_le _)
  · refine J_iload_n hX dX6_isCoordinate_7 rfl ?_
    refine J_sipush hX dX6_isCoordinate_8 rfl ?_
    refine J_icmp_gt hX 18 dX6_isCoordinate_11 (by omega) (by decide) (by decide) (fun c11 => ?_) (fun c11 => ?_)
    · refine J_iconst hX dX6_isCoordinate_18 ?_
      exact J_retF hX hQ dX6_isCoordinate_19 (by omega) rfl rfl (Nat.zero_le _) (Nat.zero_le _)
    · refine J_iconst hX dX6_isCoordinate_14 ?_
      refine J_goto hX 19 dX6_isCoordinate_15 (by decide) ?_
      exact J_retT hX hQ dX6_isCoordinate_19 (by omega) rfl rfl (Nat.zero_le _) (Nat.zero_le _)
-- X6_isPlace
set_option maxHeartbeats 4000000 in
set_option maxRecDepth 100000 in
theorem m_X6_isPlace {E : EE} {K : Nat → Nat} {M : MM} {u v w : Int} (hu : i32 u) (hv : i32 v) (hw : i32 w) : CnB E 1 yX6_isPlace cX6_isPlace 3 [vI u, vI v, vI w] K M (plc u v w) := by
  refine Cn_of RX6 (plainFor_of_name (by decide)) rfl (Nat.le_of_ble_eq_true rfl) (fun X hX hQ => ?_)
  refine J_iload_n hX dX6_isPlace_0 rfl ?_
  refine J_callSB hX _ dX6_isPlace_1 cw_RX6_50 (m_X6_isCoordinate (by omega)) rfl (Nat.le_of_ble_eq_true rfl) (by decide) ⟨Nat.zero_le _, Nat.zero_le _⟩ ?_
  refine J_ifb_eq hX 25 dX6_isPlace_4 (by decide) (fun c4 => ?_) (fun c4 => ?_)
  · refine J_iconst hX dX6_isPlace_25 ?_
    exact J_retF hX hQ dX6_isPlace_26 (by omega) rfl rfl (Nat.zero_le _) (Nat.zero_le _)
  · refine J_iload_n hX dX6_isPlace_7 rfl ?_
    refine J_callSB hX _ dX6_isPlace_8 cw_RX6_50 (m_X6_isCoordinate (by omega)) rfl (Nat.le_of_ble_eq_true rfl) (by decide) ⟨Nat.zero_le _, Nat.zero_le _⟩ ?_
    refine J_ifb_eq hX 25 dX6_isPlace_11 (by decide) (fun c11 => ?_) (fun c11 => ?_)
    · refine J_iconst hX dX6_isPlace_25 ?_
      exact J_retF hX hQ dX6_isPlace_26 (by omega) rfl rfl (Nat.zero_le _) (Nat.zero_le _)
    · refine J_iload_n hX dX6_isPlace_14 rfl ?_
      refine J_callSB hX _ dX6_isPlace_15 cw_RX6_50 (m_X6_isCoordinate (by omega)) rfl (Nat.le_of_ble_eq_true rfl) (by decide) ⟨Nat.zero_le _, Nat.zero_le _⟩ ?_
      refine J_ifb_eq hX 25 dX6_isPlace_18 (by decide) (fun c18 => ?_) (fun c18 => ?_)
      · refine J_iconst hX dX6_isPlace_25 ?_
        exact J_retF hX hQ dX6_isPlace_26 (by omega) rfl rfl (Nat.zero_le _) (Nat.zero_le _)
      · refine J_iconst hX dX6_isPlace_21 ?_
        refine J_goto hX 26 dX6_isPlace_22 (by decide) ?_
        exact J_retT hX hQ dX6_isPlace_26 (by omega) rfl rfl (Nat.zero_le _) (Nat.zero_le _)
-- X6_aroundChildOf
set_option maxHeartbeats 4000000 in
set_option maxRecDepth 100000 in
theorem m_X6_aroundChildOf {E : EE} {K : Nat → Nat} {M : MM} {b : Nat} {T p : Int} (hS : StageK K b) (hW : WF T M b) (hn : i32 p) : CnI E 1 yX6_aroundChildOf cX6_aroundChildOf 2 (Option.some FieldType.int) [.ref (b + 1), vI p] K M (arC M b p) := by
  have hW0 := hW
  obtain ⟨hT0, ⟨ws1, ws2, ws3, ws4, ws5, ws6, ws7, ws8, ws9, ws10, ws11, ws12, ws13, ws14⟩, hWn, hWc⟩ := hW0
  refine ⟨Cn_of RX6 (plainFor_of_name (by decide)) rfl (Nat.le_of_ble_eq_true rfl) (fun X hX hQ => ?_), by unfold arC; split; have := hWn p (by omega) (by omega); omega; omega⟩
  refine J_aload_n hX dX6_aroundChildOf_0 rfl ?_
  refine J_iload_n hX dX6_aroundChildOf_1 rfl ?_
  refine J_callVB hX _ dX6_aroundChildOf_2 cw_RX6_47 (m_X6_has hS (by omega)) ⟨(show K (b + 1) = 6 from hS 1 (by decide)), by decide, by decide, rfl⟩ rfl (Nat.le_of_ble_eq_true rfl) (by decide) ⟨Nat.zero_le _, Nat.zero_le _⟩ ?_
  refine J_ifb_eq hX 19 dX6_aroundChildOf_5 (by decide) (fun c5 => ?_) (fun c5 => ?_)
  · refine J_iconst hX dX6_aroundChildOf_19 ?_
    exact J_retI hX hQ dX6_aroundChildOf_20 (by unfold arC; split <;> omega) rfl rfl (Nat.zero_le _) (Nat.zero_le _)
  · refine J_aload_n hX dX6_aroundChildOf_8 rfl ?_
    refine J_gr hX (b + 3) fr_RX6_15 dX6_aroundChildOf_9 (show K (b + 1) = 6 from hS 1 (by decide)) rfl ?_
    refine J_iload_n hX dX6_aroundChildOf_12 rfl ?_
    refine J_iald hX dX6_aroundChildOf_13 (show K (b + 3) = 1000 + 20 from hS 3 (by decide)) ⟨by omega, by omega⟩ (by decide) (fun r13 => ?_)
    refine J_iconst hX dX6_aroundChildOf_14 ?_
    refine J_iadd hX dX6_aroundChildOf_15 ?_
    have q0 := hWn p (by omega) (by omega)
    refine J_goto hX 20 dX6_aroundChildOf_16 (by decide) ?_
    exact J_retI hX hQ dX6_aroundChildOf_20 (by unfold arC; split <;> omega) rfl rfl (Nat.zero_le _) (Nat.zero_le _)
-- X6_faultOfGroup
set_option maxHeartbeats 4000000 in
set_option maxRecDepth 100000 in
theorem m_X6_faultOfGroup {E : EE} {K : Nat → Nat} {M : MM} {b : Nat} {T p u v w : Int} (hS : StageK K b) (hW : WF T M b) (hn : i32 p) (hu : i32 u) (hv : i32 v) (hw : i32 w) : CnI E 2 yX6_faultOfGroup cX6_faultOfGroup 5 (Option.some FieldType.int) [.ref (b + 1), vI p, vI u, vI v, vI w] K M (fG M b p u v w) := by
  have hW0 := hW
  obtain ⟨hT0, ⟨ws1, ws2, ws3, ws4, ws5, ws6, ws7, ws8, ws9, ws10, ws11, ws12, ws13, ws14⟩, hWn, hWc⟩ := hW0
  refine ⟨Cn_of RX6 (plainFor_of_name (by decide)) rfl (Nat.le_of_ble_eq_true rfl) (fun X hX hQ => ?_), by unfold fG; (repeat' split) <;> omega⟩
  refine J_iload_n hX dX6_faultOfGroup_0 rfl ?_
  refine J_sipush hX dX6_faultOfGroup_1 rfl ?_
  refine J_icmp_eq hX 17 dX6_faultOfGroup_4 (by omega) (by decide) (by decide) (fun c4 => ?_) (fun c4 => ?_)
  · refine J_aload_n hX dX6_faultOfGroup_17 rfl ?_
    refine J_iload_n hX dX6_faultOfGroup_18 rfl ?_
    refine J_callVB hX _ dX6_faultOfGroup_19 cw_RX6_43 (m_X6_isBox hS (by omega)) ⟨(show K (b + 1) = 6 from hS 1 (by decide)), by decide, by decide, rfl⟩ rfl (Nat.le_of_ble_eq_true rfl) (by decide) ⟨Nat.zero_le _, Nat.zero_le _⟩ ?_
    refine J_ifb_ne hX 35 dX6_faultOfGroup_22 (by decide) (fun c22 => ?_) (fun c22 => ?_)
    · refine J_iconst hX dX6_faultOfGroup_35 ?_
      exact J_retI hX hQ dX6_faultOfGroup_36 (by unfold fG; (repeat' split) <;> omega) rfl rfl (Nat.zero_le _) (Nat.zero_le _)
    · refine J_iload_n hX dX6_faultOfGroup_25 rfl ?_
      refine J_iload_n hX dX6_faultOfGroup_26 rfl ?_
      refine J_iload hX dX6_faultOfGroup_27 rfl ?_
      refine J_callSB hX _ dX6_faultOfGroup_29 cw_RX6_53 (m_X6_isPlace (by omega) (by omega) (by omega)) rfl (Nat.le_of_ble_eq_true rfl) (by decide) ⟨Nat.zero_le _, Nat.zero_le _⟩ ?_
      refine J_ifb_ne hX 37 dX6_faultOfGroup_32 (by decide) (fun c32 => ?_) (fun c32 => ?_)
      · refine J_aload_n hX dX6_faultOfGroup_37 rfl ?_
        refine J_geti hX fi_RX6_39 dX6_faultOfGroup_38 (show K (b + 1) = 6 from hS 1 (by decide)) (fun r38 => ?_)
        refine J_bipush hX dX6_faultOfGroup_41 rfl ?_
        refine J_icmp_ge hX 55 dX6_faultOfGroup_43 (by omega) (by decide) (by decide) (fun c43 => ?_) (fun c43 => ?_)
        · refine J_iconst hX dX6_faultOfGroup_55 ?_
          refine J_goto hX 60 dX6_faultOfGroup_56 (by decide) ?_
          exact J_retI hX hQ dX6_faultOfGroup_60 (by unfold fG; (repeat' split) <;> omega) rfl rfl (Nat.zero_le _) (Nat.zero_le _)
        · refine J_aload_n hX dX6_faultOfGroup_46 rfl ?_
          refine J_iload_n hX dX6_faultOfGroup_47 rfl ?_
          refine J_callVI hX _ dX6_faultOfGroup_48 cw_RX6_57 (m_X6_aroundChildOf hS hW (by omega)) ⟨(show K (b + 1) = 6 from hS 1 (by decide)), by decide, by decide, rfl⟩ rfl (Nat.le_of_ble_eq_true rfl) (by decide) ⟨Nat.zero_le _, Nat.zero_le _⟩ (fun r48 => ?_)
          refine J_iconst hX dX6_faultOfGroup_51 ?_
          refine J_icmp_le hX 59 dX6_faultOfGroup_52 (by omega) (by decide) (by decide) (fun c52 => ?_) (fun c52 => ?_)
          · refine J_iconst hX dX6_faultOfGroup_59 ?_
            exact J_retI hX hQ dX6_faultOfGroup_60 (by unfold fG; (repeat' split) <;> omega) rfl rfl (Nat.zero_le _) (Nat.zero_le _)
          · refine J_iconst hX dX6_faultOfGroup_55 ?_
            refine J_goto hX 60 dX6_faultOfGroup_56 (by decide) ?_
            exact J_retI hX hQ dX6_faultOfGroup_60 (by unfold fG; (repeat' split) <;> omega) rfl rfl (Nat.zero_le _) (Nat.zero_le _)
      · refine J_iconst hX dX6_faultOfGroup_35 ?_
        exact J_retI hX hQ dX6_faultOfGroup_36 (by unfold fG; (repeat' split) <;> omega) rfl rfl (Nat.zero_le _) (Nat.zero_le _)
  · refine J_aload_n hX dX6_faultOfGroup_7 rfl ?_
    refine J_iload_n hX dX6_faultOfGroup_8 rfl ?_
    refine J_callVB hX _ dX6_faultOfGroup_9 cw_RX6_47 (m_X6_has hS (by omega)) ⟨(show K (b + 1) = 6 from hS 1 (by decide)), by decide, by decide, rfl⟩ rfl (Nat.le_of_ble_eq_true rfl) (by decide) ⟨Nat.zero_le _, Nat.zero_le _⟩ ?_
    refine J_ifb_ne hX 17 dX6_faultOfGroup_12 (by decide) (fun c12 => ?_) (fun c12 => ?_)
    · refine J_aload_n hX dX6_faultOfGroup_17 rfl ?_
      refine J_iload_n hX dX6_faultOfGroup_18 rfl ?_
      refine J_callVB hX _ dX6_faultOfGroup_19 cw_RX6_43 (m_X6_isBox hS (by omega)) ⟨(show K (b + 1) = 6 from hS 1 (by decide)), by decide, by decide, rfl⟩ rfl (Nat.le_of_ble_eq_true rfl) (by decide) ⟨Nat.zero_le _, Nat.zero_le _⟩ ?_
      refine J_ifb_ne hX 35 dX6_faultOfGroup_22 (by decide) (fun c22 => ?_) (fun c22 => ?_)
      · refine J_iconst hX dX6_faultOfGroup_35 ?_
        exact J_retI hX hQ dX6_faultOfGroup_36 (by unfold fG; (repeat' split) <;> omega) rfl rfl (Nat.zero_le _) (Nat.zero_le _)
      · refine J_iload_n hX dX6_faultOfGroup_25 rfl ?_
        refine J_iload_n hX dX6_faultOfGroup_26 rfl ?_
        refine J_iload hX dX6_faultOfGroup_27 rfl ?_
        refine J_callSB hX _ dX6_faultOfGroup_29 cw_RX6_53 (m_X6_isPlace (by omega) (by omega) (by omega)) rfl (Nat.le_of_ble_eq_true rfl) (by decide) ⟨Nat.zero_le _, Nat.zero_le _⟩ ?_
        refine J_ifb_ne hX 37 dX6_faultOfGroup_32 (by decide) (fun c32 => ?_) (fun c32 => ?_)
        · refine J_aload_n hX dX6_faultOfGroup_37 rfl ?_
          refine J_geti hX fi_RX6_39 dX6_faultOfGroup_38 (show K (b + 1) = 6 from hS 1 (by decide)) (fun r38 => ?_)
          refine J_bipush hX dX6_faultOfGroup_41 rfl ?_
          refine J_icmp_ge hX 55 dX6_faultOfGroup_43 (by omega) (by decide) (by decide) (fun c43 => ?_) (fun c43 => ?_)
          · refine J_iconst hX dX6_faultOfGroup_55 ?_
            refine J_goto hX 60 dX6_faultOfGroup_56 (by decide) ?_
            exact J_retI hX hQ dX6_faultOfGroup_60 (by unfold fG; (repeat' split) <;> omega) rfl rfl (Nat.zero_le _) (Nat.zero_le _)
          · refine J_aload_n hX dX6_faultOfGroup_46 rfl ?_
            refine J_iload_n hX dX6_faultOfGroup_47 rfl ?_
            refine J_callVI hX _ dX6_faultOfGroup_48 cw_RX6_57 (m_X6_aroundChildOf hS hW (by omega)) ⟨(show K (b + 1) = 6 from hS 1 (by decide)), by decide, by decide, rfl⟩ rfl (Nat.le_of_ble_eq_true rfl) (by decide) ⟨Nat.zero_le _, Nat.zero_le _⟩ (fun r48 => ?_)
            refine J_iconst hX dX6_faultOfGroup_51 ?_
            refine J_icmp_le hX 59 dX6_faultOfGroup_52 (by omega) (by decide) (by decide) (fun c52 => ?_) (fun c52 => ?_)
            · refine J_iconst hX dX6_faultOfGroup_59 ?_
              exact J_retI hX hQ dX6_faultOfGroup_60 (by unfold fG; (repeat' split) <;> omega) rfl rfl (Nat.zero_le _) (Nat.zero_le _)
            · refine J_iconst hX dX6_faultOfGroup_55 ?_
              refine J_goto hX 60 dX6_faultOfGroup_56 (by decide) ?_
              exact J_retI hX hQ dX6_faultOfGroup_60 (by unfold fG; (repeat' split) <;> omega) rfl rfl (Nat.zero_le _) (Nat.zero_le _)
        · refine J_iconst hX dX6_faultOfGroup_35 ?_
          exact J_retI hX hQ dX6_faultOfGroup_36 (by unfold fG; (repeat' split) <;> omega) rfl rfl (Nat.zero_le _) (Nat.zero_le _)
    · refine J_iconst hX dX6_faultOfGroup_15 ?_
      exact J_retI hX hQ dX6_faultOfGroup_16 (by unfold fG; (repeat' split) <;> omega) rfl rfl (Nat.zero_le _) (Nat.zero_le _)
-- X6_faultOfBox
set_option maxHeartbeats 4000000 in
set_option maxRecDepth 100000 in
theorem m_X6_faultOfBox {E : EE} {K : Nat → Nat} {M : MM} {b : Nat} {T p u v w wd hg : Int} (hS : StageK K b) (hW : WF T M b) (hn : i32 p) (hu : i32 u) (hv : i32 v) (hw : i32 w) (hwd : i32 wd) (hhg : i32 hg) : CnI E 3 yX6_faultOfBox cX6_faultOfBox 9 (Option.some FieldType.int) [.ref (b + 1), vI p, vI u, vI v, vI w, vI wd, vI hg] K M (fB M b p u v w wd hg) := by
  refine ⟨Cn_of RX6 (plainFor_of_name (by decide)) rfl (Nat.le_of_ble_eq_true rfl) (fun X hX hQ => ?_), by unfold fB fG; (repeat' split) <;> omega⟩
  refine J_aload_n hX dX6_faultOfBox_0 rfl ?_
  refine J_iload_n hX dX6_faultOfBox_1 rfl ?_
  refine J_iload_n hX dX6_faultOfBox_2 rfl ?_
  refine J_iload_n hX dX6_faultOfBox_3 rfl ?_
  refine J_iload hX dX6_faultOfBox_4 rfl ?_
  refine J_callVI hX _ dX6_faultOfBox_6 cw_RX6_61 (m_X6_faultOfGroup hS hW (by omega) (by omega) (by omega) (by omega)) ⟨(show K (b + 1) = 6 from hS 1 (by decide)), by decide, by decide, rfl⟩ rfl (Nat.le_of_ble_eq_true rfl) (by decide) ⟨Nat.zero_le _, Nat.zero_le _⟩ (fun r6 => ?_)
  refine J_istore hX dX6_faultOfBox_9 (by decide) ?_
  refine J_iload hX dX6_faultOfBox_11 rfl ?_
  refine J_iconst hX dX6_faultOfBox_13 ?_
  refine J_bipush hX dX6_faultOfBox_14 rfl ?_
  refine J_callNB hX _ dX6_faultOfBox_16 cw_RX6_65 (m_X9_within (by omega) (by omega) (by omega)) rfl (Nat.le_of_ble_eq_true rfl) (by decide) ⟨Nat.zero_le _, Nat.zero_le _⟩ ?_
  refine J_ifb_eq hX 37 dX6_faultOfBox_19 (by decide) (fun c19 => ?_) (fun c19 => ?_)
  · refine J_iconst hX dX6_faultOfBox_37 ?_
    refine J_istore hX dX6_faultOfBox_38 (by decide) ?_
    refine J_iload hX dX6_faultOfBox_40 rfl ?_
    refine J_iconst hX dX6_faultOfBox_42 ?_
    refine J_icmp_eq hX 55 dX6_faultOfBox_43 (by omega) (by decide) (by decide) (fun c43 => ?_) (fun c43 => ?_)
    · refine J_iload hX dX6_faultOfBox_55 rfl ?_
      exact J_retI hX hQ dX6_faultOfBox_57 (by unfold fB; split <;> omega) rfl rfl (Nat.zero_le _) (Nat.zero_le _)
    · refine J_iload hX dX6_faultOfBox_46 rfl ?_
      refine J_if_ne hX 55 dX6_faultOfBox_48 (by decide) (by decide) (fun h => absurd (by decide) h) (fun _ => ?_)
      refine J_iconst hX dX6_faultOfBox_51 ?_
      refine J_goto hX 57 dX6_faultOfBox_52 (by decide) ?_
      exact J_retI hX hQ dX6_faultOfBox_57 (by unfold fB; split <;> omega) rfl rfl (Nat.zero_le _) (Nat.zero_le _)
  · refine J_iload hX dX6_faultOfBox_22 rfl ?_
    refine J_iconst hX dX6_faultOfBox_24 ?_
    refine J_bipush hX dX6_faultOfBox_25 rfl ?_
    refine J_callNB hX _ dX6_faultOfBox_27 cw_RX6_65 (m_X9_within (by omega) (by omega) (by omega)) rfl (Nat.le_of_ble_eq_true rfl) (by decide) ⟨Nat.zero_le _, Nat.zero_le _⟩ ?_
    refine J_ifb_eq hX 37 dX6_faultOfBox_30 (by decide) (fun c30 => ?_) (fun c30 => ?_)
    · refine J_iconst hX dX6_faultOfBox_37 ?_
      refine J_istore hX dX6_faultOfBox_38 (by decide) ?_
      refine J_iload hX dX6_faultOfBox_40 rfl ?_
      refine J_iconst hX dX6_faultOfBox_42 ?_
      refine J_icmp_eq hX 55 dX6_faultOfBox_43 (by omega) (by decide) (by decide) (fun c43 => ?_) (fun c43 => ?_)
      · refine J_iload hX dX6_faultOfBox_55 rfl ?_
        exact J_retI hX hQ dX6_faultOfBox_57 (by unfold fB; split <;> omega) rfl rfl (Nat.zero_le _) (Nat.zero_le _)
      · refine J_iload hX dX6_faultOfBox_46 rfl ?_
        refine J_if_ne hX 55 dX6_faultOfBox_48 (by decide) (by decide) (fun h => absurd (by decide) h) (fun _ => ?_)
        refine J_iconst hX dX6_faultOfBox_51 ?_
        refine J_goto hX 57 dX6_faultOfBox_52 (by decide) ?_
        exact J_retI hX hQ dX6_faultOfBox_57 (by unfold fB; split <;> omega) rfl rfl (Nat.zero_le _) (Nat.zero_le _)
    · refine J_iconst hX dX6_faultOfBox_33 ?_
      refine J_goto hX 38 dX6_faultOfBox_34 (by decide) ?_
      refine J_istore hX dX6_faultOfBox_38 (by decide) ?_
      refine J_iload hX dX6_faultOfBox_40 rfl ?_
      refine J_iconst hX dX6_faultOfBox_42 ?_
      refine J_icmp_eq hX 55 dX6_faultOfBox_43 (by omega) (by decide) (by decide) (fun c43 => ?_) (fun c43 => ?_)
      · refine J_iload hX dX6_faultOfBox_55 rfl ?_
        exact J_retI hX hQ dX6_faultOfBox_57 (by unfold fB; split <;> omega) rfl rfl (Nat.zero_le _) (Nat.zero_le _)
      · refine J_iload hX dX6_faultOfBox_46 rfl ?_
        refine J_if_ne hX 55 dX6_faultOfBox_48 (by decide) (by decide) (fun _ => ?_) (fun h => absurd h (by decide))
        refine J_iload hX dX6_faultOfBox_55 rfl ?_
        exact J_retI hX hQ dX6_faultOfBox_57 (by unfold fB; split <;> omega) rfl rfl (Nat.zero_le _) (Nat.zero_le _)
-- X6_faultOfPlacing
set_option maxHeartbeats 4000000 in
set_option maxRecDepth 100000 in
theorem m_X6_faultOfPlacing {E : EE} {K : Nat → Nat} {M : MM} {b : Nat} {n u v w : Int} (hS : StageK K b) (hn : i32 n) (hu : i32 u) (hv : i32 v) (hw : i32 w) : CnI E 2 yX6_faultOfPlacing cX6_faultOfPlacing 5 (Option.some FieldType.int) [.ref (b + 1), vI n, vI u, vI v, vI w] K M (fP M b n u v w) := by
  refine ⟨Cn_of RX6 (plainFor_of_name (by decide)) rfl (Nat.le_of_ble_eq_true rfl) (fun X hX hQ => ?_), by unfold fP; (repeat' split) <;> omega⟩
  refine J_aload_n hX dX6_faultOfPlacing_0 rfl ?_
  refine J_iload_n hX dX6_faultOfPlacing_1 rfl ?_
  refine J_callVB hX _ dX6_faultOfPlacing_2 cw_RX6_47 (m_X6_has hS (by omega)) ⟨(show K (b + 1) = 6 from hS 1 (by decide)), by decide, by decide, rfl⟩ rfl (Nat.le_of_ble_eq_true rfl) (by decide) ⟨Nat.zero_le _, Nat.zero_le _⟩ ?_
  refine J_ifb_ne hX 10 dX6_faultOfPlacing_5 (by decide) (fun c5 => ?_) (fun c5 => ?_)
  · refine J_iload_n hX dX6_faultOfPlacing_10 rfl ?_
    refine J_iload_n hX dX6_faultOfPlacing_11 rfl ?_
    refine J_iload hX dX6_faultOfPlacing_12 rfl ?_
    refine J_callSB hX _ dX6_faultOfPlacing_14 cw_RX6_53 (m_X6_isPlace (by omega) (by omega) (by omega)) rfl (Nat.le_of_ble_eq_true rfl) (by decide) ⟨Nat.zero_le _, Nat.zero_le _⟩ ?_
    refine J_ifb_eq hX 24 dX6_faultOfPlacing_17 (by decide) (fun c17 => ?_) (fun c17 => ?_)
    · refine J_iconst hX dX6_faultOfPlacing_24 ?_
      exact J_retI hX hQ dX6_faultOfPlacing_25 (by unfold fP; (repeat' split) <;> omega) rfl rfl (Nat.zero_le _) (Nat.zero_le _)
    · refine J_iconst hX dX6_faultOfPlacing_20 ?_
      refine J_goto hX 25 dX6_faultOfPlacing_21 (by decide) ?_
      exact J_retI hX hQ dX6_faultOfPlacing_25 (by unfold fP; (repeat' split) <;> omega) rfl rfl (Nat.zero_le _) (Nat.zero_le _)
  · refine J_iconst hX dX6_faultOfPlacing_8 ?_
    exact J_retI hX hQ dX6_faultOfPlacing_9 (by unfold fP; (repeat' split) <;> omega) rfl rfl (Nat.zero_le _) (Nat.zero_le _)
-- X6_faultOfColour
set_option maxHeartbeats 4000000 in
set_option maxRecDepth 100000 in
theorem m_X6_faultOfColour {E : EE} {K : Nat → Nat} {M : MM} {b : Nat} {n s : Int} (hS : StageK K b) (hn : i32 n) (hs : i32 s) : CnI E 1 yX6_faultOfColour cX6_faultOfColour 3 (Option.some FieldType.int) [.ref (b + 1), vI n, vI s] K M (fCo M b n s) := by
  refine ⟨Cn_of RX6 (plainFor_of_name (by decide)) rfl (Nat.le_of_ble_eq_true rfl) (fun X hX hQ => ?_), by unfold fCo; (repeat' split) <;> omega⟩
  refine J_aload_n hX dX6_faultOfColour_0 rfl ?_
  refine J_iload_n hX dX6_faultOfColour_1 rfl ?_
  refine J_callVB hX _ dX6_faultOfColour_2 cw_RX6_47 (m_X6_has hS (by omega)) ⟨(show K (b + 1) = 6 from hS 1 (by decide)), by decide, by decide, rfl⟩ rfl (Nat.le_of_ble_eq_true rfl) (by decide) ⟨Nat.zero_le _, Nat.zero_le _⟩ ?_
  refine J_ifb_ne hX 10 dX6_faultOfColour_5 (by decide) (fun c5 => ?_) (fun c5 => ?_)
  · refine J_aload_n hX dX6_faultOfColour_10 rfl ?_
    refine J_iload_n hX dX6_faultOfColour_11 rfl ?_
    refine J_callVB hX _ dX6_faultOfColour_12 cw_RX6_43 (m_X6_isBox hS (by omega)) ⟨(show K (b + 1) = 6 from hS 1 (by decide)), by decide, by decide, rfl⟩ rfl (Nat.le_of_ble_eq_true rfl) (by decide) ⟨Nat.zero_le _, Nat.zero_le _⟩ ?_
    refine J_ifb_eq hX 32 dX6_faultOfColour_15 (by decide) (fun c15 => ?_) (fun c15 => ?_)
    · refine J_iconst hX dX6_faultOfColour_32 ?_
      exact J_retI hX hQ dX6_faultOfColour_33 (by unfold fCo; (repeat' split) <;> omega) rfl rfl (Nat.zero_le _) (Nat.zero_le _)
    · refine J_iload_n hX dX6_faultOfColour_18 rfl ?_
      refine J_iconst hX dX6_faultOfColour_19 ?_
      refine J_bipush hX dX6_faultOfColour_20 rfl ?_
      refine J_callNB hX _ dX6_faultOfColour_22 cw_RX6_65 (m_X9_within (by omega) (by omega) (by omega)) rfl (Nat.le_of_ble_eq_true rfl) (by decide) ⟨Nat.zero_le _, Nat.zero_le _⟩ ?_
      refine J_ifb_eq hX 32 dX6_faultOfColour_25 (by decide) (fun c25 => ?_) (fun c25 => ?_)
      · refine J_iconst hX dX6_faultOfColour_32 ?_
        exact J_retI hX hQ dX6_faultOfColour_33 (by unfold fCo; (repeat' split) <;> omega) rfl rfl (Nat.zero_le _) (Nat.zero_le _)
      · refine J_iconst hX dX6_faultOfColour_28 ?_
        refine J_goto hX 33 dX6_faultOfColour_29 (by decide) ?_
        exact J_retI hX hQ dX6_faultOfColour_33 (by unfold fCo; (repeat' split) <;> omega) rfl rfl (Nat.zero_le _) (Nat.zero_le _)
  · refine J_iconst hX dX6_faultOfColour_8 ?_
    exact J_retI hX hQ dX6_faultOfColour_9 (by unfold fCo; (repeat' split) <;> omega) rfl rfl (Nat.zero_le _) (Nat.zero_le _)
-- X6_appendBox
set_option maxHeartbeats 4000000 in
set_option maxRecDepth 100000 in
theorem m_X6_appendBox {E : EE} {K : Nat → Nat} {M : MM} {b : Nat} {T p u v w wd hg : Int} (hS : StageK K b) (hW : WF T M b) (hc : M (b + 1) 0 < 20) (hn : i32 p) (hu : i32 u) (hv : i32 v) (hw : i32 w) (hwd : i32 wd) (hhg : i32 hg) : CnM E 2 yX6_appendBox cX6_appendBox 8 (Option.some FieldType.int) [.ref (b + 1), vI p, vI u, vI v, vI w, vI wd, vI hg] K M (fun r M2 => r = some (vI (M (b + 1) 0)) ∧ M2 = addM M b p u v w wd hg) := by
  have hW0 := hW
  obtain ⟨hT0, ⟨ws1, ws2, ws3, ws4, ws5, ws6, ws7, ws8, ws9, ws10, ws11, ws12, ws13, ws14⟩, hWn, hWc⟩ := hW0
  refine Cn_of RX6 (plainFor_of_name (by decide)) rfl (Nat.le_of_ble_eq_true rfl) (fun X hX hQ => ?_)
  refine J_aload_n hX dX6_appendBox_0 rfl ?_
  refine J_geti hX fi_RX6_39 dX6_appendBox_1 (show K (b + 1) = 6 from hS 1 (by decide)) (fun r1 => ?_)
  refine J_istore hX dX6_appendBox_4 (by decide) ?_
  refine J_iload hX dX6_appendBox_6 rfl ?_
  refine J_if_lt hX 18 dX6_appendBox_8 (by omega) (by decide) (fun c8 => ?_) (fun c8 => ?_)
  · refine J_sipush hX dX6_appendBox_18 rfl ?_
    exact J_iret hX hQ dX6_appendBox_21 ⟨rfl, by first | exact ⟨rfl, rfl⟩ | (exfalso; omega)⟩ (Nat.zero_le _) (Nat.zero_le _)
  · refine J_iload hX dX6_appendBox_11 rfl ?_
    refine J_bipush hX dX6_appendBox_13 rfl ?_
    refine J_icmp_lt hX 22 dX6_appendBox_15 (by omega) (by decide) (by decide) (fun c15 => ?_) (fun c15 => ?_)
    · refine J_aload_n hX dX6_appendBox_22 rfl ?_
      refine J_gr hX (b + 3) fr_RX6_15 dX6_appendBox_23 (show K (b + 1) = 6 from hS 1 (by decide)) rfl ?_
      refine J_iload hX dX6_appendBox_26 rfl ?_
      refine J_aload_n hX dX6_appendBox_28 rfl ?_
      refine J_iload_n hX dX6_appendBox_29 rfl ?_
      refine J_callVI hX _ dX6_appendBox_30 cw_RX6_57 (m_X6_aroundChildOf hS hW (by omega)) ⟨(show K (b + 1) = 6 from hS 1 (by decide)), by decide, by decide, rfl⟩ rfl (Nat.le_of_ble_eq_true rfl) (by decide) ⟨Nat.zero_le _, Nat.zero_le _⟩ (fun r30 => ?_)
      refine J_iast hX dX6_appendBox_33 (show K (b + 3) = 1000 + 20 from hS 3 (by decide)) ⟨by omega, by omega⟩ (by decide) (by omega) ?_
      refine J_aload_n hX dX6_appendBox_34 rfl ?_
      refine J_gr hX (b + 2) fr_RX6_9 dX6_appendBox_35 (show K (b + 1) = 6 from hS 1 (by decide)) rfl ?_
      refine J_iload hX dX6_appendBox_38 rfl ?_
      refine J_iload_n hX dX6_appendBox_40 rfl ?_
      refine J_iast hX dX6_appendBox_41 (show K (b + 2) = 1000 + 20 from hS 2 (by decide)) ⟨by omega, by omega⟩ (by decide) (by omega) ?_
      refine J_aload_n hX dX6_appendBox_42 rfl ?_
      refine J_gr hX (b + 4) fr_RX6_18 dX6_appendBox_43 (show K (b + 1) = 6 from hS 1 (by decide)) rfl ?_
      refine J_iload hX dX6_appendBox_46 rfl ?_
      refine J_iload_n hX dX6_appendBox_48 rfl ?_
      refine J_iast hX dX6_appendBox_49 (show K (b + 4) = 1000 + 20 from hS 4 (by decide)) ⟨by omega, by omega⟩ (by decide) (by omega) ?_
      refine J_aload_n hX dX6_appendBox_50 rfl ?_
      refine J_gr hX (b + 5) fr_RX6_21 dX6_appendBox_51 (show K (b + 1) = 6 from hS 1 (by decide)) rfl ?_
      refine J_iload hX dX6_appendBox_54 rfl ?_
      refine J_iload_n hX dX6_appendBox_56 rfl ?_
      refine J_iast hX dX6_appendBox_57 (show K (b + 5) = 1000 + 20 from hS 5 (by decide)) ⟨by omega, by omega⟩ (by decide) (by omega) ?_
      refine J_aload_n hX dX6_appendBox_58 rfl ?_
      refine J_gr hX (b + 6) fr_RX6_24 dX6_appendBox_59 (show K (b + 1) = 6 from hS 1 (by decide)) rfl ?_
      refine J_iload hX dX6_appendBox_62 rfl ?_
      refine J_iload hX dX6_appendBox_64 rfl ?_
      refine J_iast hX dX6_appendBox_66 (show K (b + 6) = 1000 + 20 from hS 6 (by decide)) ⟨by omega, by omega⟩ (by decide) (by omega) ?_
      refine J_aload_n hX dX6_appendBox_67 rfl ?_
      refine J_gr hX (b + 7) fr_RX6_27 dX6_appendBox_68 (show K (b + 1) = 6 from hS 1 (by decide)) rfl ?_
      refine J_iload hX dX6_appendBox_71 rfl ?_
      refine J_iload hX dX6_appendBox_73 rfl ?_
      refine J_iast hX dX6_appendBox_75 (show K (b + 7) = 1000 + 20 from hS 7 (by decide)) ⟨by omega, by omega⟩ (by decide) (by omega) ?_
      refine J_aload_n hX dX6_appendBox_76 rfl ?_
      refine J_gr hX (b + 8) fr_RX6_30 dX6_appendBox_77 (show K (b + 1) = 6 from hS 1 (by decide)) rfl ?_
      refine J_iload hX dX6_appendBox_80 rfl ?_
      refine J_iload hX dX6_appendBox_82 rfl ?_
      refine J_iast hX dX6_appendBox_84 (show K (b + 8) = 1000 + 20 from hS 8 (by decide)) ⟨by omega, by omega⟩ (by decide) (by omega) ?_
      refine J_aload_n hX dX6_appendBox_85 rfl ?_
      refine J_gr hX (b + 9) fr_RX6_33 dX6_appendBox_86 (show K (b + 1) = 6 from hS 1 (by decide)) rfl ?_
      refine J_iload hX dX6_appendBox_89 rfl ?_
      refine J_bipush hX dX6_appendBox_91 rfl ?_
      refine J_iast hX dX6_appendBox_93 (show K (b + 9) = 1000 + 20 from hS 9 (by decide)) ⟨by omega, by omega⟩ (by decide) (by omega) ?_
      refine J_aload_n hX dX6_appendBox_94 rfl ?_
      refine J_iload hX dX6_appendBox_95 rfl ?_
      refine J_iconst hX dX6_appendBox_97 ?_
      refine J_iadd hX dX6_appendBox_98 ?_
      refine J_puti hX fw_RX6_39 dX6_appendBox_99 (show K (b + 1) = 6 from hS 1 (by decide)) (by omega) (Or.inl rfl) ?_
      refine J_iload hX dX6_appendBox_102 rfl ?_
      exact J_iret hX hQ dX6_appendBox_104 ⟨rfl, by first | exact ⟨rfl, rfl⟩ | (exfalso; omega)⟩ (Nat.zero_le _) (Nat.zero_le _)
    · refine J_sipush hX dX6_appendBox_18 rfl ?_
      exact J_iret hX hQ dX6_appendBox_21 ⟨rfl, by first | exact ⟨rfl, rfl⟩ | (exfalso; omega)⟩ (Nat.zero_le _) (Nat.zero_le _)
-- X6_appendGroup
set_option maxHeartbeats 4000000 in
set_option maxRecDepth 100000 in
theorem m_X6_appendGroup {E : EE} {K : Nat → Nat} {M : MM} {b : Nat} {T p u v w : Int} (hS : StageK K b) (hW : WF T M b) (hc : M (b + 1) 0 < 20) (hn : i32 p) (hu : i32 u) (hv : i32 v) (hw : i32 w) : CnM E 3 yX6_appendGroup cX6_appendGroup 5 (Option.some FieldType.int) [.ref (b + 1), vI p, vI u, vI v, vI w] K M (fun r M2 => r = some (vI (M (b + 1) 0)) ∧ M2 = addM M b p u v w 0 0) := by
  refine Cn_of RX6 (plainFor_of_name (by decide)) rfl (Nat.le_of_ble_eq_true rfl) (fun X hX hQ => ?_)
  refine J_aload_n hX dX6_appendGroup_0 rfl ?_
  refine J_iload_n hX dX6_appendGroup_1 rfl ?_
  refine J_iload_n hX dX6_appendGroup_2 rfl ?_
  refine J_iload_n hX dX6_appendGroup_3 rfl ?_
  refine J_iload hX dX6_appendGroup_4 rfl ?_
  refine J_iconst hX dX6_appendGroup_6 ?_
  refine J_iconst hX dX6_appendGroup_7 ?_
  refine J_callVM hX _ dX6_appendGroup_8 cw_RX6_68 (m_X6_appendBox hS hW (by omega) (by omega) (by omega) (by omega) (by omega) (by omega) (by omega)) ⟨(show K (b + 1) = 6 from hS 1 (by decide)), by decide, by decide, rfl⟩ rfl (Nat.le_of_ble_eq_true rfl) (by decide) ⟨Nat.zero_le _, Nat.zero_le _⟩ (fun r9 M8 q8 => ?_)
  obtain ⟨rfl, rfl⟩ := q8
  exact J_iret hX hQ dX6_appendGroup_11 ⟨rfl, by first | exact ⟨rfl, rfl⟩ | (exfalso; omega)⟩ (Nat.zero_le _) (Nat.zero_le _)
-- X6_placeAt
set_option maxHeartbeats 4000000 in
set_option maxRecDepth 100000 in
theorem m_X6_placeAt {E : EE} {K : Nat → Nat} {M : MM} {b : Nat} {n u v w : Int} (hS : StageK K b) (hh : has M b n) (hu : i32 u) (hv : i32 v) (hw : i32 w) : CnM E 1 yX6_placeAt cX6_placeAt 6 (Option.some FieldType.int) [.ref (b + 1), vI n, vI u, vI v, vI w] K M (fun r M2 => r = some (vI (M (b + 6) n)) ∧ M2 = movM M b n u v w) := by
  refine Cn_of RX6 (plainFor_of_name (by decide)) rfl (Nat.le_of_ble_eq_true rfl) (fun X hX hQ => ?_)
  refine J_aload_n hX dX6_placeAt_0 rfl ?_
  refine J_iload_n hX dX6_placeAt_1 rfl ?_
  refine J_callVB hX _ dX6_placeAt_2 cw_RX6_47 (m_X6_has hS (by omega)) ⟨(show K (b + 1) = 6 from hS 1 (by decide)), by decide, by decide, rfl⟩ rfl (Nat.le_of_ble_eq_true rfl) (by decide) ⟨Nat.zero_le _, Nat.zero_le _⟩ ?_
  refine J_ifb_ne hX 12 dX6_placeAt_5 (by decide) (fun c5 => ?_) (fun c5 => ?_)
  · refine J_aload_n hX dX6_placeAt_12 rfl ?_
    refine J_gr hX (b + 6) fr_RX6_24 dX6_placeAt_13 (show K (b + 1) = 6 from hS 1 (by decide)) rfl ?_
    refine J_iload_n hX dX6_placeAt_16 rfl ?_
    refine J_iald hX dX6_placeAt_17 (show K (b + 6) = 1000 + 20 from hS 6 (by decide)) ⟨by omega, by omega⟩ (by decide) (fun r17 => ?_)
    refine J_istore hX dX6_placeAt_18 (by decide) ?_
    refine J_aload_n hX dX6_placeAt_20 rfl ?_
    refine J_gr hX (b + 4) fr_RX6_18 dX6_placeAt_21 (show K (b + 1) = 6 from hS 1 (by decide)) rfl ?_
    refine J_iload_n hX dX6_placeAt_24 rfl ?_
    refine J_iload_n hX dX6_placeAt_25 rfl ?_
    refine J_iast hX dX6_placeAt_26 (show K (b + 4) = 1000 + 20 from hS 4 (by decide)) ⟨by omega, by omega⟩ (by decide) (by omega) ?_
    refine J_aload_n hX dX6_placeAt_27 rfl ?_
    refine J_gr hX (b + 5) fr_RX6_21 dX6_placeAt_28 (show K (b + 1) = 6 from hS 1 (by decide)) rfl ?_
    refine J_iload_n hX dX6_placeAt_31 rfl ?_
    refine J_iload_n hX dX6_placeAt_32 rfl ?_
    refine J_iast hX dX6_placeAt_33 (show K (b + 5) = 1000 + 20 from hS 5 (by decide)) ⟨by omega, by omega⟩ (by decide) (by omega) ?_
    refine J_aload_n hX dX6_placeAt_34 rfl ?_
    refine J_gr hX (b + 6) fr_RX6_24 dX6_placeAt_35 (show K (b + 1) = 6 from hS 1 (by decide)) rfl ?_
    refine J_iload_n hX dX6_placeAt_38 rfl ?_
    refine J_iload hX dX6_placeAt_39 rfl ?_
    refine J_iast hX dX6_placeAt_41 (show K (b + 6) = 1000 + 20 from hS 6 (by decide)) ⟨by omega, by omega⟩ (by decide) (by omega) ?_
    refine J_iload hX dX6_placeAt_42 rfl ?_
    exact J_iret hX hQ dX6_placeAt_44 ⟨rfl, by first | exact ⟨rfl, rfl⟩ | (exfalso; omega)⟩ (Nat.zero_le _) (Nat.zero_le _)
  · refine J_sipush hX dX6_placeAt_8 rfl ?_
    exact J_iret hX hQ dX6_placeAt_11 ⟨rfl, by first | exact ⟨rfl, rfl⟩ | (exfalso; omega)⟩ (Nat.zero_le _) (Nat.zero_le _)
-- X6_colour
set_option maxHeartbeats 4000000 in
set_option maxRecDepth 100000 in
theorem m_X6_colour {E : EE} {K : Nat → Nat} {M : MM} {b : Nat} {n s : Int} (hS : StageK K b) (hh : has M b n) (hs : i32 s) : CnM E 1 yX6_colour cX6_colour 4 (Option.some FieldType.int) [.ref (b + 1), vI n, vI s] K M (fun r M2 => r = some (vI (M (b + 9) n)) ∧ M2 = mset M (b + 9) n s) := by
  refine Cn_of RX6 (plainFor_of_name (by decide)) rfl (Nat.le_of_ble_eq_true rfl) (fun X hX hQ => ?_)
  refine J_aload_n hX dX6_colour_0 rfl ?_
  refine J_iload_n hX dX6_colour_1 rfl ?_
  refine J_callVB hX _ dX6_colour_2 cw_RX6_47 (m_X6_has hS (by omega)) ⟨(show K (b + 1) = 6 from hS 1 (by decide)), by decide, by decide, rfl⟩ rfl (Nat.le_of_ble_eq_true rfl) (by decide) ⟨Nat.zero_le _, Nat.zero_le _⟩ ?_
  refine J_ifb_ne hX 12 dX6_colour_5 (by decide) (fun c5 => ?_) (fun c5 => ?_)
  · refine J_aload_n hX dX6_colour_12 rfl ?_
    refine J_gr hX (b + 9) fr_RX6_33 dX6_colour_13 (show K (b + 1) = 6 from hS 1 (by decide)) rfl ?_
    refine J_iload_n hX dX6_colour_16 rfl ?_
    refine J_iald hX dX6_colour_17 (show K (b + 9) = 1000 + 20 from hS 9 (by decide)) ⟨by omega, by omega⟩ (by decide) (fun r17 => ?_)
    refine J_istore_n hX dX6_colour_18 (by decide) ?_
    refine J_aload_n hX dX6_colour_19 rfl ?_
    refine J_gr hX (b + 9) fr_RX6_33 dX6_colour_20 (show K (b + 1) = 6 from hS 1 (by decide)) rfl ?_
    refine J_iload_n hX dX6_colour_23 rfl ?_
    refine J_iload_n hX dX6_colour_24 rfl ?_
    refine J_iast hX dX6_colour_25 (show K (b + 9) = 1000 + 20 from hS 9 (by decide)) ⟨by omega, by omega⟩ (by decide) (by omega) ?_
    refine J_iload_n hX dX6_colour_26 rfl ?_
    exact J_iret hX hQ dX6_colour_27 ⟨rfl, by first | exact ⟨rfl, rfl⟩ | (exfalso; omega)⟩ (Nat.zero_le _) (Nat.zero_le _)
  · refine J_sipush hX dX6_colour_8 rfl ?_
    exact J_iret hX hQ dX6_colour_11 ⟨rfl, by first | exact ⟨rfl, rfl⟩ | (exfalso; omega)⟩ (Nat.zero_le _) (Nat.zero_le _)
-- X3_has
set_option maxHeartbeats 4000000 in
set_option maxRecDepth 100000 in
theorem m_X3_has {E : EE} {K : Nat → Nat} {M : MM} {b : Nat} {n : Int} (hS : StageK K b) (hn : i32 n) : CnB E 0 yX3_has cX3_has 2 [.ref (b + 11), vI n] K M (hsc M b n) := by
  refine Cn_of RX3 (plainFor_of_name (by decide)) rfl (Nat.le_of_ble_eq_true rfl) (fun X hX hQ => ?_)
  refine J_iload_n hX dX3_has_0 rfl ?_
  refine J_if_lt hX 22 dX3_has_1 (by omega) (by decide) (fun c1 => ?_) (fun c1 => ?_)
  · refine J_iconst hX dX3_has_22 ?_
    exact J_retF hX hQ dX3_has_23 (by omega) rfl rfl (Nat.zero_le _) (Nat.zero_le _)
  · refine J_iload_n hX dX3_has_4 rfl ?_
    refine J_aload_n hX dX3_has_5 rfl ?_
    refine J_geti hX fi_RX3_28 dX3_has_6 (show K (b + 11) = 3 from hS 11 (by decide)) (fun r6 => ?_)
    refine J_icmp_ge hX 22 dX3_has_9 (by omega) (by omega) (by decide) (fun c9 => ?_) (fun c9 => ?_)
    · refine J_iconst hX dX3_has_22 ?_
      exact J_retF hX hQ dX3_has_23 (by omega) rfl rfl (Nat.zero_le _) (Nat.zero_le _)
    · refine J_iload_n hX dX3_has_12 rfl ?_
      refine J_bipush hX dX3_has_13 rfl ?_
      refine J_icmp_ge hX 22 dX3_has_15 (by omega) (by decide) (by decide) (fun c15 => ?_) (fun c15 => ?_)
      · refine J_iconst hX dX3_has_22 ?_
        exact J_retF hX hQ dX3_has_23 (by omega) rfl rfl (Nat.zero_le _) (Nat.zero_le _)
      · refine J_iconst hX dX3_has_18 ?_
        refine J_goto hX 23 dX3_has_19 (by decide) ?_
        exact J_retT hX hQ dX3_has_23 (by omega) rfl rfl (Nat.zero_le _) (Nat.zero_le _)
-- X3_faultOfScene
set_option maxHeartbeats 4000000 in
set_option maxRecDepth 100000 in
theorem m_X3_faultOfScene {E : EE} {K : Nat → Nat} {M : MM} {b : Nat} {l g t : Int} (hS : StageK K b) (hl : i32 l) (hg : i32 g) (ht : i32 t) : CnI E 2 yX3_faultOfScene cX3_faultOfScene 5 (Option.some FieldType.int) [.ref (b + 11), vI l, vI g, vI t] K M (fS M b l g t) := by
  refine ⟨Cn_of RX3 (plainFor_of_name (by decide)) rfl (Nat.le_of_ble_eq_true rfl) (fun X hX hQ => ?_), by unfold fS; (repeat' split) <;> omega⟩
  refine J_iload_n hX dX3_faultOfScene_0 rfl ?_
  refine J_iload_n hX dX3_faultOfScene_1 rfl ?_
  refine J_callNI hX _ dX3_faultOfScene_2 cw_RX3_31 (m_X9_faultOfBudget (by omega) (by omega)) rfl (Nat.le_of_ble_eq_true rfl) (by decide) ⟨Nat.zero_le _, Nat.zero_le _⟩ (fun r2 => ?_)
  refine J_istore hX dX3_faultOfScene_5 (by decide) ?_
  refine J_iload hX dX3_faultOfScene_7 rfl ?_
  refine J_if_ne hX 21 dX3_faultOfScene_9 (by omega) (by decide) (fun c9 => ?_) (fun c9 => ?_)
  · refine J_iload hX dX3_faultOfScene_21 rfl ?_
    refine J_if_ne hX 39 dX3_faultOfScene_23 (by omega) (by decide) (fun c23 => ?_) (fun c23 => ?_)
    · refine J_iload hX dX3_faultOfScene_39 rfl ?_
      exact J_retI hX hQ dX3_faultOfScene_41 (by unfold fS; (repeat' split) <;> omega) rfl rfl (Nat.zero_le _) (Nat.zero_le _)
    · refine J_aload_n hX dX3_faultOfScene_26 rfl ?_
      refine J_geti hX fi_RX3_28 dX3_faultOfScene_27 (show K (b + 11) = 3 from hS 11 (by decide)) (fun r27 => ?_)
      refine J_bipush hX dX3_faultOfScene_30 rfl ?_
      refine J_icmp_lt hX 39 dX3_faultOfScene_32 (by omega) (by decide) (by decide) (fun c32 => ?_) (fun c32 => ?_)
      · refine J_iload hX dX3_faultOfScene_39 rfl ?_
        exact J_retI hX hQ dX3_faultOfScene_41 (by unfold fS; (repeat' split) <;> omega) rfl rfl (Nat.zero_le _) (Nat.zero_le _)
      · refine J_iconst hX dX3_faultOfScene_35 ?_
        refine J_goto hX 41 dX3_faultOfScene_36 (by decide) ?_
        exact J_retI hX hQ dX3_faultOfScene_41 (by unfold fS; (repeat' split) <;> omega) rfl rfl (Nat.zero_le _) (Nat.zero_le _)
  · refine J_iload_n hX dX3_faultOfScene_12 rfl ?_
    refine J_iconst hX dX3_faultOfScene_13 ?_
    refine J_bipush hX dX3_faultOfScene_14 rfl ?_
    refine J_callNI hX _ dX3_faultOfScene_16 cw_RX3_35 (m_X9_faultOfRange (by omega) (by omega) (by omega)) rfl (Nat.le_of_ble_eq_true rfl) (by decide) ⟨Nat.zero_le _, Nat.zero_le _⟩ (fun r16 => ?_)
    refine J_istore hX dX3_faultOfScene_19 (by decide) ?_
    refine J_iload hX dX3_faultOfScene_21 rfl ?_
    refine J_if_ne hX 39 dX3_faultOfScene_23 (by omega) (by decide) (fun c23 => ?_) (fun c23 => ?_)
    · refine J_iload hX dX3_faultOfScene_39 rfl ?_
      exact J_retI hX hQ dX3_faultOfScene_41 (by unfold fS; (repeat' split) <;> omega) rfl rfl (Nat.zero_le _) (Nat.zero_le _)
    · refine J_aload_n hX dX3_faultOfScene_26 rfl ?_
      refine J_geti hX fi_RX3_28 dX3_faultOfScene_27 (show K (b + 11) = 3 from hS 11 (by decide)) (fun r27 => ?_)
      refine J_bipush hX dX3_faultOfScene_30 rfl ?_
      refine J_icmp_lt hX 39 dX3_faultOfScene_32 (by omega) (by decide) (by decide) (fun c32 => ?_) (fun c32 => ?_)
      · refine J_iload hX dX3_faultOfScene_39 rfl ?_
        exact J_retI hX hQ dX3_faultOfScene_41 (by unfold fS; (repeat' split) <;> omega) rfl rfl (Nat.zero_le _) (Nat.zero_le _)
      · refine J_iconst hX dX3_faultOfScene_35 ?_
        refine J_goto hX 41 dX3_faultOfScene_36 (by decide) ?_
        exact J_retI hX hQ dX3_faultOfScene_41 (by unfold fS; (repeat' split) <;> omega) rfl rfl (Nat.zero_le _) (Nat.zero_le _)
-- X3_append
set_option maxHeartbeats 4000000 in
set_option maxRecDepth 100000 in
theorem m_X3_append {E : EE} {K : Nat → Nat} {M : MM} {b : Nat} {T l g t : Int} (hS : StageK K b) (hW : WF T M b) (hc : M (b + 11) 0 < 8) (hl : i32 l) (hg : i32 g) (ht : i32 t) : CnM E 0 yX3_append cX3_append 5 (Option.some FieldType.int) [.ref (b + 11), vI l, vI g, vI t] K M (fun r M2 => r = some (vI (M (b + 11) 0)) ∧ M2 = scM M b l g t) := by
  have hW0 := hW
  obtain ⟨hT0, ⟨ws1, ws2, ws3, ws4, ws5, ws6, ws7, ws8, ws9, ws10, ws11, ws12, ws13, ws14⟩, hWn, hWc⟩ := hW0
  refine Cn_of RX3 (plainFor_of_name (by decide)) rfl (Nat.le_of_ble_eq_true rfl) (fun X hX hQ => ?_)
  refine J_aload_n hX dX3_append_0 rfl ?_
  refine J_geti hX fi_RX3_28 dX3_append_1 (show K (b + 11) = 3 from hS 11 (by decide)) (fun r1 => ?_)
  refine J_istore hX dX3_append_4 (by decide) ?_
  refine J_iload hX dX3_append_6 rfl ?_
  refine J_if_lt hX 18 dX3_append_8 (by omega) (by decide) (fun c8 => ?_) (fun c8 => ?_)
  · refine J_sipush hX dX3_append_18 rfl ?_
    exact J_iret hX hQ dX3_append_21 ⟨rfl, by first | exact ⟨rfl, rfl⟩ | (exfalso; omega)⟩ (Nat.zero_le _) (Nat.zero_le _)
  · refine J_iload hX dX3_append_11 rfl ?_
    refine J_bipush hX dX3_append_13 rfl ?_
    refine J_icmp_lt hX 22 dX3_append_15 (by omega) (by decide) (by decide) (fun c15 => ?_) (fun c15 => ?_)
    · refine J_aload_n hX dX3_append_22 rfl ?_
      refine J_gr hX (b + 12) fr_RX3_18 dX3_append_23 (show K (b + 11) = 3 from hS 11 (by decide)) rfl ?_
      refine J_iload hX dX3_append_26 rfl ?_
      refine J_iload_n hX dX3_append_28 rfl ?_
      refine J_iast hX dX3_append_29 (show K (b + 12) = 1000 + 8 from hS 12 (by decide)) ⟨by omega, by omega⟩ (by decide) (by omega) ?_
      refine J_aload_n hX dX3_append_30 rfl ?_
      refine J_gr hX (b + 13) fr_RX3_22 dX3_append_31 (show K (b + 11) = 3 from hS 11 (by decide)) rfl ?_
      refine J_iload hX dX3_append_34 rfl ?_
      refine J_iload_n hX dX3_append_36 rfl ?_
      refine J_iast hX dX3_append_37 (show K (b + 13) = 1000 + 8 from hS 13 (by decide)) ⟨by omega, by omega⟩ (by decide) (by omega) ?_
      refine J_aload_n hX dX3_append_38 rfl ?_
      refine J_gr hX (b + 14) fr_RX3_25 dX3_append_39 (show K (b + 11) = 3 from hS 11 (by decide)) rfl ?_
      refine J_iload hX dX3_append_42 rfl ?_
      refine J_iload_n hX dX3_append_44 rfl ?_
      refine J_iast hX dX3_append_45 (show K (b + 14) = 1000 + 8 from hS 14 (by decide)) ⟨by omega, by omega⟩ (by decide) (by omega) ?_
      refine J_aload_n hX dX3_append_46 rfl ?_
      refine J_iload hX dX3_append_47 rfl ?_
      refine J_iconst hX dX3_append_49 ?_
      refine J_iadd hX dX3_append_50 ?_
      refine J_puti hX fw_RX3_28 dX3_append_51 (show K (b + 11) = 3 from hS 11 (by decide)) (by omega) (Or.inl rfl) ?_
      refine J_iload hX dX3_append_54 rfl ?_
      exact J_iret hX hQ dX3_append_56 ⟨rfl, by first | exact ⟨rfl, rfl⟩ | (exfalso; omega)⟩ (Nat.zero_le _) (Nat.zero_le _)
    · refine J_sipush hX dX3_append_18 rfl ?_
      exact J_iret hX hQ dX3_append_21 ⟨rfl, by first | exact ⟨rfl, rfl⟩ | (exfalso; omega)⟩ (Nat.zero_le _) (Nat.zero_le _)
-- X3_clear
set_option maxHeartbeats 4000000 in
set_option maxRecDepth 100000 in
theorem m_X3_clear {E : EE} {K : Nat → Nat} {M : MM} {b : Nat}  (hS : StageK K b)  : CnM E 0 yX3_clear cX3_clear 1 none [.ref (b + 11)] K M (fun r M2 => r = none ∧ M2 = clM M b) := by
  refine Cn_of RX3 (plainFor_of_name (by decide)) rfl (Nat.le_of_ble_eq_true rfl) (fun X hX hQ => ?_)
  refine J_aload_n hX dX3_clear_0 rfl ?_
  refine J_iconst hX dX3_clear_1 ?_
  refine J_puti hX fw_RX3_28 dX3_clear_2 (show K (b + 11) = 3 from hS 11 (by decide)) (by omega) (Or.inl rfl) ?_
  refine J_aload_n hX dX3_clear_5 rfl ?_
  refine J_iconst hX dX3_clear_6 ?_
  refine J_puti hX fw_RX3_39 dX3_clear_7 (show K (b + 11) = 3 from hS 11 (by decide)) (by omega) (Or.inl rfl) ?_
  refine J_aload_n hX dX3_clear_10 rfl ?_
  refine J_bipush hX dX3_clear_11 rfl ?_
  refine J_puti hX fw_RX3_9 dX3_clear_13 (show K (b + 11) = 3 from hS 11 (by decide)) (by omega) (Or.inl rfl) ?_
  refine J_aload_n hX dX3_clear_16 rfl ?_
  refine J_iconst hX dX3_clear_17 ?_
  refine J_puti hX fw_RX3_15 dX3_clear_18 (show K (b + 11) = 3 from hS 11 (by decide)) (by omega) (Or.inl rfl) ?_
  exact J_vret hX hQ dX3_clear_21 ⟨rfl, by first | exact ⟨rfl, rfl⟩ | (exfalso; omega)⟩ (Nat.zero_le _) (Nat.zero_le _)
-- X3_towards
set_option maxHeartbeats 4000000 in
set_option maxRecDepth 100000 in
theorem m_X3_towards {E : EE} {K : Nat → Nat} {M : MM} {f t s : Int} (hf : -1000 ≤ f ∧ f ≤ 1000) (ht : -1000 ≤ t ∧ t ≤ 1000) (hs : -1000 ≤ s ∧ s ≤ 1000) : CnI E 1 yX3_towards cX3_towards 3 (Option.some FieldType.int) [vI f, vI t, vI s] K M (tow f t s) := by
  refine ⟨Cn_of RX3 (plainFor_of_name (by decide)) rfl (Nat.le_of_ble_eq_true rfl) (fun X hX hQ => ?_), by unfold tow; (repeat' split) <;> omega⟩
  refine J_iload_n hX dX3_towards_0 rfl ?_
  refine J_iload_n hX dX3_towards_1 rfl ?_
  refine J_icmp_ge hX 15 dX3_towards_2 (by omega) (by omega) (by decide) (fun c2 => ?_) (fun c2 => ?_)
  · refine J_iload_n hX dX3_towards_15 rfl ?_
    refine J_iload_n hX dX3_towards_16 rfl ?_
    refine J_isub hX dX3_towards_17 ?_
    refine J_iload_n hX dX3_towards_18 rfl ?_
    refine J_callSI hX _ dX3_towards_19 cw_RX3_58 (m_J9_max_7cf53 (by omega) (by omega)) rfl (Nat.le_of_ble_eq_true rfl) (by decide) ⟨Nat.zero_le _, Nat.zero_le _⟩ (fun r19 => ?_)
    exact J_retI hX hQ dX3_towards_22 (by unfold tow; (repeat' split) <;> omega) rfl rfl (Nat.zero_le _) (Nat.zero_le _)
  · refine J_iload_n hX dX3_towards_5 rfl ?_
    refine J_iload_n hX dX3_towards_6 rfl ?_
    refine J_iadd hX dX3_towards_7 ?_
    refine J_iload_n hX dX3_towards_8 rfl ?_
    refine J_callSI hX _ dX3_towards_9 cw_RX3_53 (m_J9_min_7cf53 (by omega) (by omega)) rfl (Nat.le_of_ble_eq_true rfl) (by decide) ⟨Nat.zero_le _, Nat.zero_le _⟩ (fun r9 => ?_)
    refine J_goto hX 22 dX3_towards_12 (by decide) ?_
    exact J_retI hX hQ dX3_towards_22 (by unfold tow; (repeat' split) <;> omega) rfl rfl (Nat.zero_le _) (Nat.zero_le _)
-- X5_faultOfFrame
set_option maxHeartbeats 4000000 in
set_option maxRecDepth 100000 in
theorem m_X5_faultOfFrame {E : EE} {K : Nat → Nat} {M : MM} {b : Nat} {w h : Int} (hS : StageK K b) (hw : i32 w) (hh : i32 h) : CnI E 1 yX5_faultOfFrame cX5_faultOfFrame 3 (Option.some FieldType.int) [.ref b, vI w, vI h] K M (if (20 ≤ w ∧ w ≤ 200) ∧ (10 ≤ h ∧ h ≤ 120) then 0 else 2) := by
  refine ⟨Cn_of RX5 (plainFor_of_name (by decide)) rfl (Nat.le_of_ble_eq_true rfl) (fun X hX hQ => ?_), by split <;> omega⟩
  refine J_iload_n hX dX5_faultOfFrame_0 rfl ?_
  refine J_bipush hX dX5_faultOfFrame_1 rfl ?_
  refine J_sipush hX dX5_faultOfFrame_3 rfl ?_
  refine J_callNB hX _ dX5_faultOfFrame_6 cw_RX5_36 (m_X9_within (by omega) (by omega) (by omega)) rfl (Nat.le_of_ble_eq_true rfl) (by decide) ⟨Nat.zero_le _, Nat.zero_le _⟩ ?_
  refine J_ifb_eq hX 27 dX5_faultOfFrame_9 (by decide) (fun c9 => ?_) (fun c9 => ?_)
  · refine J_iconst hX dX5_faultOfFrame_27 ?_
    exact J_retI hX hQ dX5_faultOfFrame_28 (by split <;> omega) rfl rfl (Nat.zero_le _) (Nat.zero_le _)
  · refine J_iload_n hX dX5_faultOfFrame_12 rfl ?_
    refine J_bipush hX dX5_faultOfFrame_13 rfl ?_
    refine J_bipush hX dX5_faultOfFrame_15 rfl ?_
    refine J_callNB hX _ dX5_faultOfFrame_17 cw_RX5_36 (m_X9_within (by omega) (by omega) (by omega)) rfl (Nat.le_of_ble_eq_true rfl) (by decide) ⟨Nat.zero_le _, Nat.zero_le _⟩ ?_
    refine J_ifb_eq hX 27 dX5_faultOfFrame_20 (by decide) (fun c20 => ?_) (fun c20 => ?_)
    · refine J_iconst hX dX5_faultOfFrame_27 ?_
      exact J_retI hX hQ dX5_faultOfFrame_28 (by split <;> omega) rfl rfl (Nat.zero_le _) (Nat.zero_le _)
    · refine J_iconst hX dX5_faultOfFrame_23 ?_
      refine J_goto hX 28 dX5_faultOfFrame_24 (by decide) ?_
      exact J_retI hX hQ dX5_faultOfFrame_28 (by split <;> omega) rfl rfl (Nat.zero_le _) (Nat.zero_le _)
-- X5_entitle
set_option maxHeartbeats 4000000 in
set_option maxRecDepth 100000 in
theorem m_X5_entitle {E : EE} {K : Nat → Nat} {M : MM} {b : Nat} {x y l : Int} (hS : StageK K b) (hx : i32 x) (hy : i32 y) (hl : i32 l) : CnM E 0 yX5_entitle cX5_entitle 5 (Option.some FieldType.int) [.ref b, vI x, vI y, vI l] K M (fun r M2 => r = some (vI (M b 7)) ∧ M2 = entM M b x y l) := by
  refine Cn_of RX5 (plainFor_of_name (by decide)) rfl (Nat.le_of_ble_eq_true rfl) (fun X hX hQ => ?_)
  refine J_aload_n hX dX5_entitle_0 rfl ?_
  refine J_geti hX fi_RX5_62 dX5_entitle_1 (show K (b) = 5 from hS 0 (by decide)) (fun r1 => ?_)
  refine J_istore hX dX5_entitle_4 (by decide) ?_
  refine J_aload_n hX dX5_entitle_6 rfl ?_
  refine J_iload_n hX dX5_entitle_7 rfl ?_
  refine J_puti hX fw_RX5_65 dX5_entitle_8 (show K (b) = 5 from hS 0 (by decide)) (by omega) (Or.inl rfl) ?_
  refine J_aload_n hX dX5_entitle_11 rfl ?_
  refine J_iload_n hX dX5_entitle_12 rfl ?_
  refine J_puti hX fw_RX5_68 dX5_entitle_13 (show K (b) = 5 from hS 0 (by decide)) (by omega) (Or.inl rfl) ?_
  refine J_aload_n hX dX5_entitle_16 rfl ?_
  refine J_iload_n hX dX5_entitle_17 rfl ?_
  refine J_puti hX fw_RX5_62 dX5_entitle_18 (show K (b) = 5 from hS 0 (by decide)) (by omega) (Or.inl rfl) ?_
  refine J_iload hX dX5_entitle_21 rfl ?_
  exact J_iret hX hQ dX5_entitle_23 ⟨rfl, by first | exact ⟨rfl, rfl⟩ | (exfalso; omega)⟩ (Nat.zero_le _) (Nat.zero_le _)
-- X5_reframe
set_option maxHeartbeats 4000000 in
set_option maxRecDepth 100000 in
theorem m_X5_reframe {E : EE} {K : Nat → Nat} {M : MM} {b : Nat} {w h : Int} (hS : StageK K b) (hw : i32 w) (hh : i32 h) : CnM E 1 yX5_reframe cX5_reframe 4 (Option.some FieldType.int) [.ref b, vI w, vI h] K M (fun r M2 => r = some (vI (M (b + 11) 1)) ∧ M2 = begM M b w h) := by
  refine Cn_of RX5 (plainFor_of_name (by decide)) rfl (Nat.le_of_ble_eq_true rfl) (fun X hX hQ => ?_)
  refine J_aload_n hX dX5_reframe_0 rfl ?_
  refine J_gr hX (b + 11) fr_RX5_21 dX5_reframe_1 (show K (b) = 5 from hS 0 (by decide)) rfl ?_
  refine J_geti hX fi_RX5_40 dX5_reframe_4 (show K (b + 11) = 3 from hS 11 (by decide)) (fun r4 => ?_)
  refine J_istore_n hX dX5_reframe_7 (by decide) ?_
  refine J_aload_n hX dX5_reframe_8 rfl ?_
  refine J_iload_n hX dX5_reframe_9 rfl ?_
  refine J_puti hX fw_RX5_29 dX5_reframe_10 (show K (b) = 5 from hS 0 (by decide)) (by omega) (Or.inl rfl) ?_
  refine J_aload_n hX dX5_reframe_13 rfl ?_
  refine J_iload_n hX dX5_reframe_14 rfl ?_
  refine J_puti hX fw_RX5_33 dX5_reframe_15 (show K (b) = 5 from hS 0 (by decide)) (by omega) (Or.inl rfl) ?_
  refine J_aload_n hX dX5_reframe_18 rfl ?_
  refine J_gr hX (b + 1) fr_RX5_12 dX5_reframe_19 (show K (b) = 5 from hS 0 (by decide)) rfl ?_
  refine J_iconst hX dX5_reframe_22 ?_
  refine J_puti hX fw_RX5_43 dX5_reframe_23 (show K (b + 1) = 6 from hS 1 (by decide)) (by omega) (Or.inl rfl) ?_
  refine J_aload_n hX dX5_reframe_26 rfl ?_
  refine J_gr hX (b + 11) fr_RX5_21 dX5_reframe_27 (show K (b) = 5 from hS 0 (by decide)) rfl ?_
  refine J_callVM hX _ dX5_reframe_30 cw_RX5_46 (m_X3_clear hS) ⟨(show K (b + 11) = 3 from hS 11 (by decide)), by decide, by decide, rfl⟩ rfl (Nat.le_of_ble_eq_true rfl) (by decide) ⟨Nat.zero_le _, Nat.zero_le _⟩ (fun r9 M30 q30 => ?_)
  obtain ⟨rfl, rfl⟩ := q30
  refine J_aload_n hX dX5_reframe_33 rfl ?_
  refine J_iconst hX dX5_reframe_34 ?_
  refine J_iconst hX dX5_reframe_35 ?_
  refine J_iconst hX dX5_reframe_36 ?_
  refine J_callVM hX _ dX5_reframe_37 cw_RX5_49 (m_X5_entitle hS (by omega) (by omega) (by omega)) ⟨(show K (b) = 5 from hS 0 (by decide)), by decide, by decide, rfl⟩ rfl (Nat.le_of_ble_eq_true rfl) (by decide) ⟨Nat.zero_le _, Nat.zero_le _⟩ (fun r9 M37 q37 => ?_)
  obtain ⟨rfl, rfl⟩ := q37
  refine J_pop hX dX5_reframe_40 rfl ?_
  refine J_iload_n hX dX5_reframe_41 rfl ?_
  exact J_iret hX hQ dX5_reframe_42 ⟨rfl, by first | exact ⟨rfl, rfl⟩ | (exfalso; omega)⟩ (Nat.zero_le _) (Nat.zero_le _)
-- X5_faultOfCell
set_option maxHeartbeats 4000000 in
set_option maxRecDepth 100000 in
theorem m_X5_faultOfCell {E : EE} {K : Nat → Nat} {M : MM} {b : Nat} {T c r : Int} (hS : StageK K b) (hW : WF T M b) (hc : i32 c) (hr : i32 r) : CnI E 1 yX5_faultOfCell cX5_faultOfCell 3 (Option.some FieldType.int) [.ref b, vI c, vI r] K M (fCe M b c r) := by
  have hW0 := hW
  obtain ⟨hT0, ⟨ws1, ws2, ws3, ws4, ws5, ws6, ws7, ws8, ws9, ws10, ws11, ws12, ws13, ws14⟩, hWn, hWc⟩ := hW0
  refine ⟨Cn_of RX5 (plainFor_of_name (by decide)) rfl (Nat.le_of_ble_eq_true rfl) (fun X hX hQ => ?_), by unfold fCe; split <;> omega⟩
  refine J_iload_n hX dX5_faultOfCell_0 rfl ?_
  refine J_iconst hX dX5_faultOfCell_1 ?_
  refine J_aload_n hX dX5_faultOfCell_2 rfl ?_
  refine J_geti hX fi_RX5_29 dX5_faultOfCell_3 (show K (b) = 5 from hS 0 (by decide)) (fun r3 => ?_)
  refine J_iconst hX dX5_faultOfCell_6 ?_
  refine J_isub hX dX5_faultOfCell_7 ?_
  refine J_callNB hX _ dX5_faultOfCell_8 cw_RX5_36 (m_X9_within (by omega) (by omega) (by omega)) rfl (Nat.le_of_ble_eq_true rfl) (by decide) ⟨Nat.zero_le _, Nat.zero_le _⟩ ?_
  refine J_ifb_eq hX 32 dX5_faultOfCell_11 (by decide) (fun c11 => ?_) (fun c11 => ?_)
  · refine J_iconst hX dX5_faultOfCell_32 ?_
    exact J_retI hX hQ dX5_faultOfCell_33 (by unfold fCe; split <;> omega) rfl rfl (Nat.zero_le _) (Nat.zero_le _)
  · refine J_iload_n hX dX5_faultOfCell_14 rfl ?_
    refine J_iconst hX dX5_faultOfCell_15 ?_
    refine J_aload_n hX dX5_faultOfCell_16 rfl ?_
    refine J_geti hX fi_RX5_33 dX5_faultOfCell_17 (show K (b) = 5 from hS 0 (by decide)) (fun r17 => ?_)
    refine J_iconst hX dX5_faultOfCell_20 ?_
    refine J_isub hX dX5_faultOfCell_21 ?_
    refine J_callNB hX _ dX5_faultOfCell_22 cw_RX5_36 (m_X9_within (by omega) (by omega) (by omega)) rfl (Nat.le_of_ble_eq_true rfl) (by decide) ⟨Nat.zero_le _, Nat.zero_le _⟩ ?_
    refine J_ifb_eq hX 32 dX5_faultOfCell_25 (by decide) (fun c25 => ?_) (fun c25 => ?_)
    · refine J_iconst hX dX5_faultOfCell_32 ?_
      exact J_retI hX hQ dX5_faultOfCell_33 (by unfold fCe; split <;> omega) rfl rfl (Nat.zero_le _) (Nat.zero_le _)
    · refine J_iconst hX dX5_faultOfCell_28 ?_
      refine J_goto hX 33 dX5_faultOfCell_29 (by decide) ?_
      exact J_retI hX hQ dX5_faultOfCell_33 (by unfold fCe; split <;> omega) rfl rfl (Nat.zero_le _) (Nat.zero_le _)
-- X5_faultOfTitle
set_option maxHeartbeats 4000000 in
set_option maxRecDepth 100000 in
theorem m_X5_faultOfTitle {E : EE} {K : Nat → Nat} {M : MM} {b : Nat} {T x y l : Int} (hS : StageK K b) (hW : WF T M b) (hx : i32 x) (hy : i32 y) (hl : i32 l) : CnI E 1 yX5_faultOfTitle cX5_faultOfTitle 5 (Option.some FieldType.int) [.ref b, vI x, vI y, vI l] K M (fT M b x y l) := by
  have hW0 := hW
  obtain ⟨hT0, ⟨ws1, ws2, ws3, ws4, ws5, ws6, ws7, ws8, ws9, ws10, ws11, ws12, ws13, ws14⟩, hWn, hWc⟩ := hW0
  refine ⟨Cn_of RX5 (plainFor_of_name (by decide)) rfl (Nat.le_of_ble_eq_true rfl) (fun X hX hQ => ?_), by unfold fT; split <;> omega⟩
  refine J_iload_n hX dX5_faultOfTitle_0 rfl ?_
  refine J_iconst hX dX5_faultOfTitle_1 ?_
  refine J_aload_n hX dX5_faultOfTitle_2 rfl ?_
  refine J_geti hX fi_RX5_29 dX5_faultOfTitle_3 (show K (b) = 5 from hS 0 (by decide)) (fun r3 => ?_)
  refine J_iconst hX dX5_faultOfTitle_6 ?_
  refine J_isub hX dX5_faultOfTitle_7 ?_
  refine J_callNB hX _ dX5_faultOfTitle_8 cw_RX5_36 (m_X9_within (by omega) (by omega) (by omega)) rfl (Nat.le_of_ble_eq_true rfl) (by decide) ⟨Nat.zero_le _, Nat.zero_le _⟩ ?_
  refine J_ifb_eq hX 32 dX5_faultOfTitle_11 (by decide) (fun c11 => ?_) (fun c11 => ?_)
  · refine J_iconst hX dX5_faultOfTitle_32 ?_
    refine J_istore hX dX5_faultOfTitle_33 (by decide) ?_
    refine J_iload hX dX5_faultOfTitle_35 rfl ?_
    refine J_if_eq hX 54 dX5_faultOfTitle_37 (by decide) (by decide) (fun _ => ?_) (fun h => absurd (by decide) h)
    refine J_iconst hX dX5_faultOfTitle_54 ?_
    exact J_retI hX hQ dX5_faultOfTitle_55 (by unfold fT; split <;> omega) rfl rfl (Nat.zero_le _) (Nat.zero_le _)
  · refine J_iload_n hX dX5_faultOfTitle_14 rfl ?_
    refine J_iconst hX dX5_faultOfTitle_15 ?_
    refine J_aload_n hX dX5_faultOfTitle_16 rfl ?_
    refine J_geti hX fi_RX5_33 dX5_faultOfTitle_17 (show K (b) = 5 from hS 0 (by decide)) (fun r17 => ?_)
    refine J_iconst hX dX5_faultOfTitle_20 ?_
    refine J_isub hX dX5_faultOfTitle_21 ?_
    refine J_callNB hX _ dX5_faultOfTitle_22 cw_RX5_36 (m_X9_within (by omega) (by omega) (by omega)) rfl (Nat.le_of_ble_eq_true rfl) (by decide) ⟨Nat.zero_le _, Nat.zero_le _⟩ ?_
    refine J_ifb_eq hX 32 dX5_faultOfTitle_25 (by decide) (fun c25 => ?_) (fun c25 => ?_)
    · refine J_iconst hX dX5_faultOfTitle_32 ?_
      refine J_istore hX dX5_faultOfTitle_33 (by decide) ?_
      refine J_iload hX dX5_faultOfTitle_35 rfl ?_
      refine J_if_eq hX 54 dX5_faultOfTitle_37 (by decide) (by decide) (fun _ => ?_) (fun h => absurd (by decide) h)
      refine J_iconst hX dX5_faultOfTitle_54 ?_
      exact J_retI hX hQ dX5_faultOfTitle_55 (by unfold fT; split <;> omega) rfl rfl (Nat.zero_le _) (Nat.zero_le _)
    · refine J_iconst hX dX5_faultOfTitle_28 ?_
      refine J_goto hX 33 dX5_faultOfTitle_29 (by decide) ?_
      refine J_istore hX dX5_faultOfTitle_33 (by decide) ?_
      refine J_iload hX dX5_faultOfTitle_35 rfl ?_
      refine J_if_eq hX 54 dX5_faultOfTitle_37 (by decide) (by decide) (fun h => absurd h (by decide)) (fun _ => ?_)
      refine J_iload_n hX dX5_faultOfTitle_40 rfl ?_
      refine J_iconst hX dX5_faultOfTitle_41 ?_
      refine J_bipush hX dX5_faultOfTitle_42 rfl ?_
      refine J_callNB hX _ dX5_faultOfTitle_44 cw_RX5_36 (m_X9_within (by omega) (by omega) (by omega)) rfl (Nat.le_of_ble_eq_true rfl) (by decide) ⟨Nat.zero_le _, Nat.zero_le _⟩ ?_
      refine J_ifb_eq hX 54 dX5_faultOfTitle_47 (by decide) (fun c47 => ?_) (fun c47 => ?_)
      · refine J_iconst hX dX5_faultOfTitle_54 ?_
        exact J_retI hX hQ dX5_faultOfTitle_55 (by unfold fT; split <;> omega) rfl rfl (Nat.zero_le _) (Nat.zero_le _)
      · refine J_iconst hX dX5_faultOfTitle_50 ?_
        refine J_goto hX 55 dX5_faultOfTitle_51 (by decide) ?_
        exact J_retI hX hQ dX5_faultOfTitle_55 (by unfold fT; split <;> omega) rfl rfl (Nat.zero_le _) (Nat.zero_le _)
-- X5_change
set_option maxHeartbeats 4000000 in
set_option maxRecDepth 100000 in
theorem m_X5_change {E : EE} {K : Nat → Nat} {M : MM} {b : Nat} {k v : Int} (hS : StageK K b) (hk : 0 ≤ k ∧ k < 4) (hv : i32 v) : CnM E 0 yX5_change cX5_change 4 (Option.some FieldType.int) [.ref b, vI k, vI v] K M (fun r M2 => r = some (vI (M (b + 15) k)) ∧ M2 = mset M (b + 15) k v) := by
  refine Cn_of RX5 (plainFor_of_name (by decide)) rfl (Nat.le_of_ble_eq_true rfl) (fun X hX hQ => ?_)
  refine J_iload_n hX dX5_change_0 rfl ?_
  refine J_if_lt hX 9 dX5_change_1 (by omega) (by decide) (fun c1 => ?_) (fun c1 => ?_)
  · refine J_sipush hX dX5_change_9 rfl ?_
    exact J_iret hX hQ dX5_change_12 ⟨rfl, by first | exact ⟨rfl, rfl⟩ | (exfalso; omega)⟩ (Nat.zero_le _) (Nat.zero_le _)
  · refine J_iload_n hX dX5_change_4 rfl ?_
    refine J_iconst hX dX5_change_5 ?_
    refine J_icmp_lt hX 13 dX5_change_6 (by omega) (by decide) (by decide) (fun c6 => ?_) (fun c6 => ?_)
    · refine J_aload_n hX dX5_change_13 rfl ?_
      refine J_gr hX (b + 15) fr_RX5_25 dX5_change_14 (show K (b) = 5 from hS 0 (by decide)) rfl ?_
      refine J_iload_n hX dX5_change_17 rfl ?_
      refine J_iald hX dX5_change_18 (show K (b + 15) = 1000 + 4 from hS 15 (by decide)) ⟨by omega, by omega⟩ (by decide) (fun r18 => ?_)
      refine J_istore_n hX dX5_change_19 (by decide) ?_
      refine J_aload_n hX dX5_change_20 rfl ?_
      refine J_gr hX (b + 15) fr_RX5_25 dX5_change_21 (show K (b) = 5 from hS 0 (by decide)) rfl ?_
      refine J_iload_n hX dX5_change_24 rfl ?_
      refine J_iload_n hX dX5_change_25 rfl ?_
      refine J_iast hX dX5_change_26 (show K (b + 15) = 1000 + 4 from hS 15 (by decide)) ⟨by omega, by omega⟩ (by decide) (by omega) ?_
      refine J_iload_n hX dX5_change_27 rfl ?_
      exact J_iret hX hQ dX5_change_28 ⟨rfl, by first | exact ⟨rfl, rfl⟩ | (exfalso; omega)⟩ (Nat.zero_le _) (Nat.zero_le _)
    · refine J_sipush hX dX5_change_9 rfl ?_
      exact J_iret hX hQ dX5_change_12 ⟨rfl, by first | exact ⟨rfl, rfl⟩ | (exfalso; omega)⟩ (Nat.zero_le _) (Nat.zero_le _)
-- X5_faultOfTicks
set_option maxHeartbeats 4000000 in
set_option maxRecDepth 100000 in
theorem m_X5_faultOfTicks {E : EE} {K : Nat → Nat} {M : MM} {b : Nat} {t : Int} (hS : StageK K b) (ht : i32 t) : CnI E 2 yX5_faultOfTicks cX5_faultOfTicks 2 (Option.some FieldType.int) [.ref b, vI t] K M (if 1 ≤ t ∧ t ≤ 200 then 0 else 2) := by
  refine ⟨Cn_of RX5 (plainFor_of_name (by decide)) rfl (Nat.le_of_ble_eq_true rfl) (fun X hX hQ => ?_), by split <;> omega⟩
  refine J_iload_n hX dX5_faultOfTicks_0 rfl ?_
  refine J_iconst hX dX5_faultOfTicks_1 ?_
  refine J_sipush hX dX5_faultOfTicks_2 rfl ?_
  refine J_callNI hX _ dX5_faultOfTicks_5 cw_RX5_59 (m_X9_faultOfRange (by omega) (by omega) (by omega)) rfl (Nat.le_of_ble_eq_true rfl) (by decide) ⟨Nat.zero_le _, Nat.zero_le _⟩ (fun r5 => ?_)
  exact J_retI hX hQ dX5_faultOfTicks_8 (by split <;> omega) rfl rfl (Nat.zero_le _) (Nat.zero_le _)
