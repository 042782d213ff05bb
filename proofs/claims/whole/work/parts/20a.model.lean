/-! the reference: words -/
def kM (j : Nat) : Nat := if j = 0 then 9 else if j < 3 then 1198 else if j = 3 then 1792 else if j = 4 then 1150 else if j = 11 then 1006 else 1020
/-- a model at r -/
def ModelK (K : Nat → Nat) (r : Nat) : Prop := ∀ j, j < 12 → K (r + j) = kM j
/-- the model's array m says what the page S says -/
def RS (S : MM) (m : Int → Int) : Prop :=
  (m 0 = S 0 3 ∧ m 1 = S 0 4 ∧ m 2 = S 1 0 ∧ m 3 = S 11 0 ∧ m 4 = S 11 1 ∧ m 5 = S 11 2 ∧ m 6 = S 11 3 ∧ m 7 = S 15 0 ∧ m 8 = S 15 1 ∧ m 9 = S 15 2 ∧ m 10 = S 15 3 ∧ m 13 = S 0 7) ∧ (S 0 7 = 0 ∨ m 11 = S 0 5 ∧ m 12 = S 0 6) ∧
  (∀ n : Int, 0 ≤ n → n < S 1 0 → m (14 + 8 * n) = S 2 n ∧ m (14 + 8 * n + 1) = S 4 n ∧ m (14 + 8 * n + 2) = S 5 n ∧ m (14 + 8 * n + 3) = S 6 n ∧ m (14 + 8 * n + 4) = S 7 n ∧ m (14 + 8 * n + 5) = S 8 n ∧ m (14 + 8 * n + 6) = S 9 n) ∧
  (∀ s : Int, 0 ≤ s → s < S 11 0 → m (174 + 3 * s) = S 12 s ∧ m (174 + 3 * s + 1) = S 13 s ∧ m (174 + 3 * s + 2) = S 14 s)
theorem fl_nn {x y : Int} (hx : 0 ≤ x) : x.tdiv y = x / y := Int.tdiv_eq_ediv_of_nonneg hx
-- X10_in
set_option maxHeartbeats 4000000 in
set_option maxRecDepth 100000 in
theorem m_X10_in {E : EE} {K : Nat → Nat} {M : MM} {v lo hi : Int} (hv : i32 v) (hl : i32 lo) (hh : i32 hi) : CnB E 0 yX10_in cX10_in 3 [vI v, vI lo, vI hi] K M (lo ≤ v ∧ v ≤ hi) := by
  refine Cn_of RX10 (plainFor_of_name (by decide)) rfl (Nat.le_of_ble_eq_true rfl) (fun X hX hQ => ?_)
  refine J_iload_n hX dX10_in_0 rfl ?_
  refine J_iload_n hX dX10_in_1 rfl ?_
  refine J_icmp_lt hX 14 dX10_in_2 (by omega) (by omega) (by decide) (fun c2 => ?_) (fun c2 => ?_)
  · refine J_iconst hX dX10_in_14 ?_
    exact J_retF hX hQ dX10_in_15 (by omega) rfl rfl (Nat.zero_le _) (Nat.zero_le _)
  · refine J_iload_n hX dX10_in_5 rfl ?_
    refine J_iload_n hX dX10_in_6 rfl ?_
    refine J_icmp_gt hX 14 dX10_in_7 (by omega) (by omega) (by decide) (fun c7 => ?_) (fun c7 => ?_)
    · refine J_iconst hX dX10_in_14 ?_
      exact J_retF hX hQ dX10_in_15 (by omega) rfl rfl (Nat.zero_le _) (Nat.zero_le _)
    · refine J_iconst hX dX10_in_10 ?_
      refine J_goto hX 15 dX10_in_11 (by decide) ?_
      exact J_retT hX hQ dX10_in_15 (by omega) rfl rfl (Nat.zero_le _) (Nat.zero_le _)
-- X10_floor
set_option maxHeartbeats 4000000 in
set_option maxRecDepth 100000 in
theorem m_X10_floor {E : EE} {K : Nat → Nat} {M : MM} {x y : Int} (hx : -2147483000 ≤ x ∧ x ≤ 2147483000) (hy : y = 2 ∨ y = 100) : CnI E 0 yX10_floor cX10_floor 2 (Option.some FieldType.int) [vI x, vI y] K M (x / y) := by
  have h1 : 0 ≤ x → x.tdiv y = x / y := fun h => fl_nn h
  have h2 : x < 0 → (y - 1 - x).tdiv y = (y - 1 - x) / y := fun h => fl_nn (by omega)
  refine ⟨Cn_of RX10 (plainFor_of_name (by decide)) rfl (Nat.le_of_ble_eq_true rfl) (fun X hX hQ => ?_), by rcases hy with rfl | rfl <;> omega⟩
  refine J_iload_n hX dX10_floor_0 rfl ?_
  refine J_if_lt hX 10 dX10_floor_1 (by first | omega | (rcases hy with rfl | rfl <;> first | (rw [h1 (by omega)]; omega) | (rw [h2 (by omega)]; omega))) (by decide) (fun c1 => ?_) (fun c1 => ?_)
  · refine J_iload_n hX dX10_floor_10 rfl ?_
    refine J_iconst hX dX10_floor_11 ?_
    refine J_isub hX dX10_floor_12 ?_
    refine J_iload_n hX dX10_floor_13 rfl ?_
    refine J_isub hX dX10_floor_14 ?_
    refine J_iload_n hX dX10_floor_15 rfl ?_
    refine J_idiv hX dX10_floor_16 (by first | omega | (rcases hy with rfl | rfl <;> first | (rw [h1 (by omega)]; omega) | (rw [h2 (by omega)]; omega))) ⟨by omega, by omega⟩ ?_
    refine J_ineg hX dX10_floor_17 ?_
    exact J_retI hX hQ dX10_floor_18 (by rcases hy with rfl | rfl <;> first | (rw [h1 (by omega)]) | (rw [h2 (by omega)]; omega)) rfl rfl (Nat.zero_le _) (Nat.zero_le _)
  · refine J_iload_n hX dX10_floor_4 rfl ?_
    refine J_iload_n hX dX10_floor_5 rfl ?_
    refine J_idiv hX dX10_floor_6 (by first | omega | (rcases hy with rfl | rfl <;> first | (rw [h1 (by omega)]; omega) | (rw [h2 (by omega)]; omega))) ⟨by omega, by omega⟩ ?_
    refine J_goto hX 18 dX10_floor_7 (by decide) ?_
    exact J_retI hX hQ dX10_floor_18 (by rcases hy with rfl | rfl <;> first | (rw [h1 (by omega)]) | (rw [h2 (by omega)]; omega)) rfl rfl (Nat.zero_le _) (Nat.zero_le _)
-- X10_greater
set_option maxHeartbeats 4000000 in
set_option maxRecDepth 100000 in
theorem m_X10_greater {E : EE} {K : Nat → Nat} {M : MM} {x y : Int} (hx : i32 x) (hy : i32 y) : CnI E 0 yX10_greater cX10_greater 2 (Option.some FieldType.int) [vI x, vI y] K M (if x > y then x else y) := by
  refine ⟨Cn_of RX10 (plainFor_of_name (by decide)) rfl (Nat.le_of_ble_eq_true rfl) (fun X hX hQ => ?_), by split <;> omega⟩
  refine J_iload_n hX dX10_greater_0 rfl ?_
  refine J_iload_n hX dX10_greater_1 rfl ?_
  refine J_icmp_le hX 9 dX10_greater_2 (by omega) (by omega) (by decide) (fun c2 => ?_) (fun c2 => ?_)
  · refine J_iload_n hX dX10_greater_9 rfl ?_
    exact J_retI hX hQ dX10_greater_10 (by split <;> omega) rfl rfl (Nat.zero_le _) (Nat.zero_le _)
  · refine J_iload_n hX dX10_greater_5 rfl ?_
    refine J_goto hX 10 dX10_greater_6 (by decide) ?_
    exact J_retI hX hQ dX10_greater_10 (by split <;> omega) rfl rfl (Nat.zero_le _) (Nat.zero_le _)
-- X10_isFar
set_option maxHeartbeats 4000000 in
set_option maxRecDepth 100000 in
theorem m_X10_isFar {E : EE} {K : Nat → Nat} {M : MM} {v : Int} (hv : i32 v) : CnB E 1 yX10_isFar cX10_isFar 1 [vI v] K M (-200 ≤ v ∧ v ≤ 200) := by
  refine Cn_of RX10 (plainFor_of_name (by decide)) rfl (Nat.le_of_ble_eq_true rfl) (fun X hX hQ => ?_)
  refine J_iload_n hX dX10_isFar_0 rfl ?_
  refine J_sipush hX dX10_isFar_1 rfl ?_
  refine J_sipush hX dX10_isFar_4 rfl ?_
  refine J_callSB hX _ dX10_isFar_7 cw_RX10_58 (m_X10_in (by omega) (by omega) (by omega)) rfl (Nat.le_of_ble_eq_true rfl) (by decide) ⟨Nat.zero_le _, Nat.zero_le _⟩ ?_
  exact J_retB hX hQ dX10_isFar_10 (by omega) rfl rfl (Nat.zero_le _) (Nat.zero_le _)
-- X10_notBegin
set_option maxHeartbeats 4000000 in
set_option maxRecDepth 100000 in
theorem m_X10_notBegin {E : EE} {K : Nat → Nat} {M : MM} {w h : Int} (hw : i32 w) (hh : i32 h) : CnI E 1 yX10_notBegin cX10_notBegin 2 (Option.some FieldType.int) [vI w, vI h] K M (if (20 ≤ w ∧ w ≤ 200) ∧ (10 ≤ h ∧ h ≤ 120) then 0 else 1) := by
  refine ⟨Cn_of RX10 (plainFor_of_name (by decide)) rfl (Nat.le_of_ble_eq_true rfl) (fun X hX hQ => ?_), by split <;> omega⟩
  refine J_iload_n hX dX10_notBegin_0 rfl ?_
  refine J_bipush hX dX10_notBegin_1 rfl ?_
  refine J_sipush hX dX10_notBegin_3 rfl ?_
  refine J_callSB hX _ dX10_notBegin_6 cw_RX10_58 (m_X10_in (by omega) (by omega) (by omega)) rfl (Nat.le_of_ble_eq_true rfl) (by decide) ⟨Nat.zero_le _, Nat.zero_le _⟩ ?_
  refine J_ifb_eq hX 27 dX10_notBegin_9 (by decide) (fun c9 => ?_) (fun c9 => ?_)
  · refine J_iconst hX dX10_notBegin_27 ?_
    exact J_retI hX hQ dX10_notBegin_28 (by split <;> omega) rfl rfl (Nat.zero_le _) (Nat.zero_le _)
  · refine J_iload_n hX dX10_notBegin_12 rfl ?_
    refine J_bipush hX dX10_notBegin_13 rfl ?_
    refine J_bipush hX dX10_notBegin_15 rfl ?_
    refine J_callSB hX _ dX10_notBegin_17 cw_RX10_58 (m_X10_in (by omega) (by omega) (by omega)) rfl (Nat.le_of_ble_eq_true rfl) (by decide) ⟨Nat.zero_le _, Nat.zero_le _⟩ ?_
    refine J_ifb_eq hX 27 dX10_notBegin_20 (by decide) (fun c20 => ?_) (fun c20 => ?_)
    · refine J_iconst hX dX10_notBegin_27 ?_
      exact J_retI hX hQ dX10_notBegin_28 (by split <;> omega) rfl rfl (Nat.zero_le _) (Nat.zero_le _)
    · refine J_iconst hX dX10_notBegin_23 ?_
      refine J_goto hX 28 dX10_notBegin_24 (by decide) ?_
      exact J_retI hX hQ dX10_notBegin_28 (by split <;> omega) rfl rfl (Nat.zero_le _) (Nat.zero_le _)
-- X10_notTick
set_option maxHeartbeats 4000000 in
set_option maxRecDepth 100000 in
theorem m_X10_notTick {E : EE} {K : Nat → Nat} {M : MM} {t : Int} (ht : i32 t) : CnI E 1 yX10_notTick cX10_notTick 1 (Option.some FieldType.int) [vI t] K M (if 1 ≤ t ∧ t ≤ 200 then 0 else 1) := by
  refine ⟨Cn_of RX10 (plainFor_of_name (by decide)) rfl (Nat.le_of_ble_eq_true rfl) (fun X hX hQ => ?_), by split <;> omega⟩
  refine J_iload_n hX dX10_notTick_0 rfl ?_
  refine J_iconst hX dX10_notTick_1 ?_
  refine J_sipush hX dX10_notTick_2 rfl ?_
  refine J_callSB hX _ dX10_notTick_5 cw_RX10_58 (m_X10_in (by omega) (by omega) (by omega)) rfl (Nat.le_of_ble_eq_true rfl) (by decide) ⟨Nat.zero_le _, Nat.zero_le _⟩ ?_
  refine J_ifb_eq hX 15 dX10_notTick_8 (by decide) (fun c8 => ?_) (fun c8 => ?_)
  · refine J_iconst hX dX10_notTick_15 ?_
    exact J_retI hX hQ dX10_notTick_16 (by split <;> omega) rfl rfl (Nat.zero_le _) (Nat.zero_le _)
  · refine J_iconst hX dX10_notTick_11 ?_
    refine J_goto hX 16 dX10_notTick_12 (by decide) ?_
    exact J_retI hX hQ dX10_notTick_16 (by split <;> omega) rfl rfl (Nat.zero_le _) (Nat.zero_le _)
-- X10_isBudget
set_option maxHeartbeats 4000000 in
set_option maxRecDepth 100000 in
theorem m_X10_isBudget {E : EE} {K : Nat → Nat} {M : MM} {lo hi : Int} (hl : i32 lo) (hh : i32 hi) : CnB E 1 yX10_isBudget cX10_isBudget 2 [vI lo, vI hi] K M ((-20 ≤ lo ∧ lo ≤ 0) ∧ (0 ≤ hi ∧ hi ≤ 20)) := by
  refine Cn_of RX10 (plainFor_of_name (by decide)) rfl (Nat.le_of_ble_eq_true rfl) (fun X hX hQ => ?_)
  refine J_iload_n hX dX10_isBudget_0 rfl ?_
  refine J_bipush hX dX10_isBudget_1 rfl ?_
  refine J_iconst hX dX10_isBudget_3 ?_
  refine J_callSB hX _ dX10_isBudget_4 cw_RX10_58 (m_X10_in (by omega) (by omega) (by omega)) rfl (Nat.le_of_ble_eq_true rfl) (by decide) ⟨Nat.zero_le _, Nat.zero_le _⟩ ?_
  refine J_ifb_eq hX 24 dX10_isBudget_7 (by decide) (fun c7 => ?_) (fun c7 => ?_)
  · refine J_iconst hX dX10_isBudget_24 ?_
    exact J_retF hX hQ dX10_isBudget_25 (by omega) rfl rfl (Nat.zero_le _) (Nat.zero_le _)
  · refine J_iload_n hX dX10_isBudget_10 rfl ?_
    refine J_iconst hX dX10_isBudget_11 ?_
    refine J_bipush hX dX10_isBudget_12 rfl ?_
    refine J_callSB hX _ dX10_isBudget_14 cw_RX10_58 (m_X10_in (by omega) (by omega) (by omega)) rfl (Nat.le_of_ble_eq_true rfl) (by decide) ⟨Nat.zero_le _, Nat.zero_le _⟩ ?_
    refine J_ifb_eq hX 24 dX10_isBudget_17 (by decide) (fun c17 => ?_) (fun c17 => ?_)
    · refine J_iconst hX dX10_isBudget_24 ?_
      exact J_retF hX hQ dX10_isBudget_25 (by omega) rfl rfl (Nat.zero_le _) (Nat.zero_le _)
    · refine J_iconst hX dX10_isBudget_20 ?_
      refine J_goto hX 25 dX10_isBudget_21 (by decide) ?_
      exact J_retT hX hQ dX10_isBudget_25 (by omega) rfl rfl (Nat.zero_le _) (Nat.zero_le _)
-- X10_towards
set_option maxHeartbeats 4000000 in
set_option maxRecDepth 100000 in
theorem m_X10_towards {E : EE} {K : Nat → Nat} {M : MM} {f t s : Int} (hf : -1000 ≤ f ∧ f ≤ 1000) (ht : -1000 ≤ t ∧ t ≤ 1000) (hs : 0 ≤ s ∧ s ≤ 1000) : CnI E 0 yX10_towards cX10_towards 3 (Option.some FieldType.int) [vI f, vI t, vI s] K M (tow f t s) := by
  refine ⟨Cn_of RX10 (plainFor_of_name (by decide)) rfl (Nat.le_of_ble_eq_true rfl) (fun X hX hQ => ?_), by unfold tow; (repeat' split) <;> omega⟩
  refine J_iload_n hX dX10_towards_0 rfl ?_
  refine J_iload_n hX dX10_towards_1 rfl ?_
  refine J_iload_n hX dX10_towards_2 rfl ?_
  refine J_iadd hX dX10_towards_3 ?_
  refine J_icmp_le hX 13 dX10_towards_4 (by omega) (by omega) (by decide) (fun c4 => ?_) (fun c4 => ?_)
  · refine J_iload_n hX dX10_towards_13 rfl ?_
    refine J_iload_n hX dX10_towards_14 rfl ?_
    refine J_iload_n hX dX10_towards_15 rfl ?_
    refine J_isub hX dX10_towards_16 ?_
    refine J_icmp_ge hX 26 dX10_towards_17 (by omega) (by omega) (by decide) (fun c17 => ?_) (fun c17 => ?_)
    · refine J_iload_n hX dX10_towards_26 rfl ?_
      exact J_retI hX hQ dX10_towards_27 (by unfold tow; (repeat' split) <;> omega) rfl rfl (Nat.zero_le _) (Nat.zero_le _)
    · refine J_iload_n hX dX10_towards_20 rfl ?_
      refine J_iload_n hX dX10_towards_21 rfl ?_
      refine J_isub hX dX10_towards_22 ?_
      refine J_goto hX 27 dX10_towards_23 (by decide) ?_
      exact J_retI hX hQ dX10_towards_27 (by unfold tow; (repeat' split) <;> omega) rfl rfl (Nat.zero_le _) (Nat.zero_le _)
  · refine J_iload_n hX dX10_towards_7 rfl ?_
    refine J_iload_n hX dX10_towards_8 rfl ?_
    refine J_iadd hX dX10_towards_9 ?_
    refine J_goto hX 27 dX10_towards_10 (by decide) ?_
    exact J_retI hX hQ dX10_towards_27 (by unfold tow; (repeat' split) <;> omega) rfl rfl (Nat.zero_le _) (Nat.zero_le _)
-- X10_column
set_option maxHeartbeats 4000000 in
set_option maxRecDepth 100000 in
theorem m_X10_column {E : EE} {K : Nat → Nat} {M : MM} {p s l : Int} (hp : -1000000 ≤ p ∧ p ≤ 1000000) (hs : -1000000 ≤ s ∧ s ≤ 1000000) (hl : l = 0 ∨ l = 1) : CnI E 1 yX10_column cX10_column 3 (Option.some FieldType.int) [vI p, vI s, vI l] K M (co l p s) := by
  refine ⟨Cn_of RX10 (plainFor_of_name (by decide)) rfl (Nat.le_of_ble_eq_true rfl) (fun X hX hQ => ?_), by unfold co; split <;> omega⟩
  refine J_iload_n hX dX10_column_0 rfl ?_
  refine J_if_eq hX 16 dX10_column_1 (by omega) (by decide) (fun c1 => ?_) (fun c1 => ?_)
  · refine J_iload_n hX dX10_column_16 rfl ?_
    refine J_iload_n hX dX10_column_17 rfl ?_
    refine J_iconst hX dX10_column_18 ?_
    refine J_callSI hX _ dX10_column_19 cw_RX10_151 (m_X10_floor (by omega) (by omega)) rfl (Nat.le_of_ble_eq_true rfl) (by decide) ⟨Nat.zero_le _, Nat.zero_le _⟩ (fun r19 => ?_)
    refine J_isub hX dX10_column_22 ?_
    exact J_retI hX hQ dX10_column_23 (by unfold co; split <;> omega) rfl rfl (Nat.zero_le _) (Nat.zero_le _)
  · refine J_iload_n hX dX10_column_4 rfl ?_
    refine J_iload_n hX dX10_column_5 rfl ?_
    refine J_iconst hX dX10_column_6 ?_
    refine J_iadd hX dX10_column_7 ?_
    refine J_iconst hX dX10_column_8 ?_
    refine J_callSI hX _ dX10_column_9 cw_RX10_151 (m_X10_floor (by omega) (by omega)) rfl (Nat.le_of_ble_eq_true rfl) (by decide) ⟨Nat.zero_le _, Nat.zero_le _⟩ (fun r9 => ?_)
    refine J_iadd hX dX10_column_12 ?_
    refine J_goto hX 23 dX10_column_13 (by decide) ?_
    exact J_retI hX hQ dX10_column_23 (by unfold co; split <;> omega) rfl rfl (Nat.zero_le _) (Nat.zero_le _)
/-- what stands against a setting -/
abbrev fSe (w v : Int) : Prop := (w = 0 ∨ w = 3) ∧ (0 ≤ v ∧ v ≤ 100) ∨ w = 1 ∧ (1 ≤ v ∧ v ≤ 5) ∨ w = 2 ∧ (0 ≤ v ∧ v ≤ 15)
-- X10_notSet
set_option maxHeartbeats 4000000 in
set_option maxRecDepth 100000 in
theorem m_X10_notSet {E : EE} {K : Nat → Nat} {M : MM} {w v : Int} (hw : i32 w) (hv : i32 v) : CnI E 1 yX10_notSet cX10_notSet 2 (Option.some FieldType.int) [vI w, vI v] K M (if fSe w v then 0 else 1) := by
  refine ⟨Cn_of RX10 (plainFor_of_name (by decide)) rfl (Nat.le_of_ble_eq_true rfl) (fun X hX hQ => ?_), by split <;> omega⟩
  refine J_iload_n hX dX10_notSet_0 rfl ?_
  rcases (show (w = 0) ∨ (w = 1) ∨ (w = 2) ∨ (w = 3) ∨ (w < 0 ∨ 3 < w) by omega) with e0 | e0 | e0 | e0 | e0
  · skip
    refine J_tin hX (31) 32 dX10_notSet_1 (by omega) (by omega) (by rw [e0]; rfl) (by decide) ?_
    refine J_iload_n hX dX10_notSet_32 rfl ?_
    refine J_iconst hX dX10_notSet_33 ?_
    refine J_bipush hX dX10_notSet_34 rfl ?_
    refine J_callSB hX _ dX10_notSet_36 cw_RX10_58 (m_X10_in (by omega) (by omega) (by omega)) rfl (Nat.le_of_ble_eq_true rfl) (by decide) ⟨Nat.zero_le _, Nat.zero_le _⟩ ?_
    refine J_ifb_eq hX 46 dX10_notSet_39 (by decide) (fun c39 => ?_) (fun c39 => ?_)
    · refine J_iconst hX dX10_notSet_46 ?_
      exact J_retI hX hQ dX10_notSet_47 (by unfold fSe; split <;> omega) rfl rfl (Nat.zero_le _) (Nat.zero_le _)
    · refine J_iconst hX dX10_notSet_42 ?_
      refine J_goto hX 47 dX10_notSet_43 (by decide) ?_
      exact J_retI hX hQ dX10_notSet_47 (by unfold fSe; split <;> omega) rfl rfl (Nat.zero_le _) (Nat.zero_le _)
  · skip
    refine J_tin hX (47) 48 dX10_notSet_1 (by omega) (by omega) (by rw [e0]; rfl) (by decide) ?_
    refine J_iload_n hX dX10_notSet_48 rfl ?_
    refine J_iconst hX dX10_notSet_49 ?_
    refine J_iconst hX dX10_notSet_50 ?_
    refine J_callSB hX _ dX10_notSet_51 cw_RX10_58 (m_X10_in (by omega) (by omega) (by omega)) rfl (Nat.le_of_ble_eq_true rfl) (by decide) ⟨Nat.zero_le _, Nat.zero_le _⟩ ?_
    refine J_ifb_eq hX 61 dX10_notSet_54 (by decide) (fun c54 => ?_) (fun c54 => ?_)
    · refine J_iconst hX dX10_notSet_61 ?_
      exact J_retI hX hQ dX10_notSet_62 (by unfold fSe; split <;> omega) rfl rfl (Nat.zero_le _) (Nat.zero_le _)
    · refine J_iconst hX dX10_notSet_57 ?_
      refine J_goto hX 62 dX10_notSet_58 (by decide) ?_
      exact J_retI hX hQ dX10_notSet_62 (by unfold fSe; split <;> omega) rfl rfl (Nat.zero_le _) (Nat.zero_le _)
  · skip
    refine J_tin hX (62) 63 dX10_notSet_1 (by omega) (by omega) (by rw [e0]; rfl) (by decide) ?_
    refine J_iload_n hX dX10_notSet_63 rfl ?_
    refine J_iconst hX dX10_notSet_64 ?_
    refine J_bipush hX dX10_notSet_65 rfl ?_
    refine J_callSB hX _ dX10_notSet_67 cw_RX10_58 (m_X10_in (by omega) (by omega) (by omega)) rfl (Nat.le_of_ble_eq_true rfl) (by decide) ⟨Nat.zero_le _, Nat.zero_le _⟩ ?_
    refine J_ifb_eq hX 77 dX10_notSet_70 (by decide) (fun c70 => ?_) (fun c70 => ?_)
    · refine J_iconst hX dX10_notSet_77 ?_
      exact J_retI hX hQ dX10_notSet_78 (by unfold fSe; split <;> omega) rfl rfl (Nat.zero_le _) (Nat.zero_le _)
    · refine J_iconst hX dX10_notSet_73 ?_
      refine J_goto hX 78 dX10_notSet_74 (by decide) ?_
      exact J_retI hX hQ dX10_notSet_78 (by unfold fSe; split <;> omega) rfl rfl (Nat.zero_le _) (Nat.zero_le _)
  · skip
    refine J_tin hX (31) 32 dX10_notSet_1 (by omega) (by omega) (by rw [e0]; rfl) (by decide) ?_
    refine J_iload_n hX dX10_notSet_32 rfl ?_
    refine J_iconst hX dX10_notSet_33 ?_
    refine J_bipush hX dX10_notSet_34 rfl ?_
    refine J_callSB hX _ dX10_notSet_36 cw_RX10_58 (m_X10_in (by omega) (by omega) (by omega)) rfl (Nat.le_of_ble_eq_true rfl) (by decide) ⟨Nat.zero_le _, Nat.zero_le _⟩ ?_
    refine J_ifb_eq hX 46 dX10_notSet_39 (by decide) (fun c39 => ?_) (fun c39 => ?_)
    · refine J_iconst hX dX10_notSet_46 ?_
      exact J_retI hX hQ dX10_notSet_47 (by unfold fSe; split <;> omega) rfl rfl (Nat.zero_le _) (Nat.zero_le _)
    · refine J_iconst hX dX10_notSet_42 ?_
      refine J_goto hX 47 dX10_notSet_43 (by decide) ?_
      exact J_retI hX hQ dX10_notSet_47 (by unfold fSe; split <;> omega) rfl rfl (Nat.zero_le _) (Nat.zero_le _)
  · skip
    refine J_tout hX 79 dX10_notSet_1 (by omega) (by omega) (by decide) ?_
    refine J_iconst hX dX10_notSet_79 ?_
    exact J_retI hX hQ dX10_notSet_80 (by unfold fSe; split <;> omega) rfl rfl (Nat.zero_le _) (Nat.zero_le _)
-- X10_of
set_option maxHeartbeats 4000000 in
set_option maxRecDepth 100000 in
theorem m_X10_of {E : EE} {K : Nat → Nat} {M : MM} {r : Nat} {n w : Int} (hM : ModelK K r) (hn : 0 ≤ n ∧ n < 20) (hw : 0 ≤ w ∧ w < 8) (hv : i32 (M (r + 1) (14 + 8 * n + w))) : CnI E 0 yX10_of cX10_of 3 (Option.some FieldType.int) [.ref r, vI n, vI w] K M (M (r + 1) (14 + 8 * n + w)) := by
  refine ⟨Cn_of RX10 (plainFor_of_name (by decide)) rfl (Nat.le_of_ble_eq_true rfl) (fun X hX hQ => ?_), hv⟩
  refine J_aload_n hX dX10_of_0 rfl ?_
  refine J_gr hX (r + 1) fr_RX10_7 dX10_of_1 (show K (r) = 9 from hM 0 (by decide)) rfl ?_
  refine J_bipush hX dX10_of_4 rfl ?_
  refine J_bipush hX dX10_of_6 rfl ?_
  refine J_iload_n hX dX10_of_8 rfl ?_
  refine J_imul hX dX10_of_9 ?_
  refine J_iadd hX dX10_of_10 ?_
  refine J_iload_n hX dX10_of_11 rfl ?_
  refine J_iadd hX dX10_of_12 ?_
  refine J_iald hX dX10_of_13 (show K (r + 1) = 1000 + 198 from hM 1 (by decide)) ⟨by omega, by omega⟩ (by decide) (fun r13 => ?_)
  exact J_retI hX hQ dX10_of_14 (by rfl) rfl rfl (Nat.zero_le _) (Nat.zero_le _)
