-- X10_isNode
set_option maxHeartbeats 4000000 in
set_option maxRecDepth 100000 in
theorem m_X10_isNode {E : EE} {K : Nat → Nat} {M : MM} {r : Nat} {T : Int} {S : MM} {n : Int} (hM : ModelK K r) (hR : RS S (M (r + 1))) (hW : WFS T S) (hn : i32 n) : CnB E 1 yX10_isNode cX10_isNode 2 [.ref r, vI n] K M (hs S n) := by
  obtain ⟨⟨rs0, rs1, rs2, rs3, rs4, rs5, rs6, rs7, rs8, rs9, rs10, rs13⟩, rst, rsn, rsc⟩ := id hR
  have hs9 := hW.2.1
  unfold WFSs at hs9
  refine Cn_of RX10 (plainFor_of_name (by decide)) rfl (Nat.le_of_ble_eq_true rfl) (fun X hX hQ => ?_)
  refine J_iload_n hX dX10_isNode_0 rfl ?_
  refine J_iconst hX dX10_isNode_1 ?_
  refine J_aload_n hX dX10_isNode_2 rfl ?_
  refine J_gr hX (r + 1) fr_RX10_7 dX10_isNode_3 (show K (r) = 9 from hM 0 (by decide)) rfl ?_
  refine J_iconst hX dX10_isNode_6 ?_
  refine J_iald hX dX10_isNode_7 (show K (r + 1) = 1000 + 198 from hM 1 (by decide)) ⟨by omega, by omega⟩ (by decide) (fun r7 => ?_)
  refine J_iconst hX dX10_isNode_8 ?_
  refine J_isub hX dX10_isNode_9 ?_
  refine J_callSB hX _ dX10_isNode_10 cw_RX10_58 (m_X10_in (by omega) (by omega) (by omega)) rfl (Nat.le_of_ble_eq_true rfl) (by decide) ⟨Nat.zero_le _, Nat.zero_le _⟩ ?_
  exact J_retB hX hQ dX10_isNode_13 (by first | omega | (constructor <;> (intro h9; omega))) rfl rfl (Nat.zero_le _) (Nat.zero_le _)
-- X10_isBox
set_option maxHeartbeats 4000000 in
set_option maxRecDepth 100000 in
theorem m_X10_isBox {E : EE} {K : Nat → Nat} {M : MM} {r : Nat} {T : Int} {S : MM} {n : Int} (hM : ModelK K r) (hR : RS S (M (r + 1))) (hW : WFS T S) (hn : hs S n) : CnB E 1 yX10_isBox cX10_isBox 2 [.ref r, vI n] K M (bx S n) := by
  obtain ⟨⟨rs0, rs1, rs2, rs3, rs4, rs5, rs6, rs7, rs8, rs9, rs10, rs13⟩, rst, rsn, rsc⟩ := id hR
  have hs9 := hW.2.1
  unfold WFSs at hs9
  have q := rsn n hn.1 hn.2.1
  have hwn := hW.2.2.1 n hn.1 hn.2.1
  refine Cn_of RX10 (plainFor_of_name (by decide)) rfl (Nat.le_of_ble_eq_true rfl) (fun X hX hQ => ?_)
  refine J_aload_n hX dX10_isBox_0 rfl ?_
  refine J_iload_n hX dX10_isBox_1 rfl ?_
  refine J_iconst hX dX10_isBox_2 ?_
  refine J_callVI hX _ dX10_isBox_3 cw_RX10_62 (m_X10_of hM (by omega) (by omega) (by omega)) ⟨(show K (r) = 9 from hM 0 (by decide)), by decide, by decide, rfl⟩ rfl (Nat.le_of_ble_eq_true rfl) (by decide) ⟨Nat.zero_le _, Nat.zero_le _⟩ (fun r3 => ?_)
  refine J_if_le hX 13 dX10_isBox_6 (by omega) (by decide) (fun c6 => ?_) (fun c6 => ?_)
  · refine J_iconst hX dX10_isBox_13 ?_
    exact J_retF hX hQ dX10_isBox_14 (by omega) rfl rfl (Nat.zero_le _) (Nat.zero_le _)
  · refine J_iconst hX dX10_isBox_9 ?_
    refine J_goto hX 14 dX10_isBox_10 (by decide) ?_
    exact J_retT hX hQ dX10_isBox_14 (by omega) rfl rfl (Nat.zero_le _) (Nat.zero_le _)
-- X10_notRemove
set_option maxHeartbeats 4000000 in
set_option maxRecDepth 100000 in
theorem m_X10_notRemove {E : EE} {K : Nat → Nat} {M : MM} {r : Nat} {T : Int} {S : MM} {n : Int} (hM : ModelK K r) (hR : RS S (M (r + 1))) (hW : WFS T S) (hn : i32 n) : CnI E 2 yX10_notRemove cX10_notRemove 2 (Option.some FieldType.int) [.ref r, vI n] K M (if hs S n then 0 else 1) := by
  refine ⟨Cn_of RX10 (plainFor_of_name (by decide)) rfl (Nat.le_of_ble_eq_true rfl) (fun X hX hQ => ?_), by split <;> omega⟩
  refine J_aload_n hX dX10_notRemove_0 rfl ?_
  refine J_iload_n hX dX10_notRemove_1 rfl ?_
  refine J_callVB hX _ dX10_notRemove_2 cw_RX10_75 (m_X10_isNode hM hR hW (by omega)) ⟨(show K (r) = 9 from hM 0 (by decide)), by decide, by decide, rfl⟩ rfl (Nat.le_of_ble_eq_true rfl) (by decide) ⟨Nat.zero_le _, Nat.zero_le _⟩ ?_
  refine J_ifb_eq hX 12 dX10_notRemove_5 (by decide) (fun c5 => ?_) (fun c5 => ?_)
  · refine J_iconst hX dX10_notRemove_12 ?_
    exact J_retI hX hQ dX10_notRemove_13 (by first | (rw [if_pos (by assumption)]) | (rw [if_neg (by assumption)])) rfl rfl (Nat.zero_le _) (Nat.zero_le _)
  · refine J_iconst hX dX10_notRemove_8 ?_
    refine J_goto hX 13 dX10_notRemove_9 (by decide) ?_
    exact J_retI hX hQ dX10_notRemove_13 (by first | (rw [if_pos (by assumption)]) | (rw [if_neg (by assumption)])) rfl rfl (Nat.zero_le _) (Nat.zero_le _)
-- X10_notMove
set_option maxHeartbeats 4000000 in
set_option maxRecDepth 100000 in
theorem m_X10_notMove {E : EE} {K : Nat → Nat} {M : MM} {r : Nat} {T : Int} {S : MM} {n u v w : Int} (hM : ModelK K r) (hR : RS S (M (r + 1))) (hW : WFS T S) (hn : i32 n) (hu : i32 u) (hv : i32 v) (hw : i32 w) : CnI E 2 yX10_notMove cX10_notMove 5 (Option.some FieldType.int) [.ref r, vI n, vI u, vI v, vI w] K M (if ¬ hs S n then 1 else if plc u v w then 0 else 2) := by
  refine ⟨Cn_of RX10 (plainFor_of_name (by decide)) rfl (Nat.le_of_ble_eq_true rfl) (fun X hX hQ => ?_), by (repeat' split) <;> omega⟩
  refine J_aload_n hX dX10_notMove_0 rfl ?_
  refine J_iload_n hX dX10_notMove_1 rfl ?_
  refine J_callVB hX _ dX10_notMove_2 cw_RX10_75 (m_X10_isNode hM hR hW (by omega)) ⟨(show K (r) = 9 from hM 0 (by decide)), by decide, by decide, rfl⟩ rfl (Nat.le_of_ble_eq_true rfl) (by decide) ⟨Nat.zero_le _, Nat.zero_le _⟩ ?_
  refine J_ifb_ne hX 12 dX10_notMove_5 (by decide) (fun c5 => ?_) (fun c5 => ?_)
  · refine J_iload_n hX dX10_notMove_12 rfl ?_
    refine J_callSB hX _ dX10_notMove_13 cw_RX10_82 (m_X10_isFar (by omega)) rfl (Nat.le_of_ble_eq_true rfl) (by decide) ⟨Nat.zero_le _, Nat.zero_le _⟩ ?_
    refine J_ifb_eq hX 38 dX10_notMove_16 (by decide) (fun c16 => ?_) (fun c16 => ?_)
    · refine J_iconst hX dX10_notMove_38 ?_
      exact J_retI hX hQ dX10_notMove_39 (by (repeat' split) <;> omega) rfl rfl (Nat.zero_le _) (Nat.zero_le _)
    · refine J_iload_n hX dX10_notMove_19 rfl ?_
      refine J_callSB hX _ dX10_notMove_20 cw_RX10_82 (m_X10_isFar (by omega)) rfl (Nat.le_of_ble_eq_true rfl) (by decide) ⟨Nat.zero_le _, Nat.zero_le _⟩ ?_
      refine J_ifb_eq hX 38 dX10_notMove_23 (by decide) (fun c23 => ?_) (fun c23 => ?_)
      · refine J_iconst hX dX10_notMove_38 ?_
        exact J_retI hX hQ dX10_notMove_39 (by (repeat' split) <;> omega) rfl rfl (Nat.zero_le _) (Nat.zero_le _)
      · refine J_iload hX dX10_notMove_26 rfl ?_
        refine J_callSB hX _ dX10_notMove_28 cw_RX10_82 (m_X10_isFar (by omega)) rfl (Nat.le_of_ble_eq_true rfl) (by decide) ⟨Nat.zero_le _, Nat.zero_le _⟩ ?_
        refine J_ifb_eq hX 38 dX10_notMove_31 (by decide) (fun c31 => ?_) (fun c31 => ?_)
        · refine J_iconst hX dX10_notMove_38 ?_
          exact J_retI hX hQ dX10_notMove_39 (by (repeat' split) <;> omega) rfl rfl (Nat.zero_le _) (Nat.zero_le _)
        · refine J_iconst hX dX10_notMove_34 ?_
          refine J_goto hX 39 dX10_notMove_35 (by decide) ?_
          exact J_retI hX hQ dX10_notMove_39 (by (repeat' split) <;> omega) rfl rfl (Nat.zero_le _) (Nat.zero_le _)
  · refine J_iconst hX dX10_notMove_8 ?_
    refine J_goto hX 39 dX10_notMove_9 (by decide) ?_
    exact J_retI hX hQ dX10_notMove_39 (by (repeat' split) <;> omega) rfl rfl (Nat.zero_le _) (Nat.zero_le _)
-- X10_notScene
set_option maxHeartbeats 4000000 in
set_option maxRecDepth 100000 in
theorem m_X10_notScene {E : EE} {K : Nat → Nat} {M : MM} {r : Nat} {T : Int} {S : MM} {l g t : Int} (hM : ModelK K r) (hR : RS S (M (r + 1))) (hW : WFS T S) (hl : i32 l) (hg : i32 g) (ht : i32 t) : CnI E 1 yX10_notScene cX10_notScene 4 (Option.some FieldType.int) [.ref r, vI l, vI g, vI t] K M (if ((-20 ≤ l ∧ l ≤ 0) ∧ (0 ≤ g ∧ g ≤ 20)) ∧ (1 ≤ t ∧ t ≤ 50) then (if 8 ≤ S 11 0 then 2 else 0) else 1) := by
  obtain ⟨⟨rs0, rs1, rs2, rs3, rs4, rs5, rs6, rs7, rs8, rs9, rs10, rs13⟩, rst, rsn, rsc⟩ := id hR
  have hs9 := hW.2.1
  unfold WFSs at hs9
  refine ⟨Cn_of RX10 (plainFor_of_name (by decide)) rfl (Nat.le_of_ble_eq_true rfl) (fun X hX hQ => ?_), by (repeat' split) <;> omega⟩
  refine J_iload_n hX dX10_notScene_0 rfl ?_
  refine J_bipush hX dX10_notScene_1 rfl ?_
  refine J_iconst hX dX10_notScene_3 ?_
  refine J_callSB hX _ dX10_notScene_4 cw_RX10_58 (m_X10_in (by omega) (by omega) (by omega)) rfl (Nat.le_of_ble_eq_true rfl) (by decide) ⟨Nat.zero_le _, Nat.zero_le _⟩ ?_
  refine J_ifb_eq hX 30 dX10_notScene_7 (by decide) (fun c7 => ?_) (fun c7 => ?_)
  · refine J_iconst hX dX10_notScene_30 ?_
    refine J_goto hX 50 dX10_notScene_31 (by decide) ?_
    exact J_retI hX hQ dX10_notScene_50 (by (repeat' split) <;> omega) rfl rfl (Nat.zero_le _) (Nat.zero_le _)
  · refine J_iload_n hX dX10_notScene_10 rfl ?_
    refine J_iconst hX dX10_notScene_11 ?_
    refine J_bipush hX dX10_notScene_12 rfl ?_
    refine J_callSB hX _ dX10_notScene_14 cw_RX10_58 (m_X10_in (by omega) (by omega) (by omega)) rfl (Nat.le_of_ble_eq_true rfl) (by decide) ⟨Nat.zero_le _, Nat.zero_le _⟩ ?_
    refine J_ifb_eq hX 30 dX10_notScene_17 (by decide) (fun c17 => ?_) (fun c17 => ?_)
    · refine J_iconst hX dX10_notScene_30 ?_
      refine J_goto hX 50 dX10_notScene_31 (by decide) ?_
      exact J_retI hX hQ dX10_notScene_50 (by (repeat' split) <;> omega) rfl rfl (Nat.zero_le _) (Nat.zero_le _)
    · refine J_iload_n hX dX10_notScene_20 rfl ?_
      refine J_iconst hX dX10_notScene_21 ?_
      refine J_bipush hX dX10_notScene_22 rfl ?_
      refine J_callSB hX _ dX10_notScene_24 cw_RX10_58 (m_X10_in (by omega) (by omega) (by omega)) rfl (Nat.le_of_ble_eq_true rfl) (by decide) ⟨Nat.zero_le _, Nat.zero_le _⟩ ?_
      refine J_ifb_ne hX 34 dX10_notScene_27 (by decide) (fun c27 => ?_) (fun c27 => ?_)
      · refine J_aload_n hX dX10_notScene_34 rfl ?_
        refine J_gr hX (r + 1) fr_RX10_7 dX10_notScene_35 (show K (r) = 9 from hM 0 (by decide)) rfl ?_
        refine J_iconst hX dX10_notScene_38 ?_
        refine J_iald hX dX10_notScene_39 (show K (r + 1) = 1000 + 198 from hM 1 (by decide)) ⟨by omega, by omega⟩ (by decide) (fun r39 => ?_)
        refine J_bipush hX dX10_notScene_40 rfl ?_
        refine J_icmp_ne hX 49 dX10_notScene_42 (by omega) (by decide) (by decide) (fun c42 => ?_) (fun c42 => ?_)
        · refine J_iconst hX dX10_notScene_49 ?_
          exact J_retI hX hQ dX10_notScene_50 (by (repeat' split) <;> omega) rfl rfl (Nat.zero_le _) (Nat.zero_le _)
        · refine J_iconst hX dX10_notScene_45 ?_
          refine J_goto hX 50 dX10_notScene_46 (by decide) ?_
          exact J_retI hX hQ dX10_notScene_50 (by (repeat' split) <;> omega) rfl rfl (Nat.zero_le _) (Nat.zero_le _)
      · refine J_iconst hX dX10_notScene_30 ?_
        refine J_goto hX 50 dX10_notScene_31 (by decide) ?_
        exact J_retI hX hQ dX10_notScene_50 (by (repeat' split) <;> omega) rfl rfl (Nat.zero_le _) (Nat.zero_le _)
-- X10_notTitle
set_option maxHeartbeats 4000000 in
set_option maxRecDepth 100000 in
theorem m_X10_notTitle {E : EE} {K : Nat → Nat} {M : MM} {r : Nat} {T : Int} {S : MM} {x y l : Int} (hM : ModelK K r) (hR : RS S (M (r + 1))) (hW : WFS T S) (hx : i32 x) (hy : i32 y) (hl : i32 l) : CnI E 1 yX10_notTitle cX10_notTitle 4 (Option.some FieldType.int) [.ref r, vI x, vI y, vI l] K M (if ((0 ≤ x ∧ x ≤ S 0 3 - 1) ∧ (0 ≤ y ∧ y ≤ S 0 4 - 1)) ∧ (1 ≤ l ∧ l ≤ 40) then 0 else 1) := by
  obtain ⟨⟨rs0, rs1, rs2, rs3, rs4, rs5, rs6, rs7, rs8, rs9, rs10, rs13⟩, rst, rsn, rsc⟩ := id hR
  have hs9 := hW.2.1
  unfold WFSs at hs9
  refine ⟨Cn_of RX10 (plainFor_of_name (by decide)) rfl (Nat.le_of_ble_eq_true rfl) (fun X hX hQ => ?_), by (repeat' split) <;> omega⟩
  refine J_iload_n hX dX10_notTitle_0 rfl ?_
  refine J_iconst hX dX10_notTitle_1 ?_
  refine J_aload_n hX dX10_notTitle_2 rfl ?_
  refine J_gr hX (r + 1) fr_RX10_7 dX10_notTitle_3 (show K (r) = 9 from hM 0 (by decide)) rfl ?_
  refine J_iconst hX dX10_notTitle_6 ?_
  refine J_iald hX dX10_notTitle_7 (show K (r + 1) = 1000 + 198 from hM 1 (by decide)) ⟨by omega, by omega⟩ (by decide) (fun r7 => ?_)
  refine J_iconst hX dX10_notTitle_8 ?_
  refine J_isub hX dX10_notTitle_9 ?_
  refine J_callSB hX _ dX10_notTitle_10 cw_RX10_58 (m_X10_in (by omega) (by omega) (by omega)) rfl (Nat.le_of_ble_eq_true rfl) (by decide) ⟨Nat.zero_le _, Nat.zero_le _⟩ ?_
  refine J_ifb_eq hX 46 dX10_notTitle_13 (by decide) (fun c13 => ?_) (fun c13 => ?_)
  · refine J_iconst hX dX10_notTitle_46 ?_
    exact J_retI hX hQ dX10_notTitle_47 (by (repeat' split) <;> omega) rfl rfl (Nat.zero_le _) (Nat.zero_le _)
  · refine J_iload_n hX dX10_notTitle_16 rfl ?_
    refine J_iconst hX dX10_notTitle_17 ?_
    refine J_aload_n hX dX10_notTitle_18 rfl ?_
    refine J_gr hX (r + 1) fr_RX10_7 dX10_notTitle_19 (show K (r) = 9 from hM 0 (by decide)) rfl ?_
    refine J_iconst hX dX10_notTitle_22 ?_
    refine J_iald hX dX10_notTitle_23 (show K (r + 1) = 1000 + 198 from hM 1 (by decide)) ⟨by omega, by omega⟩ (by decide) (fun r23 => ?_)
    refine J_iconst hX dX10_notTitle_24 ?_
    refine J_isub hX dX10_notTitle_25 ?_
    refine J_callSB hX _ dX10_notTitle_26 cw_RX10_58 (m_X10_in (by omega) (by omega) (by omega)) rfl (Nat.le_of_ble_eq_true rfl) (by decide) ⟨Nat.zero_le _, Nat.zero_le _⟩ ?_
    refine J_ifb_eq hX 46 dX10_notTitle_29 (by decide) (fun c29 => ?_) (fun c29 => ?_)
    · refine J_iconst hX dX10_notTitle_46 ?_
      exact J_retI hX hQ dX10_notTitle_47 (by (repeat' split) <;> omega) rfl rfl (Nat.zero_le _) (Nat.zero_le _)
    · refine J_iload_n hX dX10_notTitle_32 rfl ?_
      refine J_iconst hX dX10_notTitle_33 ?_
      refine J_bipush hX dX10_notTitle_34 rfl ?_
      refine J_callSB hX _ dX10_notTitle_36 cw_RX10_58 (m_X10_in (by omega) (by omega) (by omega)) rfl (Nat.le_of_ble_eq_true rfl) (by decide) ⟨Nat.zero_le _, Nat.zero_le _⟩ ?_
      refine J_ifb_eq hX 46 dX10_notTitle_39 (by decide) (fun c39 => ?_) (fun c39 => ?_)
      · refine J_iconst hX dX10_notTitle_46 ?_
        exact J_retI hX hQ dX10_notTitle_47 (by (repeat' split) <;> omega) rfl rfl (Nat.zero_le _) (Nat.zero_le _)
      · refine J_iconst hX dX10_notTitle_42 ?_
        refine J_goto hX 47 dX10_notTitle_43 (by decide) ?_
        exact J_retI hX hQ dX10_notTitle_47 (by (repeat' split) <;> omega) rfl rfl (Nat.zero_le _) (Nat.zero_le _)
