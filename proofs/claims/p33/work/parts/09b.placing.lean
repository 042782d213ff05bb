-- X2_rawShift
set_option maxHeartbeats 4000000 in
set_option maxRecDepth 100000 in
theorem m_X2_rawShift {E : EE} {K : Nat → Nat} {M : MM} {g d : Int} (hg : 0 ≤ g ∧ g ≤ 100) (hd : -1300 ≤ d ∧ d ≤ 1300) : CnI E 1 yX2_rawShift cX2_rawShift 2 (Option.some FieldType.int) [vI g, vI d] K M (g * d / 100) := by
  have hm := mul_bd hg.1 hg.2 hd.1 hd.2
  refine ⟨Cn_of RX2 (plainFor_of_name (by decide)) rfl (Nat.le_of_ble_eq_true rfl) (fun X hX hQ => ?_), by have hm := mul_bd hg.1 hg.2 hd.1 hd.2; omega⟩
  refine J_iload_n hX dX2_rawShift_0 rfl ?_
  refine J_iload_n hX dX2_rawShift_1 rfl ?_
  refine J_imul hX dX2_rawShift_2 ?_
  refine J_bipush hX dX2_rawShift_3 rfl ?_
  refine J_callSI hX _ dX2_rawShift_5 cw_RX2_86 (m_J9_floorDiv_7cf53 (by omega) (by omega)) rfl (Nat.le_of_ble_eq_true rfl) (by decide) ⟨Nat.zero_le _, Nat.zero_le _⟩ (fun r5 => ?_)
  exact J_retI hX hQ dX2_rawShift_8 (by rfl) rfl rfl (Nat.zero_le _) (Nat.zero_le _)
-- X9_columnOf
set_option maxHeartbeats 4000000 in
set_option maxRecDepth 100000 in
theorem m_X9_columnOf {E : EE} {K : Nat → Nat} {M : MM} {l p s : Int} (hl : i32 l) (hp : -1000000 ≤ p ∧ p ≤ 1000000) (hs : -1000000 ≤ s ∧ s ≤ 1000000) : CnI E 1 yX9_columnOf cX9_columnOf 3 (Option.some FieldType.int) [vI l, vI p, vI s] K M (co l p s) := by
  refine ⟨Cn_of RX9 (plainFor_of_name (by decide)) rfl (Nat.le_of_ble_eq_true rfl) (fun X hX hQ => ?_), by unfold co; split <;> omega⟩
  refine J_iload_n hX dX9_columnOf_0 rfl ?_
  refine J_if_eq hX 16 dX9_columnOf_1 (by omega) (by decide) (fun c1 => ?_) (fun c1 => ?_)
  · refine J_iload_n hX dX9_columnOf_16 rfl ?_
    refine J_iload_n hX dX9_columnOf_17 rfl ?_
    refine J_iconst hX dX9_columnOf_18 ?_
    refine J_callSI hX _ dX9_columnOf_19 cw_RX9_273 (m_J9_floorDiv_7cf53 (by omega) (by omega)) rfl (Nat.le_of_ble_eq_true rfl) (by decide) ⟨Nat.zero_le _, Nat.zero_le _⟩ (fun r19 => ?_)
    refine J_isub hX dX9_columnOf_22 ?_
    exact J_retI hX hQ dX9_columnOf_23 (by unfold co; split <;> omega) rfl rfl (Nat.zero_le _) (Nat.zero_le _)
  · refine J_iload_n hX dX9_columnOf_4 rfl ?_
    refine J_iload_n hX dX9_columnOf_5 rfl ?_
    refine J_iconst hX dX9_columnOf_6 ?_
    refine J_iadd hX dX9_columnOf_7 ?_
    refine J_iconst hX dX9_columnOf_8 ?_
    refine J_callSI hX _ dX9_columnOf_9 cw_RX9_273 (m_J9_floorDiv_7cf53 (by omega) (by omega)) rfl (Nat.le_of_ble_eq_true rfl) (by decide) ⟨Nat.zero_le _, Nat.zero_le _⟩ (fun r9 => ?_)
    refine J_iadd hX dX9_columnOf_12 ?_
    refine J_goto hX 23 dX9_columnOf_13 (by decide) ?_
    exact J_retI hX hQ dX9_columnOf_23 (by unfold co; split <;> omega) rfl rfl (Nat.zero_le _) (Nat.zero_le _)
-- X2_isNearer
set_option maxHeartbeats 4000000 in
set_option maxRecDepth 100000 in
theorem m_X2_isNearer {E : EE} {K : Nat → Nat} {M : MM} {v : Nat} {n m : Int} (hV : ViewK K v) (hn : i32 n) (hm : i32 m) : CnB E 1 yX2_isNearer cX2_isNearer 3 [.ref (v + 1), vI n, vI m] K M ((has M (v + 2) n ∧ has M (v + 2) m) ∧ M (v + 21) m < M (v + 21) n) := by
  refine Cn_of RX2 (plainFor_of_name (by decide)) rfl (Nat.le_of_ble_eq_true rfl) (fun X hX hQ => ?_)
  refine J_aload_n hX dX2_isNearer_0 rfl ?_
  refine J_gr hX (v + 2 + 1) fr_RX2_22 dX2_isNearer_1 (show K (v + 1) = 2 from hV 1 (by decide)) rfl ?_
  refine J_iload_n hX dX2_isNearer_4 rfl ?_
  refine J_callVB hX _ dX2_isNearer_5 cw_RX2_115 (m_X6_has (hV).stage (by omega)) ⟨(show K (v + 2 + 1) = 6 from (hV).stage 1 (by decide)), by decide, by decide, rfl⟩ rfl (Nat.le_of_ble_eq_true rfl) (by decide) ⟨Nat.zero_le _, Nat.zero_le _⟩ ?_
  refine J_ifb_eq hX 41 dX2_isNearer_8 (by decide) (fun c8 => ?_) (fun c8 => ?_)
  · refine J_iconst hX dX2_isNearer_41 ?_
    exact J_retF hX hQ dX2_isNearer_42 (by omega) rfl rfl (Nat.zero_le _) (Nat.zero_le _)
  · refine J_aload_n hX dX2_isNearer_11 rfl ?_
    refine J_gr hX (v + 2 + 1) fr_RX2_22 dX2_isNearer_12 (show K (v + 1) = 2 from hV 1 (by decide)) rfl ?_
    refine J_iload_n hX dX2_isNearer_15 rfl ?_
    refine J_callVB hX _ dX2_isNearer_16 cw_RX2_115 (m_X6_has (hV).stage (by omega)) ⟨(show K (v + 2 + 1) = 6 from (hV).stage 1 (by decide)), by decide, by decide, rfl⟩ rfl (Nat.le_of_ble_eq_true rfl) (by decide) ⟨Nat.zero_le _, Nat.zero_le _⟩ ?_
    refine J_ifb_eq hX 41 dX2_isNearer_19 (by decide) (fun c19 => ?_) (fun c19 => ?_)
    · refine J_iconst hX dX2_isNearer_41 ?_
      exact J_retF hX hQ dX2_isNearer_42 (by omega) rfl rfl (Nat.zero_le _) (Nat.zero_le _)
    · refine J_aload_n hX dX2_isNearer_22 rfl ?_
      refine J_gr hX (v + 21) fr_RX2_33 dX2_isNearer_23 (show K (v + 1) = 2 from hV 1 (by decide)) rfl ?_
      refine J_iload_n hX dX2_isNearer_26 rfl ?_
      refine J_iald hX dX2_isNearer_27 (show K (v + 21) = 1000 + 20 from hV 21 (by decide)) ⟨by omega, by omega⟩ (by decide) (fun r27 => ?_)
      refine J_aload_n hX dX2_isNearer_28 rfl ?_
      refine J_gr hX (v + 21) fr_RX2_33 dX2_isNearer_29 (show K (v + 1) = 2 from hV 1 (by decide)) rfl ?_
      refine J_iload_n hX dX2_isNearer_32 rfl ?_
      refine J_iald hX dX2_isNearer_33 (show K (v + 21) = 1000 + 20 from hV 21 (by decide)) ⟨by omega, by omega⟩ (by decide) (fun r33 => ?_)
      refine J_icmp_le hX 41 dX2_isNearer_34 (by omega) (by omega) (by decide) (fun c34 => ?_) (fun c34 => ?_)
      · refine J_iconst hX dX2_isNearer_41 ?_
        exact J_retF hX hQ dX2_isNearer_42 (by omega) rfl rfl (Nat.zero_le _) (Nat.zero_le _)
      · refine J_iconst hX dX2_isNearer_37 ?_
        refine J_goto hX 42 dX2_isNearer_38 (by decide) ?_
        exact J_retT hX hQ dX2_isNearer_42 (by omega) rfl rfl (Nat.zero_le _) (Nat.zero_le _)
-- X2_inRow
set_option maxHeartbeats 4000000 in
set_option maxRecDepth 100000 in
theorem m_X2_inRow {E : EE} {K : Nat → Nat} {M : MM} {v : Nat} {T n r : Int} (hV : ViewK K v) (hW : WF T M (v + 2)) (hn : i32 n) (hr : i32 r) (hY : box M (v + 2) n → -1300 ≤ M (v + 19) n ∧ M (v + 19) n ≤ 1300) : CnB E 1 yX2_inRow cX2_inRow 3 [.ref (v + 1), vI n, vI r] K M (box M (v + 2) n ∧ M (v + 19) n ≤ r ∧ r < M (v + 19) n + M (v + 2 + 8) n) := by
  refine Cn_of RX2 (plainFor_of_name (by decide)) rfl (Nat.le_of_ble_eq_true rfl) (fun X hX hQ => ?_)
  refine J_aload_n hX dX2_inRow_0 rfl ?_
  refine J_gr hX (v + 2 + 1) fr_RX2_22 dX2_inRow_1 (show K (v + 1) = 2 from hV 1 (by decide)) rfl ?_
  refine J_iload_n hX dX2_inRow_4 rfl ?_
  refine J_callVB hX _ dX2_inRow_5 cw_RX2_76 (m_X6_isBox (hV).stage (by omega)) ⟨(show K (v + 2 + 1) = 6 from (hV).stage 1 (by decide)), by decide, by decide, rfl⟩ rfl (Nat.le_of_ble_eq_true rfl) (by decide) ⟨Nat.zero_le _, Nat.zero_le _⟩ ?_
  refine J_ifb_eq hX 45 dX2_inRow_8 (by decide) (fun c8 => ?_) (fun c8 => ?_)
  · refine J_iconst hX dX2_inRow_45 ?_
    exact J_retF hX hQ dX2_inRow_46 (by omega) rfl rfl (Nat.zero_le _) (Nat.zero_le _)
  · refine J_aload_n hX dX2_inRow_11 rfl ?_
    refine J_gr hX (v + 19) fr_RX2_27 dX2_inRow_12 (show K (v + 1) = 2 from hV 1 (by decide)) rfl ?_
    refine J_iload_n hX dX2_inRow_15 rfl ?_
    refine J_iald hX dX2_inRow_16 (show K (v + 19) = 1000 + 20 from hV 19 (by decide)) ⟨by omega, by omega⟩ (by decide) (fun r16 => ?_)
    refine J_iload_n hX dX2_inRow_17 rfl ?_
    refine J_icmp_gt hX 45 dX2_inRow_18 (by omega) (by omega) (by decide) (fun c18 => ?_) (fun c18 => ?_)
    · refine J_iconst hX dX2_inRow_45 ?_
      exact J_retF hX hQ dX2_inRow_46 (by omega) rfl rfl (Nat.zero_le _) (Nat.zero_le _)
    · have q1 := hY (by assumption)
      have q2 := (hW.2.2.1 n (by omega) (by omega))
      refine J_iload_n hX dX2_inRow_21 rfl ?_
      refine J_aload_n hX dX2_inRow_22 rfl ?_
      refine J_gr hX (v + 19) fr_RX2_27 dX2_inRow_23 (show K (v + 1) = 2 from hV 1 (by decide)) rfl ?_
      refine J_iload_n hX dX2_inRow_26 rfl ?_
      refine J_iald hX dX2_inRow_27 (show K (v + 19) = 1000 + 20 from hV 19 (by decide)) ⟨by omega, by omega⟩ (by decide) (fun r27 => ?_)
      refine J_aload_n hX dX2_inRow_28 rfl ?_
      refine J_gr hX (v + 2 + 1) fr_RX2_22 dX2_inRow_29 (show K (v + 1) = 2 from hV 1 (by decide)) rfl ?_
      refine J_gr hX (v + 2 + 8) fr_RX2_126 dX2_inRow_32 (show K (v + 2 + 1) = 6 from (hV).stage 1 (by decide)) rfl ?_
      refine J_iload_n hX dX2_inRow_35 rfl ?_
      refine J_iald hX dX2_inRow_36 (show K (v + 2 + 8) = 1000 + 20 from (hV).stage 8 (by decide)) ⟨by omega, by omega⟩ (by decide) (fun r36 => ?_)
      refine J_iadd hX dX2_inRow_37 ?_
      refine J_icmp_ge hX 45 dX2_inRow_38 (by omega) (by omega) (by decide) (fun c38 => ?_) (fun c38 => ?_)
      · refine J_iconst hX dX2_inRow_45 ?_
        exact J_retF hX hQ dX2_inRow_46 (by omega) rfl rfl (Nat.zero_le _) (Nat.zero_le _)
      · refine J_iconst hX dX2_inRow_41 ?_
        refine J_goto hX 46 dX2_inRow_42 (by decide) ?_
        exact J_retT hX hQ dX2_inRow_46 (by omega) rfl rfl (Nat.zero_le _) (Nat.zero_le _)
-- X2_inFrame
set_option maxHeartbeats 4000000 in
set_option maxRecDepth 100000 in
theorem m_X2_inFrame {E : EE} {K : Nat → Nat} {M : MM} {v : Nat} {T n : Int} (hV : ViewK K v) (hW : WF T M (v + 2)) (hn : i32 n) (hY : box M (v + 2) n → -1300 ≤ M (v + 19) n ∧ M (v + 19) n ≤ 1300) : CnB E 1 yX2_inFrame cX2_inFrame 2 [.ref (v + 1), vI n] K M (box M (v + 2) n ∧ M (v + 19) n < M (v + 2) 4 ∧ 0 < M (v + 19) n + M (v + 2 + 8) n) := by
  refine Cn_of RX2 (plainFor_of_name (by decide)) rfl (Nat.le_of_ble_eq_true rfl) (fun X hX hQ => ?_)
  refine J_aload_n hX dX2_inFrame_0 rfl ?_
  refine J_gr hX (v + 2 + 1) fr_RX2_22 dX2_inFrame_1 (show K (v + 1) = 2 from hV 1 (by decide)) rfl ?_
  refine J_iload_n hX dX2_inFrame_4 rfl ?_
  refine J_callVB hX _ dX2_inFrame_5 cw_RX2_76 (m_X6_isBox (hV).stage (by omega)) ⟨(show K (v + 2 + 1) = 6 from (hV).stage 1 (by decide)), by decide, by decide, rfl⟩ rfl (Nat.le_of_ble_eq_true rfl) (by decide) ⟨Nat.zero_le _, Nat.zero_le _⟩ ?_
  refine J_ifb_eq hX 50 dX2_inFrame_8 (by decide) (fun c8 => ?_) (fun c8 => ?_)
  · refine J_iconst hX dX2_inFrame_50 ?_
    exact J_retF hX hQ dX2_inFrame_51 (by omega) rfl rfl (Nat.zero_le _) (Nat.zero_le _)
  · refine J_aload_n hX dX2_inFrame_11 rfl ?_
    refine J_gr hX (v + 19) fr_RX2_27 dX2_inFrame_12 (show K (v + 1) = 2 from hV 1 (by decide)) rfl ?_
    refine J_iload_n hX dX2_inFrame_15 rfl ?_
    refine J_iald hX dX2_inFrame_16 (show K (v + 19) = 1000 + 20 from hV 19 (by decide)) ⟨by omega, by omega⟩ (by decide) (fun r16 => ?_)
    refine J_aload_n hX dX2_inFrame_17 rfl ?_
    refine J_gr hX (v + 2) fr_RX2_12 dX2_inFrame_18 (show K (v + 1) = 2 from hV 1 (by decide)) rfl ?_
    refine J_geti hX fi_RX2_129 dX2_inFrame_21 (show K (v + 2) = 5 from (hV).stage 0 (by decide)) (fun r21 => ?_)
    refine J_icmp_ge hX 50 dX2_inFrame_24 (by omega) (by omega) (by decide) (fun c24 => ?_) (fun c24 => ?_)
    · refine J_iconst hX dX2_inFrame_50 ?_
      exact J_retF hX hQ dX2_inFrame_51 (by omega) rfl rfl (Nat.zero_le _) (Nat.zero_le _)
    · refine J_aload_n hX dX2_inFrame_27 rfl ?_
      refine J_gr hX (v + 19) fr_RX2_27 dX2_inFrame_28 (show K (v + 1) = 2 from hV 1 (by decide)) rfl ?_
      refine J_iload_n hX dX2_inFrame_31 rfl ?_
      refine J_iald hX dX2_inFrame_32 (show K (v + 19) = 1000 + 20 from hV 19 (by decide)) ⟨by omega, by omega⟩ (by decide) (fun r32 => ?_)
      refine J_aload_n hX dX2_inFrame_33 rfl ?_
      refine J_gr hX (v + 2 + 1) fr_RX2_22 dX2_inFrame_34 (show K (v + 1) = 2 from hV 1 (by decide)) rfl ?_
      refine J_gr hX (v + 2 + 8) fr_RX2_126 dX2_inFrame_37 (show K (v + 2 + 1) = 6 from (hV).stage 1 (by decide)) rfl ?_
      refine J_iload_n hX dX2_inFrame_40 rfl ?_
      refine J_iald hX dX2_inFrame_41 (show K (v + 2 + 8) = 1000 + 20 from (hV).stage 8 (by decide)) ⟨by omega, by omega⟩ (by decide) (fun r41 => ?_)
      refine J_iadd hX dX2_inFrame_42 ?_
      have q1 := hY (by assumption)
      have q2 := (hW.2.2.1 n (by omega) (by omega))
      refine J_if_le hX 50 dX2_inFrame_43 (by omega) (by decide) (fun c43 => ?_) (fun c43 => ?_)
      · refine J_iconst hX dX2_inFrame_50 ?_
        exact J_retF hX hQ dX2_inFrame_51 (by omega) rfl rfl (Nat.zero_le _) (Nat.zero_le _)
      · refine J_iconst hX dX2_inFrame_46 ?_
        refine J_goto hX 51 dX2_inFrame_47 (by decide) ?_
        exact J_retT hX hQ dX2_inFrame_51 (by omega) rfl rfl (Nat.zero_le _) (Nat.zero_le _)
-- X2_fits
set_option maxHeartbeats 4000000 in
set_option maxRecDepth 100000 in
theorem m_X2_fits {E : EE} {K : Nat → Nat} {M : MM} {v : Nat} {T g p lo hi : Int} (hV : ViewK K v) (hW : WF T M (v + 2)) (hZ : ∀ n, box M (v + 2) n → M (v + 20) n = pos (stg M (v + 2)) 6 n) (hg : 0 ≤ g ∧ g ≤ 100) (hp : 0 ≤ p ∧ p ≤ 100) (hl : i32 lo) (hh : i32 hi) : CnB E 2 yX2_fits cX2_fits 6 [.ref (v + 1), vI g, vI p, vI lo, vI hi] K M (fits1 (stg M (v + 2)) g p lo hi = true) := by
  have hW0 := hW
  obtain ⟨hT0, ⟨ws1, ws2, ws3, ws4, ws5, ws6, ws7, ws8, ws9, ws10, ws11, ws12, ws13, ws14⟩, hWn, hWc⟩ := hW0
  have hS0 := hW.S
  refine Cn_of RX2 (plainFor_of_name (by decide)) rfl (Nat.le_of_ble_eq_true rfl) (fun X hX hQ => ?_)
  refine J_iconst hX dX2_fits_0 ?_
  refine J_istore hX dX2_fits_1 (by decide) ?_
  have HL3 : ∀ k : Nat, k ≤ (M (v + 2 + 1) 0).toNat → (ftn (stg M (v + 2)) g p lo hi k = true) → J E X 3 [(0, .ref (v + 1)), (1, vI g), (2, vI p), (3, vI lo), (4, vI hi), (5, vI (k : Int))] [] K M 0 0 := by
    refine up_ind ((M (v + 2 + 1) 0).toNat) (fun k hk3 ih3 => ?_)
    intro  hi3
    refine J_iload hX dX2_fits_3 rfl ?_
    refine J_aload_n hX dX2_fits_5 rfl ?_
    refine J_gr hX (v + 2 + 1) fr_RX2_22 dX2_fits_6 (show K (v + 1) = 2 from hV 1 (by decide)) rfl ?_
    refine J_geti hX fi_RX2_71 dX2_fits_9 (show K (v + 2 + 1) = 6 from (hV).stage 1 (by decide)) (fun r9 => ?_)
    refine J_icmp_ge hX 69 dX2_fits_12 (by omega) (by omega) (by decide) (fun c12 => ?_) (fun c12 => ?_)
    · refine J_iconst hX dX2_fits_69 ?_
      exact J_retT hX hQ dX2_fits_70 (by first | (exfalso; omega) | (unfold fits1; rw [show cnt (stg M (v + 2)) = k from (by unfold cnt; show (M (v + 2 + 1) 0).toNat = k; omega)]; exact hi3) | (unfold fits1; intro q9; have q8 := (ftn_all.mp q9) k (by unfold cnt; show k < (M (v + 2 + 1) 0).toNat; omega); rcases q8 with q8 | q8; exact q8 (by assumption); exact absurd q8 (by assumption))) rfl rfl (Nat.zero_le _) (Nat.zero_le _)
    · refine J_iload hX dX2_fits_15 rfl ?_
      refine J_bipush hX dX2_fits_17 rfl ?_
      refine J_icmp_ge hX 69 dX2_fits_19 (by omega) (by decide) (by decide) (fun c19 => ?_) (fun c19 => ?_)
      · refine J_iconst hX dX2_fits_69 ?_
        exact J_retT hX hQ dX2_fits_70 (by first | (exfalso; omega) | (unfold fits1; rw [show cnt (stg M (v + 2)) = k from (by unfold cnt; show (M (v + 2 + 1) 0).toNat = k; omega)]; exact hi3) | (unfold fits1; intro q9; have q8 := (ftn_all.mp q9) k (by unfold cnt; show k < (M (v + 2 + 1) 0).toNat; omega); rcases q8 with q8 | q8; exact q8 (by assumption); exact absurd q8 (by assumption))) rfl rfl (Nat.zero_le _) (Nat.zero_le _)
      · refine J_aload_n hX dX2_fits_22 rfl ?_
        refine J_gr hX (v + 2 + 1) fr_RX2_22 dX2_fits_23 (show K (v + 1) = 2 from hV 1 (by decide)) rfl ?_
        refine J_iload hX dX2_fits_26 rfl ?_
        refine J_callVB hX _ dX2_fits_28 cw_RX2_76 (m_X6_isBox (hV).stage (by omega)) ⟨(show K (v + 2 + 1) = 6 from (hV).stage 1 (by decide)), by decide, by decide, rfl⟩ rfl (Nat.le_of_ble_eq_true rfl) (by decide) ⟨Nat.zero_le _, Nat.zero_le _⟩ ?_
        refine J_ifb_eq hX 63 dX2_fits_31 (by decide) (fun c31 => ?_) (fun c31 => ?_)
        · refine J_iinc hX dX2_fits_63 rfl (by decide) ?_
          refine J_goto hX 3 dX2_fits_66 (by decide) ?_
          exact J_locI (ih3 (k + 1) (by omega) (by omega) (ftn_t.mpr ⟨hi3, by first | exact Or.inl (by assumption) | exact Or.inr (by assumption)⟩)) rfl
        · refine J_iload_n hX dX2_fits_34 rfl ?_
          refine J_aload_n hX dX2_fits_35 rfl ?_
          refine J_gr hX (v + 20) fr_RX2_30 dX2_fits_36 (show K (v + 1) = 2 from hV 1 (by decide)) rfl ?_
          refine J_iload hX dX2_fits_39 rfl ?_
          refine J_iald hX dX2_fits_41 (show K (v + 20) = 1000 + 20 from hV 20 (by decide)) ⟨by omega, by omega⟩ (by decide) (fun r41 => ?_)
          have q1 := hZ k (by assumption)
          have q2 := pos_rng hS0 (k := 6) (by omega) (k : Int) (by show (k : Int) < M (v + 2 + 1) 0; omega)
          have q3 := rawp_rng hS0 hg hp (k : Int) (by show (k : Int) < M (v + 2 + 1) 0; omega)
          rw [q1]
          refine J_callSI hX _ dX2_fits_42 cw_RX2_83 (m_X2_rawShift (by omega) (by omega)) rfl (Nat.le_of_ble_eq_true rfl) (by decide) ⟨Nat.zero_le _, Nat.zero_le _⟩ (fun r42 => ?_)
          refine J_iload_n hX dX2_fits_45 rfl ?_
          have q4 := raw_rng hS0 hg (k : Int) (by show (k : Int) < M (v + 2 + 1) 0; omega)
          refine J_st (st2 := vI p :: vI (rawg (stg M (v + 2)) g k) :: []) rfl ?_
          refine J_imul hX dX2_fits_46 ?_
          refine J_bipush hX dX2_fits_47 rfl ?_
          refine J_callSI hX _ dX2_fits_49 cw_RX2_86 (m_J9_floorDiv_7cf53 (by omega) (by omega)) rfl (Nat.le_of_ble_eq_true rfl) (by decide) ⟨Nat.zero_le _, Nat.zero_le _⟩ (fun r49 => ?_)
          refine J_iload_n hX dX2_fits_52 rfl ?_
          refine J_iload hX dX2_fits_53 rfl ?_
          refine J_callNB hX _ dX2_fits_55 cw_RX2_118 (m_X9_within (by omega) (by omega) (by omega)) rfl (Nat.le_of_ble_eq_true rfl) (by decide) ⟨Nat.zero_le _, Nat.zero_le _⟩ ?_
          refine J_ifb_ne hX 63 dX2_fits_58 (by decide) (fun c58 => ?_) (fun c58 => ?_)
          · refine J_iinc hX dX2_fits_63 rfl (by decide) ?_
            refine J_goto hX 3 dX2_fits_66 (by decide) ?_
            exact J_locI (ih3 (k + 1) (by omega) (by omega) (ftn_t.mpr ⟨hi3, by first | exact Or.inl (by assumption) | exact Or.inr (by assumption)⟩)) rfl
          · refine J_iconst hX dX2_fits_61 ?_
            exact J_retF hX hQ dX2_fits_62 (by first | (exfalso; omega) | (unfold fits1; rw [show cnt (stg M (v + 2)) = k from (by unfold cnt; show (M (v + 2 + 1) 0).toNat = k; omega)]; exact hi3) | (unfold fits1; intro q9; have q8 := (ftn_all.mp q9) k (by unfold cnt; show k < (M (v + 2 + 1) 0).toNat; omega); rcases q8 with q8 | q8; exact q8 (by assumption); exact absurd q8 (by assumption))) rfl rfl (Nat.zero_le _) (Nat.zero_le _)
  exact J_locI (HL3 0 (Nat.zero_le _) rfl) rfl
-- X2_percentageWithin
set_option maxHeartbeats 4000000 in
set_option maxRecDepth 100000 in
theorem m_X2_percentageWithin {E : EE} {K : Nat → Nat} {M : MM} {v : Nat} {T lo hi : Int} (hV : ViewK K v) (hW : WF T M (v + 2)) (hZ : ∀ n, box M (v + 2) n → M (v + 20) n = pos (stg M (v + 2)) 6 n) (hl : i32 lo) (hh : i32 hi) : CnI E 3 yX2_percentageWithin cX2_percentageWithin 4 (Option.some FieldType.int) [.ref (v + 1), vI lo, vI hi] K M (pctW (stg M (v + 2)) lo hi) := by
  have hW0 := hW
  obtain ⟨hT0, ⟨ws1, ws2, ws3, ws4, ws5, ws6, ws7, ws8, ws9, ws10, ws11, ws12, ws13, ws14⟩, hWn, hWc⟩ := hW0
  have hS0 := hW.S
  refine ⟨Cn_of RX2 (plainFor_of_name (by decide)) rfl (Nat.le_of_ble_eq_true rfl) (fun X hX hQ => ?_), by have := pctW_rng (stg M (v + 2)) lo hi; omega⟩
  refine J_bipush hX dX2_percentageWithin_0 rfl ?_
  refine J_istore_n hX dX2_percentageWithin_2 (by decide) ?_
  have HL3 : ∀ k : Nat, k ≤ 100 → ∀ (q : Int), (q = 100 - k ∧ pctF (stg M (v + 2)) (M (v + 2 + 15) 0) lo hi 100 = pctF (stg M (v + 2)) (M (v + 2 + 15) 0) lo hi (100 - k)) → J E X 3 [(0, .ref (v + 1)), (1, vI lo), (2, vI hi), (3, vI q)] [] K M 0 0 := by
    refine up_ind (100) (fun k hk3 ih3 => ?_)
    intro q  hi3
    refine J_iload_n hX dX2_percentageWithin_3 rfl ?_
    refine J_if_le hX 34 dX2_percentageWithin_4 (by omega) (by decide) (fun c4 => ?_) (fun c4 => ?_)
    · refine J_iconst hX dX2_percentageWithin_34 ?_
      exact J_retI hX hQ dX2_percentageWithin_35 (by first | (show _ = ((pctF (stg M (v + 2)) (M (v + 2 + 15) 0) lo hi 100 : Nat) : Int); rw [hi3.2, pctF_t (p1 := 99 - k) (by omega) (by rw [show ((99 - k + 1 : Nat) : Int) = q by omega]; assumption)]; omega) | (show _ = ((pctF (stg M (v + 2)) (M (v + 2 + 15) 0) lo hi 100 : Nat) : Int); rw [hi3.2, show 100 - k = 0 by omega]; rfl)) rfl rfl (Nat.zero_le _) (Nat.zero_le _)
    · refine J_aload_n hX dX2_percentageWithin_7 rfl ?_
      refine J_aload_n hX dX2_percentageWithin_8 rfl ?_
      refine J_gr hX (v + 2) fr_RX2_12 dX2_percentageWithin_9 (show K (v + 1) = 2 from hV 1 (by decide)) rfl ?_
      refine J_gr hX (v + 2 + 15) fr_RX2_80 dX2_percentageWithin_12 (show K (v + 2) = 5 from (hV).stage 0 (by decide)) rfl ?_
      refine J_iconst hX dX2_percentageWithin_15 ?_
      refine J_iald hX dX2_percentageWithin_16 (show K (v + 2 + 15) = 1000 + 4 from (hV).stage 15 (by decide)) ⟨by omega, by omega⟩ (by decide) (fun r16 => ?_)
      refine J_iload_n hX dX2_percentageWithin_17 rfl ?_
      refine J_iload_n hX dX2_percentageWithin_18 rfl ?_
      refine J_iload_n hX dX2_percentageWithin_19 rfl ?_
      refine J_callVB hX _ dX2_percentageWithin_20 cw_RX2_122 (m_X2_fits hV hW hZ (by omega) (by omega) (by omega) (by omega)) ⟨(show K (v + 1) = 2 from hV 1 (by decide)), by decide, by decide, rfl⟩ rfl (Nat.le_of_ble_eq_true rfl) (by decide) ⟨Nat.zero_le _, Nat.zero_le _⟩ ?_
      refine J_ifb_eq hX 28 dX2_percentageWithin_23 (by decide) (fun c23 => ?_) (fun c23 => ?_)
      · refine J_iinc hX dX2_percentageWithin_28 rfl (by decide) ?_
        refine J_goto hX 3 dX2_percentageWithin_31 (by decide) ?_
        exact J_locI (ih3 (k + 1) (by omega) (by omega) _ ⟨by omega, by rw [hi3.2, pctF_f (p1 := 99 - k) (by omega) (by rw [show ((99 - k + 1 : Nat) : Int) = q by omega]; assumption), show 99 - k = 100 - (k + 1) by omega]⟩) rfl
      · refine J_iload_n hX dX2_percentageWithin_26 rfl ?_
        exact J_retI hX hQ dX2_percentageWithin_27 (by first | (show _ = ((pctF (stg M (v + 2)) (M (v + 2 + 15) 0) lo hi 100 : Nat) : Int); rw [hi3.2, pctF_t (p1 := 99 - k) (by omega) (by rw [show ((99 - k + 1 : Nat) : Int) = q by omega]; assumption)]; omega) | (show _ = ((pctF (stg M (v + 2)) (M (v + 2 + 15) 0) lo hi 100 : Nat) : Int); rw [hi3.2, show 100 - k = 0 by omega]; rfl)) rfl rfl (Nat.zero_le _) (Nat.zero_le _)
  exact J_locI (HL3 0 (Nat.zero_le _) 100 ⟨rfl, rfl⟩) rfl
-- X2_placeNodes
set_option maxHeartbeats 4000000 in
set_option maxRecDepth 100000 in
theorem m_X2_placeNodes {E : EE} {K : Nat → Nat} {M : MM} {v : Nat} {T : Int} (hV : ViewK K v) (hW : WF T M (v + 2)) : CnM E 0 yX2_placeNodes cX2_placeNodes 4 none [.ref (v + 1)] K M (fun r M2 => r = none ∧ (∀ i, i ≠ v + 18 → i ≠ v + 19 → i ≠ v + 20 → M2 i = M i) ∧ (∀ n : Int, 0 ≤ n → n < M (v + 2 + 1) 0 → M2 (v + 18) n = pos (stg M (v + 2)) 4 n ∧ M2 (v + 19) n = pos (stg M (v + 2)) 5 n ∧ M2 (v + 20) n = pos (stg M (v + 2)) 6 n)) := by
  have hW0 := hW
  obtain ⟨hT0, ⟨ws1, ws2, ws3, ws4, ws5, ws6, ws7, ws8, ws9, ws10, ws11, ws12, ws13, ws14⟩, hWn, hWc⟩ := hW0
  have hS0 := hW.S
  refine Cn_of RX2 (plainFor_of_name (by decide)) rfl (Nat.le_of_ble_eq_true rfl) (fun X hX hQ => ?_)
  refine J_iconst hX dX2_placeNodes_0 ?_
  refine J_istore_n hX dX2_placeNodes_1 (by decide) ?_
  have HL2 : ∀ k : Nat, k ≤ (M (v + 2 + 1) 0).toNat → ∀ (M2 : MM), ((∀ i, i ≠ v + 18 → i ≠ v + 19 → i ≠ v + 20 → M2 i = M i) ∧ (∀ n : Int, 0 ≤ n → n < k → M2 (v + 18) n = pos (stg M (v + 2)) 4 n ∧ M2 (v + 19) n = pos (stg M (v + 2)) 5 n ∧ M2 (v + 20) n = pos (stg M (v + 2)) 6 n)) → J E X 2 [(0, .ref (v + 1)), (1, vI (k : Int))] [] K M2 0 0 := by
    refine up_ind ((M (v + 2 + 1) 0).toNat) (fun k hk2 ih2 => ?_)
    intro M2  hi2
    have qc0 := congrFun (hi2.1 (v + 2 + 1) (by omega) (by omega) (by omega)) 0
    refine J_iload_n hX dX2_placeNodes_2 rfl ?_
    refine J_aload_n hX dX2_placeNodes_3 rfl ?_
    refine J_gr hX (v + 2 + 1) fr_RX2_22 dX2_placeNodes_4 (show K (v + 1) = 2 from hV 1 (by decide)) rfl ?_
    refine J_geti hX fi_RX2_71 dX2_placeNodes_7 (show K (v + 2 + 1) = 6 from (hV).stage 1 (by decide)) (fun r7 => ?_)
    refine J_icmp_ge hX 140 dX2_placeNodes_10 (by omega) (by omega) (by decide) (fun c10 => ?_) (fun c10 => ?_)
    · exact J_vret hX hQ dX2_placeNodes_140 ⟨rfl, by first | (exfalso; omega) | exact ⟨rfl, hi2.1, fun n n0 n1 => hi2.2 n n0 (by omega)⟩⟩ (Nat.zero_le _) (Nat.zero_le _)
    · refine J_iload_n hX dX2_placeNodes_13 rfl ?_
      refine J_bipush hX dX2_placeNodes_14 rfl ?_
      refine J_icmp_ge hX 140 dX2_placeNodes_16 (by omega) (by decide) (by decide) (fun c16 => ?_) (fun c16 => ?_)
      · exact J_vret hX hQ dX2_placeNodes_140 ⟨rfl, by first | (exfalso; omega) | exact ⟨rfl, hi2.1, fun n n0 n1 => hi2.2 n n0 (by omega)⟩⟩ (Nat.zero_le _) (Nat.zero_le _)
      · refine J_aload_n hX dX2_placeNodes_19 rfl ?_
        refine J_gr hX (v + 2 + 1) fr_RX2_22 dX2_placeNodes_20 (show K (v + 1) = 2 from hV 1 (by decide)) rfl ?_
        refine J_gr hX (v + 2 + 2) fr_RX2_99 dX2_placeNodes_23 (show K (v + 2 + 1) = 6 from (hV).stage 1 (by decide)) rfl ?_
        refine J_iload_n hX dX2_placeNodes_26 rfl ?_
        refine J_iald hX dX2_placeNodes_27 (show K (v + 2 + 2) = 1000 + 20 from (hV).stage 2 (by decide)) ⟨by omega, by omega⟩ (by decide) (fun r27 => ?_)
        have qp := congrFun (hi2.1 (v + 2 + 2) (by omega) (by omega) (by omega)) (k : Int)
        have qc := congrFun (hi2.1 (v + 2 + 1) (by omega) (by omega) (by omega)) 0
        have qn := hWn (k : Int) (by omega) (by omega)
        have e4 := pos_eq hS0 4 (n := k) (by omega) (show (k : Int) < M (v + 2 + 1) 0 by omega)
        have e5 := pos_eq hS0 5 (n := k) (by omega) (show (k : Int) < M (v + 2 + 1) 0 by omega)
        have e6 := pos_eq hS0 6 (n := k) (by omega) (show (k : Int) < M (v + 2 + 1) 0 by omega)
        have u4 := pos_rng hS0 (k := 4) (by omega) (k : Int) (show (k : Int) < M (v + 2 + 1) 0 by omega)
        have u5 := pos_rng hS0 (k := 5) (by omega) (k : Int) (show (k : Int) < M (v + 2 + 1) 0 by omega)
        have u6 := pos_rng hS0 (k := 6) (by omega) (k : Int) (show (k : Int) < M (v + 2 + 1) 0 by omega)
        have t4 : stg M (v + 2) 4 = M (v + 2 + 4) := rfl
        have t5 : stg M (v + 2) 5 = M (v + 2 + 5) := rfl
        have t6 : stg M (v + 2) 6 = M (v + 2 + 6) := rfl
        have t2 : stg M (v + 2) 2 = M (v + 2 + 2) := rfl
        rw [t4, t2] at e4
        rw [t5, t2] at e5
        rw [t6, t2] at e6
        rw [qp]
        refine J_istore_n hX dX2_placeNodes_28 (by decide) ?_
        refine J_iload_n hX dX2_placeNodes_29 rfl ?_
        refine J_if_lt hX 42 dX2_placeNodes_30 (by omega) (by decide) (fun c30 => ?_) (fun c30 => ?_)
        · have z4 := pos_neg (S := stg M (v + 2)) (k := 4) (n := M (v + 2 + 2) k) (by omega)
          have z5 := pos_neg (S := stg M (v + 2)) (k := 5) (n := M (v + 2 + 2) k) (by omega)
          have z6 := pos_neg (S := stg M (v + 2)) (k := 6) (n := M (v + 2 + 2) k) (by omega)
          refine J_iconst hX dX2_placeNodes_42 ?_
          refine J_istore_n hX dX2_placeNodes_43 (by decide) ?_
          refine J_aload_n hX dX2_placeNodes_44 rfl ?_
          refine J_gr hX (v + 18) fr_RX2_23 dX2_placeNodes_45 (show K (v + 1) = 2 from hV 1 (by decide)) rfl ?_
          refine J_iload_n hX dX2_placeNodes_48 rfl ?_
          refine J_aload_n hX dX2_placeNodes_49 rfl ?_
          refine J_gr hX (v + 2 + 1) fr_RX2_22 dX2_placeNodes_50 (show K (v + 1) = 2 from hV 1 (by decide)) rfl ?_
          refine J_gr hX (v + 2 + 4) fr_RX2_102 dX2_placeNodes_53 (show K (v + 2 + 1) = 6 from (hV).stage 1 (by decide)) rfl ?_
          refine J_iload_n hX dX2_placeNodes_56 rfl ?_
          refine J_iald hX dX2_placeNodes_57 (show K (v + 2 + 4) = 1000 + 20 from (hV).stage 4 (by decide)) ⟨by omega, by omega⟩ (by decide) (fun r57 => ?_)
          have g4 := congrFun (hi2.1 (v + 2 + 4) (by omega) (by omega) (by omega)) (k : Int)
          refine J_iload_n hX dX2_placeNodes_58 rfl ?_
          refine J_if_eq hX 71 dX2_placeNodes_59 (by decide) (by decide) (fun _ => ?_) (fun h => absurd (by decide) h)
          refine J_iconst hX dX2_placeNodes_71 ?_
          refine J_iadd hX dX2_placeNodes_72 ?_
          refine J_istA hX dX2_placeNodes_73 (show K (v + 18) = 1000 + 20 from hV 18 (by decide)) ⟨by omega, by omega⟩ (by decide) (by omega) (fun m73 hm73 => ?_)
          have fm73 : ∀ i, i ≠ v + 18 → m73 i = M2 i := fun i h => by rw [hm73]; exact mset_ne h
          have gm73 : ∀ i j, j ≠ (k : Int) → m73 i j = M2 i j := fun i j h => by rw [hm73]; exact mset_nj h
          have vm73 := (congrFun (congrFun hm73 (v + 18)) ((k : Int))).trans mset_eq
          refine J_aload_n hX dX2_placeNodes_74 rfl ?_
          refine J_gr hX (v + 19) fr_RX2_27 dX2_placeNodes_75 (show K (v + 1) = 2 from hV 1 (by decide)) rfl ?_
          refine J_iload_n hX dX2_placeNodes_78 rfl ?_
          refine J_aload_n hX dX2_placeNodes_79 rfl ?_
          refine J_gr hX (v + 2 + 1) fr_RX2_22 dX2_placeNodes_80 (show K (v + 1) = 2 from hV 1 (by decide)) rfl ?_
          refine J_gr hX (v + 2 + 5) fr_RX2_105 dX2_placeNodes_83 (show K (v + 2 + 1) = 6 from (hV).stage 1 (by decide)) rfl ?_
          refine J_iload_n hX dX2_placeNodes_86 rfl ?_
          refine J_iald hX dX2_placeNodes_87 (show K (v + 2 + 5) = 1000 + 20 from (hV).stage 5 (by decide)) ⟨by omega, by omega⟩ (by decide) (fun r87 => ?_)
          have g5 := congrFun ((fm73 (v + 2 + 5) (by omega)).trans (hi2.1 (v + 2 + 5) (by omega) (by omega) (by omega))) (k : Int)
          refine J_iload_n hX dX2_placeNodes_88 rfl ?_
          refine J_if_eq hX 101 dX2_placeNodes_89 (by decide) (by decide) (fun _ => ?_) (fun h => absurd (by decide) h)
          refine J_iconst hX dX2_placeNodes_101 ?_
          refine J_iadd hX dX2_placeNodes_102 ?_
          refine J_istA hX dX2_placeNodes_103 (show K (v + 19) = 1000 + 20 from hV 19 (by decide)) ⟨by omega, by omega⟩ (by decide) (by omega) (fun m103 hm103 => ?_)
          have fm103 : ∀ i, i ≠ v + 19 → m103 i = m73 i := fun i h => by rw [hm103]; exact mset_ne h
          have gm103 : ∀ i j, j ≠ (k : Int) → m103 i j = m73 i j := fun i j h => by rw [hm103]; exact mset_nj h
          have vm103 := (congrFun (congrFun hm103 (v + 19)) ((k : Int))).trans mset_eq
          refine J_aload_n hX dX2_placeNodes_104 rfl ?_
          refine J_gr hX (v + 20) fr_RX2_30 dX2_placeNodes_105 (show K (v + 1) = 2 from hV 1 (by decide)) rfl ?_
          refine J_iload_n hX dX2_placeNodes_108 rfl ?_
          refine J_aload_n hX dX2_placeNodes_109 rfl ?_
          refine J_gr hX (v + 2 + 1) fr_RX2_22 dX2_placeNodes_110 (show K (v + 1) = 2 from hV 1 (by decide)) rfl ?_
          refine J_gr hX (v + 2 + 6) fr_RX2_108 dX2_placeNodes_113 (show K (v + 2 + 1) = 6 from (hV).stage 1 (by decide)) rfl ?_
          refine J_iload_n hX dX2_placeNodes_116 rfl ?_
          refine J_iald hX dX2_placeNodes_117 (show K (v + 2 + 6) = 1000 + 20 from (hV).stage 6 (by decide)) ⟨by omega, by omega⟩ (by decide) (fun r117 => ?_)
          have g6 := congrFun ((fm103 (v + 2 + 6) (by omega)).trans ((fm73 (v + 2 + 6) (by omega)).trans (hi2.1 (v + 2 + 6) (by omega) (by omega) (by omega)))) (k : Int)
          refine J_iload_n hX dX2_placeNodes_118 rfl ?_
          refine J_if_eq hX 131 dX2_placeNodes_119 (by decide) (by decide) (fun _ => ?_) (fun h => absurd (by decide) h)
          refine J_iconst hX dX2_placeNodes_131 ?_
          refine J_iadd hX dX2_placeNodes_132 ?_
          refine J_istA hX dX2_placeNodes_133 (show K (v + 20) = 1000 + 20 from hV 20 (by decide)) ⟨by omega, by omega⟩ (by decide) (by omega) (fun m133 hm133 => ?_)
          have fm133 : ∀ i, i ≠ v + 20 → m133 i = m103 i := fun i h => by rw [hm133]; exact mset_ne h
          have gm133 : ∀ i j, j ≠ (k : Int) → m133 i j = m103 i j := fun i j h => by rw [hm133]; exact mset_nj h
          have vm133 := (congrFun (congrFun hm133 (v + 20)) ((k : Int))).trans mset_eq
          refine J_iinc hX dX2_placeNodes_134 rfl (by decide) ?_
          refine J_goto hX 2 dX2_placeNodes_137 (by decide) ?_
          exact J_locI (ih2 (k + 1) (by omega) (by omega) _ ⟨fun i i1 i2 i3 => by rw [fm133 i i3, fm103 i i2, fm73 i i1]; exact hi2.1 i i1 i2 i3, fun n n0 n1 => by
                      have o1 : m133 (v + 18) n = m73 (v + 18) n := congrFun ((fm133 _ (by omega)).trans (fm103 _ (by omega))) n
                      have o2 : m133 (v + 19) n = m103 (v + 19) n := congrFun (fm133 _ (by omega)) n
                      by_cases e : n = k
                      · subst e; refine ⟨?_, ?_, ?_⟩ <;> omega
                      · have o3 := gm73 (v + 18) n e
                        have o4 := gm103 (v + 19) n e
                        have o5 := gm133 (v + 20) n e
                        have o6 := congrFun (fm73 (v + 19) (by omega)) n
                        have o7 := congrFun ((fm103 (v + 20) (by omega)).trans (fm73 (v + 20) (by omega))) n
                        have o8 := hi2.2 n n0 (by omega)
                        refine ⟨?_, ?_, ?_⟩ <;> omega⟩) rfl
        · refine J_iload_n hX dX2_placeNodes_33 rfl ?_
          refine J_iload_n hX dX2_placeNodes_34 rfl ?_
          refine J_icmp_ge hX 42 dX2_placeNodes_35 (by omega) (by omega) (by decide) (fun c35 => ?_) (fun c35 => ?_)
          · have z4 := pos_neg (S := stg M (v + 2)) (k := 4) (n := M (v + 2 + 2) k) (by omega)
            have z5 := pos_neg (S := stg M (v + 2)) (k := 5) (n := M (v + 2 + 2) k) (by omega)
            have z6 := pos_neg (S := stg M (v + 2)) (k := 6) (n := M (v + 2 + 2) k) (by omega)
            refine J_iconst hX dX2_placeNodes_42 ?_
            refine J_istore_n hX dX2_placeNodes_43 (by decide) ?_
            refine J_aload_n hX dX2_placeNodes_44 rfl ?_
            refine J_gr hX (v + 18) fr_RX2_23 dX2_placeNodes_45 (show K (v + 1) = 2 from hV 1 (by decide)) rfl ?_
            refine J_iload_n hX dX2_placeNodes_48 rfl ?_
            refine J_aload_n hX dX2_placeNodes_49 rfl ?_
            refine J_gr hX (v + 2 + 1) fr_RX2_22 dX2_placeNodes_50 (show K (v + 1) = 2 from hV 1 (by decide)) rfl ?_
            refine J_gr hX (v + 2 + 4) fr_RX2_102 dX2_placeNodes_53 (show K (v + 2 + 1) = 6 from (hV).stage 1 (by decide)) rfl ?_
            refine J_iload_n hX dX2_placeNodes_56 rfl ?_
            refine J_iald hX dX2_placeNodes_57 (show K (v + 2 + 4) = 1000 + 20 from (hV).stage 4 (by decide)) ⟨by omega, by omega⟩ (by decide) (fun r57 => ?_)
            have g4 := congrFun (hi2.1 (v + 2 + 4) (by omega) (by omega) (by omega)) (k : Int)
            refine J_iload_n hX dX2_placeNodes_58 rfl ?_
            refine J_if_eq hX 71 dX2_placeNodes_59 (by decide) (by decide) (fun _ => ?_) (fun h => absurd (by decide) h)
            refine J_iconst hX dX2_placeNodes_71 ?_
            refine J_iadd hX dX2_placeNodes_72 ?_
            refine J_istA hX dX2_placeNodes_73 (show K (v + 18) = 1000 + 20 from hV 18 (by decide)) ⟨by omega, by omega⟩ (by decide) (by omega) (fun m73 hm73 => ?_)
            have fm73 : ∀ i, i ≠ v + 18 → m73 i = M2 i := fun i h => by rw [hm73]; exact mset_ne h
            have gm73 : ∀ i j, j ≠ (k : Int) → m73 i j = M2 i j := fun i j h => by rw [hm73]; exact mset_nj h
            have vm73 := (congrFun (congrFun hm73 (v + 18)) ((k : Int))).trans mset_eq
            refine J_aload_n hX dX2_placeNodes_74 rfl ?_
            refine J_gr hX (v + 19) fr_RX2_27 dX2_placeNodes_75 (show K (v + 1) = 2 from hV 1 (by decide)) rfl ?_
            refine J_iload_n hX dX2_placeNodes_78 rfl ?_
            refine J_aload_n hX dX2_placeNodes_79 rfl ?_
            refine J_gr hX (v + 2 + 1) fr_RX2_22 dX2_placeNodes_80 (show K (v + 1) = 2 from hV 1 (by decide)) rfl ?_
            refine J_gr hX (v + 2 + 5) fr_RX2_105 dX2_placeNodes_83 (show K (v + 2 + 1) = 6 from (hV).stage 1 (by decide)) rfl ?_
            refine J_iload_n hX dX2_placeNodes_86 rfl ?_
            refine J_iald hX dX2_placeNodes_87 (show K (v + 2 + 5) = 1000 + 20 from (hV).stage 5 (by decide)) ⟨by omega, by omega⟩ (by decide) (fun r87 => ?_)
            have g5 := congrFun ((fm73 (v + 2 + 5) (by omega)).trans (hi2.1 (v + 2 + 5) (by omega) (by omega) (by omega))) (k : Int)
            refine J_iload_n hX dX2_placeNodes_88 rfl ?_
            refine J_if_eq hX 101 dX2_placeNodes_89 (by decide) (by decide) (fun _ => ?_) (fun h => absurd (by decide) h)
            refine J_iconst hX dX2_placeNodes_101 ?_
            refine J_iadd hX dX2_placeNodes_102 ?_
            refine J_istA hX dX2_placeNodes_103 (show K (v + 19) = 1000 + 20 from hV 19 (by decide)) ⟨by omega, by omega⟩ (by decide) (by omega) (fun m103 hm103 => ?_)
            have fm103 : ∀ i, i ≠ v + 19 → m103 i = m73 i := fun i h => by rw [hm103]; exact mset_ne h
            have gm103 : ∀ i j, j ≠ (k : Int) → m103 i j = m73 i j := fun i j h => by rw [hm103]; exact mset_nj h
            have vm103 := (congrFun (congrFun hm103 (v + 19)) ((k : Int))).trans mset_eq
            refine J_aload_n hX dX2_placeNodes_104 rfl ?_
            refine J_gr hX (v + 20) fr_RX2_30 dX2_placeNodes_105 (show K (v + 1) = 2 from hV 1 (by decide)) rfl ?_
            refine J_iload_n hX dX2_placeNodes_108 rfl ?_
            refine J_aload_n hX dX2_placeNodes_109 rfl ?_
            refine J_gr hX (v + 2 + 1) fr_RX2_22 dX2_placeNodes_110 (show K (v + 1) = 2 from hV 1 (by decide)) rfl ?_
            refine J_gr hX (v + 2 + 6) fr_RX2_108 dX2_placeNodes_113 (show K (v + 2 + 1) = 6 from (hV).stage 1 (by decide)) rfl ?_
            refine J_iload_n hX dX2_placeNodes_116 rfl ?_
            refine J_iald hX dX2_placeNodes_117 (show K (v + 2 + 6) = 1000 + 20 from (hV).stage 6 (by decide)) ⟨by omega, by omega⟩ (by decide) (fun r117 => ?_)
            have g6 := congrFun ((fm103 (v + 2 + 6) (by omega)).trans ((fm73 (v + 2 + 6) (by omega)).trans (hi2.1 (v + 2 + 6) (by omega) (by omega) (by omega)))) (k : Int)
            refine J_iload_n hX dX2_placeNodes_118 rfl ?_
            refine J_if_eq hX 131 dX2_placeNodes_119 (by decide) (by decide) (fun _ => ?_) (fun h => absurd (by decide) h)
            refine J_iconst hX dX2_placeNodes_131 ?_
            refine J_iadd hX dX2_placeNodes_132 ?_
            refine J_istA hX dX2_placeNodes_133 (show K (v + 20) = 1000 + 20 from hV 20 (by decide)) ⟨by omega, by omega⟩ (by decide) (by omega) (fun m133 hm133 => ?_)
            have fm133 : ∀ i, i ≠ v + 20 → m133 i = m103 i := fun i h => by rw [hm133]; exact mset_ne h
            have gm133 : ∀ i j, j ≠ (k : Int) → m133 i j = m103 i j := fun i j h => by rw [hm133]; exact mset_nj h
            have vm133 := (congrFun (congrFun hm133 (v + 20)) ((k : Int))).trans mset_eq
            refine J_iinc hX dX2_placeNodes_134 rfl (by decide) ?_
            refine J_goto hX 2 dX2_placeNodes_137 (by decide) ?_
            exact J_locI (ih2 (k + 1) (by omega) (by omega) _ ⟨fun i i1 i2 i3 => by rw [fm133 i i3, fm103 i i2, fm73 i i1]; exact hi2.1 i i1 i2 i3, fun n n0 n1 => by
                        have o1 : m133 (v + 18) n = m73 (v + 18) n := congrFun ((fm133 _ (by omega)).trans (fm103 _ (by omega))) n
                        have o2 : m133 (v + 19) n = m103 (v + 19) n := congrFun (fm133 _ (by omega)) n
                        by_cases e : n = k
                        · subst e; refine ⟨?_, ?_, ?_⟩ <;> omega
                        · have o3 := gm73 (v + 18) n e
                          have o4 := gm103 (v + 19) n e
                          have o5 := gm133 (v + 20) n e
                          have o6 := congrFun (fm73 (v + 19) (by omega)) n
                          have o7 := congrFun ((fm103 (v + 20) (by omega)).trans (fm73 (v + 20) (by omega))) n
                          have o8 := hi2.2 n n0 (by omega)
                          refine ⟨?_, ?_, ?_⟩ <;> omega⟩) rfl
          · have zz := hi2.2 (M (v + 2 + 2) k) (by omega) (by omega)
            refine J_iconst hX dX2_placeNodes_38 ?_
            refine J_goto hX 43 dX2_placeNodes_39 (by decide) ?_
            refine J_istore_n hX dX2_placeNodes_43 (by decide) ?_
            refine J_aload_n hX dX2_placeNodes_44 rfl ?_
            refine J_gr hX (v + 18) fr_RX2_23 dX2_placeNodes_45 (show K (v + 1) = 2 from hV 1 (by decide)) rfl ?_
            refine J_iload_n hX dX2_placeNodes_48 rfl ?_
            refine J_aload_n hX dX2_placeNodes_49 rfl ?_
            refine J_gr hX (v + 2 + 1) fr_RX2_22 dX2_placeNodes_50 (show K (v + 1) = 2 from hV 1 (by decide)) rfl ?_
            refine J_gr hX (v + 2 + 4) fr_RX2_102 dX2_placeNodes_53 (show K (v + 2 + 1) = 6 from (hV).stage 1 (by decide)) rfl ?_
            refine J_iload_n hX dX2_placeNodes_56 rfl ?_
            refine J_iald hX dX2_placeNodes_57 (show K (v + 2 + 4) = 1000 + 20 from (hV).stage 4 (by decide)) ⟨by omega, by omega⟩ (by decide) (fun r57 => ?_)
            have g4 := congrFun (hi2.1 (v + 2 + 4) (by omega) (by omega) (by omega)) (k : Int)
            refine J_iload_n hX dX2_placeNodes_58 rfl ?_
            refine J_if_eq hX 71 dX2_placeNodes_59 (by decide) (by decide) (fun h => absurd h (by decide)) (fun _ => ?_)
            refine J_aload_n hX dX2_placeNodes_62 rfl ?_
            refine J_gr hX (v + 18) fr_RX2_23 dX2_placeNodes_63 (show K (v + 1) = 2 from hV 1 (by decide)) rfl ?_
            refine J_iload_n hX dX2_placeNodes_66 rfl ?_
            refine J_iald hX dX2_placeNodes_67 (show K (v + 18) = 1000 + 20 from hV 18 (by decide)) ⟨by omega, by omega⟩ (by decide) (fun r67 => ?_)
            refine J_goto hX 72 dX2_placeNodes_68 (by decide) ?_
            refine J_iadd hX dX2_placeNodes_72 ?_
            refine J_istA hX dX2_placeNodes_73 (show K (v + 18) = 1000 + 20 from hV 18 (by decide)) ⟨by omega, by omega⟩ (by decide) (by omega) (fun m73 hm73 => ?_)
            have fm73 : ∀ i, i ≠ v + 18 → m73 i = M2 i := fun i h => by rw [hm73]; exact mset_ne h
            have gm73 : ∀ i j, j ≠ (k : Int) → m73 i j = M2 i j := fun i j h => by rw [hm73]; exact mset_nj h
            have vm73 := (congrFun (congrFun hm73 (v + 18)) ((k : Int))).trans mset_eq
            refine J_aload_n hX dX2_placeNodes_74 rfl ?_
            refine J_gr hX (v + 19) fr_RX2_27 dX2_placeNodes_75 (show K (v + 1) = 2 from hV 1 (by decide)) rfl ?_
            refine J_iload_n hX dX2_placeNodes_78 rfl ?_
            refine J_aload_n hX dX2_placeNodes_79 rfl ?_
            refine J_gr hX (v + 2 + 1) fr_RX2_22 dX2_placeNodes_80 (show K (v + 1) = 2 from hV 1 (by decide)) rfl ?_
            refine J_gr hX (v + 2 + 5) fr_RX2_105 dX2_placeNodes_83 (show K (v + 2 + 1) = 6 from (hV).stage 1 (by decide)) rfl ?_
            refine J_iload_n hX dX2_placeNodes_86 rfl ?_
            refine J_iald hX dX2_placeNodes_87 (show K (v + 2 + 5) = 1000 + 20 from (hV).stage 5 (by decide)) ⟨by omega, by omega⟩ (by decide) (fun r87 => ?_)
            have g5 := congrFun ((fm73 (v + 2 + 5) (by omega)).trans (hi2.1 (v + 2 + 5) (by omega) (by omega) (by omega))) (k : Int)
            refine J_iload_n hX dX2_placeNodes_88 rfl ?_
            refine J_if_eq hX 101 dX2_placeNodes_89 (by decide) (by decide) (fun h => absurd h (by decide)) (fun _ => ?_)
            refine J_aload_n hX dX2_placeNodes_92 rfl ?_
            refine J_gr hX (v + 19) fr_RX2_27 dX2_placeNodes_93 (show K (v + 1) = 2 from hV 1 (by decide)) rfl ?_
            refine J_iload_n hX dX2_placeNodes_96 rfl ?_
            have h5 := congrFun (fm73 (v + 19) (by omega)) (M (v + 2 + 2) k)
            refine J_iald hX dX2_placeNodes_97 (show K (v + 19) = 1000 + 20 from hV 19 (by decide)) ⟨by omega, by omega⟩ (by decide) (fun r97 => ?_)
            refine J_goto hX 102 dX2_placeNodes_98 (by decide) ?_
            refine J_iadd hX dX2_placeNodes_102 ?_
            refine J_istA hX dX2_placeNodes_103 (show K (v + 19) = 1000 + 20 from hV 19 (by decide)) ⟨by omega, by omega⟩ (by decide) (by omega) (fun m103 hm103 => ?_)
            have fm103 : ∀ i, i ≠ v + 19 → m103 i = m73 i := fun i h => by rw [hm103]; exact mset_ne h
            have gm103 : ∀ i j, j ≠ (k : Int) → m103 i j = m73 i j := fun i j h => by rw [hm103]; exact mset_nj h
            have vm103 := (congrFun (congrFun hm103 (v + 19)) ((k : Int))).trans mset_eq
            refine J_aload_n hX dX2_placeNodes_104 rfl ?_
            refine J_gr hX (v + 20) fr_RX2_30 dX2_placeNodes_105 (show K (v + 1) = 2 from hV 1 (by decide)) rfl ?_
            refine J_iload_n hX dX2_placeNodes_108 rfl ?_
            refine J_aload_n hX dX2_placeNodes_109 rfl ?_
            refine J_gr hX (v + 2 + 1) fr_RX2_22 dX2_placeNodes_110 (show K (v + 1) = 2 from hV 1 (by decide)) rfl ?_
            refine J_gr hX (v + 2 + 6) fr_RX2_108 dX2_placeNodes_113 (show K (v + 2 + 1) = 6 from (hV).stage 1 (by decide)) rfl ?_
            refine J_iload_n hX dX2_placeNodes_116 rfl ?_
            refine J_iald hX dX2_placeNodes_117 (show K (v + 2 + 6) = 1000 + 20 from (hV).stage 6 (by decide)) ⟨by omega, by omega⟩ (by decide) (fun r117 => ?_)
            have g6 := congrFun ((fm103 (v + 2 + 6) (by omega)).trans ((fm73 (v + 2 + 6) (by omega)).trans (hi2.1 (v + 2 + 6) (by omega) (by omega) (by omega)))) (k : Int)
            refine J_iload_n hX dX2_placeNodes_118 rfl ?_
            refine J_if_eq hX 131 dX2_placeNodes_119 (by decide) (by decide) (fun h => absurd h (by decide)) (fun _ => ?_)
            refine J_aload_n hX dX2_placeNodes_122 rfl ?_
            refine J_gr hX (v + 20) fr_RX2_30 dX2_placeNodes_123 (show K (v + 1) = 2 from hV 1 (by decide)) rfl ?_
            refine J_iload_n hX dX2_placeNodes_126 rfl ?_
            have h6 := congrFun ((fm103 (v + 20) (by omega)).trans (fm73 (v + 20) (by omega))) (M (v + 2 + 2) k)
            refine J_iald hX dX2_placeNodes_127 (show K (v + 20) = 1000 + 20 from hV 20 (by decide)) ⟨by omega, by omega⟩ (by decide) (fun r127 => ?_)
            refine J_goto hX 132 dX2_placeNodes_128 (by decide) ?_
            refine J_iadd hX dX2_placeNodes_132 ?_
            refine J_istA hX dX2_placeNodes_133 (show K (v + 20) = 1000 + 20 from hV 20 (by decide)) ⟨by omega, by omega⟩ (by decide) (by omega) (fun m133 hm133 => ?_)
            have fm133 : ∀ i, i ≠ v + 20 → m133 i = m103 i := fun i h => by rw [hm133]; exact mset_ne h
            have gm133 : ∀ i j, j ≠ (k : Int) → m133 i j = m103 i j := fun i j h => by rw [hm133]; exact mset_nj h
            have vm133 := (congrFun (congrFun hm133 (v + 20)) ((k : Int))).trans mset_eq
            refine J_iinc hX dX2_placeNodes_134 rfl (by decide) ?_
            refine J_goto hX 2 dX2_placeNodes_137 (by decide) ?_
            exact J_locI (ih2 (k + 1) (by omega) (by omega) _ ⟨fun i i1 i2 i3 => by rw [fm133 i i3, fm103 i i2, fm73 i i1]; exact hi2.1 i i1 i2 i3, fun n n0 n1 => by
                        have o1 : m133 (v + 18) n = m73 (v + 18) n := congrFun ((fm133 _ (by omega)).trans (fm103 _ (by omega))) n
                        have o2 : m133 (v + 19) n = m103 (v + 19) n := congrFun (fm133 _ (by omega)) n
                        by_cases e : n = k
                        · subst e; refine ⟨?_, ?_, ?_⟩ <;> omega
                        · have o3 := gm73 (v + 18) n e
                          have o4 := gm103 (v + 19) n e
                          have o5 := gm133 (v + 20) n e
                          have o6 := congrFun (fm73 (v + 19) (by omega)) n
                          have o7 := congrFun ((fm103 (v + 20) (by omega)).trans (fm73 (v + 20) (by omega))) n
                          have o8 := hi2.2 n n0 (by omega)
                          refine ⟨?_, ?_, ?_⟩ <;> omega⟩) rfl
  exact J_locI (HL2 0 (Nat.zero_le _) _ ⟨fun i _ _ _ => rfl, fun n h0 h1 => absurd h1 (by omega)⟩) rfl
