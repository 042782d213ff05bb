-- X2_rawShift
set_option maxHeartbeats 4000000 in
set_option maxRecDepth 100000 in
theorem m_X2_rawShift {E : EE} {K : Nat → Nat} {M : MM} {g d : Int} (hg : 0 ≤ g ∧ g ≤ 100) (hd : -1300 ≤ d ∧ d ≤ 1300) : CnI E 1 yX2_rawShift cX2_rawShift 2 (Option.some FieldType.int) [vI g, vI d] K M (g * d / 100) := by
  have hm := mul_bd hg.1 hg.2 hd.1 hd.2
  refine ⟨Cn_of RX2 (plainFor_of_name (by decide)) rfl (Nat.le_of_ble_eq_true rfl) (fun X hX hQ => ?_), by have hm := mul_bd hg.1 hg.2 hd.1 hd.2; omega⟩
  refine J_iload_n hX dX2_rawShift_0 rfl ?_
  refine J_iload_n hX dX2_rawShift_1 rfl ?_
  refine J_imul hX dX2_rawShift_2 ?_
  refine J_bipush hX dX2_rawShift_3 rfl ?_
  refine J_callSI hX _ dX2_rawShift_5 cw_RX2_86 (m_J9_floorDiv_7cf53 (by omega) (by omega)) rfl (Nat.le_of_ble_eq_true rfl) (by decide) ⟨Nat.zero_le _, Nat.zero_le _⟩ (fun r5 => ?_)
  exact J_retI hX hQ dX2_rawShift_8 (by rfl) rfl rfl (Nat.zero_le _) (Nat.zero_le _)
-- X9_columnOf
set_option maxHeartbeats 4000000 in
set_option maxRecDepth 100000 in
theorem m_X9_columnOf {E : EE} {K : Nat → Nat} {M : MM} {l p s : Int} (hl : i32 l) (hp : -1000000 ≤ p ∧ p ≤ 1000000) (hs : -1000000 ≤ s ∧ s ≤ 1000000) : CnI E 1 yX9_columnOf cX9_columnOf 3 (Option.some FieldType.int) [vI l, vI p, vI s] K M (co l p s) := by
  refine ⟨Cn_of RX9 (plainFor_of_name (by decide)) rfl (Nat.le_of_ble_eq_true rfl) (fun X hX hQ => ?_), by unfold co; split <;> omega⟩
  refine J_iload_n hX dX9_columnOf_0 rfl ?_
  refine J_if_eq hX 16 dX9_columnOf_1 (by omega) (by decide) (fun c1 => ?_) (fun c1 => ?_)
  · refine J_iload_n hX dX9_columnOf_16 rfl ?_
    refine J_iload_n hX dX9_columnOf_17 rfl ?_
    refine J_iconst hX dX9_columnOf_18 ?_
    refine J_callSI hX _ dX9_columnOf_19 cw_RX9_273 (m_J9_floorDiv_7cf53 (by omega) (by omega)) rfl (Nat.le_of_ble_eq_true rfl) (by decide) ⟨Nat.zero_le _, Nat.zero_le _⟩ (fun r19 => ?_)
    refine J_isub hX dX9_columnOf_22 ?_
    exact J_retI hX hQ dX9_columnOf_23 (by unfold co; split <;> omega) rfl rfl (Nat.zero_le _) (Nat.zero_le _)
  · refine J_iload_n hX dX9_columnOf_4 rfl ?_
    refine J_iload_n hX dX9_columnOf_5 rfl ?_
    refine J_iconst hX dX9_columnOf_6 ?_
    refine J_iadd hX dX9_columnOf_7 ?_
    refine J_iconst hX dX9_columnOf_8 ?_
    refine J_callSI hX _ dX9_columnOf_9 cw_RX9_273 (m_J9_floorDiv_7cf53 (by omega) (by omega)) rfl (Nat.le_of_ble_eq_true rfl) (by decide) ⟨Nat.zero_le _, Nat.zero_le _⟩ (fun r9 => ?_)
    refine J_iadd hX dX9_columnOf_12 ?_
    refine J_goto hX 23 dX9_columnOf_13 (by decide) ?_
    exact J_retI hX hQ dX9_columnOf_23 (by unfold co; split <;> omega) rfl rfl (Nat.zero_le _) (Nat.zero_le _)
-- X2_isNearer
set_option maxHeartbeats 4000000 in
set_option maxRecDepth 100000 in
theorem m_X2_isNearer {E : EE} {K : Nat → Nat} {M : MM} {v : Nat} {n m : Int} (hV : ViewK K v) (hn : i32 n) (hm : i32 m) : CnB E 1 yX2_isNearer cX2_isNearer 3 [.ref (v + 1), vI n, vI m] K M ((has M (v + 2) n ∧ has M (v + 2) m) ∧ M (v + 21) m < M (v + 21) n) := by
  refine Cn_of RX2 (plainFor_of_name (by decide)) rfl (Nat.le_of_ble_eq_true rfl) (fun X hX hQ => ?_)
  refine J_aload_n hX dX2_isNearer_0 rfl ?_
  refine J_gr hX (v + 2 + 1) fr_RX2_22 dX2_isNearer_1 (show K (v + 1) = 2 from hV 1 (by decide)) rfl ?_
  refine J_iload_n hX dX2_isNearer_4 rfl ?_
  refine J_callVB hX _ dX2_isNearer_5 cw_RX2_115 (m_X6_has (hV).stage (by omega)) ⟨(show K (v + 2 + 1) = 6 from (hV).stage 1 (by decide)), by decide, by decide, rfl⟩ rfl (Nat.le_of_ble_eq_true rfl) (by decide) ⟨Nat.zero_le _, Nat.zero_le _⟩ ?_
  refine J_ifb_eq hX 41 dX2_isNearer_8 (by decide) (fun c8 => ?_) (fun c8 => ?_)
  · refine J_iconst hX dX2_isNearer_41 ?_
    exact J_retF hX hQ dX2_isNearer_42 (by omega) rfl rfl (Nat.zero_le _) (Nat.zero_le _)
  · refine J_aload_n hX dX2_isNearer_11 rfl ?_
    refine J_gr hX (v + 2 + 1) fr_RX2_22 dX2_isNearer_12 (show K (v + 1) = 2 from hV 1 (by decide)) rfl ?_
    refine J_iload_n hX dX2_isNearer_15 rfl ?_
    refine J_callVB hX _ dX2_isNearer_16 cw_RX2_115 (m_X6_has (hV).stage (by omega)) ⟨(show K (v + 2 + 1) = 6 from (hV).stage 1 (by decide)), by decide, by decide, rfl⟩ rfl (Nat.le_of_ble_eq_true rfl) (by decide) ⟨Nat.zero_le _, Nat.zero_le _⟩ ?_
    refine J_ifb_eq hX 41 dX2_isNearer_19 (by decide) (fun c19 => ?_) (fun c19 => ?_)
    · refine J_iconst hX dX2_isNearer_41 ?_
      exact J_retF hX hQ dX2_isNearer_42 (by omega) rfl rfl (Nat.zero_le _) (Nat.zero_le _)
    · refine J_aload_n hX dX2_isNearer_22 rfl ?_
      refine J_gr hX (v + 21) fr_RX2_33 dX2_isNearer_23 (show K (v + 1) = 2 from hV 1 (by decide)) rfl ?_
      refine J_iload_n hX dX2_isNearer_26 rfl ?_
      refine J_iald hX dX2_isNearer_27 (show K (v + 21) = 1000 + 20 from hV 21 (by decide)) ⟨by omega, by omega⟩ (by decide) (fun r27 => ?_)
      refine J_aload_n hX dX2_isNearer_28 rfl ?_
      refine J_gr hX (v + 21) fr_RX2_33 dX2_isNearer_29 (show K (v + 1) = 2 from hV 1 (by decide)) rfl ?_
      refine J_iload_n hX dX2_isNearer_32 rfl ?_
      refine J_iald hX dX2_isNearer_33 (show K (v + 21) = 1000 + 20 from hV 21 (by decide)) ⟨by omega, by omega⟩ (by decide) (fun r33 => ?_)
      refine J_icmp_le hX 41 dX2_isNearer_34 (by omega) (by omega) (by decide) (fun c34 => ?_) (fun c34 => ?_)
      · refine J_iconst hX dX2_isNearer_41 ?_
        exact J_retF hX hQ dX2_isNearer_42 (by omega) rfl rfl (Nat.zero_le _) (Nat.zero_le _)
      · refine J_iconst hX dX2_isNearer_37 ?_
        refine J_goto hX 42 dX2_isNearer_38 (by decide) ?_
        exact J_retT hX hQ dX2_isNearer_42 (by omega) rfl rfl (Nat.zero_le _) (Nat.zero_le _)
-- X2_inRow
set_option maxHeartbeats 4000000 in
set_option maxRecDepth 100000 in
theorem m_X2_inRow {E : EE} {K : Nat → Nat} {M : MM} {v : Nat} {T n r : Int} (hV : ViewK K v) (hW : WF T M (v + 2)) (hn : i32 n) (hr : i32 r) (hY : box M (v + 2) n → -1300 ≤ M (v + 19) n ∧ M (v + 19) n ≤ 1300) : CnB E 1 yX2_inRow cX2_inRow 3 [.ref (v + 1), vI n, vI r] K M (box M (v + 2) n ∧ M (v + 19) n ≤ r ∧ r < M (v + 19) n + M (v + 2 + 8) n) := by
  refine Cn_of RX2 (plainFor_of_name (by decide)) rfl (Nat.le_of_ble_eq_true rfl) (fun X hX hQ => ?_)
  refine J_aload_n hX dX2_inRow_0 rfl ?_
  refine J_gr hX (v + 2 + 1) fr_RX2_22 dX2_inRow_1 (show K (v + 1) = 2 from hV 1 (by decide)) rfl ?_
  refine J_iload_n hX dX2_inRow_4 rfl ?_
  refine J_callVB hX _ dX2_inRow_5 cw_RX2_76 (m_X6_isBox (hV).stage (by omega)) ⟨(show K (v + 2 + 1) = 6 from (hV).stage 1 (by decide)), by decide, by decide, rfl⟩ rfl (Nat.le_of_ble_eq_true rfl) (by decide) ⟨Nat.zero_le _, Nat.zero_le _⟩ ?_
  refine J_ifb_eq hX 45 dX2_inRow_8 (by decide) (fun c8 => ?_) (fun c8 => ?_)
  · refine J_iconst hX dX2_inRow_45 ?_
    exact J_retF hX hQ dX2_inRow_46 (by omega) rfl rfl (Nat.zero_le _) (Nat.zero_le _)
  · refine J_aload_n hX dX2_inRow_11 rfl ?_
    refine J_gr hX (v + 19) fr_RX2_27 dX2_inRow_12 (show K (v + 1) = 2 from hV 1 (by decide)) rfl ?_
    refine J_iload_n hX dX2_inRow_15 rfl ?_
    refine J_iald hX dX2_inRow_16 (show K (v + 19) = 1000 + 20 from hV 19 (by decide)) ⟨by omega, by omega⟩ (by decide) (fun r16 => ?_)
    refine J_iload_n hX dX2_inRow_17 rfl ?_
    refine J_icmp_gt hX 45 dX2_inRow_18 (by omega) (by omega) (by decide) (fun c18 => ?_) (fun c18 => ?_)
    · refine J_iconst hX dX2_inRow_45 ?_
      exact J_retF hX hQ dX2_inRow_46 (by omega) rfl rfl (Nat.zero_le _) (Nat.zero_le _)
    · have q1 := hY (by assumption)
      have q2 := (hW.2.2.1 n (by omega) (by omega))
      refine J_iload_n hX dX2_inRow_21 rfl ?_
      refine J_aload_n hX dX2_inRow_22 rfl ?_
      refine J_gr hX (v + 19) fr_RX2_27 dX2_inRow_23 (show K (v + 1) = 2 from hV 1 (by decide)) rfl ?_
      refine J_iload_n hX dX2_inRow_26 rfl ?_
      refine J_iald hX dX2_inRow_27 (show K (v + 19) = 1000 + 20 from hV 19 (by decide)) ⟨by omega, by omega⟩ (by decide) (fun r27 => ?_)
      refine J_aload_n hX dX2_inRow_28 rfl ?_
      refine J_gr hX (v + 2 + 1) fr_RX2_22 dX2_inRow_29 (show K (v + 1) = 2 from hV 1 (by decide)) rfl ?_
      refine J_gr hX (v + 2 + 8) fr_RX2_126 dX2_inRow_32 (show K (v + 2 + 1) = 6 from (hV).stage 1 (by decide)) rfl ?_
      refine J_iload_n hX dX2_inRow_35 rfl ?_
      refine J_iald hX dX2_inRow_36 (show K (v + 2 + 8) = 1000 + 20 from (hV).stage 8 (by decide)) ⟨by omega, by omega⟩ (by decide) (fun r36 => ?_)
      refine J_iadd hX dX2_inRow_37 ?_
      refine J_icmp_ge hX 45 dX2_inRow_38 (by omega) (by omega) (by decide) (fun c38 => ?_) (fun c38 => ?_)
      · refine J_iconst hX dX2_inRow_45 ?_
        exact J_retF hX hQ dX2_inRow_46 (by omega) rfl rfl (Nat.zero_le _) (Nat.zero_le _)
      · refine J_iconst hX dX2_inRow_41 ?_
        refine J_goto hX 46 dX2_inRow_42 (by decide) ?_
        exact J_retT hX hQ dX2_inRow_46 (by omega) rfl rfl (Nat.zero_le _) (Nat.zero_le _)
-- X2_inFrame
set_option maxHeartbeats 4000000 in
set_option maxRecDepth 100000 in
theorem m_X2_inFrame {E : EE} {K : Nat → Nat} {M : MM} {v : Nat} {T n : Int} (hV : ViewK K v) (hW : WF T M (v + 2)) (hn : i32 n) (hY : box M (v + 2) n → -1300 ≤ M (v + 19) n ∧ M (v + 19) n ≤ 1300) : CnB E 1 yX2_inFrame cX2_inFrame 2 [.ref (v + 1), vI n] K M (box M (v + 2) n ∧ M (v + 19) n < M (v + 2) 4 ∧ 0 < M (v + 19) n + M (v + 2 + 8) n) := by
  refine Cn_of RX2 (plainFor_of_name (by decide)) rfl (Nat.le_of_ble_eq_true rfl) (fun X hX hQ => ?_)
  refine J_aload_n hX dX2_inFrame_0 rfl ?_
  refine J_gr hX (v + 2 + 1) fr_RX2_22 dX2_inFrame_1 (show K (v + 1) = 2 from hV 1 (by decide)) rfl ?_
  refine J_iload_n hX dX2_inFrame_4 rfl ?_
  refine J_callVB hX _ dX2_inFrame_5 cw_RX2_76 (m_X6_isBox (hV).stage (by omega)) ⟨(show K (v + 2 + 1) = 6 from (hV).stage 1 (by decide)), by decide, by decide, rfl⟩ rfl (Nat.le_of_ble_eq_true rfl) (by decide) ⟨Nat.zero_le _, Nat.zero_le _⟩ ?_
  refine J_ifb_eq hX 50 dX2_inFrame_8 (by decide) (fun c8 => ?_) (fun c8 => ?_)
  · refine J_iconst hX dX2_inFrame_50 ?_
    exact J_retF hX hQ dX2_inFrame_51 (by omega) rfl rfl (Nat.zero_le _) (Nat.zero_le _)
  · refine J_aload_n hX dX2_inFrame_11 rfl ?_
    refine J_gr hX (v + 19) fr_RX2_27 dX2_inFrame_12 (show K (v + 1) = 2 from hV 1 (by decide)) rfl ?_
    refine J_iload_n hX dX2_inFrame_15 rfl ?_
    refine J_iald hX dX2_inFrame_16 (show K (v + 19) = 1000 + 20 from hV 19 (by decide)) ⟨by omega, by omega⟩ (by decide) (fun r16 => ?_)
    refine J_aload_n hX dX2_inFrame_17 rfl ?_
    refine J_gr hX (v + 2) fr_RX2_12 dX2_inFrame_18 (show K (v + 1) = 2 from hV 1 (by decide)) rfl ?_
    refine J_geti hX fi_RX2_129 dX2_inFrame_21 (show K (v + 2) = 5 from (hV).stage 0 (by decide)) (fun r21 => ?_)
    refine J_icmp_ge hX 50 dX2_inFrame_24 (by omega) (by omega) (by decide) (fun c24 => ?_) (fun c24 => ?_)
    · refine J_iconst hX dX2_inFrame_50 ?_
      exact J_retF hX hQ dX2_inFrame_51 (by omega) rfl rfl (Nat.zero_le _) (Nat.zero_le _)
    · refine J_aload_n hX dX2_inFrame_27 rfl ?_
      refine J_gr hX (v + 19) fr_RX2_27 dX2_inFrame_28 (show K (v + 1) = 2 from hV 1 (by decide)) rfl ?_
      refine J_iload_n hX dX2_inFrame_31 rfl ?_
      refine J_iald hX dX2_inFrame_32 (show K (v + 19) = 1000 + 20 from hV 19 (by decide)) ⟨by omega, by omega⟩ (by decide) (fun r32 => ?_)
      refine J_aload_n hX dX2_inFrame_33 rfl ?_
      refine J_gr hX (v + 2 + 1) fr_RX2_22 dX2_inFrame_34 (show K (v + 1) = 2 from hV 1 (by decide)) rfl ?_
      refine J_gr hX (v + 2 + 8) fr_RX2_126 dX2_inFrame_37 (show K (v + 2 + 1) = 6 from (hV).stage 1 (by decide)) rfl ?_
      refine J_iload_n hX dX2_inFrame_40 rfl ?_
      refine J_iald hX dX2_inFrame_41 (show K (v + 2 + 8) = 1000 + 20 from (hV).stage 8 (by decide)) ⟨by omega, by omega⟩ (by decide) (fun r41 => ?_)
      refine J_iadd hX dX2_inFrame_42 ?_
      have q1 := hY (by assumption)
      have q2 := (hW.2.2.1 n (by omega) (by omega))
      refine J_if_le hX 50 dX2_inFrame_43 (by omega) (by decide) (fun c43 => ?_) (fun c43 => ?_)
      · refine J_iconst hX dX2_inFrame_50 ?_
        exact J_retF hX hQ dX2_inFrame_51 (by omega) rfl rfl (Nat.zero_le _) (Nat.zero_le _)
      · refine J_iconst hX dX2_inFrame_46 ?_
        refine J_goto hX 51 dX2_inFrame_47 (by decide) ?_
        exact J_retT hX hQ dX2_inFrame_51 (by omega) rfl rfl (Nat.zero_le _) (Nat.zero_le _)
-- X2_fits
set_option maxHeartbeats 4000000 in
set_option maxRecDepth 100000 in
theorem m_X2_fits {E : EE} {K : Nat → Nat} {M : MM} {v : Nat} {T g p lo hi : Int} (hV : ViewK K v) (hW : WF T M (v + 2)) (hZ : ∀ n, box M (v + 2) n → M (v + 20) n = pos (stg M (v + 2)) 6 n) (hg : 0 ≤ g ∧ g ≤ 100) (hp : 0 ≤ p ∧ p ≤ 100) (hl : i32 lo) (hh : i32 hi) : CnB E 2 yX2_fits cX2_fits 6 [.ref (v + 1), vI g, vI p, vI lo, vI hi] K M (fits1 (stg M (v + 2)) g p lo hi = true) := by
  have hW0 := hW
  obtain ⟨hT0, ⟨ws1, ws2, ws3, ws4, ws5, ws6, ws7, ws8, ws9, ws10, ws11, ws12, ws13, ws14⟩, hWn, hWc⟩ := hW0
  have hS0 := hW.S
  refine Cn_of RX2 (plainFor_of_name (by decide)) rfl (Nat.le_of_ble_eq_true rfl) (fun X hX hQ => ?_)
  refine J_iconst hX dX2_fits_0 ?_
  refine J_istore hX dX2_fits_1 (by decide) ?_
  have HL3 : ∀ k : Nat, k ≤ (M (v + 2 + 1) 0).toNat → ftn (stg M (v + 2)) g p lo hi k = true → J E X 3 [(0, .ref (v + 1)), (1, vI g), (2, vI p), (3, vI lo), (4, vI hi), (5, vI (k : Int))] [] K M 0 0 := by
    refine up_ind ((M (v + 2 + 1) 0).toNat) (fun k hk3 ih3 => ?_)
    intro  hi3
    refine J_iload hX dX2_fits_3 rfl ?_
    refine J_aload_n hX dX2_fits_5 rfl ?_
    refine J_gr hX (v + 2 + 1) fr_RX2_22 dX2_fits_6 (show K (v + 1) = 2 from hV 1 (by decide)) rfl ?_
    refine J_geti hX fi_RX2_71 dX2_fits_9 (show K (v + 2 + 1) = 6 from (hV).stage 1 (by decide)) (fun r9 => ?_)
    refine J_icmp_ge hX 69 dX2_fits_12 (by omega) (by omega) (by decide) (fun c12 => ?_) (fun c12 => ?_)
    · refine J_iconst hX dX2_fits_69 ?_
      exact J_retT hX hQ dX2_fits_70 (by first | (exfalso; omega) | (unfold fits1; rw [show cnt (stg M (v + 2)) = k from (by unfold cnt; show (M (v + 2 + 1) 0).toNat = k; omega)]; exact hi3) | (unfold fits1; intro q9; have q8 := (ftn_all.mp q9) k (by unfold cnt; show k < (M (v + 2 + 1) 0).toNat; omega); rcases q8 with q8 | q8; exact q8 (by assumption); exact absurd q8 (by assumption))) rfl rfl (Nat.zero_le _) (Nat.zero_le _)
    · refine J_iload hX dX2_fits_15 rfl ?_
      refine J_bipush hX dX2_fits_17 rfl ?_
      refine J_icmp_ge hX 69 dX2_fits_19 (by omega) (by decide) (by decide) (fun c19 => ?_) (fun c19 => ?_)
      · refine J_iconst hX dX2_fits_69 ?_
        exact J_retT hX hQ dX2_fits_70 (by first | (exfalso; omega) | (unfold fits1; rw [show cnt (stg M (v + 2)) = k from (by unfold cnt; show (M (v + 2 + 1) 0).toNat = k; omega)]; exact hi3) | (unfold fits1; intro q9; have q8 := (ftn_all.mp q9) k (by unfold cnt; show k < (M (v + 2 + 1) 0).toNat; omega); rcases q8 with q8 | q8; exact q8 (by assumption); exact absurd q8 (by assumption))) rfl rfl (Nat.zero_le _) (Nat.zero_le _)
      · refine J_aload_n hX dX2_fits_22 rfl ?_
        refine J_gr hX (v + 2 + 1) fr_RX2_22 dX2_fits_23 (show K (v + 1) = 2 from hV 1 (by decide)) rfl ?_
        refine J_iload hX dX2_fits_26 rfl ?_
        refine J_callVB hX _ dX2_fits_28 cw_RX2_76 (m_X6_isBox (hV).stage (by omega)) ⟨(show K (v + 2 + 1) = 6 from (hV).stage 1 (by decide)), by decide, by decide, rfl⟩ rfl (Nat.le_of_ble_eq_true rfl) (by decide) ⟨Nat.zero_le _, Nat.zero_le _⟩ ?_
        refine J_ifb_eq hX 63 dX2_fits_31 (by decide) (fun c31 => ?_) (fun c31 => ?_)
        · refine J_iinc hX dX2_fits_63 rfl (by decide) ?_
          refine J_goto hX 3 dX2_fits_66 (by decide) ?_
          exact J_locI (ih3 (k + 1) (by omega) (by omega) (ftn_t.mpr ⟨hi3, by first | exact Or.inl (by assumption) | exact Or.inr (by assumption)⟩)) rfl
        · refine J_iload_n hX dX2_fits_34 rfl ?_
          refine J_aload_n hX dX2_fits_35 rfl ?_
          refine J_gr hX (v + 20) fr_RX2_30 dX2_fits_36 (show K (v + 1) = 2 from hV 1 (by decide)) rfl ?_
          refine J_iload hX dX2_fits_39 rfl ?_
          refine J_iald hX dX2_fits_41 (show K (v + 20) = 1000 + 20 from hV 20 (by decide)) ⟨by omega, by omega⟩ (by decide) (fun r41 => ?_)
          have q1 := hZ k (by assumption)
          have q2 := pos_rng hS0 (k := 6) (by omega) (k : Int) (by show (k : Int) < M (v + 2 + 1) 0; omega)
          have q3 := rawp_rng hS0 hg hp (k : Int) (by show (k : Int) < M (v + 2 + 1) 0; omega)
          rw [q1]
          refine J_callSI hX _ dX2_fits_42 cw_RX2_83 (m_X2_rawShift (by omega) (by omega)) rfl (Nat.le_of_ble_eq_true rfl) (by decide) ⟨Nat.zero_le _, Nat.zero_le _⟩ (fun r42 => ?_)
          refine J_iload_n hX dX2_fits_45 rfl ?_
          have q4 := raw_rng hS0 hg (k : Int) (by show (k : Int) < M (v + 2 + 1) 0; omega)
          refine J_st (st2 := vI p :: vI (rawg (stg M (v + 2)) g k) :: []) rfl ?_
          refine J_imul hX dX2_fits_46 ?_
          refine J_bipush hX dX2_fits_47 rfl ?_
          refine J_callSI hX _ dX2_fits_49 cw_RX2_86 (m_J9_floorDiv_7cf53 (by omega) (by omega)) rfl (Nat.le_of_ble_eq_true rfl) (by decide) ⟨Nat.zero_le _, Nat.zero_le _⟩ (fun r49 => ?_)
          refine J_iload_n hX dX2_fits_52 rfl ?_
          refine J_iload hX dX2_fits_53 rfl ?_
          refine J_callNB hX _ dX2_fits_55 cw_RX2_118 (m_X9_within (by omega) (by omega) (by omega)) rfl (Nat.le_of_ble_eq_true rfl) (by decide) ⟨Nat.zero_le _, Nat.zero_le _⟩ ?_
          refine J_ifb_ne hX 63 dX2_fits_58 (by decide) (fun c58 => ?_) (fun c58 => ?_)
          · refine J_iinc hX dX2_fits_63 rfl (by decide) ?_
            refine J_goto hX 3 dX2_fits_66 (by decide) ?_
            exact J_locI (ih3 (k + 1) (by omega) (by omega) (ftn_t.mpr ⟨hi3, by first | exact Or.inl (by assumption) | exact Or.inr (by assumption)⟩)) rfl
          · refine J_iconst hX dX2_fits_61 ?_
            exact J_retF hX hQ dX2_fits_62 (by first | (exfalso; omega) | (unfold fits1; rw [show cnt (stg M (v + 2)) = k from (by unfold cnt; show (M (v + 2 + 1) 0).toNat = k; omega)]; exact hi3) | (unfold fits1; intro q9; have q8 := (ftn_all.mp q9) k (by unfold cnt; show k < (M (v + 2 + 1) 0).toNat; omega); rcases q8 with q8 | q8; exact q8 (by assumption); exact absurd q8 (by assumption))) rfl rfl (Nat.zero_le _) (Nat.zero_le _)
  exact J_locI (HL3 0 (Nat.zero_le _) rfl) rfl
