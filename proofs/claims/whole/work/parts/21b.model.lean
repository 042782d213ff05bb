-- X10_columnOf
set_option maxHeartbeats 4000000 in
set_option maxRecDepth 100000 in
theorem m_X10_columnOf {E : EE} {K : Nat → Nat} {M : MM} {r : Nat} {T : Int} {S : MM} {n l : Int} (hM : ModelK K r) (hR : RS S (M (r + 1))) (hW : WFS T S) (hn : bx S n) (hP : Plc M r S) (hS : Shs M r S) (hl : l = 0 ∨ l = 1) : CnI E 2 yX10_columnOf cX10_columnOf 3 (Option.some FieldType.int) [.ref r, vI n, vI l] K M (col S l n) := by
  obtain ⟨⟨rs0, rs1, rs2, rs3, rs4, rs5, rs6, rs7, rs8, rs9, rs10, rs13⟩, rst, rsn, rsc⟩ := id hR
  have hs9 := hW.2.1
  unfold WFSs at hs9
  have q := rsn n hn.1.1 hn.1.2.1
  have hwn := hW.2.2.1 n hn.1.1 hn.1.2.1
  have e6 := (hP n hn.1.1 hn.1.2.1).1
  have e7 := (hP n hn.1.1 hn.1.2.1).2.1
  have pr5 := pos_rng hW (k := 5) (by decide) n hn.1.2.1
  have pr4 := pos_rng hW (k := 4) (by decide) n hn.1.2.1
  have e9 := hS n hn.1.1 hn.1.2.1
  have sr := shf_rng2 hW n hn.1.2.1
  refine ⟨Cn_of RX10 (plainFor_of_name (by decide)) rfl (Nat.le_of_ble_eq_true rfl) (fun X hX hQ => ?_), by have := col_rng hW hn l; omega⟩
  refine J_aload_n hX dX10_columnOf_0 rfl ?_
  refine J_gr hX (r + 6) fr_RX10_25 dX10_columnOf_1 (show K (r) = 9 from hM 0 (by decide)) rfl ?_
  refine J_iload_n hX dX10_columnOf_4 rfl ?_
  refine J_iald hX dX10_columnOf_5 (show K (r + 6) = 1000 + 20 from hM 6 (by decide)) ⟨by omega, by omega⟩ (by decide) (fun r5 => ?_)
  refine J_aload_n hX dX10_columnOf_6 rfl ?_
  refine J_gr hX (r + 9) fr_RX10_34 dX10_columnOf_7 (show K (r) = 9 from hM 0 (by decide)) rfl ?_
  refine J_iload_n hX dX10_columnOf_10 rfl ?_
  refine J_iald hX dX10_columnOf_11 (show K (r + 9) = 1000 + 20 from hM 9 (by decide)) ⟨by omega, by omega⟩ (by decide) (fun r11 => ?_)
  refine J_iload_n hX dX10_columnOf_12 rfl ?_
  refine J_callSI hX _ dX10_columnOf_13 cw_RX10_166 (m_X10_column (by omega) (by omega) (by omega)) rfl (Nat.le_of_ble_eq_true rfl) (by decide) ⟨Nat.zero_le _, Nat.zero_le _⟩ (fun r13 => ?_)
  exact J_retI hX hQ dX10_columnOf_16 (by rw [e6, e9]; rfl) rfl rfl (Nat.zero_le _) (Nat.zero_le _)
-- X10_isInRows
set_option maxHeartbeats 4000000 in
set_option maxRecDepth 100000 in
theorem m_X10_isInRows {E : EE} {K : Nat → Nat} {M : MM} {r : Nat} {T : Int} {S : MM} {n : Int} (hM : ModelK K r) (hR : RS S (M (r + 1))) (hW : WFS T S) (hn : bx S n) (hP : Plc M r S) : CnB E 1 yX10_isInRows cX10_isInRows 2 [.ref r, vI n] K M (pos S 5 n < S 0 4 ∧ 0 < pos S 5 n + S 8 n) := by
  obtain ⟨⟨rs0, rs1, rs2, rs3, rs4, rs5, rs6, rs7, rs8, rs9, rs10, rs13⟩, rst, rsn, rsc⟩ := id hR
  have hs9 := hW.2.1
  unfold WFSs at hs9
  have q := rsn n hn.1.1 hn.1.2.1
  have hwn := hW.2.2.1 n hn.1.1 hn.1.2.1
  have e6 := (hP n hn.1.1 hn.1.2.1).1
  have e7 := (hP n hn.1.1 hn.1.2.1).2.1
  have pr5 := pos_rng hW (k := 5) (by decide) n hn.1.2.1
  have pr4 := pos_rng hW (k := 4) (by decide) n hn.1.2.1
  refine Cn_of RX10 (plainFor_of_name (by decide)) rfl (Nat.le_of_ble_eq_true rfl) (fun X hX hQ => ?_)
  refine J_aload_n hX dX10_isInRows_0 rfl ?_
  refine J_gr hX (r + 7) fr_RX10_28 dX10_isInRows_1 (show K (r) = 9 from hM 0 (by decide)) rfl ?_
  refine J_iload_n hX dX10_isInRows_4 rfl ?_
  refine J_iald hX dX10_isInRows_5 (show K (r + 7) = 1000 + 20 from hM 7 (by decide)) ⟨by omega, by omega⟩ (by decide) (fun r5 => ?_)
  refine J_aload_n hX dX10_isInRows_6 rfl ?_
  refine J_gr hX (r + 1) fr_RX10_7 dX10_isInRows_7 (show K (r) = 9 from hM 0 (by decide)) rfl ?_
  refine J_iconst hX dX10_isInRows_10 ?_
  refine J_iald hX dX10_isInRows_11 (show K (r + 1) = 1000 + 198 from hM 1 (by decide)) ⟨by omega, by omega⟩ (by decide) (fun r11 => ?_)
  refine J_icmp_ge hX 35 dX10_isInRows_12 (by omega) (by omega) (by decide) (fun c12 => ?_) (fun c12 => ?_)
  · refine J_iconst hX dX10_isInRows_35 ?_
    exact J_retF hX hQ dX10_isInRows_36 (by omega) rfl rfl (Nat.zero_le _) (Nat.zero_le _)
  · refine J_aload_n hX dX10_isInRows_15 rfl ?_
    refine J_gr hX (r + 7) fr_RX10_28 dX10_isInRows_16 (show K (r) = 9 from hM 0 (by decide)) rfl ?_
    refine J_iload_n hX dX10_isInRows_19 rfl ?_
    refine J_iald hX dX10_isInRows_20 (show K (r + 7) = 1000 + 20 from hM 7 (by decide)) ⟨by omega, by omega⟩ (by decide) (fun r20 => ?_)
    refine J_aload_n hX dX10_isInRows_21 rfl ?_
    refine J_iload_n hX dX10_isInRows_22 rfl ?_
    refine J_iconst hX dX10_isInRows_23 ?_
    refine J_callVI hX _ dX10_isInRows_24 cw_RX10_62 (m_X10_of hM (by omega) (by omega) (by omega)) ⟨(show K (r) = 9 from hM 0 (by decide)), by decide, by decide, rfl⟩ rfl (Nat.le_of_ble_eq_true rfl) (by decide) ⟨Nat.zero_le _, Nat.zero_le _⟩ (fun r24 => ?_)
    refine J_iadd hX dX10_isInRows_27 ?_
    refine J_if_le hX 35 dX10_isInRows_28 (by omega) (by decide) (fun c28 => ?_) (fun c28 => ?_)
    · refine J_iconst hX dX10_isInRows_35 ?_
      exact J_retF hX hQ dX10_isInRows_36 (by omega) rfl rfl (Nat.zero_le _) (Nat.zero_le _)
    · refine J_iconst hX dX10_isInRows_31 ?_
      refine J_goto hX 36 dX10_isInRows_32 (by decide) ?_
      exact J_retT hX hQ dX10_isInRows_36 (by omega) rfl rfl (Nat.zero_le _) (Nat.zero_le _)
-- X10_isCutLeft
set_option maxHeartbeats 4000000 in
set_option maxRecDepth 100000 in
theorem m_X10_isCutLeft {E : EE} {K : Nat → Nat} {M : MM} {r : Nat} {T : Int} {S : MM} {n l a : Int} (hM : ModelK K r) (hR : RS S (M (r + 1))) (hW : WFS T S) (hn : bx S n) (hP : Plc M r S) (hS : Shs M r S) (hl : l = 0 ∨ l = 1) (ha : 0 ≤ a ∧ a ≤ 1000) : CnB E 3 yX10_isCutLeft cX10_isCutLeft 6 [.ref r, vI n, vI l, vI a] K M ((pos S 5 n < S 0 4 ∧ 0 < pos S 5 n + S 8 n) ∧ crs (col S l n) (S 7 n) (if l = 0 then 0 else a)) := by
  obtain ⟨⟨rs0, rs1, rs2, rs3, rs4, rs5, rs6, rs7, rs8, rs9, rs10, rs13⟩, rst, rsn, rsc⟩ := id hR
  have hs9 := hW.2.1
  unfold WFSs at hs9
  have q := rsn n hn.1.1 hn.1.2.1
  have hwn := hW.2.2.1 n hn.1.1 hn.1.2.1
  have cr := col_rng hW hn l
  refine Cn_of RX10 (plainFor_of_name (by decide)) rfl (Nat.le_of_ble_eq_true rfl) (fun X hX hQ => ?_)
  refine J_iload_n hX dX10_isCutLeft_0 rfl ?_
  refine J_if_eq hX 8 dX10_isCutLeft_1 (by omega) (by decide) (fun c1 => ?_) (fun c1 => ?_)
  · refine J_iconst hX dX10_isCutLeft_8 ?_
    refine J_istore hX dX10_isCutLeft_9 (by decide) ?_
    refine J_aload_n hX dX10_isCutLeft_11 rfl ?_
    refine J_iload_n hX dX10_isCutLeft_12 rfl ?_
    refine J_iload_n hX dX10_isCutLeft_13 rfl ?_
    refine J_callVI hX _ dX10_isCutLeft_14 cw_RX10_170 (m_X10_columnOf hM hR hW hn hP hS (by omega)) ⟨(show K (r) = 9 from hM 0 (by decide)), by decide, by decide, rfl⟩ rfl (Nat.le_of_ble_eq_true rfl) (by decide) ⟨Nat.zero_le _, Nat.zero_le _⟩ (fun r14 => ?_)
    refine J_istore hX dX10_isCutLeft_17 (by decide) ?_
    refine J_aload_n hX dX10_isCutLeft_19 rfl ?_
    refine J_iload_n hX dX10_isCutLeft_20 rfl ?_
    refine J_callVB hX _ dX10_isCutLeft_21 cw_RX10_174 (m_X10_isInRows hM hR hW hn hP) ⟨(show K (r) = 9 from hM 0 (by decide)), by decide, by decide, rfl⟩ rfl (Nat.le_of_ble_eq_true rfl) (by decide) ⟨Nat.zero_le _, Nat.zero_le _⟩ ?_
    refine J_ifb_eq hX 52 dX10_isCutLeft_24 (by decide) (fun c24 => ?_) (fun c24 => ?_)
    · refine J_iconst hX dX10_isCutLeft_52 ?_
      exact J_retF hX hQ dX10_isCutLeft_53 (by first | (rw [if_pos (by assumption)]; omega) | (rw [if_neg (by assumption)]; omega)) rfl rfl (Nat.zero_le _) (Nat.zero_le _)
    · refine J_iload hX dX10_isCutLeft_27 rfl ?_
      refine J_iload hX dX10_isCutLeft_29 rfl ?_
      refine J_icmp_ge hX 52 dX10_isCutLeft_31 (by omega) (by decide) (by decide) (fun c31 => ?_) (fun c31 => ?_)
      · refine J_iconst hX dX10_isCutLeft_52 ?_
        exact J_retF hX hQ dX10_isCutLeft_53 (by first | (rw [if_pos (by assumption)]; omega) | (rw [if_neg (by assumption)]; omega)) rfl rfl (Nat.zero_le _) (Nat.zero_le _)
      · refine J_iload hX dX10_isCutLeft_34 rfl ?_
        refine J_aload_n hX dX10_isCutLeft_36 rfl ?_
        refine J_iload_n hX dX10_isCutLeft_37 rfl ?_
        refine J_iconst hX dX10_isCutLeft_38 ?_
        refine J_callVI hX _ dX10_isCutLeft_39 cw_RX10_62 (m_X10_of hM (by omega) (by omega) (by omega)) ⟨(show K (r) = 9 from hM 0 (by decide)), by decide, by decide, rfl⟩ rfl (Nat.le_of_ble_eq_true rfl) (by decide) ⟨Nat.zero_le _, Nat.zero_le _⟩ (fun r39 => ?_)
        refine J_iadd hX dX10_isCutLeft_42 ?_
        refine J_iload hX dX10_isCutLeft_43 rfl ?_
        refine J_icmp_le hX 52 dX10_isCutLeft_45 (by omega) (by decide) (by decide) (fun c45 => ?_) (fun c45 => ?_)
        · refine J_iconst hX dX10_isCutLeft_52 ?_
          exact J_retF hX hQ dX10_isCutLeft_53 (by first | (rw [if_pos (by assumption)]; omega) | (rw [if_neg (by assumption)]; omega)) rfl rfl (Nat.zero_le _) (Nat.zero_le _)
        · refine J_iconst hX dX10_isCutLeft_48 ?_
          refine J_goto hX 53 dX10_isCutLeft_49 (by decide) ?_
          exact J_retT hX hQ dX10_isCutLeft_53 (by first | (rw [if_pos (by assumption)]; omega) | (rw [if_neg (by assumption)]; omega)) rfl rfl (Nat.zero_le _) (Nat.zero_le _)
  · refine J_iload_n hX dX10_isCutLeft_4 rfl ?_
    refine J_goto hX 9 dX10_isCutLeft_5 (by decide) ?_
    refine J_istore hX dX10_isCutLeft_9 (by decide) ?_
    refine J_aload_n hX dX10_isCutLeft_11 rfl ?_
    refine J_iload_n hX dX10_isCutLeft_12 rfl ?_
    refine J_iload_n hX dX10_isCutLeft_13 rfl ?_
    refine J_callVI hX _ dX10_isCutLeft_14 cw_RX10_170 (m_X10_columnOf hM hR hW hn hP hS (by omega)) ⟨(show K (r) = 9 from hM 0 (by decide)), by decide, by decide, rfl⟩ rfl (Nat.le_of_ble_eq_true rfl) (by decide) ⟨Nat.zero_le _, Nat.zero_le _⟩ (fun r14 => ?_)
    refine J_istore hX dX10_isCutLeft_17 (by decide) ?_
    refine J_aload_n hX dX10_isCutLeft_19 rfl ?_
    refine J_iload_n hX dX10_isCutLeft_20 rfl ?_
    refine J_callVB hX _ dX10_isCutLeft_21 cw_RX10_174 (m_X10_isInRows hM hR hW hn hP) ⟨(show K (r) = 9 from hM 0 (by decide)), by decide, by decide, rfl⟩ rfl (Nat.le_of_ble_eq_true rfl) (by decide) ⟨Nat.zero_le _, Nat.zero_le _⟩ ?_
    refine J_ifb_eq hX 52 dX10_isCutLeft_24 (by decide) (fun c24 => ?_) (fun c24 => ?_)
    · refine J_iconst hX dX10_isCutLeft_52 ?_
      exact J_retF hX hQ dX10_isCutLeft_53 (by first | (rw [if_pos (by assumption)]; omega) | (rw [if_neg (by assumption)]; omega)) rfl rfl (Nat.zero_le _) (Nat.zero_le _)
    · refine J_iload hX dX10_isCutLeft_27 rfl ?_
      refine J_iload hX dX10_isCutLeft_29 rfl ?_
      refine J_icmp_ge hX 52 dX10_isCutLeft_31 (by omega) (by omega) (by decide) (fun c31 => ?_) (fun c31 => ?_)
      · refine J_iconst hX dX10_isCutLeft_52 ?_
        exact J_retF hX hQ dX10_isCutLeft_53 (by first | (rw [if_pos (by assumption)]; omega) | (rw [if_neg (by assumption)]; omega)) rfl rfl (Nat.zero_le _) (Nat.zero_le _)
      · refine J_iload hX dX10_isCutLeft_34 rfl ?_
        refine J_aload_n hX dX10_isCutLeft_36 rfl ?_
        refine J_iload_n hX dX10_isCutLeft_37 rfl ?_
        refine J_iconst hX dX10_isCutLeft_38 ?_
        refine J_callVI hX _ dX10_isCutLeft_39 cw_RX10_62 (m_X10_of hM (by omega) (by omega) (by omega)) ⟨(show K (r) = 9 from hM 0 (by decide)), by decide, by decide, rfl⟩ rfl (Nat.le_of_ble_eq_true rfl) (by decide) ⟨Nat.zero_le _, Nat.zero_le _⟩ (fun r39 => ?_)
        refine J_iadd hX dX10_isCutLeft_42 ?_
        refine J_iload hX dX10_isCutLeft_43 rfl ?_
        refine J_icmp_le hX 52 dX10_isCutLeft_45 (by omega) (by omega) (by decide) (fun c45 => ?_) (fun c45 => ?_)
        · refine J_iconst hX dX10_isCutLeft_52 ?_
          exact J_retF hX hQ dX10_isCutLeft_53 (by first | (rw [if_pos (by assumption)]; omega) | (rw [if_neg (by assumption)]; omega)) rfl rfl (Nat.zero_le _) (Nat.zero_le _)
        · refine J_iconst hX dX10_isCutLeft_48 ?_
          refine J_goto hX 53 dX10_isCutLeft_49 (by decide) ?_
          exact J_retT hX hQ dX10_isCutLeft_53 (by first | (rw [if_pos (by assumption)]; omega) | (rw [if_neg (by assumption)]; omega)) rfl rfl (Nat.zero_le _) (Nat.zero_le _)
-- X10_isCutRight
set_option maxHeartbeats 4000000 in
set_option maxRecDepth 100000 in
theorem m_X10_isCutRight {E : EE} {K : Nat → Nat} {M : MM} {r : Nat} {T : Int} {S : MM} {n l a : Int} (hM : ModelK K r) (hR : RS S (M (r + 1))) (hW : WFS T S) (hn : bx S n) (hP : Plc M r S) (hS : Shs M r S) (hl : l = 0 ∨ l = 1) (ha : 0 ≤ a ∧ a ≤ 1000) : CnB E 3 yX10_isCutRight cX10_isCutRight 6 [.ref r, vI n, vI l, vI a] K M ((pos S 5 n < S 0 4 ∧ 0 < pos S 5 n + S 8 n) ∧ crs (col S l n) (S 7 n) (if l = 0 then S 0 3 - a else S 0 3)) := by
  obtain ⟨⟨rs0, rs1, rs2, rs3, rs4, rs5, rs6, rs7, rs8, rs9, rs10, rs13⟩, rst, rsn, rsc⟩ := id hR
  have hs9 := hW.2.1
  unfold WFSs at hs9
  have q := rsn n hn.1.1 hn.1.2.1
  have hwn := hW.2.2.1 n hn.1.1 hn.1.2.1
  have cr := col_rng hW hn l
  refine Cn_of RX10 (plainFor_of_name (by decide)) rfl (Nat.le_of_ble_eq_true rfl) (fun X hX hQ => ?_)
  refine J_iload_n hX dX10_isCutRight_0 rfl ?_
  refine J_if_eq hX 13 dX10_isCutRight_1 (by omega) (by decide) (fun c1 => ?_) (fun c1 => ?_)
  · refine J_aload_n hX dX10_isCutRight_13 rfl ?_
    refine J_gr hX (r + 1) fr_RX10_7 dX10_isCutRight_14 (show K (r) = 9 from hM 0 (by decide)) rfl ?_
    refine J_iconst hX dX10_isCutRight_17 ?_
    refine J_iald hX dX10_isCutRight_18 (show K (r + 1) = 1000 + 198 from hM 1 (by decide)) ⟨by omega, by omega⟩ (by decide) (fun r18 => ?_)
    refine J_iload_n hX dX10_isCutRight_19 rfl ?_
    refine J_isub hX dX10_isCutRight_20 ?_
    refine J_istore hX dX10_isCutRight_21 (by decide) ?_
    refine J_aload_n hX dX10_isCutRight_23 rfl ?_
    refine J_iload_n hX dX10_isCutRight_24 rfl ?_
    refine J_iload_n hX dX10_isCutRight_25 rfl ?_
    refine J_callVI hX _ dX10_isCutRight_26 cw_RX10_170 (m_X10_columnOf hM hR hW hn hP hS (by omega)) ⟨(show K (r) = 9 from hM 0 (by decide)), by decide, by decide, rfl⟩ rfl (Nat.le_of_ble_eq_true rfl) (by decide) ⟨Nat.zero_le _, Nat.zero_le _⟩ (fun r26 => ?_)
    refine J_istore hX dX10_isCutRight_29 (by decide) ?_
    refine J_aload_n hX dX10_isCutRight_31 rfl ?_
    refine J_iload_n hX dX10_isCutRight_32 rfl ?_
    refine J_callVB hX _ dX10_isCutRight_33 cw_RX10_174 (m_X10_isInRows hM hR hW hn hP) ⟨(show K (r) = 9 from hM 0 (by decide)), by decide, by decide, rfl⟩ rfl (Nat.le_of_ble_eq_true rfl) (by decide) ⟨Nat.zero_le _, Nat.zero_le _⟩ ?_
    refine J_ifb_eq hX 64 dX10_isCutRight_36 (by decide) (fun c36 => ?_) (fun c36 => ?_)
    · refine J_iconst hX dX10_isCutRight_64 ?_
      exact J_retF hX hQ dX10_isCutRight_65 (by first | (rw [if_pos (by assumption)]; omega) | (rw [if_neg (by assumption)]; omega)) rfl rfl (Nat.zero_le _) (Nat.zero_le _)
    · refine J_iload hX dX10_isCutRight_39 rfl ?_
      refine J_iload hX dX10_isCutRight_41 rfl ?_
      refine J_icmp_ge hX 64 dX10_isCutRight_43 (by omega) (by omega) (by decide) (fun c43 => ?_) (fun c43 => ?_)
      · refine J_iconst hX dX10_isCutRight_64 ?_
        exact J_retF hX hQ dX10_isCutRight_65 (by first | (rw [if_pos (by assumption)]; omega) | (rw [if_neg (by assumption)]; omega)) rfl rfl (Nat.zero_le _) (Nat.zero_le _)
      · refine J_iload hX dX10_isCutRight_46 rfl ?_
        refine J_aload_n hX dX10_isCutRight_48 rfl ?_
        refine J_iload_n hX dX10_isCutRight_49 rfl ?_
        refine J_iconst hX dX10_isCutRight_50 ?_
        refine J_callVI hX _ dX10_isCutRight_51 cw_RX10_62 (m_X10_of hM (by omega) (by omega) (by omega)) ⟨(show K (r) = 9 from hM 0 (by decide)), by decide, by decide, rfl⟩ rfl (Nat.le_of_ble_eq_true rfl) (by decide) ⟨Nat.zero_le _, Nat.zero_le _⟩ (fun r51 => ?_)
        refine J_iadd hX dX10_isCutRight_54 ?_
        refine J_iload hX dX10_isCutRight_55 rfl ?_
        refine J_icmp_le hX 64 dX10_isCutRight_57 (by omega) (by omega) (by decide) (fun c57 => ?_) (fun c57 => ?_)
        · refine J_iconst hX dX10_isCutRight_64 ?_
          exact J_retF hX hQ dX10_isCutRight_65 (by first | (rw [if_pos (by assumption)]; omega) | (rw [if_neg (by assumption)]; omega)) rfl rfl (Nat.zero_le _) (Nat.zero_le _)
        · refine J_iconst hX dX10_isCutRight_60 ?_
          refine J_goto hX 65 dX10_isCutRight_61 (by decide) ?_
          exact J_retT hX hQ dX10_isCutRight_65 (by first | (rw [if_pos (by assumption)]; omega) | (rw [if_neg (by assumption)]; omega)) rfl rfl (Nat.zero_le _) (Nat.zero_le _)
  · refine J_aload_n hX dX10_isCutRight_4 rfl ?_
    refine J_gr hX (r + 1) fr_RX10_7 dX10_isCutRight_5 (show K (r) = 9 from hM 0 (by decide)) rfl ?_
    refine J_iconst hX dX10_isCutRight_8 ?_
    refine J_iald hX dX10_isCutRight_9 (show K (r + 1) = 1000 + 198 from hM 1 (by decide)) ⟨by omega, by omega⟩ (by decide) (fun r9 => ?_)
    refine J_goto hX 21 dX10_isCutRight_10 (by decide) ?_
    refine J_istore hX dX10_isCutRight_21 (by decide) ?_
    refine J_aload_n hX dX10_isCutRight_23 rfl ?_
    refine J_iload_n hX dX10_isCutRight_24 rfl ?_
    refine J_iload_n hX dX10_isCutRight_25 rfl ?_
    refine J_callVI hX _ dX10_isCutRight_26 cw_RX10_170 (m_X10_columnOf hM hR hW hn hP hS (by omega)) ⟨(show K (r) = 9 from hM 0 (by decide)), by decide, by decide, rfl⟩ rfl (Nat.le_of_ble_eq_true rfl) (by decide) ⟨Nat.zero_le _, Nat.zero_le _⟩ (fun r26 => ?_)
    refine J_istore hX dX10_isCutRight_29 (by decide) ?_
    refine J_aload_n hX dX10_isCutRight_31 rfl ?_
    refine J_iload_n hX dX10_isCutRight_32 rfl ?_
    refine J_callVB hX _ dX10_isCutRight_33 cw_RX10_174 (m_X10_isInRows hM hR hW hn hP) ⟨(show K (r) = 9 from hM 0 (by decide)), by decide, by decide, rfl⟩ rfl (Nat.le_of_ble_eq_true rfl) (by decide) ⟨Nat.zero_le _, Nat.zero_le _⟩ ?_
    refine J_ifb_eq hX 64 dX10_isCutRight_36 (by decide) (fun c36 => ?_) (fun c36 => ?_)
    · refine J_iconst hX dX10_isCutRight_64 ?_
      exact J_retF hX hQ dX10_isCutRight_65 (by first | (rw [if_pos (by assumption)]; omega) | (rw [if_neg (by assumption)]; omega)) rfl rfl (Nat.zero_le _) (Nat.zero_le _)
    · refine J_iload hX dX10_isCutRight_39 rfl ?_
      refine J_iload hX dX10_isCutRight_41 rfl ?_
      refine J_icmp_ge hX 64 dX10_isCutRight_43 (by omega) (by omega) (by decide) (fun c43 => ?_) (fun c43 => ?_)
      · refine J_iconst hX dX10_isCutRight_64 ?_
        exact J_retF hX hQ dX10_isCutRight_65 (by first | (rw [if_pos (by assumption)]; omega) | (rw [if_neg (by assumption)]; omega)) rfl rfl (Nat.zero_le _) (Nat.zero_le _)
      · refine J_iload hX dX10_isCutRight_46 rfl ?_
        refine J_aload_n hX dX10_isCutRight_48 rfl ?_
        refine J_iload_n hX dX10_isCutRight_49 rfl ?_
        refine J_iconst hX dX10_isCutRight_50 ?_
        refine J_callVI hX _ dX10_isCutRight_51 cw_RX10_62 (m_X10_of hM (by omega) (by omega) (by omega)) ⟨(show K (r) = 9 from hM 0 (by decide)), by decide, by decide, rfl⟩ rfl (Nat.le_of_ble_eq_true rfl) (by decide) ⟨Nat.zero_le _, Nat.zero_le _⟩ (fun r51 => ?_)
        refine J_iadd hX dX10_isCutRight_54 ?_
        refine J_iload hX dX10_isCutRight_55 rfl ?_
        refine J_icmp_le hX 64 dX10_isCutRight_57 (by omega) (by omega) (by decide) (fun c57 => ?_) (fun c57 => ?_)
        · refine J_iconst hX dX10_isCutRight_64 ?_
          exact J_retF hX hQ dX10_isCutRight_65 (by first | (rw [if_pos (by assumption)]; omega) | (rw [if_neg (by assumption)]; omega)) rfl rfl (Nat.zero_le _) (Nat.zero_le _)
        · refine J_iconst hX dX10_isCutRight_60 ?_
          refine J_goto hX 65 dX10_isCutRight_61 (by decide) ?_
          exact J_retT hX hQ dX10_isCutRight_65 (by first | (rw [if_pos (by assumption)]; omega) | (rw [if_neg (by assumption)]; omega)) rfl rfl (Nat.zero_le _) (Nat.zero_le _)
theorem cut_l {S : MM} {n l e : Int} (hn : bx S n) (hl : ¬ l = 0) : cut S l e n ↔ ((pos S 5 n < S 0 4 ∧ 0 < pos S 5 n + S 8 n) ∧ crs (col S 1 n) (S 7 n) (if (1 : Int) = 0 then 0 else e)) ∨ ((pos S 5 n < S 0 4 ∧ 0 < pos S 5 n + S 8 n) ∧ crs (col S 0 n) (S 7 n) (if (0 : Int) = 0 then 0 else e)) := by
  rw [if_neg (by decide), if_pos rfl]
  constructor
  · rintro ⟨⟨_, h1⟩, h2⟩
    rw [if_neg hl] at h2
    exact h2.imp (fun z => ⟨h1, z⟩) (fun z => ⟨h1, z⟩)
  · intro h
    refine ⟨⟨hn, h.elim (fun z => z.1) (fun z => z.1)⟩, ?_⟩
    rw [if_neg hl]
    exact h.imp (fun z => z.2) (fun z => z.2)
theorem cut_r {S : MM} {n l e : Int} (hn : bx S n) (hl : l = 0) : cut S l e n ↔ ((pos S 5 n < S 0 4 ∧ 0 < pos S 5 n + S 8 n) ∧ crs (col S 1 n) (S 7 n) (if (1 : Int) = 0 then S 0 3 - e else S 0 3)) ∨ ((pos S 5 n < S 0 4 ∧ 0 < pos S 5 n + S 8 n) ∧ crs (col S 0 n) (S 7 n) (if (0 : Int) = 0 then S 0 3 - e else S 0 3)) := by
  rw [if_neg (by decide), if_pos rfl]
  constructor
  · rintro ⟨⟨_, h1⟩, h2⟩
    rw [if_pos hl] at h2
    exact h2.imp (fun z => ⟨h1, z⟩) (fun z => ⟨h1, z⟩)
  · intro h
    refine ⟨⟨hn, h.elim (fun z => z.1) (fun z => z.1)⟩, ?_⟩
    rw [if_pos hl]
    exact h.imp (fun z => z.2) (fun z => z.2)
-- X10_isCut
set_option maxHeartbeats 4000000 in
set_option maxRecDepth 100000 in
theorem m_X10_isCut {E : EE} {K : Nat → Nat} {M : MM} {r : Nat} {T : Int} {S : MM} {n l a : Int} (hM : ModelK K r) (hR : RS S (M (r + 1))) (hW : WFS T S) (hn : bx S n) (hP : Plc M r S) (hS : Shs M r S) (hl : l = 0 ∨ l = 1) (ha : 0 ≤ a ∧ a ≤ 1000) : CnB E 4 yX10_isCut cX10_isCut 4 [.ref r, vI n, vI l, vI a] K M (cut S l a n) := by
  refine Cn_of RX10 (plainFor_of_name (by decide)) rfl (Nat.le_of_ble_eq_true rfl) (fun X hX hQ => ?_)
  refine J_iload_n hX dX10_isCut_0 rfl ?_
  refine J_if_eq hX 32 dX10_isCut_1 (by omega) (by decide) (fun c1 => ?_) (fun c1 => ?_)
  · refine J_aload_n hX dX10_isCut_32 rfl ?_
    refine J_iload_n hX dX10_isCut_33 rfl ?_
    refine J_iconst hX dX10_isCut_34 ?_
    refine J_iload_n hX dX10_isCut_35 rfl ?_
    refine J_callVB hX _ dX10_isCut_36 cw_RX10_181 (m_X10_isCutRight hM hR hW hn hP hS (by decide) (by omega)) ⟨(show K (r) = 9 from hM 0 (by decide)), by decide, by decide, rfl⟩ rfl (Nat.le_of_ble_eq_true rfl) (by decide) ⟨Nat.zero_le _, Nat.zero_le _⟩ ?_
    refine J_ifb_ne hX 52 dX10_isCut_39 (by decide) (fun c39 => ?_) (fun c39 => ?_)
    · refine J_iconst hX dX10_isCut_52 ?_
      refine J_goto hX 57 dX10_isCut_53 (by decide) ?_
      exact J_retT hX hQ dX10_isCut_57 (by first | exact (cut_l hn (by assumption)).mpr (Or.inl (by assumption)) | exact (cut_l hn (by assumption)).mpr (Or.inr (by assumption)) | exact fun h => ((cut_l hn (by assumption)).mp h).elim (by assumption) (by assumption) | exact (cut_r hn (by assumption)).mpr (Or.inl (by assumption)) | exact (cut_r hn (by assumption)).mpr (Or.inr (by assumption)) | exact fun h => ((cut_r hn (by assumption)).mp h).elim (by assumption) (by assumption)) rfl rfl (Nat.zero_le _) (Nat.zero_le _)
    · refine J_aload_n hX dX10_isCut_42 rfl ?_
      refine J_iload_n hX dX10_isCut_43 rfl ?_
      refine J_iconst hX dX10_isCut_44 ?_
      refine J_iload_n hX dX10_isCut_45 rfl ?_
      refine J_callVB hX _ dX10_isCut_46 cw_RX10_181 (m_X10_isCutRight hM hR hW hn hP hS (by decide) (by omega)) ⟨(show K (r) = 9 from hM 0 (by decide)), by decide, by decide, rfl⟩ rfl (Nat.le_of_ble_eq_true rfl) (by decide) ⟨Nat.zero_le _, Nat.zero_le _⟩ ?_
      refine J_ifb_eq hX 56 dX10_isCut_49 (by decide) (fun c49 => ?_) (fun c49 => ?_)
      · refine J_iconst hX dX10_isCut_56 ?_
        exact J_retF hX hQ dX10_isCut_57 (by first | exact (cut_l hn (by assumption)).mpr (Or.inl (by assumption)) | exact (cut_l hn (by assumption)).mpr (Or.inr (by assumption)) | exact fun h => ((cut_l hn (by assumption)).mp h).elim (by assumption) (by assumption) | exact (cut_r hn (by assumption)).mpr (Or.inl (by assumption)) | exact (cut_r hn (by assumption)).mpr (Or.inr (by assumption)) | exact fun h => ((cut_r hn (by assumption)).mp h).elim (by assumption) (by assumption)) rfl rfl (Nat.zero_le _) (Nat.zero_le _)
      · refine J_iconst hX dX10_isCut_52 ?_
        refine J_goto hX 57 dX10_isCut_53 (by decide) ?_
        exact J_retT hX hQ dX10_isCut_57 (by first | exact (cut_l hn (by assumption)).mpr (Or.inl (by assumption)) | exact (cut_l hn (by assumption)).mpr (Or.inr (by assumption)) | exact fun h => ((cut_l hn (by assumption)).mp h).elim (by assumption) (by assumption) | exact (cut_r hn (by assumption)).mpr (Or.inl (by assumption)) | exact (cut_r hn (by assumption)).mpr (Or.inr (by assumption)) | exact fun h => ((cut_r hn (by assumption)).mp h).elim (by assumption) (by assumption)) rfl rfl (Nat.zero_le _) (Nat.zero_le _)
  · refine J_aload_n hX dX10_isCut_4 rfl ?_
    refine J_iload_n hX dX10_isCut_5 rfl ?_
    refine J_iconst hX dX10_isCut_6 ?_
    refine J_iload_n hX dX10_isCut_7 rfl ?_
    refine J_callVB hX _ dX10_isCut_8 cw_RX10_177 (m_X10_isCutLeft hM hR hW hn hP hS (by decide) (by omega)) ⟨(show K (r) = 9 from hM 0 (by decide)), by decide, by decide, rfl⟩ rfl (Nat.le_of_ble_eq_true rfl) (by decide) ⟨Nat.zero_le _, Nat.zero_le _⟩ ?_
    refine J_ifb_ne hX 24 dX10_isCut_11 (by decide) (fun c11 => ?_) (fun c11 => ?_)
    · refine J_iconst hX dX10_isCut_24 ?_
      refine J_goto hX 57 dX10_isCut_25 (by decide) ?_
      exact J_retT hX hQ dX10_isCut_57 (by first | exact (cut_l hn (by assumption)).mpr (Or.inl (by assumption)) | exact (cut_l hn (by assumption)).mpr (Or.inr (by assumption)) | exact fun h => ((cut_l hn (by assumption)).mp h).elim (by assumption) (by assumption) | exact (cut_r hn (by assumption)).mpr (Or.inl (by assumption)) | exact (cut_r hn (by assumption)).mpr (Or.inr (by assumption)) | exact fun h => ((cut_r hn (by assumption)).mp h).elim (by assumption) (by assumption)) rfl rfl (Nat.zero_le _) (Nat.zero_le _)
    · refine J_aload_n hX dX10_isCut_14 rfl ?_
      refine J_iload_n hX dX10_isCut_15 rfl ?_
      refine J_iconst hX dX10_isCut_16 ?_
      refine J_iload_n hX dX10_isCut_17 rfl ?_
      refine J_callVB hX _ dX10_isCut_18 cw_RX10_177 (m_X10_isCutLeft hM hR hW hn hP hS (by decide) (by omega)) ⟨(show K (r) = 9 from hM 0 (by decide)), by decide, by decide, rfl⟩ rfl (Nat.le_of_ble_eq_true rfl) (by decide) ⟨Nat.zero_le _, Nat.zero_le _⟩ ?_
      refine J_ifb_eq hX 28 dX10_isCut_21 (by decide) (fun c21 => ?_) (fun c21 => ?_)
      · refine J_iconst hX dX10_isCut_28 ?_
        refine J_goto hX 57 dX10_isCut_29 (by decide) ?_
        exact J_retF hX hQ dX10_isCut_57 (by first | exact (cut_l hn (by assumption)).mpr (Or.inl (by assumption)) | exact (cut_l hn (by assumption)).mpr (Or.inr (by assumption)) | exact fun h => ((cut_l hn (by assumption)).mp h).elim (by assumption) (by assumption) | exact (cut_r hn (by assumption)).mpr (Or.inl (by assumption)) | exact (cut_r hn (by assumption)).mpr (Or.inr (by assumption)) | exact fun h => ((cut_r hn (by assumption)).mp h).elim (by assumption) (by assumption)) rfl rfl (Nat.zero_le _) (Nat.zero_le _)
      · refine J_iconst hX dX10_isCut_24 ?_
        refine J_goto hX 57 dX10_isCut_25 (by decide) ?_
        exact J_retT hX hQ dX10_isCut_57 (by first | exact (cut_l hn (by assumption)).mpr (Or.inl (by assumption)) | exact (cut_l hn (by assumption)).mpr (Or.inr (by assumption)) | exact fun h => ((cut_l hn (by assumption)).mp h).elim (by assumption) (by assumption) | exact (cut_r hn (by assumption)).mpr (Or.inl (by assumption)) | exact (cut_r hn (by assumption)).mpr (Or.inr (by assumption)) | exact fun h => ((cut_r hn (by assumption)).mp h).elim (by assumption) (by assumption)) rfl rfl (Nat.zero_le _) (Nat.zero_le _)
/-- the greatest shift of those that are cut, by the order of painting -/
def GM (S : MM) (l e : Int) (k : Nat) (q : Int) : Prop := (e ≤ q ∧ q ≤ 20) ∧ (∀ j : Nat, j < k → cut S l e (ord S j) → shf S (ord S j) ≤ q) ∧ (q = e ∨ ∃ j : Nat, j < k ∧ cut S l e (ord S j) ∧ q = shf S (ord S j))
theorem GM_t {S : MM} {l e q : Int} {k : Nat} (h : GM S l e k q) (hc : cut S l e (ord S k)) (hs : shf S (ord S k) ≤ 20) : GM S l e (k + 1) (if q > shf S (ord S k) then q else shf S (ord S k)) := by
  obtain ⟨h1, h2, h3⟩ := h
  refine ⟨by split <;> omega, fun j hj hcj => ?_, ?_⟩
  · by_cases e1 : j = k
    · subst e1; split <;> omega
    · have := h2 j (by omega) hcj; split <;> omega
  · split
    · exact h3.imp id (fun ⟨j, a, b⟩ => ⟨j, by omega, b⟩)
    · exact Or.inr ⟨k, by omega, hc, rfl⟩
theorem GM_f {S : MM} {l e q : Int} {k : Nat} (h : GM S l e k q) (hc : ¬ cut S l e (ord S k)) : GM S l e (k + 1) q := by
  obtain ⟨h1, h2, h3⟩ := h
  refine ⟨h1, fun j hj hcj => ?_, h3.imp id (fun ⟨j, a, b⟩ => ⟨j, by omega, b⟩)⟩
  by_cases e1 : j = k
  · subst e1; exact absurd hcj hc
  · exact h2 j (by omega) hcj
theorem gcut_max (S : MM) (l e : Int) : ∀ k : Nat, e ≤ gcut S l e k ∧ (∀ j : Nat, j < k → cut S l e j → shf S j ≤ gcut S l e k) ∧ (gcut S l e k = e ∨ ∃ j : Nat, j < k ∧ cut S l e j ∧ gcut S l e k = shf S j)
  | 0 => ⟨Int.le_refl _, fun j h => absurd h (by omega), Or.inl rfl⟩
  | k + 1 => by
    obtain ⟨h1, h2, h3⟩ := gcut_max S l e k
    by_cases h : gcut S l e k < shf S k ∧ cut S l e k
    · rw [gcut_t h]
      refine ⟨by omega, fun j hj hc => ?_, Or.inr ⟨k, by omega, h.2, rfl⟩⟩
      by_cases e1 : j = k
      · subst e1; omega
      · have := h2 j (by omega) hc; omega
    · rw [gcut_f h]
      refine ⟨h1, fun j hj hc => ?_, h3.imp id (fun ⟨j, a, b⟩ => ⟨j, by omega, b⟩)⟩
      by_cases e1 : j = k
      · subst e1
        have : ¬ gcut S l e j < shf S j := fun q => h ⟨q, hc⟩
        omega
      · exact h2 j (by omega) hc
theorem GM_fin {S : MM} {l e q : Int} (h : GM S l e (nb S) q) : q = gct S l e := by
  obtain ⟨h1, h2, h3⟩ := h
  obtain ⟨g1, g2, g3⟩ := gcut_max S l e (cnt S)
  have a1 : gcut S l e (cnt S) ≤ q := by
    rcases g3 with g3 | ⟨j, ja, jb, jc⟩
    · omega
    · obtain ⟨i, ia, ib⟩ := ordf_onto S (cnt S) j jb.1.1 (by omega)
      have ib' : ord S i = j := ib
      have := h2 i ia (by rw [ib']; exact jb)
      rw [ib'] at this
      omega
  have a2 : q ≤ gcut S l e (cnt S) := by
    rcases h3 with h3 | ⟨j, ja, jb, jc⟩
    · omega
    · have ob := ord_box (S := S) ja
      have := g2 (ord S j).toNat (by have := ob.1.1; omega) (by rw [show (((ord S j).toNat : Nat) : Int) = ord S j by have := ob.1.1; omega]; exact jb)
      rw [show (((ord S j).toNat : Nat) : Int) = ord S j by have := ob.1.1; omega] at this
      omega
  unfold gct; omega
-- X10_mask
set_option maxHeartbeats 4000000 in
set_option maxRecDepth 100000 in
theorem m_X10_mask {E : EE} {K : Nat → Nat} {M : MM} {r : Nat} {T : Int} {S : MM} {l : Int} (hM : ModelK K r) (hR : RS S (M (r + 1))) (hW : WFS T S) (hMd : Mdl M r S) (hl : l = 0 ∨ l = 1) : CnI E 5 yX10_mask cX10_mask 6 (Option.some FieldType.int) [.ref r, vI l] K M (wnd S l) := by
  obtain ⟨⟨rs0, rs1, rs2, rs3, rs4, rs5, rs6, rs7, rs8, rs9, rs10, rs13⟩, rst, rsn, rsc⟩ := id hR
  have hs9 := hW.2.1
  unfold WFSs at hs9
  have nbl := nb_le hW
  have e14 := hMd.2.2.1
  refine ⟨Cn_of RX10 (plainFor_of_name (by decide)) rfl (Nat.le_of_ble_eq_true rfl) (fun X hX hQ => ?_), by have := wnd_rng hW l; omega⟩
  refine J_iconst hX dX10_mask_0 ?_
  refine J_istore_n hX dX10_mask_1 (by decide) ?_
  refine J_iconst hX dX10_mask_2 ?_
  refine J_istore_n hX dX10_mask_3 (by decide) ?_
  have HL4 : ∀ k : Nat, k ≤ 22 → ∀ (e f : Int), ((0 ≤ e ∧ e ≤ 20) ∧ ((f = 1 ∧ wndF S l (21 - k) e = wnd S l ∧ (k : Int) ≤ e) ∨ (f = 0 ∧ e = wnd S l))) → J E X 4 [(0, .ref r), (1, vI l), (2, vI e), (3, vI f)] [] K M 0 0 := by
    refine up_ind (22) (fun k hk4 ih4 => ?_)
    intro e f  hi4
    refine J_iload_n hX dX10_mask_4 rfl ?_
    refine J_if_eq hX 87 dX10_mask_5 (by omega) (by decide) (fun c5 => ?_) (fun c5 => ?_)
    · refine J_iload_n hX dX10_mask_87 rfl ?_
      exact J_retI hX hQ dX10_mask_88 (by rcases hi4.2 with h | h; omega; exact h.2) rfl rfl (Nat.zero_le _) (Nat.zero_le _)
    · refine J_iload_n hX dX10_mask_8 rfl ?_
      refine J_istore hX dX10_mask_9 (by decide) ?_
      refine J_iconst hX dX10_mask_11 ?_
      refine J_istore hX dX10_mask_12 (by decide) ?_
      have HL14 : ∀ k2 : Nat, k2 ≤ (nb S) → ∀ (q : Int), (GM S l e k2 q) → J E X 14 [(0, .ref r), (1, vI l), (2, vI e), (3, vI f), (4, vI q), (5, vI (k2 : Int))] [] K M 0 0 := by
        refine up_ind ((nb S)) (fun k2 hk14 ih14 => ?_)
        intro q  hi14
        have hg0 := hi14.1
        refine J_iload hX dX10_mask_14 rfl ?_
        refine J_aload_n hX dX10_mask_16 rfl ?_
        refine J_geti hX fi_RX10_163 dX10_mask_17 (show K (r) = 9 from hM 0 (by decide)) (fun r17 => ?_)
        refine J_icmp_ge hX 69 dX10_mask_20 (by omega) (by omega) (by decide) (fun c20 => ?_) (fun c20 => ?_)
        · have k2n : nb S = k2 := by omega
          rw [← k2n] at hi14
          have hq := GM_fin hi14
          have hg1 := hi14.1
          refine J_iload hX dX10_mask_69 rfl ?_
          refine J_iload_n hX dX10_mask_71 rfl ?_
          refine J_icmp_le hX 79 dX10_mask_72 (by omega) (by omega) (by decide) (fun c72 => ?_) (fun c72 => ?_)
          · refine J_iconst hX dX10_mask_79 ?_
            refine J_istore_n hX dX10_mask_80 (by decide) ?_
            refine J_iload hX dX10_mask_81 rfl ?_
            refine J_istore_n hX dX10_mask_83 (by decide) ?_
            refine J_goto hX 4 dX10_mask_84 (by decide) ?_
            exact J_locI (ih4 (k + 1) (by omega) (by omega) _ _ ⟨by omega, by rcases hi4.2 with h | h; (first | exact Or.inl ⟨rfl, by rw [hq]; rw [← h.2.1, wndF_f (r := 21 - k) (r1 := 21 - (k + 1)) (by omega) (by omega)], by omega⟩ | exact Or.inr ⟨rfl, by rw [← h.2.1, wndF_t (r := 21 - k) (r1 := 21 - (k + 1)) (by omega) (by omega)]; omega⟩); (exfalso; omega)⟩) rfl
          · refine J_iconst hX dX10_mask_75 ?_
            refine J_goto hX 80 dX10_mask_76 (by decide) ?_
            refine J_istore_n hX dX10_mask_80 (by decide) ?_
            refine J_iload hX dX10_mask_81 rfl ?_
            refine J_istore_n hX dX10_mask_83 (by decide) ?_
            refine J_goto hX 4 dX10_mask_84 (by decide) ?_
            exact J_locI (ih4 (k + 1) (by omega) (by omega) _ _ ⟨by omega, by rcases hi4.2 with h | h; (first | exact Or.inl ⟨rfl, by rw [hq]; rw [← h.2.1, wndF_f (r := 21 - k) (r1 := 21 - (k + 1)) (by omega) (by omega)], by omega⟩ | exact Or.inr ⟨rfl, by rw [← h.2.1, wndF_t (r := 21 - k) (r1 := 21 - (k + 1)) (by omega) (by omega)]; omega⟩); (exfalso; omega)⟩) rfl
        · have ob := ord_box (S := S) (j := k2) (by omega)
          have eo := hMd.2.2.2 k2 (by omega)
          have es := hMd.2.1 (ord S k2) ob.1.1.1 ob.1.1.2.1
          have sr := shf_rng hW ob.1
          refine J_aload_n hX dX10_mask_23 rfl ?_
          refine J_aload_n hX dX10_mask_24 rfl ?_
          refine J_gr hX (r + 10) fr_RX10_37 dX10_mask_25 (show K (r) = 9 from hM 0 (by decide)) rfl ?_
          refine J_iload hX dX10_mask_28 rfl ?_
          refine J_iald hX dX10_mask_30 (show K (r + 10) = 1000 + 20 from hM 10 (by decide)) ⟨by omega, by omega⟩ (by decide) (fun r30 => ?_)
          rw [eo]
          refine J_iload_n hX dX10_mask_31 rfl ?_
          refine J_iload_n hX dX10_mask_32 rfl ?_
          refine J_callVB hX _ dX10_mask_33 cw_RX10_184 (m_X10_isCut hM hR hW ob.1 hMd.1 hMd.2.1 hl (by omega)) ⟨(show K (r) = 9 from hM 0 (by decide)), by decide, by decide, rfl⟩ rfl (Nat.le_of_ble_eq_true rfl) (by decide) ⟨Nat.zero_le _, Nat.zero_le _⟩ ?_
          refine J_ifb_eq hX 59 dX10_mask_36 (by decide) (fun c36 => ?_) (fun c36 => ?_)
          · refine J_iload hX dX10_mask_59 rfl ?_
            refine J_istore hX dX10_mask_61 (by decide) ?_
            refine J_iinc hX dX10_mask_63 rfl (by decide) ?_
            refine J_goto hX 14 dX10_mask_66 (by decide) ?_
            exact J_locI (ih14 (k2 + 1) (by omega) (by omega) _ (by first | exact GM_t hi14 c36 (by omega) | exact GM_f hi14 c36)) rfl
          · refine J_iload hX dX10_mask_39 rfl ?_
            refine J_aload_n hX dX10_mask_41 rfl ?_
            refine J_gr hX (r + 9) fr_RX10_34 dX10_mask_42 (show K (r) = 9 from hM 0 (by decide)) rfl ?_
            refine J_aload_n hX dX10_mask_45 rfl ?_
            refine J_gr hX (r + 10) fr_RX10_37 dX10_mask_46 (show K (r) = 9 from hM 0 (by decide)) rfl ?_
            refine J_iload hX dX10_mask_49 rfl ?_
            refine J_iald hX dX10_mask_51 (show K (r + 10) = 1000 + 20 from hM 10 (by decide)) ⟨by omega, by omega⟩ (by decide) (fun r51 => ?_)
            rw [eo]
            refine J_iald hX dX10_mask_52 (show K (r + 9) = 1000 + 20 from hM 9 (by decide)) ⟨by omega, by omega⟩ (by decide) (fun r52 => ?_)
            rw [es]
            refine J_callSI hX _ dX10_mask_53 cw_RX10_187 (m_X10_greater (by omega) (by omega)) rfl (Nat.le_of_ble_eq_true rfl) (by decide) ⟨Nat.zero_le _, Nat.zero_le _⟩ (fun r53 => ?_)
            refine J_goto hX 61 dX10_mask_56 (by decide) ?_
            refine J_istore hX dX10_mask_61 (by decide) ?_
            refine J_iinc hX dX10_mask_63 rfl (by decide) ?_
            refine J_goto hX 14 dX10_mask_66 (by decide) ?_
            exact J_locI (ih14 (k2 + 1) (by omega) (by omega) _ (by first | exact GM_t hi14 c36 (by omega) | exact GM_f hi14 c36)) rfl
      exact J_locI (HL14 0 (Nat.zero_le _) _ ⟨by omega, fun j hj => absurd hj (by omega), Or.inl rfl⟩) rfl
  exact J_locI (HL4 0 (Nat.zero_le _) _ _ ⟨by omega, Or.inl ⟨rfl, rfl, by omega⟩⟩) rfl
