/-! the reference: values -/
-- X10_boxOf
set_option maxHeartbeats 4000000 in
set_option maxRecDepth 100000 in
theorem m_X10_boxOf {E : EE} {K : Nat → Nat} {M : MM} {r : Nat} {T : Int} {S : MM} {n w : Int} (hM : ModelK K r) (hR : RS S (M (r + 1))) (hW : WFS T S) (hn : bx S n) (hw : 9 ≤ w ∧ w ≤ 15) (hMd : Mdl M r S) : CnI E 3 yX10_boxOf cX10_boxOf 3 (Option.some FieldType.int) [.ref r, vI n, vI w] K M (nvl S n w) := by
  have hb := hn
  have hn := hb.1
  obtain ⟨⟨rs0, rs1, rs2, rs3, rs4, rs5, rs6, rs7, rs8, rs9, rs10, rs13⟩, rst, rsn, rsc⟩ := id hR
  have hs9 := hW.2.1
  unfold WFSs at hs9
  have q := rsn n hn.1 hn.2.1
  have hwn := hW.2.2.1 n hn.1 hn.2.1
  obtain ⟨q0, q1, q2, q3, q4, q5, q6⟩ := q
  have e6 := (hMd.1 n hn.1 hn.2.1).1
  have e7 := (hMd.1 n hn.1 hn.2.1).2.1
  have e8 := (hMd.1 n hn.1 hn.2.1).2.2
  have e9 := hMd.2.1 n hn.1 hn.2.1
  refine ⟨Cn_of RX10 (plainFor_of_name (by decide)) rfl (Nat.le_of_ble_eq_true rfl) (fun X hX hQ => ?_), nvl_rng hW n w (by omega)⟩
  refine J_iload_n hX dX10_boxOf_0 rfl ?_
  rcases (show (w = 9) ∨ (w = 10) ∨ (w = 11) ∨ (w = 12) ∨ (w = 13) ∨ (w < 9 ∨ 13 < w) by omega) with e0 | e0 | e0 | e0 | e0 | e0
  · skip
    refine J_tin hX (35) 36 dX10_boxOf_1 (by omega) (by omega) (by rw [e0]; rfl) (by decide) ?_
    refine J_aload_n hX dX10_boxOf_36 rfl ?_
    refine J_iload_n hX dX10_boxOf_37 rfl ?_
    refine J_iload_n hX dX10_boxOf_38 rfl ?_
    refine J_iconst hX dX10_boxOf_39 ?_
    refine J_isub hX dX10_boxOf_40 ?_
    refine J_callVI hX _ dX10_boxOf_41 cw_RX10_62 (m_X10_of hM (by omega) (by omega) (by rw [e0]; first | exact (show i32 (M (r + 1) (14 + 8 * n + 4)) by omega) | exact (show i32 (M (r + 1) (14 + 8 * n + 5)) by omega) | exact (show i32 (M (r + 1) (14 + 8 * n + 6)) by omega))) ⟨(show K (r) = 9 from hM 0 (by decide)), by decide, by decide, rfl⟩ rfl (Nat.le_of_ble_eq_true rfl) (by decide) ⟨Nat.zero_le _, Nat.zero_le _⟩ (fun r41 => ?_)
    exact J_retI hX hQ dX10_boxOf_44 (by have hnb : ¬ (¬ hs S n ∨ (9 ≤ w ∧ ¬ bx S n)) := (fun h => h.elim (fun z => z hn) (fun z => z.2 hb)); unfold nvl; rw [if_neg hnb]; first | (rw [e0]; first | exact q4 | exact q5 | exact q6 | rfl | exact e9) | ((have e1 : w = 14 := by omega); subst e1; rfl) | ((have e1 : w = 15 := by omega); subst e1; rfl)) rfl rfl (Nat.zero_le _) (Nat.zero_le _)
  · skip
    refine J_tin hX (35) 36 dX10_boxOf_1 (by omega) (by omega) (by rw [e0]; rfl) (by decide) ?_
    refine J_aload_n hX dX10_boxOf_36 rfl ?_
    refine J_iload_n hX dX10_boxOf_37 rfl ?_
    refine J_iload_n hX dX10_boxOf_38 rfl ?_
    refine J_iconst hX dX10_boxOf_39 ?_
    refine J_isub hX dX10_boxOf_40 ?_
    refine J_callVI hX _ dX10_boxOf_41 cw_RX10_62 (m_X10_of hM (by omega) (by omega) (by rw [e0]; first | exact (show i32 (M (r + 1) (14 + 8 * n + 4)) by omega) | exact (show i32 (M (r + 1) (14 + 8 * n + 5)) by omega) | exact (show i32 (M (r + 1) (14 + 8 * n + 6)) by omega))) ⟨(show K (r) = 9 from hM 0 (by decide)), by decide, by decide, rfl⟩ rfl (Nat.le_of_ble_eq_true rfl) (by decide) ⟨Nat.zero_le _, Nat.zero_le _⟩ (fun r41 => ?_)
    exact J_retI hX hQ dX10_boxOf_44 (by have hnb : ¬ (¬ hs S n ∨ (9 ≤ w ∧ ¬ bx S n)) := (fun h => h.elim (fun z => z hn) (fun z => z.2 hb)); unfold nvl; rw [if_neg hnb]; first | (rw [e0]; first | exact q4 | exact q5 | exact q6 | rfl | exact e9) | ((have e1 : w = 14 := by omega); subst e1; rfl) | ((have e1 : w = 15 := by omega); subst e1; rfl)) rfl rfl (Nat.zero_le _) (Nat.zero_le _)
  · skip
    refine J_tin hX (35) 36 dX10_boxOf_1 (by omega) (by omega) (by rw [e0]; rfl) (by decide) ?_
    refine J_aload_n hX dX10_boxOf_36 rfl ?_
    refine J_iload_n hX dX10_boxOf_37 rfl ?_
    refine J_iload_n hX dX10_boxOf_38 rfl ?_
    refine J_iconst hX dX10_boxOf_39 ?_
    refine J_isub hX dX10_boxOf_40 ?_
    refine J_callVI hX _ dX10_boxOf_41 cw_RX10_62 (m_X10_of hM (by omega) (by omega) (by rw [e0]; first | exact (show i32 (M (r + 1) (14 + 8 * n + 4)) by omega) | exact (show i32 (M (r + 1) (14 + 8 * n + 5)) by omega) | exact (show i32 (M (r + 1) (14 + 8 * n + 6)) by omega))) ⟨(show K (r) = 9 from hM 0 (by decide)), by decide, by decide, rfl⟩ rfl (Nat.le_of_ble_eq_true rfl) (by decide) ⟨Nat.zero_le _, Nat.zero_le _⟩ (fun r41 => ?_)
    exact J_retI hX hQ dX10_boxOf_44 (by have hnb : ¬ (¬ hs S n ∨ (9 ≤ w ∧ ¬ bx S n)) := (fun h => h.elim (fun z => z hn) (fun z => z.2 hb)); unfold nvl; rw [if_neg hnb]; first | (rw [e0]; first | exact q4 | exact q5 | exact q6 | rfl | exact e9) | ((have e1 : w = 14 := by omega); subst e1; rfl) | ((have e1 : w = 15 := by omega); subst e1; rfl)) rfl rfl (Nat.zero_le _) (Nat.zero_le _)
  · skip
    refine J_tin hX (44) 45 dX10_boxOf_1 (by omega) (by omega) (by rw [e0]; rfl) (by decide) ?_
    refine J_aload_n hX dX10_boxOf_45 rfl ?_
    refine J_iload_n hX dX10_boxOf_46 rfl ?_
    refine J_callVI hX _ dX10_boxOf_47 cw_RX10_154 (m_X10_raw hM hR hW hn e8) ⟨(show K (r) = 9 from hM 0 (by decide)), by decide, by decide, rfl⟩ rfl (Nat.le_of_ble_eq_true rfl) (by decide) ⟨Nat.zero_le _, Nat.zero_le _⟩ (fun r47 => ?_)
    exact J_retI hX hQ dX10_boxOf_50 (by have hnb : ¬ (¬ hs S n ∨ (9 ≤ w ∧ ¬ bx S n)) := (fun h => h.elim (fun z => z hn) (fun z => z.2 hb)); unfold nvl; rw [if_neg hnb]; first | (rw [e0]; first | exact q4 | exact q5 | exact q6 | rfl | exact e9) | ((have e1 : w = 14 := by omega); subst e1; rfl) | ((have e1 : w = 15 := by omega); subst e1; rfl)) rfl rfl (Nat.zero_le _) (Nat.zero_le _)
  · skip
    refine J_tin hX (50) 51 dX10_boxOf_1 (by omega) (by omega) (by rw [e0]; rfl) (by decide) ?_
    refine J_aload_n hX dX10_boxOf_51 rfl ?_
    refine J_gr hX (r + 9) fr_RX10_34 dX10_boxOf_52 (show K (r) = 9 from hM 0 (by decide)) rfl ?_
    refine J_iload_n hX dX10_boxOf_55 rfl ?_
    refine J_iald hX dX10_boxOf_56 (show K (r + 9) = 1000 + 20 from hM 9 (by decide)) ⟨by omega, by omega⟩ (by decide) (fun r56 => ?_)
    exact J_retI hX hQ dX10_boxOf_57 (by have hnb : ¬ (¬ hs S n ∨ (9 ≤ w ∧ ¬ bx S n)) := (fun h => h.elim (fun z => z hn) (fun z => z.2 hb)); unfold nvl; rw [if_neg hnb]; first | (rw [e0]; first | exact q4 | exact q5 | exact q6 | rfl | exact e9) | ((have e1 : w = 14 := by omega); subst e1; rfl) | ((have e1 : w = 15 := by omega); subst e1; rfl)) rfl rfl (Nat.zero_le _) (Nat.zero_le _)
  · skip
    refine J_tout hX 58 dX10_boxOf_1 (by omega) (by omega) (by decide) ?_
    refine J_aload_n hX dX10_boxOf_58 rfl ?_
    refine J_iload_n hX dX10_boxOf_59 rfl ?_
    refine J_iload_n hX dX10_boxOf_60 rfl ?_
    refine J_bipush hX dX10_boxOf_61 rfl ?_
    refine J_icmp_ne hX 70 dX10_boxOf_63 (by omega) (by decide) (by decide) (fun c63 => ?_) (fun c63 => ?_)
    · refine J_iconst hX dX10_boxOf_70 ?_
      refine J_callVI hX _ dX10_boxOf_71 cw_RX10_170 (m_X10_columnOf hM hR hW hb hMd.1 hMd.2.1 (by decide)) ⟨(show K (r) = 9 from hM 0 (by decide)), by decide, by decide, rfl⟩ rfl (Nat.le_of_ble_eq_true rfl) (by decide) ⟨Nat.zero_le _, Nat.zero_le _⟩ (fun r71 => ?_)
      exact J_retI hX hQ dX10_boxOf_74 (by have hnb : ¬ (¬ hs S n ∨ (9 ≤ w ∧ ¬ bx S n)) := (fun h => h.elim (fun z => z hn) (fun z => z.2 hb)); unfold nvl; rw [if_neg hnb]; first | (rw [e0]; first | exact q4 | exact q5 | exact q6 | rfl | exact e9) | ((have e1 : w = 14 := by omega); subst e1; rfl) | ((have e1 : w = 15 := by omega); subst e1; rfl)) rfl rfl (Nat.zero_le _) (Nat.zero_le _)
    · refine J_iconst hX dX10_boxOf_66 ?_
      refine J_goto hX 71 dX10_boxOf_67 (by decide) ?_
      refine J_callVI hX _ dX10_boxOf_71 cw_RX10_170 (m_X10_columnOf hM hR hW hb hMd.1 hMd.2.1 (by decide)) ⟨(show K (r) = 9 from hM 0 (by decide)), by decide, by decide, rfl⟩ rfl (Nat.le_of_ble_eq_true rfl) (by decide) ⟨Nat.zero_le _, Nat.zero_le _⟩ (fun r71 => ?_)
      exact J_retI hX hQ dX10_boxOf_74 (by have hnb : ¬ (¬ hs S n ∨ (9 ≤ w ∧ ¬ bx S n)) := (fun h => h.elim (fun z => z hn) (fun z => z.2 hb)); unfold nvl; rw [if_neg hnb]; first | (rw [e0]; first | exact q4 | exact q5 | exact q6 | rfl | exact e9) | ((have e1 : w = 14 := by omega); subst e1; rfl) | ((have e1 : w = 15 := by omega); subst e1; rfl)) rfl rfl (Nat.zero_le _) (Nat.zero_le _)
-- X10_nodeOf
set_option maxHeartbeats 4000000 in
set_option maxRecDepth 100000 in
theorem m_X10_nodeOf {E : EE} {K : Nat → Nat} {M : MM} {r : Nat} {T : Int} {S : MM} {n w : Int} (hM : ModelK K r) (hR : RS S (M (r + 1))) (hW : WFS T S) (hn : hs S n) (hw : 0 ≤ w ∧ w ≤ 15) (hMd : Mdl M r S) : CnI E 4 yX10_nodeOf cX10_nodeOf 3 (Option.some FieldType.int) [.ref r, vI n, vI w] K M (nvl S n w) := by
  obtain ⟨⟨rs0, rs1, rs2, rs3, rs4, rs5, rs6, rs7, rs8, rs9, rs10, rs13⟩, rst, rsn, rsc⟩ := id hR
  have hs9 := hW.2.1
  unfold WFSs at hs9
  have q := rsn n hn.1 hn.2.1
  have hwn := hW.2.2.1 n hn.1 hn.2.1
  obtain ⟨q0, q1, q2, q3, q4, q5, q6⟩ := q
  have e6 := (hMd.1 n hn.1 hn.2.1).1
  have e7 := (hMd.1 n hn.1 hn.2.1).2.1
  have e8 := (hMd.1 n hn.1 hn.2.1).2.2
  have e9 := hMd.2.1 n hn.1 hn.2.1
  have pr4 := pos_rng hW (k := 4) (by decide) n hn.2.1
  have pr5 := pos_rng hW (k := 5) (by decide) n hn.2.1
  have pr6 := pos_rng hW (k := 6) (by decide) n hn.2.1
  refine ⟨Cn_of RX10 (plainFor_of_name (by decide)) rfl (Nat.le_of_ble_eq_true rfl) (fun X hX hQ => ?_), nvl_rng hW n w hw⟩
  refine J_iload_n hX dX10_nodeOf_0 rfl ?_
  rcases (show (w = 0) ∨ (w = 1) ∨ (w = 2) ∨ (w = 3) ∨ (w = 4) ∨ (w = 5) ∨ (w = 6) ∨ (w = 7) ∨ (w = 8) ∨ (w < 0 ∨ 8 < w) by omega) with e0 | e0 | e0 | e0 | e0 | e0 | e0 | e0 | e0 | e0
  · skip
    refine J_tin hX (51) 52 dX10_nodeOf_1 (by omega) (by omega) (by rw [e0]; rfl) (by decide) ?_
    refine J_aload_n hX dX10_nodeOf_52 rfl ?_
    refine J_iload_n hX dX10_nodeOf_53 rfl ?_
    refine J_iload_n hX dX10_nodeOf_54 rfl ?_
    refine J_callVI hX _ dX10_nodeOf_55 cw_RX10_62 (m_X10_of hM (by omega) (by omega) (by rw [e0]; first | (rw [Int.add_zero]; omega) | exact (show i32 (M (r + 1) (14 + 8 * n + 1)) by omega) | exact (show i32 (M (r + 1) (14 + 8 * n + 2)) by omega) | exact (show i32 (M (r + 1) (14 + 8 * n + 3)) by omega))) ⟨(show K (r) = 9 from hM 0 (by decide)), by decide, by decide, rfl⟩ rfl (Nat.le_of_ble_eq_true rfl) (by decide) ⟨Nat.zero_le _, Nat.zero_le _⟩ (fun r55 => ?_)
    exact J_retI hX hQ dX10_nodeOf_58 (by first | rfl | (unfold nvl; rw [if_pos (Or.inr ⟨by omega, by assumption⟩)]; done) | (unfold nvl; rw [if_neg (fun h => h.elim (fun z => z hn) (fun z => absurd z.1 (by omega)))]; rw [e0]; first | (rw [Int.add_zero]; exact q0) | exact q1 | exact q2 | exact q3 | exact e6 | exact e7 | exact e8 | rfl)) rfl rfl (Nat.zero_le _) (Nat.zero_le _)
  · skip
    refine J_tin hX (51) 52 dX10_nodeOf_1 (by omega) (by omega) (by rw [e0]; rfl) (by decide) ?_
    refine J_aload_n hX dX10_nodeOf_52 rfl ?_
    refine J_iload_n hX dX10_nodeOf_53 rfl ?_
    refine J_iload_n hX dX10_nodeOf_54 rfl ?_
    refine J_callVI hX _ dX10_nodeOf_55 cw_RX10_62 (m_X10_of hM (by omega) (by omega) (by rw [e0]; first | (rw [Int.add_zero]; omega) | exact (show i32 (M (r + 1) (14 + 8 * n + 1)) by omega) | exact (show i32 (M (r + 1) (14 + 8 * n + 2)) by omega) | exact (show i32 (M (r + 1) (14 + 8 * n + 3)) by omega))) ⟨(show K (r) = 9 from hM 0 (by decide)), by decide, by decide, rfl⟩ rfl (Nat.le_of_ble_eq_true rfl) (by decide) ⟨Nat.zero_le _, Nat.zero_le _⟩ (fun r55 => ?_)
    exact J_retI hX hQ dX10_nodeOf_58 (by first | rfl | (unfold nvl; rw [if_pos (Or.inr ⟨by omega, by assumption⟩)]; done) | (unfold nvl; rw [if_neg (fun h => h.elim (fun z => z hn) (fun z => absurd z.1 (by omega)))]; rw [e0]; first | (rw [Int.add_zero]; exact q0) | exact q1 | exact q2 | exact q3 | exact e6 | exact e7 | exact e8 | rfl)) rfl rfl (Nat.zero_le _) (Nat.zero_le _)
  · skip
    refine J_tin hX (51) 52 dX10_nodeOf_1 (by omega) (by omega) (by rw [e0]; rfl) (by decide) ?_
    refine J_aload_n hX dX10_nodeOf_52 rfl ?_
    refine J_iload_n hX dX10_nodeOf_53 rfl ?_
    refine J_iload_n hX dX10_nodeOf_54 rfl ?_
    refine J_callVI hX _ dX10_nodeOf_55 cw_RX10_62 (m_X10_of hM (by omega) (by omega) (by rw [e0]; first | (rw [Int.add_zero]; omega) | exact (show i32 (M (r + 1) (14 + 8 * n + 1)) by omega) | exact (show i32 (M (r + 1) (14 + 8 * n + 2)) by omega) | exact (show i32 (M (r + 1) (14 + 8 * n + 3)) by omega))) ⟨(show K (r) = 9 from hM 0 (by decide)), by decide, by decide, rfl⟩ rfl (Nat.le_of_ble_eq_true rfl) (by decide) ⟨Nat.zero_le _, Nat.zero_le _⟩ (fun r55 => ?_)
    exact J_retI hX hQ dX10_nodeOf_58 (by first | rfl | (unfold nvl; rw [if_pos (Or.inr ⟨by omega, by assumption⟩)]; done) | (unfold nvl; rw [if_neg (fun h => h.elim (fun z => z hn) (fun z => absurd z.1 (by omega)))]; rw [e0]; first | (rw [Int.add_zero]; exact q0) | exact q1 | exact q2 | exact q3 | exact e6 | exact e7 | exact e8 | rfl)) rfl rfl (Nat.zero_le _) (Nat.zero_le _)
  · skip
    refine J_tin hX (51) 52 dX10_nodeOf_1 (by omega) (by omega) (by rw [e0]; rfl) (by decide) ?_
    refine J_aload_n hX dX10_nodeOf_52 rfl ?_
    refine J_iload_n hX dX10_nodeOf_53 rfl ?_
    refine J_iload_n hX dX10_nodeOf_54 rfl ?_
    refine J_callVI hX _ dX10_nodeOf_55 cw_RX10_62 (m_X10_of hM (by omega) (by omega) (by rw [e0]; first | (rw [Int.add_zero]; omega) | exact (show i32 (M (r + 1) (14 + 8 * n + 1)) by omega) | exact (show i32 (M (r + 1) (14 + 8 * n + 2)) by omega) | exact (show i32 (M (r + 1) (14 + 8 * n + 3)) by omega))) ⟨(show K (r) = 9 from hM 0 (by decide)), by decide, by decide, rfl⟩ rfl (Nat.le_of_ble_eq_true rfl) (by decide) ⟨Nat.zero_le _, Nat.zero_le _⟩ (fun r55 => ?_)
    exact J_retI hX hQ dX10_nodeOf_58 (by first | rfl | (unfold nvl; rw [if_pos (Or.inr ⟨by omega, by assumption⟩)]; done) | (unfold nvl; rw [if_neg (fun h => h.elim (fun z => z hn) (fun z => absurd z.1 (by omega)))]; rw [e0]; first | (rw [Int.add_zero]; exact q0) | exact q1 | exact q2 | exact q3 | exact e6 | exact e7 | exact e8 | rfl)) rfl rfl (Nat.zero_le _) (Nat.zero_le _)
  · skip
    refine J_tin hX (58) 59 dX10_nodeOf_1 (by omega) (by omega) (by rw [e0]; rfl) (by decide) ?_
    refine J_aload_n hX dX10_nodeOf_59 rfl ?_
    refine J_gr hX (r + 6) fr_RX10_25 dX10_nodeOf_60 (show K (r) = 9 from hM 0 (by decide)) rfl ?_
    refine J_iload_n hX dX10_nodeOf_63 rfl ?_
    refine J_iald hX dX10_nodeOf_64 (show K (r + 6) = 1000 + 20 from hM 6 (by decide)) ⟨by omega, by omega⟩ (by decide) (fun r64 => ?_)
    exact J_retI hX hQ dX10_nodeOf_65 (by first | rfl | (unfold nvl; rw [if_pos (Or.inr ⟨by omega, by assumption⟩)]; done) | (unfold nvl; rw [if_neg (fun h => h.elim (fun z => z hn) (fun z => absurd z.1 (by omega)))]; rw [e0]; first | (rw [Int.add_zero]; exact q0) | exact q1 | exact q2 | exact q3 | exact e6 | exact e7 | exact e8 | rfl)) rfl rfl (Nat.zero_le _) (Nat.zero_le _)
  · skip
    refine J_tin hX (65) 66 dX10_nodeOf_1 (by omega) (by omega) (by rw [e0]; rfl) (by decide) ?_
    refine J_aload_n hX dX10_nodeOf_66 rfl ?_
    refine J_gr hX (r + 7) fr_RX10_28 dX10_nodeOf_67 (show K (r) = 9 from hM 0 (by decide)) rfl ?_
    refine J_iload_n hX dX10_nodeOf_70 rfl ?_
    refine J_iald hX dX10_nodeOf_71 (show K (r + 7) = 1000 + 20 from hM 7 (by decide)) ⟨by omega, by omega⟩ (by decide) (fun r71 => ?_)
    exact J_retI hX hQ dX10_nodeOf_72 (by first | rfl | (unfold nvl; rw [if_pos (Or.inr ⟨by omega, by assumption⟩)]; done) | (unfold nvl; rw [if_neg (fun h => h.elim (fun z => z hn) (fun z => absurd z.1 (by omega)))]; rw [e0]; first | (rw [Int.add_zero]; exact q0) | exact q1 | exact q2 | exact q3 | exact e6 | exact e7 | exact e8 | rfl)) rfl rfl (Nat.zero_le _) (Nat.zero_le _)
  · skip
    refine J_tin hX (72) 73 dX10_nodeOf_1 (by omega) (by omega) (by rw [e0]; rfl) (by decide) ?_
    refine J_aload_n hX dX10_nodeOf_73 rfl ?_
    refine J_gr hX (r + 8) fr_RX10_31 dX10_nodeOf_74 (show K (r) = 9 from hM 0 (by decide)) rfl ?_
    refine J_iload_n hX dX10_nodeOf_77 rfl ?_
    refine J_iald hX dX10_nodeOf_78 (show K (r + 8) = 1000 + 20 from hM 8 (by decide)) ⟨by omega, by omega⟩ (by decide) (fun r78 => ?_)
    exact J_retI hX hQ dX10_nodeOf_79 (by first | rfl | (unfold nvl; rw [if_pos (Or.inr ⟨by omega, by assumption⟩)]; done) | (unfold nvl; rw [if_neg (fun h => h.elim (fun z => z hn) (fun z => absurd z.1 (by omega)))]; rw [e0]; first | (rw [Int.add_zero]; exact q0) | exact q1 | exact q2 | exact q3 | exact e6 | exact e7 | exact e8 | rfl)) rfl rfl (Nat.zero_le _) (Nat.zero_le _)
  · skip
    refine J_tin hX (79) 80 dX10_nodeOf_1 (by omega) (by omega) (by rw [e0]; rfl) (by decide) ?_
    refine J_aload_n hX dX10_nodeOf_80 rfl ?_
    refine J_iload_n hX dX10_nodeOf_81 rfl ?_
    refine J_callVI hX _ dX10_nodeOf_82 cw_RX10_85 (m_X10_groupsAround hM hR hW hn) ⟨(show K (r) = 9 from hM 0 (by decide)), by decide, by decide, rfl⟩ rfl (Nat.le_of_ble_eq_true rfl) (by decide) ⟨Nat.zero_le _, Nat.zero_le _⟩ (fun r82 => ?_)
    exact J_retI hX hQ dX10_nodeOf_85 (by first | rfl | (unfold nvl; rw [if_pos (Or.inr ⟨by omega, by assumption⟩)]; done) | (unfold nvl; rw [if_neg (fun h => h.elim (fun z => z hn) (fun z => absurd z.1 (by omega)))]; rw [e0]; first | (rw [Int.add_zero]; exact q0) | exact q1 | exact q2 | exact q3 | exact e6 | exact e7 | exact e8 | rfl)) rfl rfl (Nat.zero_le _) (Nat.zero_le _)
  · skip
    refine J_tin hX (85) 86 dX10_nodeOf_1 (by omega) (by omega) (by rw [e0]; rfl) (by decide) ?_
    refine J_aload_n hX dX10_nodeOf_86 rfl ?_
    refine J_iload_n hX dX10_nodeOf_87 rfl ?_
    refine J_callVI hX _ dX10_nodeOf_88 cw_RX10_229 (m_X10_inside hM hR hW (by omega)) ⟨(show K (r) = 9 from hM 0 (by decide)), by decide, by decide, rfl⟩ rfl (Nat.le_of_ble_eq_true rfl) (by decide) ⟨Nat.zero_le _, Nat.zero_le _⟩ (fun r88 => ?_)
    exact J_retI hX hQ dX10_nodeOf_91 (by first | rfl | (unfold nvl; rw [if_pos (Or.inr ⟨by omega, by assumption⟩)]; done) | (unfold nvl; rw [if_neg (fun h => h.elim (fun z => z hn) (fun z => absurd z.1 (by omega)))]; rw [e0]; first | (rw [Int.add_zero]; exact q0) | exact q1 | exact q2 | exact q3 | exact e6 | exact e7 | exact e8 | rfl)) rfl rfl (Nat.zero_le _) (Nat.zero_le _)
  · skip
    refine J_tout hX 92 dX10_nodeOf_1 (by omega) (by omega) (by decide) ?_
    refine J_aload_n hX dX10_nodeOf_92 rfl ?_
    refine J_iload_n hX dX10_nodeOf_93 rfl ?_
    refine J_callVB hX _ dX10_nodeOf_94 cw_RX10_79 (m_X10_isBox hM hR hW hn) ⟨(show K (r) = 9 from hM 0 (by decide)), by decide, by decide, rfl⟩ rfl (Nat.le_of_ble_eq_true rfl) (by decide) ⟨Nat.zero_le _, Nat.zero_le _⟩ ?_
    refine J_ifb_eq hX 109 dX10_nodeOf_97 (by decide) (fun c97 => ?_) (fun c97 => ?_)
    · refine J_sipush hX dX10_nodeOf_109 rfl ?_
      exact J_retI hX hQ dX10_nodeOf_112 (by first | rfl | (unfold nvl; rw [if_pos (Or.inr ⟨by omega, by assumption⟩)]; done) | (unfold nvl; rw [if_neg (fun h => h.elim (fun z => z hn) (fun z => absurd z.1 (by omega)))]; rw [e0]; first | (rw [Int.add_zero]; exact q0) | exact q1 | exact q2 | exact q3 | exact e6 | exact e7 | exact e8 | rfl)) rfl rfl (Nat.zero_le _) (Nat.zero_le _)
    · have hb : bx S n := by assumption
      refine J_aload_n hX dX10_nodeOf_100 rfl ?_
      refine J_iload_n hX dX10_nodeOf_101 rfl ?_
      refine J_iload_n hX dX10_nodeOf_102 rfl ?_
      refine J_callVI hX _ dX10_nodeOf_103 cw_RX10_232 (m_X10_boxOf hM hR hW hb (by omega) hMd) ⟨(show K (r) = 9 from hM 0 (by decide)), by decide, by decide, rfl⟩ rfl (Nat.le_of_ble_eq_true rfl) (by decide) ⟨Nat.zero_le _, Nat.zero_le _⟩ (fun r103 => ?_)
      refine J_goto hX 112 dX10_nodeOf_106 (by decide) ?_
      exact J_retI hX hQ dX10_nodeOf_112 (by first | rfl | (unfold nvl; rw [if_pos (Or.inr ⟨by omega, by assumption⟩)]; done) | (unfold nvl; rw [if_neg (fun h => h.elim (fun z => z hn) (fun z => absurd z.1 (by omega)))]; rw [e0]; first | (rw [Int.add_zero]; exact q0) | exact q1 | exact q2 | exact q3 | exact e6 | exact e7 | exact e8 | rfl)) rfl rfl (Nat.zero_le _) (Nat.zero_le _)
theorem Sur_t {T : Int} {M : MM} {r : Nat} {S : MM} (h : Sur M r S) (hW : WFS T S) : (M r 17 = 1 ∧ M r 18 = (ttl S).1 ∧ M r 19 = (ttl S).2 ∧ 0 ≤ (ttl S).1 ∧ (∀ l, tco S l = co l (S 0 5) (M r 19)) ∧ (0 ≤ M r 19 ∧ M r 19 ≤ 20) ∧ S 0 7 ≠ 0) ∨ (M r 17 = 0 ∧ (ttl S).1 = -1000 ∧ (ttl S).2 = -1000 ∧ ∀ l, tco S l = -1000) := by
  have tr := ttl_rng hW
  rcases h.2.2.2 with ⟨a, b, c, d⟩ | ⟨a, b⟩
  · left
    refine ⟨a, b, c, d, fun l => by unfold tco; rw [if_neg (by omega), c], by omega, fun e => ?_⟩
    have z : (ttl S).1 = -1000 := by unfold ttl; rw [if_pos e]
    omega
  · right
    exact ⟨a, by omega, by omega, fun l => by unfold tco; rw [if_pos b]⟩
-- X10_titleOf
set_option maxHeartbeats 4000000 in
set_option maxRecDepth 100000 in
theorem m_X10_titleOf {E : EE} {K : Nat → Nat} {M : MM} {r : Nat} {T : Int} {S : MM} {w : Int} (hM : ModelK K r) (hR : RS S (M (r + 1))) (hW : WFS T S) (hw : 0 ≤ w ∧ w ≤ 6) (hSv : Sur M r S) : CnI E 2 yX10_titleOf cX10_titleOf 2 (Option.some FieldType.int) [.ref r, vI w] K M (tvl S w) := by
  obtain ⟨⟨rs0, rs1, rs2, rs3, rs4, rs5, rs6, rs7, rs8, rs9, rs10, rs13⟩, rst, rsn, rsc⟩ := id hR
  have hs9 := hW.2.1
  unfold WFSs at hs9
  refine ⟨Cn_of RX10 (plainFor_of_name (by decide)) rfl (Nat.le_of_ble_eq_true rfl) (fun X hX hQ => ?_), tvl_rng hW w⟩
  refine J_aload_n hX dX10_titleOf_0 rfl ?_
  refine J_gr hX (r + 1) fr_RX10_7 dX10_titleOf_1 (show K (r) = 9 from hM 0 (by decide)) rfl ?_
  refine J_bipush hX dX10_titleOf_4 rfl ?_
  refine J_iald hX dX10_titleOf_6 (show K (r + 1) = 1000 + 198 from hM 1 (by decide)) ⟨by omega, by omega⟩ (by decide) (fun r6 => ?_)
  refine J_if_eq hX 22 dX10_titleOf_7 (by omega) (by decide) (fun c7 => ?_) (fun c7 => ?_)
  · refine J_sipush hX dX10_titleOf_22 rfl ?_
    exact J_retI hX hQ dX10_titleOf_25 (by unfold tvl; first | (rw [if_pos (by omega)]; done) | (rw [if_neg (by omega)]; have h12 := rst.resolve_left (by omega); rcases (show w = 0 ∨ w = 1 ∨ w = 2 ∨ w = 3 ∨ w = 4 ∨ w = 5 ∨ w = 6 by omega) with rfl | rfl | rfl | rfl | rfl | rfl | rfl <;> first | (exfalso; omega) | exact h12.1 | exact h12.2 | exact rs13 | (rcases Sur_t hSv hW with ⟨a1, a2, a3, a4, a5, a6⟩ | ⟨a1, a2, a3, a4⟩ <;> first | (exfalso; omega) | exact a2 | exact a3 | exact a2.symm | exact a3.symm | exact (a4 1).symm | exact (a4 0).symm | (rw [h12.1]; exact (a5 1).symm) | (rw [h12.1]; exact (a5 0).symm)))) rfl rfl (Nat.zero_le _) (Nat.zero_le _)
  · refine J_iload_n hX dX10_titleOf_10 rfl ?_
    refine J_iconst hX dX10_titleOf_11 ?_
    refine J_icmp_le hX 26 dX10_titleOf_12 (by omega) (by decide) (by decide) (fun c12 => ?_) (fun c12 => ?_)
    · refine J_iload_n hX dX10_titleOf_26 rfl ?_
      refine J_iconst hX dX10_titleOf_27 ?_
      refine J_icmp_ge hX 43 dX10_titleOf_28 (by omega) (by decide) (by decide) (fun c28 => ?_) (fun c28 => ?_)
      · refine J_iload_n hX dX10_titleOf_43 rfl ?_
        refine J_iconst hX dX10_titleOf_44 ?_
        refine J_icmp_ne hX 55 dX10_titleOf_45 (by omega) (by decide) (by decide) (fun c45 => ?_) (fun c45 => ?_)
        · refine J_iload_n hX dX10_titleOf_55 rfl ?_
          refine J_iconst hX dX10_titleOf_56 ?_
          refine J_icmp_ne hX 67 dX10_titleOf_57 (by omega) (by decide) (by decide) (fun c57 => ?_) (fun c57 => ?_)
          · have h12 := rst.resolve_left (by omega)
            have hsh := (Sur_t hSv hW).resolve_right (fun h => by omega)
            refine J_aload_n hX dX10_titleOf_67 rfl ?_
            refine J_gr hX (r + 1) fr_RX10_7 dX10_titleOf_68 (show K (r) = 9 from hM 0 (by decide)) rfl ?_
            refine J_bipush hX dX10_titleOf_71 rfl ?_
            refine J_iald hX dX10_titleOf_73 (show K (r + 1) = 1000 + 198 from hM 1 (by decide)) ⟨by omega, by omega⟩ (by decide) (fun r73 => ?_)
            refine J_aload_n hX dX10_titleOf_74 rfl ?_
            refine J_geti hX fi_RX10_207 dX10_titleOf_75 (show K (r) = 9 from hM 0 (by decide)) (fun r75 => ?_)
            refine J_iload_n hX dX10_titleOf_78 rfl ?_
            refine J_iconst hX dX10_titleOf_79 ?_
            refine J_icmp_ne hX 87 dX10_titleOf_80 (by omega) (by decide) (by decide) (fun c80 => ?_) (fun c80 => ?_)
            · refine J_iconst hX dX10_titleOf_87 ?_
              refine J_callSI hX _ dX10_titleOf_88 cw_RX10_166 (m_X10_column (by omega) (by omega) (by omega)) rfl (Nat.le_of_ble_eq_true rfl) (by decide) ⟨Nat.zero_le _, Nat.zero_le _⟩ (fun r88 => ?_)
              exact J_retI hX hQ dX10_titleOf_91 (by unfold tvl; first | (rw [if_pos (by omega)]; done) | (rw [if_neg (by omega)]; have h12 := rst.resolve_left (by omega); rcases (show w = 0 ∨ w = 1 ∨ w = 2 ∨ w = 3 ∨ w = 4 ∨ w = 5 ∨ w = 6 by omega) with rfl | rfl | rfl | rfl | rfl | rfl | rfl <;> first | (exfalso; omega) | exact h12.1 | exact h12.2 | exact rs13 | (rcases Sur_t hSv hW with ⟨a1, a2, a3, a4, a5, a6⟩ | ⟨a1, a2, a3, a4⟩ <;> first | (exfalso; omega) | exact a2 | exact a3 | exact a2.symm | exact a3.symm | exact (a4 1).symm | exact (a4 0).symm | (rw [h12.1]; exact (a5 1).symm) | (rw [h12.1]; exact (a5 0).symm)))) rfl rfl (Nat.zero_le _) (Nat.zero_le _)
            · refine J_iconst hX dX10_titleOf_83 ?_
              refine J_goto hX 88 dX10_titleOf_84 (by decide) ?_
              refine J_callSI hX _ dX10_titleOf_88 cw_RX10_166 (m_X10_column (by omega) (by omega) (by omega)) rfl (Nat.le_of_ble_eq_true rfl) (by decide) ⟨Nat.zero_le _, Nat.zero_le _⟩ (fun r88 => ?_)
              exact J_retI hX hQ dX10_titleOf_91 (by unfold tvl; first | (rw [if_pos (by omega)]; done) | (rw [if_neg (by omega)]; have h12 := rst.resolve_left (by omega); rcases (show w = 0 ∨ w = 1 ∨ w = 2 ∨ w = 3 ∨ w = 4 ∨ w = 5 ∨ w = 6 by omega) with rfl | rfl | rfl | rfl | rfl | rfl | rfl <;> first | (exfalso; omega) | exact h12.1 | exact h12.2 | exact rs13 | (rcases Sur_t hSv hW with ⟨a1, a2, a3, a4, a5, a6⟩ | ⟨a1, a2, a3, a4⟩ <;> first | (exfalso; omega) | exact a2 | exact a3 | exact a2.symm | exact a3.symm | exact (a4 1).symm | exact (a4 0).symm | (rw [h12.1]; exact (a5 1).symm) | (rw [h12.1]; exact (a5 0).symm)))) rfl rfl (Nat.zero_le _) (Nat.zero_le _)
          · refine J_aload_n hX dX10_titleOf_60 rfl ?_
            refine J_geti hX fi_RX10_207 dX10_titleOf_61 (show K (r) = 9 from hM 0 (by decide)) (fun r61 => ?_)
            refine J_goto hX 91 dX10_titleOf_64 (by decide) ?_
            exact J_retI hX hQ dX10_titleOf_91 (by unfold tvl; first | (rw [if_pos (by omega)]; done) | (rw [if_neg (by omega)]; have h12 := rst.resolve_left (by omega); rcases (show w = 0 ∨ w = 1 ∨ w = 2 ∨ w = 3 ∨ w = 4 ∨ w = 5 ∨ w = 6 by omega) with rfl | rfl | rfl | rfl | rfl | rfl | rfl <;> first | (exfalso; omega) | exact h12.1 | exact h12.2 | exact rs13 | (rcases Sur_t hSv hW with ⟨a1, a2, a3, a4, a5, a6⟩ | ⟨a1, a2, a3, a4⟩ <;> first | (exfalso; omega) | exact a2 | exact a3 | exact a2.symm | exact a3.symm | exact (a4 1).symm | exact (a4 0).symm | (rw [h12.1]; exact (a5 1).symm) | (rw [h12.1]; exact (a5 0).symm)))) rfl rfl (Nat.zero_le _) (Nat.zero_le _)
        · refine J_aload_n hX dX10_titleOf_48 rfl ?_
          refine J_geti hX fi_RX10_204 dX10_titleOf_49 (show K (r) = 9 from hM 0 (by decide)) (fun r49 => ?_)
          refine J_goto hX 91 dX10_titleOf_52 (by decide) ?_
          exact J_retI hX hQ dX10_titleOf_91 (by unfold tvl; first | (rw [if_pos (by omega)]; done) | (rw [if_neg (by omega)]; have h12 := rst.resolve_left (by omega); rcases (show w = 0 ∨ w = 1 ∨ w = 2 ∨ w = 3 ∨ w = 4 ∨ w = 5 ∨ w = 6 by omega) with rfl | rfl | rfl | rfl | rfl | rfl | rfl <;> first | (exfalso; omega) | exact h12.1 | exact h12.2 | exact rs13 | (rcases Sur_t hSv hW with ⟨a1, a2, a3, a4, a5, a6⟩ | ⟨a1, a2, a3, a4⟩ <;> first | (exfalso; omega) | exact a2 | exact a3 | exact a2.symm | exact a3.symm | exact (a4 1).symm | exact (a4 0).symm | (rw [h12.1]; exact (a5 1).symm) | (rw [h12.1]; exact (a5 0).symm)))) rfl rfl (Nat.zero_le _) (Nat.zero_le _)
      · refine J_aload_n hX dX10_titleOf_31 rfl ?_
        refine J_gr hX (r + 1) fr_RX10_7 dX10_titleOf_32 (show K (r) = 9 from hM 0 (by decide)) rfl ?_
        refine J_bipush hX dX10_titleOf_35 rfl ?_
        refine J_iload_n hX dX10_titleOf_37 rfl ?_
        refine J_iadd hX dX10_titleOf_38 ?_
        refine J_iald hX dX10_titleOf_39 (show K (r + 1) = 1000 + 198 from hM 1 (by decide)) ⟨by omega, by omega⟩ (by decide) (fun r39 => ?_)
        refine J_goto hX 91 dX10_titleOf_40 (by decide) ?_
        exact J_retI hX hQ dX10_titleOf_91 (by unfold tvl; first | (rw [if_pos (by omega)]; done) | (rw [if_neg (by omega)]; have h12 := rst.resolve_left (by omega); rcases (show w = 0 ∨ w = 1 ∨ w = 2 ∨ w = 3 ∨ w = 4 ∨ w = 5 ∨ w = 6 by omega) with rfl | rfl | rfl | rfl | rfl | rfl | rfl <;> first | (exfalso; omega) | exact h12.1 | exact h12.2 | exact rs13 | (rcases Sur_t hSv hW with ⟨a1, a2, a3, a4, a5, a6⟩ | ⟨a1, a2, a3, a4⟩ <;> first | (exfalso; omega) | exact a2 | exact a3 | exact a2.symm | exact a3.symm | exact (a4 1).symm | exact (a4 0).symm | (rw [h12.1]; exact (a5 1).symm) | (rw [h12.1]; exact (a5 0).symm)))) rfl rfl (Nat.zero_le _) (Nat.zero_le _)
    · refine J_aload_n hX dX10_titleOf_15 rfl ?_
      refine J_geti hX fi_RX10_196 dX10_titleOf_16 (show K (r) = 9 from hM 0 (by decide)) (fun r16 => ?_)
      refine J_if_ne hX 26 dX10_titleOf_19 (by omega) (by decide) (fun c19 => ?_) (fun c19 => ?_)
      · refine J_iload_n hX dX10_titleOf_26 rfl ?_
        refine J_iconst hX dX10_titleOf_27 ?_
        refine J_icmp_ge hX 43 dX10_titleOf_28 (by omega) (by decide) (by decide) (fun c28 => ?_) (fun c28 => ?_)
        · refine J_iload_n hX dX10_titleOf_43 rfl ?_
          refine J_iconst hX dX10_titleOf_44 ?_
          refine J_icmp_ne hX 55 dX10_titleOf_45 (by omega) (by decide) (by decide) (fun c45 => ?_) (fun c45 => ?_)
          · refine J_iload_n hX dX10_titleOf_55 rfl ?_
            refine J_iconst hX dX10_titleOf_56 ?_
            refine J_icmp_ne hX 67 dX10_titleOf_57 (by omega) (by decide) (by decide) (fun c57 => ?_) (fun c57 => ?_)
            · have h12 := rst.resolve_left (by omega)
              have hsh := (Sur_t hSv hW).resolve_right (fun h => by omega)
              refine J_aload_n hX dX10_titleOf_67 rfl ?_
              refine J_gr hX (r + 1) fr_RX10_7 dX10_titleOf_68 (show K (r) = 9 from hM 0 (by decide)) rfl ?_
              refine J_bipush hX dX10_titleOf_71 rfl ?_
              refine J_iald hX dX10_titleOf_73 (show K (r + 1) = 1000 + 198 from hM 1 (by decide)) ⟨by omega, by omega⟩ (by decide) (fun r73 => ?_)
              refine J_aload_n hX dX10_titleOf_74 rfl ?_
              refine J_geti hX fi_RX10_207 dX10_titleOf_75 (show K (r) = 9 from hM 0 (by decide)) (fun r75 => ?_)
              refine J_iload_n hX dX10_titleOf_78 rfl ?_
              refine J_iconst hX dX10_titleOf_79 ?_
              refine J_icmp_ne hX 87 dX10_titleOf_80 (by omega) (by decide) (by decide) (fun c80 => ?_) (fun c80 => ?_)
              · refine J_iconst hX dX10_titleOf_87 ?_
                refine J_callSI hX _ dX10_titleOf_88 cw_RX10_166 (m_X10_column (by omega) (by omega) (by omega)) rfl (Nat.le_of_ble_eq_true rfl) (by decide) ⟨Nat.zero_le _, Nat.zero_le _⟩ (fun r88 => ?_)
                exact J_retI hX hQ dX10_titleOf_91 (by unfold tvl; first | (rw [if_pos (by omega)]; done) | (rw [if_neg (by omega)]; have h12 := rst.resolve_left (by omega); rcases (show w = 0 ∨ w = 1 ∨ w = 2 ∨ w = 3 ∨ w = 4 ∨ w = 5 ∨ w = 6 by omega) with rfl | rfl | rfl | rfl | rfl | rfl | rfl <;> first | (exfalso; omega) | exact h12.1 | exact h12.2 | exact rs13 | (rcases Sur_t hSv hW with ⟨a1, a2, a3, a4, a5, a6⟩ | ⟨a1, a2, a3, a4⟩ <;> first | (exfalso; omega) | exact a2 | exact a3 | exact a2.symm | exact a3.symm | exact (a4 1).symm | exact (a4 0).symm | (rw [h12.1]; exact (a5 1).symm) | (rw [h12.1]; exact (a5 0).symm)))) rfl rfl (Nat.zero_le _) (Nat.zero_le _)
              · refine J_iconst hX dX10_titleOf_83 ?_
                refine J_goto hX 88 dX10_titleOf_84 (by decide) ?_
                refine J_callSI hX _ dX10_titleOf_88 cw_RX10_166 (m_X10_column (by omega) (by omega) (by omega)) rfl (Nat.le_of_ble_eq_true rfl) (by decide) ⟨Nat.zero_le _, Nat.zero_le _⟩ (fun r88 => ?_)
                exact J_retI hX hQ dX10_titleOf_91 (by unfold tvl; first | (rw [if_pos (by omega)]; done) | (rw [if_neg (by omega)]; have h12 := rst.resolve_left (by omega); rcases (show w = 0 ∨ w = 1 ∨ w = 2 ∨ w = 3 ∨ w = 4 ∨ w = 5 ∨ w = 6 by omega) with rfl | rfl | rfl | rfl | rfl | rfl | rfl <;> first | (exfalso; omega) | exact h12.1 | exact h12.2 | exact rs13 | (rcases Sur_t hSv hW with ⟨a1, a2, a3, a4, a5, a6⟩ | ⟨a1, a2, a3, a4⟩ <;> first | (exfalso; omega) | exact a2 | exact a3 | exact a2.symm | exact a3.symm | exact (a4 1).symm | exact (a4 0).symm | (rw [h12.1]; exact (a5 1).symm) | (rw [h12.1]; exact (a5 0).symm)))) rfl rfl (Nat.zero_le _) (Nat.zero_le _)
            · refine J_aload_n hX dX10_titleOf_60 rfl ?_
              refine J_geti hX fi_RX10_207 dX10_titleOf_61 (show K (r) = 9 from hM 0 (by decide)) (fun r61 => ?_)
              refine J_goto hX 91 dX10_titleOf_64 (by decide) ?_
              exact J_retI hX hQ dX10_titleOf_91 (by unfold tvl; first | (rw [if_pos (by omega)]; done) | (rw [if_neg (by omega)]; have h12 := rst.resolve_left (by omega); rcases (show w = 0 ∨ w = 1 ∨ w = 2 ∨ w = 3 ∨ w = 4 ∨ w = 5 ∨ w = 6 by omega) with rfl | rfl | rfl | rfl | rfl | rfl | rfl <;> first | (exfalso; omega) | exact h12.1 | exact h12.2 | exact rs13 | (rcases Sur_t hSv hW with ⟨a1, a2, a3, a4, a5, a6⟩ | ⟨a1, a2, a3, a4⟩ <;> first | (exfalso; omega) | exact a2 | exact a3 | exact a2.symm | exact a3.symm | exact (a4 1).symm | exact (a4 0).symm | (rw [h12.1]; exact (a5 1).symm) | (rw [h12.1]; exact (a5 0).symm)))) rfl rfl (Nat.zero_le _) (Nat.zero_le _)
          · refine J_aload_n hX dX10_titleOf_48 rfl ?_
            refine J_geti hX fi_RX10_204 dX10_titleOf_49 (show K (r) = 9 from hM 0 (by decide)) (fun r49 => ?_)
            refine J_goto hX 91 dX10_titleOf_52 (by decide) ?_
            exact J_retI hX hQ dX10_titleOf_91 (by unfold tvl; first | (rw [if_pos (by omega)]; done) | (rw [if_neg (by omega)]; have h12 := rst.resolve_left (by omega); rcases (show w = 0 ∨ w = 1 ∨ w = 2 ∨ w = 3 ∨ w = 4 ∨ w = 5 ∨ w = 6 by omega) with rfl | rfl | rfl | rfl | rfl | rfl | rfl <;> first | (exfalso; omega) | exact h12.1 | exact h12.2 | exact rs13 | (rcases Sur_t hSv hW with ⟨a1, a2, a3, a4, a5, a6⟩ | ⟨a1, a2, a3, a4⟩ <;> first | (exfalso; omega) | exact a2 | exact a3 | exact a2.symm | exact a3.symm | exact (a4 1).symm | exact (a4 0).symm | (rw [h12.1]; exact (a5 1).symm) | (rw [h12.1]; exact (a5 0).symm)))) rfl rfl (Nat.zero_le _) (Nat.zero_le _)
        · refine J_aload_n hX dX10_titleOf_31 rfl ?_
          refine J_gr hX (r + 1) fr_RX10_7 dX10_titleOf_32 (show K (r) = 9 from hM 0 (by decide)) rfl ?_
          refine J_bipush hX dX10_titleOf_35 rfl ?_
          refine J_iload_n hX dX10_titleOf_37 rfl ?_
          refine J_iadd hX dX10_titleOf_38 ?_
          refine J_iald hX dX10_titleOf_39 (show K (r + 1) = 1000 + 198 from hM 1 (by decide)) ⟨by omega, by omega⟩ (by decide) (fun r39 => ?_)
          refine J_goto hX 91 dX10_titleOf_40 (by decide) ?_
          exact J_retI hX hQ dX10_titleOf_91 (by unfold tvl; first | (rw [if_pos (by omega)]; done) | (rw [if_neg (by omega)]; have h12 := rst.resolve_left (by omega); rcases (show w = 0 ∨ w = 1 ∨ w = 2 ∨ w = 3 ∨ w = 4 ∨ w = 5 ∨ w = 6 by omega) with rfl | rfl | rfl | rfl | rfl | rfl | rfl <;> first | (exfalso; omega) | exact h12.1 | exact h12.2 | exact rs13 | (rcases Sur_t hSv hW with ⟨a1, a2, a3, a4, a5, a6⟩ | ⟨a1, a2, a3, a4⟩ <;> first | (exfalso; omega) | exact a2 | exact a3 | exact a2.symm | exact a3.symm | exact (a4 1).symm | exact (a4 0).symm | (rw [h12.1]; exact (a5 1).symm) | (rw [h12.1]; exact (a5 0).symm)))) rfl rfl (Nat.zero_le _) (Nat.zero_le _)
      · refine J_sipush hX dX10_titleOf_22 rfl ?_
        exact J_retI hX hQ dX10_titleOf_25 (by unfold tvl; first | (rw [if_pos (by omega)]; done) | (rw [if_neg (by omega)]; have h12 := rst.resolve_left (by omega); rcases (show w = 0 ∨ w = 1 ∨ w = 2 ∨ w = 3 ∨ w = 4 ∨ w = 5 ∨ w = 6 by omega) with rfl | rfl | rfl | rfl | rfl | rfl | rfl <;> first | (exfalso; omega) | exact h12.1 | exact h12.2 | exact rs13 | (rcases Sur_t hSv hW with ⟨a1, a2, a3, a4, a5, a6⟩ | ⟨a1, a2, a3, a4⟩ <;> first | (exfalso; omega) | exact a2 | exact a3 | exact a2.symm | exact a3.symm | exact (a4 1).symm | exact (a4 0).symm | (rw [h12.1]; exact (a5 1).symm) | (rw [h12.1]; exact (a5 0).symm)))) rfl rfl (Nat.zero_le _) (Nat.zero_le _)
-- X10_wholeOf
set_option maxHeartbeats 4000000 in
set_option maxRecDepth 100000 in
theorem m_X10_wholeOf {E : EE} {K : Nat → Nat} {M : MM} {r : Nat} {T : Int} {S : MM} {w : Int} (hM : ModelK K r) (hR : RS S (M (r + 1))) (hW : WFS T S) (hw : 0 ≤ w ∧ w ≤ 15) (hSv : Sur M r S) : CnI E 2 yX10_wholeOf cX10_wholeOf 2 (Option.some FieldType.int) [.ref r, vI w] K M (wvl S w) := by
  obtain ⟨⟨rs0, rs1, rs2, rs3, rs4, rs5, rs6, rs7, rs8, rs9, rs10, rs13⟩, rst, rsn, rsc⟩ := id hR
  have hs9 := hW.2.1
  unfold WFSs at hs9
  have b14 : M r 14 = ct (bx S) (cnt S) := by rw [hSv.1.2.2.1]; exact nbx_ct S (cnt S)
  have b12 := hSv.2.1
  have b15 := hSv.2.2.1.1
  have b16 := hSv.2.2.1.2
  refine ⟨Cn_of RX10 (plainFor_of_name (by decide)) rfl (Nat.le_of_ble_eq_true rfl) (fun X hX hQ => ?_), wvl_rng hW w⟩
  refine J_iload_n hX dX10_wholeOf_0 rfl ?_
  rcases (show (w = 3) ∨ (w = 4) ∨ (w = 5) ∨ (w = 6) ∨ (w = 7) ∨ (w = 8) ∨ (w = 9) ∨ (w = 10) ∨ (w = 11) ∨ (w < 3 ∨ 11 < w) by omega) with e0 | e0 | e0 | e0 | e0 | e0 | e0 | e0 | e0 | e0
  · skip
    refine J_tin hX (51) 52 dX10_wholeOf_1 (by omega) (by omega) (by rw [e0]; rfl) (by decide) ?_
    refine J_aload_n hX dX10_wholeOf_52 rfl ?_
    refine J_geti hX fi_RX10_163 dX10_wholeOf_53 (show K (r) = 9 from hM 0 (by decide)) (fun r53 => ?_)
    exact J_retI hX hQ dX10_wholeOf_56 (by first | (rw [e0]; first | exact b14 | exact rs3 | exact rs4 | rfl | exact rs5 | exact rs6 | exact b12 | exact b15 | exact b16) | (rcases (show w = 0 ∨ w = 1 ∨ w = 2 ∨ w = 12 ∨ w = 13 ∨ w = 14 ∨ w = 15 by omega) with rfl | rfl | rfl | rfl | rfl | rfl | rfl <;> first | (exfalso; omega) | exact rs0 | exact rs1 | exact rs2 | exact rs7 | exact rs8 | exact rs9 | exact rs10)) rfl rfl (Nat.zero_le _) (Nat.zero_le _)
  · skip
    refine J_tin hX (56) 57 dX10_wholeOf_1 (by omega) (by omega) (by rw [e0]; rfl) (by decide) ?_
    refine J_aload_n hX dX10_wholeOf_57 rfl ?_
    refine J_gr hX (r + 1) fr_RX10_7 dX10_wholeOf_58 (show K (r) = 9 from hM 0 (by decide)) rfl ?_
    refine J_iconst hX dX10_wholeOf_61 ?_
    refine J_iald hX dX10_wholeOf_62 (show K (r + 1) = 1000 + 198 from hM 1 (by decide)) ⟨by omega, by omega⟩ (by decide) (fun r62 => ?_)
    exact J_retI hX hQ dX10_wholeOf_63 (by first | (rw [e0]; first | exact b14 | exact rs3 | exact rs4 | rfl | exact rs5 | exact rs6 | exact b12 | exact b15 | exact b16) | (rcases (show w = 0 ∨ w = 1 ∨ w = 2 ∨ w = 12 ∨ w = 13 ∨ w = 14 ∨ w = 15 by omega) with rfl | rfl | rfl | rfl | rfl | rfl | rfl <;> first | (exfalso; omega) | exact rs0 | exact rs1 | exact rs2 | exact rs7 | exact rs8 | exact rs9 | exact rs10)) rfl rfl (Nat.zero_le _) (Nat.zero_le _)
  · skip
    refine J_tin hX (63) 64 dX10_wholeOf_1 (by omega) (by omega) (by rw [e0]; rfl) (by decide) ?_
    refine J_aload_n hX dX10_wholeOf_64 rfl ?_
    refine J_gr hX (r + 1) fr_RX10_7 dX10_wholeOf_65 (show K (r) = 9 from hM 0 (by decide)) rfl ?_
    refine J_iconst hX dX10_wholeOf_68 ?_
    refine J_iald hX dX10_wholeOf_69 (show K (r + 1) = 1000 + 198 from hM 1 (by decide)) ⟨by omega, by omega⟩ (by decide) (fun r69 => ?_)
    exact J_retI hX hQ dX10_wholeOf_70 (by first | (rw [e0]; first | exact b14 | exact rs3 | exact rs4 | rfl | exact rs5 | exact rs6 | exact b12 | exact b15 | exact b16) | (rcases (show w = 0 ∨ w = 1 ∨ w = 2 ∨ w = 12 ∨ w = 13 ∨ w = 14 ∨ w = 15 by omega) with rfl | rfl | rfl | rfl | rfl | rfl | rfl <;> first | (exfalso; omega) | exact rs0 | exact rs1 | exact rs2 | exact rs7 | exact rs8 | exact rs9 | exact rs10)) rfl rfl (Nat.zero_le _) (Nat.zero_le _)
  · skip
    refine J_tin hX (70) 71 dX10_wholeOf_1 (by omega) (by omega) (by rw [e0]; rfl) (by decide) ?_
    refine J_aload_n hX dX10_wholeOf_71 rfl ?_
    refine J_callVI hX _ dX10_wholeOf_72 cw_RX10_135 (m_X10_sceneNow hM hR hW) ⟨(show K (r) = 9 from hM 0 (by decide)), by decide, by decide, rfl⟩ rfl (Nat.le_of_ble_eq_true rfl) (by decide) ⟨Nat.zero_le _, Nat.zero_le _⟩ (fun r72 => ?_)
    exact J_retI hX hQ dX10_wholeOf_75 (by first | (rw [e0]; first | exact b14 | exact rs3 | exact rs4 | rfl | exact rs5 | exact rs6 | exact b12 | exact b15 | exact b16) | (rcases (show w = 0 ∨ w = 1 ∨ w = 2 ∨ w = 12 ∨ w = 13 ∨ w = 14 ∨ w = 15 by omega) with rfl | rfl | rfl | rfl | rfl | rfl | rfl <;> first | (exfalso; omega) | exact rs0 | exact rs1 | exact rs2 | exact rs7 | exact rs8 | exact rs9 | exact rs10)) rfl rfl (Nat.zero_le _) (Nat.zero_le _)
  · skip
    refine J_tin hX (75) 76 dX10_wholeOf_1 (by omega) (by omega) (by rw [e0]; rfl) (by decide) ?_
    refine J_aload_n hX dX10_wholeOf_76 rfl ?_
    refine J_gr hX (r + 1) fr_RX10_7 dX10_wholeOf_77 (show K (r) = 9 from hM 0 (by decide)) rfl ?_
    refine J_iconst hX dX10_wholeOf_80 ?_
    refine J_iald hX dX10_wholeOf_81 (show K (r + 1) = 1000 + 198 from hM 1 (by decide)) ⟨by omega, by omega⟩ (by decide) (fun r81 => ?_)
    exact J_retI hX hQ dX10_wholeOf_82 (by first | (rw [e0]; first | exact b14 | exact rs3 | exact rs4 | rfl | exact rs5 | exact rs6 | exact b12 | exact b15 | exact b16) | (rcases (show w = 0 ∨ w = 1 ∨ w = 2 ∨ w = 12 ∨ w = 13 ∨ w = 14 ∨ w = 15 by omega) with rfl | rfl | rfl | rfl | rfl | rfl | rfl <;> first | (exfalso; omega) | exact rs0 | exact rs1 | exact rs2 | exact rs7 | exact rs8 | exact rs9 | exact rs10)) rfl rfl (Nat.zero_le _) (Nat.zero_le _)
  · skip
    refine J_tin hX (82) 83 dX10_wholeOf_1 (by omega) (by omega) (by rw [e0]; rfl) (by decide) ?_
    refine J_aload_n hX dX10_wholeOf_83 rfl ?_
    refine J_gr hX (r + 1) fr_RX10_7 dX10_wholeOf_84 (show K (r) = 9 from hM 0 (by decide)) rfl ?_
    refine J_bipush hX dX10_wholeOf_87 rfl ?_
    refine J_iald hX dX10_wholeOf_89 (show K (r + 1) = 1000 + 198 from hM 1 (by decide)) ⟨by omega, by omega⟩ (by decide) (fun r89 => ?_)
    exact J_retI hX hQ dX10_wholeOf_90 (by first | (rw [e0]; first | exact b14 | exact rs3 | exact rs4 | rfl | exact rs5 | exact rs6 | exact b12 | exact b15 | exact b16) | (rcases (show w = 0 ∨ w = 1 ∨ w = 2 ∨ w = 12 ∨ w = 13 ∨ w = 14 ∨ w = 15 by omega) with rfl | rfl | rfl | rfl | rfl | rfl | rfl <;> first | (exfalso; omega) | exact rs0 | exact rs1 | exact rs2 | exact rs7 | exact rs8 | exact rs9 | exact rs10)) rfl rfl (Nat.zero_le _) (Nat.zero_le _)
  · skip
    refine J_tin hX (90) 91 dX10_wholeOf_1 (by omega) (by omega) (by rw [e0]; rfl) (by decide) ?_
    refine J_aload_n hX dX10_wholeOf_91 rfl ?_
    refine J_geti hX fi_RX10_216 dX10_wholeOf_92 (show K (r) = 9 from hM 0 (by decide)) (fun r92 => ?_)
    exact J_retI hX hQ dX10_wholeOf_95 (by first | (rw [e0]; first | exact b14 | exact rs3 | exact rs4 | rfl | exact rs5 | exact rs6 | exact b12 | exact b15 | exact b16) | (rcases (show w = 0 ∨ w = 1 ∨ w = 2 ∨ w = 12 ∨ w = 13 ∨ w = 14 ∨ w = 15 by omega) with rfl | rfl | rfl | rfl | rfl | rfl | rfl <;> first | (exfalso; omega) | exact rs0 | exact rs1 | exact rs2 | exact rs7 | exact rs8 | exact rs9 | exact rs10)) rfl rfl (Nat.zero_le _) (Nat.zero_le _)
  · skip
    refine J_tin hX (95) 96 dX10_wholeOf_1 (by omega) (by omega) (by rw [e0]; rfl) (by decide) ?_
    refine J_aload_n hX dX10_wholeOf_96 rfl ?_
    refine J_geti hX fi_RX10_190 dX10_wholeOf_97 (show K (r) = 9 from hM 0 (by decide)) (fun r97 => ?_)
    exact J_retI hX hQ dX10_wholeOf_100 (by first | (rw [e0]; first | exact b14 | exact rs3 | exact rs4 | rfl | exact rs5 | exact rs6 | exact b12 | exact b15 | exact b16) | (rcases (show w = 0 ∨ w = 1 ∨ w = 2 ∨ w = 12 ∨ w = 13 ∨ w = 14 ∨ w = 15 by omega) with rfl | rfl | rfl | rfl | rfl | rfl | rfl <;> first | (exfalso; omega) | exact rs0 | exact rs1 | exact rs2 | exact rs7 | exact rs8 | exact rs9 | exact rs10)) rfl rfl (Nat.zero_le _) (Nat.zero_le _)
  · skip
    refine J_tin hX (100) 101 dX10_wholeOf_1 (by omega) (by omega) (by rw [e0]; rfl) (by decide) ?_
    refine J_aload_n hX dX10_wholeOf_101 rfl ?_
    refine J_geti hX fi_RX10_193 dX10_wholeOf_102 (show K (r) = 9 from hM 0 (by decide)) (fun r102 => ?_)
    exact J_retI hX hQ dX10_wholeOf_105 (by first | (rw [e0]; first | exact b14 | exact rs3 | exact rs4 | rfl | exact rs5 | exact rs6 | exact b12 | exact b15 | exact b16) | (rcases (show w = 0 ∨ w = 1 ∨ w = 2 ∨ w = 12 ∨ w = 13 ∨ w = 14 ∨ w = 15 by omega) with rfl | rfl | rfl | rfl | rfl | rfl | rfl <;> first | (exfalso; omega) | exact rs0 | exact rs1 | exact rs2 | exact rs7 | exact rs8 | exact rs9 | exact rs10)) rfl rfl (Nat.zero_le _) (Nat.zero_le _)
  · skip
    refine J_tout hX 106 dX10_wholeOf_1 (by omega) (by omega) (by decide) ?_
    refine J_iload_n hX dX10_wholeOf_106 rfl ?_
    refine J_iconst hX dX10_wholeOf_107 ?_
    refine J_icmp_ge hX 120 dX10_wholeOf_108 (by omega) (by decide) (by decide) (fun c108 => ?_) (fun c108 => ?_)
    · refine J_aload_n hX dX10_wholeOf_120 rfl ?_
      refine J_gr hX (r + 1) fr_RX10_7 dX10_wholeOf_121 (show K (r) = 9 from hM 0 (by decide)) rfl ?_
      refine J_bipush hX dX10_wholeOf_124 rfl ?_
      refine J_iload_n hX dX10_wholeOf_126 rfl ?_
      refine J_iadd hX dX10_wholeOf_127 ?_
      refine J_bipush hX dX10_wholeOf_128 rfl ?_
      refine J_isub hX dX10_wholeOf_130 ?_
      refine J_iald hX dX10_wholeOf_131 (show K (r + 1) = 1000 + 198 from hM 1 (by decide)) ⟨by omega, by omega⟩ (by decide) (fun r131 => ?_)
      exact J_retI hX hQ dX10_wholeOf_132 (by first | (rw [e0]; first | exact b14 | exact rs3 | exact rs4 | rfl | exact rs5 | exact rs6 | exact b12 | exact b15 | exact b16) | (rcases (show w = 0 ∨ w = 1 ∨ w = 2 ∨ w = 12 ∨ w = 13 ∨ w = 14 ∨ w = 15 by omega) with rfl | rfl | rfl | rfl | rfl | rfl | rfl <;> first | (exfalso; omega) | exact rs0 | exact rs1 | exact rs2 | exact rs7 | exact rs8 | exact rs9 | exact rs10)) rfl rfl (Nat.zero_le _) (Nat.zero_le _)
    · refine J_aload_n hX dX10_wholeOf_111 rfl ?_
      refine J_gr hX (r + 1) fr_RX10_7 dX10_wholeOf_112 (show K (r) = 9 from hM 0 (by decide)) rfl ?_
      refine J_iload_n hX dX10_wholeOf_115 rfl ?_
      refine J_iald hX dX10_wholeOf_116 (show K (r + 1) = 1000 + 198 from hM 1 (by decide)) ⟨by omega, by omega⟩ (by decide) (fun r116 => ?_)
      refine J_goto hX 132 dX10_wholeOf_117 (by decide) ?_
      exact J_retI hX hQ dX10_wholeOf_132 (by first | (rw [e0]; first | exact b14 | exact rs3 | exact rs4 | rfl | exact rs5 | exact rs6 | exact b12 | exact b15 | exact b16) | (rcases (show w = 0 ∨ w = 1 ∨ w = 2 ∨ w = 12 ∨ w = 13 ∨ w = 14 ∨ w = 15 by omega) with rfl | rfl | rfl | rfl | rfl | rfl | rfl <;> first | (exfalso; omega) | exact rs0 | exact rs1 | exact rs2 | exact rs7 | exact rs8 | exact rs9 | exact rs10)) rfl rfl (Nat.zero_le _) (Nat.zero_le _)
-- X10_sceneOf
set_option maxHeartbeats 4000000 in
set_option maxRecDepth 100000 in
theorem m_X10_sceneOf {E : EE} {K : Nat → Nat} {M : MM} {r : Nat} {T : Int} {S : MM} {n w : Int} (hM : ModelK K r) (hR : RS S (M (r + 1))) (hW : WFS T S) (hn : 0 ≤ n ∧ n < S 11 0) (hw : 0 ≤ w ∧ w ≤ 3) : CnI E 0 yX10_sceneOf cX10_sceneOf 5 (Option.some FieldType.int) [.ref r, vI n, vI w] K M (scv S n w) := by
  obtain ⟨⟨rs0, rs1, rs2, rs3, rs4, rs5, rs6, rs7, rs8, rs9, rs10, rs13⟩, rst, rsn, rsc⟩ := id hR
  have hs9 := hW.2.1
  unfold WFSs at hs9
  have hsm : ∀ k : Nat, (k : Int) ≤ S 11 0 → 0 ≤ sm (S 14) k ∧ sm (S 14) k ≤ 400 := fun k hk => by have h := sm_rng (f := S 14) (A := 50) (k := k) (fun j hj => by have := hW.2.2.2 (j : Int) (by omega) (by omega); omega); omega
  have qn := rsc n hn.1 hn.2
  have hwn := hW.2.2.2 n hn.1 hn.2
  refine ⟨Cn_of RX10 (plainFor_of_name (by decide)) rfl (Nat.le_of_ble_eq_true rfl) (fun X hX hQ => ?_), by have hs9 := hW.2.1; unfold WFSs at hs9; have hwn := hW.2.2.2 n hn.1 hn.2; have h := sm_rng (f := S 14) (A := 50) (k := n.toNat) (fun j hj => by have := hW.2.2.2 (j : Int) (by omega) (by omega); omega); unfold scv; (repeat' split) <;> omega⟩
  refine J_iconst hX dX10_sceneOf_0 ?_
  refine J_istore_n hX dX10_sceneOf_1 (by decide) ?_
  refine J_iconst hX dX10_sceneOf_2 ?_
  refine J_istore hX dX10_sceneOf_3 (by decide) ?_
  have HL5 : ∀ k : Nat, k ≤ n.toNat → ∀ (s : Int), (s = sm (S 14) k) → J E X 5 [(0, .ref r), (1, vI n), (2, vI w), (3, vI s), (4, vI (k : Int))] [] K M 0 0 := by
    refine up_ind (n.toNat) (fun k hk5 ih5 => ?_)
    intro s  hi5
    have hr4 := hsm k (by omega)
    refine J_iload hX dX10_sceneOf_5 rfl ?_
    refine J_iload_n hX dX10_sceneOf_7 rfl ?_
    refine J_icmp_ge hX 35 dX10_sceneOf_8 (by omega) (by omega) (by decide) (fun c8 => ?_) (fun c8 => ?_)
    · refine J_iload_n hX dX10_sceneOf_35 rfl ?_
      refine J_iconst hX dX10_sceneOf_36 ?_
      refine J_icmp_ne hX 44 dX10_sceneOf_37 (by omega) (by decide) (by decide) (fun c37 => ?_) (fun c37 => ?_)
      · refine J_aload_n hX dX10_sceneOf_44 rfl ?_
        refine J_gr hX (r + 1) fr_RX10_7 dX10_sceneOf_45 (show K (r) = 9 from hM 0 (by decide)) rfl ?_
        refine J_sipush hX dX10_sceneOf_48 rfl ?_
        refine J_iconst hX dX10_sceneOf_51 ?_
        refine J_iload_n hX dX10_sceneOf_52 rfl ?_
        refine J_imul hX dX10_sceneOf_53 ?_
        refine J_iadd hX dX10_sceneOf_54 ?_
        refine J_iload_n hX dX10_sceneOf_55 rfl ?_
        refine J_iadd hX dX10_sceneOf_56 ?_
        refine J_iald hX dX10_sceneOf_57 (show K (r + 1) = 1000 + 198 from hM 1 (by decide)) ⟨by omega, by omega⟩ (by decide) (fun r57 => ?_)
        exact J_retI hX hQ dX10_sceneOf_58 (by unfold scv; rcases (show w = 0 ∨ w = 1 ∨ w = 2 ∨ w = 3 by omega) with rfl | rfl | rfl | rfl <;> first | (exfalso; omega) | (rw [if_pos rfl, Int.add_zero]; exact qn.1) | (rw [if_neg (by decide), if_pos rfl]; exact qn.2.1) | (rw [if_neg (by decide), if_neg (by decide), if_pos rfl]; exact qn.2.2) | (rw [if_neg (by decide), if_neg (by decide), if_neg (by decide), hi5, show n.toNat = k by omega])) rfl rfl (Nat.zero_le _) (Nat.zero_le _)
      · refine J_iload_n hX dX10_sceneOf_40 rfl ?_
        refine J_goto hX 58 dX10_sceneOf_41 (by decide) ?_
        exact J_retI hX hQ dX10_sceneOf_58 (by unfold scv; rcases (show w = 0 ∨ w = 1 ∨ w = 2 ∨ w = 3 by omega) with rfl | rfl | rfl | rfl <;> first | (exfalso; omega) | (rw [if_pos rfl, Int.add_zero]; exact qn.1) | (rw [if_neg (by decide), if_pos rfl]; exact qn.2.1) | (rw [if_neg (by decide), if_neg (by decide), if_pos rfl]; exact qn.2.2) | (rw [if_neg (by decide), if_neg (by decide), if_neg (by decide), hi5, show n.toNat = k by omega])) rfl rfl (Nat.zero_le _) (Nat.zero_le _)
    · have qi := rsc (k : Int) (by omega) (by omega)
      have hwk := hW.2.2.2 (k : Int) (by omega) (by omega)
      refine J_iload_n hX dX10_sceneOf_11 rfl ?_
      refine J_aload_n hX dX10_sceneOf_12 rfl ?_
      refine J_gr hX (r + 1) fr_RX10_7 dX10_sceneOf_13 (show K (r) = 9 from hM 0 (by decide)) rfl ?_
      refine J_sipush hX dX10_sceneOf_16 rfl ?_
      refine J_iconst hX dX10_sceneOf_19 ?_
      refine J_iload hX dX10_sceneOf_20 rfl ?_
      refine J_imul hX dX10_sceneOf_22 ?_
      refine J_iadd hX dX10_sceneOf_23 ?_
      refine J_iconst hX dX10_sceneOf_24 ?_
      refine J_iadd hX dX10_sceneOf_25 ?_
      refine J_iald hX dX10_sceneOf_26 (show K (r + 1) = 1000 + 198 from hM 1 (by decide)) ⟨by omega, by omega⟩ (by decide) (fun r26 => ?_)
      refine J_iadd hX dX10_sceneOf_27 ?_
      refine J_istore_n hX dX10_sceneOf_28 (by decide) ?_
      refine J_iinc hX dX10_sceneOf_29 rfl (by decide) ?_
      refine J_goto hX 5 dX10_sceneOf_32 (by decide) ?_
      exact J_locI (ih5 (k + 1) (by omega) (by omega) _ (by rw [hi5, qi.2.2]; rfl)) rfl
  exact J_locI (HL5 0 (Nat.zero_le _) _ rfl) rfl
-- X10_top
set_option maxHeartbeats 4000000 in
set_option maxRecDepth 100000 in
theorem m_X10_top {E : EE} {K : Nat → Nat} {M : MM} {r : Nat} {T : Int} {S : MM} {l c row : Int} (hM : ModelK K r) (hR : RS S (M (r + 1))) (hW : WFS T S) (hMd : Mdl M r S) (hl : l = 0 ∨ l = 1) (hc : -10000 ≤ c ∧ c ≤ 10000) (hrow : -10000 ≤ row ∧ row ≤ 10000) : CnI E 3 yX10_top cX10_top 8 (Option.some FieldType.int) [.ref r, vI l, vI c, vI row] K M (front S l c row) := by
  obtain ⟨⟨rs0, rs1, rs2, rs3, rs4, rs5, rs6, rs7, rs8, rs9, rs10, rs13⟩, rst, rsn, rsc⟩ := id hR
  have hs9 := hW.2.1
  unfold WFSs at hs9
  have nbl := nb_le hW
  have e14 := hMd.2.2.1
  refine ⟨Cn_of RX10 (plainFor_of_name (by decide)) rfl (Nat.le_of_ble_eq_true rfl) (fun X hX hQ => ?_), by rcases front_rng S l c row with h | h; omega; have := h.1.1; omega⟩
  refine J_sipush hX dX10_top_0 rfl ?_
  refine J_istore hX dX10_top_3 (by decide) ?_
  refine J_iconst hX dX10_top_5 ?_
  refine J_istore hX dX10_top_6 (by decide) ?_
  have HL8 : ∀ k : Nat, k ≤ (nb S) → ∀ (q : Int), (q = frt S l c row k ∧ (-1000 ≤ q ∧ q < 20)) → J E X 8 [(0, .ref r), (1, vI l), (2, vI c), (3, vI row), (4, vI q), (5, vI (k : Int))] [] K M 0 0 := by
    refine up_ind ((nb S)) (fun k hk8 ih8 => ?_)
    intro q  hi8
    refine J_iload hX dX10_top_8 rfl ?_
    refine J_aload_n hX dX10_top_10 rfl ?_
    refine J_geti hX fi_RX10_163 dX10_top_11 (show K (r) = 9 from hM 0 (by decide)) (fun r11 => ?_)
    refine J_icmp_ge hX 103 dX10_top_14 (by omega) (by omega) (by decide) (fun c14 => ?_) (fun c14 => ?_)
    · refine J_iload hX dX10_top_103 rfl ?_
      exact J_retI hX hQ dX10_top_105 (by rw [hi8.1]; unfold front; rw [show nb S = k by omega]) rfl rfl (Nat.zero_le _) (Nat.zero_le _)
    · have ob := ord_box (S := S) (j := k) (by omega)
      have eor := hMd.2.2.2 k (by omega)
      have es := hMd.2.1 (ord S k) ob.1.1.1 ob.1.1.2.1
      have e7 := (hMd.1 (ord S k) ob.1.1.1 ob.1.1.2.1).2.1
      have sr := shf_rng hW ob.1
      have cr := col_rng hW ob.1 l
      have pr5 := pos_rng hW (k := 5) (by decide) (ord S k) ob.1.1.2.1
      have q8 := rsn (ord S k) ob.1.1.1 ob.1.1.2.1
      have hwk := hW.2.2.1 (ord S k) ob.1.1.1 ob.1.1.2.1
      refine J_aload_n hX dX10_top_17 rfl ?_
      refine J_gr hX (r + 10) fr_RX10_37 dX10_top_18 (show K (r) = 9 from hM 0 (by decide)) rfl ?_
      refine J_iload hX dX10_top_21 rfl ?_
      refine J_iald hX dX10_top_23 (show K (r + 10) = 1000 + 20 from hM 10 (by decide)) ⟨by omega, by omega⟩ (by decide) (fun r23 => ?_)
      rw [eor]
      refine J_istore hX dX10_top_24 (by decide) ?_
      refine J_iload_n hX dX10_top_26 rfl ?_
      refine J_aload_n hX dX10_top_27 rfl ?_
      refine J_gr hX (r + 7) fr_RX10_28 dX10_top_28 (show K (r) = 9 from hM 0 (by decide)) rfl ?_
      refine J_iload hX dX10_top_31 rfl ?_
      refine J_iald hX dX10_top_33 (show K (r + 7) = 1000 + 20 from hM 7 (by decide)) ⟨by omega, by omega⟩ (by decide) (fun r33 => ?_)
      refine J_isub hX dX10_top_34 ?_
      refine J_iconst hX dX10_top_35 ?_
      refine J_aload_n hX dX10_top_36 rfl ?_
      refine J_iload hX dX10_top_37 rfl ?_
      refine J_iconst hX dX10_top_39 ?_
      refine J_callVI hX _ dX10_top_40 cw_RX10_62 (m_X10_of hM (by omega) (by omega) (by omega)) ⟨(show K (r) = 9 from hM 0 (by decide)), by decide, by decide, rfl⟩ rfl (Nat.le_of_ble_eq_true rfl) (by decide) ⟨Nat.zero_le _, Nat.zero_le _⟩ (fun r40 => ?_)
      refine J_iconst hX dX10_top_43 ?_
      refine J_isub hX dX10_top_44 ?_
      refine J_callSB hX _ dX10_top_45 cw_RX10_58 (m_X10_in (by omega) (by omega) (by omega)) rfl (Nat.le_of_ble_eq_true rfl) (by decide) ⟨Nat.zero_le _, Nat.zero_le _⟩ ?_
      refine J_ifb_eq hX 80 dX10_top_48 (by decide) (fun c48 => ?_) (fun c48 => ?_)
      · refine J_iconst hX dX10_top_80 ?_
        refine J_istore hX dX10_top_81 (by decide) ?_
        refine J_iload hX dX10_top_83 rfl ?_
        refine J_if_eq hX 93 dX10_top_85 (by decide) (by decide) (fun _ => ?_) (fun h => absurd (by decide) h)
        refine J_iload hX dX10_top_93 rfl ?_
        refine J_istore hX dX10_top_95 (by decide) ?_
        refine J_iinc hX dX10_top_97 rfl (by decide) ?_
        refine J_goto hX 8 dX10_top_100 (by decide) ?_
        exact J_locI (ih8 (k + 1) (by omega) (by omega) _ ⟨by first | (rw [frt_t rfl (by omega)]; done) | (rw [frt_f rfl (by omega)]; exact hi8.1), by have := ob.1.1; omega⟩) rfl
      · refine J_iload_n hX dX10_top_51 rfl ?_
        refine J_aload_n hX dX10_top_52 rfl ?_
        refine J_iload hX dX10_top_53 rfl ?_
        refine J_iload_n hX dX10_top_55 rfl ?_
        refine J_callVI hX _ dX10_top_56 cw_RX10_170 (m_X10_columnOf hM hR hW ob.1 hMd.1 hMd.2.1 hl) ⟨(show K (r) = 9 from hM 0 (by decide)), by decide, by decide, rfl⟩ rfl (Nat.le_of_ble_eq_true rfl) (by decide) ⟨Nat.zero_le _, Nat.zero_le _⟩ (fun r56 => ?_)
        refine J_isub hX dX10_top_59 ?_
        refine J_iconst hX dX10_top_60 ?_
        refine J_aload_n hX dX10_top_61 rfl ?_
        refine J_iload hX dX10_top_62 rfl ?_
        refine J_iconst hX dX10_top_64 ?_
        refine J_callVI hX _ dX10_top_65 cw_RX10_62 (m_X10_of hM (by omega) (by omega) (by omega)) ⟨(show K (r) = 9 from hM 0 (by decide)), by decide, by decide, rfl⟩ rfl (Nat.le_of_ble_eq_true rfl) (by decide) ⟨Nat.zero_le _, Nat.zero_le _⟩ (fun r65 => ?_)
        refine J_iconst hX dX10_top_68 ?_
        refine J_isub hX dX10_top_69 ?_
        refine J_callSB hX _ dX10_top_70 cw_RX10_58 (m_X10_in (by omega) (by omega) (by omega)) rfl (Nat.le_of_ble_eq_true rfl) (by decide) ⟨Nat.zero_le _, Nat.zero_le _⟩ ?_
        refine J_ifb_eq hX 80 dX10_top_73 (by decide) (fun c73 => ?_) (fun c73 => ?_)
        · refine J_iconst hX dX10_top_80 ?_
          refine J_istore hX dX10_top_81 (by decide) ?_
          refine J_iload hX dX10_top_83 rfl ?_
          refine J_if_eq hX 93 dX10_top_85 (by decide) (by decide) (fun _ => ?_) (fun h => absurd (by decide) h)
          refine J_iload hX dX10_top_93 rfl ?_
          refine J_istore hX dX10_top_95 (by decide) ?_
          refine J_iinc hX dX10_top_97 rfl (by decide) ?_
          refine J_goto hX 8 dX10_top_100 (by decide) ?_
          exact J_locI (ih8 (k + 1) (by omega) (by omega) _ ⟨by first | (rw [frt_t rfl (by omega)]; done) | (rw [frt_f rfl (by omega)]; exact hi8.1), by have := ob.1.1; omega⟩) rfl
        · refine J_iconst hX dX10_top_76 ?_
          refine J_goto hX 81 dX10_top_77 (by decide) ?_
          refine J_istore hX dX10_top_81 (by decide) ?_
          refine J_iload hX dX10_top_83 rfl ?_
          refine J_if_eq hX 93 dX10_top_85 (by decide) (by decide) (fun h => absurd h (by decide)) (fun _ => ?_)
          refine J_iload hX dX10_top_88 rfl ?_
          refine J_goto hX 95 dX10_top_90 (by decide) ?_
          refine J_istore hX dX10_top_95 (by decide) ?_
          refine J_iinc hX dX10_top_97 rfl (by decide) ?_
          refine J_goto hX 8 dX10_top_100 (by decide) ?_
          exact J_locI (ih8 (k + 1) (by omega) (by omega) _ ⟨by first | (rw [frt_t rfl (by omega)]; done) | (rw [frt_f rfl (by omega)]; exact hi8.1), by have := ob.1.1; omega⟩) rfl
  exact J_locI (HL8 0 (Nat.zero_le _) _ ⟨rfl, by show (-1000 : Int) ≤ -1000 ∧ (-1000 : Int) < 20; decide⟩) rfl
-- X10_isTitle
set_option maxHeartbeats 4000000 in
set_option maxRecDepth 100000 in
theorem m_X10_isTitle {E : EE} {K : Nat → Nat} {M : MM} {r : Nat} {T : Int} {S : MM} {l c row : Int} (hM : ModelK K r) (hR : RS S (M (r + 1))) (hW : WFS T S) (hSv : Sur M r S) (hl : l = 0 ∨ l = 1) (hc : -10000 ≤ c ∧ c ≤ 10000) (hrow : 0 ≤ row ∧ row ≤ 10000) : CnB E 2 yX10_isTitle cX10_isTitle 4 [.ref r, vI l, vI c, vI row] K M (row = (ttl S).1 ∧ tco S l ≤ c ∧ c < tco S l + S 0 7) := by
  obtain ⟨⟨rs0, rs1, rs2, rs3, rs4, rs5, rs6, rs7, rs8, rs9, rs10, rs13⟩, rst, rsn, rsc⟩ := id hR
  have hs9 := hW.2.1
  unfold WFSs at hs9
  have st := Sur_t hSv hW
  refine Cn_of RX10 (plainFor_of_name (by decide)) rfl (Nat.le_of_ble_eq_true rfl) (fun X hX hQ => ?_)
  refine J_aload_n hX dX10_isTitle_0 rfl ?_
  refine J_geti hX fi_RX10_196 dX10_isTitle_1 (show K (r) = 9 from hM 0 (by decide)) (fun r1 => ?_)
  refine J_if_eq hX 52 dX10_isTitle_4 (by omega) (by decide) (fun c4 => ?_) (fun c4 => ?_)
  · refine J_iconst hX dX10_isTitle_52 ?_
    exact J_retF hX hQ dX10_isTitle_53 (by rcases st with ⟨a1, a2, a3, a4, a5, a6, a7⟩ | ⟨a1, a2, a3, a4⟩; (have a8 := a5 l; have h11 := (rst.resolve_left a7).1; first | omega | (rw [h11] at c45; omega)); (have a8 := a4 l; omega)) rfl rfl (Nat.zero_le _) (Nat.zero_le _)
  · refine J_iload_n hX dX10_isTitle_7 rfl ?_
    refine J_aload_n hX dX10_isTitle_8 rfl ?_
    refine J_geti hX fi_RX10_204 dX10_isTitle_9 (show K (r) = 9 from hM 0 (by decide)) (fun r9 => ?_)
    refine J_icmp_ne hX 52 dX10_isTitle_12 (by omega) (by omega) (by decide) (fun c12 => ?_) (fun c12 => ?_)
    · refine J_iconst hX dX10_isTitle_52 ?_
      exact J_retF hX hQ dX10_isTitle_53 (by rcases st with ⟨a1, a2, a3, a4, a5, a6, a7⟩ | ⟨a1, a2, a3, a4⟩; (have a8 := a5 l; have h11 := (rst.resolve_left a7).1; first | omega | (rw [h11] at c45; omega)); (have a8 := a4 l; omega)) rfl rfl (Nat.zero_le _) (Nat.zero_le _)
    · have hsh := st.resolve_right (fun h => by omega)
      have h11 := (rst.resolve_left hsh.2.2.2.2.2.2).1
      have cor : -1000 ≤ co l (M (r + 1) 11) (M r 19) ∧ co l (M (r + 1) 11) (M r 19) ≤ 1000 := by unfold co; split <;> omega
      refine J_iload_n hX dX10_isTitle_15 rfl ?_
      refine J_aload_n hX dX10_isTitle_16 rfl ?_
      refine J_gr hX (r + 1) fr_RX10_7 dX10_isTitle_17 (show K (r) = 9 from hM 0 (by decide)) rfl ?_
      refine J_bipush hX dX10_isTitle_20 rfl ?_
      refine J_iald hX dX10_isTitle_22 (show K (r + 1) = 1000 + 198 from hM 1 (by decide)) ⟨by omega, by omega⟩ (by decide) (fun r22 => ?_)
      refine J_aload_n hX dX10_isTitle_23 rfl ?_
      refine J_geti hX fi_RX10_207 dX10_isTitle_24 (show K (r) = 9 from hM 0 (by decide)) (fun r24 => ?_)
      refine J_iload_n hX dX10_isTitle_27 rfl ?_
      refine J_callSI hX _ dX10_isTitle_28 cw_RX10_166 (m_X10_column (by omega) (by omega) (by omega)) rfl (Nat.le_of_ble_eq_true rfl) (by decide) ⟨Nat.zero_le _, Nat.zero_le _⟩ (fun r28 => ?_)
      refine J_isub hX dX10_isTitle_31 ?_
      refine J_iconst hX dX10_isTitle_32 ?_
      refine J_aload_n hX dX10_isTitle_33 rfl ?_
      refine J_gr hX (r + 1) fr_RX10_7 dX10_isTitle_34 (show K (r) = 9 from hM 0 (by decide)) rfl ?_
      refine J_bipush hX dX10_isTitle_37 rfl ?_
      refine J_iald hX dX10_isTitle_39 (show K (r + 1) = 1000 + 198 from hM 1 (by decide)) ⟨by omega, by omega⟩ (by decide) (fun r39 => ?_)
      refine J_iconst hX dX10_isTitle_40 ?_
      refine J_isub hX dX10_isTitle_41 ?_
      refine J_callSB hX _ dX10_isTitle_42 cw_RX10_58 (m_X10_in (by omega) (by omega) (by omega)) rfl (Nat.le_of_ble_eq_true rfl) (by decide) ⟨Nat.zero_le _, Nat.zero_le _⟩ ?_
      refine J_ifb_eq hX 52 dX10_isTitle_45 (by decide) (fun c45 => ?_) (fun c45 => ?_)
      · refine J_iconst hX dX10_isTitle_52 ?_
        exact J_retF hX hQ dX10_isTitle_53 (by rcases st with ⟨a1, a2, a3, a4, a5, a6, a7⟩ | ⟨a1, a2, a3, a4⟩; (have a8 := a5 l; have h11 := (rst.resolve_left a7).1; first | omega | (rw [h11] at c45; omega)); (have a8 := a4 l; omega)) rfl rfl (Nat.zero_le _) (Nat.zero_le _)
      · refine J_iconst hX dX10_isTitle_48 ?_
        refine J_goto hX 53 dX10_isTitle_49 (by decide) ?_
        exact J_retT hX hQ dX10_isTitle_53 (by rcases st with ⟨a1, a2, a3, a4, a5, a6, a7⟩ | ⟨a1, a2, a3, a4⟩; (have a8 := a5 l; have h11 := (rst.resolve_left a7).1; first | omega | (rw [h11] at c45; omega)); (have a8 := a4 l; omega)) rfl rfl (Nat.zero_le _) (Nat.zero_le _)
-- X10_shadeOf
set_option maxHeartbeats 4000000 in
set_option maxRecDepth 100000 in
theorem m_X10_shadeOf {E : EE} {K : Nat → Nat} {M : MM} {r : Nat} {T : Int} {S : MM} {l c row : Int} (hM : ModelK K r) (hR : RS S (M (r + 1))) (hW : WFS T S) (hSv : Sur M r S) (hl : l = 0 ∨ l = 1) (hc : 0 ≤ c ∧ c < S 0 3) (hrow : 0 ≤ row ∧ row ≤ 10000) : CnI E 4 yX10_shadeOf cX10_shadeOf 5 (Option.some FieldType.int) [.ref r, vI l, vI c, vI row] K M (shd S l c row) := by
  obtain ⟨⟨rs0, rs1, rs2, rs3, rs4, rs5, rs6, rs7, rs8, rs9, rs10, rs13⟩, rst, rsn, rsc⟩ := id hR
  have hs9 := hW.2.1
  unfold WFSs at hs9
  have b15 := hSv.2.2.1.1
  have b16 := hSv.2.2.1.2
  have wr1 := wnd_rng hW 1
  have wr0 := wnd_rng hW 0
  have fr := front_rng S l c row
  refine ⟨Cn_of RX10 (plainFor_of_name (by decide)) rfl (Nat.le_of_ble_eq_true rfl) (fun X hX hQ => ?_), by have := shd_rng hW l c row; omega⟩
  refine J_iload_n hX dX10_shadeOf_0 rfl ?_
  refine J_if_eq hX 15 dX10_shadeOf_1 (by omega) (by decide) (fun c1 => ?_) (fun c1 => ?_)
  · have eo : opn S l = 0 := if_pos c1
    have ec : cls S l = S 0 3 - wnd S 0 := if_pos c1
    refine J_iload_n hX dX10_shadeOf_15 rfl ?_
    refine J_aload_n hX dX10_shadeOf_16 rfl ?_
    refine J_gr hX (r + 1) fr_RX10_7 dX10_shadeOf_17 (show K (r) = 9 from hM 0 (by decide)) rfl ?_
    refine J_iconst hX dX10_shadeOf_20 ?_
    refine J_iald hX dX10_shadeOf_21 (show K (r + 1) = 1000 + 198 from hM 1 (by decide)) ⟨by omega, by omega⟩ (by decide) (fun r21 => ?_)
    refine J_aload_n hX dX10_shadeOf_22 rfl ?_
    refine J_geti hX fi_RX10_193 dX10_shadeOf_23 (show K (r) = 9 from hM 0 (by decide)) (fun r23 => ?_)
    refine J_isub hX dX10_shadeOf_26 ?_
    refine J_icmp_lt hX 32 dX10_shadeOf_27 (by omega) (by omega) (by decide) (fun c27 => ?_) (fun c27 => ?_)
    · refine J_aload_n hX dX10_shadeOf_32 rfl ?_
      refine J_iload_n hX dX10_shadeOf_33 rfl ?_
      refine J_iload_n hX dX10_shadeOf_34 rfl ?_
      refine J_iload_n hX dX10_shadeOf_35 rfl ?_
      refine J_callVI hX _ dX10_shadeOf_36 cw_RX10_250 (m_X10_top hM hR hW hSv.1 hl (by omega) (by omega)) ⟨(show K (r) = 9 from hM 0 (by decide)), by decide, by decide, rfl⟩ rfl (Nat.le_of_ble_eq_true rfl) (by decide) ⟨Nat.zero_le _, Nat.zero_le _⟩ (fun r36 => ?_)
      refine J_istore hX dX10_shadeOf_39 (by decide) ?_
      refine J_aload_n hX dX10_shadeOf_41 rfl ?_
      refine J_iload_n hX dX10_shadeOf_42 rfl ?_
      refine J_iload_n hX dX10_shadeOf_43 rfl ?_
      refine J_iload_n hX dX10_shadeOf_44 rfl ?_
      refine J_callVB hX _ dX10_shadeOf_45 cw_RX10_254 (m_X10_isTitle hM hR hW hSv hl (by omega) (by omega)) ⟨(show K (r) = 9 from hM 0 (by decide)), by decide, by decide, rfl⟩ rfl (Nat.le_of_ble_eq_true rfl) (by decide) ⟨Nat.zero_le _, Nat.zero_le _⟩ ?_
      refine J_ifb_eq hX 56 dX10_shadeOf_48 (by decide) (fun c48 => ?_) (fun c48 => ?_)
      · refine J_iload hX dX10_shadeOf_56 rfl ?_
        refine J_sipush hX dX10_shadeOf_58 rfl ?_
        refine J_icmp_ne hX 74 dX10_shadeOf_61 (by omega) (by decide) (by decide) (fun c61 => ?_) (fun c61 => ?_)
        · have fr2 := fr.resolve_left (by omega)
          have q8 := rsn (front S l c row) fr2.1.1.1 fr2.1.1.2.1
          have hw8 := hW.2.2.1 (front S l c row) fr2.1.1.1 fr2.1.1.2.1
          refine J_aload_n hX dX10_shadeOf_74 rfl ?_
          refine J_iload hX dX10_shadeOf_75 rfl ?_
          refine J_bipush hX dX10_shadeOf_77 rfl ?_
          refine J_callVI hX _ dX10_shadeOf_79 cw_RX10_62 (m_X10_of hM (by omega) (by omega) (by omega)) ⟨(show K (r) = 9 from hM 0 (by decide)), by decide, by decide, rfl⟩ rfl (Nat.le_of_ble_eq_true rfl) (by decide) ⟨Nat.zero_le _, Nat.zero_le _⟩ (fun r79 => ?_)
          exact J_retI hX hQ dX10_shadeOf_82 (by unfold shd; first | (rw [if_pos (by omega)]; done) | (rw [if_neg (by omega), if_pos (by assumption)]; done) | (rw [if_neg (by omega), if_neg (by assumption), if_neg (by omega)]; exact rs9) | (rw [if_neg (by omega), if_neg (by assumption), if_pos fr2.1.1]; exact q8.2.2.2.2.2.2)) rfl rfl (Nat.zero_le _) (Nat.zero_le _)
        · refine J_aload_n hX dX10_shadeOf_64 rfl ?_
          refine J_gr hX (r + 1) fr_RX10_7 dX10_shadeOf_65 (show K (r) = 9 from hM 0 (by decide)) rfl ?_
          refine J_bipush hX dX10_shadeOf_68 rfl ?_
          refine J_iald hX dX10_shadeOf_70 (show K (r + 1) = 1000 + 198 from hM 1 (by decide)) ⟨by omega, by omega⟩ (by decide) (fun r70 => ?_)
          refine J_goto hX 82 dX10_shadeOf_71 (by decide) ?_
          exact J_retI hX hQ dX10_shadeOf_82 (by unfold shd; first | (rw [if_pos (by omega)]; done) | (rw [if_neg (by omega), if_pos (by assumption)]; done) | (rw [if_neg (by omega), if_neg (by assumption), if_neg (by omega)]; exact rs9) | (rw [if_neg (by omega), if_neg (by assumption), if_pos fr2.1.1]; exact q8.2.2.2.2.2.2)) rfl rfl (Nat.zero_le _) (Nat.zero_le _)
      · refine J_bipush hX dX10_shadeOf_51 rfl ?_
        refine J_goto hX 82 dX10_shadeOf_53 (by decide) ?_
        exact J_retI hX hQ dX10_shadeOf_82 (by unfold shd; first | (rw [if_pos (by omega)]; done) | (rw [if_neg (by omega), if_pos (by assumption)]; done) | (rw [if_neg (by omega), if_neg (by assumption), if_neg (by omega)]; exact rs9) | (rw [if_neg (by omega), if_neg (by assumption), if_pos fr2.1.1]; exact q8.2.2.2.2.2.2)) rfl rfl (Nat.zero_le _) (Nat.zero_le _)
    · refine J_iconst hX dX10_shadeOf_30 ?_
      exact J_retI hX hQ dX10_shadeOf_31 (by unfold shd; first | (rw [if_pos (by omega)]; done) | (rw [if_neg (by omega), if_pos (by assumption)]; done) | (rw [if_neg (by omega), if_neg (by assumption), if_neg (by omega)]; exact rs9) | (rw [if_neg (by omega), if_neg (by assumption), if_pos fr2.1.1]; exact q8.2.2.2.2.2.2)) rfl rfl (Nat.zero_le _) (Nat.zero_le _)
  · have eo : opn S l = wnd S 1 := if_neg c1
    have ec : cls S l = S 0 3 := if_neg c1
    refine J_iload_n hX dX10_shadeOf_4 rfl ?_
    refine J_aload_n hX dX10_shadeOf_5 rfl ?_
    refine J_geti hX fi_RX10_190 dX10_shadeOf_6 (show K (r) = 9 from hM 0 (by decide)) (fun r6 => ?_)
    refine J_icmp_ge hX 32 dX10_shadeOf_9 (by omega) (by omega) (by decide) (fun c9 => ?_) (fun c9 => ?_)
    · refine J_aload_n hX dX10_shadeOf_32 rfl ?_
      refine J_iload_n hX dX10_shadeOf_33 rfl ?_
      refine J_iload_n hX dX10_shadeOf_34 rfl ?_
      refine J_iload_n hX dX10_shadeOf_35 rfl ?_
      refine J_callVI hX _ dX10_shadeOf_36 cw_RX10_250 (m_X10_top hM hR hW hSv.1 hl (by omega) (by omega)) ⟨(show K (r) = 9 from hM 0 (by decide)), by decide, by decide, rfl⟩ rfl (Nat.le_of_ble_eq_true rfl) (by decide) ⟨Nat.zero_le _, Nat.zero_le _⟩ (fun r36 => ?_)
      refine J_istore hX dX10_shadeOf_39 (by decide) ?_
      refine J_aload_n hX dX10_shadeOf_41 rfl ?_
      refine J_iload_n hX dX10_shadeOf_42 rfl ?_
      refine J_iload_n hX dX10_shadeOf_43 rfl ?_
      refine J_iload_n hX dX10_shadeOf_44 rfl ?_
      refine J_callVB hX _ dX10_shadeOf_45 cw_RX10_254 (m_X10_isTitle hM hR hW hSv hl (by omega) (by omega)) ⟨(show K (r) = 9 from hM 0 (by decide)), by decide, by decide, rfl⟩ rfl (Nat.le_of_ble_eq_true rfl) (by decide) ⟨Nat.zero_le _, Nat.zero_le _⟩ ?_
      refine J_ifb_eq hX 56 dX10_shadeOf_48 (by decide) (fun c48 => ?_) (fun c48 => ?_)
      · refine J_iload hX dX10_shadeOf_56 rfl ?_
        refine J_sipush hX dX10_shadeOf_58 rfl ?_
        refine J_icmp_ne hX 74 dX10_shadeOf_61 (by omega) (by decide) (by decide) (fun c61 => ?_) (fun c61 => ?_)
        · have fr2 := fr.resolve_left (by omega)
          have q8 := rsn (front S l c row) fr2.1.1.1 fr2.1.1.2.1
          have hw8 := hW.2.2.1 (front S l c row) fr2.1.1.1 fr2.1.1.2.1
          refine J_aload_n hX dX10_shadeOf_74 rfl ?_
          refine J_iload hX dX10_shadeOf_75 rfl ?_
          refine J_bipush hX dX10_shadeOf_77 rfl ?_
          refine J_callVI hX _ dX10_shadeOf_79 cw_RX10_62 (m_X10_of hM (by omega) (by omega) (by omega)) ⟨(show K (r) = 9 from hM 0 (by decide)), by decide, by decide, rfl⟩ rfl (Nat.le_of_ble_eq_true rfl) (by decide) ⟨Nat.zero_le _, Nat.zero_le _⟩ (fun r79 => ?_)
          exact J_retI hX hQ dX10_shadeOf_82 (by unfold shd; first | (rw [if_pos (by omega)]; done) | (rw [if_neg (by omega), if_pos (by assumption)]; done) | (rw [if_neg (by omega), if_neg (by assumption), if_neg (by omega)]; exact rs9) | (rw [if_neg (by omega), if_neg (by assumption), if_pos fr2.1.1]; exact q8.2.2.2.2.2.2)) rfl rfl (Nat.zero_le _) (Nat.zero_le _)
        · refine J_aload_n hX dX10_shadeOf_64 rfl ?_
          refine J_gr hX (r + 1) fr_RX10_7 dX10_shadeOf_65 (show K (r) = 9 from hM 0 (by decide)) rfl ?_
          refine J_bipush hX dX10_shadeOf_68 rfl ?_
          refine J_iald hX dX10_shadeOf_70 (show K (r + 1) = 1000 + 198 from hM 1 (by decide)) ⟨by omega, by omega⟩ (by decide) (fun r70 => ?_)
          refine J_goto hX 82 dX10_shadeOf_71 (by decide) ?_
          exact J_retI hX hQ dX10_shadeOf_82 (by unfold shd; first | (rw [if_pos (by omega)]; done) | (rw [if_neg (by omega), if_pos (by assumption)]; done) | (rw [if_neg (by omega), if_neg (by assumption), if_neg (by omega)]; exact rs9) | (rw [if_neg (by omega), if_neg (by assumption), if_pos fr2.1.1]; exact q8.2.2.2.2.2.2)) rfl rfl (Nat.zero_le _) (Nat.zero_le _)
      · refine J_bipush hX dX10_shadeOf_51 rfl ?_
        refine J_goto hX 82 dX10_shadeOf_53 (by decide) ?_
        exact J_retI hX hQ dX10_shadeOf_82 (by unfold shd; first | (rw [if_pos (by omega)]; done) | (rw [if_neg (by omega), if_pos (by assumption)]; done) | (rw [if_neg (by omega), if_neg (by assumption), if_neg (by omega)]; exact rs9) | (rw [if_neg (by omega), if_neg (by assumption), if_pos fr2.1.1]; exact q8.2.2.2.2.2.2)) rfl rfl (Nat.zero_le _) (Nat.zero_le _)
    · refine J_goto hX 30 dX10_shadeOf_12 (by decide) ?_
      refine J_iconst hX dX10_shadeOf_30 ?_
      exact J_retI hX hQ dX10_shadeOf_31 (by unfold shd; first | (rw [if_pos (by omega)]; done) | (rw [if_neg (by omega), if_pos (by assumption)]; done) | (rw [if_neg (by omega), if_neg (by assumption), if_neg (by omega)]; exact rs9) | (rw [if_neg (by omega), if_neg (by assumption), if_pos fr2.1.1]; exact q8.2.2.2.2.2.2)) rfl rfl (Nat.zero_le _) (Nat.zero_le _)
-- X10_isCell
set_option maxHeartbeats 4000000 in
set_option maxRecDepth 100000 in
theorem m_X10_isCell {E : EE} {K : Nat → Nat} {M : MM} {r : Nat} {T : Int} {S : MM} {c row : Int} (hM : ModelK K r) (hR : RS S (M (r + 1))) (hW : WFS T S) (hc : i32 c) (hrow : i32 row) : CnB E 1 yX10_isCell cX10_isCell 3 [.ref r, vI c, vI row] K M ((0 ≤ c ∧ c ≤ S 0 3 - 1) ∧ (0 ≤ row ∧ row ≤ S 0 4 - 1)) := by
  obtain ⟨⟨rs0, rs1, rs2, rs3, rs4, rs5, rs6, rs7, rs8, rs9, rs10, rs13⟩, rst, rsn, rsc⟩ := id hR
  have hs9 := hW.2.1
  unfold WFSs at hs9
  refine Cn_of RX10 (plainFor_of_name (by decide)) rfl (Nat.le_of_ble_eq_true rfl) (fun X hX hQ => ?_)
  refine J_iload_n hX dX10_isCell_0 rfl ?_
  refine J_iconst hX dX10_isCell_1 ?_
  refine J_aload_n hX dX10_isCell_2 rfl ?_
  refine J_gr hX (r + 1) fr_RX10_7 dX10_isCell_3 (show K (r) = 9 from hM 0 (by decide)) rfl ?_
  refine J_iconst hX dX10_isCell_6 ?_
  refine J_iald hX dX10_isCell_7 (show K (r + 1) = 1000 + 198 from hM 1 (by decide)) ⟨by omega, by omega⟩ (by decide) (fun r7 => ?_)
  refine J_iconst hX dX10_isCell_8 ?_
  refine J_isub hX dX10_isCell_9 ?_
  refine J_callSB hX _ dX10_isCell_10 cw_RX10_58 (m_X10_in (by omega) (by omega) (by omega)) rfl (Nat.le_of_ble_eq_true rfl) (by decide) ⟨Nat.zero_le _, Nat.zero_le _⟩ ?_
  refine J_ifb_eq hX 36 dX10_isCell_13 (by decide) (fun c13 => ?_) (fun c13 => ?_)
  · refine J_iconst hX dX10_isCell_36 ?_
    exact J_retF hX hQ dX10_isCell_37 (by omega) rfl rfl (Nat.zero_le _) (Nat.zero_le _)
  · refine J_iload_n hX dX10_isCell_16 rfl ?_
    refine J_iconst hX dX10_isCell_17 ?_
    refine J_aload_n hX dX10_isCell_18 rfl ?_
    refine J_gr hX (r + 1) fr_RX10_7 dX10_isCell_19 (show K (r) = 9 from hM 0 (by decide)) rfl ?_
    refine J_iconst hX dX10_isCell_22 ?_
    refine J_iald hX dX10_isCell_23 (show K (r + 1) = 1000 + 198 from hM 1 (by decide)) ⟨by omega, by omega⟩ (by decide) (fun r23 => ?_)
    refine J_iconst hX dX10_isCell_24 ?_
    refine J_isub hX dX10_isCell_25 ?_
    refine J_callSB hX _ dX10_isCell_26 cw_RX10_58 (m_X10_in (by omega) (by omega) (by omega)) rfl (Nat.le_of_ble_eq_true rfl) (by decide) ⟨Nat.zero_le _, Nat.zero_le _⟩ ?_
    refine J_ifb_eq hX 36 dX10_isCell_29 (by decide) (fun c29 => ?_) (fun c29 => ?_)
    · refine J_iconst hX dX10_isCell_36 ?_
      exact J_retF hX hQ dX10_isCell_37 (by omega) rfl rfl (Nat.zero_le _) (Nat.zero_le _)
    · refine J_iconst hX dX10_isCell_32 ?_
      refine J_goto hX 37 dX10_isCell_33 (by decide) ?_
      exact J_retT hX hQ dX10_isCell_37 (by omega) rfl rfl (Nat.zero_le _) (Nat.zero_le _)
-- X10_ghostOf
set_option maxHeartbeats 4000000 in
set_option maxRecDepth 100000 in
theorem m_X10_ghostOf {E : EE} {K : Nat → Nat} {M : MM} {r : Nat} {T : Int} {S : MM} {c row : Int} (hM : ModelK K r) (hR : RS S (M (r + 1))) (hW : WFS T S) (hSv : Sur M r S) (hc : 0 ≤ c ∧ c < S 0 3) (hrow : 0 ≤ row ∧ row ≤ 10000) : CnI E 5 yX10_ghostOf cX10_ghostOf 4 (Option.some FieldType.int) [.ref r, vI c, vI row] K M (ghs S c row) := by
  obtain ⟨⟨rs0, rs1, rs2, rs3, rs4, rs5, rs6, rs7, rs8, rs9, rs10, rs13⟩, rst, rsn, rsc⟩ := id hR
  have hs9 := hW.2.1
  unfold WFSs at hs9
  have h1 := shd_rng hW 1 c row
  have h0 := shd_rng hW 0 c row
  have mbA := mul_bd (x := S 15 3) (y := shd S 1 c row - shd S 0 c row) (A := 100) (B := 15) (by omega) (by omega) (by omega) (by omega)
  have mbB := mul_bd (x := S 15 3) (y := -(shd S 1 c row - shd S 0 c row)) (A := 100) (B := 15) (by omega) (by omega) (by omega) (by omega)
  refine ⟨Cn_of RX10 (plainFor_of_name (by decide)) rfl (Nat.le_of_ble_eq_true rfl) (fun X hX hQ => ?_), by have := ghs_rng hW c row; omega⟩
  refine J_aload_n hX dX10_ghostOf_0 rfl ?_
  refine J_iconst hX dX10_ghostOf_1 ?_
  refine J_iload_n hX dX10_ghostOf_2 rfl ?_
  refine J_iload_n hX dX10_ghostOf_3 rfl ?_
  refine J_callVI hX _ dX10_ghostOf_4 cw_RX10_261 (m_X10_shadeOf hM hR hW hSv (by decide) (by omega) (by omega)) ⟨(show K (r) = 9 from hM 0 (by decide)), by decide, by decide, rfl⟩ rfl (Nat.le_of_ble_eq_true rfl) (by decide) ⟨Nat.zero_le _, Nat.zero_le _⟩ (fun r4 => ?_)
  refine J_aload_n hX dX10_ghostOf_7 rfl ?_
  refine J_iconst hX dX10_ghostOf_8 ?_
  refine J_iload_n hX dX10_ghostOf_9 rfl ?_
  refine J_iload_n hX dX10_ghostOf_10 rfl ?_
  refine J_callVI hX _ dX10_ghostOf_11 cw_RX10_261 (m_X10_shadeOf hM hR hW hSv (by decide) (by omega) (by omega)) ⟨(show K (r) = 9 from hM 0 (by decide)), by decide, by decide, rfl⟩ rfl (Nat.le_of_ble_eq_true rfl) (by decide) ⟨Nat.zero_le _, Nat.zero_le _⟩ (fun r11 => ?_)
  refine J_isub hX dX10_ghostOf_14 ?_
  refine J_istore_n hX dX10_ghostOf_15 (by decide) ?_
  refine J_aload_n hX dX10_ghostOf_16 rfl ?_
  refine J_gr hX (r + 1) fr_RX10_7 dX10_ghostOf_17 (show K (r) = 9 from hM 0 (by decide)) rfl ?_
  refine J_bipush hX dX10_ghostOf_20 rfl ?_
  refine J_iald hX dX10_ghostOf_22 (show K (r + 1) = 1000 + 198 from hM 1 (by decide)) ⟨by omega, by omega⟩ (by decide) (fun r22 => ?_)
  rw [rs10]
  refine J_iload_n hX dX10_ghostOf_23 rfl ?_
  refine J_if_ge hX 32 dX10_ghostOf_24 (by omega) (by decide) (fun c24 => ?_) (fun c24 => ?_)
  · refine J_iload_n hX dX10_ghostOf_32 rfl ?_
    refine J_imul hX dX10_ghostOf_33 ?_
    refine J_bipush hX dX10_ghostOf_34 rfl ?_
    refine J_idiv hX dX10_ghostOf_36 (by omega) ⟨by omega, by omega⟩ ?_
    exact J_retI hX hQ dX10_ghostOf_37 (by show _ = S 15 3 * (if shd S 1 c row - shd S 0 c row < 0 then -(shd S 1 c row - shd S 0 c row) else shd S 1 c row - shd S 0 c row) / 100; first | (rw [if_pos (by omega), Int.tdiv_eq_ediv_of_nonneg (Int.mul_nonneg (by omega) (by omega))]; done) | (rw [if_neg (by omega), Int.tdiv_eq_ediv_of_nonneg (Int.mul_nonneg (by omega) (by omega))]; done)) rfl rfl (Nat.zero_le _) (Nat.zero_le _)
  · refine J_iload_n hX dX10_ghostOf_27 rfl ?_
    refine J_ineg hX dX10_ghostOf_28 ?_
    refine J_goto hX 33 dX10_ghostOf_29 (by decide) ?_
    refine J_imul hX dX10_ghostOf_33 ?_
    refine J_bipush hX dX10_ghostOf_34 rfl ?_
    refine J_idiv hX dX10_ghostOf_36 (by omega) ⟨by omega, by omega⟩ ?_
    exact J_retI hX hQ dX10_ghostOf_37 (by show _ = S 15 3 * (if shd S 1 c row - shd S 0 c row < 0 then -(shd S 1 c row - shd S 0 c row) else shd S 1 c row - shd S 0 c row) / 100; first | (rw [if_pos (by omega), Int.tdiv_eq_ediv_of_nonneg (Int.mul_nonneg (by omega) (by omega))]; done) | (rw [if_neg (by omega), Int.tdiv_eq_ediv_of_nonneg (Int.mul_nonneg (by omega) (by omega))]; done)) rfl rfl (Nat.zero_le _) (Nat.zero_le _)
