/-! the reference's faces: changes -/
theorem gA_0 {S : MM} {p u v w : Int} (h : gA S p u v w = 0) : (p = -1000 ∨ hs S p) ∧ ¬ bx S p ∧ plc u v w ∧ S 1 0 < 20 ∧ (if hs S p then S 3 p + 1 else 0) ≤ 5 := by
  unfold gA at h
  by_cases h1 : p ≠ -1000 ∧ ¬ hs S p
  · rw [if_pos h1] at h; omega
  rw [if_neg h1] at h
  by_cases h2 : bx S p ∨ ¬ plc u v w
  · rw [if_pos h2] at h; omega
  rw [if_neg h2] at h
  by_cases h3 : 20 ≤ S 1 0 ∨ 5 < (if hs S p then S 3 p + 1 else 0)
  · rw [if_pos h3] at h; omega
  exact ⟨by omega, fun q => h2 (Or.inl q), by omega, by omega, by omega⟩
theorem gB_0 {S : MM} {p u v w wd hg : Int} (h : gB S p u v w wd hg = 0) : gA S p u v w = 0 ∧ (1 ≤ wd ∧ wd ≤ 100) ∧ (1 ≤ hg ∧ hg ≤ 100) := by
  unfold gB at h
  split at h
  · omega
  · exact ⟨h, by omega, by omega⟩
abbrev arS (S : MM) (p : Int) : Int := if hs S p then S 3 p + 1 else 0
-- X10_begin
set_option maxHeartbeats 4000000 in
set_option maxRecDepth 100000 in
theorem m_X10_begin {E : EE} {K : Nat → Nat} {M : MM} {r : Nat} {T : Int} {S : MM} {w h : Int} (hM : ModelK K r) (hR : RS S (M (r + 1))) (hW : WFS T S) (hw : i32 w) (hh : i32 h) (h3 : 0 ≤ M r 3 ∧ M r 3 ≤ 4) : CnM E 4 yX10_begin cX10_begin 3 (Option.some FieldType.int) [.ref r, vI w, vI h] K M (fun r9 M2 => ChM M r (if (20 ≤ w ∧ w ≤ 200) ∧ (10 ≤ h ∧ h ≤ 120) then 0 else 1) (S 11 1) (begS S w h) r9 M2) := by
  obtain ⟨⟨rs0, rs1, rs2, rs3, rs4, rs5, rs6, rs7, rs8, rs9, rs10, rs13⟩, rst, rsn, rsc⟩ := id hR
  have hs9 := hW.2.1
  unfold WFSs at hs9
  refine Cn_of RX10 (plainFor_of_name (by decide)) rfl (Nat.le_of_ble_eq_true rfl) (fun X hX hQ => ?_)
  refine J_aload_n hX dX10_begin_0 rfl ?_
  refine J_iload_n hX dX10_begin_1 rfl ?_
  refine J_iload_n hX dX10_begin_2 rfl ?_
  refine J_callSI hX _ dX10_begin_3 cw_RX10_66 (m_X10_notBegin (by omega) (by omega)) rfl (Nat.le_of_ble_eq_true rfl) (by decide) ⟨Nat.zero_le _, Nat.zero_le _⟩ (fun r3 => ?_)
  refine J_putA hX fw_RX10_47 dX10_begin_6 (show K (r) = 9 from hM 0 (by decide)) (by omega) (Or.inl rfl) (fun m6 hm6 => ?_)
  have fm6 : ∀ i, i ≠ r → m6 i = M i := fun i h => by rw [hm6]; exact mset_ne h
  have gm6 : ∀ i j, j ≠ 6 → m6 i j = M i j := fun i j h => by rw [hm6]; exact mset_nj h
  have vm6 := (congrFun (congrFun hm6 (r)) 6).trans mset_eq
  have hRm : RS S (m6 (r + 1)) := by rw [fm6 _ (by omega)]; exact hR
  have h3b : 0 ≤ m6 r 3 ∧ m6 r 3 ≤ 4 := by rw [gm6 _ 3 (by decide)]; exact h3
  have ec : m6 r 6 = (if (20 ≤ w ∧ w ≤ 200) ∧ (10 ≤ h ∧ h ≤ 120) then 0 else 1) := by first | exact vm6 | exact vm6.trans (by (repeat' split) <;> omega)
  refine J_aload_n hX dX10_begin_9 rfl ?_
  refine J_geti hX fi_RX10_47 dX10_begin_10 (show K (r) = 9 from hM 0 (by decide)) (fun r10 => ?_)
  refine J_if_eq hX 18 dX10_begin_13 (by omega) (by decide) (fun c13 => ?_) (fun c13 => ?_)
  · have ez : (if (20 ≤ w ∧ w ≤ 200) ∧ (10 ≤ h ∧ h ≤ 120) then 0 else 1) = (0 : Int) := by rw [← ec]; first | assumption | exact vm6
    refine J_aload_n hX dX10_begin_18 rfl ?_
    refine J_callVM hX _ dX10_begin_19 cw_RX10_69 (m_X10_keep hM h3b) ⟨(show K (r) = 9 from hM 0 (by decide)), by decide, by decide, rfl⟩ rfl (Nat.le_of_ble_eq_true rfl) (by decide) ⟨Nat.zero_le _, Nat.zero_le _⟩ (fun r9 M19 q19 => ?_)
    obtain ⟨rfl, kpM19⟩ := q19
    have hRk : RS S (M19 (r + 1)) := by rw [kpM19.row (by omega) (by omega)]; exact hRm
    obtain ⟨⟨k0, k1, k2, k3, k4, k5, k6, k7, k8, k9, k10, k13⟩, kt, kn, kc⟩ := id hRk
    refine J_aload_n hX dX10_begin_22 rfl ?_
    refine J_iload_n hX dX10_begin_23 rfl ?_
    refine J_iload_n hX dX10_begin_24 rfl ?_
    refine J_callVM hX _ dX10_begin_25 cw_RX10_72 (m_X10_begins hM (by omega) (by omega)) ⟨(show K (r) = 9 from hM 0 (by decide)), by decide, by decide, rfl⟩ rfl (Nat.le_of_ble_eq_true rfl) (by decide) ⟨Nat.zero_le _, Nat.zero_le _⟩ (fun r9 M25 q25 => ?_)
    obtain ⟨rfl, rfl⟩ := q25
    exact J_iret hX hQ dX10_begin_28 ⟨rfl, by first | exact ⟨m6, ⟨ec, fm6, gm6 r⟩, Or.inl ⟨by rw [← ec]; assumption, rfl, rfl⟩⟩ | exact ⟨m6, ⟨ec, fm6, gm6 r⟩, Or.inr ⟨ez, by rw [k4], M19, kpM19, fun i i1 _ => an_row i1, RS_an hRk⟩⟩⟩ (Nat.zero_le _) (Nat.zero_le _)
  · refine J_iconst hX dX10_begin_16 ?_
    exact J_iret hX hQ dX10_begin_17 ⟨rfl, by first | exact ⟨m6, ⟨ec, fm6, gm6 r⟩, Or.inl ⟨by rw [← ec]; assumption, rfl, rfl⟩⟩ | exact ⟨m6, ⟨ec, fm6, gm6 r⟩, Or.inr ⟨ez, by rw [k4], M19, kpM19, fun i i1 _ => an_row i1, RS_an hRk⟩⟩⟩ (Nat.zero_le _) (Nat.zero_le _)
-- X10_addGroup
set_option maxHeartbeats 4000000 in
set_option maxRecDepth 100000 in
theorem m_X10_addGroup {E : EE} {K : Nat → Nat} {M : MM} {r : Nat} {T : Int} {S : MM} {p u v w : Int} (hM : ModelK K r) (hR : RS S (M (r + 1))) (hW : WFS T S) (hp : i32 p) (hu : i32 u) (hv : i32 v) (hw : i32 w) (h3 : 0 ≤ M r 3 ∧ M r 3 ≤ 4) : CnM E 4 yX10_addGroup cX10_addGroup 5 (Option.some FieldType.int) [.ref r, vI p, vI u, vI v, vI w] K M (fun r9 M2 => ChM M r (gA S p u v w) (S 1 0) (adS S (arS S p) p u v w 0 0) r9 M2) := by
  obtain ⟨⟨rs0, rs1, rs2, rs3, rs4, rs5, rs6, rs7, rs8, rs9, rs10, rs13⟩, rst, rsn, rsc⟩ := id hR
  have hs9 := hW.2.1
  unfold WFSs at hs9
  refine Cn_of RX10 (plainFor_of_name (by decide)) rfl (Nat.le_of_ble_eq_true rfl) (fun X hX hQ => ?_)
  refine J_aload_n hX dX10_addGroup_0 rfl ?_
  refine J_aload_n hX dX10_addGroup_1 rfl ?_
  refine J_iload_n hX dX10_addGroup_2 rfl ?_
  refine J_iload_n hX dX10_addGroup_3 rfl ?_
  refine J_iload_n hX dX10_addGroup_4 rfl ?_
  refine J_iload hX dX10_addGroup_5 rfl ?_
  refine J_callVI hX _ dX10_addGroup_7 cw_RX10_89 (m_X10_notAdd hM hR hW (by omega) (by omega) (by omega) (by omega)) ⟨(show K (r) = 9 from hM 0 (by decide)), by decide, by decide, rfl⟩ rfl (Nat.le_of_ble_eq_true rfl) (by decide) ⟨Nat.zero_le _, Nat.zero_le _⟩ (fun r7 => ?_)
  refine J_putA hX fw_RX10_47 dX10_addGroup_10 (show K (r) = 9 from hM 0 (by decide)) (by omega) (Or.inl rfl) (fun m10 hm10 => ?_)
  have fm10 : ∀ i, i ≠ r → m10 i = M i := fun i h => by rw [hm10]; exact mset_ne h
  have gm10 : ∀ i j, j ≠ 6 → m10 i j = M i j := fun i j h => by rw [hm10]; exact mset_nj h
  have vm10 := (congrFun (congrFun hm10 (r)) 6).trans mset_eq
  have hRm : RS S (m10 (r + 1)) := by rw [fm10 _ (by omega)]; exact hR
  have h3b : 0 ≤ m10 r 3 ∧ m10 r 3 ≤ 4 := by rw [gm10 _ 3 (by decide)]; exact h3
  have ec : m10 r 6 = (gA S p u v w) := by first | exact vm10 | exact vm10.trans (by (repeat' split) <;> omega)
  refine J_aload_n hX dX10_addGroup_13 rfl ?_
  refine J_geti hX fi_RX10_47 dX10_addGroup_14 (show K (r) = 9 from hM 0 (by decide)) (fun r14 => ?_)
  refine J_if_eq hX 22 dX10_addGroup_17 (by omega) (by decide) (fun c17 => ?_) (fun c17 => ?_)
  · have ez : (gA S p u v w) = (0 : Int) := by rw [← ec]; first | assumption | exact vm10
    have g0 := (gA_0 ez).2.2.2.1
    refine J_aload_n hX dX10_addGroup_22 rfl ?_
    refine J_callVM hX _ dX10_addGroup_23 cw_RX10_69 (m_X10_keep hM h3b) ⟨(show K (r) = 9 from hM 0 (by decide)), by decide, by decide, rfl⟩ rfl (Nat.le_of_ble_eq_true rfl) (by decide) ⟨Nat.zero_le _, Nat.zero_le _⟩ (fun r9 M23 q23 => ?_)
    obtain ⟨rfl, kpM23⟩ := q23
    have hRk : RS S (M23 (r + 1)) := by rw [kpM23.row (by omega) (by omega)]; exact hRm
    obtain ⟨⟨k0, k1, k2, k3, k4, k5, k6, k7, k8, k9, k10, k13⟩, kt, kn, kc⟩ := id hRk
    refine J_aload_n hX dX10_addGroup_26 rfl ?_
    refine J_iload_n hX dX10_addGroup_27 rfl ?_
    refine J_iload_n hX dX10_addGroup_28 rfl ?_
    refine J_iload_n hX dX10_addGroup_29 rfl ?_
    refine J_iload hX dX10_addGroup_30 rfl ?_
    refine J_iconst hX dX10_addGroup_32 ?_
    refine J_iconst hX dX10_addGroup_33 ?_
    refine J_callVM hX _ dX10_addGroup_34 cw_RX10_93 (m_X10_adds hM (by omega) (by omega) (by omega) (by omega) (by omega) (by omega) (by omega)) ⟨(show K (r) = 9 from hM 0 (by decide)), by decide, by decide, rfl⟩ rfl (Nat.le_of_ble_eq_true rfl) (by decide) ⟨Nat.zero_le _, Nat.zero_le _⟩ (fun r9 M34 q34 => ?_)
    obtain ⟨rfl, rfl⟩ := q34
    exact J_iret hX hQ dX10_addGroup_37 ⟨rfl, by first | exact ⟨m10, ⟨ec, fm10, gm10 r⟩, Or.inl ⟨by rw [← ec]; assumption, rfl, rfl⟩⟩ | exact ⟨m10, ⟨ec, fm10, gm10 r⟩, Or.inr ⟨ez, by rw [k2], M23, kpM23, fun i i1 _ => ad_row i1, RS_ad _ hRk (by omega)⟩⟩⟩ (Nat.zero_le _) (Nat.zero_le _)
  · refine J_iconst hX dX10_addGroup_20 ?_
    exact J_iret hX hQ dX10_addGroup_21 ⟨rfl, by first | exact ⟨m10, ⟨ec, fm10, gm10 r⟩, Or.inl ⟨by rw [← ec]; assumption, rfl, rfl⟩⟩ | exact ⟨m10, ⟨ec, fm10, gm10 r⟩, Or.inr ⟨ez, by rw [k2], M23, kpM23, fun i i1 _ => ad_row i1, RS_ad _ hRk (by omega)⟩⟩⟩ (Nat.zero_le _) (Nat.zero_le _)
-- X10_addBox
set_option maxHeartbeats 4000000 in
set_option maxRecDepth 100000 in
theorem m_X10_addBox {E : EE} {K : Nat → Nat} {M : MM} {r : Nat} {T : Int} {S : MM} {p u v w wd hg : Int} (hM : ModelK K r) (hR : RS S (M (r + 1))) (hW : WFS T S) (hp : i32 p) (hu : i32 u) (hv : i32 v) (hw : i32 w) (hwd : i32 wd) (hhg : i32 hg) (h3 : 0 ≤ M r 3 ∧ M r 3 ≤ 4) : CnM E 4 yX10_addBox cX10_addBox 7 (Option.some FieldType.int) [.ref r, vI p, vI u, vI v, vI w, vI wd, vI hg] K M (fun r9 M2 => ChM M r (gB S p u v w wd hg) (S 1 0) (adS S (arS S p) p u v w wd hg) r9 M2) := by
  obtain ⟨⟨rs0, rs1, rs2, rs3, rs4, rs5, rs6, rs7, rs8, rs9, rs10, rs13⟩, rst, rsn, rsc⟩ := id hR
  have hs9 := hW.2.1
  unfold WFSs at hs9
  refine Cn_of RX10 (plainFor_of_name (by decide)) rfl (Nat.le_of_ble_eq_true rfl) (fun X hX hQ => ?_)
  refine J_aload_n hX dX10_addBox_0 rfl ?_
  refine J_aload_n hX dX10_addBox_1 rfl ?_
  refine J_iload_n hX dX10_addBox_2 rfl ?_
  refine J_iload_n hX dX10_addBox_3 rfl ?_
  refine J_iload_n hX dX10_addBox_4 rfl ?_
  refine J_iload hX dX10_addBox_5 rfl ?_
  refine J_iload hX dX10_addBox_7 rfl ?_
  refine J_iload hX dX10_addBox_9 rfl ?_
  refine J_callVI hX _ dX10_addBox_11 cw_RX10_97 (m_X10_notBox hM hR hW (by omega) (by omega) (by omega) (by omega) (by omega) (by omega)) ⟨(show K (r) = 9 from hM 0 (by decide)), by decide, by decide, rfl⟩ rfl (Nat.le_of_ble_eq_true rfl) (by decide) ⟨Nat.zero_le _, Nat.zero_le _⟩ (fun r11 => ?_)
  refine J_putA hX fw_RX10_47 dX10_addBox_14 (show K (r) = 9 from hM 0 (by decide)) (by omega) (Or.inl rfl) (fun m14 hm14 => ?_)
  have fm14 : ∀ i, i ≠ r → m14 i = M i := fun i h => by rw [hm14]; exact mset_ne h
  have gm14 : ∀ i j, j ≠ 6 → m14 i j = M i j := fun i j h => by rw [hm14]; exact mset_nj h
  have vm14 := (congrFun (congrFun hm14 (r)) 6).trans mset_eq
  have hRm : RS S (m14 (r + 1)) := by rw [fm14 _ (by omega)]; exact hR
  have h3b : 0 ≤ m14 r 3 ∧ m14 r 3 ≤ 4 := by rw [gm14 _ 3 (by decide)]; exact h3
  have ec : m14 r 6 = (gB S p u v w wd hg) := by first | exact vm14 | exact vm14.trans (by (repeat' split) <;> omega)
  refine J_aload_n hX dX10_addBox_17 rfl ?_
  refine J_geti hX fi_RX10_47 dX10_addBox_18 (show K (r) = 9 from hM 0 (by decide)) (fun r18 => ?_)
  refine J_if_eq hX 26 dX10_addBox_21 (by omega) (by decide) (fun c21 => ?_) (fun c21 => ?_)
  · have ez : (gB S p u v w wd hg) = (0 : Int) := by rw [← ec]; first | assumption | exact vm14
    have g0 := (gA_0 (gB_0 ez).1).2.2.2.1
    refine J_aload_n hX dX10_addBox_26 rfl ?_
    refine J_callVM hX _ dX10_addBox_27 cw_RX10_69 (m_X10_keep hM h3b) ⟨(show K (r) = 9 from hM 0 (by decide)), by decide, by decide, rfl⟩ rfl (Nat.le_of_ble_eq_true rfl) (by decide) ⟨Nat.zero_le _, Nat.zero_le _⟩ (fun r9 M27 q27 => ?_)
    obtain ⟨rfl, kpM27⟩ := q27
    have hRk : RS S (M27 (r + 1)) := by rw [kpM27.row (by omega) (by omega)]; exact hRm
    obtain ⟨⟨k0, k1, k2, k3, k4, k5, k6, k7, k8, k9, k10, k13⟩, kt, kn, kc⟩ := id hRk
    refine J_aload_n hX dX10_addBox_30 rfl ?_
    refine J_iload_n hX dX10_addBox_31 rfl ?_
    refine J_iload_n hX dX10_addBox_32 rfl ?_
    refine J_iload_n hX dX10_addBox_33 rfl ?_
    refine J_iload hX dX10_addBox_34 rfl ?_
    refine J_iload hX dX10_addBox_36 rfl ?_
    refine J_iload hX dX10_addBox_38 rfl ?_
    refine J_callVM hX _ dX10_addBox_40 cw_RX10_93 (m_X10_adds hM (by omega) (by omega) (by omega) (by omega) (by omega) (by omega) (by omega)) ⟨(show K (r) = 9 from hM 0 (by decide)), by decide, by decide, rfl⟩ rfl (Nat.le_of_ble_eq_true rfl) (by decide) ⟨Nat.zero_le _, Nat.zero_le _⟩ (fun r9 M40 q40 => ?_)
    obtain ⟨rfl, rfl⟩ := q40
    exact J_iret hX hQ dX10_addBox_43 ⟨rfl, by first | exact ⟨m14, ⟨ec, fm14, gm14 r⟩, Or.inl ⟨by rw [← ec]; assumption, rfl, rfl⟩⟩ | exact ⟨m14, ⟨ec, fm14, gm14 r⟩, Or.inr ⟨ez, by rw [k2], M27, kpM27, fun i i1 _ => ad_row i1, RS_ad _ hRk (by omega)⟩⟩⟩ (Nat.zero_le _) (Nat.zero_le _)
  · refine J_iconst hX dX10_addBox_24 ?_
    exact J_iret hX hQ dX10_addBox_25 ⟨rfl, by first | exact ⟨m14, ⟨ec, fm14, gm14 r⟩, Or.inl ⟨by rw [← ec]; assumption, rfl, rfl⟩⟩ | exact ⟨m14, ⟨ec, fm14, gm14 r⟩, Or.inr ⟨ez, by rw [k2], M27, kpM27, fun i i1 _ => ad_row i1, RS_ad _ hRk (by omega)⟩⟩⟩ (Nat.zero_le _) (Nat.zero_le _)
-- X10_move
set_option maxHeartbeats 4000000 in
set_option maxRecDepth 100000 in
theorem m_X10_move {E : EE} {K : Nat → Nat} {M : MM} {r : Nat} {T : Int} {S : MM} {n u v w : Int} (hM : ModelK K r) (hR : RS S (M (r + 1))) (hW : WFS T S) (hn : i32 n) (hu : i32 u) (hv : i32 v) (hw : i32 w) (h3 : 0 ≤ M r 3 ∧ M r 3 ≤ 4) : CnM E 4 yX10_move cX10_move 5 (Option.some FieldType.int) [.ref r, vI n, vI u, vI v, vI w] K M (fun r9 M2 => ChM M r (if ¬ hs S n then 1 else if plc u v w then 0 else 2) (S 6 n) (mset (mset (mset S 4 n u) 5 n v) 6 n w) r9 M2) := by
  obtain ⟨⟨rs0, rs1, rs2, rs3, rs4, rs5, rs6, rs7, rs8, rs9, rs10, rs13⟩, rst, rsn, rsc⟩ := id hR
  have hs9 := hW.2.1
  unfold WFSs at hs9
  refine Cn_of RX10 (plainFor_of_name (by decide)) rfl (Nat.le_of_ble_eq_true rfl) (fun X hX hQ => ?_)
  refine J_aload_n hX dX10_move_0 rfl ?_
  refine J_aload_n hX dX10_move_1 rfl ?_
  refine J_iload_n hX dX10_move_2 rfl ?_
  refine J_iload_n hX dX10_move_3 rfl ?_
  refine J_iload_n hX dX10_move_4 rfl ?_
  refine J_iload hX dX10_move_5 rfl ?_
  refine J_callVI hX _ dX10_move_7 cw_RX10_100 (m_X10_notMove hM hR hW (by omega) (by omega) (by omega) (by omega)) ⟨(show K (r) = 9 from hM 0 (by decide)), by decide, by decide, rfl⟩ rfl (Nat.le_of_ble_eq_true rfl) (by decide) ⟨Nat.zero_le _, Nat.zero_le _⟩ (fun r7 => ?_)
  refine J_putA hX fw_RX10_47 dX10_move_10 (show K (r) = 9 from hM 0 (by decide)) (by omega) (Or.inl rfl) (fun m10 hm10 => ?_)
  have fm10 : ∀ i, i ≠ r → m10 i = M i := fun i h => by rw [hm10]; exact mset_ne h
  have gm10 : ∀ i j, j ≠ 6 → m10 i j = M i j := fun i j h => by rw [hm10]; exact mset_nj h
  have vm10 := (congrFun (congrFun hm10 (r)) 6).trans mset_eq
  have hRm : RS S (m10 (r + 1)) := by rw [fm10 _ (by omega)]; exact hR
  have h3b : 0 ≤ m10 r 3 ∧ m10 r 3 ≤ 4 := by rw [gm10 _ 3 (by decide)]; exact h3
  have ec : m10 r 6 = (if ¬ hs S n then 1 else if plc u v w then 0 else 2) := by first | exact vm10 | exact vm10.trans (by (repeat' split) <;> omega)
  refine J_aload_n hX dX10_move_13 rfl ?_
  refine J_geti hX fi_RX10_47 dX10_move_14 (show K (r) = 9 from hM 0 (by decide)) (fun r14 => ?_)
  refine J_if_eq hX 22 dX10_move_17 (by omega) (by decide) (fun c17 => ?_) (fun c17 => ?_)
  · have ez : (if ¬ hs S n then 1 else if plc u v w then 0 else 2) = (0 : Int) := by rw [← ec]; first | assumption | exact vm10
    have g0 : hs S n := by by_cases q : hs S n; exact q; (rw [if_pos q] at ez; omega)
    refine J_aload_n hX dX10_move_22 rfl ?_
    refine J_callVM hX _ dX10_move_23 cw_RX10_69 (m_X10_keep hM h3b) ⟨(show K (r) = 9 from hM 0 (by decide)), by decide, by decide, rfl⟩ rfl (Nat.le_of_ble_eq_true rfl) (by decide) ⟨Nat.zero_le _, Nat.zero_le _⟩ (fun r9 M23 q23 => ?_)
    obtain ⟨rfl, kpM23⟩ := q23
    have hRk : RS S (M23 (r + 1)) := by rw [kpM23.row (by omega) (by omega)]; exact hRm
    obtain ⟨⟨k0, k1, k2, k3, k4, k5, k6, k7, k8, k9, k10, k13⟩, kt, kn, kc⟩ := id hRk
    refine J_aload_n hX dX10_move_26 rfl ?_
    refine J_iload_n hX dX10_move_27 rfl ?_
    refine J_iload_n hX dX10_move_28 rfl ?_
    refine J_iload_n hX dX10_move_29 rfl ?_
    refine J_iload hX dX10_move_30 rfl ?_
    refine J_callVM hX _ dX10_move_32 cw_RX10_103 (m_X10_moves hM (by omega) (by omega) (by omega) (by omega)) ⟨(show K (r) = 9 from hM 0 (by decide)), by decide, by decide, rfl⟩ rfl (Nat.le_of_ble_eq_true rfl) (by decide) ⟨Nat.zero_le _, Nat.zero_le _⟩ (fun r9 M32 q32 => ?_)
    obtain ⟨rfl, rfl⟩ := q32
    exact J_iret hX hQ dX10_move_35 ⟨rfl, by first | exact ⟨m10, ⟨ec, fm10, gm10 r⟩, Or.inl ⟨by rw [← ec]; assumption, rfl, rfl⟩⟩ | exact ⟨m10, ⟨ec, fm10, gm10 r⟩, Or.inr ⟨ez, by rw [(kn n g0.1 g0.2.1).2.2.2.1], M23, kpM23, fun i i1 _ => by rw [mset_ne i1, mset_ne i1, mset_ne i1], by simp only [mset_row]; exact RS_mov hRk (by omega)⟩⟩⟩ (Nat.zero_le _) (Nat.zero_le _)
  · refine J_iconst hX dX10_move_20 ?_
    exact J_iret hX hQ dX10_move_21 ⟨rfl, by first | exact ⟨m10, ⟨ec, fm10, gm10 r⟩, Or.inl ⟨by rw [← ec]; assumption, rfl, rfl⟩⟩ | exact ⟨m10, ⟨ec, fm10, gm10 r⟩, Or.inr ⟨ez, by rw [(kn n g0.1 g0.2.1).2.2.2.1], M23, kpM23, fun i i1 _ => by rw [mset_ne i1, mset_ne i1, mset_ne i1], by simp only [mset_row]; exact RS_mov hRk (by omega)⟩⟩⟩ (Nat.zero_le _) (Nat.zero_le _)
-- X10_setShade
set_option maxHeartbeats 4000000 in
set_option maxRecDepth 100000 in
theorem m_X10_setShade {E : EE} {K : Nat → Nat} {M : MM} {r : Nat} {T : Int} {S : MM} {n s : Int} (hM : ModelK K r) (hR : RS S (M (r + 1))) (hW : WFS T S) (hn : i32 n) (hs9 : i32 s) (h3 : 0 ≤ M r 3 ∧ M r 3 ≤ 4) : CnM E 4 yX10_setShade cX10_setShade 4 (Option.some FieldType.int) [.ref r, vI n, vI s] K M (fun r9 M2 => ChM M r (if ¬ hs S n then 1 else if bx S n ∧ (0 ≤ s ∧ s ≤ 15) then 0 else 2) (S 9 n) (mset S 9 n s) r9 M2) := by
  obtain ⟨⟨rs0, rs1, rs2, rs3, rs4, rs5, rs6, rs7, rs8, rs9, rs10, rs13⟩, rst, rsn, rsc⟩ := id hR
  have hs9 := hW.2.1
  unfold WFSs at hs9
  refine Cn_of RX10 (plainFor_of_name (by decide)) rfl (Nat.le_of_ble_eq_true rfl) (fun X hX hQ => ?_)
  refine J_aload_n hX dX10_setShade_0 rfl ?_
  refine J_aload_n hX dX10_setShade_1 rfl ?_
  refine J_iload_n hX dX10_setShade_2 rfl ?_
  refine J_callVB hX _ dX10_setShade_3 cw_RX10_75 (m_X10_isNode hM hR hW (by omega)) ⟨(show K (r) = 9 from hM 0 (by decide)), by decide, by decide, rfl⟩ rfl (Nat.le_of_ble_eq_true rfl) (by decide) ⟨Nat.zero_le _, Nat.zero_le _⟩ ?_
  refine J_ifb_ne hX 13 dX10_setShade_6 (by decide) (fun c6 => ?_) (fun c6 => ?_)
  · refine J_aload_n hX dX10_setShade_13 rfl ?_
    refine J_iload_n hX dX10_setShade_14 rfl ?_
    refine J_callVB hX _ dX10_setShade_15 cw_RX10_79 (m_X10_isBox hM hR hW (show hs S n by omega)) ⟨(show K (r) = 9 from hM 0 (by decide)), by decide, by decide, rfl⟩ rfl (Nat.le_of_ble_eq_true rfl) (by decide) ⟨Nat.zero_le _, Nat.zero_le _⟩ ?_
    refine J_ifb_eq hX 35 dX10_setShade_18 (by decide) (fun c18 => ?_) (fun c18 => ?_)
    · refine J_iconst hX dX10_setShade_35 ?_
      refine J_putA hX fw_RX10_47 dX10_setShade_36 (show K (r) = 9 from hM 0 (by decide)) (by omega) (Or.inl rfl) (fun m36 hm36 => ?_)
      have fm36 : ∀ i, i ≠ r → m36 i = M i := fun i h => by rw [hm36]; exact mset_ne h
      have gm36 : ∀ i j, j ≠ 6 → m36 i j = M i j := fun i j h => by rw [hm36]; exact mset_nj h
      have vm36 := (congrFun (congrFun hm36 (r)) 6).trans mset_eq
      have hRm : RS S (m36 (r + 1)) := by rw [fm36 _ (by omega)]; exact hR
      have h3b : 0 ≤ m36 r 3 ∧ m36 r 3 ≤ 4 := by rw [gm36 _ 3 (by decide)]; exact h3
      have ec : m36 r 6 = (if ¬ hs S n then 1 else if bx S n ∧ (0 ≤ s ∧ s ≤ 15) then 0 else 2) := by first | exact vm36 | exact vm36.trans (by (repeat' split) <;> omega)
      refine J_aload_n hX dX10_setShade_39 rfl ?_
      refine J_geti hX fi_RX10_47 dX10_setShade_40 (show K (r) = 9 from hM 0 (by decide)) (fun r40 => ?_)
      refine J_if_eq hX 48 dX10_setShade_43 (by omega) (by decide) (fun c43 => ?_) (fun c43 => ?_)
      · have ez : (if ¬ hs S n then 1 else if bx S n ∧ (0 ≤ s ∧ s ≤ 15) then 0 else 2) = (0 : Int) := by rw [← ec]; first | assumption | exact vm36
        have g0 : hs S n := by by_cases q : hs S n; exact q; (rw [if_pos q] at ez; omega)
        refine J_aload_n hX dX10_setShade_48 rfl ?_
        refine J_callVM hX _ dX10_setShade_49 cw_RX10_69 (m_X10_keep hM h3b) ⟨(show K (r) = 9 from hM 0 (by decide)), by decide, by decide, rfl⟩ rfl (Nat.le_of_ble_eq_true rfl) (by decide) ⟨Nat.zero_le _, Nat.zero_le _⟩ (fun r9 M49 q49 => ?_)
        obtain ⟨rfl, kpM49⟩ := q49
        have hRk : RS S (M49 (r + 1)) := by rw [kpM49.row (by omega) (by omega)]; exact hRm
        obtain ⟨⟨k0, k1, k2, k3, k4, k5, k6, k7, k8, k9, k10, k13⟩, kt, kn, kc⟩ := id hRk
        have hwn := hW.2.2.1 n g0.1 g0.2.1
        have q9 := (kn n g0.1 g0.2.1).2.2.2.2.2.2
        refine J_aload_n hX dX10_setShade_52 rfl ?_
        refine J_iload_n hX dX10_setShade_53 rfl ?_
        refine J_bipush hX dX10_setShade_54 rfl ?_
        refine J_callVI hX _ dX10_setShade_56 cw_RX10_62 (m_X10_of hM (by omega) (by omega) (by omega)) ⟨(show K (r) = 9 from hM 0 (by decide)), by decide, by decide, rfl⟩ rfl (Nat.le_of_ble_eq_true rfl) (by decide) ⟨Nat.zero_le _, Nat.zero_le _⟩ (fun r56 => ?_)
        refine J_istore_n hX dX10_setShade_59 (by decide) ?_
        refine J_aload_n hX dX10_setShade_60 rfl ?_
        refine J_gr hX (r + 1) fr_RX10_7 dX10_setShade_61 (show K (r) = 9 from hM 0 (by decide)) rfl ?_
        refine J_bipush hX dX10_setShade_64 rfl ?_
        refine J_bipush hX dX10_setShade_66 rfl ?_
        refine J_iload_n hX dX10_setShade_68 rfl ?_
        refine J_imul hX dX10_setShade_69 ?_
        refine J_iadd hX dX10_setShade_70 ?_
        refine J_bipush hX dX10_setShade_71 rfl ?_
        refine J_iadd hX dX10_setShade_73 ?_
        refine J_iload_n hX dX10_setShade_74 rfl ?_
        refine J_istA hX dX10_setShade_75 (show K (r + 1) = 1000 + 198 from hM 1 (by decide)) ⟨by omega, by omega⟩ (by decide) (by omega) (fun m75 hm75 => ?_)
        have fm75 : ∀ i, i ≠ r + 1 → m75 i = M49 i := fun i h => by rw [hm75]; exact mset_ne h
        refine J_iload_n hX dX10_setShade_76 rfl ?_
        exact J_iret hX hQ dX10_setShade_77 ⟨rfl, by first | exact ⟨m36, ⟨ec, fm36, gm36 r⟩, Or.inl ⟨by rw [← ec]; assumption, rfl, rfl⟩⟩ | exact ⟨m36, ⟨ec, fm36, gm36 r⟩, Or.inr ⟨ez, by rw [(kn n g0.1 g0.2.1).2.2.2.2.2.2], M49, kpM49, fun i i1 _ => by rw [hm75, mset_ne i1], by rw [hm75, mset_row]; exact RS_col hRk (by omega)⟩⟩⟩ (Nat.zero_le _) (Nat.zero_le _)
      · refine J_iconst hX dX10_setShade_46 ?_
        exact J_iret hX hQ dX10_setShade_47 ⟨rfl, by first | exact ⟨m36, ⟨ec, fm36, gm36 r⟩, Or.inl ⟨by rw [← ec]; assumption, rfl, rfl⟩⟩ | exact ⟨m36, ⟨ec, fm36, gm36 r⟩, Or.inr ⟨ez, by rw [(kn n g0.1 g0.2.1).2.2.2.2.2.2], M49, kpM49, fun i i1 _ => by rw [hm75, mset_ne i1], by rw [hm75, mset_row]; exact RS_col hRk (by omega)⟩⟩⟩ (Nat.zero_le _) (Nat.zero_le _)
    · refine J_iload_n hX dX10_setShade_21 rfl ?_
      refine J_iconst hX dX10_setShade_22 ?_
      refine J_bipush hX dX10_setShade_23 rfl ?_
      refine J_callSB hX _ dX10_setShade_25 cw_RX10_58 (m_X10_in (by omega) (by omega) (by omega)) rfl (Nat.le_of_ble_eq_true rfl) (by decide) ⟨Nat.zero_le _, Nat.zero_le _⟩ ?_
      refine J_ifb_eq hX 35 dX10_setShade_28 (by decide) (fun c28 => ?_) (fun c28 => ?_)
      · refine J_iconst hX dX10_setShade_35 ?_
        refine J_putA hX fw_RX10_47 dX10_setShade_36 (show K (r) = 9 from hM 0 (by decide)) (by omega) (Or.inl rfl) (fun m36 hm36 => ?_)
        have fm36 : ∀ i, i ≠ r → m36 i = M i := fun i h => by rw [hm36]; exact mset_ne h
        have gm36 : ∀ i j, j ≠ 6 → m36 i j = M i j := fun i j h => by rw [hm36]; exact mset_nj h
        have vm36 := (congrFun (congrFun hm36 (r)) 6).trans mset_eq
        have hRm : RS S (m36 (r + 1)) := by rw [fm36 _ (by omega)]; exact hR
        have h3b : 0 ≤ m36 r 3 ∧ m36 r 3 ≤ 4 := by rw [gm36 _ 3 (by decide)]; exact h3
        have ec : m36 r 6 = (if ¬ hs S n then 1 else if bx S n ∧ (0 ≤ s ∧ s ≤ 15) then 0 else 2) := by first | exact vm36 | exact vm36.trans (by (repeat' split) <;> omega)
        refine J_aload_n hX dX10_setShade_39 rfl ?_
        refine J_geti hX fi_RX10_47 dX10_setShade_40 (show K (r) = 9 from hM 0 (by decide)) (fun r40 => ?_)
        refine J_if_eq hX 48 dX10_setShade_43 (by omega) (by decide) (fun c43 => ?_) (fun c43 => ?_)
        · have ez : (if ¬ hs S n then 1 else if bx S n ∧ (0 ≤ s ∧ s ≤ 15) then 0 else 2) = (0 : Int) := by rw [← ec]; first | assumption | exact vm36
          have g0 : hs S n := by by_cases q : hs S n; exact q; (rw [if_pos q] at ez; omega)
          refine J_aload_n hX dX10_setShade_48 rfl ?_
          refine J_callVM hX _ dX10_setShade_49 cw_RX10_69 (m_X10_keep hM h3b) ⟨(show K (r) = 9 from hM 0 (by decide)), by decide, by decide, rfl⟩ rfl (Nat.le_of_ble_eq_true rfl) (by decide) ⟨Nat.zero_le _, Nat.zero_le _⟩ (fun r9 M49 q49 => ?_)
          obtain ⟨rfl, kpM49⟩ := q49
          have hRk : RS S (M49 (r + 1)) := by rw [kpM49.row (by omega) (by omega)]; exact hRm
          obtain ⟨⟨k0, k1, k2, k3, k4, k5, k6, k7, k8, k9, k10, k13⟩, kt, kn, kc⟩ := id hRk
          have hwn := hW.2.2.1 n g0.1 g0.2.1
          have q9 := (kn n g0.1 g0.2.1).2.2.2.2.2.2
          refine J_aload_n hX dX10_setShade_52 rfl ?_
          refine J_iload_n hX dX10_setShade_53 rfl ?_
          refine J_bipush hX dX10_setShade_54 rfl ?_
          refine J_callVI hX _ dX10_setShade_56 cw_RX10_62 (m_X10_of hM (by omega) (by omega) (by omega)) ⟨(show K (r) = 9 from hM 0 (by decide)), by decide, by decide, rfl⟩ rfl (Nat.le_of_ble_eq_true rfl) (by decide) ⟨Nat.zero_le _, Nat.zero_le _⟩ (fun r56 => ?_)
          refine J_istore_n hX dX10_setShade_59 (by decide) ?_
          refine J_aload_n hX dX10_setShade_60 rfl ?_
          refine J_gr hX (r + 1) fr_RX10_7 dX10_setShade_61 (show K (r) = 9 from hM 0 (by decide)) rfl ?_
          refine J_bipush hX dX10_setShade_64 rfl ?_
          refine J_bipush hX dX10_setShade_66 rfl ?_
          refine J_iload_n hX dX10_setShade_68 rfl ?_
          refine J_imul hX dX10_setShade_69 ?_
          refine J_iadd hX dX10_setShade_70 ?_
          refine J_bipush hX dX10_setShade_71 rfl ?_
          refine J_iadd hX dX10_setShade_73 ?_
          refine J_iload_n hX dX10_setShade_74 rfl ?_
          refine J_istA hX dX10_setShade_75 (show K (r + 1) = 1000 + 198 from hM 1 (by decide)) ⟨by omega, by omega⟩ (by decide) (by omega) (fun m75 hm75 => ?_)
          have fm75 : ∀ i, i ≠ r + 1 → m75 i = M49 i := fun i h => by rw [hm75]; exact mset_ne h
          refine J_iload_n hX dX10_setShade_76 rfl ?_
          exact J_iret hX hQ dX10_setShade_77 ⟨rfl, by first | exact ⟨m36, ⟨ec, fm36, gm36 r⟩, Or.inl ⟨by rw [← ec]; assumption, rfl, rfl⟩⟩ | exact ⟨m36, ⟨ec, fm36, gm36 r⟩, Or.inr ⟨ez, by rw [(kn n g0.1 g0.2.1).2.2.2.2.2.2], M49, kpM49, fun i i1 _ => by rw [hm75, mset_ne i1], by rw [hm75, mset_row]; exact RS_col hRk (by omega)⟩⟩⟩ (Nat.zero_le _) (Nat.zero_le _)
        · refine J_iconst hX dX10_setShade_46 ?_
          exact J_iret hX hQ dX10_setShade_47 ⟨rfl, by first | exact ⟨m36, ⟨ec, fm36, gm36 r⟩, Or.inl ⟨by rw [← ec]; assumption, rfl, rfl⟩⟩ | exact ⟨m36, ⟨ec, fm36, gm36 r⟩, Or.inr ⟨ez, by rw [(kn n g0.1 g0.2.1).2.2.2.2.2.2], M49, kpM49, fun i i1 _ => by rw [hm75, mset_ne i1], by rw [hm75, mset_row]; exact RS_col hRk (by omega)⟩⟩⟩ (Nat.zero_le _) (Nat.zero_le _)
      · refine J_iconst hX dX10_setShade_31 ?_
        refine J_goto hX 36 dX10_setShade_32 (by decide) ?_
        refine J_putA hX fw_RX10_47 dX10_setShade_36 (show K (r) = 9 from hM 0 (by decide)) (by omega) (Or.inl rfl) (fun m36 hm36 => ?_)
        have fm36 : ∀ i, i ≠ r → m36 i = M i := fun i h => by rw [hm36]; exact mset_ne h
        have gm36 : ∀ i j, j ≠ 6 → m36 i j = M i j := fun i j h => by rw [hm36]; exact mset_nj h
        have vm36 := (congrFun (congrFun hm36 (r)) 6).trans mset_eq
        have hRm : RS S (m36 (r + 1)) := by rw [fm36 _ (by omega)]; exact hR
        have h3b : 0 ≤ m36 r 3 ∧ m36 r 3 ≤ 4 := by rw [gm36 _ 3 (by decide)]; exact h3
        have ec : m36 r 6 = (if ¬ hs S n then 1 else if bx S n ∧ (0 ≤ s ∧ s ≤ 15) then 0 else 2) := by first | exact vm36 | exact vm36.trans (by (repeat' split) <;> omega)
        refine J_aload_n hX dX10_setShade_39 rfl ?_
        refine J_geti hX fi_RX10_47 dX10_setShade_40 (show K (r) = 9 from hM 0 (by decide)) (fun r40 => ?_)
        refine J_if_eq hX 48 dX10_setShade_43 (by omega) (by decide) (fun c43 => ?_) (fun c43 => ?_)
        · have ez : (if ¬ hs S n then 1 else if bx S n ∧ (0 ≤ s ∧ s ≤ 15) then 0 else 2) = (0 : Int) := by rw [← ec]; first | assumption | exact vm36
          have g0 : hs S n := by by_cases q : hs S n; exact q; (rw [if_pos q] at ez; omega)
          refine J_aload_n hX dX10_setShade_48 rfl ?_
          refine J_callVM hX _ dX10_setShade_49 cw_RX10_69 (m_X10_keep hM h3b) ⟨(show K (r) = 9 from hM 0 (by decide)), by decide, by decide, rfl⟩ rfl (Nat.le_of_ble_eq_true rfl) (by decide) ⟨Nat.zero_le _, Nat.zero_le _⟩ (fun r9 M49 q49 => ?_)
          obtain ⟨rfl, kpM49⟩ := q49
          have hRk : RS S (M49 (r + 1)) := by rw [kpM49.row (by omega) (by omega)]; exact hRm
          obtain ⟨⟨k0, k1, k2, k3, k4, k5, k6, k7, k8, k9, k10, k13⟩, kt, kn, kc⟩ := id hRk
          have hwn := hW.2.2.1 n g0.1 g0.2.1
          have q9 := (kn n g0.1 g0.2.1).2.2.2.2.2.2
          refine J_aload_n hX dX10_setShade_52 rfl ?_
          refine J_iload_n hX dX10_setShade_53 rfl ?_
          refine J_bipush hX dX10_setShade_54 rfl ?_
          refine J_callVI hX _ dX10_setShade_56 cw_RX10_62 (m_X10_of hM (by omega) (by omega) (by omega)) ⟨(show K (r) = 9 from hM 0 (by decide)), by decide, by decide, rfl⟩ rfl (Nat.le_of_ble_eq_true rfl) (by decide) ⟨Nat.zero_le _, Nat.zero_le _⟩ (fun r56 => ?_)
          refine J_istore_n hX dX10_setShade_59 (by decide) ?_
          refine J_aload_n hX dX10_setShade_60 rfl ?_
          refine J_gr hX (r + 1) fr_RX10_7 dX10_setShade_61 (show K (r) = 9 from hM 0 (by decide)) rfl ?_
          refine J_bipush hX dX10_setShade_64 rfl ?_
          refine J_bipush hX dX10_setShade_66 rfl ?_
          refine J_iload_n hX dX10_setShade_68 rfl ?_
          refine J_imul hX dX10_setShade_69 ?_
          refine J_iadd hX dX10_setShade_70 ?_
          refine J_bipush hX dX10_setShade_71 rfl ?_
          refine J_iadd hX dX10_setShade_73 ?_
          refine J_iload_n hX dX10_setShade_74 rfl ?_
          refine J_istA hX dX10_setShade_75 (show K (r + 1) = 1000 + 198 from hM 1 (by decide)) ⟨by omega, by omega⟩ (by decide) (by omega) (fun m75 hm75 => ?_)
          have fm75 : ∀ i, i ≠ r + 1 → m75 i = M49 i := fun i h => by rw [hm75]; exact mset_ne h
          refine J_iload_n hX dX10_setShade_76 rfl ?_
          exact J_iret hX hQ dX10_setShade_77 ⟨rfl, by first | exact ⟨m36, ⟨ec, fm36, gm36 r⟩, Or.inl ⟨by rw [← ec]; assumption, rfl, rfl⟩⟩ | exact ⟨m36, ⟨ec, fm36, gm36 r⟩, Or.inr ⟨ez, by rw [(kn n g0.1 g0.2.1).2.2.2.2.2.2], M49, kpM49, fun i i1 _ => by rw [hm75, mset_ne i1], by rw [hm75, mset_row]; exact RS_col hRk (by omega)⟩⟩⟩ (Nat.zero_le _) (Nat.zero_le _)
        · refine J_iconst hX dX10_setShade_46 ?_
          exact J_iret hX hQ dX10_setShade_47 ⟨rfl, by first | exact ⟨m36, ⟨ec, fm36, gm36 r⟩, Or.inl ⟨by rw [← ec]; assumption, rfl, rfl⟩⟩ | exact ⟨m36, ⟨ec, fm36, gm36 r⟩, Or.inr ⟨ez, by rw [(kn n g0.1 g0.2.1).2.2.2.2.2.2], M49, kpM49, fun i i1 _ => by rw [hm75, mset_ne i1], by rw [hm75, mset_row]; exact RS_col hRk (by omega)⟩⟩⟩ (Nat.zero_le _) (Nat.zero_le _)
  · refine J_iconst hX dX10_setShade_9 ?_
    refine J_goto hX 36 dX10_setShade_10 (by decide) ?_
    refine J_putA hX fw_RX10_47 dX10_setShade_36 (show K (r) = 9 from hM 0 (by decide)) (by omega) (Or.inl rfl) (fun m36 hm36 => ?_)
    have fm36 : ∀ i, i ≠ r → m36 i = M i := fun i h => by rw [hm36]; exact mset_ne h
    have gm36 : ∀ i j, j ≠ 6 → m36 i j = M i j := fun i j h => by rw [hm36]; exact mset_nj h
    have vm36 := (congrFun (congrFun hm36 (r)) 6).trans mset_eq
    have hRm : RS S (m36 (r + 1)) := by rw [fm36 _ (by omega)]; exact hR
    have h3b : 0 ≤ m36 r 3 ∧ m36 r 3 ≤ 4 := by rw [gm36 _ 3 (by decide)]; exact h3
    have ec : m36 r 6 = (if ¬ hs S n then 1 else if bx S n ∧ (0 ≤ s ∧ s ≤ 15) then 0 else 2) := by first | exact vm36 | exact vm36.trans (by (repeat' split) <;> omega)
    refine J_aload_n hX dX10_setShade_39 rfl ?_
    refine J_geti hX fi_RX10_47 dX10_setShade_40 (show K (r) = 9 from hM 0 (by decide)) (fun r40 => ?_)
    refine J_if_eq hX 48 dX10_setShade_43 (by omega) (by decide) (fun c43 => ?_) (fun c43 => ?_)
    · have ez : (if ¬ hs S n then 1 else if bx S n ∧ (0 ≤ s ∧ s ≤ 15) then 0 else 2) = (0 : Int) := by rw [← ec]; first | assumption | exact vm36
      have g0 : hs S n := by by_cases q : hs S n; exact q; (rw [if_pos q] at ez; omega)
      refine J_aload_n hX dX10_setShade_48 rfl ?_
      refine J_callVM hX _ dX10_setShade_49 cw_RX10_69 (m_X10_keep hM h3b) ⟨(show K (r) = 9 from hM 0 (by decide)), by decide, by decide, rfl⟩ rfl (Nat.le_of_ble_eq_true rfl) (by decide) ⟨Nat.zero_le _, Nat.zero_le _⟩ (fun r9 M49 q49 => ?_)
      obtain ⟨rfl, kpM49⟩ := q49
      have hRk : RS S (M49 (r + 1)) := by rw [kpM49.row (by omega) (by omega)]; exact hRm
      obtain ⟨⟨k0, k1, k2, k3, k4, k5, k6, k7, k8, k9, k10, k13⟩, kt, kn, kc⟩ := id hRk
      have hwn := hW.2.2.1 n g0.1 g0.2.1
      have q9 := (kn n g0.1 g0.2.1).2.2.2.2.2.2
      refine J_aload_n hX dX10_setShade_52 rfl ?_
      refine J_iload_n hX dX10_setShade_53 rfl ?_
      refine J_bipush hX dX10_setShade_54 rfl ?_
      refine J_callVI hX _ dX10_setShade_56 cw_RX10_62 (m_X10_of hM (by omega) (by omega) (by omega)) ⟨(show K (r) = 9 from hM 0 (by decide)), by decide, by decide, rfl⟩ rfl (Nat.le_of_ble_eq_true rfl) (by decide) ⟨Nat.zero_le _, Nat.zero_le _⟩ (fun r56 => ?_)
      refine J_istore_n hX dX10_setShade_59 (by decide) ?_
      refine J_aload_n hX dX10_setShade_60 rfl ?_
      refine J_gr hX (r + 1) fr_RX10_7 dX10_setShade_61 (show K (r) = 9 from hM 0 (by decide)) rfl ?_
      refine J_bipush hX dX10_setShade_64 rfl ?_
      refine J_bipush hX dX10_setShade_66 rfl ?_
      refine J_iload_n hX dX10_setShade_68 rfl ?_
      refine J_imul hX dX10_setShade_69 ?_
      refine J_iadd hX dX10_setShade_70 ?_
      refine J_bipush hX dX10_setShade_71 rfl ?_
      refine J_iadd hX dX10_setShade_73 ?_
      refine J_iload_n hX dX10_setShade_74 rfl ?_
      refine J_istA hX dX10_setShade_75 (show K (r + 1) = 1000 + 198 from hM 1 (by decide)) ⟨by omega, by omega⟩ (by decide) (by omega) (fun m75 hm75 => ?_)
      have fm75 : ∀ i, i ≠ r + 1 → m75 i = M49 i := fun i h => by rw [hm75]; exact mset_ne h
      refine J_iload_n hX dX10_setShade_76 rfl ?_
      exact J_iret hX hQ dX10_setShade_77 ⟨rfl, by first | exact ⟨m36, ⟨ec, fm36, gm36 r⟩, Or.inl ⟨by rw [← ec]; assumption, rfl, rfl⟩⟩ | exact ⟨m36, ⟨ec, fm36, gm36 r⟩, Or.inr ⟨ez, by rw [(kn n g0.1 g0.2.1).2.2.2.2.2.2], M49, kpM49, fun i i1 _ => by rw [hm75, mset_ne i1], by rw [hm75, mset_row]; exact RS_col hRk (by omega)⟩⟩⟩ (Nat.zero_le _) (Nat.zero_le _)
    · refine J_iconst hX dX10_setShade_46 ?_
      exact J_iret hX hQ dX10_setShade_47 ⟨rfl, by first | exact ⟨m36, ⟨ec, fm36, gm36 r⟩, Or.inl ⟨by rw [← ec]; assumption, rfl, rfl⟩⟩ | exact ⟨m36, ⟨ec, fm36, gm36 r⟩, Or.inr ⟨ez, by rw [(kn n g0.1 g0.2.1).2.2.2.2.2.2], M49, kpM49, fun i i1 _ => by rw [hm75, mset_ne i1], by rw [hm75, mset_row]; exact RS_col hRk (by omega)⟩⟩⟩ (Nat.zero_le _) (Nat.zero_le _)
-- X10_removeNode
set_option maxHeartbeats 4000000 in
set_option maxRecDepth 100000 in
theorem m_X10_removeNode {E : EE} {K : Nat → Nat} {M : MM} {r : Nat} {T : Int} {S : MM} {n : Int} (hM : ModelK K r) (hR : RS S (M (r + 1))) (hW : WFS T S) (hn : i32 n) (h3 : 0 ≤ M r 3 ∧ M r 3 ≤ 4) : CnM E 4 yX10_removeNode cX10_removeNode 2 (Option.some FieldType.int) [.ref r, vI n] K M (fun r9 M2 => ∀ S2, Drd S S2 n → ChM M r (if hs S n then 0 else 1) (nwn S n (S 1 0)) S2 r9 M2) := by
  obtain ⟨⟨rs0, rs1, rs2, rs3, rs4, rs5, rs6, rs7, rs8, rs9, rs10, rs13⟩, rst, rsn, rsc⟩ := id hR
  have hs9 := hW.2.1
  unfold WFSs at hs9
  refine Cn_of RX10 (plainFor_of_name (by decide)) rfl (Nat.le_of_ble_eq_true rfl) (fun X hX hQ => ?_)
  refine J_aload_n hX dX10_removeNode_0 rfl ?_
  refine J_aload_n hX dX10_removeNode_1 rfl ?_
  refine J_iload_n hX dX10_removeNode_2 rfl ?_
  refine J_callVI hX _ dX10_removeNode_3 cw_RX10_110 (m_X10_notRemove hM hR hW (by omega)) ⟨(show K (r) = 9 from hM 0 (by decide)), by decide, by decide, rfl⟩ rfl (Nat.le_of_ble_eq_true rfl) (by decide) ⟨Nat.zero_le _, Nat.zero_le _⟩ (fun r3 => ?_)
  refine J_putA hX fw_RX10_47 dX10_removeNode_6 (show K (r) = 9 from hM 0 (by decide)) (by omega) (Or.inl rfl) (fun m6 hm6 => ?_)
  have fm6 : ∀ i, i ≠ r → m6 i = M i := fun i h => by rw [hm6]; exact mset_ne h
  have gm6 : ∀ i j, j ≠ 6 → m6 i j = M i j := fun i j h => by rw [hm6]; exact mset_nj h
  have vm6 := (congrFun (congrFun hm6 (r)) 6).trans mset_eq
  have hRm : RS S (m6 (r + 1)) := by rw [fm6 _ (by omega)]; exact hR
  have h3b : 0 ≤ m6 r 3 ∧ m6 r 3 ≤ 4 := by rw [gm6 _ 3 (by decide)]; exact h3
  have ec : m6 r 6 = (if hs S n then 0 else 1) := by first | exact vm6 | exact vm6.trans (by (repeat' split) <;> omega)
  refine J_aload_n hX dX10_removeNode_9 rfl ?_
  refine J_geti hX fi_RX10_47 dX10_removeNode_10 (show K (r) = 9 from hM 0 (by decide)) (fun r10 => ?_)
  refine J_if_eq hX 18 dX10_removeNode_13 (by omega) (by decide) (fun c13 => ?_) (fun c13 => ?_)
  · have ez : (if hs S n then 0 else 1) = (0 : Int) := by rw [← ec]; first | assumption | exact vm6
    have g0 := if_0 (by decide) ez
    refine J_aload_n hX dX10_removeNode_18 rfl ?_
    refine J_callVM hX _ dX10_removeNode_19 cw_RX10_69 (m_X10_keep hM h3b) ⟨(show K (r) = 9 from hM 0 (by decide)), by decide, by decide, rfl⟩ rfl (Nat.le_of_ble_eq_true rfl) (by decide) ⟨Nat.zero_le _, Nat.zero_le _⟩ (fun r9 M19 q19 => ?_)
    obtain ⟨rfl, kpM19⟩ := q19
    have hRk : RS S (M19 (r + 1)) := by rw [kpM19.row (by omega) (by omega)]; exact hRm
    obtain ⟨⟨k0, k1, k2, k3, k4, k5, k6, k7, k8, k9, k10, k13⟩, kt, kn, kc⟩ := id hRk
    refine J_aload_n hX dX10_removeNode_22 rfl ?_
    refine J_iload_n hX dX10_removeNode_23 rfl ?_
    refine J_callVM hX _ dX10_removeNode_24 cw_RX10_113 (m_X10_removes hM hRk hW g0) ⟨(show K (r) = 9 from hM 0 (by decide)), by decide, by decide, rfl⟩ rfl (Nat.le_of_ble_eq_true rfl) (by decide) ⟨Nat.zero_le _, Nat.zero_le _⟩ (fun r9 M24 q24 => ?_)
    obtain ⟨rfl, fM24, dM24⟩ := q24
    exact J_iret hX hQ dX10_removeNode_27 ⟨rfl, by intro S2 hD; first | exact ⟨m6, ⟨ec, fm6, gm6 r⟩, Or.inl ⟨by rw [← ec]; assumption, rfl, rfl⟩⟩ | exact ⟨m6, ⟨ec, fm6, gm6 r⟩, Or.inr ⟨ez, rfl, M19, kpM19, fun i i1 i2 => fM24 i i1 i2, dM24 S2 hD⟩⟩⟩ (Nat.zero_le _) (Nat.zero_le _)
  · refine J_iconst hX dX10_removeNode_16 ?_
    exact J_iret hX hQ dX10_removeNode_17 ⟨rfl, by intro S2 hD; first | exact ⟨m6, ⟨ec, fm6, gm6 r⟩, Or.inl ⟨by rw [← ec]; assumption, rfl, rfl⟩⟩ | exact ⟨m6, ⟨ec, fm6, gm6 r⟩, Or.inr ⟨ez, rfl, M19, kpM19, fun i i1 i2 => fM24 i i1 i2, dM24 S2 hD⟩⟩⟩ (Nat.zero_le _) (Nat.zero_le _)
-- X10_addScene
set_option maxHeartbeats 4000000 in
set_option maxRecDepth 100000 in
theorem m_X10_addScene {E : EE} {K : Nat → Nat} {M : MM} {r : Nat} {T : Int} {S : MM} {l g t : Int} (hM : ModelK K r) (hR : RS S (M (r + 1))) (hW : WFS T S) (hl : i32 l) (hg : i32 g) (ht : i32 t) (h3 : 0 ≤ M r 3 ∧ M r 3 ≤ 4) : CnM E 4 yX10_addScene cX10_addScene 4 (Option.some FieldType.int) [.ref r, vI l, vI g, vI t] K M (fun r9 M2 => ChM M r (if ((-20 ≤ l ∧ l ≤ 0) ∧ (0 ≤ g ∧ g ≤ 20)) ∧ (1 ≤ t ∧ t ≤ 50) then (if 8 ≤ S 11 0 then 2 else 0) else 1) (S 11 0) (scS S l g t) r9 M2) := by
  obtain ⟨⟨rs0, rs1, rs2, rs3, rs4, rs5, rs6, rs7, rs8, rs9, rs10, rs13⟩, rst, rsn, rsc⟩ := id hR
  have hs9 := hW.2.1
  unfold WFSs at hs9
  refine Cn_of RX10 (plainFor_of_name (by decide)) rfl (Nat.le_of_ble_eq_true rfl) (fun X hX hQ => ?_)
  refine J_aload_n hX dX10_addScene_0 rfl ?_
  refine J_aload_n hX dX10_addScene_1 rfl ?_
  refine J_iload_n hX dX10_addScene_2 rfl ?_
  refine J_iload_n hX dX10_addScene_3 rfl ?_
  refine J_iload_n hX dX10_addScene_4 rfl ?_
  refine J_callVI hX _ dX10_addScene_5 cw_RX10_116 (m_X10_notScene hM hR hW (by omega) (by omega) (by omega)) ⟨(show K (r) = 9 from hM 0 (by decide)), by decide, by decide, rfl⟩ rfl (Nat.le_of_ble_eq_true rfl) (by decide) ⟨Nat.zero_le _, Nat.zero_le _⟩ (fun r5 => ?_)
  refine J_putA hX fw_RX10_47 dX10_addScene_8 (show K (r) = 9 from hM 0 (by decide)) (by omega) (Or.inl rfl) (fun m8 hm8 => ?_)
  have fm8 : ∀ i, i ≠ r → m8 i = M i := fun i h => by rw [hm8]; exact mset_ne h
  have gm8 : ∀ i j, j ≠ 6 → m8 i j = M i j := fun i j h => by rw [hm8]; exact mset_nj h
  have vm8 := (congrFun (congrFun hm8 (r)) 6).trans mset_eq
  have hRm : RS S (m8 (r + 1)) := by rw [fm8 _ (by omega)]; exact hR
  have h3b : 0 ≤ m8 r 3 ∧ m8 r 3 ≤ 4 := by rw [gm8 _ 3 (by decide)]; exact h3
  have ec : m8 r 6 = (if ((-20 ≤ l ∧ l ≤ 0) ∧ (0 ≤ g ∧ g ≤ 20)) ∧ (1 ≤ t ∧ t ≤ 50) then (if 8 ≤ S 11 0 then 2 else 0) else 1) := by first | exact vm8 | exact vm8.trans (by (repeat' split) <;> omega)
  refine J_aload_n hX dX10_addScene_11 rfl ?_
  refine J_geti hX fi_RX10_47 dX10_addScene_12 (show K (r) = 9 from hM 0 (by decide)) (fun r12 => ?_)
  refine J_if_eq hX 20 dX10_addScene_15 (by omega) (by decide) (fun c15 => ?_) (fun c15 => ?_)
  · have ez : (if ((-20 ≤ l ∧ l ≤ 0) ∧ (0 ≤ g ∧ g ≤ 20)) ∧ (1 ≤ t ∧ t ≤ 50) then (if 8 ≤ S 11 0 then 2 else 0) else 1) = (0 : Int) := by rw [← ec]; first | assumption | exact vm8
    have g0 : S 11 0 < 8 := by split at ez; (split at ez <;> omega); omega
    refine J_aload_n hX dX10_addScene_20 rfl ?_
    refine J_callVM hX _ dX10_addScene_21 cw_RX10_69 (m_X10_keep hM h3b) ⟨(show K (r) = 9 from hM 0 (by decide)), by decide, by decide, rfl⟩ rfl (Nat.le_of_ble_eq_true rfl) (by decide) ⟨Nat.zero_le _, Nat.zero_le _⟩ (fun r9 M21 q21 => ?_)
    obtain ⟨rfl, kpM21⟩ := q21
    have hRk : RS S (M21 (r + 1)) := by rw [kpM21.row (by omega) (by omega)]; exact hRm
    obtain ⟨⟨k0, k1, k2, k3, k4, k5, k6, k7, k8, k9, k10, k13⟩, kt, kn, kc⟩ := id hRk
    refine J_aload_n hX dX10_addScene_24 rfl ?_
    refine J_iload_n hX dX10_addScene_25 rfl ?_
    refine J_iload_n hX dX10_addScene_26 rfl ?_
    refine J_iload_n hX dX10_addScene_27 rfl ?_
    refine J_callVM hX _ dX10_addScene_28 cw_RX10_120 (m_X10_addsScene hM (by omega) (by omega) (by omega) (by omega)) ⟨(show K (r) = 9 from hM 0 (by decide)), by decide, by decide, rfl⟩ rfl (Nat.le_of_ble_eq_true rfl) (by decide) ⟨Nat.zero_le _, Nat.zero_le _⟩ (fun r9 M28 q28 => ?_)
    obtain ⟨rfl, rfl⟩ := q28
    exact J_iret hX hQ dX10_addScene_31 ⟨rfl, by first | exact ⟨m8, ⟨ec, fm8, gm8 r⟩, Or.inl ⟨by rw [← ec]; assumption, rfl, rfl⟩⟩ | exact ⟨m8, ⟨ec, fm8, gm8 r⟩, Or.inr ⟨ez, by rw [k3], M21, kpM21, fun i i1 _ => as_row i1, RS_as hRk (by omega) (by omega)⟩⟩⟩ (Nat.zero_le _) (Nat.zero_le _)
  · refine J_iconst hX dX10_addScene_18 ?_
    exact J_iret hX hQ dX10_addScene_19 ⟨rfl, by first | exact ⟨m8, ⟨ec, fm8, gm8 r⟩, Or.inl ⟨by rw [← ec]; assumption, rfl, rfl⟩⟩ | exact ⟨m8, ⟨ec, fm8, gm8 r⟩, Or.inr ⟨ez, by rw [k3], M21, kpM21, fun i i1 _ => as_row i1, RS_as hRk (by omega) (by omega)⟩⟩⟩ (Nat.zero_le _) (Nat.zero_le _)
-- X10_set
set_option maxHeartbeats 4000000 in
set_option maxRecDepth 100000 in
theorem m_X10_set {E : EE} {K : Nat → Nat} {M : MM} {r : Nat} {T : Int} {S : MM} {w v : Int} (hM : ModelK K r) (hR : RS S (M (r + 1))) (hW : WFS T S) (hw : i32 w) (hv : i32 v) (h3 : 0 ≤ M r 3 ∧ M r 3 ≤ 4) : CnM E 4 yX10_set cX10_set 3 (Option.some FieldType.int) [.ref r, vI w, vI v] K M (fun r9 M2 => ChM M r (if fSe w v then 0 else 1) (S 15 w) (mset S 15 w v) r9 M2) := by
  obtain ⟨⟨rs0, rs1, rs2, rs3, rs4, rs5, rs6, rs7, rs8, rs9, rs10, rs13⟩, rst, rsn, rsc⟩ := id hR
  have hs9 := hW.2.1
  unfold WFSs at hs9
  refine Cn_of RX10 (plainFor_of_name (by decide)) rfl (Nat.le_of_ble_eq_true rfl) (fun X hX hQ => ?_)
  refine J_aload_n hX dX10_set_0 rfl ?_
  refine J_iload_n hX dX10_set_1 rfl ?_
  refine J_iload_n hX dX10_set_2 rfl ?_
  refine J_callSI hX _ dX10_set_3 cw_RX10_123 (m_X10_notSet (by omega) (by omega)) rfl (Nat.le_of_ble_eq_true rfl) (by decide) ⟨Nat.zero_le _, Nat.zero_le _⟩ (fun r3 => ?_)
  refine J_putA hX fw_RX10_47 dX10_set_6 (show K (r) = 9 from hM 0 (by decide)) (by omega) (Or.inl rfl) (fun m6 hm6 => ?_)
  have fm6 : ∀ i, i ≠ r → m6 i = M i := fun i h => by rw [hm6]; exact mset_ne h
  have gm6 : ∀ i j, j ≠ 6 → m6 i j = M i j := fun i j h => by rw [hm6]; exact mset_nj h
  have vm6 := (congrFun (congrFun hm6 (r)) 6).trans mset_eq
  have hRm : RS S (m6 (r + 1)) := by rw [fm6 _ (by omega)]; exact hR
  have h3b : 0 ≤ m6 r 3 ∧ m6 r 3 ≤ 4 := by rw [gm6 _ 3 (by decide)]; exact h3
  have ec : m6 r 6 = (if fSe w v then 0 else 1) := by first | exact vm6 | exact vm6.trans (by (repeat' split) <;> omega)
  refine J_aload_n hX dX10_set_9 rfl ?_
  refine J_geti hX fi_RX10_47 dX10_set_10 (show K (r) = 9 from hM 0 (by decide)) (fun r10 => ?_)
  refine J_if_eq hX 18 dX10_set_13 (by omega) (by decide) (fun c13 => ?_) (fun c13 => ?_)
  · have ez : (if fSe w v then 0 else 1) = (0 : Int) := by rw [← ec]; first | assumption | exact vm6
    have g1 := if_0 (by decide) ez
    have g0 : 0 ≤ w ∧ w < 4 := by unfold fSe at g1; omega
    refine J_aload_n hX dX10_set_18 rfl ?_
    refine J_callVM hX _ dX10_set_19 cw_RX10_69 (m_X10_keep hM h3b) ⟨(show K (r) = 9 from hM 0 (by decide)), by decide, by decide, rfl⟩ rfl (Nat.le_of_ble_eq_true rfl) (by decide) ⟨Nat.zero_le _, Nat.zero_le _⟩ (fun r9 M19 q19 => ?_)
    obtain ⟨rfl, kpM19⟩ := q19
    have hRk : RS S (M19 (r + 1)) := by rw [kpM19.row (by omega) (by omega)]; exact hRm
    obtain ⟨⟨k0, k1, k2, k3, k4, k5, k6, k7, k8, k9, k10, k13⟩, kt, kn, kc⟩ := id hRk
    refine J_aload_n hX dX10_set_22 rfl ?_
    refine J_iload_n hX dX10_set_23 rfl ?_
    refine J_iload_n hX dX10_set_24 rfl ?_
    refine J_callVM hX _ dX10_set_25 cw_RX10_126 (m_X10_sets hM (by omega) (by omega)) ⟨(show K (r) = 9 from hM 0 (by decide)), by decide, by decide, rfl⟩ rfl (Nat.le_of_ble_eq_true rfl) (by decide) ⟨Nat.zero_le _, Nat.zero_le _⟩ (fun r9 M25 q25 => ?_)
    obtain ⟨rfl, rfl⟩ := q25
    exact J_iret hX hQ dX10_set_28 ⟨rfl, by first | exact ⟨m6, ⟨ec, fm6, gm6 r⟩, Or.inl ⟨by rw [← ec]; assumption, rfl, rfl⟩⟩ | exact ⟨m6, ⟨ec, fm6, gm6 r⟩, Or.inr ⟨ez, by rcases (show w = 0 ∨ w = 1 ∨ w = 2 ∨ w = 3 by omega) with e | e | e | e <;> rw [e] <;> first | exact congrArg (fun z => some (vI z)) k7 | exact congrArg (fun z => some (vI z)) k8 | exact congrArg (fun z => some (vI z)) k9 | exact congrArg (fun z => some (vI z)) k10, M19, kpM19, fun i i1 _ => mset_ne i1, by rw [mset_row]; exact RS_set hRk (by omega)⟩⟩⟩ (Nat.zero_le _) (Nat.zero_le _)
  · refine J_iconst hX dX10_set_16 ?_
    exact J_iret hX hQ dX10_set_17 ⟨rfl, by first | exact ⟨m6, ⟨ec, fm6, gm6 r⟩, Or.inl ⟨by rw [← ec]; assumption, rfl, rfl⟩⟩ | exact ⟨m6, ⟨ec, fm6, gm6 r⟩, Or.inr ⟨ez, by rcases (show w = 0 ∨ w = 1 ∨ w = 2 ∨ w = 3 by omega) with e | e | e | e <;> rw [e] <;> first | exact congrArg (fun z => some (vI z)) k7 | exact congrArg (fun z => some (vI z)) k8 | exact congrArg (fun z => some (vI z)) k9 | exact congrArg (fun z => some (vI z)) k10, M19, kpM19, fun i i1 _ => mset_ne i1, by rw [mset_row]; exact RS_set hRk (by omega)⟩⟩⟩ (Nat.zero_le _) (Nat.zero_le _)
-- X10_setTitle
set_option maxHeartbeats 4000000 in
set_option maxRecDepth 100000 in
theorem m_X10_setTitle {E : EE} {K : Nat → Nat} {M : MM} {r : Nat} {T : Int} {S : MM} {u v l : Int} (hM : ModelK K r) (hR : RS S (M (r + 1))) (hW : WFS T S) (hu : i32 u) (hv : i32 v) (hl : i32 l) (h3 : 0 ≤ M r 3 ∧ M r 3 ≤ 4) : CnM E 4 yX10_setTitle cX10_setTitle 4 (Option.some FieldType.int) [.ref r, vI u, vI v, vI l] K M (fun r9 M2 => ChM M r (if ((0 ≤ u ∧ u ≤ S 0 3 - 1) ∧ (0 ≤ v ∧ v ≤ S 0 4 - 1)) ∧ (1 ≤ l ∧ l ≤ 40) then 0 else 1) (S 0 7) (mset (mset (mset S 0 5 u) 0 6 v) 0 7 l) r9 M2) := by
  obtain ⟨⟨rs0, rs1, rs2, rs3, rs4, rs5, rs6, rs7, rs8, rs9, rs10, rs13⟩, rst, rsn, rsc⟩ := id hR
  have hs9 := hW.2.1
  unfold WFSs at hs9
  refine Cn_of RX10 (plainFor_of_name (by decide)) rfl (Nat.le_of_ble_eq_true rfl) (fun X hX hQ => ?_)
  refine J_aload_n hX dX10_setTitle_0 rfl ?_
  refine J_aload_n hX dX10_setTitle_1 rfl ?_
  refine J_iload_n hX dX10_setTitle_2 rfl ?_
  refine J_iload_n hX dX10_setTitle_3 rfl ?_
  refine J_iload_n hX dX10_setTitle_4 rfl ?_
  refine J_callVI hX _ dX10_setTitle_5 cw_RX10_129 (m_X10_notTitle hM hR hW (by omega) (by omega) (by omega)) ⟨(show K (r) = 9 from hM 0 (by decide)), by decide, by decide, rfl⟩ rfl (Nat.le_of_ble_eq_true rfl) (by decide) ⟨Nat.zero_le _, Nat.zero_le _⟩ (fun r5 => ?_)
  refine J_putA hX fw_RX10_47 dX10_setTitle_8 (show K (r) = 9 from hM 0 (by decide)) (by omega) (Or.inl rfl) (fun m8 hm8 => ?_)
  have fm8 : ∀ i, i ≠ r → m8 i = M i := fun i h => by rw [hm8]; exact mset_ne h
  have gm8 : ∀ i j, j ≠ 6 → m8 i j = M i j := fun i j h => by rw [hm8]; exact mset_nj h
  have vm8 := (congrFun (congrFun hm8 (r)) 6).trans mset_eq
  have hRm : RS S (m8 (r + 1)) := by rw [fm8 _ (by omega)]; exact hR
  have h3b : 0 ≤ m8 r 3 ∧ m8 r 3 ≤ 4 := by rw [gm8 _ 3 (by decide)]; exact h3
  have ec : m8 r 6 = (if ((0 ≤ u ∧ u ≤ S 0 3 - 1) ∧ (0 ≤ v ∧ v ≤ S 0 4 - 1)) ∧ (1 ≤ l ∧ l ≤ 40) then 0 else 1) := by first | exact vm8 | exact vm8.trans (by (repeat' split) <;> omega)
  refine J_aload_n hX dX10_setTitle_11 rfl ?_
  refine J_geti hX fi_RX10_47 dX10_setTitle_12 (show K (r) = 9 from hM 0 (by decide)) (fun r12 => ?_)
  refine J_if_eq hX 20 dX10_setTitle_15 (by omega) (by decide) (fun c15 => ?_) (fun c15 => ?_)
  · have ez : (if ((0 ≤ u ∧ u ≤ S 0 3 - 1) ∧ (0 ≤ v ∧ v ≤ S 0 4 - 1)) ∧ (1 ≤ l ∧ l ≤ 40) then 0 else 1) = (0 : Int) := by rw [← ec]; first | assumption | exact vm8
    refine J_aload_n hX dX10_setTitle_20 rfl ?_
    refine J_callVM hX _ dX10_setTitle_21 cw_RX10_69 (m_X10_keep hM h3b) ⟨(show K (r) = 9 from hM 0 (by decide)), by decide, by decide, rfl⟩ rfl (Nat.le_of_ble_eq_true rfl) (by decide) ⟨Nat.zero_le _, Nat.zero_le _⟩ (fun r9 M21 q21 => ?_)
    obtain ⟨rfl, kpM21⟩ := q21
    have hRk : RS S (M21 (r + 1)) := by rw [kpM21.row (by omega) (by omega)]; exact hRm
    obtain ⟨⟨k0, k1, k2, k3, k4, k5, k6, k7, k8, k9, k10, k13⟩, kt, kn, kc⟩ := id hRk
    refine J_aload_n hX dX10_setTitle_24 rfl ?_
    refine J_iload_n hX dX10_setTitle_25 rfl ?_
    refine J_iload_n hX dX10_setTitle_26 rfl ?_
    refine J_iload_n hX dX10_setTitle_27 rfl ?_
    refine J_callVM hX _ dX10_setTitle_28 cw_RX10_132 (m_X10_setsTitle hM (by omega) (by omega) (by omega)) ⟨(show K (r) = 9 from hM 0 (by decide)), by decide, by decide, rfl⟩ rfl (Nat.le_of_ble_eq_true rfl) (by decide) ⟨Nat.zero_le _, Nat.zero_le _⟩ (fun r9 M28 q28 => ?_)
    obtain ⟨rfl, rfl⟩ := q28
    exact J_iret hX hQ dX10_setTitle_31 ⟨rfl, by first | exact ⟨m8, ⟨ec, fm8, gm8 r⟩, Or.inl ⟨by rw [← ec]; assumption, rfl, rfl⟩⟩ | exact ⟨m8, ⟨ec, fm8, gm8 r⟩, Or.inr ⟨ez, by rw [k13], M21, kpM21, fun i i1 _ => by rw [mset_ne i1, mset_ne i1, mset_ne i1], by simp only [mset_row]; exact RS_tit hRk⟩⟩⟩ (Nat.zero_le _) (Nat.zero_le _)
  · refine J_iconst hX dX10_setTitle_18 ?_
    exact J_iret hX hQ dX10_setTitle_19 ⟨rfl, by first | exact ⟨m8, ⟨ec, fm8, gm8 r⟩, Or.inl ⟨by rw [← ec]; assumption, rfl, rfl⟩⟩ | exact ⟨m8, ⟨ec, fm8, gm8 r⟩, Or.inr ⟨ez, by rw [k13], M21, kpM21, fun i i1 _ => by rw [mset_ne i1, mset_ne i1, mset_ne i1], by simp only [mset_row]; exact RS_tit hRk⟩⟩⟩ (Nat.zero_le _) (Nat.zero_le _)
-- X10_clearTitle
set_option maxHeartbeats 4000000 in
set_option maxRecDepth 100000 in
theorem m_X10_clearTitle {E : EE} {K : Nat → Nat} {M : MM} {r : Nat} {T : Int} {S : MM}  (hM : ModelK K r) (hR : RS S (M (r + 1))) (hW : WFS T S)  (h3 : 0 ≤ M r 3 ∧ M r 3 ≤ 4) : CnM E 4 yX10_clearTitle cX10_clearTitle 1 (Option.some FieldType.int) [.ref r] K M (fun r9 M2 => ChM M r (0) (S 0 7) (mset (mset (mset S 0 5 0) 0 6 0) 0 7 0) r9 M2) := by
  obtain ⟨⟨rs0, rs1, rs2, rs3, rs4, rs5, rs6, rs7, rs8, rs9, rs10, rs13⟩, rst, rsn, rsc⟩ := id hR
  have hs9 := hW.2.1
  unfold WFSs at hs9
  refine Cn_of RX10 (plainFor_of_name (by decide)) rfl (Nat.le_of_ble_eq_true rfl) (fun X hX hQ => ?_)
  refine J_aload_n hX dX10_clearTitle_0 rfl ?_
  refine J_iconst hX dX10_clearTitle_1 ?_
  refine J_putA hX fw_RX10_47 dX10_clearTitle_2 (show K (r) = 9 from hM 0 (by decide)) (by omega) (Or.inl rfl) (fun m2 hm2 => ?_)
  have fm2 : ∀ i, i ≠ r → m2 i = M i := fun i h => by rw [hm2]; exact mset_ne h
  have gm2 : ∀ i j, j ≠ 6 → m2 i j = M i j := fun i j h => by rw [hm2]; exact mset_nj h
  have vm2 := (congrFun (congrFun hm2 (r)) 6).trans mset_eq
  have hRm : RS S (m2 (r + 1)) := by rw [fm2 _ (by omega)]; exact hR
  have h3b : 0 ≤ m2 r 3 ∧ m2 r 3 ≤ 4 := by rw [gm2 _ 3 (by decide)]; exact h3
  have ec : m2 r 6 = (0) := by first | exact vm2 | exact vm2.trans (by (repeat' split) <;> omega)
  have ez : (0 : Int) = 0 := rfl
  refine J_aload_n hX dX10_clearTitle_5 rfl ?_
  refine J_callVM hX _ dX10_clearTitle_6 cw_RX10_69 (m_X10_keep hM h3b) ⟨(show K (r) = 9 from hM 0 (by decide)), by decide, by decide, rfl⟩ rfl (Nat.le_of_ble_eq_true rfl) (by decide) ⟨Nat.zero_le _, Nat.zero_le _⟩ (fun r9 M6 q6 => ?_)
  obtain ⟨rfl, kpM6⟩ := q6
  have hRk : RS S (M6 (r + 1)) := by rw [kpM6.row (by omega) (by omega)]; exact hRm
  obtain ⟨⟨k0, k1, k2, k3, k4, k5, k6, k7, k8, k9, k10, k13⟩, kt, kn, kc⟩ := id hRk
  refine J_aload_n hX dX10_clearTitle_9 rfl ?_
  refine J_iconst hX dX10_clearTitle_10 ?_
  refine J_iconst hX dX10_clearTitle_11 ?_
  refine J_iconst hX dX10_clearTitle_12 ?_
  refine J_callVM hX _ dX10_clearTitle_13 cw_RX10_132 (m_X10_setsTitle hM (by omega) (by omega) (by omega)) ⟨(show K (r) = 9 from hM 0 (by decide)), by decide, by decide, rfl⟩ rfl (Nat.le_of_ble_eq_true rfl) (by decide) ⟨Nat.zero_le _, Nat.zero_le _⟩ (fun r9 M13 q13 => ?_)
  obtain ⟨rfl, rfl⟩ := q13
  exact J_iret hX hQ dX10_clearTitle_16 ⟨rfl, by first | exact ⟨m2, ⟨ec, fm2, gm2 r⟩, Or.inl ⟨by rw [← ec]; assumption, rfl, rfl⟩⟩ | exact ⟨m2, ⟨ec, fm2, gm2 r⟩, Or.inr ⟨ez, by rw [k13], M6, kpM6, fun i i1 _ => by rw [mset_ne i1, mset_ne i1, mset_ne i1], by simp only [mset_row]; exact RS_tit hRk⟩⟩⟩ (Nat.zero_le _) (Nat.zero_le _)
-- X10_tick
set_option maxHeartbeats 4000000 in
set_option maxRecDepth 100000 in
theorem m_X10_tick {E : EE} {K : Nat → Nat} {M : MM} {r : Nat} {T : Int} {S : MM} {t : Int} (hM : ModelK K r) (hR : RS S (M (r + 1))) (hW : WFS T S) (ht : i32 t) (hTt : T + 200 ≤ 1000000000) (hz : ∀ k, 16 ≤ k → S k = fun _ => 0) (h3 : 0 ≤ M r 3 ∧ M r 3 ≤ 4) : CnM E 4 yX10_tick cX10_tick 2 (Option.some FieldType.int) [.ref r, vI t] K M (fun r9 M2 => ChM M r (if 1 ≤ t ∧ t ≤ 200 then 0 else 1) (tkSn t.toNat S 11 1) (tkSn t.toNat S) r9 M2) := by
  obtain ⟨⟨rs0, rs1, rs2, rs3, rs4, rs5, rs6, rs7, rs8, rs9, rs10, rs13⟩, rst, rsn, rsc⟩ := id hR
  have hs9 := hW.2.1
  unfold WFSs at hs9
  refine Cn_of RX10 (plainFor_of_name (by decide)) rfl (Nat.le_of_ble_eq_true rfl) (fun X hX hQ => ?_)
  refine J_aload_n hX dX10_tick_0 rfl ?_
  refine J_iload_n hX dX10_tick_1 rfl ?_
  refine J_callSI hX _ dX10_tick_2 cw_RX10_145 (m_X10_notTick (by omega)) rfl (Nat.le_of_ble_eq_true rfl) (by decide) ⟨Nat.zero_le _, Nat.zero_le _⟩ (fun r2 => ?_)
  refine J_putA hX fw_RX10_47 dX10_tick_5 (show K (r) = 9 from hM 0 (by decide)) (by omega) (Or.inl rfl) (fun m5 hm5 => ?_)
  have fm5 : ∀ i, i ≠ r → m5 i = M i := fun i h => by rw [hm5]; exact mset_ne h
  have gm5 : ∀ i j, j ≠ 6 → m5 i j = M i j := fun i j h => by rw [hm5]; exact mset_nj h
  have vm5 := (congrFun (congrFun hm5 (r)) 6).trans mset_eq
  have hRm : RS S (m5 (r + 1)) := by rw [fm5 _ (by omega)]; exact hR
  have h3b : 0 ≤ m5 r 3 ∧ m5 r 3 ≤ 4 := by rw [gm5 _ 3 (by decide)]; exact h3
  have ec : m5 r 6 = (if 1 ≤ t ∧ t ≤ 200 then 0 else 1) := by first | exact vm5 | exact vm5.trans (by (repeat' split) <;> omega)
  refine J_aload_n hX dX10_tick_8 rfl ?_
  refine J_geti hX fi_RX10_47 dX10_tick_9 (show K (r) = 9 from hM 0 (by decide)) (fun r9 => ?_)
  refine J_if_eq hX 17 dX10_tick_12 (by omega) (by decide) (fun c12 => ?_) (fun c12 => ?_)
  · have ez : (if 1 ≤ t ∧ t ≤ 200 then 0 else 1) = (0 : Int) := by rw [← ec]; first | assumption | exact vm5
    have g0 := if_0 (by decide) ez
    refine J_aload_n hX dX10_tick_17 rfl ?_
    refine J_callVM hX _ dX10_tick_18 cw_RX10_69 (m_X10_keep hM h3b) ⟨(show K (r) = 9 from hM 0 (by decide)), by decide, by decide, rfl⟩ rfl (Nat.le_of_ble_eq_true rfl) (by decide) ⟨Nat.zero_le _, Nat.zero_le _⟩ (fun r9 M18 q18 => ?_)
    obtain ⟨rfl, kpM18⟩ := q18
    have hRk : RS S (M18 (r + 1)) := by rw [kpM18.row (by omega) (by omega)]; exact hRm
    obtain ⟨⟨k0, k1, k2, k3, k4, k5, k6, k7, k8, k9, k10, k13⟩, kt, kn, kc⟩ := id hRk
    refine J_aload_n hX dX10_tick_21 rfl ?_
    refine J_iload_n hX dX10_tick_22 rfl ?_
    refine J_callVM hX _ dX10_tick_23 cw_RX10_148 (m_X10_ticksOn hM hRk hW (by omega) (by omega) hz) ⟨(show K (r) = 9 from hM 0 (by decide)), by decide, by decide, rfl⟩ rfl (Nat.le_of_ble_eq_true rfl) (by decide) ⟨Nat.zero_le _, Nat.zero_le _⟩ (fun r9 M23 q23 => ?_)
    obtain ⟨rfl, fM23, tM23⟩ := q23
    exact J_iret hX hQ dX10_tick_26 ⟨rfl, by first | exact ⟨m5, ⟨ec, fm5, gm5 r⟩, Or.inl ⟨by rw [← ec]; assumption, rfl, rfl⟩⟩ | exact ⟨m5, ⟨ec, fm5, gm5 r⟩, Or.inr ⟨ez, rfl, M18, kpM18, fun i i1 _ => fM23 i i1, tM23⟩⟩⟩ (Nat.zero_le _) (Nat.zero_le _)
  · refine J_iconst hX dX10_tick_15 ?_
    exact J_iret hX hQ dX10_tick_16 ⟨rfl, by first | exact ⟨m5, ⟨ec, fm5, gm5 r⟩, Or.inl ⟨by rw [← ec]; assumption, rfl, rfl⟩⟩ | exact ⟨m5, ⟨ec, fm5, gm5 r⟩, Or.inr ⟨ez, rfl, M18, kpM18, fun i i1 _ => fM23 i i1, tM23⟩⟩⟩ (Nat.zero_le _) (Nat.zero_le _)
