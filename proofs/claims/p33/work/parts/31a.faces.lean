-- X9_begin
set_option maxHeartbeats 4000000 in
set_option maxRecDepth 100000 in
theorem m_X9_begin {E : EE} {K : Nat → Nat} {M : MM} {x : Nat} {T : Int} {n : Nat} {w h : Int} (hE : ∀ U, SF E U → ThF E U) (hX0 : EyeK K x) (hW : WF T M (x + 1 + 2)) (hV : HV n K M (x + 55) (x + 60)) (hC : Cl K M) (hw : i32 w) (hh : i32 h) : CnX E 8 yX9_begin cX9_begin 3 (Option.some FieldType.int) [.ref x, vI w, vI h] K M (fun r K' M' => (if (20 ≤ w ∧ w ≤ 200) ∧ (10 ≤ h ∧ h ≤ 120) then 0 else 2) = (0 : Int) ∧ r = some (vI (M (x + 1 + 2 + 11) 1)) ∧ ∃ M1, KeptX n K M x K' M1 ∧ M' = begM M1 (x + 1 + 2) w h) (xpF (if (20 ≤ w ∧ w ≤ 200) ∧ (10 ≤ h ∧ h ≤ 120) then 0 else 2)) 17 239 := by
  have hXa := hX0.all
  refine CnX_of RX9 (by decide) rfl (Nat.le_of_ble_eq_true rfl) (fun X hX hQ hXK hT => ?_)
  refine J_aload_n hX dX9_begin_0 rfl ?_
  refine J_gr hX (x + 1 + 2) fr_RX9_20 dX9_begin_1 (show K (x) = 8 from hXa 0 (by decide)) rfl ?_
  refine J_iload_n hX dX9_begin_4 rfl ?_
  refine J_iload_n hX dX9_begin_5 rfl ?_
  refine J_callVI hX _ dX9_begin_6 cw_RX9_45 (m_X5_faultOfFrame ((hXa).view).stage (by omega) (by omega)) ⟨(show K (x + 1 + 2) = 5 from ((hXa).view).stage 0 (by decide)), by decide, by decide, rfl⟩ rfl (Nat.le_of_ble_eq_true rfl) (by decide) ⟨by decide, by decide⟩ (fun r6 => ?_)
  refine J_refuse hX hT hXK hQ rfl hE dX9_begin_9 (by first | decide | exact fG_r _ _ _ _ _ _ | exact fB_r _ _ _ _ _ _ _ _ | exact fP_r _ _ _ _ _ _ | exact fCo_r _ _ _ _ | exact fS_r _ _ _ _ _ | exact fT_r _ _ _ _ _ | exact fCe_r _ _ _ _ | exact if_r (by decide) | exact fSt_r _ _) (by decide) (by decide) (by decide) (fun nm h => by first | exact h | exact xp_1 h | exact xp_2 (by assumption) h | (refine xp_e ?_ h; first | (rw [if_pos (by omega)]; done) | (rw [if_neg (by omega)]; done)) | (refine xp_1 (xp_e ?_ h); first | (rw [if_pos (by omega)]; done) | (rw [if_neg (by omega)]; done)) | (refine xp_2 (by assumption) (xp_e ?_ h); first | (rw [if_pos (by omega)]; done) | (rw [if_neg (by omega)]; done)) | (refine xp_2 ?_ h; first | (rw [if_pos (by omega)]; done) | (rw [if_neg (by omega)]; done))) (fun cF0 => ?_)
  refine J_vx hX hQ (fun X hX hQ hXK2 => ?_)
  refine J_aload_n hX dX9_begin_12 rfl ?_
  refine J_keep hX (hXK2.trans hXK) hX0 hV hC dX9_begin_13 (by decide) (by decide) ⟨by rw [hX0.1]; decide, trivial⟩ trivial (by decide) (fun K2 M2 hk => ?_)
  have hX2 := hk.eye hX0
  have hXa2 := hX2.all
  have hS2 : stg M2 (x + 1 + 2) = stg M (x + 1 + 2) := stg_eq (fun k hk2 => hk.stage k hk2)
  have hW2 : WF T M2 (x + 1 + 2) := WF_fr hS2 hW
  have es11 : ∀ j, M2 (x + 1 + 2 + 11) j = M (x + 1 + 2 + 11) j := fun j => congrFun (hk.stage 11 (by decide)) j
  refine J_aload_n hX dX9_begin_16 rfl ?_
  refine J_gr hX (x + 1 + 2) fr_RX9_20 dX9_begin_17 (show K2 (x) = 8 from hXa2 0 (by decide)) rfl ?_
  refine J_iload_n hX dX9_begin_20 rfl ?_
  refine J_iload_n hX dX9_begin_21 rfl ?_
  refine J_callVM hX _ dX9_begin_22 cw_RX9_58 (m_X5_reframe ((hXa2).view).stage (by omega) (by omega)) ⟨(show K2 (x + 1 + 2) = 5 from ((hXa2).view).stage 0 (by decide)), by decide, by decide, rfl⟩ rfl (Nat.le_of_ble_eq_true rfl) (by decide) ⟨by decide, by decide⟩ (fun r9 M22 q22 => ?_)
  obtain ⟨rfl, rfl⟩ := q22
  exact J_iret hX hQ dX9_begin_25 (by exact ⟨cF0, by rw [es11], M2, hk, rfl⟩) (by decide) (by decide)
-- X9_addGroup
set_option maxHeartbeats 4000000 in
set_option maxRecDepth 100000 in
theorem m_X9_addGroup {E : EE} {K : Nat → Nat} {M : MM} {x : Nat} {T : Int} {n : Nat} {p u v w : Int} (hE : ∀ U, SF E U → ThF E U) (hX0 : EyeK K x) (hW : WF T M (x + 1 + 2)) (hV : HV n K M (x + 55) (x + 60)) (hC : Cl K M) (hp : i32 p) (hu : i32 u) (hv : i32 v) (hw : i32 w) : CnX E 8 yX9_addGroup cX9_addGroup 5 (Option.some FieldType.int) [.ref x, vI p, vI u, vI v, vI w] K M (fun r K' M' => (fG M (x + 1 + 2) p u v w) = (0 : Int) ∧ r = some (vI (M (x + 1 + 2 + 1) 0)) ∧ ∃ M1, KeptX n K M x K' M1 ∧ M' = addM M1 (x + 1 + 2) p u v w 0 0) (xpF (fG M (x + 1 + 2) p u v w)) 17 239 := by
  have hXa := hX0.all
  refine CnX_of RX9 (by decide) rfl (Nat.le_of_ble_eq_true rfl) (fun X hX hQ hXK hT => ?_)
  refine J_aload_n hX dX9_addGroup_0 rfl ?_
  refine J_gr hX (x + 1 + 2) fr_RX9_20 dX9_addGroup_1 (show K (x) = 8 from hXa 0 (by decide)) rfl ?_
  refine J_gr hX (x + 1 + 2 + 1) fr_RX9_61 dX9_addGroup_4 (show K (x + 1 + 2) = 5 from ((hXa).view).stage 0 (by decide)) rfl ?_
  refine J_iload_n hX dX9_addGroup_7 rfl ?_
  refine J_iload_n hX dX9_addGroup_8 rfl ?_
  refine J_iload_n hX dX9_addGroup_9 rfl ?_
  refine J_iload hX dX9_addGroup_10 rfl ?_
  refine J_callVI hX _ dX9_addGroup_12 cw_RX9_65 (m_X6_faultOfGroup ((hXa).view).stage hW (by omega) (by omega) (by omega) (by omega)) ⟨(show K (x + 1 + 2 + 1) = 6 from ((hXa).view).stage 1 (by decide)), by decide, by decide, rfl⟩ rfl (Nat.le_of_ble_eq_true rfl) (by decide) ⟨by decide, by decide⟩ (fun r12 => ?_)
  refine J_refuse hX hT hXK hQ rfl hE dX9_addGroup_15 (by first | decide | exact fG_r _ _ _ _ _ _ | exact fB_r _ _ _ _ _ _ _ _ | exact fP_r _ _ _ _ _ _ | exact fCo_r _ _ _ _ | exact fS_r _ _ _ _ _ | exact fT_r _ _ _ _ _ | exact fCe_r _ _ _ _ | exact if_r (by decide) | exact fSt_r _ _) (by decide) (by decide) (by decide) (fun nm h => by first | exact h | exact xp_1 h | exact xp_2 (by assumption) h | (refine xp_e ?_ h; first | (rw [if_pos (by omega)]; done) | (rw [if_neg (by omega)]; done)) | (refine xp_1 (xp_e ?_ h); first | (rw [if_pos (by omega)]; done) | (rw [if_neg (by omega)]; done)) | (refine xp_2 (by assumption) (xp_e ?_ h); first | (rw [if_pos (by omega)]; done) | (rw [if_neg (by omega)]; done)) | (refine xp_2 ?_ h; first | (rw [if_pos (by omega)]; done) | (rw [if_neg (by omega)]; done))) (fun cF0 => ?_)
  refine J_vx hX hQ (fun X hX hQ hXK2 => ?_)
  have c5 := (fG_0 cF0).2.2.2.1
  refine J_aload_n hX dX9_addGroup_18 rfl ?_
  refine J_keep hX (hXK2.trans hXK) hX0 hV hC dX9_addGroup_19 (by decide) (by decide) ⟨by rw [hX0.1]; decide, trivial⟩ trivial (by decide) (fun K2 M2 hk => ?_)
  have hX2 := hk.eye hX0
  have hXa2 := hX2.all
  have hS2 : stg M2 (x + 1 + 2) = stg M (x + 1 + 2) := stg_eq (fun k hk2 => hk.stage k hk2)
  have hW2 : WF T M2 (x + 1 + 2) := WF_fr hS2 hW
  have es1 : ∀ j, M2 (x + 1 + 2 + 1) j = M (x + 1 + 2 + 1) j := fun j => congrFun (hk.stage 1 (by decide)) j
  have c6 := es1 0
  refine J_aload_n hX dX9_addGroup_22 rfl ?_
  refine J_gr hX (x + 1 + 2) fr_RX9_20 dX9_addGroup_23 (show K2 (x) = 8 from hXa2 0 (by decide)) rfl ?_
  refine J_gr hX (x + 1 + 2 + 1) fr_RX9_61 dX9_addGroup_26 (show K2 (x + 1 + 2) = 5 from ((hXa2).view).stage 0 (by decide)) rfl ?_
  refine J_iload_n hX dX9_addGroup_29 rfl ?_
  refine J_iload_n hX dX9_addGroup_30 rfl ?_
  refine J_iload_n hX dX9_addGroup_31 rfl ?_
  refine J_iload hX dX9_addGroup_32 rfl ?_
  refine J_callVM hX _ dX9_addGroup_34 cw_RX9_71 (m_X6_appendGroup ((hXa2).view).stage hW2 (by omega) (by omega) (by omega) (by omega) (by omega)) ⟨(show K2 (x + 1 + 2 + 1) = 6 from ((hXa2).view).stage 1 (by decide)), by decide, by decide, rfl⟩ rfl (Nat.le_of_ble_eq_true rfl) (by decide) ⟨by decide, by decide⟩ (fun r9 M34 q34 => ?_)
  obtain ⟨rfl, rfl⟩ := q34
  exact J_iret hX hQ dX9_addGroup_37 (by exact ⟨cF0, by rw [es1], M2, hk, rfl⟩) (by decide) (by decide)
-- X9_addBox
set_option maxHeartbeats 4000000 in
set_option maxRecDepth 100000 in
theorem m_X9_addBox {E : EE} {K : Nat → Nat} {M : MM} {x : Nat} {T : Int} {n : Nat} {p u v w wd hg : Int} (hE : ∀ U, SF E U → ThF E U) (hX0 : EyeK K x) (hW : WF T M (x + 1 + 2)) (hV : HV n K M (x + 55) (x + 60)) (hC : Cl K M) (hp : i32 p) (hu : i32 u) (hv : i32 v) (hw : i32 w) (hwd : i32 wd) (hhg : i32 hg) : CnX E 8 yX9_addBox cX9_addBox 7 (Option.some FieldType.int) [.ref x, vI p, vI u, vI v, vI w, vI wd, vI hg] K M (fun r K' M' => (fB M (x + 1 + 2) p u v w wd hg) = (0 : Int) ∧ r = some (vI (M (x + 1 + 2 + 1) 0)) ∧ ∃ M1, KeptX n K M x K' M1 ∧ M' = addM M1 (x + 1 + 2) p u v w wd hg) (xpF (fB M (x + 1 + 2) p u v w wd hg)) 17 239 := by
  have hXa := hX0.all
  refine CnX_of RX9 (by decide) rfl (Nat.le_of_ble_eq_true rfl) (fun X hX hQ hXK hT => ?_)
  refine J_aload_n hX dX9_addBox_0 rfl ?_
  refine J_gr hX (x + 1 + 2) fr_RX9_20 dX9_addBox_1 (show K (x) = 8 from hXa 0 (by decide)) rfl ?_
  refine J_gr hX (x + 1 + 2 + 1) fr_RX9_61 dX9_addBox_4 (show K (x + 1 + 2) = 5 from ((hXa).view).stage 0 (by decide)) rfl ?_
  refine J_iload_n hX dX9_addBox_7 rfl ?_
  refine J_iload_n hX dX9_addBox_8 rfl ?_
  refine J_iload_n hX dX9_addBox_9 rfl ?_
  refine J_iload hX dX9_addBox_10 rfl ?_
  refine J_iload hX dX9_addBox_12 rfl ?_
  refine J_iload hX dX9_addBox_14 rfl ?_
  refine J_callVI hX _ dX9_addBox_16 cw_RX9_74 (m_X6_faultOfBox ((hXa).view).stage hW (by omega) (by omega) (by omega) (by omega) (by omega) (by omega)) ⟨(show K (x + 1 + 2 + 1) = 6 from ((hXa).view).stage 1 (by decide)), by decide, by decide, rfl⟩ rfl (Nat.le_of_ble_eq_true rfl) (by decide) ⟨by decide, by decide⟩ (fun r16 => ?_)
  refine J_refuse hX hT hXK hQ rfl hE dX9_addBox_19 (by first | decide | exact fG_r _ _ _ _ _ _ | exact fB_r _ _ _ _ _ _ _ _ | exact fP_r _ _ _ _ _ _ | exact fCo_r _ _ _ _ | exact fS_r _ _ _ _ _ | exact fT_r _ _ _ _ _ | exact fCe_r _ _ _ _ | exact if_r (by decide) | exact fSt_r _ _) (by decide) (by decide) (by decide) (fun nm h => by first | exact h | exact xp_1 h | exact xp_2 (by assumption) h | (refine xp_e ?_ h; first | (rw [if_pos (by omega)]; done) | (rw [if_neg (by omega)]; done)) | (refine xp_1 (xp_e ?_ h); first | (rw [if_pos (by omega)]; done) | (rw [if_neg (by omega)]; done)) | (refine xp_2 (by assumption) (xp_e ?_ h); first | (rw [if_pos (by omega)]; done) | (rw [if_neg (by omega)]; done)) | (refine xp_2 ?_ h; first | (rw [if_pos (by omega)]; done) | (rw [if_neg (by omega)]; done))) (fun cF0 => ?_)
  refine J_vx hX hQ (fun X hX hQ hXK2 => ?_)
  have c5 := (fG_0 (fB_0 cF0).1).2.2.2.1
  refine J_aload_n hX dX9_addBox_22 rfl ?_
  refine J_keep hX (hXK2.trans hXK) hX0 hV hC dX9_addBox_23 (by decide) (by decide) ⟨by rw [hX0.1]; decide, trivial⟩ trivial (by decide) (fun K2 M2 hk => ?_)
  have hX2 := hk.eye hX0
  have hXa2 := hX2.all
  have hS2 : stg M2 (x + 1 + 2) = stg M (x + 1 + 2) := stg_eq (fun k hk2 => hk.stage k hk2)
  have hW2 : WF T M2 (x + 1 + 2) := WF_fr hS2 hW
  have es1 : ∀ j, M2 (x + 1 + 2 + 1) j = M (x + 1 + 2 + 1) j := fun j => congrFun (hk.stage 1 (by decide)) j
  have c6 := es1 0
  refine J_aload_n hX dX9_addBox_26 rfl ?_
  refine J_gr hX (x + 1 + 2) fr_RX9_20 dX9_addBox_27 (show K2 (x) = 8 from hXa2 0 (by decide)) rfl ?_
  refine J_gr hX (x + 1 + 2 + 1) fr_RX9_61 dX9_addBox_30 (show K2 (x + 1 + 2) = 5 from ((hXa2).view).stage 0 (by decide)) rfl ?_
  refine J_iload_n hX dX9_addBox_33 rfl ?_
  refine J_iload_n hX dX9_addBox_34 rfl ?_
  refine J_iload_n hX dX9_addBox_35 rfl ?_
  refine J_iload hX dX9_addBox_36 rfl ?_
  refine J_iload hX dX9_addBox_38 rfl ?_
  refine J_iload hX dX9_addBox_40 rfl ?_
  refine J_callVM hX _ dX9_addBox_42 cw_RX9_78 (m_X6_appendBox ((hXa2).view).stage hW2 (by omega) (by omega) (by omega) (by omega) (by omega) (by omega) (by omega)) ⟨(show K2 (x + 1 + 2 + 1) = 6 from ((hXa2).view).stage 1 (by decide)), by decide, by decide, rfl⟩ rfl (Nat.le_of_ble_eq_true rfl) (by decide) ⟨by decide, by decide⟩ (fun r9 M42 q42 => ?_)
  obtain ⟨rfl, rfl⟩ := q42
  exact J_iret hX hQ dX9_addBox_45 (by exact ⟨cF0, by rw [es1], M2, hk, rfl⟩) (by decide) (by decide)
-- X9_move
set_option maxHeartbeats 4000000 in
set_option maxRecDepth 100000 in
theorem m_X9_move {E : EE} {K : Nat → Nat} {M : MM} {x : Nat} {T : Int} {n : Nat} {n9 u v w : Int} (hE : ∀ U, SF E U → ThF E U) (hX0 : EyeK K x) (hW : WF T M (x + 1 + 2)) (hV : HV n K M (x + 55) (x + 60)) (hC : Cl K M) (hn9 : i32 n9) (hu : i32 u) (hv : i32 v) (hw : i32 w) : CnX E 8 yX9_move cX9_move 5 (Option.some FieldType.int) [.ref x, vI n9, vI u, vI v, vI w] K M (fun r K' M' => (fP M (x + 1 + 2) n9 u v w) = (0 : Int) ∧ r = some (vI (M (x + 1 + 2 + 6) n9)) ∧ ∃ M1, KeptX n K M x K' M1 ∧ M' = movM M1 (x + 1 + 2) n9 u v w) (xpF (fP M (x + 1 + 2) n9 u v w)) 17 239 := by
  have hXa := hX0.all
  refine CnX_of RX9 (by decide) rfl (Nat.le_of_ble_eq_true rfl) (fun X hX hQ hXK hT => ?_)
  refine J_aload_n hX dX9_move_0 rfl ?_
  refine J_gr hX (x + 1 + 2) fr_RX9_20 dX9_move_1 (show K (x) = 8 from hXa 0 (by decide)) rfl ?_
  refine J_gr hX (x + 1 + 2 + 1) fr_RX9_61 dX9_move_4 (show K (x + 1 + 2) = 5 from ((hXa).view).stage 0 (by decide)) rfl ?_
  refine J_iload_n hX dX9_move_7 rfl ?_
  refine J_iload_n hX dX9_move_8 rfl ?_
  refine J_iload_n hX dX9_move_9 rfl ?_
  refine J_iload hX dX9_move_10 rfl ?_
  refine J_callVI hX _ dX9_move_12 cw_RX9_81 (m_X6_faultOfPlacing ((hXa).view).stage (by omega) (by omega) (by omega) (by omega)) ⟨(show K (x + 1 + 2 + 1) = 6 from ((hXa).view).stage 1 (by decide)), by decide, by decide, rfl⟩ rfl (Nat.le_of_ble_eq_true rfl) (by decide) ⟨by decide, by decide⟩ (fun r12 => ?_)
  refine J_refuse hX hT hXK hQ rfl hE dX9_move_15 (by first | decide | exact fG_r _ _ _ _ _ _ | exact fB_r _ _ _ _ _ _ _ _ | exact fP_r _ _ _ _ _ _ | exact fCo_r _ _ _ _ | exact fS_r _ _ _ _ _ | exact fT_r _ _ _ _ _ | exact fCe_r _ _ _ _ | exact if_r (by decide) | exact fSt_r _ _) (by decide) (by decide) (by decide) (fun nm h => by first | exact h | exact xp_1 h | exact xp_2 (by assumption) h | (refine xp_e ?_ h; first | (rw [if_pos (by omega)]; done) | (rw [if_neg (by omega)]; done)) | (refine xp_1 (xp_e ?_ h); first | (rw [if_pos (by omega)]; done) | (rw [if_neg (by omega)]; done)) | (refine xp_2 (by assumption) (xp_e ?_ h); first | (rw [if_pos (by omega)]; done) | (rw [if_neg (by omega)]; done)) | (refine xp_2 ?_ h; first | (rw [if_pos (by omega)]; done) | (rw [if_neg (by omega)]; done))) (fun cF0 => ?_)
  refine J_vx hX hQ (fun X hX hQ hXK2 => ?_)
  have c5 := (fP_0 cF0).1
  refine J_aload_n hX dX9_move_18 rfl ?_
  refine J_keep hX (hXK2.trans hXK) hX0 hV hC dX9_move_19 (by decide) (by decide) ⟨by rw [hX0.1]; decide, trivial⟩ trivial (by decide) (fun K2 M2 hk => ?_)
  have hX2 := hk.eye hX0
  have hXa2 := hX2.all
  have hS2 : stg M2 (x + 1 + 2) = stg M (x + 1 + 2) := stg_eq (fun k hk2 => hk.stage k hk2)
  have hW2 : WF T M2 (x + 1 + 2) := WF_fr hS2 hW
  have es1 : ∀ j, M2 (x + 1 + 2 + 1) j = M (x + 1 + 2 + 1) j := fun j => congrFun (hk.stage 1 (by decide)) j
  have es6 : ∀ j, M2 (x + 1 + 2 + 6) j = M (x + 1 + 2 + 6) j := fun j => congrFun (hk.stage 6 (by decide)) j
  have c6 := es1 0
  refine J_aload_n hX dX9_move_22 rfl ?_
  refine J_gr hX (x + 1 + 2) fr_RX9_20 dX9_move_23 (show K2 (x) = 8 from hXa2 0 (by decide)) rfl ?_
  refine J_gr hX (x + 1 + 2 + 1) fr_RX9_61 dX9_move_26 (show K2 (x + 1 + 2) = 5 from ((hXa2).view).stage 0 (by decide)) rfl ?_
  refine J_iload_n hX dX9_move_29 rfl ?_
  refine J_iload_n hX dX9_move_30 rfl ?_
  refine J_iload_n hX dX9_move_31 rfl ?_
  refine J_iload hX dX9_move_32 rfl ?_
  refine J_callVM hX _ dX9_move_34 cw_RX9_84 (m_X6_placeAt ((hXa2).view).stage (by omega) (by omega) (by omega) (by omega)) ⟨(show K2 (x + 1 + 2 + 1) = 6 from ((hXa2).view).stage 1 (by decide)), by decide, by decide, rfl⟩ rfl (Nat.le_of_ble_eq_true rfl) (by decide) ⟨by decide, by decide⟩ (fun r9 M34 q34 => ?_)
  obtain ⟨rfl, rfl⟩ := q34
  exact J_iret hX hQ dX9_move_37 (by exact ⟨cF0, by rw [es6], M2, hk, rfl⟩) (by decide) (by decide)
-- X9_setShade
set_option maxHeartbeats 4000000 in
set_option maxRecDepth 100000 in
theorem m_X9_setShade {E : EE} {K : Nat → Nat} {M : MM} {x : Nat} {T : Int} {n : Nat} {n9 s : Int} (hE : ∀ U, SF E U → ThF E U) (hX0 : EyeK K x) (hW : WF T M (x + 1 + 2)) (hV : HV n K M (x + 55) (x + 60)) (hC : Cl K M) (hn9 : i32 n9) (hs : i32 s) : CnX E 8 yX9_setShade cX9_setShade 3 (Option.some FieldType.int) [.ref x, vI n9, vI s] K M (fun r K' M' => (fCo M (x + 1 + 2) n9 s) = (0 : Int) ∧ r = some (vI (M (x + 1 + 2 + 9) n9)) ∧ ∃ M1, KeptX n K M x K' M1 ∧ M' = mset M1 (x + 1 + 2 + 9) n9 s) (xpF (fCo M (x + 1 + 2) n9 s)) 17 239 := by
  have hXa := hX0.all
  refine CnX_of RX9 (by decide) rfl (Nat.le_of_ble_eq_true rfl) (fun X hX hQ hXK hT => ?_)
  refine J_aload_n hX dX9_setShade_0 rfl ?_
  refine J_gr hX (x + 1 + 2) fr_RX9_20 dX9_setShade_1 (show K (x) = 8 from hXa 0 (by decide)) rfl ?_
  refine J_gr hX (x + 1 + 2 + 1) fr_RX9_61 dX9_setShade_4 (show K (x + 1 + 2) = 5 from ((hXa).view).stage 0 (by decide)) rfl ?_
  refine J_iload_n hX dX9_setShade_7 rfl ?_
  refine J_iload_n hX dX9_setShade_8 rfl ?_
  refine J_callVI hX _ dX9_setShade_9 cw_RX9_87 (m_X6_faultOfColour ((hXa).view).stage (by omega) (by omega)) ⟨(show K (x + 1 + 2 + 1) = 6 from ((hXa).view).stage 1 (by decide)), by decide, by decide, rfl⟩ rfl (Nat.le_of_ble_eq_true rfl) (by decide) ⟨by decide, by decide⟩ (fun r9 => ?_)
  refine J_refuse hX hT hXK hQ rfl hE dX9_setShade_12 (by first | decide | exact fG_r _ _ _ _ _ _ | exact fB_r _ _ _ _ _ _ _ _ | exact fP_r _ _ _ _ _ _ | exact fCo_r _ _ _ _ | exact fS_r _ _ _ _ _ | exact fT_r _ _ _ _ _ | exact fCe_r _ _ _ _ | exact if_r (by decide) | exact fSt_r _ _) (by decide) (by decide) (by decide) (fun nm h => by first | exact h | exact xp_1 h | exact xp_2 (by assumption) h | (refine xp_e ?_ h; first | (rw [if_pos (by omega)]; done) | (rw [if_neg (by omega)]; done)) | (refine xp_1 (xp_e ?_ h); first | (rw [if_pos (by omega)]; done) | (rw [if_neg (by omega)]; done)) | (refine xp_2 (by assumption) (xp_e ?_ h); first | (rw [if_pos (by omega)]; done) | (rw [if_neg (by omega)]; done)) | (refine xp_2 ?_ h; first | (rw [if_pos (by omega)]; done) | (rw [if_neg (by omega)]; done))) (fun cF0 => ?_)
  refine J_vx hX hQ (fun X hX hQ hXK2 => ?_)
  have c5 := (fCo_0 cF0).1
  refine J_aload_n hX dX9_setShade_15 rfl ?_
  refine J_keep hX (hXK2.trans hXK) hX0 hV hC dX9_setShade_16 (by decide) (by decide) ⟨by rw [hX0.1]; decide, trivial⟩ trivial (by decide) (fun K2 M2 hk => ?_)
  have hX2 := hk.eye hX0
  have hXa2 := hX2.all
  have hS2 : stg M2 (x + 1 + 2) = stg M (x + 1 + 2) := stg_eq (fun k hk2 => hk.stage k hk2)
  have hW2 : WF T M2 (x + 1 + 2) := WF_fr hS2 hW
  have es1 : ∀ j, M2 (x + 1 + 2 + 1) j = M (x + 1 + 2 + 1) j := fun j => congrFun (hk.stage 1 (by decide)) j
  have es9 : ∀ j, M2 (x + 1 + 2 + 9) j = M (x + 1 + 2 + 9) j := fun j => congrFun (hk.stage 9 (by decide)) j
  have c6 := es1 0
  refine J_aload_n hX dX9_setShade_19 rfl ?_
  refine J_gr hX (x + 1 + 2) fr_RX9_20 dX9_setShade_20 (show K2 (x) = 8 from hXa2 0 (by decide)) rfl ?_
  refine J_gr hX (x + 1 + 2 + 1) fr_RX9_61 dX9_setShade_23 (show K2 (x + 1 + 2) = 5 from ((hXa2).view).stage 0 (by decide)) rfl ?_
  refine J_iload_n hX dX9_setShade_26 rfl ?_
  refine J_iload_n hX dX9_setShade_27 rfl ?_
  refine J_callVM hX _ dX9_setShade_28 cw_RX9_90 (m_X6_colour ((hXa2).view).stage (by omega) (by omega)) ⟨(show K2 (x + 1 + 2 + 1) = 6 from ((hXa2).view).stage 1 (by decide)), by decide, by decide, rfl⟩ rfl (Nat.le_of_ble_eq_true rfl) (by decide) ⟨by decide, by decide⟩ (fun r9 M28 q28 => ?_)
  obtain ⟨rfl, rfl⟩ := q28
  exact J_iret hX hQ dX9_setShade_31 (by exact ⟨cF0, by rw [es9], M2, hk, rfl⟩) (by decide) (by decide)
-- X9_addScene
set_option maxHeartbeats 4000000 in
set_option maxRecDepth 100000 in
theorem m_X9_addScene {E : EE} {K : Nat → Nat} {M : MM} {x : Nat} {T : Int} {n : Nat} {l g t : Int} (hE : ∀ U, SF E U → ThF E U) (hX0 : EyeK K x) (hW : WF T M (x + 1 + 2)) (hV : HV n K M (x + 55) (x + 60)) (hC : Cl K M) (hl : i32 l) (hg : i32 g) (ht : i32 t) : CnX E 8 yX9_addScene cX9_addScene 4 (Option.some FieldType.int) [.ref x, vI l, vI g, vI t] K M (fun r K' M' => (fS M (x + 1 + 2) l g t) = (0 : Int) ∧ r = some (vI (M (x + 1 + 2 + 11) 0)) ∧ ∃ M1, KeptX n K M x K' M1 ∧ M' = scM M1 (x + 1 + 2) l g t) (xpF (fS M (x + 1 + 2) l g t)) 17 239 := by
  have hXa := hX0.all
  refine CnX_of RX9 (by decide) rfl (Nat.le_of_ble_eq_true rfl) (fun X hX hQ hXK hT => ?_)
  refine J_aload_n hX dX9_addScene_0 rfl ?_
  refine J_gr hX (x + 1 + 2) fr_RX9_20 dX9_addScene_1 (show K (x) = 8 from hXa 0 (by decide)) rfl ?_
  refine J_gr hX (x + 1 + 2 + 11) fr_RX9_100 dX9_addScene_4 (show K (x + 1 + 2) = 5 from ((hXa).view).stage 0 (by decide)) rfl ?_
  refine J_iload_n hX dX9_addScene_7 rfl ?_
  refine J_iload_n hX dX9_addScene_8 rfl ?_
  refine J_iload_n hX dX9_addScene_9 rfl ?_
  refine J_callVI hX _ dX9_addScene_10 cw_RX9_104 (m_X3_faultOfScene ((hXa).view).stage (by omega) (by omega) (by omega)) ⟨(show K (x + 1 + 2 + 11) = 3 from ((hXa).view).stage 11 (by decide)), by decide, by decide, rfl⟩ rfl (Nat.le_of_ble_eq_true rfl) (by decide) ⟨by decide, by decide⟩ (fun r10 => ?_)
  refine J_refuse hX hT hXK hQ rfl hE dX9_addScene_13 (by first | decide | exact fG_r _ _ _ _ _ _ | exact fB_r _ _ _ _ _ _ _ _ | exact fP_r _ _ _ _ _ _ | exact fCo_r _ _ _ _ | exact fS_r _ _ _ _ _ | exact fT_r _ _ _ _ _ | exact fCe_r _ _ _ _ | exact if_r (by decide) | exact fSt_r _ _) (by decide) (by decide) (by decide) (fun nm h => by first | exact h | exact xp_1 h | exact xp_2 (by assumption) h | (refine xp_e ?_ h; first | (rw [if_pos (by omega)]; done) | (rw [if_neg (by omega)]; done)) | (refine xp_1 (xp_e ?_ h); first | (rw [if_pos (by omega)]; done) | (rw [if_neg (by omega)]; done)) | (refine xp_2 (by assumption) (xp_e ?_ h); first | (rw [if_pos (by omega)]; done) | (rw [if_neg (by omega)]; done)) | (refine xp_2 ?_ h; first | (rw [if_pos (by omega)]; done) | (rw [if_neg (by omega)]; done))) (fun cF0 => ?_)
  refine J_vx hX hQ (fun X hX hQ hXK2 => ?_)
  have c5 := (fS_0 cF0).2.2
  refine J_aload_n hX dX9_addScene_16 rfl ?_
  refine J_keep hX (hXK2.trans hXK) hX0 hV hC dX9_addScene_17 (by decide) (by decide) ⟨by rw [hX0.1]; decide, trivial⟩ trivial (by decide) (fun K2 M2 hk => ?_)
  have hX2 := hk.eye hX0
  have hXa2 := hX2.all
  have hS2 : stg M2 (x + 1 + 2) = stg M (x + 1 + 2) := stg_eq (fun k hk2 => hk.stage k hk2)
  have hW2 : WF T M2 (x + 1 + 2) := WF_fr hS2 hW
  have es11 : ∀ j, M2 (x + 1 + 2 + 11) j = M (x + 1 + 2 + 11) j := fun j => congrFun (hk.stage 11 (by decide)) j
  have c6 := es11 0
  refine J_aload_n hX dX9_addScene_20 rfl ?_
  refine J_gr hX (x + 1 + 2) fr_RX9_20 dX9_addScene_21 (show K2 (x) = 8 from hXa2 0 (by decide)) rfl ?_
  refine J_gr hX (x + 1 + 2 + 11) fr_RX9_100 dX9_addScene_24 (show K2 (x + 1 + 2) = 5 from ((hXa2).view).stage 0 (by decide)) rfl ?_
  refine J_iload_n hX dX9_addScene_27 rfl ?_
  refine J_iload_n hX dX9_addScene_28 rfl ?_
  refine J_iload_n hX dX9_addScene_29 rfl ?_
  refine J_callVM hX _ dX9_addScene_30 cw_RX9_110 (m_X3_append ((hXa2).view).stage hW2 (by omega) (by omega) (by omega) (by omega)) ⟨(show K2 (x + 1 + 2 + 11) = 3 from ((hXa2).view).stage 11 (by decide)), by decide, by decide, rfl⟩ rfl (Nat.le_of_ble_eq_true rfl) (by decide) ⟨by decide, by decide⟩ (fun r9 M30 q30 => ?_)
  obtain ⟨rfl, rfl⟩ := q30
  exact J_iret hX hQ dX9_addScene_33 (by exact ⟨cF0, by rw [es11], M2, hk, rfl⟩) (by decide) (by decide)
-- X9_setTitle
set_option maxHeartbeats 4000000 in
set_option maxRecDepth 100000 in
theorem m_X9_setTitle {E : EE} {K : Nat → Nat} {M : MM} {x : Nat} {T : Int} {n : Nat} {u v l : Int} (hE : ∀ U, SF E U → ThF E U) (hX0 : EyeK K x) (hW : WF T M (x + 1 + 2)) (hV : HV n K M (x + 55) (x + 60)) (hC : Cl K M) (hu : i32 u) (hv : i32 v) (hl : i32 l) : CnX E 8 yX9_setTitle cX9_setTitle 4 (Option.some FieldType.int) [.ref x, vI u, vI v, vI l] K M (fun r K' M' => (fT M (x + 1 + 2) u v l) = (0 : Int) ∧ r = some (vI (M (x + 1 + 2) 7)) ∧ ∃ M1, KeptX n K M x K' M1 ∧ M' = entM M1 (x + 1 + 2) u v l) (xpF (fT M (x + 1 + 2) u v l)) 17 239 := by
  have hXa := hX0.all
  refine CnX_of RX9 (by decide) rfl (Nat.le_of_ble_eq_true rfl) (fun X hX hQ hXK hT => ?_)
  refine J_aload_n hX dX9_setTitle_0 rfl ?_
  refine J_gr hX (x + 1 + 2) fr_RX9_20 dX9_setTitle_1 (show K (x) = 8 from hXa 0 (by decide)) rfl ?_
  refine J_iload_n hX dX9_setTitle_4 rfl ?_
  refine J_iload_n hX dX9_setTitle_5 rfl ?_
  refine J_iload_n hX dX9_setTitle_6 rfl ?_
  refine J_callVI hX _ dX9_setTitle_7 cw_RX9_119 (m_X5_faultOfTitle ((hXa).view).stage hW (by omega) (by omega) (by omega)) ⟨(show K (x + 1 + 2) = 5 from ((hXa).view).stage 0 (by decide)), by decide, by decide, rfl⟩ rfl (Nat.le_of_ble_eq_true rfl) (by decide) ⟨by decide, by decide⟩ (fun r7 => ?_)
  refine J_refuse hX hT hXK hQ rfl hE dX9_setTitle_10 (by first | decide | exact fG_r _ _ _ _ _ _ | exact fB_r _ _ _ _ _ _ _ _ | exact fP_r _ _ _ _ _ _ | exact fCo_r _ _ _ _ | exact fS_r _ _ _ _ _ | exact fT_r _ _ _ _ _ | exact fCe_r _ _ _ _ | exact if_r (by decide) | exact fSt_r _ _) (by decide) (by decide) (by decide) (fun nm h => by first | exact h | exact xp_1 h | exact xp_2 (by assumption) h | (refine xp_e ?_ h; first | (rw [if_pos (by omega)]; done) | (rw [if_neg (by omega)]; done)) | (refine xp_1 (xp_e ?_ h); first | (rw [if_pos (by omega)]; done) | (rw [if_neg (by omega)]; done)) | (refine xp_2 (by assumption) (xp_e ?_ h); first | (rw [if_pos (by omega)]; done) | (rw [if_neg (by omega)]; done)) | (refine xp_2 ?_ h; first | (rw [if_pos (by omega)]; done) | (rw [if_neg (by omega)]; done))) (fun cF0 => ?_)
  refine J_vx hX hQ (fun X hX hQ hXK2 => ?_)
  refine J_aload_n hX dX9_setTitle_13 rfl ?_
  refine J_keep hX (hXK2.trans hXK) hX0 hV hC dX9_setTitle_14 (by decide) (by decide) ⟨by rw [hX0.1]; decide, trivial⟩ trivial (by decide) (fun K2 M2 hk => ?_)
  have hX2 := hk.eye hX0
  have hXa2 := hX2.all
  have hS2 : stg M2 (x + 1 + 2) = stg M (x + 1 + 2) := stg_eq (fun k hk2 => hk.stage k hk2)
  have hW2 : WF T M2 (x + 1 + 2) := WF_fr hS2 hW
  have es0 : ∀ j, M2 (x + 1 + 2 + 0) j = M (x + 1 + 2 + 0) j := fun j => congrFun (hk.stage 0 (by decide)) j
  refine J_aload_n hX dX9_setTitle_17 rfl ?_
  refine J_gr hX (x + 1 + 2) fr_RX9_20 dX9_setTitle_18 (show K2 (x) = 8 from hXa2 0 (by decide)) rfl ?_
  refine J_iload_n hX dX9_setTitle_21 rfl ?_
  refine J_iload_n hX dX9_setTitle_22 rfl ?_
  refine J_iload_n hX dX9_setTitle_23 rfl ?_
  refine J_callVM hX _ dX9_setTitle_24 cw_RX9_122 (m_X5_entitle ((hXa2).view).stage (by omega) (by omega) (by omega)) ⟨(show K2 (x + 1 + 2) = 5 from ((hXa2).view).stage 0 (by decide)), by decide, by decide, rfl⟩ rfl (Nat.le_of_ble_eq_true rfl) (by decide) ⟨by decide, by decide⟩ (fun r9 M24 q24 => ?_)
  obtain ⟨rfl, rfl⟩ := q24
  exact J_iret hX hQ dX9_setTitle_27 (by exact ⟨cF0, by rw [show M2 (x + 1 + 2) 7 = M (x + 1 + 2) 7 from es0 7], M2, hk, rfl⟩) (by decide) (by decide)
-- X9_removeNode
set_option maxHeartbeats 4000000 in
set_option maxRecDepth 100000 in
theorem m_X9_removeNode {E : EE} {K : Nat → Nat} {M : MM} {x : Nat} {T : Int} {n : Nat} {n9 : Int} (hE : ∀ U, SF E U → ThF E U) (hX0 : EyeK K x) (hW : WF T M (x + 1 + 2)) (hV : HV n K M (x + 55) (x + 60)) (hC : Cl K M) (hn9 : i32 n9) : CnX E 8 yX9_removeNode cX9_removeNode 2 (Option.some FieldType.int) [.ref x, vI n9] K M (fun r K' M' => (if has M (x + 1 + 2) n9 then 0 else 1) = (0 : Int) ∧ r = some (vI (nwn (stg M (x + 1 + 2)) n9 (M (x + 1 + 2 + 1) 0))) ∧ ∃ M1, KeptX n K M x K' M1 ∧ Drd (stg M (x + 1 + 2)) (stg M' (x + 1 + 2)) n9 ∧ ∀ i, i < x + 1 + 2 + 1 ∨ x + 1 + 2 + 10 < i → M' i = M1 i) (xpF (if has M (x + 1 + 2) n9 then 0 else 1)) 17 239 := by
  have hXa := hX0.all
  refine CnX_of RX9 (by decide) rfl (Nat.le_of_ble_eq_true rfl) (fun X hX hQ hXK hT => ?_)
  refine J_aload_n hX dX9_removeNode_0 rfl ?_
  refine J_gr hX (x + 1 + 2) fr_RX9_20 dX9_removeNode_1 (show K (x) = 8 from hXa 0 (by decide)) rfl ?_
  refine J_gr hX (x + 1 + 2 + 1) fr_RX9_61 dX9_removeNode_4 (show K (x + 1 + 2) = 5 from ((hXa).view).stage 0 (by decide)) rfl ?_
  refine J_iload_n hX dX9_removeNode_7 rfl ?_
  refine J_callVI hX _ dX9_removeNode_8 cw_RX9_93 (m_X6_faultOfNumber ((hXa).view).stage (by omega)) ⟨(show K (x + 1 + 2 + 1) = 6 from ((hXa).view).stage 1 (by decide)), by decide, by decide, rfl⟩ rfl (Nat.le_of_ble_eq_true rfl) (by decide) ⟨by decide, by decide⟩ (fun r8 => ?_)
  refine J_refuse hX hT hXK hQ rfl hE dX9_removeNode_11 (by first | decide | exact fG_r _ _ _ _ _ _ | exact fB_r _ _ _ _ _ _ _ _ | exact fP_r _ _ _ _ _ _ | exact fCo_r _ _ _ _ | exact fS_r _ _ _ _ _ | exact fT_r _ _ _ _ _ | exact fCe_r _ _ _ _ | exact if_r (by decide) | exact fSt_r _ _) (by decide) (by decide) (by decide) (fun nm h => by first | exact h | exact xp_1 h | exact xp_2 (by assumption) h | (refine xp_e ?_ h; first | (rw [if_pos (by omega)]; done) | (rw [if_neg (by omega)]; done)) | (refine xp_1 (xp_e ?_ h); first | (rw [if_pos (by omega)]; done) | (rw [if_neg (by omega)]; done)) | (refine xp_2 (by assumption) (xp_e ?_ h); first | (rw [if_pos (by omega)]; done) | (rw [if_neg (by omega)]; done)) | (refine xp_2 ?_ h; first | (rw [if_pos (by omega)]; done) | (rw [if_neg (by omega)]; done))) (fun cF0 => ?_)
  refine J_vx hX hQ (fun X hX hQ hXK2 => ?_)
  refine J_aload_n hX dX9_removeNode_14 rfl ?_
  refine J_keep hX (hXK2.trans hXK) hX0 hV hC dX9_removeNode_15 (by decide) (by decide) ⟨by rw [hX0.1]; decide, trivial⟩ trivial (by decide) (fun K2 M2 hk => ?_)
  have hX2 := hk.eye hX0
  have hXa2 := hX2.all
  have hS2 : stg M2 (x + 1 + 2) = stg M (x + 1 + 2) := stg_eq (fun k hk2 => hk.stage k hk2)
  have hW2 : WF T M2 (x + 1 + 2) := WF_fr hS2 hW
  have es1 : ∀ j, M2 (x + 1 + 2 + 1) j = M (x + 1 + 2 + 1) j := fun j => congrFun (hk.stage 1 (by decide)) j
  refine J_aload_n hX dX9_removeNode_18 rfl ?_
  refine J_gr hX (x + 1 + 2) fr_RX9_20 dX9_removeNode_19 (show K2 (x) = 8 from hXa2 0 (by decide)) rfl ?_
  refine J_gr hX (x + 1 + 2 + 1) fr_RX9_61 dX9_removeNode_22 (show K2 (x + 1 + 2) = 5 from ((hXa2).view).stage 0 (by decide)) rfl ?_
  refine J_iload_n hX dX9_removeNode_25 rfl ?_
  refine J_callVM hX _ dX9_removeNode_26 cw_RX9_97 (m_X6_drop ((hXa2).view).stage hW2 (by omega)) ⟨(show K2 (x + 1 + 2 + 1) = 6 from ((hXa2).view).stage 1 (by decide)), by decide, by decide, rfl⟩ rfl (Nat.le_of_ble_eq_true rfl) (by decide) ⟨by decide, by decide⟩ (fun r9 M26 q26 => ?_)
  obtain ⟨rfl, dd1, dd2⟩ := q26
  exact J_iret hX hQ dX9_removeNode_29 (by exact ⟨cF0, by rw [← hS2, es1], M2, hk, by rw [← hS2]; exact dd1, dd2⟩) (by decide) (by decide)
-- X9_tick
set_option maxHeartbeats 4000000 in
set_option maxRecDepth 100000 in
theorem m_X9_tick {E : EE} {K : Nat → Nat} {M : MM} {x : Nat} {T : Int} {n : Nat} {t : Int} (hE : ∀ U, SF E U → ThF E U) (hX0 : EyeK K x) (hW : WF T M (x + 1 + 2)) (hV : HV n K M (x + 55) (x + 60)) (hC : Cl K M) (ht : i32 t) (hTt : T + 200 ≤ 1000000000) : CnX E 8 yX9_tick cX9_tick 2 (Option.some FieldType.int) [.ref x, vI t] K M (fun r K' M' => (if 1 ≤ t ∧ t ≤ 200 then 0 else 2) = (0 : Int) ∧ r = some (vI (M' (x + 1 + 2 + 11) 1)) ∧ ∃ M1, KeptX n K M x K' M1 ∧ M' = tkN (x + 1 + 2) (M (x + 1 + 2 + 15) 1) t.toNat M1) (xpF (if 1 ≤ t ∧ t ≤ 200 then 0 else 2)) 17 239 := by
  have hXa := hX0.all
  refine CnX_of RX9 (by decide) rfl (Nat.le_of_ble_eq_true rfl) (fun X hX hQ hXK hT => ?_)
  refine J_aload_n hX dX9_tick_0 rfl ?_
  refine J_gr hX (x + 1 + 2) fr_RX9_20 dX9_tick_1 (show K (x) = 8 from hXa 0 (by decide)) rfl ?_
  refine J_iload_n hX dX9_tick_4 rfl ?_
  refine J_callVI hX _ dX9_tick_5 cw_RX9_125 (m_X5_faultOfTicks ((hXa).view).stage (by omega)) ⟨(show K (x + 1 + 2) = 5 from ((hXa).view).stage 0 (by decide)), by decide, by decide, rfl⟩ rfl (Nat.le_of_ble_eq_true rfl) (by decide) ⟨by decide, by decide⟩ (fun r5 => ?_)
  refine J_refuse hX hT hXK hQ rfl hE dX9_tick_8 (by first | decide | exact fG_r _ _ _ _ _ _ | exact fB_r _ _ _ _ _ _ _ _ | exact fP_r _ _ _ _ _ _ | exact fCo_r _ _ _ _ | exact fS_r _ _ _ _ _ | exact fT_r _ _ _ _ _ | exact fCe_r _ _ _ _ | exact if_r (by decide) | exact fSt_r _ _) (by decide) (by decide) (by decide) (fun nm h => by first | exact h | exact xp_1 h | exact xp_2 (by assumption) h | (refine xp_e ?_ h; first | (rw [if_pos (by omega)]; done) | (rw [if_neg (by omega)]; done)) | (refine xp_1 (xp_e ?_ h); first | (rw [if_pos (by omega)]; done) | (rw [if_neg (by omega)]; done)) | (refine xp_2 (by assumption) (xp_e ?_ h); first | (rw [if_pos (by omega)]; done) | (rw [if_neg (by omega)]; done)) | (refine xp_2 ?_ h; first | (rw [if_pos (by omega)]; done) | (rw [if_neg (by omega)]; done))) (fun cF0 => ?_)
  refine J_vx hX hQ (fun X hX hQ hXK2 => ?_)
  have c5 := if_0 (by decide) cF0
  refine J_aload_n hX dX9_tick_11 rfl ?_
  refine J_keep hX (hXK2.trans hXK) hX0 hV hC dX9_tick_12 (by decide) (by decide) ⟨by rw [hX0.1]; decide, trivial⟩ trivial (by decide) (fun K2 M2 hk => ?_)
  have hX2 := hk.eye hX0
  have hXa2 := hX2.all
  have hS2 : stg M2 (x + 1 + 2) = stg M (x + 1 + 2) := stg_eq (fun k hk2 => hk.stage k hk2)
  have hW2 : WF T M2 (x + 1 + 2) := WF_fr hS2 hW
  have es15 : ∀ j, M2 (x + 1 + 2 + 15) j = M (x + 1 + 2 + 15) j := fun j => congrFun (hk.stage 15 (by decide)) j
  refine J_aload_n hX dX9_tick_15 rfl ?_
  refine J_gr hX (x + 1 + 2) fr_RX9_20 dX9_tick_16 (show K2 (x) = 8 from hXa2 0 (by decide)) rfl ?_
  refine J_iload_n hX dX9_tick_19 rfl ?_
  refine J_callVM hX _ dX9_tick_20 cw_RX9_128 (m_X5_pass ((hXa2).view).stage hW2 (by omega) (by omega)) ⟨(show K2 (x + 1 + 2) = 5 from ((hXa2).view).stage 0 (by decide)), by decide, by decide, rfl⟩ rfl (Nat.le_of_ble_eq_true rfl) (by decide) ⟨by decide, by decide⟩ (fun r9 M20 q20 => ?_)
  obtain ⟨rfl, pa⟩ := q20
  exact J_iret hX hQ dX9_tick_23 (by exact ⟨cF0, rfl, M2, hk, by rw [← es15]; exact pa⟩) (by decide) (by decide)
-- X9_node
set_option maxHeartbeats 4000000 in
set_option maxRecDepth 100000 in
theorem m_X9_node {E : EE} {K : Nat → Nat} {M : MM} {x : Nat} {T : Int} {n9 k : Int} (hE : ∀ U, SF E U → ThF E U) (hX0 : EyeK K x) (hW : WF T M (x + 1 + 2)) (hF : Frs M x) (hn9 : i32 n9) (hk : i32 k)  : CnX E 8 yX9_node cX9_node 3 (Option.some FieldType.int) [.ref x, vI n9, vI k] K M (fun r K' M' => f2l (if has M (x + 1 + 2) n9 then 0 else 1) (if 0 ≤ k ∧ k ≤ 15 then 0 else 2) = (0 : Int) ∧ K' = K ∧ r = some (vI (nvl (stg M (x + 1 + 2)) n9 k)) ∧ Lkd M x M') (xpF (f2l (if has M (x + 1 + 2) n9 then 0 else 1) (if 0 ≤ k ∧ k ≤ 15 then 0 else 2))) 2 12 := by
  have hXa := hX0.all
  refine CnX_of RX9 (by decide) rfl (Nat.le_of_ble_eq_true rfl) (fun X hX hQ hXK hT => ?_)
  refine J_aload_n hX dX9_node_0 rfl ?_
  refine J_gr hX (x + 1 + 2) fr_RX9_20 dX9_node_1 (show K (x) = 8 from hXa 0 (by decide)) rfl ?_
  refine J_gr hX (x + 1 + 2 + 1) fr_RX9_61 dX9_node_4 (show K (x + 1 + 2) = 5 from ((hXa).view).stage 0 (by decide)) rfl ?_
  refine J_iload_n hX dX9_node_7 rfl ?_
  refine J_callVI hX _ dX9_node_8 cw_RX9_93 (m_X6_faultOfNumber ((hXa).view).stage (by omega)) ⟨(show K (x + 1 + 2 + 1) = 6 from ((hXa).view).stage 1 (by decide)), by decide, by decide, rfl⟩ rfl (Nat.le_of_ble_eq_true rfl) (by decide) ⟨by decide, by decide⟩ (fun r8 => ?_)
  refine J_refuse hX hT hXK hQ rfl hE dX9_node_11 (by first | decide | exact fG_r _ _ _ _ _ _ | exact fB_r _ _ _ _ _ _ _ _ | exact fP_r _ _ _ _ _ _ | exact fCo_r _ _ _ _ | exact fS_r _ _ _ _ _ | exact fT_r _ _ _ _ _ | exact fCe_r _ _ _ _ | exact if_r (by decide) | exact fSt_r _ _) (by decide) (by decide) (by decide) (fun nm h => by first | exact h | exact xp_1 h | exact xp_2 (by assumption) h | (refine xp_e ?_ h; first | (rw [if_pos (by omega)]; done) | (rw [if_neg (by omega)]; done)) | (refine xp_1 (xp_e ?_ h); first | (rw [if_pos (by omega)]; done) | (rw [if_neg (by omega)]; done)) | (refine xp_2 (by assumption) (xp_e ?_ h); first | (rw [if_pos (by omega)]; done) | (rw [if_neg (by omega)]; done)) | (refine xp_2 ?_ h; first | (rw [if_pos (by omega)]; done) | (rw [if_neg (by omega)]; done))) (fun cF0 => ?_)
  refine J_iload_n hX dX9_node_14 rfl ?_
  refine J_iconst hX dX9_node_15 ?_
  refine J_bipush hX dX9_node_16 rfl ?_
  refine J_callSI hX _ dX9_node_18 cw_RX9_131 (m_X9_faultOfRange (by omega) (by omega) (by omega)) rfl (Nat.le_of_ble_eq_true rfl) (by decide) ⟨by decide, by decide⟩ (fun r18 => ?_)
  refine J_refuse hX hT hXK hQ rfl hE dX9_node_21 (by first | decide | exact fG_r _ _ _ _ _ _ | exact fB_r _ _ _ _ _ _ _ _ | exact fP_r _ _ _ _ _ _ | exact fCo_r _ _ _ _ | exact fS_r _ _ _ _ _ | exact fT_r _ _ _ _ _ | exact fCe_r _ _ _ _ | exact if_r (by decide) | exact fSt_r _ _) (by decide) (by decide) (by decide) (fun nm h => by first | exact h | exact xp_1 h | exact xp_2 (by assumption) h | (refine xp_e ?_ h; first | (rw [if_pos (by omega)]; done) | (rw [if_neg (by omega)]; done)) | (refine xp_1 (xp_e ?_ h); first | (rw [if_pos (by omega)]; done) | (rw [if_neg (by omega)]; done)) | (refine xp_2 (by assumption) (xp_e ?_ h); first | (rw [if_pos (by omega)]; done) | (rw [if_neg (by omega)]; done)) | (refine xp_2 ?_ h; first | (rw [if_pos (by omega)]; done) | (rw [if_neg (by omega)]; done))) (fun cF1 => ?_)
  refine J_vx hX hQ (fun X hX hQ hXK2 => ?_)
  have c6 := if_0 (by decide) cF1
  refine J_aload_n hX dX9_node_24 rfl ?_
  refine J_fresh hX hX0 hW hF dX9_node_25 (by decide) (by decide) (by decide) (fun M2 hL hW2 hV2 hH2 hS2 => ?_)
  have hP2 := hV2.1.1
  refine J_gr hX (x + 1 + 1) fr_RX9_138 dX9_node_28 (show K (x + 1) = 7 from (hXa).view 0 (by decide)) rfl ?_
  refine J_iload_n hX dX9_node_31 rfl ?_
  refine J_iload_n hX dX9_node_32 rfl ?_
  refine J_callVI hX _ dX9_node_33 cw_RX9_142 (m_X2_valueOf (hXa).view hW2 hP2 (by omega) (by omega)) ⟨(show K (x + 1 + 1) = 2 from (hXa).view 1 (by decide)), by decide, by decide, rfl⟩ rfl (Nat.le_of_ble_eq_true rfl) (by decide) ⟨by decide, by decide⟩ (fun r33 => ?_)
  exact J_iret hX hQ dX9_node_36 (by exact ⟨by unfold f2l; rw [if_pos cF0]; exact cF1, rfl, by rw [hS2], hL⟩) (by decide) (by decide)
-- X9_painted
set_option maxHeartbeats 4000000 in
set_option maxRecDepth 100000 in
theorem m_X9_painted {E : EE} {K : Nat → Nat} {M : MM} {x : Nat} {T : Int} {p : Int} (hE : ∀ U, SF E U → ThF E U) (hX0 : EyeK K x) (hW : WF T M (x + 1 + 2)) (hF : Frs M x) (hp : i32 p)  : CnX E 8 yX9_painted cX9_painted 2 (Option.some FieldType.int) [.ref x, vI p] K M (fun r K' M' => (if p < 0 then 2 else 0) = (0 : Int) ∧ K' = K ∧ r = some (vI (if 0 ≤ p ∧ p < (nb (stg M (x + 1 + 2)) : Nat) then ord (stg M (x + 1 + 2)) p else -1000)) ∧ Lkd M x M') (xpF ((if p < 0 then 2 else 0))) 1 6 := by
  have hXa := hX0.all
  refine CnX_of RX9 (by decide) rfl (Nat.le_of_ble_eq_true rfl) (fun X hX hQ hXK hT => ?_)
  refine J_iload_n hX dX9_painted_0 rfl ?_
  refine J_if_ge hX 8 dX9_painted_1 (by omega) (by decide) (fun c1 => ?_) (fun c1 => ?_)
  · refine J_iconst hX dX9_painted_8 ?_
    refine J_refuse hX hT hXK hQ rfl hE dX9_painted_9 (by first | decide | exact fG_r _ _ _ _ _ _ | exact fB_r _ _ _ _ _ _ _ _ | exact fP_r _ _ _ _ _ _ | exact fCo_r _ _ _ _ | exact fS_r _ _ _ _ _ | exact fT_r _ _ _ _ _ | exact fCe_r _ _ _ _ | exact if_r (by decide) | exact fSt_r _ _) (by decide) (by decide) (by decide) (fun nm h => by first | exact h | exact xp_1 h | exact xp_2 (by assumption) h | (refine xp_e ?_ h; first | (rw [if_pos (by omega)]; done) | (rw [if_neg (by omega)]; done)) | (refine xp_1 (xp_e ?_ h); first | (rw [if_pos (by omega)]; done) | (rw [if_neg (by omega)]; done)) | (refine xp_2 (by assumption) (xp_e ?_ h); first | (rw [if_pos (by omega)]; done) | (rw [if_neg (by omega)]; done)) | (refine xp_2 ?_ h; first | (rw [if_pos (by omega)]; done) | (rw [if_neg (by omega)]; done))) (fun cF0 => ?_)
    refine J_vx hX hQ (fun X hX hQ hXK2 => ?_)
    refine J_aload_n hX dX9_painted_12 rfl ?_
    refine J_fresh hX hX0 hW hF dX9_painted_13 (by decide) (by decide) (by decide) (fun M2 hL hW2 hV2 hH2 hS2 => ?_)
    have hP2 := hV2.1.1
    refine J_gr hX (x + 1 + 1) fr_RX9_138 dX9_painted_16 (show K (x + 1) = 7 from (hXa).view 0 (by decide)) rfl ?_
    refine J_iload_n hX dX9_painted_19 rfl ?_
    refine J_callVI hX _ dX9_painted_20 cw_RX9_147 (m_X2_boxAt (hXa).view hW2 hP2 (by omega)) ⟨(show K (x + 1 + 1) = 2 from (hXa).view 1 (by decide)), by decide, by decide, rfl⟩ rfl (Nat.le_of_ble_eq_true rfl) (by decide) ⟨by decide, by decide⟩ (fun r20 => ?_)
    exact J_iret hX hQ dX9_painted_23 (by exact ⟨if_neg (by omega), rfl, by rw [hS2], hL⟩) (by decide) (by decide)
  · refine J_iconst hX dX9_painted_4 ?_
    refine J_goto hX 9 dX9_painted_5 (by decide) ?_
    exact J_refuse hX hT hXK hQ rfl hE dX9_painted_9 (by decide) (by decide) (by decide) (by decide) (fun nm h => by first | exact h | exact xp_1 h | exact xp_2 (by assumption) h | (refine xp_e ?_ h; first | (rw [if_pos (by omega)]; done) | (rw [if_neg (by omega)]; done)) | (refine xp_1 (xp_e ?_ h); first | (rw [if_pos (by omega)]; done) | (rw [if_neg (by omega)]; done)) | (refine xp_2 (by assumption) (xp_e ?_ h); first | (rw [if_pos (by omega)]; done) | (rw [if_neg (by omega)]; done)) | (refine xp_2 ?_ h; first | (rw [if_pos (by omega)]; done) | (rw [if_neg (by omega)]; done))) (fun cF => absurd cF (by decide))
-- X9_title
set_option maxHeartbeats 4000000 in
set_option maxRecDepth 100000 in
theorem m_X9_title {E : EE} {K : Nat → Nat} {M : MM} {x : Nat} {T : Int} {k : Int} (hE : ∀ U, SF E U → ThF E U) (hX0 : EyeK K x) (hW : WF T M (x + 1 + 2)) (hF : Frs M x) (hk : i32 k)  : CnX E 8 yX9_title cX9_title 2 (Option.some FieldType.int) [.ref x, vI k] K M (fun r K' M' => (if 0 ≤ k ∧ k ≤ 6 then 0 else 2) = (0 : Int) ∧ K' = K ∧ r = some (vI (tvl (stg M (x + 1 + 2)) k)) ∧ Lkd M x M') (xpF ((if 0 ≤ k ∧ k ≤ 6 then 0 else 2))) 1 6 := by
  have hXa := hX0.all
  refine CnX_of RX9 (by decide) rfl (Nat.le_of_ble_eq_true rfl) (fun X hX hQ hXK hT => ?_)
  refine J_iload_n hX dX9_title_0 rfl ?_
  refine J_iconst hX dX9_title_1 ?_
  refine J_bipush hX dX9_title_2 rfl ?_
  refine J_callSI hX _ dX9_title_4 cw_RX9_131 (m_X9_faultOfRange (by omega) (by omega) (by omega)) rfl (Nat.le_of_ble_eq_true rfl) (by decide) ⟨by decide, by decide⟩ (fun r4 => ?_)
  refine J_refuse hX hT hXK hQ rfl hE dX9_title_7 (by first | decide | exact fG_r _ _ _ _ _ _ | exact fB_r _ _ _ _ _ _ _ _ | exact fP_r _ _ _ _ _ _ | exact fCo_r _ _ _ _ | exact fS_r _ _ _ _ _ | exact fT_r _ _ _ _ _ | exact fCe_r _ _ _ _ | exact if_r (by decide) | exact fSt_r _ _) (by decide) (by decide) (by decide) (fun nm h => by first | exact h | exact xp_1 h | exact xp_2 (by assumption) h | (refine xp_e ?_ h; first | (rw [if_pos (by omega)]; done) | (rw [if_neg (by omega)]; done)) | (refine xp_1 (xp_e ?_ h); first | (rw [if_pos (by omega)]; done) | (rw [if_neg (by omega)]; done)) | (refine xp_2 (by assumption) (xp_e ?_ h); first | (rw [if_pos (by omega)]; done) | (rw [if_neg (by omega)]; done)) | (refine xp_2 ?_ h; first | (rw [if_pos (by omega)]; done) | (rw [if_neg (by omega)]; done))) (fun cF0 => ?_)
  refine J_vx hX hQ (fun X hX hQ hXK2 => ?_)
  have c5 := if_0 (by decide) cF0
  refine J_aload_n hX dX9_title_10 rfl ?_
  refine J_fresh hX hX0 hW hF dX9_title_11 (by decide) (by decide) (by decide) (fun M2 hL hW2 hV2 hH2 hS2 => ?_)
  have hP2 := hV2.1.1
  refine J_iload_n hX dX9_title_14 rfl ?_
  refine J_callVI hX _ dX9_title_15 cw_RX9_155 (m_X7_titleValue (hXa).view hW2 hV2 (by omega)) ⟨(show K (x + 1) = 7 from (hXa).view 0 (by decide)), by decide, by decide, rfl⟩ rfl (Nat.le_of_ble_eq_true rfl) (by decide) ⟨by decide, by decide⟩ (fun r15 => ?_)
  exact J_iret hX hQ dX9_title_18 (by exact ⟨cF0, rfl, by rw [hS2], hL⟩) (by decide) (by decide)
-- X9_whole
set_option maxHeartbeats 4000000 in
set_option maxRecDepth 100000 in
theorem m_X9_whole {E : EE} {K : Nat → Nat} {M : MM} {x : Nat} {T : Int} {k : Int} (hE : ∀ U, SF E U → ThF E U) (hX0 : EyeK K x) (hW : WF T M (x + 1 + 2)) (hF : Frs M x) (hk : i32 k)  : CnX E 8 yX9_whole cX9_whole 2 (Option.some FieldType.int) [.ref x, vI k] K M (fun r K' M' => (if 0 ≤ k ∧ k ≤ 15 then 0 else 2) = (0 : Int) ∧ K' = K ∧ r = some (vI (wvl (stg M (x + 1 + 2)) k)) ∧ Lkd M x M') (xpF ((if 0 ≤ k ∧ k ≤ 15 then 0 else 2))) 1 6 := by
  have hXa := hX0.all
  refine CnX_of RX9 (by decide) rfl (Nat.le_of_ble_eq_true rfl) (fun X hX hQ hXK hT => ?_)
  refine J_iload_n hX dX9_whole_0 rfl ?_
  refine J_iconst hX dX9_whole_1 ?_
  refine J_bipush hX dX9_whole_2 rfl ?_
  refine J_callSI hX _ dX9_whole_4 cw_RX9_131 (m_X9_faultOfRange (by omega) (by omega) (by omega)) rfl (Nat.le_of_ble_eq_true rfl) (by decide) ⟨by decide, by decide⟩ (fun r4 => ?_)
  refine J_refuse hX hT hXK hQ rfl hE dX9_whole_7 (by first | decide | exact fG_r _ _ _ _ _ _ | exact fB_r _ _ _ _ _ _ _ _ | exact fP_r _ _ _ _ _ _ | exact fCo_r _ _ _ _ | exact fS_r _ _ _ _ _ | exact fT_r _ _ _ _ _ | exact fCe_r _ _ _ _ | exact if_r (by decide) | exact fSt_r _ _) (by decide) (by decide) (by decide) (fun nm h => by first | exact h | exact xp_1 h | exact xp_2 (by assumption) h | (refine xp_e ?_ h; first | (rw [if_pos (by omega)]; done) | (rw [if_neg (by omega)]; done)) | (refine xp_1 (xp_e ?_ h); first | (rw [if_pos (by omega)]; done) | (rw [if_neg (by omega)]; done)) | (refine xp_2 (by assumption) (xp_e ?_ h); first | (rw [if_pos (by omega)]; done) | (rw [if_neg (by omega)]; done)) | (refine xp_2 ?_ h; first | (rw [if_pos (by omega)]; done) | (rw [if_neg (by omega)]; done))) (fun cF0 => ?_)
  refine J_vx hX hQ (fun X hX hQ hXK2 => ?_)
  have c5 := if_0 (by decide) cF0
  refine J_aload_n hX dX9_whole_10 rfl ?_
  refine J_fresh hX hX0 hW hF dX9_whole_11 (by decide) (by decide) (by decide) (fun M2 hL hW2 hV2 hH2 hS2 => ?_)
  have hP2 := hV2.1.1
  refine J_iload_n hX dX9_whole_14 rfl ?_
  refine J_callVI hX _ dX9_whole_15 cw_RX9_158 (m_X7_wholeValue (hXa).view hW2 hV2 (by omega)) ⟨(show K (x + 1) = 7 from (hXa).view 0 (by decide)), by decide, by decide, rfl⟩ rfl (Nat.le_of_ble_eq_true rfl) (by decide) ⟨by decide, by decide⟩ (fun r15 => ?_)
  exact J_iret hX hQ dX9_whole_18 (by exact ⟨cF0, rfl, by rw [hS2], hL⟩) (by decide) (by decide)
-- X9_shade
set_option maxHeartbeats 4000000 in
set_option maxRecDepth 100000 in
theorem m_X9_shade {E : EE} {K : Nat → Nat} {M : MM} {x : Nat} {T : Int} {l c r9 : Int} (hE : ∀ U, SF E U → ThF E U) (hX0 : EyeK K x) (hW : WF T M (x + 1 + 2)) (hF : Frs M x) (hl : l = 0 ∨ l = 1) (hc : i32 c) (hr9 : i32 r9) : CnX E 8 yX9_shade cX9_shade 4 (Option.some FieldType.int) [.ref x, vI l, vI c, vI r9] K M (fun r K' M' => (fCe M (x + 1 + 2) c r9) = (0 : Int) ∧ K' = K ∧ r = some (vI (shd (stg M (x + 1 + 2)) l c r9)) ∧ Lkd M x M') (xpF ((fCe M (x + 1 + 2) c r9))) 1 6 := by
  have hXa := hX0.all
  refine CnX_of RX9 (by decide) rfl (Nat.le_of_ble_eq_true rfl) (fun X hX hQ hXK hT => ?_)
  refine J_aload_n hX dX9_shade_0 rfl ?_
  refine J_gr hX (x + 1 + 2) fr_RX9_20 dX9_shade_1 (show K (x) = 8 from hXa 0 (by decide)) rfl ?_
  refine J_iload_n hX dX9_shade_4 rfl ?_
  refine J_iload_n hX dX9_shade_5 rfl ?_
  refine J_callVI hX _ dX9_shade_6 cw_RX9_161 (m_X5_faultOfCell ((hXa).view).stage hW (by omega) (by omega)) ⟨(show K (x + 1 + 2) = 5 from ((hXa).view).stage 0 (by decide)), by decide, by decide, rfl⟩ rfl (Nat.le_of_ble_eq_true rfl) (by decide) ⟨by decide, by decide⟩ (fun r6 => ?_)
  refine J_refuse hX hT hXK hQ rfl hE dX9_shade_9 (by first | decide | exact fG_r _ _ _ _ _ _ | exact fB_r _ _ _ _ _ _ _ _ | exact fP_r _ _ _ _ _ _ | exact fCo_r _ _ _ _ | exact fS_r _ _ _ _ _ | exact fT_r _ _ _ _ _ | exact fCe_r _ _ _ _ | exact if_r (by decide) | exact fSt_r _ _) (by decide) (by decide) (by decide) (fun nm h => by first | exact h | exact xp_1 h | exact xp_2 (by assumption) h | (refine xp_e ?_ h; first | (rw [if_pos (by omega)]; done) | (rw [if_neg (by omega)]; done)) | (refine xp_1 (xp_e ?_ h); first | (rw [if_pos (by omega)]; done) | (rw [if_neg (by omega)]; done)) | (refine xp_2 (by assumption) (xp_e ?_ h); first | (rw [if_pos (by omega)]; done) | (rw [if_neg (by omega)]; done)) | (refine xp_2 ?_ h; first | (rw [if_pos (by omega)]; done) | (rw [if_neg (by omega)]; done))) (fun cF0 => ?_)
  refine J_vx hX hQ (fun X hX hQ hXK2 => ?_)
  refine J_aload_n hX dX9_shade_12 rfl ?_
  refine J_fresh hX hX0 hW hF dX9_shade_13 (by decide) (by decide) (by decide) (fun M2 hL hW2 hV2 hH2 hS2 => ?_)
  have hP2 := hV2.1.1
  refine J_iload_n hX dX9_shade_16 rfl ?_
  refine J_iload_n hX dX9_shade_17 rfl ?_
  refine J_iload_n hX dX9_shade_18 rfl ?_
  refine J_callVI hX _ dX9_shade_19 cw_RX9_164 (m_X7_shadeAt (hXa).view hW2 hV2 (by omega) (by omega) (by omega)) ⟨(show K (x + 1) = 7 from (hXa).view 0 (by decide)), by decide, by decide, rfl⟩ rfl (Nat.le_of_ble_eq_true rfl) (by decide) ⟨by decide, by decide⟩ (fun r19 => ?_)
  exact J_iret hX hQ dX9_shade_22 (by exact ⟨cF0, rfl, by rw [hS2], hL⟩) (by decide) (by decide)
-- X9_shown
set_option maxHeartbeats 4000000 in
set_option maxRecDepth 100000 in
theorem m_X9_shown {E : EE} {K : Nat → Nat} {M : MM} {x : Nat} {T : Int} {l c r9 : Int} (hE : ∀ U, SF E U → ThF E U) (hX0 : EyeK K x) (hW : WF T M (x + 1 + 2)) (hF : Frs M x) (hl : l = 0 ∨ l = 1) (hc : i32 c) (hr9 : i32 r9) : CnX E 8 yX9_shown cX9_shown 4 (Option.some FieldType.int) [.ref x, vI l, vI c, vI r9] K M (fun r K' M' => (fCe M (x + 1 + 2) c r9) = (0 : Int) ∧ K' = K ∧ r = some (vI (front (stg M (x + 1 + 2)) l c r9)) ∧ Lkd M x M') (xpF ((fCe M (x + 1 + 2) c r9))) 1 6 := by
  have hXa := hX0.all
  refine CnX_of RX9 (by decide) rfl (Nat.le_of_ble_eq_true rfl) (fun X hX hQ hXK hT => ?_)
  refine J_aload_n hX dX9_shown_0 rfl ?_
  refine J_gr hX (x + 1 + 2) fr_RX9_20 dX9_shown_1 (show K (x) = 8 from hXa 0 (by decide)) rfl ?_
  refine J_iload_n hX dX9_shown_4 rfl ?_
  refine J_iload_n hX dX9_shown_5 rfl ?_
  refine J_callVI hX _ dX9_shown_6 cw_RX9_161 (m_X5_faultOfCell ((hXa).view).stage hW (by omega) (by omega)) ⟨(show K (x + 1 + 2) = 5 from ((hXa).view).stage 0 (by decide)), by decide, by decide, rfl⟩ rfl (Nat.le_of_ble_eq_true rfl) (by decide) ⟨by decide, by decide⟩ (fun r6 => ?_)
  refine J_refuse hX hT hXK hQ rfl hE dX9_shown_9 (by first | decide | exact fG_r _ _ _ _ _ _ | exact fB_r _ _ _ _ _ _ _ _ | exact fP_r _ _ _ _ _ _ | exact fCo_r _ _ _ _ | exact fS_r _ _ _ _ _ | exact fT_r _ _ _ _ _ | exact fCe_r _ _ _ _ | exact if_r (by decide) | exact fSt_r _ _) (by decide) (by decide) (by decide) (fun nm h => by first | exact h | exact xp_1 h | exact xp_2 (by assumption) h | (refine xp_e ?_ h; first | (rw [if_pos (by omega)]; done) | (rw [if_neg (by omega)]; done)) | (refine xp_1 (xp_e ?_ h); first | (rw [if_pos (by omega)]; done) | (rw [if_neg (by omega)]; done)) | (refine xp_2 (by assumption) (xp_e ?_ h); first | (rw [if_pos (by omega)]; done) | (rw [if_neg (by omega)]; done)) | (refine xp_2 ?_ h; first | (rw [if_pos (by omega)]; done) | (rw [if_neg (by omega)]; done))) (fun cF0 => ?_)
  refine J_vx hX hQ (fun X hX hQ hXK2 => ?_)
  refine J_aload_n hX dX9_shown_12 rfl ?_
  refine J_fresh hX hX0 hW hF dX9_shown_13 (by decide) (by decide) (by decide) (fun M2 hL hW2 hV2 hH2 hS2 => ?_)
  have hP2 := hV2.1.1
  refine J_gr hX (x + 1 + 1) fr_RX9_138 dX9_shown_16 (show K (x + 1) = 7 from (hXa).view 0 (by decide)) rfl ?_
  refine J_iload_n hX dX9_shown_19 rfl ?_
  refine J_iload_n hX dX9_shown_20 rfl ?_
  refine J_iload_n hX dX9_shown_21 rfl ?_
  refine J_callVI hX _ dX9_shown_22 cw_RX9_168 (m_X2_frontBox (hXa).view hW2 hP2 (by omega) (by omega) (by omega)) ⟨(show K (x + 1 + 1) = 2 from (hXa).view 1 (by decide)), by decide, by decide, rfl⟩ rfl (Nat.le_of_ble_eq_true rfl) (by decide) ⟨by decide, by decide⟩ (fun r22 => ?_)
  exact J_iret hX hQ dX9_shown_25 (by exact ⟨cF0, rfl, by rw [hS2], hL⟩) (by decide) (by decide)
-- X9_ghost
set_option maxHeartbeats 4000000 in
set_option maxRecDepth 100000 in
theorem m_X9_ghost {E : EE} {K : Nat → Nat} {M : MM} {x : Nat} {T : Int} {c r9 : Int} (hE : ∀ U, SF E U → ThF E U) (hX0 : EyeK K x) (hW : WF T M (x + 1 + 2)) (hF : Frs M x) (hc : i32 c) (hr9 : i32 r9)  : CnX E 8 yX9_ghost cX9_ghost 3 (Option.some FieldType.int) [.ref x, vI c, vI r9] K M (fun r K' M' => (fCe M (x + 1 + 2) c r9) = (0 : Int) ∧ K' = K ∧ r = some (vI (ghs (stg M (x + 1 + 2)) c r9)) ∧ Lkd M x M') (xpF ((fCe M (x + 1 + 2) c r9))) 1 6 := by
  have hXa := hX0.all
  refine CnX_of RX9 (by decide) rfl (Nat.le_of_ble_eq_true rfl) (fun X hX hQ hXK hT => ?_)
  refine J_aload_n hX dX9_ghost_0 rfl ?_
  refine J_gr hX (x + 1 + 2) fr_RX9_20 dX9_ghost_1 (show K (x) = 8 from hXa 0 (by decide)) rfl ?_
  refine J_iload_n hX dX9_ghost_4 rfl ?_
  refine J_iload_n hX dX9_ghost_5 rfl ?_
  refine J_callVI hX _ dX9_ghost_6 cw_RX9_161 (m_X5_faultOfCell ((hXa).view).stage hW (by omega) (by omega)) ⟨(show K (x + 1 + 2) = 5 from ((hXa).view).stage 0 (by decide)), by decide, by decide, rfl⟩ rfl (Nat.le_of_ble_eq_true rfl) (by decide) ⟨by decide, by decide⟩ (fun r6 => ?_)
  refine J_refuse hX hT hXK hQ rfl hE dX9_ghost_9 (by first | decide | exact fG_r _ _ _ _ _ _ | exact fB_r _ _ _ _ _ _ _ _ | exact fP_r _ _ _ _ _ _ | exact fCo_r _ _ _ _ | exact fS_r _ _ _ _ _ | exact fT_r _ _ _ _ _ | exact fCe_r _ _ _ _ | exact if_r (by decide) | exact fSt_r _ _) (by decide) (by decide) (by decide) (fun nm h => by first | exact h | exact xp_1 h | exact xp_2 (by assumption) h | (refine xp_e ?_ h; first | (rw [if_pos (by omega)]; done) | (rw [if_neg (by omega)]; done)) | (refine xp_1 (xp_e ?_ h); first | (rw [if_pos (by omega)]; done) | (rw [if_neg (by omega)]; done)) | (refine xp_2 (by assumption) (xp_e ?_ h); first | (rw [if_pos (by omega)]; done) | (rw [if_neg (by omega)]; done)) | (refine xp_2 ?_ h; first | (rw [if_pos (by omega)]; done) | (rw [if_neg (by omega)]; done))) (fun cF0 => ?_)
  refine J_vx hX hQ (fun X hX hQ hXK2 => ?_)
  refine J_aload_n hX dX9_ghost_12 rfl ?_
  refine J_fresh hX hX0 hW hF dX9_ghost_13 (by decide) (by decide) (by decide) (fun M2 hL hW2 hV2 hH2 hS2 => ?_)
  have hP2 := hV2.1.1
  refine J_iload_n hX dX9_ghost_16 rfl ?_
  refine J_iload_n hX dX9_ghost_17 rfl ?_
  refine J_callVI hX _ dX9_ghost_18 cw_RX9_171 (m_X7_ghostAt (hXa).view hW2 hV2 (by omega) (by omega)) ⟨(show K (x + 1) = 7 from (hXa).view 0 (by decide)), by decide, by decide, rfl⟩ rfl (Nat.le_of_ble_eq_true rfl) (by decide) ⟨by decide, by decide⟩ (fun r18 => ?_)
  exact J_iret hX hQ dX9_ghost_21 (by exact ⟨cF0, rfl, by rw [hS2], hL⟩) (by decide) (by decide)
-- X9_ghosts
set_option maxHeartbeats 4000000 in
set_option maxRecDepth 100000 in
theorem m_X9_ghosts {E : EE} {K : Nat → Nat} {M : MM} {x : Nat} {T : Int} {least : Int} (hE : ∀ U, SF E U → ThF E U) (hX0 : EyeK K x) (hW : WF T M (x + 1 + 2)) (hF : Frs M x) (hleast : i32 least)  : CnX E 8 yX9_ghosts cX9_ghosts 2 (Option.some FieldType.int) [.ref x, vI least] K M (fun r K' M' => (if 1 ≤ least ∧ least ≤ 15 then 0 else 2) = (0 : Int) ∧ K' = K ∧ r = some (vI (gall (stg M (x + 1 + 2)) least)) ∧ Lkd M x M') (xpF ((if 1 ≤ least ∧ least ≤ 15 then 0 else 2))) 1 6 := by
  have hXa := hX0.all
  refine CnX_of RX9 (by decide) rfl (Nat.le_of_ble_eq_true rfl) (fun X hX hQ hXK hT => ?_)
  refine J_iload_n hX dX9_ghosts_0 rfl ?_
  refine J_iconst hX dX9_ghosts_1 ?_
  refine J_bipush hX dX9_ghosts_2 rfl ?_
  refine J_callSI hX _ dX9_ghosts_4 cw_RX9_131 (m_X9_faultOfRange (by omega) (by omega) (by omega)) rfl (Nat.le_of_ble_eq_true rfl) (by decide) ⟨by decide, by decide⟩ (fun r4 => ?_)
  refine J_refuse hX hT hXK hQ rfl hE dX9_ghosts_7 (by first | decide | exact fG_r _ _ _ _ _ _ | exact fB_r _ _ _ _ _ _ _ _ | exact fP_r _ _ _ _ _ _ | exact fCo_r _ _ _ _ | exact fS_r _ _ _ _ _ | exact fT_r _ _ _ _ _ | exact fCe_r _ _ _ _ | exact if_r (by decide) | exact fSt_r _ _) (by decide) (by decide) (by decide) (fun nm h => by first | exact h | exact xp_1 h | exact xp_2 (by assumption) h | (refine xp_e ?_ h; first | (rw [if_pos (by omega)]; done) | (rw [if_neg (by omega)]; done)) | (refine xp_1 (xp_e ?_ h); first | (rw [if_pos (by omega)]; done) | (rw [if_neg (by omega)]; done)) | (refine xp_2 (by assumption) (xp_e ?_ h); first | (rw [if_pos (by omega)]; done) | (rw [if_neg (by omega)]; done)) | (refine xp_2 ?_ h; first | (rw [if_pos (by omega)]; done) | (rw [if_neg (by omega)]; done))) (fun cF0 => ?_)
  refine J_vx hX hQ (fun X hX hQ hXK2 => ?_)
  refine J_aload_n hX dX9_ghosts_10 rfl ?_
  refine J_fresh hX hX0 hW hF dX9_ghosts_11 (by decide) (by decide) (by decide) (fun M2 hL hW2 hV2 hH2 hS2 => ?_)
  have hP2 := hV2.1.1
  refine J_iload_n hX dX9_ghosts_14 rfl ?_
  refine J_callVM hX _ dX9_ghosts_15 cw_RX9_174 (m_X7_countGhosts (hXa).view hW2 hV2 hH2 (by omega)) ⟨(show K (x + 1) = 7 from (hXa).view 0 (by decide)), by decide, by decide, rfl⟩ rfl (Nat.le_of_ble_eq_true rfl) (by decide) ⟨by decide, by decide⟩ (fun r9 M15 q15 => ?_)
  obtain ⟨rfl, cg1, cg2, cg3⟩ := q15
  have hL3 := hL.step cg1 cg2 (by rw [hS2] at cg3; exact cg3)
  exact J_iret hX hQ dX9_ghosts_18 (by exact ⟨cF0, rfl, by rw [hS2], hL3⟩) (by decide) (by decide)
-- X9_percentageFor
set_option maxHeartbeats 4000000 in
set_option maxRecDepth 100000 in
theorem m_X9_percentageFor {E : EE} {K : Nat → Nat} {M : MM} {x : Nat} {T : Int} {lo hi : Int} (hE : ∀ U, SF E U → ThF E U) (hX0 : EyeK K x) (hW : WF T M (x + 1 + 2)) (hF : Frs M x) (hlo : i32 lo) (hhi : i32 hi)  : CnX E 8 yX9_percentageFor cX9_percentageFor 3 (Option.some FieldType.int) [.ref x, vI lo, vI hi] K M (fun r K' M' => (if (-20 ≤ lo ∧ lo ≤ 0) ∧ (0 ≤ hi ∧ hi ≤ 20) then 0 else 2) = (0 : Int) ∧ K' = K ∧ r = some (vI (pctW (stg M (x + 1 + 2)) lo hi)) ∧ Lkd M x M') (xpF ((if (-20 ≤ lo ∧ lo ≤ 0) ∧ (0 ≤ hi ∧ hi ≤ 20) then 0 else 2))) 1 6 := by
  have hXa := hX0.all
  refine CnX_of RX9 (by decide) rfl (Nat.le_of_ble_eq_true rfl) (fun X hX hQ hXK hT => ?_)
  refine J_iload_n hX dX9_percentageFor_0 rfl ?_
  refine J_iload_n hX dX9_percentageFor_1 rfl ?_
  refine J_callSI hX _ dX9_percentageFor_2 cw_RX9_184 (m_X9_faultOfBudget (by omega) (by omega)) rfl (Nat.le_of_ble_eq_true rfl) (by decide) ⟨by decide, by decide⟩ (fun r2 => ?_)
  refine J_refuse hX hT hXK hQ rfl hE dX9_percentageFor_5 (by first | decide | exact fG_r _ _ _ _ _ _ | exact fB_r _ _ _ _ _ _ _ _ | exact fP_r _ _ _ _ _ _ | exact fCo_r _ _ _ _ | exact fS_r _ _ _ _ _ | exact fT_r _ _ _ _ _ | exact fCe_r _ _ _ _ | exact if_r (by decide) | exact fSt_r _ _) (by decide) (by decide) (by decide) (fun nm h => by first | exact h | exact xp_1 h | exact xp_2 (by assumption) h | (refine xp_e ?_ h; first | (rw [if_pos (by omega)]; done) | (rw [if_neg (by omega)]; done)) | (refine xp_1 (xp_e ?_ h); first | (rw [if_pos (by omega)]; done) | (rw [if_neg (by omega)]; done)) | (refine xp_2 (by assumption) (xp_e ?_ h); first | (rw [if_pos (by omega)]; done) | (rw [if_neg (by omega)]; done)) | (refine xp_2 ?_ h; first | (rw [if_pos (by omega)]; done) | (rw [if_neg (by omega)]; done))) (fun cF0 => ?_)
  refine J_vx hX hQ (fun X hX hQ hXK2 => ?_)
  refine J_aload_n hX dX9_percentageFor_8 rfl ?_
  refine J_fresh hX hX0 hW hF dX9_percentageFor_9 (by decide) (by decide) (by decide) (fun M2 hL hW2 hV2 hH2 hS2 => ?_)
  have hP2 := hV2.1.1
  refine J_gr hX (x + 1 + 1) fr_RX9_138 dX9_percentageFor_12 (show K (x + 1) = 7 from (hXa).view 0 (by decide)) rfl ?_
  refine J_iload_n hX dX9_percentageFor_15 rfl ?_
  refine J_iload_n hX dX9_percentageFor_16 rfl ?_
  refine J_callVI hX _ dX9_percentageFor_17 cw_RX9_187 (m_X2_percentageWithin (hXa).view hW2 (fun n hn => (hP2.1 n hn.1.1 hn.1.2.1).2.2) (by omega) (by omega)) ⟨(show K (x + 1 + 1) = 2 from (hXa).view 1 (by decide)), by decide, by decide, rfl⟩ rfl (Nat.le_of_ble_eq_true rfl) (by decide) ⟨by decide, by decide⟩ (fun r17 => ?_)
  exact J_iret hX hQ dX9_percentageFor_20 (by exact ⟨cF0, rfl, by rw [hS2], hL⟩) (by decide) (by decide)
-- X9_scene
set_option maxHeartbeats 4000000 in
set_option maxRecDepth 100000 in
theorem m_X9_scene {E : EE} {K : Nat → Nat} {M : MM} {x : Nat} {T : Int} {n9 k : Int} (hE : ∀ U, SF E U → ThF E U) (hX0 : EyeK K x) (hW : WF T M (x + 1 + 2)) (hn9 : i32 n9) (hk : i32 k) : CnX E 8 yX9_scene cX9_scene 3 (Option.some FieldType.int) [.ref x, vI n9, vI k] K M (fun r K' M' => f2l (if hsc M (x + 1 + 2) n9 then 0 else 1) (if 0 ≤ k ∧ k ≤ 3 then 0 else 2) = (0 : Int) ∧ K' = K ∧ r = some (vI (scv (stg M (x + 1 + 2)) n9 k)) ∧ M' = M) (xpF (f2l (if hsc M (x + 1 + 2) n9 then 0 else 1) (if 0 ≤ k ∧ k ≤ 3 then 0 else 2))) 2 12 := by
  have hXa := hX0.all
  refine CnX_of RX9 (by decide) rfl (Nat.le_of_ble_eq_true rfl) (fun X hX hQ hXK hT => ?_)
  refine J_aload_n hX dX9_scene_0 rfl ?_
  refine J_gr hX (x + 1 + 2) fr_RX9_20 dX9_scene_1 (show K (x) = 8 from hXa 0 (by decide)) rfl ?_
  refine J_gr hX (x + 1 + 2 + 11) fr_RX9_100 dX9_scene_4 (show K (x + 1 + 2) = 5 from ((hXa).view).stage 0 (by decide)) rfl ?_
  refine J_iload_n hX dX9_scene_7 rfl ?_
  refine J_callVB hX _ dX9_scene_8 cw_RX9_150 (m_X3_has ((hXa).view).stage (by omega)) ⟨(show K (x + 1 + 2 + 11) = 3 from ((hXa).view).stage 11 (by decide)), by decide, by decide, rfl⟩ rfl (Nat.le_of_ble_eq_true rfl) (by decide) ⟨by decide, by decide⟩ ?_
  refine J_ifb_eq hX 18 dX9_scene_11 (by decide) (fun c11 => ?_) (fun c11 => ?_)
  · refine J_iconst hX dX9_scene_18 ?_
    exact J_refuse hX hT hXK hQ rfl hE dX9_scene_19 (by decide) (by decide) (by decide) (by decide) (fun nm h => by first | exact h | exact xp_1 h | exact xp_2 (by assumption) h | (refine xp_e ?_ h; first | (rw [if_pos (by omega)]; done) | (rw [if_neg (by omega)]; done)) | (refine xp_1 (xp_e ?_ h); first | (rw [if_pos (by omega)]; done) | (rw [if_neg (by omega)]; done)) | (refine xp_2 (by assumption) (xp_e ?_ h); first | (rw [if_pos (by omega)]; done) | (rw [if_neg (by omega)]; done)) | (refine xp_2 ?_ h; first | (rw [if_pos (by omega)]; done) | (rw [if_neg (by omega)]; done))) (fun cF => absurd cF (by decide))
  · refine J_iconst hX dX9_scene_14 ?_
    refine J_goto hX 19 dX9_scene_15 (by decide) ?_
    refine J_refuse hX hT hXK hQ rfl hE dX9_scene_19 (by first | decide | exact fG_r _ _ _ _ _ _ | exact fB_r _ _ _ _ _ _ _ _ | exact fP_r _ _ _ _ _ _ | exact fCo_r _ _ _ _ | exact fS_r _ _ _ _ _ | exact fT_r _ _ _ _ _ | exact fCe_r _ _ _ _ | exact if_r (by decide) | exact fSt_r _ _) (by decide) (by decide) (by decide) (fun nm h => by first | exact h | exact xp_1 h | exact xp_2 (by assumption) h | (refine xp_e ?_ h; first | (rw [if_pos (by omega)]; done) | (rw [if_neg (by omega)]; done)) | (refine xp_1 (xp_e ?_ h); first | (rw [if_pos (by omega)]; done) | (rw [if_neg (by omega)]; done)) | (refine xp_2 (by assumption) (xp_e ?_ h); first | (rw [if_pos (by omega)]; done) | (rw [if_neg (by omega)]; done)) | (refine xp_2 ?_ h; first | (rw [if_pos (by omega)]; done) | (rw [if_neg (by omega)]; done))) (fun cF0 => ?_)
    refine J_iload_n hX dX9_scene_22 rfl ?_
    refine J_iconst hX dX9_scene_23 ?_
    refine J_iconst hX dX9_scene_24 ?_
    refine J_callSI hX _ dX9_scene_25 cw_RX9_131 (m_X9_faultOfRange (by omega) (by omega) (by omega)) rfl (Nat.le_of_ble_eq_true rfl) (by decide) ⟨by decide, by decide⟩ (fun r25 => ?_)
    refine J_refuse hX hT hXK hQ rfl hE dX9_scene_28 (by first | decide | exact fG_r _ _ _ _ _ _ | exact fB_r _ _ _ _ _ _ _ _ | exact fP_r _ _ _ _ _ _ | exact fCo_r _ _ _ _ | exact fS_r _ _ _ _ _ | exact fT_r _ _ _ _ _ | exact fCe_r _ _ _ _ | exact if_r (by decide) | exact fSt_r _ _) (by decide) (by decide) (by decide) (fun nm h => by first | exact h | exact xp_1 h | exact xp_2 (by assumption) h | (refine xp_e ?_ h; first | (rw [if_pos (by omega)]; done) | (rw [if_neg (by omega)]; done)) | (refine xp_1 (xp_e ?_ h); first | (rw [if_pos (by omega)]; done) | (rw [if_neg (by omega)]; done)) | (refine xp_2 (by assumption) (xp_e ?_ h); first | (rw [if_pos (by omega)]; done) | (rw [if_neg (by omega)]; done)) | (refine xp_2 ?_ h; first | (rw [if_pos (by omega)]; done) | (rw [if_neg (by omega)]; done))) (fun cF1 => ?_)
    refine J_vx hX hQ (fun X hX hQ hXK2 => ?_)
    have c6 := if_0 (by decide) cF1
    refine J_aload_n hX dX9_scene_31 rfl ?_
    refine J_gr hX (x + 1 + 2) fr_RX9_20 dX9_scene_32 (show K (x) = 8 from hXa 0 (by decide)) rfl ?_
    refine J_gr hX (x + 1 + 2 + 11) fr_RX9_100 dX9_scene_35 (show K (x + 1 + 2) = 5 from ((hXa).view).stage 0 (by decide)) rfl ?_
    refine J_iload_n hX dX9_scene_38 rfl ?_
    refine J_iload_n hX dX9_scene_39 rfl ?_
    refine J_callVI hX _ dX9_scene_40 cw_RX9_154 (m_X3_valueOf ((hXa).view).stage hW (by omega) (by omega)) ⟨(show K (x + 1 + 2 + 11) = 3 from ((hXa).view).stage 11 (by decide)), by decide, by decide, rfl⟩ rfl (Nat.le_of_ble_eq_true rfl) (by decide) ⟨by decide, by decide⟩ (fun r40 => ?_)
    exact J_iret hX hQ dX9_scene_43 (by exact ⟨by unfold f2l; rw [if_pos (if_pos (by omega))]; exact cF1, rfl, rfl, rfl⟩) (by decide) (by decide)
