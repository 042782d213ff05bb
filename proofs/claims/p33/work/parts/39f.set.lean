/-! the face set -/
-- X9_set
set_option maxHeartbeats 4000000 in
set_option maxRecDepth 100000 in
theorem m_X9_set {E : EE} {K : Nat → Nat} {M : MM} {x : Nat} {T : Int} {n : Nat} {w v : Int} (hE : ∀ U, SF E U → ThF E U) (hX0 : EyeK K x) (hW : WF T M (x + 1 + 2)) (hV : HV n K M (x + 55) (x + 60)) (hC : Cl K M) (hw : i32 w) (hv : i32 v) (hE2 : ∀ U, SF E U → CF E U) (hz : ∀ i, 1000000 ≤ i → K i = 0) : CnX E 8 yX9_set cX9_set 3 (Option.some FieldType.int) [.ref x, vI w, vI v] K M (fun r K' M' => (if fSe w v then 0 else 2) = (0 : Int) ∧ r = some (vI (M (x + 1 + 2 + 15) w)) ∧ ∃ M1, KeptX n K M x K' M1 ∧ M' = mset M1 (x + 1 + 2 + 15) w v) (xpF (if fSe w v then 0 else 2)) 17 239 := by
  have hXa := hX0.all
  refine CnX_of RX9 (by decide) rfl (Nat.le_of_ble_eq_true rfl) (fun X hX hQ hXK hT => ?_)
  refine J_aload_n hX dX9_set_0 rfl ?_
  refine J_gr hX (x + 1 + 2) fr_RX9_20 dX9_set_1 (show K (x) = 8 from hXa 0 (by decide)) rfl ?_
  refine J_iload_n hX dX9_set_4 rfl ?_
  refine J_iload_n hX dX9_set_5 rfl ?_
  refine J_callVI hX _ dX9_set_6 cw_RX9_113 (m_X5_faultOfSetting ((hXa).view).stage hE2 hz hC (by omega) (by omega)) ⟨(show K (x + 1 + 2) = 5 from ((hXa).view).stage 0 (by decide)), by decide, by decide, rfl⟩ rfl (Nat.le_of_ble_eq_true rfl) (by decide) ⟨by decide, by decide⟩ (fun r6 => ?_)
  refine J_refuse hX hT hXK hQ rfl hE dX9_set_9 (by first | decide | exact fG_r _ _ _ _ _ _ | exact fB_r _ _ _ _ _ _ _ _ | exact fP_r _ _ _ _ _ _ | exact fCo_r _ _ _ _ | exact fS_r _ _ _ _ _ | exact fT_r _ _ _ _ _ | exact fCe_r _ _ _ _ | exact if_r (by decide) | exact fSt_r _ _) (by decide) (by decide) (by decide) (fun nm h => by first | exact h | exact xp_1 h | exact xp_2 (by assumption) h | (refine xp_e ?_ h; first | (rw [if_pos (by omega)]; done) | (rw [if_neg (by omega)]; done)) | (refine xp_1 (xp_e ?_ h); first | (rw [if_pos (by omega)]; done) | (rw [if_neg (by omega)]; done)) | (refine xp_2 (by assumption) (xp_e ?_ h); first | (rw [if_pos (by omega)]; done) | (rw [if_neg (by omega)]; done)) | (refine xp_2 ?_ h; first | (rw [if_pos (by omega)]; done) | (rw [if_neg (by omega)]; done))) (fun cF0 => ?_)
  refine J_vx hX hQ (fun X hX hQ hXK2 => ?_)
  have c5 : 0 ≤ w ∧ w < 4 := by have := if_0 (by decide) cF0; unfold fSe at this; omega
  refine J_aload_n hX dX9_set_12 rfl ?_
  refine J_keep hX (hXK2.trans hXK) hX0 hV hC dX9_set_13 (by decide) (by decide) ⟨by rw [hX0.1]; decide, trivial⟩ trivial (by decide) (fun K2 M2 hk => ?_)
  have hX2 := hk.eye hX0
  have hXa2 := hX2.all
  have hS2 : stg M2 (x + 1 + 2) = stg M (x + 1 + 2) := stg_eq (fun k hk2 => hk.stage k hk2)
  have hW2 : WF T M2 (x + 1 + 2) := WF_fr hS2 hW
  have es15 : ∀ j, M2 (x + 1 + 2 + 15) j = M (x + 1 + 2 + 15) j := fun j => congrFun (hk.stage 15 (by decide)) j
  refine J_aload_n hX dX9_set_16 rfl ?_
  refine J_gr hX (x + 1 + 2) fr_RX9_20 dX9_set_17 (show K2 (x) = 8 from hXa2 0 (by decide)) rfl ?_
  refine J_iload_n hX dX9_set_20 rfl ?_
  refine J_iload_n hX dX9_set_21 rfl ?_
  refine J_callVM hX _ dX9_set_22 cw_RX9_116 (m_X5_change ((hXa2).view).stage ⟨by omega, by omega⟩ (by omega)) ⟨(show K2 (x + 1 + 2) = 5 from ((hXa2).view).stage 0 (by decide)), by decide, by decide, rfl⟩ rfl (Nat.le_of_ble_eq_true rfl) (by decide) ⟨by decide, by decide⟩ (fun r9 M22 q22 => ?_)
  obtain ⟨rfl, rfl⟩ := q22
  exact J_iret hX hQ dX9_set_25 (by exact ⟨cF0, by rw [es15], M2, hk, rfl⟩) (by decide) (by decide)
