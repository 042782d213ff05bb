/-! faces: undo, type, what if -/
/-- what undo does -/
def UndX (M : MM) (x : Nat) (M2 : MM) : Prop := M2 (x + 55) 0 = M (x + 55) 0 - 1 ∧ (∀ i, i ≠ x → i ≠ x + 55 → (i < x + 3 ∨ x + 19 ≤ i) → M2 i = M i) ∧ (∀ j, j ≠ 6 → M2 x j = M x j) ∧ M2 x 6 = 1 ∧ (∀ j, j ≠ 0 → M2 (x + 55) j = M (x + 55) j) ∧ Alk M (M (x + 56) (M (x + 55) 0 - 1)).toNat M2 (x + 3)
theorem gon_2 {S S2 : MM} (h : S2 2 = S 2) (d : Int) : ∀ (f : Nat) (n : Int), gon S2 d f n = gon S d f n
  | 0, _ => rfl
  | f + 1, n => by simp only [gon]; rw [h, gon_2 h d f]
theorem nwn_2 {S S2 : MM} (h : S2 2 = S 2) (d n : Int) : nwn S2 d n = nwn S d n := by
  unfold nwn
  exact ct_congr (fun j _ => by unfold gne; rw [gon_2 h])
theorem Drd_alk {S S1 S2 : MM} {d : Int} (h : ∀ k, k ≠ 10 → S1 k = S k) (hD : Drd S1 S2 d) : Drd S S2 d := by
  have h2 := h 2 (by decide)
  obtain ⟨d1, d2, d3, d4⟩ := hD
  rw [h 1 (by decide), nwn_2 h2] at d1
  refine ⟨d1, fun n n0 n1 n2 => ?_, by rw [d3]; exact h 0 (by decide), fun r hr => by rw [d4 r hr]; exact h r (by omega)⟩
  obtain ⟨e1, e2⟩ := d2 n n0 (by rw [h 1 (by decide)]; exact n1) (by unfold gne; rw [gon_2 h2]; exact n2)
  rw [nwn_2 h2] at e1
  rw [h2, nwn_2 h2, nwn_2 h2] at e2
  exact ⟨fun r r3 r9 => by rw [e1 r r3 r9]; exact congrFun (h r (by omega)) n, e2⟩
theorem WFS_alk {T : Int} {S S2 : MM} (h : ∀ k, k ≠ 10 → S2 k = S k) (hW : WFS T S) : WFS T S2 := by
  unfold WFS WFSs WFSn WFSc at *
  rw [h 0 (by decide), h 1 (by decide), h 2 (by decide), h 3 (by decide), h 4 (by decide), h 5 (by decide), h 6 (by decide), h 7 (by decide), h 8 (by decide), h 9 (by decide), h 11 (by decide), h 12 (by decide), h 13 (by decide), h 14 (by decide), h 15 (by decide)]
  exact hW
theorem Alk.stg {M M2 : MM} {b b2 : Nat} (h : Alk M b M2 b2) (k : Nat) (hk : k ≠ 10) : stg M2 b2 k = stg M b k := by
  by_cases q : k < 16
  · show (if k < 16 then _ else _) = (if k < 16 then _ else _)
    rw [if_pos q, if_pos q, h k q hk]
  · rw [stg_hi (by omega), stg_hi (by omega)]
-- X9_undo
set_option maxHeartbeats 4000000 in
set_option maxRecDepth 100000 in
theorem m_X9_undo {E : EE} {K : Nat → Nat} {M : MM} {x : Nat} {T : Int} {n : Nat}  (hE : ∀ U, SF E U → ThF E U) (hX0 : EyeK K x) (hW : WF T M (x + 1 + 2)) (hV : HV n K M (x + 55) (x + 60)) (hC : Cl K M)  : CnX E 8 yX9_undo cX9_undo 1 (Option.some FieldType.int) [.ref x] K M (fun r K' M' => (if M (x + 55) 0 = 0 then 3 else 0) = (0 : Int) ∧ K' = K ∧ r = some (vI (M (x + 55) 0 - 1)) ∧ UndX M x M') (xpF (if M (x + 55) 0 = 0 then 3 else 0)) 1 6 := by
  have hXa := hX0.all
  refine CnX_of RX9 (by decide) rfl (Nat.le_of_ble_eq_true rfl) (fun X hX hQ hXK hT => ?_)
  refine J_aload_n hX dX9_undo_0 rfl ?_
  refine J_gr hX (x + 55) fr_RX9_30 dX9_undo_1 (show K (x) = 8 from hXa 0 (by decide)) rfl ?_
  refine J_geti hX fi_RX9_233 dX9_undo_4 (show K (x + 55) = 1 from hXa 55 (by decide)) (fun r4 => ?_)
  refine J_if_ne hX 14 dX9_undo_7 (by omega) (by decide) (fun c7 => ?_) (fun c7 => ?_)
  · refine J_iconst hX dX9_undo_14 ?_
    refine J_refuse hX hT hXK hQ rfl hE dX9_undo_15 (by first | decide | exact fG_r _ _ _ _ _ _ | exact fB_r _ _ _ _ _ _ _ _ | exact fP_r _ _ _ _ _ _ | exact fCo_r _ _ _ _ | exact fS_r _ _ _ _ _ | exact fT_r _ _ _ _ _ | exact fCe_r _ _ _ _ | exact if_r (by decide) | exact fSt_r _ _) (by decide) (by decide) (by decide) (fun nm h => by first | exact h | exact xp_1 h | exact xp_2 (by assumption) h | (refine xp_e ?_ h; first | (rw [if_pos (by omega)]; done) | (rw [if_neg (by omega)]; done)) | (refine xp_1 (xp_e ?_ h); first | (rw [if_pos (by omega)]; done) | (rw [if_neg (by omega)]; done)) | (refine xp_2 (by assumption) (xp_e ?_ h); first | (rw [if_pos (by omega)]; done) | (rw [if_neg (by omega)]; done)) | (refine xp_2 ?_ h; first | (rw [if_pos (by omega)]; done) | (rw [if_neg (by omega)]; done))) (fun cF0 => ?_)
    refine J_vx hX hQ (fun X hX hQ hXK2 => ?_)
    obtain ⟨v1, v2, hSL, v6, v7, v8⟩ := id hV
    obtain ⟨c2, q1, q2⟩ := hSL.1 (M (x + 55) 0 - 1) (by omega) (by omega)
    refine J_aload_n hX dX9_undo_18 rfl ?_
    refine J_gr hX (x + 55) fr_RX9_30 dX9_undo_19 (show K (x) = 8 from hXa 0 (by decide)) rfl ?_
    refine J_aload_n hX dX9_undo_22 rfl ?_
    refine J_gr hX (x + 1 + 2) fr_RX9_20 dX9_undo_23 (show K (x) = 8 from hXa 0 (by decide)) rfl ?_
    refine J_callVM hX _ dX9_undo_26 cw_RX9_236 (m_X1_restore (h := x + 55) ⟨hXa 55 (by decide), hXa 56 (by decide)⟩ (hXa).view.stage (by omega) (by rw [q2]; omega) (by rw [q2, Int.toNat_natCast]; exact v6 c2 q1) (by rw [q2, Int.toNat_natCast]; omega)) ⟨(show K (x + 55) = 1 from hXa 55 (by decide)), by decide, by decide, rfl⟩ rfl (Nat.le_of_ble_eq_true rfl) (by decide) ⟨by decide, by decide⟩ (fun r9 M26 q26 => ?_)
    obtain ⟨rfl, a1, a2, a3, a4⟩ := q26
    refine J_aload_n hX dX9_undo_29 rfl ?_
    refine J_iconst hX dX9_undo_30 ?_
    refine J_putA hX fw_RX9_41 dX9_undo_31 (show K (x) = 8 from hXa 0 (by decide)) (by omega) (Or.inr ⟨rfl, by omega⟩) (fun m31 hm31 => ?_)
    have fm31 : ∀ i, i ≠ x → m31 i = M26 i := fun i h => by rw [hm31]; exact mset_ne h
    have gm31 : ∀ i j, j ≠ 6 → m31 i j = M26 i j := fun i j h => by rw [hm31]; exact mset_nj h
    have vm31 := (congrFun (congrFun hm31 (x)) 6).trans mset_eq
    refine J_aload_n hX dX9_undo_34 rfl ?_
    refine J_gr hX (x + 55) fr_RX9_30 dX9_undo_35 (show K (x) = 8 from hXa 0 (by decide)) rfl ?_
    refine J_geti hX fi_RX9_233 dX9_undo_38 (show K (x + 55) = 1 from hXa 55 (by decide)) (fun r38 => ?_)
    exact J_iret hX hQ dX9_undo_41 (by exact ⟨if_neg (by omega), rfl, by rw [fm31 _ (by omega), a1], by rw [fm31 _ (by omega), a1], fun i i1 i2 i3 => by rw [fm31 i i1]; exact a2 i i2 (by omega), fun j hj => by rw [gm31 _ j hj]; exact congrFun (a2 x (by omega) (by omega)) j, vm31, fun j hj => by rw [fm31 _ (by omega)]; exact a3 j hj, fun k hk hk2 => by rw [fm31 _ (by omega)]; exact a4 k hk hk2⟩) (by decide) (by decide)
  · refine J_iconst hX dX9_undo_10 ?_
    refine J_goto hX 15 dX9_undo_11 (by decide) ?_
    exact J_refuse hX hT hXK hQ rfl hE dX9_undo_15 (by decide) (by decide) (by decide) (by decide) (fun nm h => by first | exact h | exact xp_1 h | exact xp_2 (by assumption) h | (refine xp_e ?_ h; first | (rw [if_pos (by omega)]; done) | (rw [if_neg (by omega)]; done)) | (refine xp_1 (xp_e ?_ h); first | (rw [if_pos (by omega)]; done) | (rw [if_neg (by omega)]; done)) | (refine xp_2 (by assumption) (xp_e ?_ h); first | (rw [if_pos (by omega)]; done) | (rw [if_neg (by omega)]; done)) | (refine xp_2 ?_ h; first | (rw [if_pos (by omega)]; done) | (rw [if_neg (by omega)]; done))) (fun cF => absurd cF (by decide))
-- X9_type
set_option maxHeartbeats 4000000 in
set_option maxRecDepth 100000 in
theorem m_X9_type {E : EE} {K : Nat → Nat} {M : MM} {x : Nat} {T : Int} {v : Int} (hE : ∀ U, SF E U → ThF E U) (hX0 : EyeK K x) (hW : WF T M (x + 1 + 2)) (hv : i32 v) (hlen : 0 ≤ M (x + 57) 0 ∧ M (x + 57) 0 ≤ 150) : CnX E 8 yX9_type cX9_type 2 (Option.some FieldType.int) [.ref x, vI v] K M (fun r K' M' => f2l (if 0 ≤ v ∧ v ≤ 127 then 0 else 2) (if 150 ≤ M (x + 57) 0 then 3 else 0) = (0 : Int) ∧ K' = K ∧ r = some (vI (M (x + 57) 0 + 1)) ∧ M' = mset (mset M (x + 58) (M (x + 57) 0) v) (x + 57) 0 (M (x + 57) 0 + 1)) (xpF (f2l (if 0 ≤ v ∧ v ≤ 127 then 0 else 2) (if 150 ≤ M (x + 57) 0 then 3 else 0))) 2 12 := by
  have hXa := hX0.all
  refine CnX_of RX9 (by decide) rfl (Nat.le_of_ble_eq_true rfl) (fun X hX hQ hXK hT => ?_)
  refine J_iload_n hX dX9_type_0 rfl ?_
  refine J_iconst hX dX9_type_1 ?_
  refine J_bipush hX dX9_type_2 rfl ?_
  refine J_callSI hX _ dX9_type_4 cw_RX9_131 (m_X9_faultOfRange (by omega) (by omega) (by omega)) rfl (Nat.le_of_ble_eq_true rfl) (by decide) ⟨by decide, by decide⟩ (fun r4 => ?_)
  refine J_refuse hX hT hXK hQ rfl hE dX9_type_7 (by first | decide | exact fG_r _ _ _ _ _ _ | exact fB_r _ _ _ _ _ _ _ _ | exact fP_r _ _ _ _ _ _ | exact fCo_r _ _ _ _ | exact fS_r _ _ _ _ _ | exact fT_r _ _ _ _ _ | exact fCe_r _ _ _ _ | exact if_r (by decide) | exact fSt_r _ _) (by decide) (by decide) (by decide) (fun nm h => by first | exact h | exact xp_1 h | exact xp_2 (by assumption) h | (refine xp_e ?_ h; first | (rw [if_pos (by omega)]; done) | (rw [if_neg (by omega)]; done)) | (refine xp_1 (xp_e ?_ h); first | (rw [if_pos (by omega)]; done) | (rw [if_neg (by omega)]; done)) | (refine xp_2 (by assumption) (xp_e ?_ h); first | (rw [if_pos (by omega)]; done) | (rw [if_neg (by omega)]; done)) | (refine xp_2 ?_ h; first | (rw [if_pos (by omega)]; done) | (rw [if_neg (by omega)]; done))) (fun cF0 => ?_)
  refine J_aload_n hX dX9_type_10 rfl ?_
  refine J_gr hX (x + 57) fr_RX9_37 dX9_type_11 (show K (x) = 8 from hXa 0 (by decide)) rfl ?_
  refine J_geti hX fi_RX9_221 dX9_type_14 (show K (x + 57) = 4 from hXa 57 (by decide)) (fun r14 => ?_)
  refine J_sipush hX dX9_type_17 rfl ?_
  refine J_icmp_lt hX 27 dX9_type_20 (by omega) (by decide) (by decide) (fun c20 => ?_) (fun c20 => ?_)
  · refine J_iconst hX dX9_type_27 ?_
    refine J_refuse hX hT hXK hQ rfl hE dX9_type_28 (by first | decide | exact fG_r _ _ _ _ _ _ | exact fB_r _ _ _ _ _ _ _ _ | exact fP_r _ _ _ _ _ _ | exact fCo_r _ _ _ _ | exact fS_r _ _ _ _ _ | exact fT_r _ _ _ _ _ | exact fCe_r _ _ _ _ | exact if_r (by decide) | exact fSt_r _ _) (by decide) (by decide) (by decide) (fun nm h => by first | exact h | exact xp_1 h | exact xp_2 (by assumption) h | (refine xp_e ?_ h; first | (rw [if_pos (by omega)]; done) | (rw [if_neg (by omega)]; done)) | (refine xp_1 (xp_e ?_ h); first | (rw [if_pos (by omega)]; done) | (rw [if_neg (by omega)]; done)) | (refine xp_2 (by assumption) (xp_e ?_ h); first | (rw [if_pos (by omega)]; done) | (rw [if_neg (by omega)]; done)) | (refine xp_2 ?_ h; first | (rw [if_pos (by omega)]; done) | (rw [if_neg (by omega)]; done))) (fun cF1 => ?_)
    refine J_vx hX hQ (fun X hX hQ hXK2 => ?_)
    refine J_aload_n hX dX9_type_31 rfl ?_
    refine J_gr hX (x + 57) fr_RX9_37 dX9_type_32 (show K (x) = 8 from hXa 0 (by decide)) rfl ?_
    refine J_iload_n hX dX9_type_35 rfl ?_
    refine J_callVM hX _ dX9_type_36 cw_RX9_224 (m_X4_append ⟨hXa 57 (by decide), hXa 58 (by decide), hXa 59 (by decide)⟩ (by omega) (by omega)) ⟨(show K (x + 57) = 4 from hXa 57 (by decide)), by decide, by decide, rfl⟩ rfl (Nat.le_of_ble_eq_true rfl) (by decide) ⟨by decide, by decide⟩ (fun r9 M36 q36 => ?_)
    obtain ⟨rfl, rfl⟩ := q36
    exact J_iret hX hQ dX9_type_39 (by exact ⟨by unfold f2l; rw [if_pos cF0, if_neg (by omega)], rfl, rfl, rfl⟩) (by decide) (by decide)
  · refine J_iconst hX dX9_type_23 ?_
    refine J_goto hX 28 dX9_type_24 (by decide) ?_
    exact J_refuse hX hT hXK hQ rfl hE dX9_type_28 (by decide) (by decide) (by decide) (by decide) (fun nm h => by first | exact h | exact xp_1 h | exact xp_2 (by assumption) h | (refine xp_e ?_ h; first | (rw [if_pos (by omega)]; done) | (rw [if_neg (by omega)]; done)) | (refine xp_1 (xp_e ?_ h); first | (rw [if_pos (by omega)]; done) | (rw [if_neg (by omega)]; done)) | (refine xp_2 (by assumption) (xp_e ?_ h); first | (rw [if_pos (by omega)]; done) | (rw [if_neg (by omega)]; done)) | (refine xp_2 ?_ h; first | (rw [if_pos (by omega)]; done) | (rw [if_neg (by omega)]; done))) (fun cF => absurd cF (by decide))
-- X9_ghostsWithout
set_option maxHeartbeats 4000000 in
set_option maxRecDepth 100000 in
theorem m_X9_ghostsWithout {E : EE} {K : Nat → Nat} {M : MM} {x : Nat} {T : Int} {n9 least : Int} (hE : ∀ U, SF E U → ThF E U) (hX0 : EyeK K x) (hW : WF T M (x + 1 + 2)) (hn9 : i32 n9) (hle : i32 least) : CnX E 8 yX9_ghostsWithout cX9_ghostsWithout 3 (Option.some FieldType.int) [.ref x, vI n9, vI least] K M (fun r K' M' => f2l (if has M (x + 1 + 2) n9 then 0 else 1) (if 1 ≤ least ∧ least ≤ 15 then 0 else 2) = (0 : Int) ∧ K' = K ∧ ∃ S2, Drd (stg M (x + 1 + 2)) S2 n9 ∧ r = some (vI (gall S2 least)) ∧ (∀ i, i < x + 28 ∨ x + 54 < i → M' i = M i) ∧ WF T M' (x + 28 + 2)) (xpF (f2l (if has M (x + 1 + 2) n9 then 0 else 1) (if 1 ≤ least ∧ least ≤ 15 then 0 else 2))) 2 12 := by
  have hXa := hX0.all
  refine CnX_of RX9 (by decide) rfl (Nat.le_of_ble_eq_true rfl) (fun X hX hQ hXK hT => ?_)
  refine J_aload_n hX dX9_ghostsWithout_0 rfl ?_
  refine J_gr hX (x + 1 + 2) fr_RX9_20 dX9_ghostsWithout_1 (show K (x) = 8 from hXa 0 (by decide)) rfl ?_
  refine J_gr hX (x + 1 + 2 + 1) fr_RX9_61 dX9_ghostsWithout_4 (show K (x + 1 + 2) = 5 from ((hXa).view).stage 0 (by decide)) rfl ?_
  refine J_iload_n hX dX9_ghostsWithout_7 rfl ?_
  refine J_callVI hX _ dX9_ghostsWithout_8 cw_RX9_93 (m_X6_faultOfNumber ((hXa).view).stage (by omega)) ⟨(show K (x + 1 + 2 + 1) = 6 from ((hXa).view).stage 1 (by decide)), by decide, by decide, rfl⟩ rfl (Nat.le_of_ble_eq_true rfl) (by decide) ⟨by decide, by decide⟩ (fun r8 => ?_)
  refine J_refuse hX hT hXK hQ rfl hE dX9_ghostsWithout_11 (by first | decide | exact fG_r _ _ _ _ _ _ | exact fB_r _ _ _ _ _ _ _ _ | exact fP_r _ _ _ _ _ _ | exact fCo_r _ _ _ _ | exact fS_r _ _ _ _ _ | exact fT_r _ _ _ _ _ | exact fCe_r _ _ _ _ | exact if_r (by decide) | exact fSt_r _ _) (by decide) (by decide) (by decide) (fun nm h => by first | exact h | exact xp_1 h | exact xp_2 (by assumption) h | (refine xp_e ?_ h; first | (rw [if_pos (by omega)]; done) | (rw [if_neg (by omega)]; done)) | (refine xp_1 (xp_e ?_ h); first | (rw [if_pos (by omega)]; done) | (rw [if_neg (by omega)]; done)) | (refine xp_2 (by assumption) (xp_e ?_ h); first | (rw [if_pos (by omega)]; done) | (rw [if_neg (by omega)]; done)) | (refine xp_2 ?_ h; first | (rw [if_pos (by omega)]; done) | (rw [if_neg (by omega)]; done))) (fun cF0 => ?_)
  refine J_iload_n hX dX9_ghostsWithout_14 rfl ?_
  refine J_iconst hX dX9_ghostsWithout_15 ?_
  refine J_bipush hX dX9_ghostsWithout_16 rfl ?_
  refine J_callSI hX _ dX9_ghostsWithout_18 cw_RX9_131 (m_X9_faultOfRange (by omega) (by omega) (by omega)) rfl (Nat.le_of_ble_eq_true rfl) (by decide) ⟨by decide, by decide⟩ (fun r18 => ?_)
  refine J_refuse hX hT hXK hQ rfl hE dX9_ghostsWithout_21 (by first | decide | exact fG_r _ _ _ _ _ _ | exact fB_r _ _ _ _ _ _ _ _ | exact fP_r _ _ _ _ _ _ | exact fCo_r _ _ _ _ | exact fS_r _ _ _ _ _ | exact fT_r _ _ _ _ _ | exact fCe_r _ _ _ _ | exact if_r (by decide) | exact fSt_r _ _) (by decide) (by decide) (by decide) (fun nm h => by first | exact h | exact xp_1 h | exact xp_2 (by assumption) h | (refine xp_e ?_ h; first | (rw [if_pos (by omega)]; done) | (rw [if_neg (by omega)]; done)) | (refine xp_1 (xp_e ?_ h); first | (rw [if_pos (by omega)]; done) | (rw [if_neg (by omega)]; done)) | (refine xp_2 (by assumption) (xp_e ?_ h); first | (rw [if_pos (by omega)]; done) | (rw [if_neg (by omega)]; done)) | (refine xp_2 ?_ h; first | (rw [if_pos (by omega)]; done) | (rw [if_neg (by omega)]; done))) (fun cF1 => ?_)
  refine J_vx hX hQ (fun X hX hQ hXK2 => ?_)
  refine J_aload_n hX dX9_ghostsWithout_24 rfl ?_
  refine J_gr hX (x + 28 + 2) fr_RX9_24 dX9_ghostsWithout_25 (show K (x) = 8 from hXa 0 (by decide)) rfl ?_
  refine J_aload_n hX dX9_ghostsWithout_28 rfl ?_
  refine J_gr hX (x + 1 + 2) fr_RX9_20 dX9_ghostsWithout_29 (show K (x) = 8 from hXa 0 (by decide)) rfl ?_
  refine J_callVM hX _ dX9_ghostsWithout_32 cw_RX9_215 (m_X5_copyFrom ((hXa).view).stage ((hXa).other).stage (by omega)) ⟨(show K (x + 28 + 2) = 5 from ((hXa).other).stage 0 (by decide)), by decide, by decide, rfl⟩ rfl (Nat.le_of_ble_eq_true rfl) (by decide) ⟨by decide, by decide⟩ (fun r9 M32 q32 => ?_)
  obtain ⟨rfl, fM32, aM32⟩ := q32
  have al := fun k hk => (aM32 : Alk M (x + 1 + 2) M32 (x + 28 + 2)).stg k hk
  have hWo : WF T M32 (x + 28 + 2) := WF_S (WFS_alk al hW.S)
  refine J_aload_n hX dX9_ghostsWithout_35 rfl ?_
  refine J_gr hX (x + 28 + 2) fr_RX9_24 dX9_ghostsWithout_36 (show K (x) = 8 from hXa 0 (by decide)) rfl ?_
  refine J_gr hX (x + 28 + 2 + 1) fr_RX9_61 dX9_ghostsWithout_39 (show K (x + 28 + 2) = 5 from ((hXa).other).stage 0 (by decide)) rfl ?_
  refine J_iload_n hX dX9_ghostsWithout_42 rfl ?_
  refine J_callVM hX _ dX9_ghostsWithout_43 cw_RX9_97 (m_X6_drop (hXa).other.stage hWo (by omega)) ⟨(show K (x + 28 + 2 + 1) = 6 from ((hXa).other).stage 1 (by decide)), by decide, by decide, rfl⟩ rfl (Nat.le_of_ble_eq_true rfl) (by decide) ⟨by decide, by decide⟩ (fun r9 M43 q43 => ?_)
  obtain ⟨rfl, dd1, dd2⟩ := q43
  have hD := Drd_alk al dd1
  have hW4 : WF T M43 (x + 28 + 2) := WF_S (WFS_drop hWo.S dd1)
  refine J_pop hX dX9_ghostsWithout_46 rfl ?_
  refine J_aload_n hX dX9_ghostsWithout_47 rfl ?_
  refine J_gr hX (x + 28) fr_RX9_21 dX9_ghostsWithout_48 (show K (x) = 8 from hXa 0 (by decide)) rfl ?_
  refine J_callVM hX _ dX9_ghostsWithout_51 cw_RX9_218 (m_X7_measure (hXa).other hW4) ⟨(show K (x + 28) = 7 from (hXa).other 0 (by decide)), by decide, by decide, rfl⟩ rfl (Nat.le_of_ble_eq_true rfl) (by decide) ⟨by decide, by decide⟩ (fun r9 M51 q51 => ?_)
  obtain ⟨rfl, me1, me2, me3⟩ := q51
  have s5 : stg M51 (x + 28 + 2) = stg M43 (x + 28 + 2) := stg_eq (fun k hk => me1 _ (by omega) (by omega) (by omega))
  have hW5 : WF T M51 (x + 28 + 2) := WF_fr s5 hW4
  have hV5 : Vwt M51 (x + 28) (stg M51 (x + 28 + 2)) := by rw [s5]; exact me2
  refine J_aload_n hX dX9_ghostsWithout_54 rfl ?_
  refine J_gr hX (x + 28) fr_RX9_21 dX9_ghostsWithout_55 (show K (x) = 8 from hXa 0 (by decide)) rfl ?_
  refine J_iload_n hX dX9_ghostsWithout_58 rfl ?_
  refine J_callVM hX _ dX9_ghostsWithout_59 cw_RX9_174 (m_X7_countGhosts (hXa).other hW5 hV5 (Or.inl me3) (by omega)) ⟨(show K (x + 28) = 7 from (hXa).other 0 (by decide)), by decide, by decide, rfl⟩ rfl (Nat.le_of_ble_eq_true rfl) (by decide) ⟨by decide, by decide⟩ (fun r9 M59 q59 => ?_)
  obtain ⟨rfl, cg1, cg2, cg3⟩ := q59
  exact J_iret hX hQ dX9_ghostsWithout_62 (by exact ⟨by unfold f2l; rw [if_pos cF0]; exact cF1, rfl, stg M43 (x + 28 + 2), hD, by rw [s5], fun i hi => by rw [cg1 i (by omega) (by omega) (by omega), me1 i (by omega) (by omega) (by omega), dd2 i (by omega)]; exact fM32 i (by omega), WF_fr ((stg_eq (fun k hk => cg1 _ (by omega) (by omega) (by omega))).trans s5) hW4⟩) (by decide) (by decide)
