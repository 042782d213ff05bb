-- X10_tickOnce
set_option maxHeartbeats 4000000 in
set_option maxRecDepth 100000 in
theorem m_X10_tickOnce {E : EE} {K : Nat → Nat} {M : MM} {r : Nat} {T : Int} {S : MM}  (hM : ModelK K r) (hR : RS S (M (r + 1))) (hW : WFS T S) (hT : T < 1000000000) : CnM E 1 yX10_tickOnce cX10_tickOnce 2 none [.ref r] K M (fun r9 M2 => r9 = none ∧ (∀ i, i ≠ r + 1 → M2 i = M i) ∧ RS (tkS S) (M2 (r + 1))) := by
  obtain ⟨⟨rs0, rs1, rs2, rs3, rs4, rs5, rs6, rs7, rs8, rs9, rs10, rs13⟩, rst, rsn, rsc⟩ := id hR
  have hs9 := hW.2.1
  unfold WFSs at hs9
  have hW1 : WFS (T + 1) (mset S 11 1 (S 11 1 + 1)) := WF_time (b := 0) (M := S) hW hT
  refine Cn_of RX10 (plainFor_of_name (by decide)) rfl (Nat.le_of_ble_eq_true rfl) (fun X hX hQ => ?_)
  refine J_aload_n hX dX10_tickOnce_0 rfl ?_
  refine J_gr hX (r + 1) fr_RX10_7 dX10_tickOnce_1 (show K (r) = 9 from hM 0 (by decide)) rfl ?_
  refine J_iconst hX dX10_tickOnce_4 ?_
  refine J_dup2 hX dX10_tickOnce_5 ⟨rfl, rfl⟩ ?_
  refine J_iald hX dX10_tickOnce_6 (show K (r + 1) = 1000 + 198 from hM 1 (by decide)) ⟨by omega, by omega⟩ (by decide) (fun r6 => ?_)
  refine J_iconst hX dX10_tickOnce_7 ?_
  refine J_iadd hX dX10_tickOnce_8 ?_
  refine J_istA hX dX10_tickOnce_9 (show K (r + 1) = 1000 + 198 from hM 1 (by decide)) ⟨by omega, by omega⟩ (by decide) (by omega) (fun m9 hm9 => ?_)
  have fm9 : ∀ i, i ≠ r + 1 → m9 i = M i := fun i h => by rw [hm9]; exact mset_ne h
  have gm9 : ∀ i j, j ≠ 4 → m9 i j = M i j := fun i j h => by rw [hm9]; exact mset_nj h
  have vm9 := (congrFun (congrFun hm9 (r + 1)) (4)).trans mset_eq
  have hR1 : RS (mset S 11 1 (S 11 1 + 1)) (m9 (r + 1)) := by rw [hm9, mset_row, rs4]; exact RS_11 (w := 1) hR (by decide)
  have nr := nowS_rng hW1
  have hs1 := hW1.2.1
  unfold WFSs at hs1
  obtain ⟨⟨t0, t1, t2, t3, t4, t5, t6, t7, t8, t9, t10, t13⟩, tt, tn, tc⟩ := id hR1
  refine J_aload_n hX dX10_tickOnce_10 rfl ?_
  refine J_callVI hX _ dX10_tickOnce_11 cw_RX10_135 (m_X10_sceneNow hM hR1 hW1) ⟨(show K (r) = 9 from hM 0 (by decide)), by decide, by decide, rfl⟩ rfl (Nat.le_of_ble_eq_true rfl) (by decide) ⟨Nat.zero_le _, Nat.zero_le _⟩ (fun r11 => ?_)
  refine J_istore_n hX dX10_tickOnce_14 (by decide) ?_
  refine J_iload_n hX dX10_tickOnce_15 rfl ?_
  refine J_sipush hX dX10_tickOnce_16 rfl ?_
  refine J_icmp_eq hX 94 dX10_tickOnce_19 (by omega) (by decide) (by decide) (fun c19 => ?_) (fun c19 => ?_)
  · exact J_vret hX hQ dX10_tickOnce_94 ⟨rfl, by first | exact ⟨rfl, fun i hi => fm9 i hi, by unfold tkS; dsimp only; rw [if_pos (by assumption)]; exact hR1⟩ | exact ⟨rfl, fun i hi => by rw [fm93 i hi, fm55 i hi, fm9 i hi], by unfold tkS; dsimp only; rw [if_neg (by assumption), (congrFun hm93 (r + 1)).trans mset_row, (congrFun hm55 (r + 1)).trans mset_row]; have z1 := RS_11 (w := 2) (x := tow ((mset S 11 1 (S 11 1 + 1)) 11 2) ((mset S 11 1 (S 11 1 + 1)) 12 (nowS (mset S 11 1 (S 11 1 + 1)))) ((mset S 11 1 (S 11 1 + 1)) 15 1)) hR1 (by decide); exact RS_11 (w := 3) z1 (by decide)⟩⟩ (Nat.zero_le _) (Nat.zero_le _)
  · have h0 : (mset S 11 1 (S 11 1 + 1)) 11 0 ≠ 0 := fun e => c19 (nr.2.2 e)
    have nq := nr.2.1 h0
    have tw := tc (nowS (mset S 11 1 (S 11 1 + 1))) nq.1 nq.2
    have hc1 := hW1.2.2.2 (nowS (mset S 11 1 (S 11 1 + 1))) nq.1 nq.2
    have bd2 := tow_rng (s := (mset S 11 1 (S 11 1 + 1)) 15 1) (f := (mset S 11 1 (S 11 1 + 1)) 11 2) (t := (mset S 11 1 (S 11 1 + 1)) 12 (nowS (mset S 11 1 (S 11 1 + 1)))) (A := -20) (B := 0) (by omega) hc1.1 (by omega)
    have bd3 := tow_rng (s := (mset S 11 1 (S 11 1 + 1)) 15 1) (f := (mset S 11 1 (S 11 1 + 1)) 11 3) (t := (mset S 11 1 (S 11 1 + 1)) 13 (nowS (mset S 11 1 (S 11 1 + 1)))) (A := 0) (B := 20) (by omega) hc1.2.1 (by omega)
    refine J_aload_n hX dX10_tickOnce_22 rfl ?_
    refine J_gr hX (r + 1) fr_RX10_7 dX10_tickOnce_23 (show K (r) = 9 from hM 0 (by decide)) rfl ?_
    refine J_iconst hX dX10_tickOnce_26 ?_
    refine J_aload_n hX dX10_tickOnce_27 rfl ?_
    refine J_gr hX (r + 1) fr_RX10_7 dX10_tickOnce_28 (show K (r) = 9 from hM 0 (by decide)) rfl ?_
    refine J_iconst hX dX10_tickOnce_31 ?_
    refine J_iald hX dX10_tickOnce_32 (show K (r + 1) = 1000 + 198 from hM 1 (by decide)) ⟨by omega, by omega⟩ (by decide) (fun r32 => ?_)
    refine J_aload_n hX dX10_tickOnce_33 rfl ?_
    refine J_gr hX (r + 1) fr_RX10_7 dX10_tickOnce_34 (show K (r) = 9 from hM 0 (by decide)) rfl ?_
    refine J_sipush hX dX10_tickOnce_37 rfl ?_
    refine J_iconst hX dX10_tickOnce_40 ?_
    refine J_iload_n hX dX10_tickOnce_41 rfl ?_
    refine J_imul hX dX10_tickOnce_42 ?_
    refine J_iadd hX dX10_tickOnce_43 ?_
    refine J_iald hX dX10_tickOnce_44 (show K (r + 1) = 1000 + 198 from hM 1 (by decide)) ⟨by omega, by omega⟩ (by decide) (fun r44 => ?_)
    refine J_aload_n hX dX10_tickOnce_45 rfl ?_
    refine J_gr hX (r + 1) fr_RX10_7 dX10_tickOnce_46 (show K (r) = 9 from hM 0 (by decide)) rfl ?_
    refine J_bipush hX dX10_tickOnce_49 rfl ?_
    refine J_iald hX dX10_tickOnce_51 (show K (r + 1) = 1000 + 198 from hM 1 (by decide)) ⟨by omega, by omega⟩ (by decide) (fun r51 => ?_)
    refine J_callSI hX _ dX10_tickOnce_52 cw_RX10_139 (m_X10_towards (by omega) (by omega) (by omega)) rfl (Nat.le_of_ble_eq_true rfl) (by decide) ⟨Nat.zero_le _, Nat.zero_le _⟩ (fun r52 => ?_)
    rw [t5, tw.1, t8]
    refine J_istA hX dX10_tickOnce_55 (show K (r + 1) = 1000 + 198 from hM 1 (by decide)) ⟨by omega, by omega⟩ (by decide) (by omega) (fun m55 hm55 => ?_)
    have fm55 : ∀ i, i ≠ r + 1 → m55 i = m9 i := fun i h => by rw [hm55]; exact mset_ne h
    have gm55 : ∀ i j, j ≠ 5 → m55 i j = m9 i j := fun i j h => by rw [hm55]; exact mset_nj h
    have vm55 := (congrFun (congrFun hm55 (r + 1)) (5)).trans mset_eq
    have g6 : m55 (r + 1) 6 = m9 (r + 1) 6 := by rw [hm55]; exact mset_nj (by decide)
    have g8 : m55 (r + 1) 8 = m9 (r + 1) 8 := by rw [hm55]; exact mset_nj (by decide)
    have gt : m55 (r + 1) (174 + 3 * nowS (mset S 11 1 (S 11 1 + 1)) + 1) = m9 (r + 1) (174 + 3 * nowS (mset S 11 1 (S 11 1 + 1)) + 1) := by rw [hm55]; exact mset_nj (by omega)
    refine J_aload_n hX dX10_tickOnce_56 rfl ?_
    refine J_gr hX (r + 1) fr_RX10_7 dX10_tickOnce_57 (show K (r) = 9 from hM 0 (by decide)) rfl ?_
    refine J_bipush hX dX10_tickOnce_60 rfl ?_
    refine J_aload_n hX dX10_tickOnce_62 rfl ?_
    refine J_gr hX (r + 1) fr_RX10_7 dX10_tickOnce_63 (show K (r) = 9 from hM 0 (by decide)) rfl ?_
    refine J_bipush hX dX10_tickOnce_66 rfl ?_
    refine J_iald hX dX10_tickOnce_68 (show K (r + 1) = 1000 + 198 from hM 1 (by decide)) ⟨by omega, by omega⟩ (by decide) (fun r68 => ?_)
    refine J_aload_n hX dX10_tickOnce_69 rfl ?_
    refine J_gr hX (r + 1) fr_RX10_7 dX10_tickOnce_70 (show K (r) = 9 from hM 0 (by decide)) rfl ?_
    refine J_sipush hX dX10_tickOnce_73 rfl ?_
    refine J_iconst hX dX10_tickOnce_76 ?_
    refine J_iload_n hX dX10_tickOnce_77 rfl ?_
    refine J_imul hX dX10_tickOnce_78 ?_
    refine J_iadd hX dX10_tickOnce_79 ?_
    refine J_iconst hX dX10_tickOnce_80 ?_
    refine J_iadd hX dX10_tickOnce_81 ?_
    refine J_iald hX dX10_tickOnce_82 (show K (r + 1) = 1000 + 198 from hM 1 (by decide)) ⟨by omega, by omega⟩ (by decide) (fun r82 => ?_)
    refine J_aload_n hX dX10_tickOnce_83 rfl ?_
    refine J_gr hX (r + 1) fr_RX10_7 dX10_tickOnce_84 (show K (r) = 9 from hM 0 (by decide)) rfl ?_
    refine J_bipush hX dX10_tickOnce_87 rfl ?_
    refine J_iald hX dX10_tickOnce_89 (show K (r + 1) = 1000 + 198 from hM 1 (by decide)) ⟨by omega, by omega⟩ (by decide) (fun r89 => ?_)
    refine J_callSI hX _ dX10_tickOnce_90 cw_RX10_139 (m_X10_towards (by omega) (by omega) (by omega)) rfl (Nat.le_of_ble_eq_true rfl) (by decide) ⟨Nat.zero_le _, Nat.zero_le _⟩ (fun r90 => ?_)
    rw [g6, gt, g8, t6, tw.2.1, t8]
    refine J_istA hX dX10_tickOnce_93 (show K (r + 1) = 1000 + 198 from hM 1 (by decide)) ⟨by omega, by omega⟩ (by decide) (by omega) (fun m93 hm93 => ?_)
    have fm93 : ∀ i, i ≠ r + 1 → m93 i = m55 i := fun i h => by rw [hm93]; exact mset_ne h
    have gm93 : ∀ i j, j ≠ 6 → m93 i j = m55 i j := fun i j h => by rw [hm93]; exact mset_nj h
    have vm93 := (congrFun (congrFun hm93 (r + 1)) (6)).trans mset_eq
    exact J_vret hX hQ dX10_tickOnce_94 ⟨rfl, by first | exact ⟨rfl, fun i hi => fm9 i hi, by unfold tkS; dsimp only; rw [if_pos (by assumption)]; exact hR1⟩ | exact ⟨rfl, fun i hi => by rw [fm93 i hi, fm55 i hi, fm9 i hi], by unfold tkS; dsimp only; rw [if_neg (by assumption), (congrFun hm93 (r + 1)).trans mset_row, (congrFun hm55 (r + 1)).trans mset_row]; have z1 := RS_11 (w := 2) (x := tow ((mset S 11 1 (S 11 1 + 1)) 11 2) ((mset S 11 1 (S 11 1 + 1)) 12 (nowS (mset S 11 1 (S 11 1 + 1)))) ((mset S 11 1 (S 11 1 + 1)) 15 1)) hR1 (by decide); exact RS_11 (w := 3) z1 (by decide)⟩⟩ (Nat.zero_le _) (Nat.zero_le _)
