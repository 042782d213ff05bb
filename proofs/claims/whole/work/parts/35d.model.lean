/-! the reference: what if, text, states -/
-- X10_fittingGain
set_option maxHeartbeats 4000000 in
set_option maxRecDepth 100000 in
theorem m_X10_fittingGain {E : EE} {K : Nat → Nat} {M : MM} {r : Nat} {T : Int} {S : MM}  (hM : ModelK K r) (hR : RS S (M (r + 1))) (hW : WFS T S)  : CnM E 4 yX10_fittingGain cX10_fittingGain 3 (Option.some FieldType.int) [.ref r] K M (fun r9 M2 => VlM M r 0 (gainF S 100 : Nat) r9 M2) := by
  obtain ⟨⟨rs0, rs1, rs2, rs3, rs4, rs5, rs6, rs7, rs8, rs9, rs10, rs13⟩, rst, rsn, rsc⟩ := id hR
  have hs9 := hW.2.1
  unfold WFSs at hs9
  refine Cn_of RX10 (plainFor_of_name (by decide)) rfl (Nat.le_of_ble_eq_true rfl) (fun X hX hQ => ?_)
  refine J_aload_n hX dX10_fittingGain_0 rfl ?_
  refine J_iconst hX dX10_fittingGain_1 ?_
  refine J_putA hX fw_RX10_47 dX10_fittingGain_2 (show K (r) = 9 from hM 0 (by decide)) (by omega) (Or.inl rfl) (fun m2 hm2 => ?_)
  have fm2 : ∀ i, i ≠ r → m2 i = M i := fun i h => by rw [hm2]; exact mset_ne h
  have gm2 : ∀ i j, j ≠ 6 → m2 i j = M i j := fun i j h => by rw [hm2]; exact mset_nj h
  have vm2 := (congrFun (congrFun hm2 (r)) 6).trans mset_eq
  have hRm : RS S (m2 (r + 1)) := by rw [fm2 _ (by omega)]; exact hR
  refine J_aload_n hX dX10_fittingGain_5 rfl ?_
  refine J_callVM hX _ dX10_fittingGain_6 cw_RX10_210 (m_X10_places hM hRm hW) ⟨(show K (r) = 9 from hM 0 (by decide)), by decide, by decide, rfl⟩ rfl (Nat.le_of_ble_eq_true rfl) (by decide) ⟨Nat.zero_le _, Nat.zero_le _⟩ (fun r9 M6 q6 => ?_)
  obtain ⟨rfl, fM6, pM6⟩ := q6
  have e6 : M6 (r + 1) = M (r + 1) := by rw [fM6 _ (by omega) (by omega) (by omega), fm2 _ (by omega)]
  have e67 := congrFun e6 7
  refine J_aload_n hX dX10_fittingGain_9 rfl ?_
  refine J_gr hX (r + 1) fr_RX10_7 dX10_fittingGain_10 (show K (r) = 9 from hM 0 (by decide)) rfl ?_
  refine J_bipush hX dX10_fittingGain_13 rfl ?_
  refine J_iald hX dX10_fittingGain_15 (show K (r + 1) = 1000 + 198 from hM 1 (by decide)) ⟨by omega, by omega⟩ (by decide) (fun r15 => ?_)
  refine J_istore_n hX dX10_fittingGain_16 (by decide) ?_
  refine J_aload_n hX dX10_fittingGain_17 rfl ?_
  refine J_gr hX (r + 1) fr_RX10_7 dX10_fittingGain_18 (show K (r) = 9 from hM 0 (by decide)) rfl ?_
  refine J_bipush hX dX10_fittingGain_21 rfl ?_
  refine J_bipush hX dX10_fittingGain_23 rfl ?_
  refine J_istA hX dX10_fittingGain_25 (show K (r + 1) = 1000 + 198 from hM 1 (by decide)) ⟨by omega, by omega⟩ (by decide) (by omega) (fun m25 hm25 => ?_)
  have fm25 : ∀ i, i ≠ r + 1 → m25 i = M6 i := fun i h => by rw [hm25]; exact mset_ne h
  have gm25 : ∀ i j, j ≠ 7 → m25 i j = M6 i j := fun i j h => by rw [hm25]; exact mset_nj h
  have vm25 := (congrFun (congrFun hm25 (r + 1)) (7)).trans mset_eq
  have HL26 : ∀ k : Nat, k ≤ 100 → ∀ (M5 : MM), ((∀ i, i ≠ r + 1 → M5 i = M6 i) ∧ (∀ j, j ≠ 7 → M5 (r + 1) j = M6 (r + 1) j) ∧ M5 (r + 1) 7 = 100 - (k : Int) ∧ gainF S (100 - k) = gainF S 100) → J E X 26 [(0, .ref r), (1, vI (M6 (r + 1) 7))] [] K M5 0 0 := by
    refine up_ind (100) (fun k hk26 ih26 => ?_)
    intro M5  hi26
    have er : M5 (r + 1) = rset (M (r + 1)) (7 + 0) (100 - (k : Int)) := by funext j; by_cases e : j = 7; (rw [e]; exact hi26.2.2.1.trans rset_eq.symm); (rw [hi26.2.1 j e, e6]; exact (rset_ne (show j ≠ 7 + 0 from e)).symm)
    have hRx : RS (mset S 15 0 (100 - (k : Int))) (M5 (r + 1)) := by rw [er]; exact RS_set hR (by decide)
    have hWx : WFS T (mset S 15 0 (100 - (k : Int))) := WFS_set hW (Or.inl ⟨Or.inl rfl, by omega, by omega⟩)
    have px := fun k2 (h : k2 ≠ 15) => mset_ne (M := S) (i := 15) (j := 0) (x := 100 - (k : Int)) h
    have hzx : ∀ n : Int, hs (mset S 15 0 (100 - (k : Int))) n → M5 (r + 8) n = pos (mset S 15 0 (100 - (k : Int))) 6 n := fun n hn => by rw [pos_congr (px 6 (by decide)) (px 2 (by decide)), hi26.1 _ (by omega)]; exact (pM6 n hn.1 (by have z := hn.2.1; rw [px 1 (by decide)] at z; exact z)).2.2
    have z5 : M5 (r + 1) 5 = S 11 2 := by rw [hi26.2.1 5 (by decide), e6]; exact rs5
    have z6 : M5 (r + 1) 6 = S 11 3 := by rw [hi26.2.1 6 (by decide), e6]; exact rs6
    have fc : fits1 (mset S 15 0 (100 - (k : Int))) (mset S 15 0 (100 - (k : Int)) 15 0) 100 (S 11 2) (S 11 3) = fits1 S (100 - (k : Int)) 100 (S 11 2) (S 11 3) := by rw [mset_eq]; exact fits1_congr (px 1 (by decide)) (px 2 (by decide)) (px 6 (by decide)) (px 7 (by decide)) _ _ _ _
    have z7 := hi26.2.2.1
    refine J_aload_n hX dX10_fittingGain_26 rfl ?_
    refine J_bipush hX dX10_fittingGain_27 rfl ?_
    refine J_aload_n hX dX10_fittingGain_29 rfl ?_
    refine J_gr hX (r + 1) fr_RX10_7 dX10_fittingGain_30 (show K (r) = 9 from hM 0 (by decide)) rfl ?_
    refine J_iconst hX dX10_fittingGain_33 ?_
    refine J_iald hX dX10_fittingGain_34 (show K (r + 1) = 1000 + 198 from hM 1 (by decide)) ⟨by omega, by omega⟩ (by decide) (fun r34 => ?_)
    refine J_aload_n hX dX10_fittingGain_35 rfl ?_
    refine J_gr hX (r + 1) fr_RX10_7 dX10_fittingGain_36 (show K (r) = 9 from hM 0 (by decide)) rfl ?_
    refine J_bipush hX dX10_fittingGain_39 rfl ?_
    refine J_iald hX dX10_fittingGain_41 (show K (r + 1) = 1000 + 198 from hM 1 (by decide)) ⟨by omega, by omega⟩ (by decide) (fun r41 => ?_)
    rw [z5, z6]
    refine J_callVB hX _ dX10_fittingGain_42 cw_RX10_157 (m_X10_fits hM hRx hWx (by decide) (by omega) (by omega) hzx) ⟨(show K (r) = 9 from hM 0 (by decide)), by decide, by decide, rfl⟩ rfl (Nat.le_of_ble_eq_true rfl) (by decide) ⟨Nat.zero_le _, Nat.zero_le _⟩ ?_
    rw [fc]
    refine J_ifb_ne hX 62 dX10_fittingGain_45 (by decide) (fun c45 => ?_) (fun c45 => ?_)
    · refine J_aload_n hX dX10_fittingGain_62 rfl ?_
      refine J_gr hX (r + 1) fr_RX10_7 dX10_fittingGain_63 (show K (r) = 9 from hM 0 (by decide)) rfl ?_
      refine J_bipush hX dX10_fittingGain_66 rfl ?_
      refine J_iald hX dX10_fittingGain_68 (show K (r + 1) = 1000 + 198 from hM 1 (by decide)) ⟨by omega, by omega⟩ (by decide) (fun r68 => ?_)
      refine J_istore_n hX dX10_fittingGain_69 (by decide) ?_
      refine J_aload_n hX dX10_fittingGain_70 rfl ?_
      refine J_gr hX (r + 1) fr_RX10_7 dX10_fittingGain_71 (show K (r) = 9 from hM 0 (by decide)) rfl ?_
      refine J_bipush hX dX10_fittingGain_74 rfl ?_
      refine J_iload_n hX dX10_fittingGain_76 rfl ?_
      refine J_istA hX dX10_fittingGain_77 (show K (r + 1) = 1000 + 198 from hM 1 (by decide)) ⟨by omega, by omega⟩ (by decide) (by omega) (fun m77 hm77 => ?_)
      have fm77 : ∀ i, i ≠ r + 1 → m77 i = M5 i := fun i h => by rw [hm77]; exact mset_ne h
      have gm77 : ∀ i j, j ≠ 7 → m77 i j = M5 i j := fun i j h => by rw [hm77]; exact mset_nj h
      have vm77 := (congrFun (congrFun hm77 (r + 1)) (7)).trans mset_eq
      refine J_iload_n hX dX10_fittingGain_78 rfl ?_
      exact J_iret hX hQ dX10_fittingGain_79 ⟨rfl, by have gg : M5 (r + 1) 7 = (gainF S 100 : Nat) := (by rw [← hi26.2.2.2]; by_cases e : k = 100; (rw [hi26.2.2.1, e]; rfl); (rw [gainF_t (p := 100 - k) (p1 := 100 - (k + 1)) (by omega) (by rw [show ((100 - (k + 1) + 1 : Nat) : Int) = 100 - k by omega]; exact c45)]; omega)); exact ⟨by rw [fm77 _ (by omega), hi26.1 _ (by omega), fM6 _ (by omega) (by omega) (by omega)]; exact vm2, Or.inr ⟨rfl, by rw [gg]⟩, fun i hi => by rw [fm77 i (by omega), hi26.1 i (by omega), fM6 i (by omega) (by omega) (by omega)]; exact fm2 i (by omega), fun j _ _ => by by_cases e : j = 7; (rw [e, vm77]; exact e67); (rw [gm77 _ j e, hi26.2.1 j e]; exact congrFun e6 j), fun j hj => by rw [fm77 _ (by omega), hi26.1 _ (by omega), fM6 _ (by omega) (by omega) (by omega)]; exact gm2 _ j (by omega)⟩⟩ (Nat.zero_le _) (Nat.zero_le _)
    · refine J_aload_n hX dX10_fittingGain_48 rfl ?_
      refine J_gr hX (r + 1) fr_RX10_7 dX10_fittingGain_49 (show K (r) = 9 from hM 0 (by decide)) rfl ?_
      refine J_bipush hX dX10_fittingGain_52 rfl ?_
      refine J_dup2 hX dX10_fittingGain_54 ⟨rfl, rfl⟩ ?_
      refine J_iald hX dX10_fittingGain_55 (show K (r + 1) = 1000 + 198 from hM 1 (by decide)) ⟨by omega, by omega⟩ (by decide) (fun r55 => ?_)
      refine J_iconst hX dX10_fittingGain_56 ?_
      refine J_isub hX dX10_fittingGain_57 ?_
      refine J_istA hX dX10_fittingGain_58 (show K (r + 1) = 1000 + 198 from hM 1 (by decide)) ⟨by omega, by omega⟩ (by decide) (by omega) (fun m58 hm58 => ?_)
      have fm58 : ∀ i, i ≠ r + 1 → m58 i = M5 i := fun i h => by rw [hm58]; exact mset_ne h
      have gm58 : ∀ i j, j ≠ 7 → m58 i j = M5 i j := fun i j h => by rw [hm58]; exact mset_nj h
      have vm58 := (congrFun (congrFun hm58 (r + 1)) (7)).trans mset_eq
      refine J_goto hX 26 dX10_fittingGain_59 (by decide) ?_
      exact J_locI (ih26 (k + 1) (by have : k ≠ 100 := (fun e => c45 (by rw [e]; exact fits_00 (by omega) (by omega))); omega) (by have : k ≠ 100 := (fun e => c45 (by rw [e]; exact fits_00 (by omega) (by omega))); omega) _ ⟨fun i hi => by rw [fm58 i hi]; exact hi26.1 i hi, fun j hj => by rw [gm58 _ j hj]; exact hi26.2.1 j hj, by rw [vm58]; omega, by have : k ≠ 100 := (fun e => c45 (by rw [e]; exact fits_00 (by omega) (by omega))); rw [← hi26.2.2.2, gainF_f (p := 100 - k) (p1 := 100 - (k + 1)) (by omega) (by rw [show ((100 - (k + 1) + 1 : Nat) : Int) = 100 - k by omega]; exact c45)]⟩) rfl
  exact J_locI (HL26 0 (Nat.zero_le _) _ ⟨fun i hi => fm25 i hi, fun j hj => gm25 _ j hj, vm25, rfl⟩) rfl
-- X10_fullAfter
set_option maxHeartbeats 4000000 in
set_option maxRecDepth 100000 in
theorem m_X10_fullAfter {E : EE} {K : Nat → Nat} {M : MM} {r : Nat} {T : Int} {S : MM} {most : Int} (hM : ModelK K r) (hR : RS S (M (r + 1))) (hW : WFS T S) (hmo : i32 most) (hT : T + 300 ≤ 1000000000) (hz : ∀ k, 16 ≤ k → S k = fun _ => 0) : CnM E 4 yX10_fullAfter cX10_fullAfter 3 (Option.some FieldType.int) [.ref r, vI most] K M (fun r9 M2 => VlM M r (if 0 ≤ most ∧ most ≤ 200 then 0 else 1) (faF S (most + 1).toNat 0) r9 M2) := by
  obtain ⟨⟨rs0, rs1, rs2, rs3, rs4, rs5, rs6, rs7, rs8, rs9, rs10, rs13⟩, rst, rsn, rsc⟩ := id hR
  have hs9 := hW.2.1
  unfold WFSs at hs9
  refine Cn_of RX10 (plainFor_of_name (by decide)) rfl (Nat.le_of_ble_eq_true rfl) (fun X hX hQ => ?_)
  refine J_aload_n hX dX10_fullAfter_0 rfl ?_
  refine J_iload_n hX dX10_fullAfter_1 rfl ?_
  refine J_iconst hX dX10_fullAfter_2 ?_
  refine J_sipush hX dX10_fullAfter_3 rfl ?_
  refine J_callSB hX _ dX10_fullAfter_6 cw_RX10_58 (m_X10_in (by omega) (by omega) (by omega)) rfl (Nat.le_of_ble_eq_true rfl) (by decide) ⟨Nat.zero_le _, Nat.zero_le _⟩ ?_
  refine J_ifb_eq hX 16 dX10_fullAfter_9 (by decide) (fun c9 => ?_) (fun c9 => ?_)
  · refine J_iconst hX dX10_fullAfter_16 ?_
    refine J_putA hX fw_RX10_47 dX10_fullAfter_17 (show K (r) = 9 from hM 0 (by decide)) (by omega) (Or.inl rfl) (fun m17 hm17 => ?_)
    have fm17 : ∀ i, i ≠ r → m17 i = M i := fun i h => by rw [hm17]; exact mset_ne h
    have gm17 : ∀ i j, j ≠ 6 → m17 i j = M i j := fun i j h => by rw [hm17]; exact mset_nj h
    have vm17 := (congrFun (congrFun hm17 (r)) 6).trans mset_eq
    have hRm : RS S (m17 (r + 1)) := by rw [fm17 _ (by omega)]; exact hR
    have ec : m17 r 6 = (if 0 ≤ most ∧ most ≤ 200 then 0 else 1) := vm17.trans (by (repeat' split) <;> omega)
    refine J_aload_n hX dX10_fullAfter_20 rfl ?_
    refine J_geti hX fi_RX10_47 dX10_fullAfter_21 (show K (r) = 9 from hM 0 (by decide)) (fun r21 => ?_)
    refine J_if_eq hX 29 dX10_fullAfter_24 (by omega) (by decide) (fun c24 => ?_) (fun c24 => ?_)
    · have ez : (if 0 ≤ most ∧ most ≤ 200 then 0 else 1) = (0 : Int) := by rw [← ec]; assumption
      have g1 := if_0 (by decide) ez
      refine J_aload_n hX dX10_fullAfter_29 rfl ?_
      refine J_callVM hX _ dX10_fullAfter_30 cw_RX10_210 (m_X10_places hM hRm hW) ⟨(show K (r) = 9 from hM 0 (by decide)), by decide, by decide, rfl⟩ rfl (Nat.le_of_ble_eq_true rfl) (by decide) ⟨Nat.zero_le _, Nat.zero_le _⟩ (fun r9 M30 q30 => ?_)
      obtain ⟨rfl, fM30, pM30⟩ := q30
      refine J_aload_n hX dX10_fullAfter_33 rfl ?_
      refine J_gr hX (r + 1) fr_RX10_7 dX10_fullAfter_34 (show K (r) = 9 from hM 0 (by decide)) rfl ?_
      refine J_iconst hX dX10_fullAfter_37 ?_
      refine J_aload_n hX dX10_fullAfter_38 rfl ?_
      refine J_gr hX (r + 2) fr_RX10_13 dX10_fullAfter_39 (show K (r) = 9 from hM 0 (by decide)) rfl ?_
      refine J_iconst hX dX10_fullAfter_42 ?_
      refine J_callSM hX _ dX10_fullAfter_43 cw_RX10_54 (m_X10_bring_c (show K (r + 1) = 1000 + 198 from hM 1 (by decide)) (show K (r + 2) = 1000 + 198 from hM 2 (by decide)) (by omega) (by omega) (by omega)) rfl (Nat.le_of_ble_eq_true rfl) (by decide) ⟨Nat.zero_le _, Nat.zero_le _⟩ (fun r9 M43 q43 => ?_)
      obtain ⟨rfl, fM43, vM43⟩ := q43
      have e43 : M43 (r + 1) = M (r + 1) := by rw [fM43 _ (by omega), fM30 _ (by omega) (by omega) (by omega), fm17 _ (by omega)]
      have e30 : M30 (r + 1) = M (r + 1) := by rw [fM30 _ (by omega) (by omega) (by omega), fm17 _ (by omega)]
      refine J_iconst hX dX10_fullAfter_46 ?_
      refine J_istore_n hX dX10_fullAfter_47 (by decide) ?_
      have HL48 : ∀ k : Nat, k ≤ (most + 1).toNat → ∀ (M5 : MM), (((∀ i, i ≠ r + 1 → i ≠ r + 2 → M5 i = M30 i) ∧ M5 (r + 2) = M43 (r + 2)) ∧ RS (tkSn k S) (M5 (r + 1)) ∧ faF S ((most + 1).toNat - k) k = faF S (most + 1).toNat 0) → J E X 48 [(0, .ref r), (1, vI most), (2, vI (k : Int))] [] K M5 0 0 := by
        refine up_ind ((most + 1).toNat) (fun k hk48 ih48 => ?_)
        intro M5  hi48
        have hRk := hi48.2.1
        have hWk := WFS_tkSn hW hz k (by omega)
        have sk := hWk.2.1
        unfold WFSs at sk
        have hzk : ∀ n : Int, hs (tkSn k S) n → M5 (r + 8) n = pos (tkSn k S) 6 n := fun n hn => by rw [pos_congr (tkSn_row (by decide) k) (tkSn_row (by decide) k), hi48.1.1 _ (by omega) (by omega)]; exact (pM30 n hn.1 (by have z := hn.2.1; rw [tkSn_row (by decide) k] at z; exact z)).2.2
        have z5 := hRk.1.2.2.2.2.2.1
        have z6 := hRk.1.2.2.2.2.2.2.1
        have fc : fits1 (tkSn k S) (tkSn k S 15 0) 100 (tkSn k S 11 2) (tkSn k S 11 3) = fits1 S (S 15 0) 100 (tkSn k S 11 2) (tkSn k S 11 3) := by rw [fits1_tk, tkSn_row (by decide) k]
        refine J_iload_n hX dX10_fullAfter_48 rfl ?_
        refine J_iload_n hX dX10_fullAfter_49 rfl ?_
        refine J_icmp_gt hX 85 dX10_fullAfter_50 (by omega) (by omega) (by decide) (fun c50 => ?_) (fun c50 => ?_)
        · refine J_aload_n hX dX10_fullAfter_85 rfl ?_
          refine J_gr hX (r + 2) fr_RX10_13 dX10_fullAfter_86 (show K (r) = 9 from hM 0 (by decide)) rfl ?_
          refine J_iconst hX dX10_fullAfter_89 ?_
          refine J_aload_n hX dX10_fullAfter_90 rfl ?_
          refine J_gr hX (r + 1) fr_RX10_7 dX10_fullAfter_91 (show K (r) = 9 from hM 0 (by decide)) rfl ?_
          refine J_iconst hX dX10_fullAfter_94 ?_
          refine J_callSM hX _ dX10_fullAfter_95 cw_RX10_54 (m_X10_bring_c (show K (r + 2) = 1000 + 198 from hM 2 (by decide)) (show K (r + 1) = 1000 + 198 from hM 1 (by decide)) (by omega) (by omega) (by omega)) rfl (Nat.le_of_ble_eq_true rfl) (by decide) ⟨Nat.zero_le _, Nat.zero_le _⟩ (fun r9 M95 q95 => ?_)
          obtain ⟨rfl, fM95, vM95⟩ := q95
          refine J_iload_n hX dX10_fullAfter_98 rfl ?_
          refine J_iload_n hX dX10_fullAfter_99 rfl ?_
          refine J_icmp_le hX 109 dX10_fullAfter_100 (by omega) (by omega) (by decide) (fun c100 => ?_) (fun c100 => ?_)
          · refine J_iload_n hX dX10_fullAfter_109 rfl ?_
            exact J_iret hX hQ dX10_fullAfter_110 ⟨rfl, by first     | exact ⟨ec, Or.inl ⟨by rw [← ec]; assumption, rfl⟩, fun i hi => fm17 i (by omega), fun j _ _ => congrFun (fm17 (r + 1) (by omega)) j, fun j hj => gm17 _ j (by omega)⟩     | exact ⟨by rw [fM95 _ (by omega), hi48.1.1 _ (by omega) (by omega), fM30 _ (by omega) (by omega) (by omega)]; exact ec, Or.inr ⟨ez, by rw [← hi48.2.2]; first | (exfalso; omega) | (rw [faF_0 (by omega)]; done) | (rw [faF_t (f := (most + 1).toNat - k) (f1 := (most + 1).toNat - (k + 1)) (by omega) (by assumption)]; done)⟩, fun i hi => by rw [fM95 i (by omega), hi48.1.1 i (by omega) (by omega), fM30 i (by omega) (by omega) (by omega)]; exact fm17 i (by omega), fun j j0 j1 => by rw [vM95, if_pos (by omega), hi48.1.2, vM43, if_pos (by omega), e30]; congr 1; omega, fun j hj => by rw [fM95 _ (by omega), hi48.1.1 _ (by omega) (by omega), fM30 _ (by omega) (by omega) (by omega)]; exact gm17 _ j (by omega)⟩⟩ (Nat.zero_le _) (Nat.zero_le _)
          · refine J_sipush hX dX10_fullAfter_103 rfl ?_
            refine J_goto hX 110 dX10_fullAfter_106 (by decide) ?_
            exact J_iret hX hQ dX10_fullAfter_110 ⟨rfl, by first     | exact ⟨ec, Or.inl ⟨by rw [← ec]; assumption, rfl⟩, fun i hi => fm17 i (by omega), fun j _ _ => congrFun (fm17 (r + 1) (by omega)) j, fun j hj => gm17 _ j (by omega)⟩     | exact ⟨by rw [fM95 _ (by omega), hi48.1.1 _ (by omega) (by omega), fM30 _ (by omega) (by omega) (by omega)]; exact ec, Or.inr ⟨ez, by rw [← hi48.2.2]; first | (exfalso; omega) | (rw [faF_0 (by omega)]; done) | (rw [faF_t (f := (most + 1).toNat - k) (f1 := (most + 1).toNat - (k + 1)) (by omega) (by assumption)]; done)⟩, fun i hi => by rw [fM95 i (by omega), hi48.1.1 i (by omega) (by omega), fM30 i (by omega) (by omega) (by omega)]; exact fm17 i (by omega), fun j j0 j1 => by rw [vM95, if_pos (by omega), hi48.1.2, vM43, if_pos (by omega), e30]; congr 1; omega, fun j hj => by rw [fM95 _ (by omega), hi48.1.1 _ (by omega) (by omega), fM30 _ (by omega) (by omega) (by omega)]; exact gm17 _ j (by omega)⟩⟩ (Nat.zero_le _) (Nat.zero_le _)
        · refine J_aload_n hX dX10_fullAfter_53 rfl ?_
          refine J_bipush hX dX10_fullAfter_54 rfl ?_
          refine J_aload_n hX dX10_fullAfter_56 rfl ?_
          refine J_gr hX (r + 1) fr_RX10_7 dX10_fullAfter_57 (show K (r) = 9 from hM 0 (by decide)) rfl ?_
          refine J_iconst hX dX10_fullAfter_60 ?_
          refine J_iald hX dX10_fullAfter_61 (show K (r + 1) = 1000 + 198 from hM 1 (by decide)) ⟨by omega, by omega⟩ (by decide) (fun r61 => ?_)
          refine J_aload_n hX dX10_fullAfter_62 rfl ?_
          refine J_gr hX (r + 1) fr_RX10_7 dX10_fullAfter_63 (show K (r) = 9 from hM 0 (by decide)) rfl ?_
          refine J_bipush hX dX10_fullAfter_66 rfl ?_
          refine J_iald hX dX10_fullAfter_68 (show K (r + 1) = 1000 + 198 from hM 1 (by decide)) ⟨by omega, by omega⟩ (by decide) (fun r68 => ?_)
          rw [z5, z6]
          refine J_callVB hX _ dX10_fullAfter_69 cw_RX10_157 (m_X10_fits hM hRk hWk (by decide) (by omega) (by omega) hzk) ⟨(show K (r) = 9 from hM 0 (by decide)), by decide, by decide, rfl⟩ rfl (Nat.le_of_ble_eq_true rfl) (by decide) ⟨Nat.zero_le _, Nat.zero_le _⟩ ?_
          rw [fc]
          refine J_ifb_ne hX 85 dX10_fullAfter_72 (by decide) (fun c72 => ?_) (fun c72 => ?_)
          · refine J_aload_n hX dX10_fullAfter_85 rfl ?_
            refine J_gr hX (r + 2) fr_RX10_13 dX10_fullAfter_86 (show K (r) = 9 from hM 0 (by decide)) rfl ?_
            refine J_iconst hX dX10_fullAfter_89 ?_
            refine J_aload_n hX dX10_fullAfter_90 rfl ?_
            refine J_gr hX (r + 1) fr_RX10_7 dX10_fullAfter_91 (show K (r) = 9 from hM 0 (by decide)) rfl ?_
            refine J_iconst hX dX10_fullAfter_94 ?_
            refine J_callSM hX _ dX10_fullAfter_95 cw_RX10_54 (m_X10_bring_c (show K (r + 2) = 1000 + 198 from hM 2 (by decide)) (show K (r + 1) = 1000 + 198 from hM 1 (by decide)) (by omega) (by omega) (by omega)) rfl (Nat.le_of_ble_eq_true rfl) (by decide) ⟨Nat.zero_le _, Nat.zero_le _⟩ (fun r9 M95 q95 => ?_)
            obtain ⟨rfl, fM95, vM95⟩ := q95
            refine J_iload_n hX dX10_fullAfter_98 rfl ?_
            refine J_iload_n hX dX10_fullAfter_99 rfl ?_
            refine J_icmp_le hX 109 dX10_fullAfter_100 (by omega) (by omega) (by decide) (fun c100 => ?_) (fun c100 => ?_)
            · refine J_iload_n hX dX10_fullAfter_109 rfl ?_
              exact J_iret hX hQ dX10_fullAfter_110 ⟨rfl, by first     | exact ⟨ec, Or.inl ⟨by rw [← ec]; assumption, rfl⟩, fun i hi => fm17 i (by omega), fun j _ _ => congrFun (fm17 (r + 1) (by omega)) j, fun j hj => gm17 _ j (by omega)⟩     | exact ⟨by rw [fM95 _ (by omega), hi48.1.1 _ (by omega) (by omega), fM30 _ (by omega) (by omega) (by omega)]; exact ec, Or.inr ⟨ez, by rw [← hi48.2.2]; first | (exfalso; omega) | (rw [faF_0 (by omega)]; done) | (rw [faF_t (f := (most + 1).toNat - k) (f1 := (most + 1).toNat - (k + 1)) (by omega) (by assumption)]; done)⟩, fun i hi => by rw [fM95 i (by omega), hi48.1.1 i (by omega) (by omega), fM30 i (by omega) (by omega) (by omega)]; exact fm17 i (by omega), fun j j0 j1 => by rw [vM95, if_pos (by omega), hi48.1.2, vM43, if_pos (by omega), e30]; congr 1; omega, fun j hj => by rw [fM95 _ (by omega), hi48.1.1 _ (by omega) (by omega), fM30 _ (by omega) (by omega) (by omega)]; exact gm17 _ j (by omega)⟩⟩ (Nat.zero_le _) (Nat.zero_le _)
            · refine J_sipush hX dX10_fullAfter_103 rfl ?_
              refine J_goto hX 110 dX10_fullAfter_106 (by decide) ?_
              exact J_iret hX hQ dX10_fullAfter_110 ⟨rfl, by first     | exact ⟨ec, Or.inl ⟨by rw [← ec]; assumption, rfl⟩, fun i hi => fm17 i (by omega), fun j _ _ => congrFun (fm17 (r + 1) (by omega)) j, fun j hj => gm17 _ j (by omega)⟩     | exact ⟨by rw [fM95 _ (by omega), hi48.1.1 _ (by omega) (by omega), fM30 _ (by omega) (by omega) (by omega)]; exact ec, Or.inr ⟨ez, by rw [← hi48.2.2]; first | (exfalso; omega) | (rw [faF_0 (by omega)]; done) | (rw [faF_t (f := (most + 1).toNat - k) (f1 := (most + 1).toNat - (k + 1)) (by omega) (by assumption)]; done)⟩, fun i hi => by rw [fM95 i (by omega), hi48.1.1 i (by omega) (by omega), fM30 i (by omega) (by omega) (by omega)]; exact fm17 i (by omega), fun j j0 j1 => by rw [vM95, if_pos (by omega), hi48.1.2, vM43, if_pos (by omega), e30]; congr 1; omega, fun j hj => by rw [fM95 _ (by omega), hi48.1.1 _ (by omega) (by omega), fM30 _ (by omega) (by omega) (by omega)]; exact gm17 _ j (by omega)⟩⟩ (Nat.zero_le _) (Nat.zero_le _)
          · refine J_aload_n hX dX10_fullAfter_75 rfl ?_
            refine J_callVM hX _ dX10_fullAfter_76 cw_RX10_142 (m_X10_tickOnce hM hRk hWk (by omega)) ⟨(show K (r) = 9 from hM 0 (by decide)), by decide, by decide, rfl⟩ rfl (Nat.le_of_ble_eq_true rfl) (by decide) ⟨Nat.zero_le _, Nat.zero_le _⟩ (fun r9 M76 q76 => ?_)
            obtain ⟨rfl, fM76, tM76⟩ := q76
            refine J_iinc hX dX10_fullAfter_79 rfl (by decide) ?_
            refine J_goto hX 48 dX10_fullAfter_82 (by decide) ?_
            exact J_locI (ih48 (k + 1) (by omega) (by omega) _ ⟨⟨fun i i1 i2 => by rw [fM76 i i1]; exact hi48.1.1 i i1 i2, by rw [fM76 _ (by omega)]; exact hi48.1.2⟩, tM76, by rw [← hi48.2.2, faF_f (f := (most + 1).toNat - k) (f1 := (most + 1).toNat - (k + 1)) (by omega) c72]⟩) rfl
      exact J_locI (HL48 0 (Nat.zero_le _) _ ⟨⟨fun i i1 i2 => fM43 i i2, rfl⟩, by rw [e43]; exact hR, rfl⟩) rfl
    · refine J_iconst hX dX10_fullAfter_27 ?_
      exact J_iret hX hQ dX10_fullAfter_28 ⟨rfl, by first     | exact ⟨ec, Or.inl ⟨by rw [← ec]; assumption, rfl⟩, fun i hi => fm17 i (by omega), fun j _ _ => congrFun (fm17 (r + 1) (by omega)) j, fun j hj => gm17 _ j (by omega)⟩     | exact ⟨by rw [fM95 _ (by omega), hi48.1.1 _ (by omega) (by omega), fM30 _ (by omega) (by omega) (by omega)]; exact ec, Or.inr ⟨ez, by rw [← hi48.2.2]; first | (exfalso; omega) | (rw [faF_0 (by omega)]; done) | (rw [faF_t (f := (most + 1).toNat - k) (f1 := (most + 1).toNat - (k + 1)) (by omega) (by assumption)]; done)⟩, fun i hi => by rw [fM95 i (by omega), hi48.1.1 i (by omega) (by omega), fM30 i (by omega) (by omega) (by omega)]; exact fm17 i (by omega), fun j j0 j1 => by rw [vM95, if_pos (by omega), hi48.1.2, vM43, if_pos (by omega), e30]; congr 1; omega, fun j hj => by rw [fM95 _ (by omega), hi48.1.1 _ (by omega) (by omega), fM30 _ (by omega) (by omega) (by omega)]; exact gm17 _ j (by omega)⟩⟩ (Nat.zero_le _) (Nat.zero_le _)
  · refine J_iconst hX dX10_fullAfter_12 ?_
    refine J_goto hX 17 dX10_fullAfter_13 (by decide) ?_
    refine J_putA hX fw_RX10_47 dX10_fullAfter_17 (show K (r) = 9 from hM 0 (by decide)) (by omega) (Or.inl rfl) (fun m17 hm17 => ?_)
    have fm17 : ∀ i, i ≠ r → m17 i = M i := fun i h => by rw [hm17]; exact mset_ne h
    have gm17 : ∀ i j, j ≠ 6 → m17 i j = M i j := fun i j h => by rw [hm17]; exact mset_nj h
    have vm17 := (congrFun (congrFun hm17 (r)) 6).trans mset_eq
    have hRm : RS S (m17 (r + 1)) := by rw [fm17 _ (by omega)]; exact hR
    have ec : m17 r 6 = (if 0 ≤ most ∧ most ≤ 200 then 0 else 1) := vm17.trans (by (repeat' split) <;> omega)
    refine J_aload_n hX dX10_fullAfter_20 rfl ?_
    refine J_geti hX fi_RX10_47 dX10_fullAfter_21 (show K (r) = 9 from hM 0 (by decide)) (fun r21 => ?_)
    refine J_if_eq hX 29 dX10_fullAfter_24 (by omega) (by decide) (fun c24 => ?_) (fun c24 => ?_)
    · have ez : (if 0 ≤ most ∧ most ≤ 200 then 0 else 1) = (0 : Int) := by rw [← ec]; assumption
      have g1 := if_0 (by decide) ez
      refine J_aload_n hX dX10_fullAfter_29 rfl ?_
      refine J_callVM hX _ dX10_fullAfter_30 cw_RX10_210 (m_X10_places hM hRm hW) ⟨(show K (r) = 9 from hM 0 (by decide)), by decide, by decide, rfl⟩ rfl (Nat.le_of_ble_eq_true rfl) (by decide) ⟨Nat.zero_le _, Nat.zero_le _⟩ (fun r9 M30 q30 => ?_)
      obtain ⟨rfl, fM30, pM30⟩ := q30
      refine J_aload_n hX dX10_fullAfter_33 rfl ?_
      refine J_gr hX (r + 1) fr_RX10_7 dX10_fullAfter_34 (show K (r) = 9 from hM 0 (by decide)) rfl ?_
      refine J_iconst hX dX10_fullAfter_37 ?_
      refine J_aload_n hX dX10_fullAfter_38 rfl ?_
      refine J_gr hX (r + 2) fr_RX10_13 dX10_fullAfter_39 (show K (r) = 9 from hM 0 (by decide)) rfl ?_
      refine J_iconst hX dX10_fullAfter_42 ?_
      refine J_callSM hX _ dX10_fullAfter_43 cw_RX10_54 (m_X10_bring_c (show K (r + 1) = 1000 + 198 from hM 1 (by decide)) (show K (r + 2) = 1000 + 198 from hM 2 (by decide)) (by omega) (by omega) (by omega)) rfl (Nat.le_of_ble_eq_true rfl) (by decide) ⟨Nat.zero_le _, Nat.zero_le _⟩ (fun r9 M43 q43 => ?_)
      obtain ⟨rfl, fM43, vM43⟩ := q43
      have e43 : M43 (r + 1) = M (r + 1) := by rw [fM43 _ (by omega), fM30 _ (by omega) (by omega) (by omega), fm17 _ (by omega)]
      have e30 : M30 (r + 1) = M (r + 1) := by rw [fM30 _ (by omega) (by omega) (by omega), fm17 _ (by omega)]
      refine J_iconst hX dX10_fullAfter_46 ?_
      refine J_istore_n hX dX10_fullAfter_47 (by decide) ?_
      have HL48 : ∀ k : Nat, k ≤ (most + 1).toNat → ∀ (M5 : MM), (((∀ i, i ≠ r + 1 → i ≠ r + 2 → M5 i = M30 i) ∧ M5 (r + 2) = M43 (r + 2)) ∧ RS (tkSn k S) (M5 (r + 1)) ∧ faF S ((most + 1).toNat - k) k = faF S (most + 1).toNat 0) → J E X 48 [(0, .ref r), (1, vI most), (2, vI (k : Int))] [] K M5 0 0 := by
        refine up_ind ((most + 1).toNat) (fun k hk48 ih48 => ?_)
        intro M5  hi48
        have hRk := hi48.2.1
        have hWk := WFS_tkSn hW hz k (by omega)
        have sk := hWk.2.1
        unfold WFSs at sk
        have hzk : ∀ n : Int, hs (tkSn k S) n → M5 (r + 8) n = pos (tkSn k S) 6 n := fun n hn => by rw [pos_congr (tkSn_row (by decide) k) (tkSn_row (by decide) k), hi48.1.1 _ (by omega) (by omega)]; exact (pM30 n hn.1 (by have z := hn.2.1; rw [tkSn_row (by decide) k] at z; exact z)).2.2
        have z5 := hRk.1.2.2.2.2.2.1
        have z6 := hRk.1.2.2.2.2.2.2.1
        have fc : fits1 (tkSn k S) (tkSn k S 15 0) 100 (tkSn k S 11 2) (tkSn k S 11 3) = fits1 S (S 15 0) 100 (tkSn k S 11 2) (tkSn k S 11 3) := by rw [fits1_tk, tkSn_row (by decide) k]
        refine J_iload_n hX dX10_fullAfter_48 rfl ?_
        refine J_iload_n hX dX10_fullAfter_49 rfl ?_
        refine J_icmp_gt hX 85 dX10_fullAfter_50 (by omega) (by omega) (by decide) (fun c50 => ?_) (fun c50 => ?_)
        · refine J_aload_n hX dX10_fullAfter_85 rfl ?_
          refine J_gr hX (r + 2) fr_RX10_13 dX10_fullAfter_86 (show K (r) = 9 from hM 0 (by decide)) rfl ?_
          refine J_iconst hX dX10_fullAfter_89 ?_
          refine J_aload_n hX dX10_fullAfter_90 rfl ?_
          refine J_gr hX (r + 1) fr_RX10_7 dX10_fullAfter_91 (show K (r) = 9 from hM 0 (by decide)) rfl ?_
          refine J_iconst hX dX10_fullAfter_94 ?_
          refine J_callSM hX _ dX10_fullAfter_95 cw_RX10_54 (m_X10_bring_c (show K (r + 2) = 1000 + 198 from hM 2 (by decide)) (show K (r + 1) = 1000 + 198 from hM 1 (by decide)) (by omega) (by omega) (by omega)) rfl (Nat.le_of_ble_eq_true rfl) (by decide) ⟨Nat.zero_le _, Nat.zero_le _⟩ (fun r9 M95 q95 => ?_)
          obtain ⟨rfl, fM95, vM95⟩ := q95
          refine J_iload_n hX dX10_fullAfter_98 rfl ?_
          refine J_iload_n hX dX10_fullAfter_99 rfl ?_
          refine J_icmp_le hX 109 dX10_fullAfter_100 (by omega) (by omega) (by decide) (fun c100 => ?_) (fun c100 => ?_)
          · refine J_iload_n hX dX10_fullAfter_109 rfl ?_
            exact J_iret hX hQ dX10_fullAfter_110 ⟨rfl, by first     | exact ⟨ec, Or.inl ⟨by rw [← ec]; assumption, rfl⟩, fun i hi => fm17 i (by omega), fun j _ _ => congrFun (fm17 (r + 1) (by omega)) j, fun j hj => gm17 _ j (by omega)⟩     | exact ⟨by rw [fM95 _ (by omega), hi48.1.1 _ (by omega) (by omega), fM30 _ (by omega) (by omega) (by omega)]; exact ec, Or.inr ⟨ez, by rw [← hi48.2.2]; first | (exfalso; omega) | (rw [faF_0 (by omega)]; done) | (rw [faF_t (f := (most + 1).toNat - k) (f1 := (most + 1).toNat - (k + 1)) (by omega) (by assumption)]; done)⟩, fun i hi => by rw [fM95 i (by omega), hi48.1.1 i (by omega) (by omega), fM30 i (by omega) (by omega) (by omega)]; exact fm17 i (by omega), fun j j0 j1 => by rw [vM95, if_pos (by omega), hi48.1.2, vM43, if_pos (by omega), e30]; congr 1; omega, fun j hj => by rw [fM95 _ (by omega), hi48.1.1 _ (by omega) (by omega), fM30 _ (by omega) (by omega) (by omega)]; exact gm17 _ j (by omega)⟩⟩ (Nat.zero_le _) (Nat.zero_le _)
          · refine J_sipush hX dX10_fullAfter_103 rfl ?_
            refine J_goto hX 110 dX10_fullAfter_106 (by decide) ?_
            exact J_iret hX hQ dX10_fullAfter_110 ⟨rfl, by first     | exact ⟨ec, Or.inl ⟨by rw [← ec]; assumption, rfl⟩, fun i hi => fm17 i (by omega), fun j _ _ => congrFun (fm17 (r + 1) (by omega)) j, fun j hj => gm17 _ j (by omega)⟩     | exact ⟨by rw [fM95 _ (by omega), hi48.1.1 _ (by omega) (by omega), fM30 _ (by omega) (by omega) (by omega)]; exact ec, Or.inr ⟨ez, by rw [← hi48.2.2]; first | (exfalso; omega) | (rw [faF_0 (by omega)]; done) | (rw [faF_t (f := (most + 1).toNat - k) (f1 := (most + 1).toNat - (k + 1)) (by omega) (by assumption)]; done)⟩, fun i hi => by rw [fM95 i (by omega), hi48.1.1 i (by omega) (by omega), fM30 i (by omega) (by omega) (by omega)]; exact fm17 i (by omega), fun j j0 j1 => by rw [vM95, if_pos (by omega), hi48.1.2, vM43, if_pos (by omega), e30]; congr 1; omega, fun j hj => by rw [fM95 _ (by omega), hi48.1.1 _ (by omega) (by omega), fM30 _ (by omega) (by omega) (by omega)]; exact gm17 _ j (by omega)⟩⟩ (Nat.zero_le _) (Nat.zero_le _)
        · refine J_aload_n hX dX10_fullAfter_53 rfl ?_
          refine J_bipush hX dX10_fullAfter_54 rfl ?_
          refine J_aload_n hX dX10_fullAfter_56 rfl ?_
          refine J_gr hX (r + 1) fr_RX10_7 dX10_fullAfter_57 (show K (r) = 9 from hM 0 (by decide)) rfl ?_
          refine J_iconst hX dX10_fullAfter_60 ?_
          refine J_iald hX dX10_fullAfter_61 (show K (r + 1) = 1000 + 198 from hM 1 (by decide)) ⟨by omega, by omega⟩ (by decide) (fun r61 => ?_)
          refine J_aload_n hX dX10_fullAfter_62 rfl ?_
          refine J_gr hX (r + 1) fr_RX10_7 dX10_fullAfter_63 (show K (r) = 9 from hM 0 (by decide)) rfl ?_
          refine J_bipush hX dX10_fullAfter_66 rfl ?_
          refine J_iald hX dX10_fullAfter_68 (show K (r + 1) = 1000 + 198 from hM 1 (by decide)) ⟨by omega, by omega⟩ (by decide) (fun r68 => ?_)
          rw [z5, z6]
          refine J_callVB hX _ dX10_fullAfter_69 cw_RX10_157 (m_X10_fits hM hRk hWk (by decide) (by omega) (by omega) hzk) ⟨(show K (r) = 9 from hM 0 (by decide)), by decide, by decide, rfl⟩ rfl (Nat.le_of_ble_eq_true rfl) (by decide) ⟨Nat.zero_le _, Nat.zero_le _⟩ ?_
          rw [fc]
          refine J_ifb_ne hX 85 dX10_fullAfter_72 (by decide) (fun c72 => ?_) (fun c72 => ?_)
          · refine J_aload_n hX dX10_fullAfter_85 rfl ?_
            refine J_gr hX (r + 2) fr_RX10_13 dX10_fullAfter_86 (show K (r) = 9 from hM 0 (by decide)) rfl ?_
            refine J_iconst hX dX10_fullAfter_89 ?_
            refine J_aload_n hX dX10_fullAfter_90 rfl ?_
            refine J_gr hX (r + 1) fr_RX10_7 dX10_fullAfter_91 (show K (r) = 9 from hM 0 (by decide)) rfl ?_
            refine J_iconst hX dX10_fullAfter_94 ?_
            refine J_callSM hX _ dX10_fullAfter_95 cw_RX10_54 (m_X10_bring_c (show K (r + 2) = 1000 + 198 from hM 2 (by decide)) (show K (r + 1) = 1000 + 198 from hM 1 (by decide)) (by omega) (by omega) (by omega)) rfl (Nat.le_of_ble_eq_true rfl) (by decide) ⟨Nat.zero_le _, Nat.zero_le _⟩ (fun r9 M95 q95 => ?_)
            obtain ⟨rfl, fM95, vM95⟩ := q95
            refine J_iload_n hX dX10_fullAfter_98 rfl ?_
            refine J_iload_n hX dX10_fullAfter_99 rfl ?_
            refine J_icmp_le hX 109 dX10_fullAfter_100 (by omega) (by omega) (by decide) (fun c100 => ?_) (fun c100 => ?_)
            · refine J_iload_n hX dX10_fullAfter_109 rfl ?_
              exact J_iret hX hQ dX10_fullAfter_110 ⟨rfl, by first     | exact ⟨ec, Or.inl ⟨by rw [← ec]; assumption, rfl⟩, fun i hi => fm17 i (by omega), fun j _ _ => congrFun (fm17 (r + 1) (by omega)) j, fun j hj => gm17 _ j (by omega)⟩     | exact ⟨by rw [fM95 _ (by omega), hi48.1.1 _ (by omega) (by omega), fM30 _ (by omega) (by omega) (by omega)]; exact ec, Or.inr ⟨ez, by rw [← hi48.2.2]; first | (exfalso; omega) | (rw [faF_0 (by omega)]; done) | (rw [faF_t (f := (most + 1).toNat - k) (f1 := (most + 1).toNat - (k + 1)) (by omega) (by assumption)]; done)⟩, fun i hi => by rw [fM95 i (by omega), hi48.1.1 i (by omega) (by omega), fM30 i (by omega) (by omega) (by omega)]; exact fm17 i (by omega), fun j j0 j1 => by rw [vM95, if_pos (by omega), hi48.1.2, vM43, if_pos (by omega), e30]; congr 1; omega, fun j hj => by rw [fM95 _ (by omega), hi48.1.1 _ (by omega) (by omega), fM30 _ (by omega) (by omega) (by omega)]; exact gm17 _ j (by omega)⟩⟩ (Nat.zero_le _) (Nat.zero_le _)
            · refine J_sipush hX dX10_fullAfter_103 rfl ?_
              refine J_goto hX 110 dX10_fullAfter_106 (by decide) ?_
              exact J_iret hX hQ dX10_fullAfter_110 ⟨rfl, by first     | exact ⟨ec, Or.inl ⟨by rw [← ec]; assumption, rfl⟩, fun i hi => fm17 i (by omega), fun j _ _ => congrFun (fm17 (r + 1) (by omega)) j, fun j hj => gm17 _ j (by omega)⟩     | exact ⟨by rw [fM95 _ (by omega), hi48.1.1 _ (by omega) (by omega), fM30 _ (by omega) (by omega) (by omega)]; exact ec, Or.inr ⟨ez, by rw [← hi48.2.2]; first | (exfalso; omega) | (rw [faF_0 (by omega)]; done) | (rw [faF_t (f := (most + 1).toNat - k) (f1 := (most + 1).toNat - (k + 1)) (by omega) (by assumption)]; done)⟩, fun i hi => by rw [fM95 i (by omega), hi48.1.1 i (by omega) (by omega), fM30 i (by omega) (by omega) (by omega)]; exact fm17 i (by omega), fun j j0 j1 => by rw [vM95, if_pos (by omega), hi48.1.2, vM43, if_pos (by omega), e30]; congr 1; omega, fun j hj => by rw [fM95 _ (by omega), hi48.1.1 _ (by omega) (by omega), fM30 _ (by omega) (by omega) (by omega)]; exact gm17 _ j (by omega)⟩⟩ (Nat.zero_le _) (Nat.zero_le _)
          · refine J_aload_n hX dX10_fullAfter_75 rfl ?_
            refine J_callVM hX _ dX10_fullAfter_76 cw_RX10_142 (m_X10_tickOnce hM hRk hWk (by omega)) ⟨(show K (r) = 9 from hM 0 (by decide)), by decide, by decide, rfl⟩ rfl (Nat.le_of_ble_eq_true rfl) (by decide) ⟨Nat.zero_le _, Nat.zero_le _⟩ (fun r9 M76 q76 => ?_)
            obtain ⟨rfl, fM76, tM76⟩ := q76
            refine J_iinc hX dX10_fullAfter_79 rfl (by decide) ?_
            refine J_goto hX 48 dX10_fullAfter_82 (by decide) ?_
            exact J_locI (ih48 (k + 1) (by omega) (by omega) _ ⟨⟨fun i i1 i2 => by rw [fM76 i i1]; exact hi48.1.1 i i1 i2, by rw [fM76 _ (by omega)]; exact hi48.1.2⟩, tM76, by rw [← hi48.2.2, faF_f (f := (most + 1).toNat - k) (f1 := (most + 1).toNat - (k + 1)) (by omega) c72]⟩) rfl
      exact J_locI (HL48 0 (Nat.zero_le _) _ ⟨⟨fun i i1 i2 => fM43 i i2, rfl⟩, by rw [e43]; exact hR, rfl⟩) rfl
    · refine J_iconst hX dX10_fullAfter_27 ?_
      exact J_iret hX hQ dX10_fullAfter_28 ⟨rfl, by first     | exact ⟨ec, Or.inl ⟨by rw [← ec]; assumption, rfl⟩, fun i hi => fm17 i (by omega), fun j _ _ => congrFun (fm17 (r + 1) (by omega)) j, fun j hj => gm17 _ j (by omega)⟩     | exact ⟨by rw [fM95 _ (by omega), hi48.1.1 _ (by omega) (by omega), fM30 _ (by omega) (by omega) (by omega)]; exact ec, Or.inr ⟨ez, by rw [← hi48.2.2]; first | (exfalso; omega) | (rw [faF_0 (by omega)]; done) | (rw [faF_t (f := (most + 1).toNat - k) (f1 := (most + 1).toNat - (k + 1)) (by omega) (by assumption)]; done)⟩, fun i hi => by rw [fM95 i (by omega), hi48.1.1 i (by omega) (by omega), fM30 i (by omega) (by omega) (by omega)]; exact fm17 i (by omega), fun j j0 j1 => by rw [vM95, if_pos (by omega), hi48.1.2, vM43, if_pos (by omega), e30]; congr 1; omega, fun j hj => by rw [fM95 _ (by omega), hi48.1.1 _ (by omega) (by omega), fM30 _ (by omega) (by omega) (by omega)]; exact gm17 _ j (by omega)⟩⟩ (Nat.zero_le _) (Nat.zero_le _)
-- X10_ghostsWithout
set_option maxHeartbeats 4000000 in
set_option maxRecDepth 100000 in
theorem m_X10_ghostsWithout {E : EE} {K : Nat → Nat} {M : MM} {r : Nat} {T : Int} {S : MM} {n least : Int} {S2 : MM} (hM : ModelK K r) (hR : RS S (M (r + 1))) (hW : WFS T S) (hn : i32 n) (hle : i32 least) (hD : (if ¬ hs S n then 1 else if 1 ≤ least ∧ least ≤ 15 then 0 else 2) = (0 : Int) → Drd S S2 n) : CnM E 8 yX10_ghostsWithout cX10_ghostsWithout 5 (Option.some FieldType.int) [.ref r, vI n, vI least] K M (fun r9 M2 => VlM M r (if ¬ hs S n then 1 else if 1 ≤ least ∧ least ≤ 15 then 0 else 2) (gall S2 least) r9 M2) := by
  obtain ⟨⟨rs0, rs1, rs2, rs3, rs4, rs5, rs6, rs7, rs8, rs9, rs10, rs13⟩, rst, rsn, rsc⟩ := id hR
  have hs9 := hW.2.1
  unfold WFSs at hs9
  refine Cn_of RX10 (plainFor_of_name (by decide)) rfl (Nat.le_of_ble_eq_true rfl) (fun X hX hQ => ?_)
  refine J_aload_n hX dX10_ghostsWithout_0 rfl ?_
  refine J_aload_n hX dX10_ghostsWithout_1 rfl ?_
  refine J_iload_n hX dX10_ghostsWithout_2 rfl ?_
  refine J_callVB hX _ dX10_ghostsWithout_3 cw_RX10_75 (m_X10_isNode hM hR hW (by omega)) ⟨(show K (r) = 9 from hM 0 (by decide)), by decide, by decide, rfl⟩ rfl (Nat.le_of_ble_eq_true rfl) (by decide) ⟨Nat.zero_le _, Nat.zero_le _⟩ ?_
  refine J_ifb_ne hX 13 dX10_ghostsWithout_6 (by decide) (fun c6 => ?_) (fun c6 => ?_)
  · refine J_iload_n hX dX10_ghostsWithout_13 rfl ?_
    refine J_iconst hX dX10_ghostsWithout_14 ?_
    refine J_bipush hX dX10_ghostsWithout_15 rfl ?_
    refine J_callSB hX _ dX10_ghostsWithout_17 cw_RX10_58 (m_X10_in (by omega) (by omega) (by omega)) rfl (Nat.le_of_ble_eq_true rfl) (by decide) ⟨Nat.zero_le _, Nat.zero_le _⟩ ?_
    refine J_ifb_eq hX 27 dX10_ghostsWithout_20 (by decide) (fun c20 => ?_) (fun c20 => ?_)
    · refine J_iconst hX dX10_ghostsWithout_27 ?_
      refine J_putA hX fw_RX10_47 dX10_ghostsWithout_28 (show K (r) = 9 from hM 0 (by decide)) (by omega) (Or.inl rfl) (fun m28 hm28 => ?_)
      have fm28 : ∀ i, i ≠ r → m28 i = M i := fun i h => by rw [hm28]; exact mset_ne h
      have gm28 : ∀ i j, j ≠ 6 → m28 i j = M i j := fun i j h => by rw [hm28]; exact mset_nj h
      have vm28 := (congrFun (congrFun hm28 (r)) 6).trans mset_eq
      have hRm : RS S (m28 (r + 1)) := by rw [fm28 _ (by omega)]; exact hR
      have ec : m28 r 6 = (if ¬ hs S n then 1 else if 1 ≤ least ∧ least ≤ 15 then 0 else 2) := vm28.trans (by (repeat' split) <;> omega)
      refine J_aload_n hX dX10_ghostsWithout_31 rfl ?_
      refine J_geti hX fi_RX10_47 dX10_ghostsWithout_32 (show K (r) = 9 from hM 0 (by decide)) (fun r32 => ?_)
      refine J_if_eq hX 40 dX10_ghostsWithout_35 (by omega) (by decide) (fun c35 => ?_) (fun c35 => ?_)
      · have ez : (if ¬ hs S n then 1 else if 1 ≤ least ∧ least ≤ 15 then 0 else 2) = (0 : Int) := by rw [← ec]; assumption
        have g0 : hs S n := by by_cases q : hs S n; exact q; (rw [if_pos q] at ez; omega)
        have g1 : 1 ≤ least ∧ least ≤ 15 := by rw [if_neg (fun q => q g0)] at ez; exact if_0 (by decide) ez
        refine J_aload_n hX dX10_ghostsWithout_40 rfl ?_
        refine J_gr hX (r + 1) fr_RX10_7 dX10_ghostsWithout_41 (show K (r) = 9 from hM 0 (by decide)) rfl ?_
        refine J_iconst hX dX10_ghostsWithout_44 ?_
        refine J_aload_n hX dX10_ghostsWithout_45 rfl ?_
        refine J_gr hX (r + 2) fr_RX10_13 dX10_ghostsWithout_46 (show K (r) = 9 from hM 0 (by decide)) rfl ?_
        refine J_iconst hX dX10_ghostsWithout_49 ?_
        refine J_callSM hX _ dX10_ghostsWithout_50 cw_RX10_54 (m_X10_bring_c (show K (r + 1) = 1000 + 198 from hM 1 (by decide)) (show K (r + 2) = 1000 + 198 from hM 2 (by decide)) (by omega) (by omega) (by omega)) rfl (Nat.le_of_ble_eq_true rfl) (by decide) ⟨Nat.zero_le _, Nat.zero_le _⟩ (fun r9 M50 q50 => ?_)
        obtain ⟨rfl, fM50, vM50⟩ := q50
        have hRa : RS S (M50 (r + 1)) := by rw [fM50 _ (by omega)]; exact hRm
        refine J_aload_n hX dX10_ghostsWithout_53 rfl ?_
        refine J_iload_n hX dX10_ghostsWithout_54 rfl ?_
        refine J_callVM hX _ dX10_ghostsWithout_55 cw_RX10_113 (m_X10_removes hM hRa hW g0) ⟨(show K (r) = 9 from hM 0 (by decide)), by decide, by decide, rfl⟩ rfl (Nat.le_of_ble_eq_true rfl) (by decide) ⟨Nat.zero_le _, Nat.zero_le _⟩ (fun r9 M55 q55 => ?_)
        obtain ⟨rfl, fM55, dM55⟩ := q55
        have hRz := dM55 S2 (hD ez)
        have hWz := WFS_drop hW (hD ez)
        refine J_istore_n hX dX10_ghostsWithout_58 (by decide) ?_
        refine J_aload_n hX dX10_ghostsWithout_59 rfl ?_
        refine J_iload_n hX dX10_ghostsWithout_60 rfl ?_
        refine J_callVM hX _ dX10_ghostsWithout_61 cw_RX10_267 (m_X10_ghostsNow hM hRz hWz (by omega)) ⟨(show K (r) = 9 from hM 0 (by decide)), by decide, by decide, rfl⟩ rfl (Nat.le_of_ble_eq_true rfl) (by decide) ⟨Nat.zero_le _, Nat.zero_le _⟩ (fun r9 M61 q61 => ?_)
        obtain ⟨rfl, frM61, grM61, svM61⟩ := q61
        refine J_istore hX dX10_ghostsWithout_64 (by decide) ?_
        refine J_aload_n hX dX10_ghostsWithout_66 rfl ?_
        refine J_gr hX (r + 2) fr_RX10_13 dX10_ghostsWithout_67 (show K (r) = 9 from hM 0 (by decide)) rfl ?_
        refine J_iconst hX dX10_ghostsWithout_70 ?_
        refine J_aload_n hX dX10_ghostsWithout_71 rfl ?_
        refine J_gr hX (r + 1) fr_RX10_7 dX10_ghostsWithout_72 (show K (r) = 9 from hM 0 (by decide)) rfl ?_
        refine J_iconst hX dX10_ghostsWithout_75 ?_
        refine J_callSM hX _ dX10_ghostsWithout_76 cw_RX10_54 (m_X10_bring_c (show K (r + 2) = 1000 + 198 from hM 2 (by decide)) (show K (r + 1) = 1000 + 198 from hM 1 (by decide)) (by omega) (by omega) (by omega)) rfl (Nat.le_of_ble_eq_true rfl) (by decide) ⟨Nat.zero_le _, Nat.zero_le _⟩ (fun r9 M76 q76 => ?_)
        obtain ⟨rfl, fM76, vM76⟩ := q76
        refine J_iload hX dX10_ghostsWithout_79 rfl ?_
        exact J_iret hX hQ dX10_ghostsWithout_81 ⟨rfl, by first | exact ⟨ec, Or.inl ⟨by rw [← ec]; assumption, rfl⟩, fun i hi => fm28 i (by omega), fun j _ _ => congrFun (fm28 (r + 1) (by omega)) j, fun j hj => gm28 _ j (by omega)⟩ | exact ⟨by rw [fM76 _ (by omega), grM61 6 (by decide), fM55 _ (by omega) (by omega), fM50 _ (by omega)]; exact ec, Or.inr ⟨ez, rfl⟩, fun i hi => by rw [fM76 i (by omega), frM61 i (by omega) (by omega), fM55 i (by omega) (by omega), fM50 i (by omega)]; exact fm28 i (by omega), fun j j0 j1 => by rw [vM76, if_pos (by omega), frM61 _ (by omega) (by omega), fM55 _ (by omega) (by omega), vM50, if_pos (by omega), fm28 _ (by omega)]; congr 1; omega, fun j hj => by rw [fM76 _ (by omega), grM61 j (by omega), fM55 _ (by omega) (by omega), fM50 _ (by omega)]; exact gm28 _ j (by omega)⟩⟩ (Nat.zero_le _) (Nat.zero_le _)
      · refine J_iconst hX dX10_ghostsWithout_38 ?_
        exact J_iret hX hQ dX10_ghostsWithout_39 ⟨rfl, by first | exact ⟨ec, Or.inl ⟨by rw [← ec]; assumption, rfl⟩, fun i hi => fm28 i (by omega), fun j _ _ => congrFun (fm28 (r + 1) (by omega)) j, fun j hj => gm28 _ j (by omega)⟩ | exact ⟨by rw [fM76 _ (by omega), grM61 6 (by decide), fM55 _ (by omega) (by omega), fM50 _ (by omega)]; exact ec, Or.inr ⟨ez, rfl⟩, fun i hi => by rw [fM76 i (by omega), frM61 i (by omega) (by omega), fM55 i (by omega) (by omega), fM50 i (by omega)]; exact fm28 i (by omega), fun j j0 j1 => by rw [vM76, if_pos (by omega), frM61 _ (by omega) (by omega), fM55 _ (by omega) (by omega), vM50, if_pos (by omega), fm28 _ (by omega)]; congr 1; omega, fun j hj => by rw [fM76 _ (by omega), grM61 j (by omega), fM55 _ (by omega) (by omega), fM50 _ (by omega)]; exact gm28 _ j (by omega)⟩⟩ (Nat.zero_le _) (Nat.zero_le _)
    · refine J_iconst hX dX10_ghostsWithout_23 ?_
      refine J_goto hX 28 dX10_ghostsWithout_24 (by decide) ?_
      refine J_putA hX fw_RX10_47 dX10_ghostsWithout_28 (show K (r) = 9 from hM 0 (by decide)) (by omega) (Or.inl rfl) (fun m28 hm28 => ?_)
      have fm28 : ∀ i, i ≠ r → m28 i = M i := fun i h => by rw [hm28]; exact mset_ne h
      have gm28 : ∀ i j, j ≠ 6 → m28 i j = M i j := fun i j h => by rw [hm28]; exact mset_nj h
      have vm28 := (congrFun (congrFun hm28 (r)) 6).trans mset_eq
      have hRm : RS S (m28 (r + 1)) := by rw [fm28 _ (by omega)]; exact hR
      have ec : m28 r 6 = (if ¬ hs S n then 1 else if 1 ≤ least ∧ least ≤ 15 then 0 else 2) := vm28.trans (by (repeat' split) <;> omega)
      refine J_aload_n hX dX10_ghostsWithout_31 rfl ?_
      refine J_geti hX fi_RX10_47 dX10_ghostsWithout_32 (show K (r) = 9 from hM 0 (by decide)) (fun r32 => ?_)
      refine J_if_eq hX 40 dX10_ghostsWithout_35 (by omega) (by decide) (fun c35 => ?_) (fun c35 => ?_)
      · have ez : (if ¬ hs S n then 1 else if 1 ≤ least ∧ least ≤ 15 then 0 else 2) = (0 : Int) := by rw [← ec]; assumption
        have g0 : hs S n := by by_cases q : hs S n; exact q; (rw [if_pos q] at ez; omega)
        have g1 : 1 ≤ least ∧ least ≤ 15 := by rw [if_neg (fun q => q g0)] at ez; exact if_0 (by decide) ez
        refine J_aload_n hX dX10_ghostsWithout_40 rfl ?_
        refine J_gr hX (r + 1) fr_RX10_7 dX10_ghostsWithout_41 (show K (r) = 9 from hM 0 (by decide)) rfl ?_
        refine J_iconst hX dX10_ghostsWithout_44 ?_
        refine J_aload_n hX dX10_ghostsWithout_45 rfl ?_
        refine J_gr hX (r + 2) fr_RX10_13 dX10_ghostsWithout_46 (show K (r) = 9 from hM 0 (by decide)) rfl ?_
        refine J_iconst hX dX10_ghostsWithout_49 ?_
        refine J_callSM hX _ dX10_ghostsWithout_50 cw_RX10_54 (m_X10_bring_c (show K (r + 1) = 1000 + 198 from hM 1 (by decide)) (show K (r + 2) = 1000 + 198 from hM 2 (by decide)) (by omega) (by omega) (by omega)) rfl (Nat.le_of_ble_eq_true rfl) (by decide) ⟨Nat.zero_le _, Nat.zero_le _⟩ (fun r9 M50 q50 => ?_)
        obtain ⟨rfl, fM50, vM50⟩ := q50
        have hRa : RS S (M50 (r + 1)) := by rw [fM50 _ (by omega)]; exact hRm
        refine J_aload_n hX dX10_ghostsWithout_53 rfl ?_
        refine J_iload_n hX dX10_ghostsWithout_54 rfl ?_
        refine J_callVM hX _ dX10_ghostsWithout_55 cw_RX10_113 (m_X10_removes hM hRa hW g0) ⟨(show K (r) = 9 from hM 0 (by decide)), by decide, by decide, rfl⟩ rfl (Nat.le_of_ble_eq_true rfl) (by decide) ⟨Nat.zero_le _, Nat.zero_le _⟩ (fun r9 M55 q55 => ?_)
        obtain ⟨rfl, fM55, dM55⟩ := q55
        have hRz := dM55 S2 (hD ez)
        have hWz := WFS_drop hW (hD ez)
        refine J_istore_n hX dX10_ghostsWithout_58 (by decide) ?_
        refine J_aload_n hX dX10_ghostsWithout_59 rfl ?_
        refine J_iload_n hX dX10_ghostsWithout_60 rfl ?_
        refine J_callVM hX _ dX10_ghostsWithout_61 cw_RX10_267 (m_X10_ghostsNow hM hRz hWz (by omega)) ⟨(show K (r) = 9 from hM 0 (by decide)), by decide, by decide, rfl⟩ rfl (Nat.le_of_ble_eq_true rfl) (by decide) ⟨Nat.zero_le _, Nat.zero_le _⟩ (fun r9 M61 q61 => ?_)
        obtain ⟨rfl, frM61, grM61, svM61⟩ := q61
        refine J_istore hX dX10_ghostsWithout_64 (by decide) ?_
        refine J_aload_n hX dX10_ghostsWithout_66 rfl ?_
        refine J_gr hX (r + 2) fr_RX10_13 dX10_ghostsWithout_67 (show K (r) = 9 from hM 0 (by decide)) rfl ?_
        refine J_iconst hX dX10_ghostsWithout_70 ?_
        refine J_aload_n hX dX10_ghostsWithout_71 rfl ?_
        refine J_gr hX (r + 1) fr_RX10_7 dX10_ghostsWithout_72 (show K (r) = 9 from hM 0 (by decide)) rfl ?_
        refine J_iconst hX dX10_ghostsWithout_75 ?_
        refine J_callSM hX _ dX10_ghostsWithout_76 cw_RX10_54 (m_X10_bring_c (show K (r + 2) = 1000 + 198 from hM 2 (by decide)) (show K (r + 1) = 1000 + 198 from hM 1 (by decide)) (by omega) (by omega) (by omega)) rfl (Nat.le_of_ble_eq_true rfl) (by decide) ⟨Nat.zero_le _, Nat.zero_le _⟩ (fun r9 M76 q76 => ?_)
        obtain ⟨rfl, fM76, vM76⟩ := q76
        refine J_iload hX dX10_ghostsWithout_79 rfl ?_
        exact J_iret hX hQ dX10_ghostsWithout_81 ⟨rfl, by first | exact ⟨ec, Or.inl ⟨by rw [← ec]; assumption, rfl⟩, fun i hi => fm28 i (by omega), fun j _ _ => congrFun (fm28 (r + 1) (by omega)) j, fun j hj => gm28 _ j (by omega)⟩ | exact ⟨by rw [fM76 _ (by omega), grM61 6 (by decide), fM55 _ (by omega) (by omega), fM50 _ (by omega)]; exact ec, Or.inr ⟨ez, rfl⟩, fun i hi => by rw [fM76 i (by omega), frM61 i (by omega) (by omega), fM55 i (by omega) (by omega), fM50 i (by omega)]; exact fm28 i (by omega), fun j j0 j1 => by rw [vM76, if_pos (by omega), frM61 _ (by omega) (by omega), fM55 _ (by omega) (by omega), vM50, if_pos (by omega), fm28 _ (by omega)]; congr 1; omega, fun j hj => by rw [fM76 _ (by omega), grM61 j (by omega), fM55 _ (by omega) (by omega), fM50 _ (by omega)]; exact gm28 _ j (by omega)⟩⟩ (Nat.zero_le _) (Nat.zero_le _)
      · refine J_iconst hX dX10_ghostsWithout_38 ?_
        exact J_iret hX hQ dX10_ghostsWithout_39 ⟨rfl, by first | exact ⟨ec, Or.inl ⟨by rw [← ec]; assumption, rfl⟩, fun i hi => fm28 i (by omega), fun j _ _ => congrFun (fm28 (r + 1) (by omega)) j, fun j hj => gm28 _ j (by omega)⟩ | exact ⟨by rw [fM76 _ (by omega), grM61 6 (by decide), fM55 _ (by omega) (by omega), fM50 _ (by omega)]; exact ec, Or.inr ⟨ez, rfl⟩, fun i hi => by rw [fM76 i (by omega), frM61 i (by omega) (by omega), fM55 i (by omega) (by omega), fM50 i (by omega)]; exact fm28 i (by omega), fun j j0 j1 => by rw [vM76, if_pos (by omega), frM61 _ (by omega) (by omega), fM55 _ (by omega) (by omega), vM50, if_pos (by omega), fm28 _ (by omega)]; congr 1; omega, fun j hj => by rw [fM76 _ (by omega), grM61 j (by omega), fM55 _ (by omega) (by omega), fM50 _ (by omega)]; exact gm28 _ j (by omega)⟩⟩ (Nat.zero_le _) (Nat.zero_le _)
  · refine J_iconst hX dX10_ghostsWithout_9 ?_
    refine J_goto hX 28 dX10_ghostsWithout_10 (by decide) ?_
    refine J_putA hX fw_RX10_47 dX10_ghostsWithout_28 (show K (r) = 9 from hM 0 (by decide)) (by omega) (Or.inl rfl) (fun m28 hm28 => ?_)
    have fm28 : ∀ i, i ≠ r → m28 i = M i := fun i h => by rw [hm28]; exact mset_ne h
    have gm28 : ∀ i j, j ≠ 6 → m28 i j = M i j := fun i j h => by rw [hm28]; exact mset_nj h
    have vm28 := (congrFun (congrFun hm28 (r)) 6).trans mset_eq
    have hRm : RS S (m28 (r + 1)) := by rw [fm28 _ (by omega)]; exact hR
    have ec : m28 r 6 = (if ¬ hs S n then 1 else if 1 ≤ least ∧ least ≤ 15 then 0 else 2) := vm28.trans (by (repeat' split) <;> omega)
    refine J_aload_n hX dX10_ghostsWithout_31 rfl ?_
    refine J_geti hX fi_RX10_47 dX10_ghostsWithout_32 (show K (r) = 9 from hM 0 (by decide)) (fun r32 => ?_)
    refine J_if_eq hX 40 dX10_ghostsWithout_35 (by omega) (by decide) (fun c35 => ?_) (fun c35 => ?_)
    · have ez : (if ¬ hs S n then 1 else if 1 ≤ least ∧ least ≤ 15 then 0 else 2) = (0 : Int) := by rw [← ec]; assumption
      have g0 : hs S n := by by_cases q : hs S n; exact q; (rw [if_pos q] at ez; omega)
      have g1 : 1 ≤ least ∧ least ≤ 15 := by rw [if_neg (fun q => q g0)] at ez; exact if_0 (by decide) ez
      refine J_aload_n hX dX10_ghostsWithout_40 rfl ?_
      refine J_gr hX (r + 1) fr_RX10_7 dX10_ghostsWithout_41 (show K (r) = 9 from hM 0 (by decide)) rfl ?_
      refine J_iconst hX dX10_ghostsWithout_44 ?_
      refine J_aload_n hX dX10_ghostsWithout_45 rfl ?_
      refine J_gr hX (r + 2) fr_RX10_13 dX10_ghostsWithout_46 (show K (r) = 9 from hM 0 (by decide)) rfl ?_
      refine J_iconst hX dX10_ghostsWithout_49 ?_
      refine J_callSM hX _ dX10_ghostsWithout_50 cw_RX10_54 (m_X10_bring_c (show K (r + 1) = 1000 + 198 from hM 1 (by decide)) (show K (r + 2) = 1000 + 198 from hM 2 (by decide)) (by omega) (by omega) (by omega)) rfl (Nat.le_of_ble_eq_true rfl) (by decide) ⟨Nat.zero_le _, Nat.zero_le _⟩ (fun r9 M50 q50 => ?_)
      obtain ⟨rfl, fM50, vM50⟩ := q50
      have hRa : RS S (M50 (r + 1)) := by rw [fM50 _ (by omega)]; exact hRm
      refine J_aload_n hX dX10_ghostsWithout_53 rfl ?_
      refine J_iload_n hX dX10_ghostsWithout_54 rfl ?_
      refine J_callVM hX _ dX10_ghostsWithout_55 cw_RX10_113 (m_X10_removes hM hRa hW g0) ⟨(show K (r) = 9 from hM 0 (by decide)), by decide, by decide, rfl⟩ rfl (Nat.le_of_ble_eq_true rfl) (by decide) ⟨Nat.zero_le _, Nat.zero_le _⟩ (fun r9 M55 q55 => ?_)
      obtain ⟨rfl, fM55, dM55⟩ := q55
      have hRz := dM55 S2 (hD ez)
      have hWz := WFS_drop hW (hD ez)
      refine J_istore_n hX dX10_ghostsWithout_58 (by decide) ?_
      refine J_aload_n hX dX10_ghostsWithout_59 rfl ?_
      refine J_iload_n hX dX10_ghostsWithout_60 rfl ?_
      refine J_callVM hX _ dX10_ghostsWithout_61 cw_RX10_267 (m_X10_ghostsNow hM hRz hWz (by omega)) ⟨(show K (r) = 9 from hM 0 (by decide)), by decide, by decide, rfl⟩ rfl (Nat.le_of_ble_eq_true rfl) (by decide) ⟨Nat.zero_le _, Nat.zero_le _⟩ (fun r9 M61 q61 => ?_)
      obtain ⟨rfl, frM61, grM61, svM61⟩ := q61
      refine J_istore hX dX10_ghostsWithout_64 (by decide) ?_
      refine J_aload_n hX dX10_ghostsWithout_66 rfl ?_
      refine J_gr hX (r + 2) fr_RX10_13 dX10_ghostsWithout_67 (show K (r) = 9 from hM 0 (by decide)) rfl ?_
      refine J_iconst hX dX10_ghostsWithout_70 ?_
      refine J_aload_n hX dX10_ghostsWithout_71 rfl ?_
      refine J_gr hX (r + 1) fr_RX10_7 dX10_ghostsWithout_72 (show K (r) = 9 from hM 0 (by decide)) rfl ?_
      refine J_iconst hX dX10_ghostsWithout_75 ?_
      refine J_callSM hX _ dX10_ghostsWithout_76 cw_RX10_54 (m_X10_bring_c (show K (r + 2) = 1000 + 198 from hM 2 (by decide)) (show K (r + 1) = 1000 + 198 from hM 1 (by decide)) (by omega) (by omega) (by omega)) rfl (Nat.le_of_ble_eq_true rfl) (by decide) ⟨Nat.zero_le _, Nat.zero_le _⟩ (fun r9 M76 q76 => ?_)
      obtain ⟨rfl, fM76, vM76⟩ := q76
      refine J_iload hX dX10_ghostsWithout_79 rfl ?_
      exact J_iret hX hQ dX10_ghostsWithout_81 ⟨rfl, by first | exact ⟨ec, Or.inl ⟨by rw [← ec]; assumption, rfl⟩, fun i hi => fm28 i (by omega), fun j _ _ => congrFun (fm28 (r + 1) (by omega)) j, fun j hj => gm28 _ j (by omega)⟩ | exact ⟨by rw [fM76 _ (by omega), grM61 6 (by decide), fM55 _ (by omega) (by omega), fM50 _ (by omega)]; exact ec, Or.inr ⟨ez, rfl⟩, fun i hi => by rw [fM76 i (by omega), frM61 i (by omega) (by omega), fM55 i (by omega) (by omega), fM50 i (by omega)]; exact fm28 i (by omega), fun j j0 j1 => by rw [vM76, if_pos (by omega), frM61 _ (by omega) (by omega), fM55 _ (by omega) (by omega), vM50, if_pos (by omega), fm28 _ (by omega)]; congr 1; omega, fun j hj => by rw [fM76 _ (by omega), grM61 j (by omega), fM55 _ (by omega) (by omega), fM50 _ (by omega)]; exact gm28 _ j (by omega)⟩⟩ (Nat.zero_le _) (Nat.zero_le _)
    · refine J_iconst hX dX10_ghostsWithout_38 ?_
      exact J_iret hX hQ dX10_ghostsWithout_39 ⟨rfl, by first | exact ⟨ec, Or.inl ⟨by rw [← ec]; assumption, rfl⟩, fun i hi => fm28 i (by omega), fun j _ _ => congrFun (fm28 (r + 1) (by omega)) j, fun j hj => gm28 _ j (by omega)⟩ | exact ⟨by rw [fM76 _ (by omega), grM61 6 (by decide), fM55 _ (by omega) (by omega), fM50 _ (by omega)]; exact ec, Or.inr ⟨ez, rfl⟩, fun i hi => by rw [fM76 i (by omega), frM61 i (by omega) (by omega), fM55 i (by omega) (by omega), fM50 i (by omega)]; exact fm28 i (by omega), fun j j0 j1 => by rw [vM76, if_pos (by omega), frM61 _ (by omega) (by omega), fM55 _ (by omega) (by omega), vM50, if_pos (by omega), fm28 _ (by omega)]; congr 1; omega, fun j hj => by rw [fM76 _ (by omega), grM61 j (by omega), fM55 _ (by omega) (by omega), fM50 _ (by omega)]; exact gm28 _ j (by omega)⟩⟩ (Nat.zero_le _) (Nat.zero_le _)
-- X10_type
set_option maxHeartbeats 4000000 in
set_option maxRecDepth 100000 in
theorem m_X10_type {E : EE} {K : Nat → Nat} {M : MM} {r : Nat} {v : Int} (hM : ModelK K r) (hv : i32 v) (hlen : 0 ≤ M r 5 ∧ M r 5 ≤ 150) : CnM E 1 yX10_type cX10_type 2 (Option.some FieldType.int) [.ref r, vI v] K M (fun r9 M2 => M2 r 6 = (if ¬ (0 ≤ v ∧ v ≤ 127) then 1 else if M r 5 = 150 then 2 else 0) ∧ (∀ i, i ≠ r → i ≠ r + 4 → M2 i = M i) ∧ (∀ j, j ≠ 5 → j ≠ 6 → M2 r j = M r j) ∧ ((if ¬ (0 ≤ v ∧ v ≤ 127) then 1 else if M r 5 = 150 then 2 else 0) ≠ (0 : Int) ∧ r9 = some (vI 0) ∧ M2 (r + 4) = M (r + 4) ∧ M2 r 5 = M r 5 ∨ (if ¬ (0 ≤ v ∧ v ≤ 127) then 1 else if M r 5 = 150 then 2 else 0) = (0 : Int) ∧ r9 = some (vI (M r 5 + 1)) ∧ M2 (r + 4) = rset (M (r + 4)) (M r 5) v ∧ M2 r 5 = M r 5 + 1)) := by
  refine Cn_of RX10 (plainFor_of_name (by decide)) rfl (Nat.le_of_ble_eq_true rfl) (fun X hX hQ => ?_)
  refine J_aload_n hX dX10_type_0 rfl ?_
  refine J_iload_n hX dX10_type_1 rfl ?_
  refine J_iconst hX dX10_type_2 ?_
  refine J_bipush hX dX10_type_3 rfl ?_
  refine J_callSB hX _ dX10_type_5 cw_RX10_58 (m_X10_in (by omega) (by omega) (by omega)) rfl (Nat.le_of_ble_eq_true rfl) (by decide) ⟨Nat.zero_le _, Nat.zero_le _⟩ ?_
  refine J_ifb_ne hX 15 dX10_type_8 (by decide) (fun c8 => ?_) (fun c8 => ?_)
  · refine J_aload_n hX dX10_type_15 rfl ?_
    refine J_geti hX fi_RX10_273 dX10_type_16 (show K (r) = 9 from hM 0 (by decide)) (fun r16 => ?_)
    refine J_sipush hX dX10_type_19 rfl ?_
    refine J_icmp_ne hX 29 dX10_type_22 (by omega) (by decide) (by decide) (fun c22 => ?_) (fun c22 => ?_)
    · refine J_iconst hX dX10_type_29 ?_
      refine J_putA hX fw_RX10_47 dX10_type_30 (show K (r) = 9 from hM 0 (by decide)) (by omega) (Or.inl rfl) (fun m30 hm30 => ?_)
      have fm30 : ∀ i, i ≠ r → m30 i = M i := fun i h => by rw [hm30]; exact mset_ne h
      have gm30 : ∀ i j, j ≠ 6 → m30 i j = M i j := fun i j h => by rw [hm30]; exact mset_nj h
      have vm30 := (congrFun (congrFun hm30 (r)) 6).trans mset_eq
      have ec : m30 r 6 = (if ¬ (0 ≤ v ∧ v ≤ 127) then 1 else if M r 5 = 150 then 2 else 0) := vm30.trans (by (repeat' split) <;> omega)
      have e5 : m30 r 5 = M r 5 := gm30 _ 5 (by decide)
      refine J_aload_n hX dX10_type_33 rfl ?_
      refine J_geti hX fi_RX10_47 dX10_type_34 (show K (r) = 9 from hM 0 (by decide)) (fun r34 => ?_)
      refine J_if_eq hX 42 dX10_type_37 (by omega) (by decide) (fun c37 => ?_) (fun c37 => ?_)
      · have ez : (if ¬ (0 ≤ v ∧ v ≤ 127) then 1 else if M r 5 = 150 then 2 else 0) = (0 : Int) := by rw [← ec]; assumption
        have g1 : M r 5 ≠ 150 := by intro q; rw [if_pos q] at ez; split at ez <;> omega
        refine J_aload_n hX dX10_type_42 rfl ?_
        refine J_gr hX (r + 4) fr_RX10_19 dX10_type_43 (show K (r) = 9 from hM 0 (by decide)) rfl ?_
        refine J_aload_n hX dX10_type_46 rfl ?_
        refine J_geti hX fi_RX10_273 dX10_type_47 (show K (r) = 9 from hM 0 (by decide)) (fun r47 => ?_)
        refine J_iload_n hX dX10_type_50 rfl ?_
        refine J_istA hX dX10_type_51 (show K (r + 4) = 1000 + 150 from hM 4 (by decide)) ⟨by omega, by omega⟩ (by decide) (by omega) (fun m51 hm51 => ?_)
        have fm51 : ∀ i, i ≠ r + 4 → m51 i = m30 i := fun i h => by rw [hm51]; exact mset_ne h
        have e5b : m51 r 5 = M r 5 := by rw [congrFun (fm51 r (by omega)) 5]; exact e5
        refine J_aload_n hX dX10_type_52 rfl ?_
        refine J_dup hX dX10_type_53 rfl ?_
        refine J_geti hX fi_RX10_273 dX10_type_54 (show K (r) = 9 from hM 0 (by decide)) (fun r54 => ?_)
        refine J_iconst hX dX10_type_57 ?_
        refine J_iadd hX dX10_type_58 ?_
        refine J_putA hX fw_RX10_273 dX10_type_59 (show K (r) = 9 from hM 0 (by decide)) (by omega) (Or.inl rfl) (fun m59 hm59 => ?_)
        have fm59 : ∀ i, i ≠ r → m59 i = m51 i := fun i h => by rw [hm59]; exact mset_ne h
        have gm59 : ∀ i j, j ≠ 5 → m59 i j = m51 i j := fun i j h => by rw [hm59]; exact mset_nj h
        have vm59 := (congrFun (congrFun hm59 (r)) 5).trans mset_eq
        refine J_aload_n hX dX10_type_62 rfl ?_
        refine J_geti hX fi_RX10_273 dX10_type_63 (show K (r) = 9 from hM 0 (by decide)) (fun r63 => ?_)
        exact J_iret hX hQ dX10_type_66 ⟨rfl, by first | exact ⟨ec, fun i i1 i2 => fm30 i i1, fun j j1 j2 => gm30 _ j j2, Or.inl ⟨by rw [← ec]; assumption, rfl, fm30 _ (by omega), e5⟩⟩ | exact ⟨by rw [gm59 _ 6 (by decide), fm51 _ (by omega)]; exact ec, fun i i1 i2 => by rw [fm59 i i1, fm51 i i2]; exact fm30 i i1, fun j j1 j2 => by rw [gm59 _ j j1, fm51 _ (by omega)]; exact gm30 _ j j2, Or.inr ⟨ez, by rw [vm59, e5b], by rw [fm59 _ (by omega), hm51, mset_row, e5, fm30 _ (by omega)], by rw [vm59, e5b]⟩⟩⟩ (Nat.zero_le _) (Nat.zero_le _)
      · refine J_iconst hX dX10_type_40 ?_
        exact J_iret hX hQ dX10_type_41 ⟨rfl, by first | exact ⟨ec, fun i i1 i2 => fm30 i i1, fun j j1 j2 => gm30 _ j j2, Or.inl ⟨by rw [← ec]; assumption, rfl, fm30 _ (by omega), e5⟩⟩ | exact ⟨by rw [gm59 _ 6 (by decide), fm51 _ (by omega)]; exact ec, fun i i1 i2 => by rw [fm59 i i1, fm51 i i2]; exact fm30 i i1, fun j j1 j2 => by rw [gm59 _ j j1, fm51 _ (by omega)]; exact gm30 _ j j2, Or.inr ⟨ez, by rw [vm59, e5b], by rw [fm59 _ (by omega), hm51, mset_row, e5, fm30 _ (by omega)], by rw [vm59, e5b]⟩⟩⟩ (Nat.zero_le _) (Nat.zero_le _)
    · refine J_iconst hX dX10_type_25 ?_
      refine J_goto hX 30 dX10_type_26 (by decide) ?_
      refine J_putA hX fw_RX10_47 dX10_type_30 (show K (r) = 9 from hM 0 (by decide)) (by omega) (Or.inl rfl) (fun m30 hm30 => ?_)
      have fm30 : ∀ i, i ≠ r → m30 i = M i := fun i h => by rw [hm30]; exact mset_ne h
      have gm30 : ∀ i j, j ≠ 6 → m30 i j = M i j := fun i j h => by rw [hm30]; exact mset_nj h
      have vm30 := (congrFun (congrFun hm30 (r)) 6).trans mset_eq
      have ec : m30 r 6 = (if ¬ (0 ≤ v ∧ v ≤ 127) then 1 else if M r 5 = 150 then 2 else 0) := vm30.trans (by (repeat' split) <;> omega)
      have e5 : m30 r 5 = M r 5 := gm30 _ 5 (by decide)
      refine J_aload_n hX dX10_type_33 rfl ?_
      refine J_geti hX fi_RX10_47 dX10_type_34 (show K (r) = 9 from hM 0 (by decide)) (fun r34 => ?_)
      refine J_if_eq hX 42 dX10_type_37 (by omega) (by decide) (fun c37 => ?_) (fun c37 => ?_)
      · have ez : (if ¬ (0 ≤ v ∧ v ≤ 127) then 1 else if M r 5 = 150 then 2 else 0) = (0 : Int) := by rw [← ec]; assumption
        have g1 : M r 5 ≠ 150 := by intro q; rw [if_pos q] at ez; split at ez <;> omega
        refine J_aload_n hX dX10_type_42 rfl ?_
        refine J_gr hX (r + 4) fr_RX10_19 dX10_type_43 (show K (r) = 9 from hM 0 (by decide)) rfl ?_
        refine J_aload_n hX dX10_type_46 rfl ?_
        refine J_geti hX fi_RX10_273 dX10_type_47 (show K (r) = 9 from hM 0 (by decide)) (fun r47 => ?_)
        refine J_iload_n hX dX10_type_50 rfl ?_
        refine J_istA hX dX10_type_51 (show K (r + 4) = 1000 + 150 from hM 4 (by decide)) ⟨by omega, by omega⟩ (by decide) (by omega) (fun m51 hm51 => ?_)
        have fm51 : ∀ i, i ≠ r + 4 → m51 i = m30 i := fun i h => by rw [hm51]; exact mset_ne h
        have e5b : m51 r 5 = M r 5 := by rw [congrFun (fm51 r (by omega)) 5]; exact e5
        refine J_aload_n hX dX10_type_52 rfl ?_
        refine J_dup hX dX10_type_53 rfl ?_
        refine J_geti hX fi_RX10_273 dX10_type_54 (show K (r) = 9 from hM 0 (by decide)) (fun r54 => ?_)
        refine J_iconst hX dX10_type_57 ?_
        refine J_iadd hX dX10_type_58 ?_
        refine J_putA hX fw_RX10_273 dX10_type_59 (show K (r) = 9 from hM 0 (by decide)) (by omega) (Or.inl rfl) (fun m59 hm59 => ?_)
        have fm59 : ∀ i, i ≠ r → m59 i = m51 i := fun i h => by rw [hm59]; exact mset_ne h
        have gm59 : ∀ i j, j ≠ 5 → m59 i j = m51 i j := fun i j h => by rw [hm59]; exact mset_nj h
        have vm59 := (congrFun (congrFun hm59 (r)) 5).trans mset_eq
        refine J_aload_n hX dX10_type_62 rfl ?_
        refine J_geti hX fi_RX10_273 dX10_type_63 (show K (r) = 9 from hM 0 (by decide)) (fun r63 => ?_)
        exact J_iret hX hQ dX10_type_66 ⟨rfl, by first | exact ⟨ec, fun i i1 i2 => fm30 i i1, fun j j1 j2 => gm30 _ j j2, Or.inl ⟨by rw [← ec]; assumption, rfl, fm30 _ (by omega), e5⟩⟩ | exact ⟨by rw [gm59 _ 6 (by decide), fm51 _ (by omega)]; exact ec, fun i i1 i2 => by rw [fm59 i i1, fm51 i i2]; exact fm30 i i1, fun j j1 j2 => by rw [gm59 _ j j1, fm51 _ (by omega)]; exact gm30 _ j j2, Or.inr ⟨ez, by rw [vm59, e5b], by rw [fm59 _ (by omega), hm51, mset_row, e5, fm30 _ (by omega)], by rw [vm59, e5b]⟩⟩⟩ (Nat.zero_le _) (Nat.zero_le _)
      · refine J_iconst hX dX10_type_40 ?_
        exact J_iret hX hQ dX10_type_41 ⟨rfl, by first | exact ⟨ec, fun i i1 i2 => fm30 i i1, fun j j1 j2 => gm30 _ j j2, Or.inl ⟨by rw [← ec]; assumption, rfl, fm30 _ (by omega), e5⟩⟩ | exact ⟨by rw [gm59 _ 6 (by decide), fm51 _ (by omega)]; exact ec, fun i i1 i2 => by rw [fm59 i i1, fm51 i i2]; exact fm30 i i1, fun j j1 j2 => by rw [gm59 _ j j1, fm51 _ (by omega)]; exact gm30 _ j j2, Or.inr ⟨ez, by rw [vm59, e5b], by rw [fm59 _ (by omega), hm51, mset_row, e5, fm30 _ (by omega)], by rw [vm59, e5b]⟩⟩⟩ (Nat.zero_le _) (Nat.zero_le _)
  · refine J_iconst hX dX10_type_11 ?_
    refine J_goto hX 30 dX10_type_12 (by decide) ?_
    refine J_putA hX fw_RX10_47 dX10_type_30 (show K (r) = 9 from hM 0 (by decide)) (by omega) (Or.inl rfl) (fun m30 hm30 => ?_)
    have fm30 : ∀ i, i ≠ r → m30 i = M i := fun i h => by rw [hm30]; exact mset_ne h
    have gm30 : ∀ i j, j ≠ 6 → m30 i j = M i j := fun i j h => by rw [hm30]; exact mset_nj h
    have vm30 := (congrFun (congrFun hm30 (r)) 6).trans mset_eq
    have ec : m30 r 6 = (if ¬ (0 ≤ v ∧ v ≤ 127) then 1 else if M r 5 = 150 then 2 else 0) := vm30.trans (by (repeat' split) <;> omega)
    have e5 : m30 r 5 = M r 5 := gm30 _ 5 (by decide)
    refine J_aload_n hX dX10_type_33 rfl ?_
    refine J_geti hX fi_RX10_47 dX10_type_34 (show K (r) = 9 from hM 0 (by decide)) (fun r34 => ?_)
    refine J_if_eq hX 42 dX10_type_37 (by omega) (by decide) (fun c37 => ?_) (fun c37 => ?_)
    · have ez : (if ¬ (0 ≤ v ∧ v ≤ 127) then 1 else if M r 5 = 150 then 2 else 0) = (0 : Int) := by rw [← ec]; assumption
      have g1 : M r 5 ≠ 150 := by intro q; rw [if_pos q] at ez; split at ez <;> omega
      refine J_aload_n hX dX10_type_42 rfl ?_
      refine J_gr hX (r + 4) fr_RX10_19 dX10_type_43 (show K (r) = 9 from hM 0 (by decide)) rfl ?_
      refine J_aload_n hX dX10_type_46 rfl ?_
      refine J_geti hX fi_RX10_273 dX10_type_47 (show K (r) = 9 from hM 0 (by decide)) (fun r47 => ?_)
      refine J_iload_n hX dX10_type_50 rfl ?_
      refine J_istA hX dX10_type_51 (show K (r + 4) = 1000 + 150 from hM 4 (by decide)) ⟨by omega, by omega⟩ (by decide) (by omega) (fun m51 hm51 => ?_)
      have fm51 : ∀ i, i ≠ r + 4 → m51 i = m30 i := fun i h => by rw [hm51]; exact mset_ne h
      have e5b : m51 r 5 = M r 5 := by rw [congrFun (fm51 r (by omega)) 5]; exact e5
      refine J_aload_n hX dX10_type_52 rfl ?_
      refine J_dup hX dX10_type_53 rfl ?_
      refine J_geti hX fi_RX10_273 dX10_type_54 (show K (r) = 9 from hM 0 (by decide)) (fun r54 => ?_)
      refine J_iconst hX dX10_type_57 ?_
      refine J_iadd hX dX10_type_58 ?_
      refine J_putA hX fw_RX10_273 dX10_type_59 (show K (r) = 9 from hM 0 (by decide)) (by omega) (Or.inl rfl) (fun m59 hm59 => ?_)
      have fm59 : ∀ i, i ≠ r → m59 i = m51 i := fun i h => by rw [hm59]; exact mset_ne h
      have gm59 : ∀ i j, j ≠ 5 → m59 i j = m51 i j := fun i j h => by rw [hm59]; exact mset_nj h
      have vm59 := (congrFun (congrFun hm59 (r)) 5).trans mset_eq
      refine J_aload_n hX dX10_type_62 rfl ?_
      refine J_geti hX fi_RX10_273 dX10_type_63 (show K (r) = 9 from hM 0 (by decide)) (fun r63 => ?_)
      exact J_iret hX hQ dX10_type_66 ⟨rfl, by first | exact ⟨ec, fun i i1 i2 => fm30 i i1, fun j j1 j2 => gm30 _ j j2, Or.inl ⟨by rw [← ec]; assumption, rfl, fm30 _ (by omega), e5⟩⟩ | exact ⟨by rw [gm59 _ 6 (by decide), fm51 _ (by omega)]; exact ec, fun i i1 i2 => by rw [fm59 i i1, fm51 i i2]; exact fm30 i i1, fun j j1 j2 => by rw [gm59 _ j j1, fm51 _ (by omega)]; exact gm30 _ j j2, Or.inr ⟨ez, by rw [vm59, e5b], by rw [fm59 _ (by omega), hm51, mset_row, e5, fm30 _ (by omega)], by rw [vm59, e5b]⟩⟩⟩ (Nat.zero_le _) (Nat.zero_le _)
    · refine J_iconst hX dX10_type_40 ?_
      exact J_iret hX hQ dX10_type_41 ⟨rfl, by first | exact ⟨ec, fun i i1 i2 => fm30 i i1, fun j j1 j2 => gm30 _ j j2, Or.inl ⟨by rw [← ec]; assumption, rfl, fm30 _ (by omega), e5⟩⟩ | exact ⟨by rw [gm59 _ 6 (by decide), fm51 _ (by omega)]; exact ec, fun i i1 i2 => by rw [fm59 i i1, fm51 i i2]; exact fm30 i i1, fun j j1 j2 => by rw [gm59 _ j j1, fm51 _ (by omega)]; exact gm30 _ j j2, Or.inr ⟨ez, by rw [vm59, e5b], by rw [fm59 _ (by omega), hm51, mset_row, e5, fm30 _ (by omega)], by rw [vm59, e5b]⟩⟩⟩ (Nat.zero_le _) (Nat.zero_le _)
-- X10_clearCommands
set_option maxHeartbeats 4000000 in
set_option maxRecDepth 100000 in
theorem m_X10_clearCommands {E : EE} {K : Nat → Nat} {M : MM} {r : Nat}  (hM : ModelK K r)  : CnM E 0 yX10_clearCommands cX10_clearCommands 2 (Option.some FieldType.int) [.ref r] K M (fun r9 M2 => M2 r 6 = 0 ∧ r9 = some (vI (M r 5)) ∧ M2 r 5 = 0 ∧ (∀ i, i ≠ r → M2 i = M i) ∧ ∀ j, j ≠ 5 → j ≠ 6 → M2 r j = M r j) := by
  refine Cn_of RX10 (plainFor_of_name (by decide)) rfl (Nat.le_of_ble_eq_true rfl) (fun X hX hQ => ?_)
  refine J_aload_n hX dX10_clearCommands_0 rfl ?_
  refine J_iconst hX dX10_clearCommands_1 ?_
  refine J_putA hX fw_RX10_47 dX10_clearCommands_2 (show K (r) = 9 from hM 0 (by decide)) (by omega) (Or.inl rfl) (fun m2 hm2 => ?_)
  have fm2 : ∀ i, i ≠ r → m2 i = M i := fun i h => by rw [hm2]; exact mset_ne h
  have gm2 : ∀ i j, j ≠ 6 → m2 i j = M i j := fun i j h => by rw [hm2]; exact mset_nj h
  have vm2 := (congrFun (congrFun hm2 (r)) 6).trans mset_eq
  refine J_aload_n hX dX10_clearCommands_5 rfl ?_
  refine J_geti hX fi_RX10_273 dX10_clearCommands_6 (show K (r) = 9 from hM 0 (by decide)) (fun r6 => ?_)
  refine J_istore_n hX dX10_clearCommands_9 (by decide) ?_
  refine J_aload_n hX dX10_clearCommands_10 rfl ?_
  refine J_iconst hX dX10_clearCommands_11 ?_
  refine J_putA hX fw_RX10_273 dX10_clearCommands_12 (show K (r) = 9 from hM 0 (by decide)) (by omega) (Or.inl rfl) (fun m12 hm12 => ?_)
  have fm12 : ∀ i, i ≠ r → m12 i = m2 i := fun i h => by rw [hm12]; exact mset_ne h
  have gm12 : ∀ i j, j ≠ 5 → m12 i j = m2 i j := fun i j h => by rw [hm12]; exact mset_nj h
  have vm12 := (congrFun (congrFun hm12 (r)) 5).trans mset_eq
  refine J_iload_n hX dX10_clearCommands_15 rfl ?_
  exact J_iret hX hQ dX10_clearCommands_16 ⟨rfl, by exact ⟨by rw [gm12 _ 6 (by decide)]; exact vm2, by rw [gm2 _ 5 (by decide)], vm12, fun i hi => by rw [fm12 i hi]; exact fm2 i hi, fun j j1 j2 => by rw [gm12 _ j j1]; exact gm2 _ j j2⟩⟩ (Nat.zero_le _) (Nat.zero_le _)
-- X10_undo
set_option maxHeartbeats 4000000 in
set_option maxRecDepth 100000 in
theorem m_X10_undo {E : EE} {K : Nat → Nat} {M : MM} {r : Nat}  (hM : ModelK K r) (h3 : 0 ≤ M r 3 ∧ M r 3 ≤ 4) : CnM E 1 yX10_undo cX10_undo 1 (Option.some FieldType.int) [.ref r] K M (fun r9 M2 => M2 r 6 = (if M r 3 = 0 then 1 else 0) ∧ (∀ i, i ≠ r → i ≠ r + 1 → M2 i = M i) ∧ (∀ j, j ≠ 3 → j ≠ 6 → M2 r j = M r j) ∧ ((if M r 3 = 0 then 1 else 0) ≠ (0 : Int) ∧ r9 = some (vI 0) ∧ M2 (r + 1) = M (r + 1) ∧ M2 r 3 = M r 3 ∨ (if M r 3 = 0 then 1 else 0) = (0 : Int) ∧ r9 = some (vI (M r 3 - 1)) ∧ (∀ j : Int, 0 ≤ j → j < 198 → M2 (r + 1) j = M (r + 3) (198 * (M r 3 - 1) + j)) ∧ M2 r 3 = M r 3 - 1)) := by
  refine Cn_of RX10 (plainFor_of_name (by decide)) rfl (Nat.le_of_ble_eq_true rfl) (fun X hX hQ => ?_)
  refine J_aload_n hX dX10_undo_0 rfl ?_
  refine J_aload_n hX dX10_undo_1 rfl ?_
  refine J_geti hX fi_RX10_51 dX10_undo_2 (show K (r) = 9 from hM 0 (by decide)) (fun r2 => ?_)
  refine J_if_ne hX 12 dX10_undo_5 (by omega) (by decide) (fun c5 => ?_) (fun c5 => ?_)
  · refine J_iconst hX dX10_undo_12 ?_
    refine J_putA hX fw_RX10_47 dX10_undo_13 (show K (r) = 9 from hM 0 (by decide)) (by omega) (Or.inl rfl) (fun m13 hm13 => ?_)
    have fm13 : ∀ i, i ≠ r → m13 i = M i := fun i h => by rw [hm13]; exact mset_ne h
    have gm13 : ∀ i j, j ≠ 6 → m13 i j = M i j := fun i j h => by rw [hm13]; exact mset_nj h
    have vm13 := (congrFun (congrFun hm13 (r)) 6).trans mset_eq
    have ec : m13 r 6 = (if M r 3 = 0 then 1 else 0) := vm13.trans (by (repeat' split) <;> omega)
    have e3 : m13 r 3 = M r 3 := gm13 _ 3 (by decide)
    refine J_aload_n hX dX10_undo_16 rfl ?_
    refine J_geti hX fi_RX10_47 dX10_undo_17 (show K (r) = 9 from hM 0 (by decide)) (fun r17 => ?_)
    refine J_if_eq hX 25 dX10_undo_20 (by omega) (by decide) (fun c20 => ?_) (fun c20 => ?_)
    · have ez : (if M r 3 = 0 then 1 else 0) = (0 : Int) := by rw [← ec]; assumption
      have g1 : M r 3 ≠ 0 := by intro q; rw [if_pos q] at ez; omega
      refine J_aload_n hX dX10_undo_25 rfl ?_
      refine J_dup hX dX10_undo_26 rfl ?_
      refine J_geti hX fi_RX10_51 dX10_undo_27 (show K (r) = 9 from hM 0 (by decide)) (fun r27 => ?_)
      refine J_iconst hX dX10_undo_30 ?_
      refine J_isub hX dX10_undo_31 ?_
      refine J_putA hX fw_RX10_51 dX10_undo_32 (show K (r) = 9 from hM 0 (by decide)) (by omega) (Or.inl rfl) (fun m32 hm32 => ?_)
      have fm32 : ∀ i, i ≠ r → m32 i = m13 i := fun i h => by rw [hm32]; exact mset_ne h
      have gm32 : ∀ i j, j ≠ 3 → m32 i j = m13 i j := fun i j h => by rw [hm32]; exact mset_nj h
      have vm32 := (congrFun (congrFun hm32 (r)) 3).trans mset_eq
      have e3b : m32 r 3 = M r 3 - 1 := by rw [vm32, e3]
      refine J_aload_n hX dX10_undo_35 rfl ?_
      refine J_gr hX (r + 3) fr_RX10_16 dX10_undo_36 (show K (r) = 9 from hM 0 (by decide)) rfl ?_
      refine J_sipush hX dX10_undo_39 rfl ?_
      refine J_aload_n hX dX10_undo_42 rfl ?_
      refine J_geti hX fi_RX10_51 dX10_undo_43 (show K (r) = 9 from hM 0 (by decide)) (fun r43 => ?_)
      refine J_imul hX dX10_undo_46 ?_
      refine J_aload_n hX dX10_undo_47 rfl ?_
      refine J_gr hX (r + 1) fr_RX10_7 dX10_undo_48 (show K (r) = 9 from hM 0 (by decide)) rfl ?_
      refine J_iconst hX dX10_undo_51 ?_
      refine J_callSM hX _ dX10_undo_52 cw_RX10_54 (m_X10_bring_b (show K (r + 3) = 1000 + 792 from hM 3 (by decide)) (show K (r + 1) = 1000 + 198 from hM 1 (by decide)) (by omega) (by omega) (by omega)) rfl (Nat.le_of_ble_eq_true rfl) (by decide) ⟨Nat.zero_le _, Nat.zero_le _⟩ (fun r9 M52 q52 => ?_)
      obtain ⟨rfl, fM52, vM52⟩ := q52
      have e3c : M52 r 3 = M r 3 - 1 := by rw [fM52 _ (by omega)]; exact e3b
      refine J_aload_n hX dX10_undo_55 rfl ?_
      refine J_geti hX fi_RX10_51 dX10_undo_56 (show K (r) = 9 from hM 0 (by decide)) (fun r56 => ?_)
      exact J_iret hX hQ dX10_undo_59 ⟨rfl, by first | exact ⟨ec, fun i i1 i2 => fm13 i i1, fun j j1 j2 => gm13 _ j j2, Or.inl ⟨by rw [← ec]; assumption, rfl, fm13 _ (by omega), e3⟩⟩ | exact ⟨by rw [fM52 _ (by omega), gm32 _ 6 (by decide)]; exact ec, fun i i1 i2 => by rw [fM52 i i2, fm32 i i1]; exact fm13 i i1, fun j j1 j2 => by rw [fM52 _ (by omega), gm32 _ j j1]; exact gm13 _ j j2, Or.inr ⟨ez, by rw [e3c], fun j j0 j1 => by rw [vM52, if_pos (by omega), fm32 _ (by omega), fm13 _ (by omega), e3b]; congr 1; omega, e3c⟩⟩⟩ (Nat.zero_le _) (Nat.zero_le _)
    · refine J_iconst hX dX10_undo_23 ?_
      exact J_iret hX hQ dX10_undo_24 ⟨rfl, by first | exact ⟨ec, fun i i1 i2 => fm13 i i1, fun j j1 j2 => gm13 _ j j2, Or.inl ⟨by rw [← ec]; assumption, rfl, fm13 _ (by omega), e3⟩⟩ | exact ⟨by rw [fM52 _ (by omega), gm32 _ 6 (by decide)]; exact ec, fun i i1 i2 => by rw [fM52 i i2, fm32 i i1]; exact fm13 i i1, fun j j1 j2 => by rw [fM52 _ (by omega), gm32 _ j j1]; exact gm13 _ j j2, Or.inr ⟨ez, by rw [e3c], fun j j0 j1 => by rw [vM52, if_pos (by omega), fm32 _ (by omega), fm13 _ (by omega), e3b]; congr 1; omega, e3c⟩⟩⟩ (Nat.zero_le _) (Nat.zero_le _)
  · refine J_iconst hX dX10_undo_8 ?_
    refine J_goto hX 13 dX10_undo_9 (by decide) ?_
    refine J_putA hX fw_RX10_47 dX10_undo_13 (show K (r) = 9 from hM 0 (by decide)) (by omega) (Or.inl rfl) (fun m13 hm13 => ?_)
    have fm13 : ∀ i, i ≠ r → m13 i = M i := fun i h => by rw [hm13]; exact mset_ne h
    have gm13 : ∀ i j, j ≠ 6 → m13 i j = M i j := fun i j h => by rw [hm13]; exact mset_nj h
    have vm13 := (congrFun (congrFun hm13 (r)) 6).trans mset_eq
    have ec : m13 r 6 = (if M r 3 = 0 then 1 else 0) := vm13.trans (by (repeat' split) <;> omega)
    have e3 : m13 r 3 = M r 3 := gm13 _ 3 (by decide)
    refine J_aload_n hX dX10_undo_16 rfl ?_
    refine J_geti hX fi_RX10_47 dX10_undo_17 (show K (r) = 9 from hM 0 (by decide)) (fun r17 => ?_)
    refine J_if_eq hX 25 dX10_undo_20 (by omega) (by decide) (fun c20 => ?_) (fun c20 => ?_)
    · have ez : (if M r 3 = 0 then 1 else 0) = (0 : Int) := by rw [← ec]; assumption
      have g1 : M r 3 ≠ 0 := by intro q; rw [if_pos q] at ez; omega
      refine J_aload_n hX dX10_undo_25 rfl ?_
      refine J_dup hX dX10_undo_26 rfl ?_
      refine J_geti hX fi_RX10_51 dX10_undo_27 (show K (r) = 9 from hM 0 (by decide)) (fun r27 => ?_)
      refine J_iconst hX dX10_undo_30 ?_
      refine J_isub hX dX10_undo_31 ?_
      refine J_putA hX fw_RX10_51 dX10_undo_32 (show K (r) = 9 from hM 0 (by decide)) (by omega) (Or.inl rfl) (fun m32 hm32 => ?_)
      have fm32 : ∀ i, i ≠ r → m32 i = m13 i := fun i h => by rw [hm32]; exact mset_ne h
      have gm32 : ∀ i j, j ≠ 3 → m32 i j = m13 i j := fun i j h => by rw [hm32]; exact mset_nj h
      have vm32 := (congrFun (congrFun hm32 (r)) 3).trans mset_eq
      have e3b : m32 r 3 = M r 3 - 1 := by rw [vm32, e3]
      refine J_aload_n hX dX10_undo_35 rfl ?_
      refine J_gr hX (r + 3) fr_RX10_16 dX10_undo_36 (show K (r) = 9 from hM 0 (by decide)) rfl ?_
      refine J_sipush hX dX10_undo_39 rfl ?_
      refine J_aload_n hX dX10_undo_42 rfl ?_
      refine J_geti hX fi_RX10_51 dX10_undo_43 (show K (r) = 9 from hM 0 (by decide)) (fun r43 => ?_)
      refine J_imul hX dX10_undo_46 ?_
      refine J_aload_n hX dX10_undo_47 rfl ?_
      refine J_gr hX (r + 1) fr_RX10_7 dX10_undo_48 (show K (r) = 9 from hM 0 (by decide)) rfl ?_
      refine J_iconst hX dX10_undo_51 ?_
      refine J_callSM hX _ dX10_undo_52 cw_RX10_54 (m_X10_bring_b (show K (r + 3) = 1000 + 792 from hM 3 (by decide)) (show K (r + 1) = 1000 + 198 from hM 1 (by decide)) (by omega) (by omega) (by omega)) rfl (Nat.le_of_ble_eq_true rfl) (by decide) ⟨Nat.zero_le _, Nat.zero_le _⟩ (fun r9 M52 q52 => ?_)
      obtain ⟨rfl, fM52, vM52⟩ := q52
      have e3c : M52 r 3 = M r 3 - 1 := by rw [fM52 _ (by omega)]; exact e3b
      refine J_aload_n hX dX10_undo_55 rfl ?_
      refine J_geti hX fi_RX10_51 dX10_undo_56 (show K (r) = 9 from hM 0 (by decide)) (fun r56 => ?_)
      exact J_iret hX hQ dX10_undo_59 ⟨rfl, by first | exact ⟨ec, fun i i1 i2 => fm13 i i1, fun j j1 j2 => gm13 _ j j2, Or.inl ⟨by rw [← ec]; assumption, rfl, fm13 _ (by omega), e3⟩⟩ | exact ⟨by rw [fM52 _ (by omega), gm32 _ 6 (by decide)]; exact ec, fun i i1 i2 => by rw [fM52 i i2, fm32 i i1]; exact fm13 i i1, fun j j1 j2 => by rw [fM52 _ (by omega), gm32 _ j j1]; exact gm13 _ j j2, Or.inr ⟨ez, by rw [e3c], fun j j0 j1 => by rw [vM52, if_pos (by omega), fm32 _ (by omega), fm13 _ (by omega), e3b]; congr 1; omega, e3c⟩⟩⟩ (Nat.zero_le _) (Nat.zero_le _)
    · refine J_iconst hX dX10_undo_23 ?_
      exact J_iret hX hQ dX10_undo_24 ⟨rfl, by first | exact ⟨ec, fun i i1 i2 => fm13 i i1, fun j j1 j2 => gm13 _ j j2, Or.inl ⟨by rw [← ec]; assumption, rfl, fm13 _ (by omega), e3⟩⟩ | exact ⟨by rw [fM52 _ (by omega), gm32 _ 6 (by decide)]; exact ec, fun i i1 i2 => by rw [fM52 i i2, fm32 i i1]; exact fm13 i i1, fun j j1 j2 => by rw [fM52 _ (by omega), gm32 _ j j1]; exact gm13 _ j j2, Or.inr ⟨ez, by rw [e3c], fun j j0 j1 => by rw [vM52, if_pos (by omega), fm32 _ (by omega), fm13 _ (by omega), e3b]; congr 1; omega, e3c⟩⟩⟩ (Nat.zero_le _) (Nat.zero_le _)
