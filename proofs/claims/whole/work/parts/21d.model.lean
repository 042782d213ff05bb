/-! the reference: the survey, values -/
-- X10_survey
set_option maxHeartbeats 4000000 in
set_option maxRecDepth 100000 in
theorem m_X10_survey {E : EE} {K : Nat → Nat} {M : MM} {r : Nat} {T : Int} {S : MM}  (hM : ModelK K r) (hR : RS S (M (r + 1))) (hW : WFS T S)  : CnM E 6 yX10_survey cX10_survey 2 none [.ref r] K M (fun r9 M2 => r9 = none ∧ (∀ i, i ≠ r → (i < r + 6 ∨ r + 10 < i) → M2 i = M i) ∧ (∀ j, (j < 12 ∨ j = 13 ∨ 19 < j) → M2 r j = M r j) ∧ Sur M2 r S) := by
  obtain ⟨⟨rs0, rs1, rs2, rs3, rs4, rs5, rs6, rs7, rs8, rs9, rs10, rs13⟩, rst, rsn, rsc⟩ := id hR
  have hs9 := hW.2.1
  unfold WFSs at hs9
  refine Cn_of RX10 (plainFor_of_name (by decide)) rfl (Nat.le_of_ble_eq_true rfl) (fun X hX hQ => ?_)
  refine J_aload_n hX dX10_survey_0 rfl ?_
  refine J_callVM hX _ dX10_survey_1 cw_RX10_210 (m_X10_places hM hR hW) ⟨(show K (r) = 9 from hM 0 (by decide)), by decide, by decide, rfl⟩ rfl (Nat.le_of_ble_eq_true rfl) (by decide) ⟨Nat.zero_le _, Nat.zero_le _⟩ (fun r9 M1 q1 => ?_)
  obtain ⟨rfl, fM1, pM1⟩ := q1
  have hR1 : RS S (M1 (r + 1)) := by rw [fM1 _ (by omega) (by omega) (by omega)]; exact hR
  have z5 := congrFun (fM1 (r + 1) (by omega) (by omega) (by omega)) 5
  have z6 := congrFun (fM1 (r + 1) (by omega) (by omega) (by omega)) 6
  have hpr : 0 ≤ pct S ∧ pct S ≤ 100 := pctW_rng _ _ _
  refine J_aload_n hX dX10_survey_4 rfl ?_
  refine J_aload_n hX dX10_survey_5 rfl ?_
  refine J_aload_n hX dX10_survey_6 rfl ?_
  refine J_gr hX (r + 1) fr_RX10_7 dX10_survey_7 (show K (r) = 9 from hM 0 (by decide)) rfl ?_
  refine J_iconst hX dX10_survey_10 ?_
  refine J_iald hX dX10_survey_11 (show K (r + 1) = 1000 + 198 from hM 1 (by decide)) ⟨by omega, by omega⟩ (by decide) (fun r11 => ?_)
  refine J_aload_n hX dX10_survey_12 rfl ?_
  refine J_gr hX (r + 1) fr_RX10_7 dX10_survey_13 (show K (r) = 9 from hM 0 (by decide)) rfl ?_
  refine J_bipush hX dX10_survey_16 rfl ?_
  refine J_iald hX dX10_survey_18 (show K (r + 1) = 1000 + 198 from hM 1 (by decide)) ⟨by omega, by omega⟩ (by decide) (fun r18 => ?_)
  rw [z5, z6, rs5, rs6]
  refine J_callVI hX _ dX10_survey_19 cw_RX10_213 (m_X10_percentageBy hM hR1 hW (by omega) (by omega) (fun n hn => (pM1 n hn.1 hn.2.1).2.2)) ⟨(show K (r) = 9 from hM 0 (by decide)), by decide, by decide, rfl⟩ rfl (Nat.le_of_ble_eq_true rfl) (by decide) ⟨Nat.zero_le _, Nat.zero_le _⟩ (fun r19 => ?_)
  rw [show pctW S (S 11 2) (S 11 3) = pct S from rfl]
  refine J_putA hX fw_RX10_216 dX10_survey_22 (show K (r) = 9 from hM 0 (by decide)) (by omega) (Or.inl rfl) (fun m22 hm22 => ?_)
  have fm22 : ∀ i, i ≠ r → m22 i = M1 i := fun i h => by rw [hm22]; exact mset_ne h
  have gm22 : ∀ i j, j ≠ 12 → m22 i j = M1 i j := fun i j h => by rw [hm22]; exact mset_nj h
  have vm22 := (congrFun (congrFun hm22 (r)) 12).trans mset_eq
  refine J_iconst hX dX10_survey_25 ?_
  refine J_istore_n hX dX10_survey_26 (by decide) ?_
  have HL27 : ∀ k : Nat, k ≤ (S 1 0).toNat → ∀ (M3 : MM), ((∀ i, i ≠ r + 9 → M3 i = m22 i) ∧ ∀ n : Int, 0 ≤ n → n < k → M3 (r + 9) n = shf S n) → J E X 27 [(0, .ref r), (1, vI (k : Int))] [] K M3 0 0 := by
    refine up_ind ((S 1 0).toNat) (fun k hk27 ih27 => ?_)
    intro M3  hi27
    obtain ⟨hq27, hs27⟩ := hi27
    have hi27 := And.intro (show ∀ i, i ≠ r + 9 → i ≠ r → M3 i = M1 i from fun i h1 h2 => by rw [hq27 i h1]; exact fm22 i h2) (And.intro hs27 hq27)
    have hR3 : RS S (M3 (r + 1)) := by rw [hi27.1 _ (by omega) (by omega)]; exact hR1
    have w2 := congrFun (hi27.1 (r + 1) (by omega) (by omega)) 2
    have z2 := congrFun (fM1 (r + 1) (by omega) (by omega) (by omega)) 2
    have e12 : M3 r 12 = pct S := by rw [hi27.2.2 _ (by omega)]; exact vm22
    refine J_iload_n hX dX10_survey_27 rfl ?_
    refine J_aload_n hX dX10_survey_28 rfl ?_
    refine J_gr hX (r + 1) fr_RX10_7 dX10_survey_29 (show K (r) = 9 from hM 0 (by decide)) rfl ?_
    refine J_iconst hX dX10_survey_32 ?_
    refine J_iald hX dX10_survey_33 (show K (r + 1) = 1000 + 198 from hM 1 (by decide)) ⟨by omega, by omega⟩ (by decide) (fun r33 => ?_)
    refine J_icmp_ge hX 64 dX10_survey_34 (by omega) (by omega) (by decide) (fun c34 => ?_) (fun c34 => ?_)
    · have hS3 : Shs M3 r S := fun n n0 n1 => hi27.2.1 n n0 (by omega)
      refine J_aload_n hX dX10_survey_64 rfl ?_
      refine J_callVM hX _ dX10_survey_65 cw_RX10_219 (m_X10_sort hM hR3 hW hS3) ⟨(show K (r) = 9 from hM 0 (by decide)), by decide, by decide, rfl⟩ rfl (Nat.le_of_ble_eq_true rfl) (by decide) ⟨Nat.zero_le _, Nat.zero_le _⟩ (fun r9 M65 q65 => ?_)
      obtain ⟨rfl, fM65, gM65, oM65⟩ := q65
      have hR5 : RS S (M65 (r + 1)) := by rw [fM65 _ (by omega) (by omega)]; exact hR3
      have hMd5 : Mdl M65 r S := ⟨fun n n0 n1 => by rw [fM65 _ (by omega) (by omega), fM65 _ (by omega) (by omega), fM65 _ (by omega) (by omega), hi27.1 _ (by omega) (by omega), hi27.1 _ (by omega) (by omega), hi27.1 _ (by omega) (by omega)]; exact pM1 n n0 n1, fun n n0 n1 => by rw [fM65 _ (by omega) (by omega)]; exact hS3 n n0 n1, oM65⟩
      have wr1 := wnd_rng hW 1
      have wr0 := wnd_rng hW 0
      refine J_aload_n hX dX10_survey_68 rfl ?_
      refine J_aload_n hX dX10_survey_69 rfl ?_
      refine J_iconst hX dX10_survey_70 ?_
      refine J_callVI hX _ dX10_survey_71 cw_RX10_222 (m_X10_mask hM hR5 hW hMd5 (by decide)) ⟨(show K (r) = 9 from hM 0 (by decide)), by decide, by decide, rfl⟩ rfl (Nat.le_of_ble_eq_true rfl) (by decide) ⟨Nat.zero_le _, Nat.zero_le _⟩ (fun r71 => ?_)
      refine J_putA hX fw_RX10_190 dX10_survey_74 (show K (r) = 9 from hM 0 (by decide)) (by omega) (Or.inl rfl) (fun m74 hm74 => ?_)
      have fm74 : ∀ i, i ≠ r → m74 i = M65 i := fun i h => by rw [hm74]; exact mset_ne h
      have gm74 : ∀ i j, j ≠ 15 → m74 i j = M65 i j := fun i j h => by rw [hm74]; exact mset_nj h
      have vm74 := (congrFun (congrFun hm74 (r)) 15).trans mset_eq
      have hR7 : RS S (m74 (r + 1)) := by rw [fm74 _ (by omega)]; exact hR5
      have hMd7 : Mdl m74 r S := hMd5.fr (fun i i1 i2 => fm74 i (by omega)) (gm74 _ 14 (by decide))
      refine J_aload_n hX dX10_survey_77 rfl ?_
      refine J_aload_n hX dX10_survey_78 rfl ?_
      refine J_iconst hX dX10_survey_79 ?_
      refine J_callVI hX _ dX10_survey_80 cw_RX10_222 (m_X10_mask hM hR7 hW hMd7 (by decide)) ⟨(show K (r) = 9 from hM 0 (by decide)), by decide, by decide, rfl⟩ rfl (Nat.le_of_ble_eq_true rfl) (by decide) ⟨Nat.zero_le _, Nat.zero_le _⟩ (fun r80 => ?_)
      refine J_putA hX fw_RX10_193 dX10_survey_83 (show K (r) = 9 from hM 0 (by decide)) (by omega) (Or.inl rfl) (fun m83 hm83 => ?_)
      have fm83 : ∀ i, i ≠ r → m83 i = m74 i := fun i h => by rw [hm83]; exact mset_ne h
      have gm83 : ∀ i j, j ≠ 16 → m83 i j = m74 i j := fun i j h => by rw [hm83]; exact mset_nj h
      have vm83 := (congrFun (congrFun hm83 (r)) 16).trans mset_eq
      have hR8 : RS S (m83 (r + 1)) := by rw [fm83 _ (by omega)]; exact hR7
      have hMd8 : Mdl m83 r S := hMd7.fr (fun i i1 i2 => fm83 i (by omega)) (gm83 _ 14 (by decide))
      have w15 : m83 r 15 = wnd S 1 := by rw [gm83 _ 15 (by decide)]; exact vm74
      have w16 : m83 r 16 = wnd S 0 := vm83
      refine J_aload_n hX dX10_survey_86 rfl ?_
      refine J_callVM hX _ dX10_survey_87 cw_RX10_226 (m_X10_findTitle hM hR8 hW hMd8 w15 w16) ⟨(show K (r) = 9 from hM 0 (by decide)), by decide, by decide, rfl⟩ rfl (Nat.le_of_ble_eq_true rfl) (by decide) ⟨Nat.zero_le _, Nat.zero_le _⟩ (fun r9 M87 q87 => ?_)
      obtain ⟨rfl, fM87, gM87, tM87⟩ := q87
      exact J_vret hX hQ dX10_survey_90 ⟨rfl, by exact ⟨rfl, fun i i1 i2 => by rw [fM87 i i1, fm83 i i1, fm74 i i1, fM65 i i1 (by omega), hi27.1 i (by omega) i1]; exact fM1 i (by omega) (by omega) (by omega), fun j hj => by rw [gM87 j (by omega) (by omega) (by omega), gm83 _ j (by omega), gm74 _ j (by omega), gM65 j (by omega), hi27.2.2 _ (by omega), gm22 _ j (by omega)]; exact congrFun (fM1 r (by omega) (by omega) (by omega)) j, hMd8.fr (fun i i1 i2 => fM87 i (by omega)) (gM87 14 (by decide) (by decide) (by decide)), by rw [gM87 12 (by decide) (by decide) (by decide), gm83 _ 12 (by decide), gm74 _ 12 (by decide), gM65 12 (by decide)]; exact e12, ⟨by rw [gM87 15 (by decide) (by decide) (by decide)]; exact w15, by rw [gM87 16 (by decide) (by decide) (by decide)]; exact w16⟩, tM87⟩⟩ (Nat.zero_le _) (Nat.zero_le _)
    · have hzk : M3 (r + 8) k = pos S 6 k := by rw [hi27.1 _ (by omega) (by omega)]; exact (pM1 (k : Int) (by omega) (by omega)).2.2
      have rr := raw_rng hW (g := S 15 0) (by omega) (k : Int) (by omega)
      have rp := rawp_rng hW (g := S 15 0) (p := pct S) (by omega) hpr (k : Int) (by omega)
      refine J_aload_n hX dX10_survey_37 rfl ?_
      refine J_gr hX (r + 9) fr_RX10_34 dX10_survey_38 (show K (r) = 9 from hM 0 (by decide)) rfl ?_
      refine J_iload_n hX dX10_survey_41 rfl ?_
      refine J_aload_n hX dX10_survey_42 rfl ?_
      refine J_iload_n hX dX10_survey_43 rfl ?_
      refine J_callVI hX _ dX10_survey_44 cw_RX10_154 (m_X10_raw hM hR3 hW (show hs S (k : Int) by omega) hzk) ⟨(show K (r) = 9 from hM 0 (by decide)), by decide, by decide, rfl⟩ rfl (Nat.le_of_ble_eq_true rfl) (by decide) ⟨Nat.zero_le _, Nat.zero_le _⟩ (fun r44 => ?_)
      refine J_aload_n hX dX10_survey_47 rfl ?_
      refine J_geti hX fi_RX10_216 dX10_survey_48 (show K (r) = 9 from hM 0 (by decide)) (fun r48 => ?_)
      rw [e12]
      refine J_imul hX dX10_survey_51 ?_
      refine J_bipush hX dX10_survey_52 rfl ?_
      refine J_callSI hX _ dX10_survey_54 cw_RX10_151 (m_X10_floor (by omega) (by decide)) rfl (Nat.le_of_ble_eq_true rfl) (by decide) ⟨Nat.zero_le _, Nat.zero_le _⟩ (fun r54 => ?_)
      refine J_istA hX dX10_survey_57 (show K (r + 9) = 1000 + 20 from hM 9 (by decide)) ⟨by omega, by omega⟩ (by decide) (by omega) (fun m57 hm57 => ?_)
      have fm57 : ∀ i, i ≠ r + 9 → m57 i = M3 i := fun i h => by rw [hm57]; exact mset_ne h
      have gm57 : ∀ i j, j ≠ (k : Int) → m57 i j = M3 i j := fun i j h => by rw [hm57]; exact mset_nj h
      have vm57 := (congrFun (congrFun hm57 (r + 9)) ((k : Int))).trans mset_eq
      refine J_iinc hX dX10_survey_58 rfl (by decide) ?_
      refine J_goto hX 27 dX10_survey_61 (by decide) ?_
      exact J_locI (ih27 (k + 1) (by omega) (by omega) _ ⟨fun i hi => by rw [fm57 i hi]; exact hi27.2.2 i hi, fun n n0 n1 => by by_cases e : n = k; (rw [e, vm57]; rfl); (rw [gm57 _ n e]; exact hi27.2.1 n n0 (by omega))⟩) rfl
  exact J_locI (HL27 0 (Nat.zero_le _) _ ⟨fun _ _ => rfl, fun n n0 n1 => absurd n1 (by omega)⟩) rfl
