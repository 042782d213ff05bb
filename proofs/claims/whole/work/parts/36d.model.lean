/-! the reference: the digest -/
-- X10_digest
set_option maxHeartbeats 4000000 in
set_option maxRecDepth 100000 in
theorem m_X10_digest {E : EE} {K : Nat → Nat} {M : MM} {r : Nat} {T : Int} {S : MM}  (hM : ModelK K r) (hR : RS S (M (r + 1))) (hW : WFS T S)  : CnM E 7 yX10_digest cX10_digest 2 (Option.some FieldType.long) [.ref r] K M (fun r9 M2 => r9 = some (vL (dig S (M r 3) (M r 5))) ∧ M2 r 6 = 0 ∧ (∀ i, i = r + 3 ∨ i = r + 4 ∨ i < r ∨ r + 11 < i → M2 i = M i) ∧ (∀ j : Int, 0 ≤ j → j < 198 → M2 (r + 1) j = M (r + 1) j) ∧ ∀ j, j = 3 ∨ j = 5 → M2 r j = M r j) := by
  obtain ⟨⟨rs0, rs1, rs2, rs3, rs4, rs5, rs6, rs7, rs8, rs9, rs10, rs13⟩, rst, rsn, rsc⟩ := id hR
  have hs9 := hW.2.1
  unfold WFSs at hs9
  have mb := mul_bd (x := S 0 3) (y := S 0 4) (A := 200) (B := 120) (by omega) (by omega) (by omega) (by omega)
  have mb0 := Int.mul_nonneg (a := S 0 3) (b := S 0 4) (by omega) (by omega)
  refine Cn_of RX10 (plainFor_of_name (by decide)) rfl (Nat.le_of_ble_eq_true rfl) (fun X hX hQ => ?_)
  refine J_aload_n hX dX10_digest_0 rfl ?_
  refine J_iconst hX dX10_digest_1 ?_
  refine J_putA hX fw_RX10_47 dX10_digest_2 (show K (r) = 9 from hM 0 (by decide)) (by omega) (Or.inl rfl) (fun m2 hm2 => ?_)
  have fm2 : ∀ i, i ≠ r → m2 i = M i := fun i h => by rw [hm2]; exact mset_ne h
  have gm2 : ∀ i j, j ≠ 6 → m2 i j = M i j := fun i j h => by rw [hm2]; exact mset_nj h
  have vm2 := (congrFun (congrFun hm2 (r)) 6).trans mset_eq
  have hRm : RS S (m2 (r + 1)) := by rw [fm2 _ (by omega)]; exact hR
  refine J_aload_n hX dX10_digest_5 rfl ?_
  refine J_callVM hX _ dX10_digest_6 cw_RX10_235 (m_X10_survey hM hRm hW) ⟨(show K (r) = 9 from hM 0 (by decide)), by decide, by decide, rfl⟩ rfl (Nat.le_of_ble_eq_true rfl) (by decide) ⟨Nat.zero_le _, Nat.zero_le _⟩ (fun r9 M6 q6 => ?_)
  obtain ⟨rfl, frM6, grM6, svM6⟩ := q6
  have hRs : RS S (M6 (r + 1)) := by rw [frM6 _ (by omega) (by omega)]; exact hRm
  have a3 : M6 r 3 = M r 3 := by rw [grM6 3 (by decide)]; exact gm2 _ 3 (by decide)
  have a5 : M6 r 5 = M r 5 := by rw [grM6 5 (by decide)]; exact gm2 _ 5 (by decide)
  refine J_aload_n hX dX10_digest_9 rfl ?_
  refine J_ldc2 (x := 18767) hX dX10_digest_10 kl_RX10_348 rfl ?_
  refine J_putl hX fx_RX10_340 fw_hash dX10_digest_13 (show K (r) = 9 from hM 0 (by decide)) (fun m13 hm13 => ?_)
  have fm13 : ∀ i, i ≠ r → m13 i = M6 i := fun i h => by rw [hm13]; exact mset_ne h
  have gm13 : ∀ i j, j ≠ 23 → m13 i j = M6 i j := fun i j h => by rw [hm13]; exact mset_nj h
  have vm13 := (congrFun (congrFun hm13 (r)) 23).trans mset_eq
  refine J_aload_n hX dX10_digest_16 rfl ?_
  refine J_aload_n hX dX10_digest_17 rfl ?_
  refine J_geti hX fi_RX10_51 dX10_digest_18 (show K (r) = 9 from hM 0 (by decide)) (fun r18 => ?_)
  have x3 : m13 r 3 = M r 3 := by rw [gm13 _ 3 (by decide), a3]
  rw [x3] at r18 ⊢
  refine J_i2l hX dX10_digest_21 (by omega) ?_
  refine J_callVM hX _ dX10_digest_22 cw_RX10_344 (m_X10_mix hM) ⟨(show K (r) = 9 from hM 0 (by decide)), by decide, by decide, rfl⟩ rfl (Nat.le_of_ble_eq_true rfl) (by decide) ⟨Nat.zero_le _, Nat.zero_le _⟩ (fun r9 M22 q22 => ?_)
  obtain ⟨rfl, hM22⟩ := q22
  have fM22 : ∀ i, i ≠ r → M22 i = m13 i := fun i h => by rw [hM22]; exact mset_ne h
  have gM22 : ∀ i j, j ≠ 23 → M22 i j = m13 i j := fun i j h => by rw [hM22]; exact mset_nj h
  have vM22 := (congrFun (congrFun hM22 r) 23).trans mset_eq
  refine J_aload_n hX dX10_digest_25 rfl ?_
  refine J_aload_n hX dX10_digest_26 rfl ?_
  refine J_geti hX fi_RX10_273 dX10_digest_27 (show K (r) = 9 from hM 0 (by decide)) (fun r27 => ?_)
  have x5 : M22 r 5 = M r 5 := by rw [gM22 _ 5 (by decide), gm13 _ 5 (by decide), a5]
  rw [x5] at r27 ⊢
  refine J_i2l hX dX10_digest_30 (by omega) ?_
  refine J_callVM hX _ dX10_digest_31 cw_RX10_344 (m_X10_mix hM) ⟨(show K (r) = 9 from hM 0 (by decide)), by decide, by decide, rfl⟩ rfl (Nat.le_of_ble_eq_true rfl) (by decide) ⟨Nat.zero_le _, Nat.zero_le _⟩ (fun r9 M31 q31 => ?_)
  obtain ⟨rfl, hM31⟩ := q31
  have fM31 : ∀ i, i ≠ r → M31 i = M22 i := fun i h => by rw [hM31]; exact mset_ne h
  have gM31 : ∀ i j, j ≠ 23 → M31 i j = M22 i j := fun i j h => by rw [hM31]; exact mset_nj h
  have vM31 := (congrFun (congrFun hM31 r) 23).trans mset_eq
  refine J_iconst hX dX10_digest_34 ?_
  refine J_istore_n hX dX10_digest_35 (by decide) ?_
  have HL36 : ∀ k1 : Nat, k1 ≤ 16 → ∀ (M3 : MM), ((∀ i, i ≠ r → M3 i = M6 i) ∧ (∀ j, j ≠ 23 → M3 r j = M6 r j) ∧ M3 r 23 = mixL (wvl S) k1 (31 * (31 * 18767 + M r 3) + M r 5)) → J E X 36 [(0, .ref r), (1, vI (k1 : Int))] [] K M3 0 0 := by
    refine up_ind (16) (fun k1 hk36 ih36 => ?_)
    intro M3  hi36
    have hR3 : RS S (M3 (r + 1)) := by rw [hi36.1 _ (by omega)]; exact hRs
    have hS3 := Sur_fr2 svM6 hi36.1 hi36.2.1
    refine J_iload_n hX dX10_digest_36 rfl ?_
    refine J_bipush hX dX10_digest_37 rfl ?_
    refine J_icmp_ge hX 58 dX10_digest_39 (by omega) (by decide) (by decide) (fun c39 => ?_) (fun c39 => ?_)
    · refine J_aload_n hX dX10_digest_58 rfl ?_
      refine J_callVM hX _ dX10_digest_59 cw_RX10_350 (m_X10_mixThings hM hR3 hW hS3) ⟨(show K (r) = 9 from hM 0 (by decide)), by decide, by decide, rfl⟩ rfl (Nat.le_of_ble_eq_true rfl) (by decide) ⟨Nat.zero_le _, Nat.zero_le _⟩ (fun r9 M59 q59 => ?_)
      obtain ⟨rfl, fM59, gM59, vM59⟩ := q59
      have hRz : RS S (M59 (r + 1)) := by rw [fM59 _ (by omega)]; exact hR3
      refine J_iconst hX dX10_digest_62 ?_
      refine J_istore_n hX dX10_digest_63 (by decide) ?_
      have HL64 : ∀ k2 : Nat, k2 ≤ (S 0 3 * S 0 4).toNat → ∀ (M3 : MM), ((∀ i, i ≠ r → M3 i = M6 i) ∧ (∀ j, j ≠ 23 → M3 r j = M6 r j) ∧ M3 r 23 = pxL S (S 0 3) k2 (digD S (M r 3) (M r 5))) → J E X 64 [(0, .ref r), (1, vI (k2 : Int))] [] K M3 0 0 := by
        refine up_ind ((S 0 3 * S 0 4).toNat) (fun k2 hk64 ih64 => ?_)
        intro M3  hi64
        have hR3 : RS S (M3 (r + 1)) := by rw [hi64.1 _ (by omega)]; exact hRs
        have hS3 := Sur_fr2 svM6 hi64.1 hi64.2.1
        have w0 : M3 (r + 1) 0 = S 0 3 := hR3.1.1
        have w1 : M3 (r + 1) 1 = S 0 4 := hR3.1.2.1
        refine J_iload_n hX dX10_digest_64 rfl ?_
        refine J_aload_n hX dX10_digest_65 rfl ?_
        refine J_gr hX (r + 1) fr_RX10_7 dX10_digest_66 (show K (r) = 9 from hM 0 (by decide)) rfl ?_
        refine J_iconst hX dX10_digest_69 ?_
        refine J_iald hX dX10_digest_70 (show K (r + 1) = 1000 + 198 from hM 1 (by decide)) ⟨by omega, by omega⟩ (by decide) (fun r70 => ?_)
        refine J_aload_n hX dX10_digest_71 rfl ?_
        refine J_gr hX (r + 1) fr_RX10_7 dX10_digest_72 (show K (r) = 9 from hM 0 (by decide)) rfl ?_
        refine J_iconst hX dX10_digest_75 ?_
        refine J_iald hX dX10_digest_76 (show K (r + 1) = 1000 + 198 from hM 1 (by decide)) ⟨by omega, by omega⟩ (by decide) (fun r76 => ?_)
        rw [w0, w1]
        refine J_imul hX dX10_digest_77 ?_
        refine J_icmp_ge hX 139 dX10_digest_78 (by omega) (by omega) (by decide) (fun c78 => ?_) (fun c78 => ?_)
        · refine J_aload_n hX dX10_digest_139 rfl ?_
          refine J_getl hX fx_RX10_340 dX10_digest_140 (show K (r) = 9 from hM 0 (by decide)) ?_
          exact J_lret hX hQ dX10_digest_143 ⟨rfl, by exact ⟨by rw [hi64.2.2, ← show (S 0 3 * S 0 4).toNat = k2 by omega, px_all hW]; rfl, by rw [hi64.2.1 6 (by decide), grM6 6 (by decide)]; exact vm2, fun i hi => by rw [hi64.1 i (by omega), frM6 i (by omega) (by omega)]; exact fm2 i (by omega), fun j _ _ => by rw [hi64.1 _ (by omega), frM6 _ (by omega) (by omega), fm2 _ (by omega)], fun j hj => by rw [hi64.2.1 j (by omega), grM6 j (by omega)]; exact gm2 _ j (by omega)⟩⟩ (Nat.zero_le _) (Nat.zero_le _)
        · have em0 := Int.emod_nonneg (k2 : Int) (show S 0 3 ≠ 0 by omega)
          have em1 := Int.emod_lt_of_pos (k2 : Int) (show 0 < S 0 3 by omega)
          have ed0 := Int.ediv_nonneg (a := (k2 : Int)) (b := S 0 3) (by omega) (by omega)
          have ed1 := Int.ediv_lt_of_lt_mul (a := (k2 : Int)) (b := S 0 4) (c := S 0 3) (by omega) (by rw [Int.mul_comm]; omega)
          have et1 : (k2 : Int).tmod (S 0 3) = (k2 : Int) % S 0 3 := Int.tmod_eq_emod_of_nonneg (by omega)
          have et2 : (k2 : Int).tdiv (S 0 3) = (k2 : Int) / S 0 3 := Int.tdiv_eq_ediv_of_nonneg (by omega)
          refine J_aload_n hX dX10_digest_81 rfl ?_
          refine J_aload_n hX dX10_digest_82 rfl ?_
          refine J_iconst hX dX10_digest_83 ?_
          refine J_iload_n hX dX10_digest_84 rfl ?_
          refine J_aload_n hX dX10_digest_85 rfl ?_
          refine J_gr hX (r + 1) fr_RX10_7 dX10_digest_86 (show K (r) = 9 from hM 0 (by decide)) rfl ?_
          refine J_iconst hX dX10_digest_89 ?_
          refine J_iald hX dX10_digest_90 (show K (r + 1) = 1000 + 198 from hM 1 (by decide)) ⟨by omega, by omega⟩ (by decide) (fun r90 => ?_)
          rw [w0]
          refine J_irem hX dX10_digest_91 (by omega) ⟨by omega, by omega⟩ ?_
          refine J_iload_n hX dX10_digest_92 rfl ?_
          refine J_aload_n hX dX10_digest_93 rfl ?_
          refine J_gr hX (r + 1) fr_RX10_7 dX10_digest_94 (show K (r) = 9 from hM 0 (by decide)) rfl ?_
          refine J_iconst hX dX10_digest_97 ?_
          refine J_iald hX dX10_digest_98 (show K (r + 1) = 1000 + 198 from hM 1 (by decide)) ⟨by omega, by omega⟩ (by decide) (fun r98 => ?_)
          rw [w0]
          refine J_idiv hX dX10_digest_99 (by omega) ⟨by omega, by omega⟩ ?_
          rw [et1, et2]
          refine J_callVI hX _ dX10_digest_100 cw_RX10_261 (m_X10_shadeOf hM hR3 hW hS3 (by decide) (by omega) (by omega)) ⟨(show K (r) = 9 from hM 0 (by decide)), by decide, by decide, rfl⟩ rfl (Nat.le_of_ble_eq_true rfl) (by decide) ⟨Nat.zero_le _, Nat.zero_le _⟩ (fun r100 => ?_)
          refine J_i2l hX dX10_digest_103 (by omega) ?_
          refine J_callVM hX _ dX10_digest_104 cw_RX10_344 (m_X10_mix hM) ⟨(show K (r) = 9 from hM 0 (by decide)), by decide, by decide, rfl⟩ rfl (Nat.le_of_ble_eq_true rfl) (by decide) ⟨Nat.zero_le _, Nat.zero_le _⟩ (fun r9 M104 q104 => ?_)
          obtain ⟨rfl, hM104⟩ := q104
          have fM104 : ∀ i, i ≠ r → M104 i = M3 i := fun i h => by rw [hM104]; exact mset_ne h
          have gM104 : ∀ i j, j ≠ 23 → M104 i j = M3 i j := fun i j h => by rw [hM104]; exact mset_nj h
          have vM104 := (congrFun (congrFun hM104 r) 23).trans mset_eq
          have hR4 : RS S (M104 (r + 1)) := by rw [fM104 _ (by omega)]; exact hR3
          have hS4 := Sur_fr2 hS3 (fun i hi => fM104 i hi) (fun j hj => gM104 r j hj)
          have w0b : M104 (r + 1) 0 = S 0 3 := hR4.1.1
          refine J_aload_n hX dX10_digest_107 rfl ?_
          refine J_aload_n hX dX10_digest_108 rfl ?_
          refine J_iconst hX dX10_digest_109 ?_
          refine J_iload_n hX dX10_digest_110 rfl ?_
          refine J_aload_n hX dX10_digest_111 rfl ?_
          refine J_gr hX (r + 1) fr_RX10_7 dX10_digest_112 (show K (r) = 9 from hM 0 (by decide)) rfl ?_
          refine J_iconst hX dX10_digest_115 ?_
          refine J_iald hX dX10_digest_116 (show K (r + 1) = 1000 + 198 from hM 1 (by decide)) ⟨by omega, by omega⟩ (by decide) (fun r116 => ?_)
          rw [w0b]
          refine J_irem hX dX10_digest_117 (by omega) ⟨by omega, by omega⟩ ?_
          refine J_iload_n hX dX10_digest_118 rfl ?_
          refine J_aload_n hX dX10_digest_119 rfl ?_
          refine J_gr hX (r + 1) fr_RX10_7 dX10_digest_120 (show K (r) = 9 from hM 0 (by decide)) rfl ?_
          refine J_iconst hX dX10_digest_123 ?_
          refine J_iald hX dX10_digest_124 (show K (r + 1) = 1000 + 198 from hM 1 (by decide)) ⟨by omega, by omega⟩ (by decide) (fun r124 => ?_)
          rw [w0b]
          refine J_idiv hX dX10_digest_125 (by omega) ⟨by omega, by omega⟩ ?_
          rw [et1, et2]
          refine J_callVI hX _ dX10_digest_126 cw_RX10_261 (m_X10_shadeOf hM hR4 hW hS4 (by decide) (by omega) (by omega)) ⟨(show K (r) = 9 from hM 0 (by decide)), by decide, by decide, rfl⟩ rfl (Nat.le_of_ble_eq_true rfl) (by decide) ⟨Nat.zero_le _, Nat.zero_le _⟩ (fun r126 => ?_)
          refine J_i2l hX dX10_digest_129 (by omega) ?_
          refine J_callVM hX _ dX10_digest_130 cw_RX10_344 (m_X10_mix hM) ⟨(show K (r) = 9 from hM 0 (by decide)), by decide, by decide, rfl⟩ rfl (Nat.le_of_ble_eq_true rfl) (by decide) ⟨Nat.zero_le _, Nat.zero_le _⟩ (fun r9 M130 q130 => ?_)
          obtain ⟨rfl, hM130⟩ := q130
          have fM130 : ∀ i, i ≠ r → M130 i = M104 i := fun i h => by rw [hM130]; exact mset_ne h
          have gM130 : ∀ i j, j ≠ 23 → M130 i j = M104 i j := fun i j h => by rw [hM130]; exact mset_nj h
          have vM130 := (congrFun (congrFun hM130 r) 23).trans mset_eq
          refine J_iinc hX dX10_digest_133 rfl (by decide) ?_
          refine J_goto hX 64 dX10_digest_136 (by decide) ?_
          exact J_locI (ih64 (k2 + 1) (by omega) (by omega) _ ⟨fun i hi => by rw [fM130 i hi, fM104 i hi]; exact hi64.1 i hi, fun j hj => by rw [gM130 _ j hj, gM104 _ j hj]; exact hi64.2.1 j hj, by rw [vM130, vM104, hi64.2.2]; rfl⟩) rfl
      exact J_locI (HL64 0 (Nat.zero_le _) _ ⟨fun i hi => by rw [fM59 i hi]; exact hi36.1 i hi, fun j hj => by rw [gM59 j hj]; exact hi36.2.1 j hj, by rw [vM59, hi36.2.2, show k1 = 16 by omega]; rfl⟩) rfl
    · refine J_aload_n hX dX10_digest_42 rfl ?_
      refine J_aload_n hX dX10_digest_43 rfl ?_
      refine J_iload_n hX dX10_digest_44 rfl ?_
      refine J_callVI hX _ dX10_digest_45 cw_RX10_247 (m_X10_wholeOf hM hR3 hW (by omega) hS3) ⟨(show K (r) = 9 from hM 0 (by decide)), by decide, by decide, rfl⟩ rfl (Nat.le_of_ble_eq_true rfl) (by decide) ⟨Nat.zero_le _, Nat.zero_le _⟩ (fun r45 => ?_)
      refine J_i2l hX dX10_digest_48 (by omega) ?_
      refine J_callVM hX _ dX10_digest_49 cw_RX10_344 (m_X10_mix hM) ⟨(show K (r) = 9 from hM 0 (by decide)), by decide, by decide, rfl⟩ rfl (Nat.le_of_ble_eq_true rfl) (by decide) ⟨Nat.zero_le _, Nat.zero_le _⟩ (fun r9 M49 q49 => ?_)
      obtain ⟨rfl, hM49⟩ := q49
      have fM49 : ∀ i, i ≠ r → M49 i = M3 i := fun i h => by rw [hM49]; exact mset_ne h
      have gM49 : ∀ i j, j ≠ 23 → M49 i j = M3 i j := fun i j h => by rw [hM49]; exact mset_nj h
      have vM49 := (congrFun (congrFun hM49 r) 23).trans mset_eq
      refine J_iinc hX dX10_digest_52 rfl (by decide) ?_
      refine J_goto hX 36 dX10_digest_55 (by decide) ?_
      exact J_locI (ih36 (k1 + 1) (by omega) (by omega) _ ⟨fun i hi => by rw [fM49 i hi]; exact hi36.1 i hi, fun j hj => by rw [gM49 _ j hj]; exact hi36.2.1 j hj, by rw [vM49, hi36.2.2]; rfl⟩) rfl
  exact J_locI (HL36 0 (Nat.zero_le _) _ ⟨fun i hi => by rw [fM31 i hi, fM22 i hi]; exact fm13 i hi, fun j hj => by rw [gM31 _ j hj, gM22 _ j hj]; exact gm13 _ j hj, by rw [vM31, vM22, vm13]; rfl⟩) rfl
