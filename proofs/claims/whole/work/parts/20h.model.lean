-- X10_raw
set_option maxHeartbeats 4000000 in
set_option maxRecDepth 100000 in
theorem m_X10_raw {E : EE} {K : Nat → Nat} {M : MM} {r : Nat} {T : Int} {S : MM} {n : Int} (hM : ModelK K r) (hR : RS S (M (r + 1))) (hW : WFS T S) (hn : hs S n) (hz : M (r + 8) n = pos S 6 n) : CnI E 1 yX10_raw cX10_raw 2 (Option.some FieldType.int) [.ref r, vI n] K M (rawg S (S 15 0) n) := by
  obtain ⟨⟨rs0, rs1, rs2, rs3, rs4, rs5, rs6, rs7, rs8, rs9, rs10, rs13⟩, rst, rsn, rsc⟩ := id hR
  have hs9 := hW.2.1
  unfold WFSs at hs9
  have q := rsn n hn.1 hn.2.1
  have hwn := hW.2.2.1 n hn.1 hn.2.1
  have pr := pos_rng hW (k := 6) (by decide) n hn.2.1
  have mb := mul_bd (x := M (r + 1) 7) (y := M (r + 8) n) (A := 100) (B := 1200) (by omega) (by omega) (by omega) (by omega)
  refine ⟨Cn_of RX10 (plainFor_of_name (by decide)) rfl (Nat.le_of_ble_eq_true rfl) (fun X hX hQ => ?_), by have hs9 := hW.2.1; unfold WFSs at hs9; have := raw_rng hW (g := S 15 0) (by omega) n hn.2.1; omega⟩
  refine J_aload_n hX dX10_raw_0 rfl ?_
  refine J_gr hX (r + 1) fr_RX10_7 dX10_raw_1 (show K (r) = 9 from hM 0 (by decide)) rfl ?_
  refine J_bipush hX dX10_raw_4 rfl ?_
  refine J_iald hX dX10_raw_6 (show K (r + 1) = 1000 + 198 from hM 1 (by decide)) ⟨by omega, by omega⟩ (by decide) (fun r6 => ?_)
  refine J_aload_n hX dX10_raw_7 rfl ?_
  refine J_gr hX (r + 8) fr_RX10_31 dX10_raw_8 (show K (r) = 9 from hM 0 (by decide)) rfl ?_
  refine J_iload_n hX dX10_raw_11 rfl ?_
  refine J_iald hX dX10_raw_12 (show K (r + 8) = 1000 + 20 from hM 8 (by decide)) ⟨by omega, by omega⟩ (by decide) (fun r12 => ?_)
  refine J_imul hX dX10_raw_13 ?_
  refine J_bipush hX dX10_raw_14 rfl ?_
  refine J_callSI hX _ dX10_raw_16 cw_RX10_151 (m_X10_floor (by omega) (by omega)) rfl (Nat.le_of_ble_eq_true rfl) (by decide) ⟨Nat.zero_le _, Nat.zero_le _⟩ (fun r16 => ?_)
  exact J_retI hX hQ dX10_raw_19 (by rw [rs7, hz]; rfl) rfl rfl (Nat.zero_le _) (Nat.zero_le _)
