theorem m_X10_thrown {E : EE} {K : Nat → Nat} {M : MM} {r : Nat} (hM : ModelK K r) (h6 : i32 (M r 6)) : CnI E 0 yX10_thrown cX10_thrown 1 (Option.some FieldType.int) [.ref r] K M (M r 6) := by
  refine ⟨Cn_of RX10 (plainFor_of_name (by decide)) rfl (Nat.le_of_ble_eq_true rfl) (fun X hX hQ => ?_), h6⟩
  refine J_aload_n hX dX10_thrown_0 rfl ?_
  refine J_geti hX fi_RX10_47 dX10_thrown_1 hM.k0 (fun r1 => ?_)
  exact J_retI hX hQ dX10_thrown_4 rfl rfl rfl (Nat.zero_le _) (Nat.zero_le _)
