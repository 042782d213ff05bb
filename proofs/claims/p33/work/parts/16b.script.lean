-- X4_append
set_option maxHeartbeats 4000000 in
set_option maxRecDepth 100000 in
theorem m_X4_append {E : EE} {K : Nat → Nat} {M : MM} {c : Nat} {v : Int} (hc : K c = 4 ∧ K (c + 1) = 1000 + 150 ∧ K (c + 2) = 1000 + 6) (hl : 0 ≤ M c 0 ∧ M c 0 < 150) (hv : i32 v) : CnM E 0 yX4_append cX4_append 2 (Option.some FieldType.int) [.ref c, vI v] K M (fun r M2 => r = some (vI (M c 0 + 1)) ∧ M2 = mset (mset M (c + 1) (M c 0) v) c 0 (M c 0 + 1)) := by
  refine Cn_of RX4 (plainFor_of_name (by decide)) rfl (Nat.le_of_ble_eq_true rfl) (fun X hX hQ => ?_)
  refine J_aload_n hX dX4_append_0 rfl ?_
  refine J_geti hX fi_RX4_18 dX4_append_1 (show K (c) = 4 from hc.1) (fun r1 => ?_)
  refine J_if_lt hX 37 dX4_append_4 (by omega) (by decide) (fun c4 => ?_) (fun c4 => ?_)
  · refine J_aload_n hX dX4_append_37 rfl ?_
    refine J_geti hX fi_RX4_18 dX4_append_38 (show K (c) = 4 from hc.1) (fun r38 => ?_)
    exact J_iret hX hQ dX4_append_41 ⟨rfl, by first | (exfalso; omega) | exact ⟨by rw [mset_eq], rfl⟩⟩ (Nat.zero_le _) (Nat.zero_le _)
  · refine J_aload_n hX dX4_append_7 rfl ?_
    refine J_geti hX fi_RX4_18 dX4_append_8 (show K (c) = 4 from hc.1) (fun r8 => ?_)
    refine J_sipush hX dX4_append_11 rfl ?_
    refine J_icmp_ge hX 37 dX4_append_14 (by omega) (by decide) (by decide) (fun c14 => ?_) (fun c14 => ?_)
    · refine J_aload_n hX dX4_append_37 rfl ?_
      refine J_geti hX fi_RX4_18 dX4_append_38 (show K (c) = 4 from hc.1) (fun r38 => ?_)
      exact J_iret hX hQ dX4_append_41 ⟨rfl, by first | (exfalso; omega) | exact ⟨by rw [mset_eq], rfl⟩⟩ (Nat.zero_le _) (Nat.zero_le _)
    · refine J_aload_n hX dX4_append_17 rfl ?_
      refine J_gr hX (c + 1) fr_RX4_9 dX4_append_18 (show K (c) = 4 from hc.1) rfl ?_
      refine J_aload_n hX dX4_append_21 rfl ?_
      refine J_geti hX fi_RX4_18 dX4_append_22 (show K (c) = 4 from hc.1) (fun r22 => ?_)
      refine J_iload_n hX dX4_append_25 rfl ?_
      refine J_iast hX dX4_append_26 (show K (c + 1) = 1000 + 150 from hc.2.1) ⟨by omega, by omega⟩ (by decide) (by omega) ?_
      refine J_aload_n hX dX4_append_27 rfl ?_
      refine J_dup hX dX4_append_28 rfl ?_
      refine J_geti hX fi_RX4_18 dX4_append_29 (show K (c) = 4 from hc.1) (fun r29 => ?_)
      rw [show mset M (c + 1) (M c 0) v c 0 = M c 0 by rw [mset_ne (by omega)]]
      refine J_iconst hX dX4_append_32 ?_
      refine J_iadd hX dX4_append_33 ?_
      refine J_puti hX fw_RX4_18 dX4_append_34 (show K (c) = 4 from hc.1) (by omega) (Or.inl rfl) ?_
      refine J_aload_n hX dX4_append_37 rfl ?_
      refine J_geti hX fi_RX4_18 dX4_append_38 (show K (c) = 4 from hc.1) (fun r38 => ?_)
      exact J_iret hX hQ dX4_append_41 ⟨rfl, by first | (exfalso; omega) | exact ⟨by rw [mset_eq], rfl⟩⟩ (Nat.zero_le _) (Nat.zero_le _)
-- X4_isDigit
set_option maxHeartbeats 4000000 in
set_option maxRecDepth 100000 in
theorem m_X4_isDigit {E : EE} {K : Nat → Nat} {M : MM} {v : Int} (hv : i32 v) : CnB E 0 yX4_isDigit cX4_isDigit 1 [vI v] K M (48 ≤ v ∧ v ≤ 57) := by
  refine Cn_of RX4 (plainFor_of_name (by decide)) rfl (Nat.le_of_ble_eq_true rfl) (fun X hX hQ => ?_)
  refine J_iload_n hX dX4_isDigit_0 rfl ?_
  refine J_bipush hX dX4_isDigit_1 rfl ?_
  refine J_icmp_lt hX 16 dX4_isDigit_3 (by omega) (by decide) (by decide) (fun c3 => ?_) (fun c3 => ?_)
  · refine J_iconst hX dX4_isDigit_16 ?_
    exact J_retF hX hQ dX4_isDigit_17 (by omega) rfl rfl (Nat.zero_le _) (Nat.zero_le _)
  · refine J_iload_n hX dX4_isDigit_6 rfl ?_
    refine J_bipush hX dX4_isDigit_7 rfl ?_
    refine J_icmp_gt hX 16 dX4_isDigit_9 (by omega) (by decide) (by decide) (fun c9 => ?_) (fun c9 => ?_)
    · refine J_iconst hX dX4_isDigit_16 ?_
      exact J_retF hX hQ dX4_isDigit_17 (by omega) rfl rfl (Nat.zero_le _) (Nat.zero_le _)
    · refine J_iconst hX dX4_isDigit_12 ?_
      refine J_goto hX 17 dX4_isDigit_13 (by decide) ?_
      exact J_retT hX hQ dX4_isDigit_17 (by omega) rfl rfl (Nat.zero_le _) (Nat.zero_le _)
