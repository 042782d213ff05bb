def anM (M : MM) (r : Nat) (w h : Int) : MM := (mset (mset (mset (mset (mset (mset (mset (mset M (r + 1) (0) (w)) (r + 1) (1) (h)) (r + 1) (2) (0)) (r + 1) (3) (0)) (r + 1) (4) (0)) (r + 1) (5) (-5)) (r + 1) (6) (5)) (r + 1) (13) (0))
-- X10_anew
set_option maxHeartbeats 4000000 in
set_option maxRecDepth 100000 in
theorem m_X10_anew {E : EE} {K : Nat → Nat} {M : MM} {r : Nat} {w h : Int} (hM : ModelK K r) (hw : i32 w) (hh : i32 h) : CnM E 0 yX10_anew cX10_anew 3 none [.ref r, vI w, vI h] K M (fun r9 M2 => r9 = none ∧ M2 = anM M r w h) := by
  refine Cn_of RX10 (plainFor_of_name (by decide)) rfl (Nat.le_of_ble_eq_true rfl) (fun X hX hQ => ?_)
  refine J_aload_n hX dX10_anew_0 rfl ?_
  refine J_gr hX (r + 1) fr_RX10_7 dX10_anew_1 (show K (r) = 9 from hM 0 (by decide)) rfl ?_
  refine J_iconst hX dX10_anew_4 ?_
  refine J_iload_n hX dX10_anew_5 rfl ?_
  refine J_iast hX dX10_anew_6 (show K (r + 1) = 1000 + 198 from hM 1 (by decide)) ⟨by omega, by omega⟩ (by decide) (by omega) ?_
  refine J_aload_n hX dX10_anew_7 rfl ?_
  refine J_gr hX (r + 1) fr_RX10_7 dX10_anew_8 (show K (r) = 9 from hM 0 (by decide)) rfl ?_
  refine J_iconst hX dX10_anew_11 ?_
  refine J_iload_n hX dX10_anew_12 rfl ?_
  refine J_iast hX dX10_anew_13 (show K (r + 1) = 1000 + 198 from hM 1 (by decide)) ⟨by omega, by omega⟩ (by decide) (by omega) ?_
  refine J_aload_n hX dX10_anew_14 rfl ?_
  refine J_gr hX (r + 1) fr_RX10_7 dX10_anew_15 (show K (r) = 9 from hM 0 (by decide)) rfl ?_
  refine J_iconst hX dX10_anew_18 ?_
  refine J_iconst hX dX10_anew_19 ?_
  refine J_iast hX dX10_anew_20 (show K (r + 1) = 1000 + 198 from hM 1 (by decide)) ⟨by omega, by omega⟩ (by decide) (by omega) ?_
  refine J_aload_n hX dX10_anew_21 rfl ?_
  refine J_gr hX (r + 1) fr_RX10_7 dX10_anew_22 (show K (r) = 9 from hM 0 (by decide)) rfl ?_
  refine J_iconst hX dX10_anew_25 ?_
  refine J_iconst hX dX10_anew_26 ?_
  refine J_iast hX dX10_anew_27 (show K (r + 1) = 1000 + 198 from hM 1 (by decide)) ⟨by omega, by omega⟩ (by decide) (by omega) ?_
  refine J_aload_n hX dX10_anew_28 rfl ?_
  refine J_gr hX (r + 1) fr_RX10_7 dX10_anew_29 (show K (r) = 9 from hM 0 (by decide)) rfl ?_
  refine J_iconst hX dX10_anew_32 ?_
  refine J_iconst hX dX10_anew_33 ?_
  refine J_iast hX dX10_anew_34 (show K (r + 1) = 1000 + 198 from hM 1 (by decide)) ⟨by omega, by omega⟩ (by decide) (by omega) ?_
  refine J_aload_n hX dX10_anew_35 rfl ?_
  refine J_gr hX (r + 1) fr_RX10_7 dX10_anew_36 (show K (r) = 9 from hM 0 (by decide)) rfl ?_
  refine J_iconst hX dX10_anew_39 ?_
  refine J_bipush hX dX10_anew_40 rfl ?_
  refine J_iast hX dX10_anew_42 (show K (r + 1) = 1000 + 198 from hM 1 (by decide)) ⟨by omega, by omega⟩ (by decide) (by omega) ?_
  refine J_aload_n hX dX10_anew_43 rfl ?_
  refine J_gr hX (r + 1) fr_RX10_7 dX10_anew_44 (show K (r) = 9 from hM 0 (by decide)) rfl ?_
  refine J_bipush hX dX10_anew_47 rfl ?_
  refine J_iconst hX dX10_anew_49 ?_
  refine J_iast hX dX10_anew_50 (show K (r + 1) = 1000 + 198 from hM 1 (by decide)) ⟨by omega, by omega⟩ (by decide) (by omega) ?_
  refine J_aload_n hX dX10_anew_51 rfl ?_
  refine J_gr hX (r + 1) fr_RX10_7 dX10_anew_52 (show K (r) = 9 from hM 0 (by decide)) rfl ?_
  refine J_bipush hX dX10_anew_55 rfl ?_
  refine J_iconst hX dX10_anew_57 ?_
  refine J_iast hX dX10_anew_58 (show K (r + 1) = 1000 + 198 from hM 1 (by decide)) ⟨by omega, by omega⟩ (by decide) (by omega) ?_
  exact J_vret hX hQ dX10_anew_59 ⟨rfl, by exact ⟨rfl, rfl⟩⟩ (Nat.zero_le _) (Nat.zero_le _)
-- X10_begins
set_option maxHeartbeats 4000000 in
set_option maxRecDepth 100000 in
theorem m_X10_begins {E : EE} {K : Nat → Nat} {M : MM} {r : Nat} {w h : Int} (hM : ModelK K r) (hw : i32 w) (hh : i32 h) : CnM E 1 yX10_begins cX10_begins 4 (Option.some FieldType.int) [.ref r, vI w, vI h] K M (fun r9 M2 => r9 = some (vI (M (r + 1) 4)) ∧ M2 = anM M r w h) := by
  refine Cn_of RX10 (plainFor_of_name (by decide)) rfl (Nat.le_of_ble_eq_true rfl) (fun X hX hQ => ?_)
  refine J_aload_n hX dX10_begins_0 rfl ?_
  refine J_gr hX (r + 1) fr_RX10_7 dX10_begins_1 (show K (r) = 9 from hM 0 (by decide)) rfl ?_
  refine J_iconst hX dX10_begins_4 ?_
  refine J_iald hX dX10_begins_5 (show K (r + 1) = 1000 + 198 from hM 1 (by decide)) ⟨by omega, by omega⟩ (by decide) (fun r5 => ?_)
  refine J_istore_n hX dX10_begins_6 (by decide) ?_
  refine J_aload_n hX dX10_begins_7 rfl ?_
  refine J_iload_n hX dX10_begins_8 rfl ?_
  refine J_iload_n hX dX10_begins_9 rfl ?_
  refine J_callVM hX _ dX10_begins_10 cw_RX10_43 (m_X10_anew hM (by omega) (by omega)) ⟨(show K (r) = 9 from hM 0 (by decide)), by decide, by decide, rfl⟩ rfl (Nat.le_of_ble_eq_true rfl) (by decide) ⟨Nat.zero_le _, Nat.zero_le _⟩ (fun r9 M10 q10 => ?_)
  obtain ⟨rfl, rfl⟩ := q10
  refine J_iload_n hX dX10_begins_13 rfl ?_
  exact J_iret hX hQ dX10_begins_14 ⟨rfl, by exact ⟨rfl, rfl⟩⟩ (Nat.zero_le _) (Nat.zero_le _)
-- X10_moves
set_option maxHeartbeats 4000000 in
set_option maxRecDepth 100000 in
theorem m_X10_moves {E : EE} {K : Nat → Nat} {M : MM} {r : Nat} {n u v w : Int} (hM : ModelK K r) (hn : 0 ≤ n ∧ n < 20) (hu : i32 u) (hv : i32 v) (hw : i32 w) : CnM E 0 yX10_moves cX10_moves 7 (Option.some FieldType.int) [.ref r, vI n, vI u, vI v, vI w] K M (fun r9 M2 => r9 = some (vI (M (r + 1) (14 + 8 * n + 3))) ∧ M2 = (mset (mset (mset M (r + 1) (14 + 8 * n + 1) (u)) (r + 1) (14 + 8 * n + 2) (v)) (r + 1) (14 + 8 * n + 3) (w))) := by
  refine Cn_of RX10 (plainFor_of_name (by decide)) rfl (Nat.le_of_ble_eq_true rfl) (fun X hX hQ => ?_)
  refine J_bipush hX dX10_moves_0 rfl ?_
  refine J_bipush hX dX10_moves_2 rfl ?_
  refine J_iload_n hX dX10_moves_4 rfl ?_
  refine J_imul hX dX10_moves_5 ?_
  refine J_iadd hX dX10_moves_6 ?_
  refine J_istore hX dX10_moves_7 (by decide) ?_
  refine J_aload_n hX dX10_moves_9 rfl ?_
  refine J_gr hX (r + 1) fr_RX10_7 dX10_moves_10 (show K (r) = 9 from hM 0 (by decide)) rfl ?_
  refine J_iload hX dX10_moves_13 rfl ?_
  refine J_iconst hX dX10_moves_15 ?_
  refine J_iadd hX dX10_moves_16 ?_
  refine J_iald hX dX10_moves_17 (show K (r + 1) = 1000 + 198 from hM 1 (by decide)) ⟨by omega, by omega⟩ (by decide) (fun r17 => ?_)
  refine J_istore hX dX10_moves_18 (by decide) ?_
  refine J_aload_n hX dX10_moves_20 rfl ?_
  refine J_gr hX (r + 1) fr_RX10_7 dX10_moves_21 (show K (r) = 9 from hM 0 (by decide)) rfl ?_
  refine J_iload hX dX10_moves_24 rfl ?_
  refine J_iconst hX dX10_moves_26 ?_
  refine J_iadd hX dX10_moves_27 ?_
  refine J_iload_n hX dX10_moves_28 rfl ?_
  refine J_iast hX dX10_moves_29 (show K (r + 1) = 1000 + 198 from hM 1 (by decide)) ⟨by omega, by omega⟩ (by decide) (by omega) ?_
  refine J_aload_n hX dX10_moves_30 rfl ?_
  refine J_gr hX (r + 1) fr_RX10_7 dX10_moves_31 (show K (r) = 9 from hM 0 (by decide)) rfl ?_
  refine J_iload hX dX10_moves_34 rfl ?_
  refine J_iconst hX dX10_moves_36 ?_
  refine J_iadd hX dX10_moves_37 ?_
  refine J_iload_n hX dX10_moves_38 rfl ?_
  refine J_iast hX dX10_moves_39 (show K (r + 1) = 1000 + 198 from hM 1 (by decide)) ⟨by omega, by omega⟩ (by decide) (by omega) ?_
  refine J_aload_n hX dX10_moves_40 rfl ?_
  refine J_gr hX (r + 1) fr_RX10_7 dX10_moves_41 (show K (r) = 9 from hM 0 (by decide)) rfl ?_
  refine J_iload hX dX10_moves_44 rfl ?_
  refine J_iconst hX dX10_moves_46 ?_
  refine J_iadd hX dX10_moves_47 ?_
  refine J_iload hX dX10_moves_48 rfl ?_
  refine J_iast hX dX10_moves_50 (show K (r + 1) = 1000 + 198 from hM 1 (by decide)) ⟨by omega, by omega⟩ (by decide) (by omega) ?_
  refine J_iload hX dX10_moves_51 rfl ?_
  exact J_iret hX hQ dX10_moves_53 ⟨rfl, by exact ⟨rfl, rfl⟩⟩ (Nat.zero_le _) (Nat.zero_le _)
-- X10_sets
set_option maxHeartbeats 4000000 in
set_option maxRecDepth 100000 in
theorem m_X10_sets {E : EE} {K : Nat → Nat} {M : MM} {r : Nat} {w v : Int} (hM : ModelK K r) (hw : 0 ≤ w ∧ w < 4) (hv : i32 v) : CnM E 0 yX10_sets cX10_sets 4 (Option.some FieldType.int) [.ref r, vI w, vI v] K M (fun r9 M2 => r9 = some (vI (M (r + 1) (7 + w))) ∧ M2 = (mset M (r + 1) (7 + w) (v))) := by
  refine Cn_of RX10 (plainFor_of_name (by decide)) rfl (Nat.le_of_ble_eq_true rfl) (fun X hX hQ => ?_)
  refine J_aload_n hX dX10_sets_0 rfl ?_
  refine J_gr hX (r + 1) fr_RX10_7 dX10_sets_1 (show K (r) = 9 from hM 0 (by decide)) rfl ?_
  refine J_bipush hX dX10_sets_4 rfl ?_
  refine J_iload_n hX dX10_sets_6 rfl ?_
  refine J_iadd hX dX10_sets_7 ?_
  refine J_iald hX dX10_sets_8 (show K (r + 1) = 1000 + 198 from hM 1 (by decide)) ⟨by omega, by omega⟩ (by decide) (fun r8 => ?_)
  refine J_istore_n hX dX10_sets_9 (by decide) ?_
  refine J_aload_n hX dX10_sets_10 rfl ?_
  refine J_gr hX (r + 1) fr_RX10_7 dX10_sets_11 (show K (r) = 9 from hM 0 (by decide)) rfl ?_
  refine J_bipush hX dX10_sets_14 rfl ?_
  refine J_iload_n hX dX10_sets_16 rfl ?_
  refine J_iadd hX dX10_sets_17 ?_
  refine J_iload_n hX dX10_sets_18 rfl ?_
  refine J_iast hX dX10_sets_19 (show K (r + 1) = 1000 + 198 from hM 1 (by decide)) ⟨by omega, by omega⟩ (by decide) (by omega) ?_
  refine J_iload_n hX dX10_sets_20 rfl ?_
  exact J_iret hX hQ dX10_sets_21 ⟨rfl, by exact ⟨rfl, rfl⟩⟩ (Nat.zero_le _) (Nat.zero_le _)
-- X10_setsTitle
set_option maxHeartbeats 4000000 in
set_option maxRecDepth 100000 in
theorem m_X10_setsTitle {E : EE} {K : Nat → Nat} {M : MM} {r : Nat} {x y l : Int} (hM : ModelK K r) (hx : i32 x) (hy : i32 y) (hl : i32 l) : CnM E 0 yX10_setsTitle cX10_setsTitle 5 (Option.some FieldType.int) [.ref r, vI x, vI y, vI l] K M (fun r9 M2 => r9 = some (vI (M (r + 1) 13)) ∧ M2 = (mset (mset (mset M (r + 1) (11) (x)) (r + 1) (12) (y)) (r + 1) (13) (l))) := by
  refine Cn_of RX10 (plainFor_of_name (by decide)) rfl (Nat.le_of_ble_eq_true rfl) (fun X hX hQ => ?_)
  refine J_aload_n hX dX10_setsTitle_0 rfl ?_
  refine J_gr hX (r + 1) fr_RX10_7 dX10_setsTitle_1 (show K (r) = 9 from hM 0 (by decide)) rfl ?_
  refine J_bipush hX dX10_setsTitle_4 rfl ?_
  refine J_iald hX dX10_setsTitle_6 (show K (r + 1) = 1000 + 198 from hM 1 (by decide)) ⟨by omega, by omega⟩ (by decide) (fun r6 => ?_)
  refine J_istore hX dX10_setsTitle_7 (by decide) ?_
  refine J_aload_n hX dX10_setsTitle_9 rfl ?_
  refine J_gr hX (r + 1) fr_RX10_7 dX10_setsTitle_10 (show K (r) = 9 from hM 0 (by decide)) rfl ?_
  refine J_bipush hX dX10_setsTitle_13 rfl ?_
  refine J_iload_n hX dX10_setsTitle_15 rfl ?_
  refine J_iast hX dX10_setsTitle_16 (show K (r + 1) = 1000 + 198 from hM 1 (by decide)) ⟨by omega, by omega⟩ (by decide) (by omega) ?_
  refine J_aload_n hX dX10_setsTitle_17 rfl ?_
  refine J_gr hX (r + 1) fr_RX10_7 dX10_setsTitle_18 (show K (r) = 9 from hM 0 (by decide)) rfl ?_
  refine J_bipush hX dX10_setsTitle_21 rfl ?_
  refine J_iload_n hX dX10_setsTitle_23 rfl ?_
  refine J_iast hX dX10_setsTitle_24 (show K (r + 1) = 1000 + 198 from hM 1 (by decide)) ⟨by omega, by omega⟩ (by decide) (by omega) ?_
  refine J_aload_n hX dX10_setsTitle_25 rfl ?_
  refine J_gr hX (r + 1) fr_RX10_7 dX10_setsTitle_26 (show K (r) = 9 from hM 0 (by decide)) rfl ?_
  refine J_bipush hX dX10_setsTitle_29 rfl ?_
  refine J_iload_n hX dX10_setsTitle_31 rfl ?_
  refine J_iast hX dX10_setsTitle_32 (show K (r + 1) = 1000 + 198 from hM 1 (by decide)) ⟨by omega, by omega⟩ (by decide) (by omega) ?_
  refine J_iload hX dX10_setsTitle_33 rfl ?_
  exact J_iret hX hQ dX10_setsTitle_35 ⟨rfl, by exact ⟨rfl, rfl⟩⟩ (Nat.zero_le _) (Nat.zero_le _)
def asM (M : MM) (r : Nat) (l g t : Int) : MM := (mset (mset (mset (mset M (r + 1) (174 + 3 * M (r + 1) 3) (l)) (r + 1) (174 + 3 * M (r + 1) 3 + 1) (g)) (r + 1) (174 + 3 * M (r + 1) 3 + 2) (t)) (r + 1) (3) (M (r + 1) 3 + 1))
-- X10_addsScene
set_option maxHeartbeats 4000000 in
set_option maxRecDepth 100000 in
theorem m_X10_addsScene {E : EE} {K : Nat → Nat} {M : MM} {r : Nat} {l g t : Int} (hM : ModelK K r) (hc : 0 ≤ M (r + 1) 3 ∧ M (r + 1) 3 < 8) (hl : i32 l) (hg : i32 g) (ht : i32 t) : CnM E 0 yX10_addsScene cX10_addsScene 5 (Option.some FieldType.int) [.ref r, vI l, vI g, vI t] K M (fun r9 M2 => r9 = some (vI (M (r + 1) 3)) ∧ M2 = asM M r l g t) := by
  refine Cn_of RX10 (plainFor_of_name (by decide)) rfl (Nat.le_of_ble_eq_true rfl) (fun X hX hQ => ?_)
  refine J_sipush hX dX10_addsScene_0 rfl ?_
  refine J_iconst hX dX10_addsScene_3 ?_
  refine J_aload_n hX dX10_addsScene_4 rfl ?_
  refine J_gr hX (r + 1) fr_RX10_7 dX10_addsScene_5 (show K (r) = 9 from hM 0 (by decide)) rfl ?_
  refine J_iconst hX dX10_addsScene_8 ?_
  refine J_iald hX dX10_addsScene_9 (show K (r + 1) = 1000 + 198 from hM 1 (by decide)) ⟨by omega, by omega⟩ (by decide) (fun r9 => ?_)
  refine J_imul hX dX10_addsScene_10 ?_
  refine J_iadd hX dX10_addsScene_11 ?_
  refine J_istore hX dX10_addsScene_12 (by decide) ?_
  refine J_aload_n hX dX10_addsScene_14 rfl ?_
  refine J_gr hX (r + 1) fr_RX10_7 dX10_addsScene_15 (show K (r) = 9 from hM 0 (by decide)) rfl ?_
  refine J_iload hX dX10_addsScene_18 rfl ?_
  refine J_iload_n hX dX10_addsScene_20 rfl ?_
  refine J_istA hX dX10_addsScene_21 (show K (r + 1) = 1000 + 198 from hM 1 (by decide)) ⟨by omega, by omega⟩ (by decide) (by omega) (fun m21 hm21 => ?_)
  have fm21 : ∀ i, i ≠ r + 1 → m21 i = M i := fun i h => by rw [hm21]; exact mset_ne h
  refine J_aload_n hX dX10_addsScene_22 rfl ?_
  refine J_gr hX (r + 1) fr_RX10_7 dX10_addsScene_23 (show K (r) = 9 from hM 0 (by decide)) rfl ?_
  refine J_iload hX dX10_addsScene_26 rfl ?_
  refine J_iconst hX dX10_addsScene_28 ?_
  refine J_iadd hX dX10_addsScene_29 ?_
  refine J_iload_n hX dX10_addsScene_30 rfl ?_
  refine J_istA hX dX10_addsScene_31 (show K (r + 1) = 1000 + 198 from hM 1 (by decide)) ⟨by omega, by omega⟩ (by decide) (by omega) (fun m31 hm31 => ?_)
  have fm31 : ∀ i, i ≠ r + 1 → m31 i = m21 i := fun i h => by rw [hm31]; exact mset_ne h
  refine J_aload_n hX dX10_addsScene_32 rfl ?_
  refine J_gr hX (r + 1) fr_RX10_7 dX10_addsScene_33 (show K (r) = 9 from hM 0 (by decide)) rfl ?_
  refine J_iload hX dX10_addsScene_36 rfl ?_
  refine J_iconst hX dX10_addsScene_38 ?_
  refine J_iadd hX dX10_addsScene_39 ?_
  refine J_iload_n hX dX10_addsScene_40 rfl ?_
  refine J_istA hX dX10_addsScene_41 (show K (r + 1) = 1000 + 198 from hM 1 (by decide)) ⟨by omega, by omega⟩ (by decide) (by omega) (fun m41 hm41 => ?_)
  have fm41 : ∀ i, i ≠ r + 1 → m41 i = m31 i := fun i h => by rw [hm41]; exact mset_ne h
  refine J_aload_n hX dX10_addsScene_42 rfl ?_
  refine J_gr hX (r + 1) fr_RX10_7 dX10_addsScene_43 (show K (r) = 9 from hM 0 (by decide)) rfl ?_
  refine J_iconst hX dX10_addsScene_46 ?_
  refine J_dup2 hX dX10_addsScene_47 ⟨rfl, rfl⟩ ?_
  refine J_iald hX dX10_addsScene_48 (show K (r + 1) = 1000 + 198 from hM 1 (by decide)) ⟨by omega, by omega⟩ (by decide) (fun r48 => ?_)
  have e3 : m41 (r + 1) 3 = M (r + 1) 3 := by rw [hm41, mset_nj (by omega), hm31, mset_nj (by omega), hm21, mset_nj (by omega)]
  rw [e3]
  refine J_iconst hX dX10_addsScene_49 ?_
  refine J_iadd hX dX10_addsScene_50 ?_
  refine J_istA hX dX10_addsScene_51 (show K (r + 1) = 1000 + 198 from hM 1 (by decide)) ⟨by omega, by omega⟩ (by decide) (by omega) (fun m51 hm51 => ?_)
  have fm51 : ∀ i, i ≠ r + 1 → m51 i = m41 i := fun i h => by rw [hm51]; exact mset_ne h
  have gm51 : ∀ i j, j ≠ 3 → m51 i j = m41 i j := fun i j h => by rw [hm51]; exact mset_nj h
  have vm51 := (congrFun (congrFun hm51 (r + 1)) (3)).trans mset_eq
  refine J_aload_n hX dX10_addsScene_52 rfl ?_
  refine J_gr hX (r + 1) fr_RX10_7 dX10_addsScene_53 (show K (r) = 9 from hM 0 (by decide)) rfl ?_
  refine J_iconst hX dX10_addsScene_56 ?_
  refine J_iald hX dX10_addsScene_57 (show K (r + 1) = 1000 + 198 from hM 1 (by decide)) ⟨by omega, by omega⟩ (by decide) (fun r57 => ?_)
  refine J_iconst hX dX10_addsScene_58 ?_
  refine J_isub hX dX10_addsScene_59 ?_
  exact J_iret hX hQ dX10_addsScene_60 ⟨rfl, by exact ⟨by rw [hm51, mset_eq, Int.add_sub_cancel], by rw [hm51, hm41, hm31, hm21]; rfl⟩⟩ (Nat.zero_le _) (Nat.zero_le _)
def adM (M : MM) (r : Nat) (p u v w wd hg : Int) : MM := (mset (mset (mset (mset (mset (mset (mset (mset M (r + 1) (14 + 8 * M (r + 1) 2) (p)) (r + 1) (14 + 8 * M (r + 1) 2 + 1) (u)) (r + 1) (14 + 8 * M (r + 1) 2 + 2) (v)) (r + 1) (14 + 8 * M (r + 1) 2 + 3) (w)) (r + 1) (14 + 8 * M (r + 1) 2 + 4) (wd)) (r + 1) (14 + 8 * M (r + 1) 2 + 5) (hg)) (r + 1) (14 + 8 * M (r + 1) 2 + 6) (8)) (r + 1) (2) (M (r + 1) 2 + 1))
-- X10_adds
set_option maxHeartbeats 4000000 in
set_option maxRecDepth 100000 in
theorem m_X10_adds {E : EE} {K : Nat → Nat} {M : MM} {r : Nat} {p u v w wd hg : Int} (hM : ModelK K r) (hc : 0 ≤ M (r + 1) 2 ∧ M (r + 1) 2 < 20) (hp : i32 p) (hu : i32 u) (hv : i32 v) (hw : i32 w) (hwd : i32 wd) (hhg : i32 hg) : CnM E 0 yX10_adds cX10_adds 8 (Option.some FieldType.int) [.ref r, vI p, vI u, vI v, vI w, vI wd, vI hg] K M (fun r9 M2 => r9 = some (vI (M (r + 1) 2)) ∧ M2 = adM M r p u v w wd hg) := by
  refine Cn_of RX10 (plainFor_of_name (by decide)) rfl (Nat.le_of_ble_eq_true rfl) (fun X hX hQ => ?_)
  refine J_bipush hX dX10_adds_0 rfl ?_
  refine J_bipush hX dX10_adds_2 rfl ?_
  refine J_aload_n hX dX10_adds_4 rfl ?_
  refine J_gr hX (r + 1) fr_RX10_7 dX10_adds_5 (show K (r) = 9 from hM 0 (by decide)) rfl ?_
  refine J_iconst hX dX10_adds_8 ?_
  refine J_iald hX dX10_adds_9 (show K (r + 1) = 1000 + 198 from hM 1 (by decide)) ⟨by omega, by omega⟩ (by decide) (fun r9 => ?_)
  refine J_imul hX dX10_adds_10 ?_
  refine J_iadd hX dX10_adds_11 ?_
  refine J_istore hX dX10_adds_12 (by decide) ?_
  refine J_aload_n hX dX10_adds_14 rfl ?_
  refine J_gr hX (r + 1) fr_RX10_7 dX10_adds_15 (show K (r) = 9 from hM 0 (by decide)) rfl ?_
  refine J_iload hX dX10_adds_18 rfl ?_
  refine J_iload_n hX dX10_adds_20 rfl ?_
  refine J_istA hX dX10_adds_21 (show K (r + 1) = 1000 + 198 from hM 1 (by decide)) ⟨by omega, by omega⟩ (by decide) (by omega) (fun m21 hm21 => ?_)
  have fm21 : ∀ i, i ≠ r + 1 → m21 i = M i := fun i h => by rw [hm21]; exact mset_ne h
  refine J_aload_n hX dX10_adds_22 rfl ?_
  refine J_gr hX (r + 1) fr_RX10_7 dX10_adds_23 (show K (r) = 9 from hM 0 (by decide)) rfl ?_
  refine J_iload hX dX10_adds_26 rfl ?_
  refine J_iconst hX dX10_adds_28 ?_
  refine J_iadd hX dX10_adds_29 ?_
  refine J_iload_n hX dX10_adds_30 rfl ?_
  refine J_istA hX dX10_adds_31 (show K (r + 1) = 1000 + 198 from hM 1 (by decide)) ⟨by omega, by omega⟩ (by decide) (by omega) (fun m31 hm31 => ?_)
  have fm31 : ∀ i, i ≠ r + 1 → m31 i = m21 i := fun i h => by rw [hm31]; exact mset_ne h
  refine J_aload_n hX dX10_adds_32 rfl ?_
  refine J_gr hX (r + 1) fr_RX10_7 dX10_adds_33 (show K (r) = 9 from hM 0 (by decide)) rfl ?_
  refine J_iload hX dX10_adds_36 rfl ?_
  refine J_iconst hX dX10_adds_38 ?_
  refine J_iadd hX dX10_adds_39 ?_
  refine J_iload_n hX dX10_adds_40 rfl ?_
  refine J_istA hX dX10_adds_41 (show K (r + 1) = 1000 + 198 from hM 1 (by decide)) ⟨by omega, by omega⟩ (by decide) (by omega) (fun m41 hm41 => ?_)
  have fm41 : ∀ i, i ≠ r + 1 → m41 i = m31 i := fun i h => by rw [hm41]; exact mset_ne h
  refine J_aload_n hX dX10_adds_42 rfl ?_
  refine J_gr hX (r + 1) fr_RX10_7 dX10_adds_43 (show K (r) = 9 from hM 0 (by decide)) rfl ?_
  refine J_iload hX dX10_adds_46 rfl ?_
  refine J_iconst hX dX10_adds_48 ?_
  refine J_iadd hX dX10_adds_49 ?_
  refine J_iload hX dX10_adds_50 rfl ?_
  refine J_istA hX dX10_adds_52 (show K (r + 1) = 1000 + 198 from hM 1 (by decide)) ⟨by omega, by omega⟩ (by decide) (by omega) (fun m52 hm52 => ?_)
  have fm52 : ∀ i, i ≠ r + 1 → m52 i = m41 i := fun i h => by rw [hm52]; exact mset_ne h
  refine J_aload_n hX dX10_adds_53 rfl ?_
  refine J_gr hX (r + 1) fr_RX10_7 dX10_adds_54 (show K (r) = 9 from hM 0 (by decide)) rfl ?_
  refine J_iload hX dX10_adds_57 rfl ?_
  refine J_iconst hX dX10_adds_59 ?_
  refine J_iadd hX dX10_adds_60 ?_
  refine J_iload hX dX10_adds_61 rfl ?_
  refine J_istA hX dX10_adds_63 (show K (r + 1) = 1000 + 198 from hM 1 (by decide)) ⟨by omega, by omega⟩ (by decide) (by omega) (fun m63 hm63 => ?_)
  have fm63 : ∀ i, i ≠ r + 1 → m63 i = m52 i := fun i h => by rw [hm63]; exact mset_ne h
  refine J_aload_n hX dX10_adds_64 rfl ?_
  refine J_gr hX (r + 1) fr_RX10_7 dX10_adds_65 (show K (r) = 9 from hM 0 (by decide)) rfl ?_
  refine J_iload hX dX10_adds_68 rfl ?_
  refine J_iconst hX dX10_adds_70 ?_
  refine J_iadd hX dX10_adds_71 ?_
  refine J_iload hX dX10_adds_72 rfl ?_
  refine J_istA hX dX10_adds_74 (show K (r + 1) = 1000 + 198 from hM 1 (by decide)) ⟨by omega, by omega⟩ (by decide) (by omega) (fun m74 hm74 => ?_)
  have fm74 : ∀ i, i ≠ r + 1 → m74 i = m63 i := fun i h => by rw [hm74]; exact mset_ne h
  refine J_aload_n hX dX10_adds_75 rfl ?_
  refine J_gr hX (r + 1) fr_RX10_7 dX10_adds_76 (show K (r) = 9 from hM 0 (by decide)) rfl ?_
  refine J_iload hX dX10_adds_79 rfl ?_
  refine J_bipush hX dX10_adds_81 rfl ?_
  refine J_iadd hX dX10_adds_83 ?_
  refine J_bipush hX dX10_adds_84 rfl ?_
  refine J_istA hX dX10_adds_86 (show K (r + 1) = 1000 + 198 from hM 1 (by decide)) ⟨by omega, by omega⟩ (by decide) (by omega) (fun m86 hm86 => ?_)
  have fm86 : ∀ i, i ≠ r + 1 → m86 i = m74 i := fun i h => by rw [hm86]; exact mset_ne h
  refine J_aload_n hX dX10_adds_87 rfl ?_
  refine J_gr hX (r + 1) fr_RX10_7 dX10_adds_88 (show K (r) = 9 from hM 0 (by decide)) rfl ?_
  refine J_iconst hX dX10_adds_91 ?_
  refine J_dup2 hX dX10_adds_92 ⟨rfl, rfl⟩ ?_
  refine J_iald hX dX10_adds_93 (show K (r + 1) = 1000 + 198 from hM 1 (by decide)) ⟨by omega, by omega⟩ (by decide) (fun r93 => ?_)
  have e2 : m86 (r + 1) 2 = M (r + 1) 2 := by rw [hm86, mset_nj (by omega), hm74, mset_nj (by omega), hm63, mset_nj (by omega), hm52, mset_nj (by omega), hm41, mset_nj (by omega), hm31, mset_nj (by omega), hm21, mset_nj (by omega)]
  rw [e2]
  refine J_iconst hX dX10_adds_94 ?_
  refine J_iadd hX dX10_adds_95 ?_
  refine J_istA hX dX10_adds_96 (show K (r + 1) = 1000 + 198 from hM 1 (by decide)) ⟨by omega, by omega⟩ (by decide) (by omega) (fun m96 hm96 => ?_)
  have fm96 : ∀ i, i ≠ r + 1 → m96 i = m86 i := fun i h => by rw [hm96]; exact mset_ne h
  have gm96 : ∀ i j, j ≠ 2 → m96 i j = m86 i j := fun i j h => by rw [hm96]; exact mset_nj h
  have vm96 := (congrFun (congrFun hm96 (r + 1)) (2)).trans mset_eq
  refine J_aload_n hX dX10_adds_97 rfl ?_
  refine J_gr hX (r + 1) fr_RX10_7 dX10_adds_98 (show K (r) = 9 from hM 0 (by decide)) rfl ?_
  refine J_iconst hX dX10_adds_101 ?_
  refine J_iald hX dX10_adds_102 (show K (r + 1) = 1000 + 198 from hM 1 (by decide)) ⟨by omega, by omega⟩ (by decide) (fun r102 => ?_)
  refine J_iconst hX dX10_adds_103 ?_
  refine J_isub hX dX10_adds_104 ?_
  exact J_iret hX hQ dX10_adds_105 ⟨rfl, by exact ⟨by rw [hm96, mset_eq, Int.add_sub_cancel], by rw [hm96, hm86, hm74, hm63, hm52, hm41, hm31, hm21]; rfl⟩⟩ (Nat.zero_le _) (Nat.zero_le _)
