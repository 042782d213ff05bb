-- X9_copyRow
set_option maxHeartbeats 4000000 in
set_option maxRecDepth 100000 in
theorem m_X9_copyRow {E : EE} {K : Nat → Nat} {M : MM} {i0 i1 n : Nat} (h0 : K i0 = 1000 + n) (h1 : K i1 = 1000 + n) (hn : n < 1000000) (hne : i0 ≠ i1) : CnM E 1 yX9_copyRow cX9_copyRow 2 none [.ref i0, .ref i1] K M (fun r9 M2 => r9 = none ∧ (∀ i, i ≠ i1 → M2 i = M i) ∧ ∀ j : Int, 0 ≤ j → j < n → M2 i1 j = M i0 j) := by
  refine Cn_of RX9 (plainFor_of_name (by decide)) rfl (Nat.le_of_ble_eq_true rfl) (fun X hX hQ => ?_)
  refine J_aload_n hX dX9_copyRow_0 rfl ?_
  refine J_iconst hX dX9_copyRow_1 ?_
  refine J_aload_n hX dX9_copyRow_2 rfl ?_
  refine J_iconst hX dX9_copyRow_3 ?_
  refine J_aload_n hX dX9_copyRow_4 rfl ?_
  refine J_alen hX dX9_copyRow_5 h0 ?_
  refine J_aload_n hX dX9_copyRow_6 rfl ?_
  refine J_alen hX dX9_copyRow_7 h1 ?_
  refine J_callSI hX _ dX9_copyRow_8 cw_RX9_278 (m_J9_min_7cf53 (by omega) (by omega)) rfl (Nat.le_of_ble_eq_true rfl) (by decide) ⟨Nat.zero_le _, Nat.zero_le _⟩ (fun r8 => ?_)
  refine J_acopy hX dX9_copyRow_11 h0 h1 (by repeat' split; all_goals omega) hn hn (by decide) (fun M11 fM11 cM11 => ?_)
  exact J_vret hX hQ dX9_copyRow_14 ⟨rfl, rfl, fM11, fun j j0 j1 => by rw [cM11 j, if_pos (by first | omega | (split <;> omega))]⟩ (Nat.zero_le _) (Nat.zero_le _)
-- X6_copyFrom
set_option maxHeartbeats 4000000 in
set_option maxRecDepth 100000 in
theorem m_X6_copyFrom {E : EE} {K : Nat → Nat} {M : MM} {b b2 : Nat} (hS : StageK K b) (hS2 : StageK K b2) (hd : b + 16 ≤ b2 ∨ b2 + 16 ≤ b) : CnM E 2 yX6_copyFrom cX6_copyFrom 2 none [.ref (b2 + 1), .ref (b + 1)] K M (fun r9 M2 => r9 = none ∧ (∀ i, i < b2 + 1 ∨ b2 + 9 < i → M2 i = M i) ∧ ∀ k, 1 ≤ k → k ≤ 9 → ∀ j, rel k j → M2 (b2 + k) j = M (b + k) j) := by
  refine Cn_of RX6 (plainFor_of_name (by decide)) rfl (Nat.le_of_ble_eq_true rfl) (fun X hX hQ => ?_)
  refine J_aload_n hX dX6_copyFrom_0 rfl ?_
  refine J_aload_n hX dX6_copyFrom_1 rfl ?_
  refine J_geti hX fi_RX6_39 dX6_copyFrom_2 (show K (b + 1) = 6 from hS 1 (by decide)) (fun r2 => ?_)
  refine J_putA hX fw_RX6_39 dX6_copyFrom_5 (show K (b2 + 1) = 6 from hS2 1 (by decide)) (by omega) (Or.inl rfl) (fun m5 hm5 => ?_)
  have fm5 : ∀ i, i ≠ b2 + 1 → m5 i = M i := fun i h => by rw [hm5]; exact mset_ne h
  have gm5 : ∀ i j, j ≠ 0 → m5 i j = M i j := fun i j h => by rw [hm5]; exact mset_nj h
  have vm5 := (congrFun (congrFun hm5 (b2 + 1)) 0).trans mset_eq
  refine J_aload_n hX dX6_copyFrom_8 rfl ?_
  refine J_gr hX (b + 2) fr_RX6_9 dX6_copyFrom_9 (show K (b + 1) = 6 from hS 1 (by decide)) rfl ?_
  refine J_aload_n hX dX6_copyFrom_12 rfl ?_
  refine J_gr hX (b2 + 2) fr_RX6_9 dX6_copyFrom_13 (show K (b2 + 1) = 6 from hS2 1 (by decide)) rfl ?_
  refine J_callNM hX _ dX6_copyFrom_16 cw_RX6_76 (m_X9_copyRow (n := 20) (show K (b + 2) = 1000 + 20 from hS 2 (by decide)) (show K (b2 + 2) = 1000 + 20 from hS2 2 (by decide)) (by decide) (by omega)) rfl (Nat.le_of_ble_eq_true rfl) (by decide) ⟨Nat.zero_le _, Nat.zero_le _⟩ (fun r9 M16 q16 => ?_)
  obtain ⟨rfl, fM16, vM16⟩ := q16
  refine J_aload_n hX dX6_copyFrom_19 rfl ?_
  refine J_gr hX (b + 3) fr_RX6_15 dX6_copyFrom_20 (show K (b + 1) = 6 from hS 1 (by decide)) rfl ?_
  refine J_aload_n hX dX6_copyFrom_23 rfl ?_
  refine J_gr hX (b2 + 3) fr_RX6_15 dX6_copyFrom_24 (show K (b2 + 1) = 6 from hS2 1 (by decide)) rfl ?_
  refine J_callNM hX _ dX6_copyFrom_27 cw_RX6_76 (m_X9_copyRow (n := 20) (show K (b + 3) = 1000 + 20 from hS 3 (by decide)) (show K (b2 + 3) = 1000 + 20 from hS2 3 (by decide)) (by decide) (by omega)) rfl (Nat.le_of_ble_eq_true rfl) (by decide) ⟨Nat.zero_le _, Nat.zero_le _⟩ (fun r9 M27 q27 => ?_)
  obtain ⟨rfl, fM27, vM27⟩ := q27
  refine J_aload_n hX dX6_copyFrom_30 rfl ?_
  refine J_gr hX (b + 4) fr_RX6_18 dX6_copyFrom_31 (show K (b + 1) = 6 from hS 1 (by decide)) rfl ?_
  refine J_aload_n hX dX6_copyFrom_34 rfl ?_
  refine J_gr hX (b2 + 4) fr_RX6_18 dX6_copyFrom_35 (show K (b2 + 1) = 6 from hS2 1 (by decide)) rfl ?_
  refine J_callNM hX _ dX6_copyFrom_38 cw_RX6_76 (m_X9_copyRow (n := 20) (show K (b + 4) = 1000 + 20 from hS 4 (by decide)) (show K (b2 + 4) = 1000 + 20 from hS2 4 (by decide)) (by decide) (by omega)) rfl (Nat.le_of_ble_eq_true rfl) (by decide) ⟨Nat.zero_le _, Nat.zero_le _⟩ (fun r9 M38 q38 => ?_)
  obtain ⟨rfl, fM38, vM38⟩ := q38
  refine J_aload_n hX dX6_copyFrom_41 rfl ?_
  refine J_gr hX (b + 5) fr_RX6_21 dX6_copyFrom_42 (show K (b + 1) = 6 from hS 1 (by decide)) rfl ?_
  refine J_aload_n hX dX6_copyFrom_45 rfl ?_
  refine J_gr hX (b2 + 5) fr_RX6_21 dX6_copyFrom_46 (show K (b2 + 1) = 6 from hS2 1 (by decide)) rfl ?_
  refine J_callNM hX _ dX6_copyFrom_49 cw_RX6_76 (m_X9_copyRow (n := 20) (show K (b + 5) = 1000 + 20 from hS 5 (by decide)) (show K (b2 + 5) = 1000 + 20 from hS2 5 (by decide)) (by decide) (by omega)) rfl (Nat.le_of_ble_eq_true rfl) (by decide) ⟨Nat.zero_le _, Nat.zero_le _⟩ (fun r9 M49 q49 => ?_)
  obtain ⟨rfl, fM49, vM49⟩ := q49
  refine J_aload_n hX dX6_copyFrom_52 rfl ?_
  refine J_gr hX (b + 6) fr_RX6_24 dX6_copyFrom_53 (show K (b + 1) = 6 from hS 1 (by decide)) rfl ?_
  refine J_aload_n hX dX6_copyFrom_56 rfl ?_
  refine J_gr hX (b2 + 6) fr_RX6_24 dX6_copyFrom_57 (show K (b2 + 1) = 6 from hS2 1 (by decide)) rfl ?_
  refine J_callNM hX _ dX6_copyFrom_60 cw_RX6_76 (m_X9_copyRow (n := 20) (show K (b + 6) = 1000 + 20 from hS 6 (by decide)) (show K (b2 + 6) = 1000 + 20 from hS2 6 (by decide)) (by decide) (by omega)) rfl (Nat.le_of_ble_eq_true rfl) (by decide) ⟨Nat.zero_le _, Nat.zero_le _⟩ (fun r9 M60 q60 => ?_)
  obtain ⟨rfl, fM60, vM60⟩ := q60
  refine J_aload_n hX dX6_copyFrom_63 rfl ?_
  refine J_gr hX (b + 7) fr_RX6_27 dX6_copyFrom_64 (show K (b + 1) = 6 from hS 1 (by decide)) rfl ?_
  refine J_aload_n hX dX6_copyFrom_67 rfl ?_
  refine J_gr hX (b2 + 7) fr_RX6_27 dX6_copyFrom_68 (show K (b2 + 1) = 6 from hS2 1 (by decide)) rfl ?_
  refine J_callNM hX _ dX6_copyFrom_71 cw_RX6_76 (m_X9_copyRow (n := 20) (show K (b + 7) = 1000 + 20 from hS 7 (by decide)) (show K (b2 + 7) = 1000 + 20 from hS2 7 (by decide)) (by decide) (by omega)) rfl (Nat.le_of_ble_eq_true rfl) (by decide) ⟨Nat.zero_le _, Nat.zero_le _⟩ (fun r9 M71 q71 => ?_)
  obtain ⟨rfl, fM71, vM71⟩ := q71
  refine J_aload_n hX dX6_copyFrom_74 rfl ?_
  refine J_gr hX (b + 8) fr_RX6_30 dX6_copyFrom_75 (show K (b + 1) = 6 from hS 1 (by decide)) rfl ?_
  refine J_aload_n hX dX6_copyFrom_78 rfl ?_
  refine J_gr hX (b2 + 8) fr_RX6_30 dX6_copyFrom_79 (show K (b2 + 1) = 6 from hS2 1 (by decide)) rfl ?_
  refine J_callNM hX _ dX6_copyFrom_82 cw_RX6_76 (m_X9_copyRow (n := 20) (show K (b + 8) = 1000 + 20 from hS 8 (by decide)) (show K (b2 + 8) = 1000 + 20 from hS2 8 (by decide)) (by decide) (by omega)) rfl (Nat.le_of_ble_eq_true rfl) (by decide) ⟨Nat.zero_le _, Nat.zero_le _⟩ (fun r9 M82 q82 => ?_)
  obtain ⟨rfl, fM82, vM82⟩ := q82
  refine J_aload_n hX dX6_copyFrom_85 rfl ?_
  refine J_gr hX (b + 9) fr_RX6_33 dX6_copyFrom_86 (show K (b + 1) = 6 from hS 1 (by decide)) rfl ?_
  refine J_aload_n hX dX6_copyFrom_89 rfl ?_
  refine J_gr hX (b2 + 9) fr_RX6_33 dX6_copyFrom_90 (show K (b2 + 1) = 6 from hS2 1 (by decide)) rfl ?_
  refine J_callNM hX _ dX6_copyFrom_93 cw_RX6_76 (m_X9_copyRow (n := 20) (show K (b + 9) = 1000 + 20 from hS 9 (by decide)) (show K (b2 + 9) = 1000 + 20 from hS2 9 (by decide)) (by decide) (by omega)) rfl (Nat.le_of_ble_eq_true rfl) (by decide) ⟨Nat.zero_le _, Nat.zero_le _⟩ (fun r9 M93 q93 => ?_)
  obtain ⟨rfl, fM93, vM93⟩ := q93
  exact J_vret hX hQ dX6_copyFrom_96 ⟨rfl, by exact ⟨rfl, fun i hi => by rw [fM93 _ (by omega), fM82 _ (by omega), fM71 _ (by omega), fM60 _ (by omega), fM49 _ (by omega), fM38 _ (by omega), fM27 _ (by omega), fM16 _ (by omega), fm5 _ (by omega)], fun k k0 k1 => by
      have kc : k = 1 ∨ k = 2 ∨ k = 3 ∨ k = 4 ∨ k = 5 ∨ k = 6 ∨ k = 7 ∨ k = 8 ∨ k = 9 := by omega
      rcases kc with rfl | rfl | rfl | rfl | rfl | rfl | rfl | rfl | rfl
      · exact (fun j hj => by have e9 : j = 0 := (by unfold rel at hj; omega); subst e9; rw [fM93 _ (by omega), fM82 _ (by omega), fM71 _ (by omega), fM60 _ (by omega), fM49 _ (by omega), fM38 _ (by omega), fM27 _ (by omega), fM16 _ (by omega), vm5])
      · exact (fun j hj => by have e9 : 0 ≤ j ∧ j < 20 := (by unfold rel at hj; omega); rw [fM93 _ (by omega), fM82 _ (by omega), fM71 _ (by omega), fM60 _ (by omega), fM49 _ (by omega), fM38 _ (by omega), fM27 _ (by omega), vM16 j e9.1 e9.2, fm5 _ (by omega)])
      · exact (fun j hj => by have e9 : 0 ≤ j ∧ j < 20 := (by unfold rel at hj; omega); rw [fM93 _ (by omega), fM82 _ (by omega), fM71 _ (by omega), fM60 _ (by omega), fM49 _ (by omega), fM38 _ (by omega), vM27 j e9.1 e9.2, fM16 _ (by omega), fm5 _ (by omega)])
      · exact (fun j hj => by have e9 : 0 ≤ j ∧ j < 20 := (by unfold rel at hj; omega); rw [fM93 _ (by omega), fM82 _ (by omega), fM71 _ (by omega), fM60 _ (by omega), fM49 _ (by omega), vM38 j e9.1 e9.2, fM27 _ (by omega), fM16 _ (by omega), fm5 _ (by omega)])
      · exact (fun j hj => by have e9 : 0 ≤ j ∧ j < 20 := (by unfold rel at hj; omega); rw [fM93 _ (by omega), fM82 _ (by omega), fM71 _ (by omega), fM60 _ (by omega), vM49 j e9.1 e9.2, fM38 _ (by omega), fM27 _ (by omega), fM16 _ (by omega), fm5 _ (by omega)])
      · exact (fun j hj => by have e9 : 0 ≤ j ∧ j < 20 := (by unfold rel at hj; omega); rw [fM93 _ (by omega), fM82 _ (by omega), fM71 _ (by omega), vM60 j e9.1 e9.2, fM49 _ (by omega), fM38 _ (by omega), fM27 _ (by omega), fM16 _ (by omega), fm5 _ (by omega)])
      · exact (fun j hj => by have e9 : 0 ≤ j ∧ j < 20 := (by unfold rel at hj; omega); rw [fM93 _ (by omega), fM82 _ (by omega), vM71 j e9.1 e9.2, fM60 _ (by omega), fM49 _ (by omega), fM38 _ (by omega), fM27 _ (by omega), fM16 _ (by omega), fm5 _ (by omega)])
      · exact (fun j hj => by have e9 : 0 ≤ j ∧ j < 20 := (by unfold rel at hj; omega); rw [fM93 _ (by omega), vM82 j e9.1 e9.2, fM71 _ (by omega), fM60 _ (by omega), fM49 _ (by omega), fM38 _ (by omega), fM27 _ (by omega), fM16 _ (by omega), fm5 _ (by omega)])
      · exact (fun j hj => by have e9 : 0 ≤ j ∧ j < 20 := (by unfold rel at hj; omega); rw [vM93 j e9.1 e9.2, fM82 _ (by omega), fM71 _ (by omega), fM60 _ (by omega), fM49 _ (by omega), fM38 _ (by omega), fM27 _ (by omega), fM16 _ (by omega), fm5 _ (by omega)])⟩⟩ (Nat.zero_le _) (Nat.zero_le _)
-- X3_copyFrom
set_option maxHeartbeats 4000000 in
set_option maxRecDepth 100000 in
theorem m_X3_copyFrom {E : EE} {K : Nat → Nat} {M : MM} {b b2 : Nat} (hS : StageK K b) (hS2 : StageK K b2) (hd : b + 16 ≤ b2 ∨ b2 + 16 ≤ b) : CnM E 2 yX3_copyFrom cX3_copyFrom 2 none [.ref (b2 + 11), .ref (b + 11)] K M (fun r9 M2 => r9 = none ∧ (∀ i, i < b2 + 11 ∨ b2 + 14 < i → M2 i = M i) ∧ ∀ k, 11 ≤ k → k ≤ 14 → ∀ j, rel k j → M2 (b2 + k) j = M (b + k) j) := by
  refine Cn_of RX3 (plainFor_of_name (by decide)) rfl (Nat.le_of_ble_eq_true rfl) (fun X hX hQ => ?_)
  refine J_aload_n hX dX3_copyFrom_0 rfl ?_
  refine J_aload_n hX dX3_copyFrom_1 rfl ?_
  refine J_geti hX fi_RX3_28 dX3_copyFrom_2 (show K (b + 11) = 3 from hS 11 (by decide)) (fun r2 => ?_)
  refine J_putA hX fw_RX3_28 dX3_copyFrom_5 (show K (b2 + 11) = 3 from hS2 11 (by decide)) (by omega) (Or.inl rfl) (fun m5 hm5 => ?_)
  have fm5 : ∀ i, i ≠ b2 + 11 → m5 i = M i := fun i h => by rw [hm5]; exact mset_ne h
  have gm5 : ∀ i j, j ≠ 0 → m5 i j = M i j := fun i j h => by rw [hm5]; exact mset_nj h
  have vm5 := (congrFun (congrFun hm5 (b2 + 11)) 0).trans mset_eq
  refine J_aload_n hX dX3_copyFrom_8 rfl ?_
  refine J_aload_n hX dX3_copyFrom_9 rfl ?_
  refine J_geti hX fi_RX3_39 dX3_copyFrom_10 (show K (b + 11) = 3 from hS 11 (by decide)) (fun r10 => ?_)
  refine J_putA hX fw_RX3_39 dX3_copyFrom_13 (show K (b2 + 11) = 3 from hS2 11 (by decide)) (by omega) (Or.inl rfl) (fun m13 hm13 => ?_)
  have fm13 : ∀ i, i ≠ b2 + 11 → m13 i = m5 i := fun i h => by rw [hm13]; exact mset_ne h
  have gm13 : ∀ i j, j ≠ 1 → m13 i j = m5 i j := fun i j h => by rw [hm13]; exact mset_nj h
  have vm13 := (congrFun (congrFun hm13 (b2 + 11)) 1).trans mset_eq
  refine J_aload_n hX dX3_copyFrom_16 rfl ?_
  refine J_aload_n hX dX3_copyFrom_17 rfl ?_
  refine J_geti hX fi_RX3_9 dX3_copyFrom_18 (show K (b + 11) = 3 from hS 11 (by decide)) (fun r18 => ?_)
  refine J_putA hX fw_RX3_9 dX3_copyFrom_21 (show K (b2 + 11) = 3 from hS2 11 (by decide)) (by omega) (Or.inl rfl) (fun m21 hm21 => ?_)
  have fm21 : ∀ i, i ≠ b2 + 11 → m21 i = m13 i := fun i h => by rw [hm21]; exact mset_ne h
  have gm21 : ∀ i j, j ≠ 2 → m21 i j = m13 i j := fun i j h => by rw [hm21]; exact mset_nj h
  have vm21 := (congrFun (congrFun hm21 (b2 + 11)) 2).trans mset_eq
  refine J_aload_n hX dX3_copyFrom_24 rfl ?_
  refine J_aload_n hX dX3_copyFrom_25 rfl ?_
  refine J_geti hX fi_RX3_15 dX3_copyFrom_26 (show K (b + 11) = 3 from hS 11 (by decide)) (fun r26 => ?_)
  refine J_putA hX fw_RX3_15 dX3_copyFrom_29 (show K (b2 + 11) = 3 from hS2 11 (by decide)) (by omega) (Or.inl rfl) (fun m29 hm29 => ?_)
  have fm29 : ∀ i, i ≠ b2 + 11 → m29 i = m21 i := fun i h => by rw [hm29]; exact mset_ne h
  have gm29 : ∀ i j, j ≠ 3 → m29 i j = m21 i j := fun i j h => by rw [hm29]; exact mset_nj h
  have vm29 := (congrFun (congrFun hm29 (b2 + 11)) 3).trans mset_eq
  refine J_aload_n hX dX3_copyFrom_32 rfl ?_
  refine J_gr hX (b + 12) fr_RX3_18 dX3_copyFrom_33 (show K (b + 11) = 3 from hS 11 (by decide)) rfl ?_
  refine J_aload_n hX dX3_copyFrom_36 rfl ?_
  refine J_gr hX (b2 + 12) fr_RX3_18 dX3_copyFrom_37 (show K (b2 + 11) = 3 from hS2 11 (by decide)) rfl ?_
  refine J_callNM hX _ dX3_copyFrom_40 cw_RX3_65 (m_X9_copyRow (n := 8) (show K (b + 12) = 1000 + 8 from hS 12 (by decide)) (show K (b2 + 12) = 1000 + 8 from hS2 12 (by decide)) (by decide) (by omega)) rfl (Nat.le_of_ble_eq_true rfl) (by decide) ⟨Nat.zero_le _, Nat.zero_le _⟩ (fun r9 M40 q40 => ?_)
  obtain ⟨rfl, fM40, vM40⟩ := q40
  refine J_aload_n hX dX3_copyFrom_43 rfl ?_
  refine J_gr hX (b + 13) fr_RX3_22 dX3_copyFrom_44 (show K (b + 11) = 3 from hS 11 (by decide)) rfl ?_
  refine J_aload_n hX dX3_copyFrom_47 rfl ?_
  refine J_gr hX (b2 + 13) fr_RX3_22 dX3_copyFrom_48 (show K (b2 + 11) = 3 from hS2 11 (by decide)) rfl ?_
  refine J_callNM hX _ dX3_copyFrom_51 cw_RX3_65 (m_X9_copyRow (n := 8) (show K (b + 13) = 1000 + 8 from hS 13 (by decide)) (show K (b2 + 13) = 1000 + 8 from hS2 13 (by decide)) (by decide) (by omega)) rfl (Nat.le_of_ble_eq_true rfl) (by decide) ⟨Nat.zero_le _, Nat.zero_le _⟩ (fun r9 M51 q51 => ?_)
  obtain ⟨rfl, fM51, vM51⟩ := q51
  refine J_aload_n hX dX3_copyFrom_54 rfl ?_
  refine J_gr hX (b + 14) fr_RX3_25 dX3_copyFrom_55 (show K (b + 11) = 3 from hS 11 (by decide)) rfl ?_
  refine J_aload_n hX dX3_copyFrom_58 rfl ?_
  refine J_gr hX (b2 + 14) fr_RX3_25 dX3_copyFrom_59 (show K (b2 + 11) = 3 from hS2 11 (by decide)) rfl ?_
  refine J_callNM hX _ dX3_copyFrom_62 cw_RX3_65 (m_X9_copyRow (n := 8) (show K (b + 14) = 1000 + 8 from hS 14 (by decide)) (show K (b2 + 14) = 1000 + 8 from hS2 14 (by decide)) (by decide) (by omega)) rfl (Nat.le_of_ble_eq_true rfl) (by decide) ⟨Nat.zero_le _, Nat.zero_le _⟩ (fun r9 M62 q62 => ?_)
  obtain ⟨rfl, fM62, vM62⟩ := q62
  exact J_vret hX hQ dX3_copyFrom_65 ⟨rfl, by exact ⟨rfl, fun i hi => by rw [fM62 _ (by omega), fM51 _ (by omega), fM40 _ (by omega), fm29 _ (by omega), fm21 _ (by omega), fm13 _ (by omega), fm5 _ (by omega)], fun k k0 k1 => by
      have kc : k = 11 ∨ k = 12 ∨ k = 13 ∨ k = 14 := by omega
      rcases kc with rfl | rfl | rfl | rfl
      · exact (fun j hj => by
          have e9 : j = 0 ∨ j = 1 ∨ j = 2 ∨ j = 3 := (by unfold rel at hj; omega)
          rcases e9 with rfl | rfl | rfl | rfl
          · rw [fM62 _ (by omega), fM51 _ (by omega), fM40 _ (by omega), gm29 _ _ (by decide), gm21 _ _ (by decide), gm13 _ _ (by decide), vm5]
          · rw [fM62 _ (by omega), fM51 _ (by omega), fM40 _ (by omega), gm29 _ _ (by decide), gm21 _ _ (by decide), vm13, fm5 _ (by omega)]
          · rw [fM62 _ (by omega), fM51 _ (by omega), fM40 _ (by omega), gm29 _ _ (by decide), vm21, fm13 _ (by omega), fm5 _ (by omega)]
          · rw [fM62 _ (by omega), fM51 _ (by omega), fM40 _ (by omega), vm29, fm21 _ (by omega), fm13 _ (by omega), fm5 _ (by omega)])
      · exact (fun j hj => by have e9 : 0 ≤ j ∧ j < 8 := (by unfold rel at hj; omega); rw [fM62 _ (by omega), fM51 _ (by omega), vM40 j e9.1 e9.2, fm29 _ (by omega), fm21 _ (by omega), fm13 _ (by omega), fm5 _ (by omega)])
      · exact (fun j hj => by have e9 : 0 ≤ j ∧ j < 8 := (by unfold rel at hj; omega); rw [fM62 _ (by omega), vM51 j e9.1 e9.2, fM40 _ (by omega), fm29 _ (by omega), fm21 _ (by omega), fm13 _ (by omega), fm5 _ (by omega)])
      · exact (fun j hj => by have e9 : 0 ≤ j ∧ j < 8 := (by unfold rel at hj; omega); rw [vM62 j e9.1 e9.2, fM51 _ (by omega), fM40 _ (by omega), fm29 _ (by omega), fm21 _ (by omega), fm13 _ (by omega), fm5 _ (by omega)])⟩⟩ (Nat.zero_le _) (Nat.zero_le _)
-- X5_copyFrom
set_option maxHeartbeats 4000000 in
set_option maxRecDepth 100000 in
theorem m_X5_copyFrom {E : EE} {K : Nat → Nat} {M : MM} {b b2 : Nat} (hS : StageK K b) (hS2 : StageK K b2) (hd : b + 16 ≤ b2 ∨ b2 + 16 ≤ b) : CnM E 3 yX5_copyFrom cX5_copyFrom 2 none [.ref b2, .ref b] K M (fun r9 M2 => r9 = none ∧ (∀ i, i < b2 ∨ b2 + 16 ≤ i → M2 i = M i) ∧ Alk M b M2 b2) := by
  refine Cn_of RX5 (plainFor_of_name (by decide)) rfl (Nat.le_of_ble_eq_true rfl) (fun X hX hQ => ?_)
  refine J_aload_n hX dX5_copyFrom_0 rfl ?_
  refine J_gr hX (b2 + 1) fr_RX5_12 dX5_copyFrom_1 (show K (b2) = 5 from hS2 0 (by decide)) rfl ?_
  refine J_aload_n hX dX5_copyFrom_4 rfl ?_
  refine J_gr hX (b + 1) fr_RX5_12 dX5_copyFrom_5 (show K (b) = 5 from hS 0 (by decide)) rfl ?_
  refine J_callVM hX _ dX5_copyFrom_8 cw_RX5_75 (m_X6_copyFrom hS hS2 (by omega)) ⟨(show K (b2 + 1) = 6 from hS2 1 (by decide)), by decide, by decide, rfl⟩ rfl (Nat.le_of_ble_eq_true rfl) (by decide) ⟨Nat.zero_le _, Nat.zero_le _⟩ (fun r9 M8 q8 => ?_)
  obtain ⟨rfl, fM8, vM8⟩ := q8
  refine J_aload_n hX dX5_copyFrom_11 rfl ?_
  refine J_gr hX (b2 + 11) fr_RX5_21 dX5_copyFrom_12 (show K (b2) = 5 from hS2 0 (by decide)) rfl ?_
  refine J_aload_n hX dX5_copyFrom_15 rfl ?_
  refine J_gr hX (b + 11) fr_RX5_21 dX5_copyFrom_16 (show K (b) = 5 from hS 0 (by decide)) rfl ?_
  refine J_callVM hX _ dX5_copyFrom_19 cw_RX5_79 (m_X3_copyFrom hS hS2 (by omega)) ⟨(show K (b2 + 11) = 3 from hS2 11 (by decide)), by decide, by decide, rfl⟩ rfl (Nat.le_of_ble_eq_true rfl) (by decide) ⟨Nat.zero_le _, Nat.zero_le _⟩ (fun r9 M19 q19 => ?_)
  obtain ⟨rfl, fM19, vM19⟩ := q19
  refine J_aload_n hX dX5_copyFrom_22 rfl ?_
  refine J_gr hX (b + 15) fr_RX5_25 dX5_copyFrom_23 (show K (b) = 5 from hS 0 (by decide)) rfl ?_
  refine J_aload_n hX dX5_copyFrom_26 rfl ?_
  refine J_gr hX (b2 + 15) fr_RX5_25 dX5_copyFrom_27 (show K (b2) = 5 from hS2 0 (by decide)) rfl ?_
  refine J_callNM hX _ dX5_copyFrom_30 cw_RX5_82 (m_X9_copyRow (n := 4) (show K (b + 15) = 1000 + 4 from hS 15 (by decide)) (show K (b2 + 15) = 1000 + 4 from hS2 15 (by decide)) (by decide) (by omega)) rfl (Nat.le_of_ble_eq_true rfl) (by decide) ⟨Nat.zero_le _, Nat.zero_le _⟩ (fun r9 M30 q30 => ?_)
  obtain ⟨rfl, fM30, vM30⟩ := q30
  refine J_aload_n hX dX5_copyFrom_33 rfl ?_
  refine J_aload_n hX dX5_copyFrom_34 rfl ?_
  refine J_geti hX fi_RX5_29 dX5_copyFrom_35 (show K (b) = 5 from hS 0 (by decide)) (fun r35 => ?_)
  refine J_putA hX fw_RX5_29 dX5_copyFrom_38 (show K (b2) = 5 from hS2 0 (by decide)) (by omega) (Or.inl rfl) (fun m38 hm38 => ?_)
  have fm38 : ∀ i, i ≠ b2 → m38 i = M30 i := fun i h => by rw [hm38]; exact mset_ne h
  have gm38 : ∀ i j, j ≠ 3 → m38 i j = M30 i j := fun i j h => by rw [hm38]; exact mset_nj h
  have vm38 := (congrFun (congrFun hm38 (b2)) 3).trans mset_eq
  refine J_aload_n hX dX5_copyFrom_41 rfl ?_
  refine J_aload_n hX dX5_copyFrom_42 rfl ?_
  refine J_geti hX fi_RX5_33 dX5_copyFrom_43 (show K (b) = 5 from hS 0 (by decide)) (fun r43 => ?_)
  refine J_putA hX fw_RX5_33 dX5_copyFrom_46 (show K (b2) = 5 from hS2 0 (by decide)) (by omega) (Or.inl rfl) (fun m46 hm46 => ?_)
  have fm46 : ∀ i, i ≠ b2 → m46 i = m38 i := fun i h => by rw [hm46]; exact mset_ne h
  have gm46 : ∀ i j, j ≠ 4 → m46 i j = m38 i j := fun i j h => by rw [hm46]; exact mset_nj h
  have vm46 := (congrFun (congrFun hm46 (b2)) 4).trans mset_eq
  refine J_aload_n hX dX5_copyFrom_49 rfl ?_
  refine J_aload_n hX dX5_copyFrom_50 rfl ?_
  refine J_geti hX fi_RX5_65 dX5_copyFrom_51 (show K (b) = 5 from hS 0 (by decide)) (fun r51 => ?_)
  refine J_putA hX fw_RX5_65 dX5_copyFrom_54 (show K (b2) = 5 from hS2 0 (by decide)) (by omega) (Or.inl rfl) (fun m54 hm54 => ?_)
  have fm54 : ∀ i, i ≠ b2 → m54 i = m46 i := fun i h => by rw [hm54]; exact mset_ne h
  have gm54 : ∀ i j, j ≠ 5 → m54 i j = m46 i j := fun i j h => by rw [hm54]; exact mset_nj h
  have vm54 := (congrFun (congrFun hm54 (b2)) 5).trans mset_eq
  refine J_aload_n hX dX5_copyFrom_57 rfl ?_
  refine J_aload_n hX dX5_copyFrom_58 rfl ?_
  refine J_geti hX fi_RX5_68 dX5_copyFrom_59 (show K (b) = 5 from hS 0 (by decide)) (fun r59 => ?_)
  refine J_putA hX fw_RX5_68 dX5_copyFrom_62 (show K (b2) = 5 from hS2 0 (by decide)) (by omega) (Or.inl rfl) (fun m62 hm62 => ?_)
  have fm62 : ∀ i, i ≠ b2 → m62 i = m54 i := fun i h => by rw [hm62]; exact mset_ne h
  have gm62 : ∀ i j, j ≠ 6 → m62 i j = m54 i j := fun i j h => by rw [hm62]; exact mset_nj h
  have vm62 := (congrFun (congrFun hm62 (b2)) 6).trans mset_eq
  refine J_aload_n hX dX5_copyFrom_65 rfl ?_
  refine J_aload_n hX dX5_copyFrom_66 rfl ?_
  refine J_geti hX fi_RX5_62 dX5_copyFrom_67 (show K (b) = 5 from hS 0 (by decide)) (fun r67 => ?_)
  refine J_putA hX fw_RX5_62 dX5_copyFrom_70 (show K (b2) = 5 from hS2 0 (by decide)) (by omega) (Or.inl rfl) (fun m70 hm70 => ?_)
  have fm70 : ∀ i, i ≠ b2 → m70 i = m62 i := fun i h => by rw [hm70]; exact mset_ne h
  have gm70 : ∀ i j, j ≠ 7 → m70 i j = m62 i j := fun i j h => by rw [hm70]; exact mset_nj h
  have vm70 := (congrFun (congrFun hm70 (b2)) 7).trans mset_eq
  have hbk : ∀ k, k < 16 → m70 (b + k) = M (b + k) := fun k hk => by rw [fm70 _ (by omega), fm62 _ (by omega), fm54 _ (by omega), fm46 _ (by omega), fm38 _ (by omega), fM30 _ (by omega), fM19 _ (by omega), fM8 _ (by omega)]
  have hag : ∀ k, k < 16 → k ≠ 10 → ∀ j, rel k j → m70 (b2 + k) j = m70 (b + k) j := fun k hk hk1 j hj => by
      rw [hbk k hk]
      have kc : k = 0 ∨ (1 ≤ k ∧ k ≤ 9) ∨ (11 ≤ k ∧ k ≤ 14) ∨ k = 15 := by omega
      rcases kc with rfl | kc | kc | rfl
      · exact (by
          have e9 : j = 3 ∨ j = 4 ∨ j = 5 ∨ j = 6 ∨ j = 7 := (by unfold rel at hj; omega)
          rcases e9 with rfl | rfl | rfl | rfl | rfl
          · rw [Nat.add_zero, Nat.add_zero, gm70 _ _ (by decide), gm62 _ _ (by decide), gm54 _ _ (by decide), gm46 _ _ (by decide), vm38, fM30 _ (by omega), fM19 _ (by omega), fM8 _ (by omega)]
          · rw [Nat.add_zero, Nat.add_zero, gm70 _ _ (by decide), gm62 _ _ (by decide), gm54 _ _ (by decide), vm46, fm38 _ (by omega), fM30 _ (by omega), fM19 _ (by omega), fM8 _ (by omega)]
          · rw [Nat.add_zero, Nat.add_zero, gm70 _ _ (by decide), gm62 _ _ (by decide), vm54, fm46 _ (by omega), fm38 _ (by omega), fM30 _ (by omega), fM19 _ (by omega), fM8 _ (by omega)]
          · rw [Nat.add_zero, Nat.add_zero, gm70 _ _ (by decide), vm62, fm54 _ (by omega), fm46 _ (by omega), fm38 _ (by omega), fM30 _ (by omega), fM19 _ (by omega), fM8 _ (by omega)]
          · rw [Nat.add_zero, Nat.add_zero, vm70, fm62 _ (by omega), fm54 _ (by omega), fm46 _ (by omega), fm38 _ (by omega), fM30 _ (by omega), fM19 _ (by omega), fM8 _ (by omega)])
      · rw [fm70 _ (by omega), fm62 _ (by omega), fm54 _ (by omega), fm46 _ (by omega), fm38 _ (by omega), fM30 _ (by omega), fM19 _ (by omega)]; exact vM8 k kc.1 kc.2 j hj
      · rw [fm70 _ (by omega), fm62 _ (by omega), fm54 _ (by omega), fm46 _ (by omega), fm38 _ (by omega), fM30 _ (by omega), vM19 k kc.1 kc.2 j hj, fM8 _ (by omega)]
      · have e9 : 0 ≤ j ∧ j < 4 := (by unfold rel at hj; omega)
        rw [fm70 _ (by omega), fm62 _ (by omega), fm54 _ (by omega), fm46 _ (by omega), fm38 _ (by omega), vM30 j e9.1 e9.2, fM19 _ (by omega), fM8 _ (by omega)]
  refine J_page hS hS2 hd hag (fun M3 p1 p2 => ?_)
  exact J_vret hX hQ dX5_copyFrom_73 ⟨rfl, rfl, fun i hi => by rw [p1 i hi, fm70 _ (by omega), fm62 _ (by omega), fm54 _ (by omega), fm46 _ (by omega), fm38 _ (by omega), fM30 _ (by omega), fM19 _ (by omega), fM8 _ (by omega)], fun k hk hk1 => by rw [p2 k hk hk1, hbk k hk]⟩ (Nat.zero_le _) (Nat.zero_le _)
