-- X9_copyRow
set_option maxHeartbeats 4000000 in
set_option maxRecDepth 100000 in
theorem m_X9_copyRow {E : EE} {K : Nat → Nat} {M : MM} {i0 i1 n : Nat} (h0 : K i0 = 1000 + n) (h1 : K i1 = 1000 + n) (hn : n < 1000000) (hne : i0 ≠ i1) : CnM E 1 yX9_copyRow cX9_copyRow 2 none [.ref i0, .ref i1] K M (fun r9 M2 => r9 = none ∧ (∀ i, i ≠ i1 → M2 i = M i) ∧ ∀ j : Int, 0 ≤ j → j < n → M2 i1 j = M i0 j) := by
  refine Cn_of RX9 (plainFor_of_name (by decide)) rfl (Nat.le_of_ble_eq_true rfl) (fun X hX hQ => ?_)
  refine J_aload_n hX dX9_copyRow_0 rfl ?_
  refine J_iconst hX dX9_copyRow_1 ?_
  refine J_aload_n hX dX9_copyRow_2 rfl ?_
  refine J_iconst hX dX9_copyRow_3 ?_
  refine J_aload_n hX dX9_copyRow_4 rfl ?_
  refine J_alen hX dX9_copyRow_5 h0 ?_
  refine J_aload_n hX dX9_copyRow_6 rfl ?_
  refine J_alen hX dX9_copyRow_7 h1 ?_
  refine J_callSI hX _ dX9_copyRow_8 cw_RX9_278 (m_J9_min_7cf53 (by omega) (by omega)) rfl (Nat.le_of_ble_eq_true rfl) (by decide) ⟨Nat.zero_le _, Nat.zero_le _⟩ (fun r8 => ?_)
  refine J_acopy hX dX9_copyRow_11 h0 h1 (by repeat' split; all_goals omega) hn hn (by decide) (fun M11 fM11 cM11 => ?_)
  exact J_vret hX hQ dX9_copyRow_14 ⟨rfl, rfl, fM11, fun j j0 j1 => by rw [cM11 j, if_pos (by first | omega | (split <;> omega))]⟩ (Nat.zero_le _) (Nat.zero_le _)
-- X6_copyFrom
set_option maxHeartbeats 4000000 in
set_option maxRecDepth 100000 in
theorem m_X6_copyFrom {E : EE} {K : Nat → Nat} {M : MM} {b b2 : Nat} (hS : StageK K b) (hS2 : StageK K b2) (hd : b + 16 ≤ b2 ∨ b2 + 16 ≤ b) : CnM E 2 yX6_copyFrom cX6_copyFrom 2 none [.ref (b2 + 1), .ref (b + 1)] K M (fun r9 M2 => r9 = none ∧ (∀ i, i < b2 + 1 ∨ b2 + 9 < i → M2 i = M i) ∧ ∀ k, 1 ≤ k → k ≤ 9 → ∀ j, rel k j → M2 (b2 + k) j = M (b + k) j) := by
  refine Cn_of RX6 (plainFor_of_name (by decide)) rfl (Nat.le_of_ble_eq_true rfl) (fun X hX hQ => ?_)
  refine J_aload_n hX dX6_copyFrom_0 rfl ?_
  refine J_aload_n hX dX6_copyFrom_1 rfl ?_
  refine J_geti hX fi_RX6_39 dX6_copyFrom_2 (show K (b + 1) = 6 from hS 1 (by decide)) (fun r2 => ?_)
  refine J_putA hX fw_RX6_39 dX6_copyFrom_5 (show K (b2 + 1) = 6 from hS2 1 (by decide)) (by omega) (Or.inl rfl) (fun m5 hm5 => ?_)
  have fm5 : ∀ i, i ≠ b2 + 1 → m5 i = M i := fun i h => by rw [hm5]; exact mset_ne h
  have gm5 : ∀ i j, j ≠ 0 → m5 i j = M i j := fun i j h => by rw [hm5]; exact mset_nj h
  have vm5 := (congrFun (congrFun hm5 (b2 + 1)) 0).trans mset_eq
  refine J_aload_n hX dX6_copyFrom_8 rfl ?_
  refine J_gr hX (b + 2) fr_RX6_9 dX6_copyFrom_9 (show K (b + 1) = 6 from hS 1 (by decide)) rfl ?_
  refine J_aload_n hX dX6_copyFrom_12 rfl ?_
  refine J_gr hX (b2 + 2) fr_RX6_9 dX6_copyFrom_13 (show K (b2 + 1) = 6 from hS2 1 (by decide)) rfl ?_
  refine J_callNM hX _ dX6_copyFrom_16 cw_RX6_76 (m_X9_copyRow (n := 20) (show K (b + 2) = 1000 + 20 from hS 2 (by decide)) (show K (b2 + 2) = 1000 + 20 from hS2 2 (by decide)) (by decide) (by omega)) rfl (Nat.le_of_ble_eq_true rfl) (by decide) ⟨Nat.zero_le _, Nat.zero_le _⟩ (fun r9 M16 q16 => ?_)
  obtain ⟨rfl, fM16, vM16⟩ := q16
  refine J_aload_n hX dX6_copyFrom_19 rfl ?_
  refine J_gr hX (b + 3) fr_RX6_15 dX6_copyFrom_20 (show K (b + 1) = 6 from hS 1 (by decide)) rfl ?_
  refine J_aload_n hX dX6_copyFrom_23 rfl ?_
  refine J_gr hX (b2 + 3) fr_RX6_15 dX6_copyFrom_24 (show K (b2 + 1) = 6 from hS2 1 (by decide)) rfl ?_
  refine J_callNM hX _ dX6_copyFrom_27 cw_RX6_76 (m_X9_copyRow (n := 20) (show K (b + 3) = 1000 + 20 from hS 3 (by decide)) (show K (b2 + 3) = 1000 + 20 from hS2 3 (by decide)) (by decide) (by omega)) rfl (Nat.le_of_ble_eq_true rfl) (by decide) ⟨Nat.zero_le _, Nat.zero_le _⟩ (fun r9 M27 q27 => ?_)
  obtain ⟨rfl, fM27, vM27⟩ := q27
  refine J_aload_n hX dX6_copyFrom_30 rfl ?_
  refine J_gr hX (b + 4) fr_RX6_18 dX6_copyFrom_31 (show K (b + 1) = 6 from hS 1 (by decide)) rfl ?_
  refine J_aload_n hX dX6_copyFrom_34 rfl ?_
  refine J_gr hX (b2 + 4) fr_RX6_18 dX6_copyFrom_35 (show K (b2 + 1) = 6 from hS2 1 (by decide)) rfl ?_
  refine J_callNM hX _ dX6_copyFrom_38 cw_RX6_76 (m_X9_copyRow (n := 20) (show K (b + 4) = 1000 + 20 from hS 4 (by decide)) (show K (b2 + 4) = 1000 + 20 from hS2 4 (by decide)) (by decide) (by omega)) rfl (Nat.le_of_ble_eq_true rfl) (by decide) ⟨Nat.zero_le _, Nat.zero_le _⟩ (fun r9 M38 q38 => ?_)
  obtain ⟨rfl, fM38, vM38⟩ := q38
  refine J_aload_n hX dX6_copyFrom_41 rfl ?_
  refine J_gr hX (b + 5) fr_RX6_21 dX6_copyFrom_42 (show K (b + 1) = 6 from hS 1 (by decide)) rfl ?_
  refine J_aload_n hX dX6_copyFrom_45 rfl ?_
  refine J_gr hX (b2 + 5) fr_RX6_21 dX6_copyFrom_46 (show K (b2 + 1) = 6 from hS2 1 (by decide)) rfl ?_
  refine J_callNM hX _ dX6_copyFrom_49 cw_RX6_76 (m_X9_copyRow (n := 20) (show K (b + 5) = 1000 + 20 from hS 5 (by decide)) (show K (b2 + 5) = 1000 + 20 from hS2 5 (by decide)) (by decide) (by omega)) rfl (Nat.le_of_ble_eq_true rfl) (by decide) ⟨Nat.zero_le _, Nat.zero_le _⟩ (fun r9 M49 q49 => ?_)
  obtain ⟨rfl, fM49, vM49⟩ := q49
  refine J_aload_n hX dX6_copyFrom_52 rfl ?_
  refine J_gr hX (b + 6) fr_RX6_24 dX6_copyFrom_53 (show K (b + 1) = 6 from hS 1 (by decide)) rfl ?_
  refine J_aload_n hX dX6_copyFrom_56 rfl ?_
  refine J_gr hX (b2 + 6) fr_RX6_24 dX6_copyFrom_57 (show K (b2 + 1) = 6 from hS2 1 (by decide)) rfl ?_
  refine J_callNM hX _ dX6_copyFrom_60 cw_RX6_76 (m_X9_copyRow (n := 20) (show K (b + 6) = 1000 + 20 from hS 6 (by decide)) (show K (b2 + 6) = 1000 + 20 from hS2 6 (by decide)) (by decide) (by omega)) rfl (Nat.le_of_ble_eq_true rfl) (by decide) ⟨Nat.zero_le _, Nat.zero_le _⟩ (fun r9 M60 q60 => ?_)
  obtain ⟨rfl, fM60, vM60⟩ := q60
  refine J_aload_n hX dX6_copyFrom_63 rfl ?_
  refine J_gr hX (b + 7) fr_RX6_27 dX6_copyFrom_64 (show K (b + 1) = 6 from hS 1 (by decide)) rfl ?_
  refine J_aload_n hX dX6_copyFrom_67 rfl ?_
  refine J_gr hX (b2 + 7) fr_RX6_27 dX6_copyFrom_68 (show K (b2 + 1) = 6 from hS2 1 (by decide)) rfl ?_
  refine J_callNM hX _ dX6_copyFrom_71 cw_RX6_76 (m_X9_copyRow (n := 20) (show K (b + 7) = 1000 + 20 from hS 7 (by decide)) (show K (b2 + 7) = 1000 + 20 from hS2 7 (by decide)) (by decide) (by omega)) rfl (Nat.le_of_ble_eq_true rfl) (by decide) ⟨Nat.zero_le _, Nat.zero_le _⟩ (fun r9 M71 q71 => ?_)
  obtain ⟨rfl, fM71, vM71⟩ := q71
  refine J_aload_n hX dX6_copyFrom_74 rfl ?_
  refine J_gr hX (b + 8) fr_RX6_30 dX6_copyFrom_75 (show K (b + 1) = 6 from hS 1 (by decide)) rfl ?_
  refine J_aload_n hX dX6_copyFrom_78 rfl ?_
  refine J_gr hX (b2 + 8) fr_RX6_30 dX6_copyFrom_79 (show K (b2 + 1) = 6 from hS2 1 (by decide)) rfl ?_
  refine J_callNM hX _ dX6_copyFrom_82 cw_RX6_76 (m_X9_copyRow (n := 20) (show K (b + 8) = 1000 + 20 from hS 8 (by decide)) (show K (b2 + 8) = 1000 + 20 from hS2 8 (by decide)) (by decide) (by omega)) rfl (Nat.le_of_ble_eq_true rfl) (by decide) ⟨Nat.zero_le _, Nat.zero_le _⟩ (fun r9 M82 q82 => ?_)
  obtain ⟨rfl, fM82, vM82⟩ := q82
  refine J_aload_n hX dX6_copyFrom_85 rfl ?_
  refine J_gr hX (b + 9) fr_RX6_33 dX6_copyFrom_86 (show K (b + 1) = 6 from hS 1 (by decide)) rfl ?_
  refine J_aload_n hX dX6_copyFrom_89 rfl ?_
  refine J_gr hX (b2 + 9) fr_RX6_33 dX6_copyFrom_90 (show K (b2 + 1) = 6 from hS2 1 (by decide)) rfl ?_
  refine J_callNM hX _ dX6_copyFrom_93 cw_RX6_76 (m_X9_copyRow (n := 20) (show K (b + 9) = 1000 + 20 from hS 9 (by decide)) (show K (b2 + 9) = 1000 + 20 from hS2 9 (by decide)) (by decide) (by omega)) rfl (Nat.le_of_ble_eq_true rfl) (by decide) ⟨Nat.zero_le _, Nat.zero_le _⟩ (fun r9 M93 q93 => ?_)
  obtain ⟨rfl, fM93, vM93⟩ := q93
  exact J_vret hX hQ dX6_copyFrom_96 ⟨rfl, by exact ⟨rfl, fun i hi => by rw [fM93 _ (by omega), fM82 _ (by omega), fM71 _ (by omega), fM60 _ (by omega), fM49 _ (by omega), fM38 _ (by omega), fM27 _ (by omega), fM16 _ (by omega), fm5 _ (by omega)], fun k k0 k1 => by
      have kc : k = 1 ∨ k = 2 ∨ k = 3 ∨ k = 4 ∨ k = 5 ∨ k = 6 ∨ k = 7 ∨ k = 8 ∨ k = 9 := by omega
      rcases kc with rfl | rfl | rfl | rfl | rfl | rfl | rfl | rfl | rfl
      · exact (fun j hj => by have e9 : j = 0 := (by unfold rel at hj; omega); subst e9; rw [fM93 _ (by omega), fM82 _ (by omega), fM71 _ (by omega), fM60 _ (by omega), fM49 _ (by omega), fM38 _ (by omega), fM27 _ (by omega), fM16 _ (by omega), vm5])
      · exact (fun j hj => by have e9 : 0 ≤ j ∧ j < 20 := (by unfold rel at hj; omega); rw [fM93 _ (by omega), fM82 _ (by omega), fM71 _ (by omega), fM60 _ (by omega), fM49 _ (by omega), fM38 _ (by omega), fM27 _ (by omega), vM16 j e9.1 e9.2, fm5 _ (by omega)])
      · exact (fun j hj => by have e9 : 0 ≤ j ∧ j < 20 := (by unfold rel at hj; omega); rw [fM93 _ (by omega), fM82 _ (by omega), fM71 _ (by omega), fM60 _ (by omega), fM49 _ (by omega), fM38 _ (by omega), vM27 j e9.1 e9.2, fM16 _ (by omega), fm5 _ (by omega)])
      · exact (fun j hj => by have e9 : 0 ≤ j ∧ j < 20 := (by unfold rel at hj; omega); rw [fM93 _ (by omega), fM82 _ (by omega), fM71 _ (by omega), fM60 _ (by omega), fM49 _ (by omega), vM38 j e9.1 e9.2, fM27 _ (by omega), fM16 _ (by omega), fm5 _ (by omega)])
      · exact (fun j hj => by have e9 : 0 ≤ j ∧ j < 20 := (by unfold rel at hj; omega); rw [fM93 _ (by omega), fM82 _ (by omega), fM71 _ (by omega), fM60 _ (by omega), vM49 j e9.1 e9.2, fM38 _ (by omega), fM27 _ (by omega), fM16 _ (by omega), fm5 _ (by omega)])
      · exact (fun j hj => by have e9 : 0 ≤ j ∧ j < 20 := (by unfold rel at hj; omega); rw [fM93 _ (by omega), fM82 _ (by omega), fM71 _ (by omega), vM60 j e9.1 e9.2, fM49 _ (by omega), fM38 _ (by omega), fM27 _ (by omega), fM16 _ (by omega), fm5 _ (by omega)])
      · exact (fun j hj => by have e9 : 0 ≤ j ∧ j < 20 := (by unfold rel at hj; omega); rw [fM93 _ (by omega), fM82 _ (by omega), vM71 j e9.1 e9.2, fM60 _ (by omega), fM49 _ (by omega), fM38 _ (by omega), fM27 _ (by omega), fM16 _ (by omega), fm5 _ (by omega)])
      · exact (fun j hj => by have e9 : 0 ≤ j ∧ j < 20 := (by unfold rel at hj; omega); rw [fM93 _ (by omega), vM82 j e9.1 e9.2, fM71 _ (by omega), fM60 _ (by omega), fM49 _ (by omega), fM38 _ (by omega), fM27 _ (by omega), fM16 _ (by omega), fm5 _ (by omega)])
      · exact (fun j hj => by have e9 : 0 ≤ j ∧ j < 20 := (by unfold rel at hj; omega); rw [vM93 j e9.1 e9.2, fM82 _ (by omega), fM71 _ (by omega), fM60 _ (by omega), fM49 _ (by omega), fM38 _ (by omega), fM27 _ (by omega), fM16 _ (by omega), fm5 _ (by omega)])⟩⟩ (Nat.zero_le _) (Nat.zero_le _)
