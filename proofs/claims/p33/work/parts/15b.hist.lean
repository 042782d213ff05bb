-- X1_dropOldest
set_option maxHeartbeats 4000000 in
set_option maxRecDepth 100000 in
theorem m_X1_dropOldest {E : EE} {K : Nat → Nat} {M : MM} {h : Nat} (hH : K h = 1 ∧ K (h + 1) = 10) (hq : ∀ j : Int, 0 ≤ j → j < 4 → 0 ≤ M (h + 1) j ∧ M (h + 1) j < 1000000 ∧ K (M (h + 1) j).toNat = 5) : CnM E 1 yX1_dropOldest cX1_dropOldest 3 none [.ref h] K M (fun r9 M2 => r9 = none ∧ M2 h 0 = 3 ∧ (∀ i, i ≠ h → i ≠ h + 1 → M2 i = M i) ∧ (∀ j, j ≠ 0 → M2 h j = M h j) ∧ (∀ j : Int, 0 ≤ j → j < 3 → M2 (h + 1) j = M (h + 1) (j + 1)) ∧ M2 (h + 1) 3 = M (h + 1) 0 ∧ ∀ j : Int, 3 < j → M2 (h + 1) j = M (h + 1) j) := by
  have q0 := hq 0 (by decide) (by decide)
  refine Cn_of RX1 (plainFor_of_name (by decide)) rfl (Nat.le_of_ble_eq_true rfl) (fun X hX hQ => ?_)
  refine J_aload_n hX dX1_dropOldest_0 rfl ?_
  refine J_gr hX (h + 1) fr_RX1_11 dX1_dropOldest_1 (show K (h) = 1 from hH.1) rfl ?_
  refine J_iconst hX dX1_dropOldest_4 ?_
  refine J_aald hX dX1_dropOldest_5 (show K (h + 1) = 10 from hH.2) ⟨by omega, by omega⟩ (by omega) ?_
  refine J_astore_n hX dX1_dropOldest_6 (by decide) ?_
  refine J_iconst hX dX1_dropOldest_7 ?_
  refine J_istore_n hX dX1_dropOldest_8 (by decide) ?_
  have HL9 : ∀ k : Nat, k ≤ 3 → ∀ (M2 : MM), ((∀ i, i ≠ h + 1 → M2 i = M i) ∧ ∀ j : Int, M2 (h + 1) j = if 0 ≤ j ∧ j < k then M (h + 1) (j + 1) else M (h + 1) j) → J E X 9 [(0, .ref h), (1, .ref (M (h + 1) 0).toNat), (2, vI ((k : Int) + 1))] [] K M2 0 0 := by
    refine up_ind (3) (fun k hk9 ih9 => ?_)
    intro M2  hi9
    refine J_iload_n hX dX1_dropOldest_9 rfl ?_
    refine J_iconst hX dX1_dropOldest_10 ?_
    refine J_icmp_ge hX 34 dX1_dropOldest_11 (by omega) (by decide) (by decide) (fun c11 => ?_) (fun c11 => ?_)
    · refine J_aload_n hX dX1_dropOldest_34 rfl ?_
      refine J_gr hX (h + 1) fr_RX1_11 dX1_dropOldest_35 (show K (h) = 1 from hH.1) rfl ?_
      refine J_iconst hX dX1_dropOldest_38 ?_
      refine J_aload_n hX dX1_dropOldest_39 rfl ?_
      refine J_aast hX dX1_dropOldest_40 (show K (h + 1) = 10 from hH.2) ⟨by omega, by omega⟩ (q0.2.2) (by omega) (fun m40 hm40 => ?_)
      have fm40 : ∀ i, i ≠ h + 1 → m40 i = M2 i := fun i h => by rw [hm40]; exact mset_ne h
      have gm40 : ∀ i j, j ≠ 3 → m40 i j = M2 i j := fun i j h => by rw [hm40]; exact mset_nj (by omega)
      have vm40 : m40 (h + 1) 3 = ((((M (h + 1) 0).toNat : Nat)) : Int) := by rw [hm40]; exact mset_at (by omega)
      refine J_aload_n hX dX1_dropOldest_41 rfl ?_
      refine J_iconst hX dX1_dropOldest_42 ?_
      refine J_putA hX fw_RX1_17 dX1_dropOldest_43 (show K (h) = 1 from hH.1) (by omega) (Or.inl rfl) (fun m43 hm43 => ?_)
      have fm43 : ∀ i, i ≠ h → m43 i = m40 i := fun i h => by rw [hm43]; exact mset_ne h
      have gm43 : ∀ i j, j ≠ 0 → m43 i j = m40 i j := fun i j h => by rw [hm43]; exact mset_nj h
      have vm43 := (congrFun (congrFun hm43 (h)) 0).trans mset_eq
      exact J_vret hX hQ dX1_dropOldest_46 ⟨rfl, by exact ⟨rfl, vm43, fun i i1 i2 => by rw [fm43 i i1, fm40 i i2, hi9.1 i i2], fun j hj => by rw [gm43 _ j hj, fm40 _ (by omega), hi9.1 _ (by omega)], fun j j0 j1 => by rw [fm43 _ (by omega), gm40 _ j (by omega), hi9.2, if_pos (by omega)], by rw [fm43 _ (by omega), vm40]; omega, fun j hj => by rw [fm43 _ (by omega), gm40 _ j (by omega), hi9.2, if_neg (by omega)]⟩⟩ (Nat.zero_le _) (Nat.zero_le _)
    · refine J_aload_n hX dX1_dropOldest_14 rfl ?_
      refine J_gr hX (h + 1) fr_RX1_11 dX1_dropOldest_15 (show K (h) = 1 from hH.1) rfl ?_
      refine J_iload_n hX dX1_dropOldest_18 rfl ?_
      refine J_iconst hX dX1_dropOldest_19 ?_
      refine J_isub hX dX1_dropOldest_20 ?_
      refine J_aload_n hX dX1_dropOldest_21 rfl ?_
      refine J_gr hX (h + 1) fr_RX1_11 dX1_dropOldest_22 (show K (h) = 1 from hH.1) rfl ?_
      refine J_iload_n hX dX1_dropOldest_25 rfl ?_
      have e26 : M2 (h + 1) ((k : Int) + 1) = M (h + 1) (k + 1) := by rw [hi9.2, if_neg (by omega)]
      have q26 := hq ((k : Int) + 1) (by omega) (by omega)
      rw [← e26] at q26
      refine J_aald hX dX1_dropOldest_26 (show K (h + 1) = 10 from hH.2) ⟨by omega, by omega⟩ (by omega) ?_
      refine J_aast hX dX1_dropOldest_27 (show K (h + 1) = 10 from hH.2) ⟨by omega, by omega⟩ (q26.2.2) (by omega) (fun m27 hm27 => ?_)
      have fm27 : ∀ i, i ≠ h + 1 → m27 i = M2 i := fun i h => by rw [hm27]; exact mset_ne h
      have gm27 : ∀ i j, j ≠ (k : Int) → m27 i j = M2 i j := fun i j h => by rw [hm27]; exact mset_nj (by omega)
      have vm27 : m27 (h + 1) (k : Int) = ((((M2 (h + 1) ((k : Int) + 1)).toNat : Nat)) : Int) := by rw [hm27]; exact mset_at (by omega)
      refine J_iinc hX dX1_dropOldest_28 rfl (by decide) ?_
      refine J_goto hX 9 dX1_dropOldest_31 (by decide) ?_
      exact J_locI (ih9 (k + 1) (by omega) (by omega) _ ⟨fun i hi => by rw [fm27 i hi]; exact hi9.1 i hi, fun j => by by_cases ej : j = k; (subst ej; rw [vm27, if_pos (by omega), Int.toNat_of_nonneg q26.1, e26]); (rw [gm27 _ j ej, hi9.2 j]; by_cases h9 : 0 ≤ j ∧ j < k; (rw [if_pos h9, if_pos (by omega)]); (rw [if_neg h9, if_neg (by omega)]))⟩) rfl
  exact J_locI (HL9 0 (Nat.zero_le _) _ ⟨fun i _ => rfl, fun j => by rw [if_neg (by omega)]⟩) rfl
-- X1_restore
set_option maxHeartbeats 4000000 in
set_option maxRecDepth 100000 in
theorem m_X1_restore {E : EE} {K : Nat → Nat} {M : MM} {h b : Nat} (hH : K h = 1 ∧ K (h + 1) = 10) (hS : StageK K b) (hc : 1 ≤ M h 0 ∧ M h 0 ≤ 4) (hz0 : 0 ≤ M (h + 1) (M h 0 - 1)) (hz : StageK K (M (h + 1) (M h 0 - 1)).toNat) (hd : b + 16 ≤ (M (h + 1) (M h 0 - 1)).toNat ∨ (M (h + 1) (M h 0 - 1)).toNat + 16 ≤ b) : CnM E 4 yX1_restore cX1_restore 3 none [.ref h, .ref b] K M (fun r9 M2 => r9 = none ∧ M2 h 0 = M h 0 - 1 ∧ (∀ i, i ≠ h → (i < b ∨ b + 16 ≤ i) → M2 i = M i) ∧ (∀ j, j ≠ 0 → M2 h j = M h j) ∧ Alk M (M (h + 1) (M h 0 - 1)).toNat M2 b) := by
  have hkS : ∀ k, k < 16 → kS k ≠ 1 := by decide
  have hnb : ∀ k, k < 16 → b + k ≠ h := fun k hk e => by have := hS k hk; rw [e, hH.1] at this; exact hkS k hk this.symm
  have hnz : ∀ k, k < 16 → (M (h + 1) (M h 0 - 1)).toNat + k ≠ h := fun k hk e => by have := hz k hk; rw [e, hH.1] at this; exact hkS k hk this.symm
  have hhb : h < b ∨ b + 16 ≤ h := by by_cases e : b ≤ h ∧ h < b + 16; exact absurd (show b + (h - b) = h by omega) (hnb (h - b) (by omega)); omega
  refine Cn_of RX1 (plainFor_of_name (by decide)) rfl (Nat.le_of_ble_eq_true rfl) (fun X hX hQ => ?_)
  refine J_aload_n hX dX1_restore_0 rfl ?_
  refine J_geti hX fi_RX1_17 dX1_restore_1 (show K (h) = 1 from hH.1) (fun r1 => ?_)
  refine J_iconst hX dX1_restore_4 ?_
  refine J_icmp_lt hX 16 dX1_restore_5 (by omega) (by decide) (by decide) (fun c5 => ?_) (fun c5 => ?_)
  · exact J_vret hX hQ dX1_restore_16 ⟨rfl, by first | (exfalso; omega) | exact ⟨rfl, by rw [fM43 h hhb]; exact vm24, fun i i1 i2 => by rw [fM43 i i2, fm24 i i1], fun j hj => by rw [fM43 h hhb, gm24 _ j hj], fun k hk hk1 => by rw [aM43 k hk hk1, e24, fm24 _ (hnz k hk)]⟩⟩ (Nat.zero_le _) (Nat.zero_le _)
  · refine J_aload_n hX dX1_restore_8 rfl ?_
    refine J_geti hX fi_RX1_17 dX1_restore_9 (show K (h) = 1 from hH.1) (fun r9 => ?_)
    refine J_iconst hX dX1_restore_12 ?_
    refine J_icmp_le hX 17 dX1_restore_13 (by omega) (by decide) (by decide) (fun c13 => ?_) (fun c13 => ?_)
    · refine J_aload_n hX dX1_restore_17 rfl ?_
      refine J_dup hX dX1_restore_18 rfl ?_
      refine J_geti hX fi_RX1_17 dX1_restore_19 (show K (h) = 1 from hH.1) (fun r19 => ?_)
      refine J_iconst hX dX1_restore_22 ?_
      refine J_isub hX dX1_restore_23 ?_
      refine J_putA hX fw_RX1_17 dX1_restore_24 (show K (h) = 1 from hH.1) (by omega) (Or.inl rfl) (fun m24 hm24 => ?_)
      have fm24 : ∀ i, i ≠ h → m24 i = M i := fun i h => by rw [hm24]; exact mset_ne h
      have gm24 : ∀ i j, j ≠ 0 → m24 i j = M i j := fun i j h => by rw [hm24]; exact mset_nj h
      have vm24 := (congrFun (congrFun hm24 (h)) 0).trans mset_eq
      have e24 : m24 (h + 1) (m24 h 0) = M (h + 1) (M h 0 - 1) := by rw [vm24, fm24 _ (by omega)]
      have hZ : StageK K (m24 (h + 1) (m24 h 0)).toNat := by rw [e24]; exact hz
      have hd2 : b + 16 ≤ (m24 (h + 1) (m24 h 0)).toNat ∨ (m24 (h + 1) (m24 h 0)).toNat + 16 ≤ b := by rw [e24]; exact hd
      refine J_aload_n hX dX1_restore_27 rfl ?_
      refine J_gr hX (h + 1) fr_RX1_11 dX1_restore_28 (show K (h) = 1 from hH.1) rfl ?_
      refine J_aload_n hX dX1_restore_31 rfl ?_
      refine J_geti hX fi_RX1_17 dX1_restore_32 (show K (h) = 1 from hH.1) (fun r32 => ?_)
      refine J_aald hX dX1_restore_35 (show K (h + 1) = 10 from hH.2) ⟨by omega, by omega⟩ (by rw [e24]; exact hz0) ?_
      refine J_astore_n hX dX1_restore_36 (by decide) ?_
      refine J_aload_n hX dX1_restore_37 rfl ?_
      refine J_ifnull hX dX1_restore_38 ?_
      refine J_aload_n hX dX1_restore_41 rfl ?_
      refine J_aload_n hX dX1_restore_42 rfl ?_
      refine J_callVM hX _ dX1_restore_43 cw_RX1_25 (m_X5_copyFrom hZ hS (by omega)) ⟨(show K (b) = 5 from hS 0 (by decide)), by decide, by decide, rfl⟩ rfl (Nat.le_of_ble_eq_true rfl) (by decide) ⟨Nat.zero_le _, Nat.zero_le _⟩ (fun r9 M43 q43 => ?_)
      obtain ⟨rfl, fM43, aM43⟩ := q43
      exact J_vret hX hQ dX1_restore_46 ⟨rfl, by first | (exfalso; omega) | exact ⟨rfl, by rw [fM43 h hhb]; exact vm24, fun i i1 i2 => by rw [fM43 i i2, fm24 i i1], fun j hj => by rw [fM43 h hhb, gm24 _ j hj], fun k hk hk1 => by rw [aM43 k hk hk1, e24, fm24 _ (hnz k hk)]⟩⟩ (Nat.zero_le _) (Nat.zero_le _)
    · exact J_vret hX hQ dX1_restore_16 ⟨rfl, by first | (exfalso; omega) | exact ⟨rfl, by rw [fM43 h hhb]; exact vm24, fun i i1 i2 => by rw [fM43 i i2, fm24 i i1], fun j hj => by rw [fM43 h hhb, gm24 _ j hj], fun k hk hk1 => by rw [aM43 k hk hk1, e24, fm24 _ (hnz k hk)]⟩⟩ (Nat.zero_le _) (Nat.zero_le _)
