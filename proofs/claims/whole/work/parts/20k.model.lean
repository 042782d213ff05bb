-- X10_places
set_option maxHeartbeats 4000000 in
set_option maxRecDepth 100000 in
theorem m_X10_places {E : EE} {K : Nat → Nat} {M : MM} {r : Nat} {T : Int} {S : MM}  (hM : ModelK K r) (hR : RS S (M (r + 1))) (hW : WFS T S)  : CnM E 2 yX10_places cX10_places 2 none [.ref r] K M (fun r9 M2 => r9 = none ∧ (∀ i, i ≠ r + 6 → i ≠ r + 7 → i ≠ r + 8 → M2 i = M i) ∧ (∀ n : Int, 0 ≤ n → n < S 1 0 → M2 (r + 6) n = pos S 4 n ∧ M2 (r + 7) n = pos S 5 n ∧ M2 (r + 8) n = pos S 6 n)) := by
  obtain ⟨⟨rs0, rs1, rs2, rs3, rs4, rs5, rs6, rs7, rs8, rs9, rs10, rs13⟩, rst, rsn, rsc⟩ := id hR
  have hs9 := hW.2.1
  unfold WFSs at hs9
  refine Cn_of RX10 (plainFor_of_name (by decide)) rfl (Nat.le_of_ble_eq_true rfl) (fun X hX hQ => ?_)
  refine J_iconst hX dX10_places_0 ?_
  refine J_istore_n hX dX10_places_1 (by decide) ?_
  have HL2 : ∀ k : Nat, k ≤ (S 1 0).toNat → ∀ (M2 : MM), ((∀ i, i ≠ r + 6 → i ≠ r + 7 → i ≠ r + 8 → M2 i = M i) ∧ (∀ n : Int, 0 ≤ n → n < k → M2 (r + 6) n = pos S 4 n ∧ M2 (r + 7) n = pos S 5 n ∧ M2 (r + 8) n = pos S 6 n)) → J E X 2 [(0, .ref r), (1, vI (k : Int))] [] K M2 0 0 := by
    refine up_ind ((S 1 0).toNat) (fun k hk2 ih2 => ?_)
    intro M2  hi2
    have hRa : RS S (M2 (r + 1)) := by rw [hi2.1 _ (by omega) (by omega) (by omega)]; exact hR
    have w2 := congrFun (hi2.1 (r + 1) (by omega) (by omega) (by omega)) 2
    refine J_iload_n hX dX10_places_2 rfl ?_
    refine J_aload_n hX dX10_places_3 rfl ?_
    refine J_gr hX (r + 1) fr_RX10_7 dX10_places_4 (show K (r) = 9 from hM 0 (by decide)) rfl ?_
    refine J_iconst hX dX10_places_7 ?_
    refine J_iald hX dX10_places_8 (show K (r + 1) = 1000 + 198 from hM 1 (by decide)) ⟨by omega, by omega⟩ (by decide) (fun r8 => ?_)
    refine J_icmp_ge hX 54 dX10_places_9 (by omega) (by omega) (by decide) (fun c9 => ?_) (fun c9 => ?_)
    · exact J_vret hX hQ dX10_places_54 ⟨rfl, by exact ⟨rfl, hi2.1, fun n n0 n1 => hi2.2 n n0 (by omega)⟩⟩ (Nat.zero_le _) (Nat.zero_le _)
    · refine J_aload_n hX dX10_places_12 rfl ?_
      refine J_gr hX (r + 6) fr_RX10_25 dX10_places_13 (show K (r) = 9 from hM 0 (by decide)) rfl ?_
      refine J_iload_n hX dX10_places_16 rfl ?_
      refine J_aload_n hX dX10_places_17 rfl ?_
      refine J_iload_n hX dX10_places_18 rfl ?_
      refine J_iconst hX dX10_places_19 ?_
      refine J_callVI hX _ dX10_places_20 cw_RX10_160 (m_X10_sumOf (kk := 4) hM hRa hW (show hs S (k : Int) by omega) (by decide) (by decide)) ⟨(show K (r) = 9 from hM 0 (by decide)), by decide, by decide, rfl⟩ rfl (Nat.le_of_ble_eq_true rfl) (by decide) ⟨Nat.zero_le _, Nat.zero_le _⟩ (fun r20 => ?_)
      refine J_istA hX dX10_places_23 (show K (r + 6) = 1000 + 20 from hM 6 (by decide)) ⟨by omega, by omega⟩ (by decide) (by omega) (fun m23 hm23 => ?_)
      have fm23 : ∀ i, i ≠ r + 6 → m23 i = M2 i := fun i h => by rw [hm23]; exact mset_ne h
      have gm23 : ∀ i j, j ≠ (k : Int) → m23 i j = M2 i j := fun i j h => by rw [hm23]; exact mset_nj h
      have vm23 := (congrFun (congrFun hm23 (r + 6)) ((k : Int))).trans mset_eq
      have hRb : RS S (m23 (r + 1)) := by rw [fm23 _ (by omega)]; exact hRa
      refine J_aload_n hX dX10_places_24 rfl ?_
      refine J_gr hX (r + 7) fr_RX10_28 dX10_places_25 (show K (r) = 9 from hM 0 (by decide)) rfl ?_
      refine J_iload_n hX dX10_places_28 rfl ?_
      refine J_aload_n hX dX10_places_29 rfl ?_
      refine J_iload_n hX dX10_places_30 rfl ?_
      refine J_iconst hX dX10_places_31 ?_
      refine J_callVI hX _ dX10_places_32 cw_RX10_160 (m_X10_sumOf (kk := 5) hM hRb hW (show hs S (k : Int) by omega) (by decide) (by decide)) ⟨(show K (r) = 9 from hM 0 (by decide)), by decide, by decide, rfl⟩ rfl (Nat.le_of_ble_eq_true rfl) (by decide) ⟨Nat.zero_le _, Nat.zero_le _⟩ (fun r32 => ?_)
      refine J_istA hX dX10_places_35 (show K (r + 7) = 1000 + 20 from hM 7 (by decide)) ⟨by omega, by omega⟩ (by decide) (by omega) (fun m35 hm35 => ?_)
      have fm35 : ∀ i, i ≠ r + 7 → m35 i = m23 i := fun i h => by rw [hm35]; exact mset_ne h
      have gm35 : ∀ i j, j ≠ (k : Int) → m35 i j = m23 i j := fun i j h => by rw [hm35]; exact mset_nj h
      have vm35 := (congrFun (congrFun hm35 (r + 7)) ((k : Int))).trans mset_eq
      have hRc : RS S (m35 (r + 1)) := by rw [fm35 _ (by omega)]; exact hRb
      refine J_aload_n hX dX10_places_36 rfl ?_
      refine J_gr hX (r + 8) fr_RX10_31 dX10_places_37 (show K (r) = 9 from hM 0 (by decide)) rfl ?_
      refine J_iload_n hX dX10_places_40 rfl ?_
      refine J_aload_n hX dX10_places_41 rfl ?_
      refine J_iload_n hX dX10_places_42 rfl ?_
      refine J_iconst hX dX10_places_43 ?_
      refine J_callVI hX _ dX10_places_44 cw_RX10_160 (m_X10_sumOf (kk := 6) hM hRc hW (show hs S (k : Int) by omega) (by decide) (by decide)) ⟨(show K (r) = 9 from hM 0 (by decide)), by decide, by decide, rfl⟩ rfl (Nat.le_of_ble_eq_true rfl) (by decide) ⟨Nat.zero_le _, Nat.zero_le _⟩ (fun r44 => ?_)
      refine J_istA hX dX10_places_47 (show K (r + 8) = 1000 + 20 from hM 8 (by decide)) ⟨by omega, by omega⟩ (by decide) (by omega) (fun m47 hm47 => ?_)
      have fm47 : ∀ i, i ≠ r + 8 → m47 i = m35 i := fun i h => by rw [hm47]; exact mset_ne h
      have gm47 : ∀ i j, j ≠ (k : Int) → m47 i j = m35 i j := fun i j h => by rw [hm47]; exact mset_nj h
      have vm47 := (congrFun (congrFun hm47 (r + 8)) ((k : Int))).trans mset_eq
      refine J_iinc hX dX10_places_48 rfl (by decide) ?_
      refine J_goto hX 2 dX10_places_51 (by decide) ?_
      exact J_locI (ih2 (k + 1) (by omega) (by omega) _ ⟨fun i i1 i2 i3 => by rw [fm47 i i3, fm35 i i2, fm23 i i1]; exact hi2.1 i i1 i2 i3, fun n n0 n1 => by by_cases e : n = k; (subst e; exact ⟨by rw [fm47 _ (by omega), fm35 _ (by omega), vm23], by rw [fm47 _ (by omega), vm35], vm47⟩); (have z := hi2.2 n n0 (by omega); exact ⟨by rw [fm47 _ (by omega), fm35 _ (by omega), gm23 _ n e]; exact z.1, by rw [fm47 _ (by omega), gm35 _ n e, fm23 _ (by omega)]; exact z.2.1, by rw [gm47 _ n e, fm35 _ (by omega), fm23 _ (by omega)]; exact z.2.2⟩)⟩) rfl
  exact J_locI (HL2 0 (Nat.zero_le _) _ ⟨fun _ _ _ _ => rfl, fun n n0 n1 => absurd n1 (by omega)⟩) rfl
