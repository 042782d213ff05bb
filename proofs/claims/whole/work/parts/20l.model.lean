-- X10_inside
set_option maxHeartbeats 4000000 in
set_option maxRecDepth 100000 in
theorem m_X10_inside {E : EE} {K : Nat → Nat} {M : MM} {r : Nat} {T : Int} {S : MM} {n : Int} (hM : ModelK K r) (hR : RS S (M (r + 1))) (hW : WFS T S) (hn : i32 n) : CnI E 1 yX10_inside cX10_inside 4 (Option.some FieldType.int) [.ref r, vI n] K M (ct (fun j : Int => S 2 j = n) (S 1 0).toNat) := by
  obtain ⟨⟨rs0, rs1, rs2, rs3, rs4, rs5, rs6, rs7, rs8, rs9, rs10, rs13⟩, rst, rsn, rsc⟩ := id hR
  have hs9 := hW.2.1
  unfold WFSs at hs9
  have hrg := ct_rng (fun j : Int => S 2 j = n)
  refine ⟨Cn_of RX10 (plainFor_of_name (by decide)) rfl (Nat.le_of_ble_eq_true rfl) (fun X hX hQ => ?_), by have hs9 := hW.2.1; unfold WFSs at hs9; have := ct_rng (fun j : Int => S 2 j = n) (S 1 0).toNat; omega⟩
  refine J_iconst hX dX10_inside_0 ?_
  refine J_istore_n hX dX10_inside_1 (by decide) ?_
  refine J_iconst hX dX10_inside_2 ?_
  refine J_istore_n hX dX10_inside_3 (by decide) ?_
  have HL4 : ∀ k : Nat, k ≤ (S 1 0).toNat → ∀ (s : Int), (s = ct (fun j : Int => S 2 j = n) k) → J E X 4 [(0, .ref r), (1, vI n), (2, vI s), (3, vI (k : Int))] [] K M 0 0 := by
    refine up_ind ((S 1 0).toNat) (fun k hk4 ih4 => ?_)
    intro s  hi4
    have hr4 := hrg k
    refine J_iload_n hX dX10_inside_4 rfl ?_
    refine J_aload_n hX dX10_inside_5 rfl ?_
    refine J_gr hX (r + 1) fr_RX10_7 dX10_inside_6 (show K (r) = 9 from hM 0 (by decide)) rfl ?_
    refine J_iconst hX dX10_inside_9 ?_
    refine J_iald hX dX10_inside_10 (show K (r + 1) = 1000 + 198 from hM 1 (by decide)) ⟨by omega, by omega⟩ (by decide) (fun r10 => ?_)
    refine J_icmp_ge hX 38 dX10_inside_11 (by omega) (by omega) (by decide) (fun c11 => ?_) (fun c11 => ?_)
    · refine J_iload_n hX dX10_inside_38 rfl ?_
      exact J_retI hX hQ dX10_inside_39 (by rw [hi4, show (S 1 0).toNat = k by omega]) rfl rfl (Nat.zero_le _) (Nat.zero_le _)
    · have hw := hW.2.2.1 (k : Int) (by omega) (by omega)
      have qi := rsn (k : Int) (by omega) (by omega)
      have q0 : M (r + 1) (14 + 8 * (k : Int) + 0) = S 2 k := by rw [Int.add_zero]; exact qi.1
      refine J_iload_n hX dX10_inside_14 rfl ?_
      refine J_aload_n hX dX10_inside_15 rfl ?_
      refine J_iload_n hX dX10_inside_16 rfl ?_
      refine J_iconst hX dX10_inside_17 ?_
      refine J_callVI hX _ dX10_inside_18 cw_RX10_62 (m_X10_of hM (by omega) (by omega) (by omega)) ⟨(show K (r) = 9 from hM 0 (by decide)), by decide, by decide, rfl⟩ rfl (Nat.le_of_ble_eq_true rfl) (by decide) ⟨Nat.zero_le _, Nat.zero_le _⟩ (fun r18 => ?_)
      refine J_iload_n hX dX10_inside_21 rfl ?_
      refine J_icmp_ne hX 29 dX10_inside_22 (by omega) (by omega) (by decide) (fun c22 => ?_) (fun c22 => ?_)
      · refine J_iconst hX dX10_inside_29 ?_
        refine J_iadd hX dX10_inside_30 ?_
        refine J_istore_n hX dX10_inside_31 (by decide) ?_
        refine J_iinc hX dX10_inside_32 rfl (by decide) ?_
        refine J_goto hX 4 dX10_inside_35 (by decide) ?_
        exact J_locI (ih4 (k + 1) (by omega) (by omega) _ (by first | (rw [hi4, ct_t (p := (fun j : Int => S 2 j = n)) (show S 2 (k : Int) = n by omega)]) | (rw [hi4, ct_f (p := (fun j : Int => S 2 j = n)) (show ¬ S 2 (k : Int) = n by omega)]; omega))) rfl
      · refine J_iconst hX dX10_inside_25 ?_
        refine J_goto hX 30 dX10_inside_26 (by decide) ?_
        refine J_iadd hX dX10_inside_30 ?_
        refine J_istore_n hX dX10_inside_31 (by decide) ?_
        refine J_iinc hX dX10_inside_32 rfl (by decide) ?_
        refine J_goto hX 4 dX10_inside_35 (by decide) ?_
        exact J_locI (ih4 (k + 1) (by omega) (by omega) _ (by first | (rw [hi4, ct_t (p := (fun j : Int => S 2 j = n)) (show S 2 (k : Int) = n by omega)]) | (rw [hi4, ct_f (p := (fun j : Int => S 2 j = n)) (show ¬ S 2 (k : Int) = n by omega)]; omega))) rfl
  exact J_locI (HL4 0 (Nat.zero_le _) _ rfl) rfl
