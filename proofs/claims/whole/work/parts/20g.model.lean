-- X10_isWithin
set_option maxHeartbeats 4000000 in
set_option maxRecDepth 100000 in
theorem m_X10_isWithin {E : EE} {K : Nat → Nat} {M : MM} {r : Nat} {T : Int} {S : MM} {n d : Int} (hM : ModelK K r) (hR : RS S (M (r + 1))) (hW : WFS T S) (hn : hs S n) (hd : 0 ≤ d ∧ d < 20) : CnB E 1 yX10_isWithin cX10_isWithin 4 [.ref r, vI n, vI d] K M (gne S d n) := by
  obtain ⟨⟨rs0, rs1, rs2, rs3, rs4, rs5, rs6, rs7, rs8, rs9, rs10, rs13⟩, rst, rsn, rsc⟩ := id hR
  have hs9 := hW.2.1
  unfold WFSs at hs9
  have q := rsn n hn.1 hn.2.1
  have hwn := hW.2.2.1 n hn.1 hn.2.1
  refine Cn_of RX10 (plainFor_of_name (by decide)) rfl (Nat.le_of_ble_eq_true rfl) (fun X hX hQ => ?_)
  refine J_iload_n hX dX10_isWithin_0 rfl ?_
  refine J_istore_n hX dX10_isWithin_1 (by decide) ?_
  have HL2 : ∀ k : Nat, k ≤ 20 → ∀ (i : Int), ((i = -1000 ∧ ¬ gne S d n) ∨ (0 ≤ i ∧ i ≤ n - k ∧ i < S 1 0 ∧ (gne S d i ↔ gne S d n))) → J E X 2 [(0, .ref r), (1, vI n), (2, vI d), (3, vI i)] [] K M 0 0 := by
    refine up_ind (20) (fun k hk2 ih2 => ?_)
    intro i  hi2
    have hi9 : i = -1000 ∨ (0 ≤ i ∧ i ≤ n - k ∧ i < S 1 0) := hi2.imp (fun z => z.1) (fun z => ⟨z.1, z.2.1, z.2.2.1⟩)
    refine J_iload_n hX dX10_isWithin_2 rfl ?_
    refine J_sipush hX dX10_isWithin_3 rfl ?_
    refine J_icmp_eq hX 24 dX10_isWithin_6 (by omega) (by decide) (by decide) (fun c6 => ?_) (fun c6 => ?_)
    · refine J_iload_n hX dX10_isWithin_24 rfl ?_
      refine J_iload_n hX dX10_isWithin_25 rfl ?_
      refine J_icmp_ne hX 33 dX10_isWithin_26 (by omega) (by omega) (by decide) (fun c26 => ?_) (fun c26 => ?_)
      · refine J_iconst hX dX10_isWithin_33 ?_
        exact J_retF hX hQ dX10_isWithin_34 (by first | (exfalso; omega) | (rcases hi2 with z | z; exact z.2; exact absurd z.1 (by omega)) | (rcases hi2 with z | z; exact absurd z.1 (by omega); exact z.2.2.2.mp ((gne_iff hW z.1 z.2.2.1).mpr (Or.inl (by omega))))) rfl rfl (Nat.zero_le _) (Nat.zero_le _)
      · refine J_iconst hX dX10_isWithin_29 ?_
        refine J_goto hX 34 dX10_isWithin_30 (by decide) ?_
        exact J_retT hX hQ dX10_isWithin_34 (by first | (exfalso; omega) | (rcases hi2 with z | z; exact z.2; exact absurd z.1 (by omega)) | (rcases hi2 with z | z; exact absurd z.1 (by omega); exact z.2.2.2.mp ((gne_iff hW z.1 z.2.2.1).mpr (Or.inl (by omega))))) rfl rfl (Nat.zero_le _) (Nat.zero_le _)
    · refine J_iload_n hX dX10_isWithin_9 rfl ?_
      refine J_iload_n hX dX10_isWithin_10 rfl ?_
      refine J_icmp_eq hX 24 dX10_isWithin_11 (by omega) (by omega) (by decide) (fun c11 => ?_) (fun c11 => ?_)
      · refine J_iload_n hX dX10_isWithin_24 rfl ?_
        refine J_iload_n hX dX10_isWithin_25 rfl ?_
        refine J_icmp_ne hX 33 dX10_isWithin_26 (by omega) (by omega) (by decide) (fun c26 => ?_) (fun c26 => ?_)
        · refine J_iconst hX dX10_isWithin_33 ?_
          exact J_retF hX hQ dX10_isWithin_34 (by first | (exfalso; omega) | (rcases hi2 with z | z; exact z.2; exact absurd z.1 (by omega)) | (rcases hi2 with z | z; exact absurd z.1 (by omega); exact z.2.2.2.mp ((gne_iff hW z.1 z.2.2.1).mpr (Or.inl (by omega))))) rfl rfl (Nat.zero_le _) (Nat.zero_le _)
        · refine J_iconst hX dX10_isWithin_29 ?_
          refine J_goto hX 34 dX10_isWithin_30 (by decide) ?_
          exact J_retT hX hQ dX10_isWithin_34 (by first | (exfalso; omega) | (rcases hi2 with z | z; exact z.2; exact absurd z.1 (by omega)) | (rcases hi2 with z | z; exact absurd z.1 (by omega); exact z.2.2.2.mp ((gne_iff hW z.1 z.2.2.1).mpr (Or.inl (by omega))))) rfl rfl (Nat.zero_le _) (Nat.zero_le _)
      · have z := hi2.resolve_left (fun z => by omega)
        have hw := hW.2.2.1 i (by omega) (by omega)
        have qi := rsn i (by omega) (by omega)
        have q0 : M (r + 1) (14 + 8 * i + 0) = S 2 i := by rw [Int.add_zero]; exact qi.1
        have gi := gne_iff hW (d := d) z.1 z.2.2.1
        refine J_aload_n hX dX10_isWithin_14 rfl ?_
        refine J_iload_n hX dX10_isWithin_15 rfl ?_
        refine J_iconst hX dX10_isWithin_16 ?_
        refine J_callVI hX _ dX10_isWithin_17 cw_RX10_62 (m_X10_of hM (by omega) (by omega) (by omega)) ⟨(show K (r) = 9 from hM 0 (by decide)), by decide, by decide, rfl⟩ rfl (Nat.le_of_ble_eq_true rfl) (by decide) ⟨Nat.zero_le _, Nat.zero_le _⟩ (fun r17 => ?_)
        refine J_istore_n hX dX10_isWithin_20 (by decide) ?_
        refine J_goto hX 2 dX10_isWithin_21 (by decide) ?_
        exact J_locI (ih2 (k + 1) (by omega) (by omega) _ (by rw [q0]; rcases hw.1 with w1 | w1; exact Or.inl ⟨w1.1, fun g => by rcases gi.mp (z.2.2.2.mpr g) with e | e; omega; omega⟩; exact Or.inr ⟨w1.1, by omega, by omega, ⟨fun g => z.2.2.2.mp (gi.mpr (Or.inr ⟨w1.1, g⟩)), fun g => by rcases gi.mp (z.2.2.2.mpr g) with e | e; omega; exact e.2⟩⟩)) rfl
  exact J_locI (HL2 0 (Nat.zero_le _) _ (Or.inr ⟨by omega, by omega, by omega, Iff.rfl⟩)) rfl
