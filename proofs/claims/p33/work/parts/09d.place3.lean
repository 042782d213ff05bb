-- X2_putInOrder
set_option maxHeartbeats 4000000 in
set_option maxRecDepth 100000 in
theorem m_X2_putInOrder {E : EE} {K : Nat → Nat} {M : MM} {v : Nat} {T n : Int} {B : Nat} (hV : ViewK K v) (hW : WF T M (v + 2)) (hB : M (v + 1) 9 = (B : Nat)) (hB1 : B < 20) (hn : has M (v + 2) n) (hO : ∀ j : Nat, j < B → has M (v + 2) (M (v + 24) j)) : CnM E 2 yX2_putInOrder cX2_putInOrder 3 none [.ref (v + 1), vI n] K M (fun r M2 => r = none ∧ (∀ i, i ≠ v + 24 → i ≠ v + 1 → M2 i = M i) ∧ (∀ j, j ≠ 9 → M2 (v + 1) j = M (v + 1) j) ∧ M2 (v + 1) 9 = B + 1 ∧ ∀ j : Nat, j ≤ B → M2 (v + 24) j = ins (M (v + 24)) (M (v + 21)) B n j) := by
  have hW0 := hW
  obtain ⟨hT0, ⟨ws1, ws2, ws3, ws4, ws5, ws6, ws7, ws8, ws9, ws10, ws11, ws12, ws13, ws14⟩, hWn, hWc⟩ := hW0
  have hS0 := hW.S
  refine Cn_of RX2 (plainFor_of_name (by decide)) rfl (Nat.le_of_ble_eq_true rfl) (fun X hX hQ => ?_)
  refine J_aload_n hX dX2_putInOrder_0 rfl ?_
  refine J_geti hX fi_RX2_68 dX2_putInOrder_1 (show K (v + 1) = 2 from hV 1 (by decide)) (fun r1 => ?_)
  refine J_if_lt hX 16 dX2_putInOrder_4 (by omega) (by decide) (fun c4 => ?_) (fun c4 => ?_)
  · exact J_vret hX hQ dX2_putInOrder_16 ⟨rfl, by first | (exfalso; omega) | exact ⟨rfl, po_fin hB ⟨by omega, by omega⟩ hi22.2.1 hi22.2.2.1 hi22.2.2.2.1 (by rw [hi22.2.2.2.2]; first | (rw [show p.toNat = 0 by omega]; rfl) | exact scn_f (q1 := (p - 1).toNat) (by omega) (by rw [show (((p - 1).toNat : Nat) : Int) = p - 1 by omega]; intro q9; exact c39 ⟨⟨by omega, by omega⟩, by omega⟩)) hm68 hm76⟩⟩ (Nat.zero_le _) (Nat.zero_le _)
  · refine J_aload_n hX dX2_putInOrder_7 rfl ?_
    refine J_geti hX fi_RX2_68 dX2_putInOrder_8 (show K (v + 1) = 2 from hV 1 (by decide)) (fun r8 => ?_)
    refine J_bipush hX dX2_putInOrder_11 rfl ?_
    refine J_icmp_lt hX 17 dX2_putInOrder_13 (by omega) (by decide) (by decide) (fun c13 => ?_) (fun c13 => ?_)
    · refine J_aload_n hX dX2_putInOrder_17 rfl ?_
      refine J_geti hX fi_RX2_68 dX2_putInOrder_18 (show K (v + 1) = 2 from hV 1 (by decide)) (fun r18 => ?_)
      refine J_istore_n hX dX2_putInOrder_21 (by decide) ?_
      have HL22 : ∀ k : Nat, k ≤ B → ∀ (p : Int) (M2 : MM), (p = B - k ∧ (∀ i, i ≠ v + 24 → M2 i = M i) ∧ (∀ j, j ≤ p → M2 (v + 24) j = M (v + 24) j) ∧ (∀ j, p < j → j ≤ B → M2 (v + 24) j = M (v + 24) (j - 1)) ∧ scn (M (v + 24)) (M (v + 21)) (M (v + 21) n) B = scn (M (v + 24)) (M (v + 21)) (M (v + 21) n) p.toNat) → J E X 22 [(0, .ref (v + 1)), (1, vI n), (2, vI p)] [] K M2 0 0 := by
        refine up_ind (B) (fun k hk22 ih22 => ?_)
        intro p  M2  hi22
        have x1 := congrFun (hi22.2.1 (v + 2 + 1) (by omega)) 0
        have x2 := hi22.2.1 (v + 21) (by omega)
        have x3 := congrFun (hi22.2.1 (v + 1) (by omega)) 9
        refine J_iload_n hX dX2_putInOrder_22 rfl ?_
        refine J_if_le hX 62 dX2_putInOrder_23 (by omega) (by decide) (fun c23 => ?_) (fun c23 => ?_)
        · refine J_aload_n hX dX2_putInOrder_62 rfl ?_
          refine J_gr hX (v + 24) fr_RX2_42 dX2_putInOrder_63 (show K (v + 1) = 2 from hV 1 (by decide)) rfl ?_
          refine J_iload_n hX dX2_putInOrder_66 rfl ?_
          refine J_iload_n hX dX2_putInOrder_67 rfl ?_
          refine J_istA hX dX2_putInOrder_68 (show K (v + 24) = 1000 + 20 from hV 24 (by decide)) ⟨by omega, by omega⟩ (by decide) (by omega) (fun m68 hm68 => ?_)
          have fm68 : ∀ i, i ≠ v + 24 → m68 i = M2 i := fun i h => by rw [hm68]; exact mset_ne h
          have gm68 : ∀ i j, j ≠ p → m68 i j = M2 i j := fun i j h => by rw [hm68]; exact mset_nj h
          have vm68 := (congrFun (congrFun hm68 (v + 24)) (p)).trans mset_eq
          refine J_aload_n hX dX2_putInOrder_69 rfl ?_
          refine J_dup hX dX2_putInOrder_70 rfl ?_
          have x4 := congrFun (fm68 (v + 1) (by omega)) 9
          refine J_geti hX fi_RX2_68 dX2_putInOrder_71 (show K (v + 1) = 2 from hV 1 (by decide)) (fun r71 => ?_)
          refine J_iconst hX dX2_putInOrder_74 ?_
          refine J_iadd hX dX2_putInOrder_75 ?_
          refine J_putA hX fw_RX2_68 dX2_putInOrder_76 (show K (v + 1) = 2 from hV 1 (by decide)) (by omega) (Or.inl rfl) (fun m76 hm76 => ?_)
          have fm76 : ∀ i, i ≠ v + 1 → m76 i = m68 i := fun i h => by rw [hm76]; exact mset_ne h
          have gm76 : ∀ i j, j ≠ 9 → m76 i j = m68 i j := fun i j h => by rw [hm76]; exact mset_nj h
          have vm76 := (congrFun (congrFun hm76 (v + 1)) 9).trans mset_eq
          exact J_vret hX hQ dX2_putInOrder_79 ⟨rfl, by first | (exfalso; omega) | exact ⟨rfl, po_fin hB ⟨by omega, by omega⟩ hi22.2.1 hi22.2.2.1 hi22.2.2.2.1 (by rw [hi22.2.2.2.2]; first | (rw [show p.toNat = 0 by omega]; rfl) | exact scn_f (q1 := (p - 1).toNat) (by omega) (by rw [show (((p - 1).toNat : Nat) : Int) = p - 1 by omega]; intro q9; exact c39 ⟨⟨by omega, by omega⟩, by omega⟩)) hm68 hm76⟩⟩ (Nat.zero_le _) (Nat.zero_le _)
        · refine J_aload_n hX dX2_putInOrder_26 rfl ?_
          refine J_aload_n hX dX2_putInOrder_27 rfl ?_
          refine J_gr hX (v + 24) fr_RX2_42 dX2_putInOrder_28 (show K (v + 1) = 2 from hV 1 (by decide)) rfl ?_
          refine J_iload_n hX dX2_putInOrder_31 rfl ?_
          refine J_iconst hX dX2_putInOrder_32 ?_
          refine J_isub hX dX2_putInOrder_33 ?_
          refine J_iald hX dX2_putInOrder_34 (show K (v + 24) = 1000 + 20 from hV 24 (by decide)) ⟨by omega, by omega⟩ (by decide) (fun r34 => ?_)
          have y1 := hi22.2.2.1 (p - 1) (by omega)
          have y2 := hO (p - 1).toNat (by omega)
          rw [show (((p - 1).toNat : Nat) : Int) = p - 1 by omega] at y2
          have y3 := congrFun x2 n
          have y4 := congrFun x2 (M2 (v + 24) (p - 1))
          have y5 := congrArg (M (v + 21)) y1
          refine J_iload_n hX dX2_putInOrder_35 rfl ?_
          refine J_callVB hX _ dX2_putInOrder_36 cw_RX2_111 (m_X2_isNearer hV (by omega) (by omega)) ⟨(show K (v + 1) = 2 from hV 1 (by decide)), by decide, by decide, rfl⟩ rfl (Nat.le_of_ble_eq_true rfl) (by decide) ⟨Nat.zero_le _, Nat.zero_le _⟩ ?_
          refine J_ifb_eq hX 62 dX2_putInOrder_39 (by decide) (fun c39 => ?_) (fun c39 => ?_)
          · refine J_aload_n hX dX2_putInOrder_62 rfl ?_
            refine J_gr hX (v + 24) fr_RX2_42 dX2_putInOrder_63 (show K (v + 1) = 2 from hV 1 (by decide)) rfl ?_
            refine J_iload_n hX dX2_putInOrder_66 rfl ?_
            refine J_iload_n hX dX2_putInOrder_67 rfl ?_
            refine J_istA hX dX2_putInOrder_68 (show K (v + 24) = 1000 + 20 from hV 24 (by decide)) ⟨by omega, by omega⟩ (by decide) (by omega) (fun m68 hm68 => ?_)
            have fm68 : ∀ i, i ≠ v + 24 → m68 i = M2 i := fun i h => by rw [hm68]; exact mset_ne h
            have gm68 : ∀ i j, j ≠ p → m68 i j = M2 i j := fun i j h => by rw [hm68]; exact mset_nj h
            have vm68 := (congrFun (congrFun hm68 (v + 24)) (p)).trans mset_eq
            refine J_aload_n hX dX2_putInOrder_69 rfl ?_
            refine J_dup hX dX2_putInOrder_70 rfl ?_
            have x4 := congrFun (fm68 (v + 1) (by omega)) 9
            refine J_geti hX fi_RX2_68 dX2_putInOrder_71 (show K (v + 1) = 2 from hV 1 (by decide)) (fun r71 => ?_)
            refine J_iconst hX dX2_putInOrder_74 ?_
            refine J_iadd hX dX2_putInOrder_75 ?_
            refine J_putA hX fw_RX2_68 dX2_putInOrder_76 (show K (v + 1) = 2 from hV 1 (by decide)) (by omega) (Or.inl rfl) (fun m76 hm76 => ?_)
            have fm76 : ∀ i, i ≠ v + 1 → m76 i = m68 i := fun i h => by rw [hm76]; exact mset_ne h
            have gm76 : ∀ i j, j ≠ 9 → m76 i j = m68 i j := fun i j h => by rw [hm76]; exact mset_nj h
            have vm76 := (congrFun (congrFun hm76 (v + 1)) 9).trans mset_eq
            exact J_vret hX hQ dX2_putInOrder_79 ⟨rfl, by first | (exfalso; omega) | exact ⟨rfl, po_fin hB ⟨by omega, by omega⟩ hi22.2.1 hi22.2.2.1 hi22.2.2.2.1 (by rw [hi22.2.2.2.2]; first | (rw [show p.toNat = 0 by omega]; rfl) | exact scn_f (q1 := (p - 1).toNat) (by omega) (by rw [show (((p - 1).toNat : Nat) : Int) = p - 1 by omega]; intro q9; exact c39 ⟨⟨by omega, by omega⟩, by omega⟩)) hm68 hm76⟩⟩ (Nat.zero_le _) (Nat.zero_le _)
          · refine J_aload_n hX dX2_putInOrder_42 rfl ?_
            refine J_gr hX (v + 24) fr_RX2_42 dX2_putInOrder_43 (show K (v + 1) = 2 from hV 1 (by decide)) rfl ?_
            refine J_iload_n hX dX2_putInOrder_46 rfl ?_
            refine J_aload_n hX dX2_putInOrder_47 rfl ?_
            refine J_gr hX (v + 24) fr_RX2_42 dX2_putInOrder_48 (show K (v + 1) = 2 from hV 1 (by decide)) rfl ?_
            refine J_iload_n hX dX2_putInOrder_51 rfl ?_
            refine J_iconst hX dX2_putInOrder_52 ?_
            refine J_isub hX dX2_putInOrder_53 ?_
            refine J_iald hX dX2_putInOrder_54 (show K (v + 24) = 1000 + 20 from hV 24 (by decide)) ⟨by omega, by omega⟩ (by decide) (fun r54 => ?_)
            refine J_istA hX dX2_putInOrder_55 (show K (v + 24) = 1000 + 20 from hV 24 (by decide)) ⟨by omega, by omega⟩ (by decide) (by omega) (fun m55 hm55 => ?_)
            have fm55 : ∀ i, i ≠ v + 24 → m55 i = M2 i := fun i h => by rw [hm55]; exact mset_ne h
            have gm55 : ∀ i j, j ≠ p → m55 i j = M2 i j := fun i j h => by rw [hm55]; exact mset_nj h
            have vm55 := (congrFun (congrFun hm55 (v + 24)) (p)).trans mset_eq
            refine J_iinc hX dX2_putInOrder_56 rfl (by decide) ?_
            refine J_goto hX 22 dX2_putInOrder_59 (by decide) ?_
            exact J_locI (ih22 (k + 1) (by omega) (by omega) _ _ ⟨by omega, fun i h => by rw [fm55 i h]; exact hi22.2.1 i h, fun j h => by rw [gm55 _ j (by omega)]; exact hi22.2.2.1 j (by omega), fun j h1 h2 => by
                        by_cases e : j = p
                        · subst e; rw [vm55]; exact hi22.2.2.1 _ (by omega)
                        · rw [gm55 _ j e]; exact hi22.2.2.2.1 j (by omega) h2, by
                        rw [hi22.2.2.2.2, show (p + -1).toNat = (p - 1).toNat by omega]
                        exact scn_t (by omega) (by rw [show (((p - 1).toNat : Nat) : Int) = p - 1 by omega]; have c9 := c39.2; rw [x2, hi22.2.2.1 _ (by omega)] at c9; exact c9)⟩) rfl
      exact J_locI (HL22 0 (Nat.zero_le _) _ _ ⟨by omega, fun i _ => rfl, fun j _ => rfl, fun j h1 h2 => absurd h1 (by omega), by rw [show (M (v + 1) 9).toNat = B by omega]⟩) rfl
    · exact J_vret hX hQ dX2_putInOrder_16 ⟨rfl, by first | (exfalso; omega) | exact ⟨rfl, po_fin hB ⟨by omega, by omega⟩ hi22.2.1 hi22.2.2.1 hi22.2.2.2.1 (by rw [hi22.2.2.2.2]; first | (rw [show p.toNat = 0 by omega]; rfl) | exact scn_f (q1 := (p - 1).toNat) (by omega) (by rw [show (((p - 1).toNat : Nat) : Int) = p - 1 by omega]; intro q9; exact c39 ⟨⟨by omega, by omega⟩, by omega⟩)) hm68 hm76⟩⟩ (Nat.zero_le _) (Nat.zero_le _)
-- X2_measure
set_option maxHeartbeats 4000000 in
set_option maxRecDepth 100000 in
theorem m_X2_measure {E : EE} {K : Nat → Nat} {M : MM} {v : Nat} {T : Int} (hV : ViewK K v) (hW : WF T M (v + 2)) : CnM E 4 yX2_measure cX2_measure 2 none [.ref (v + 1)] K M (fun r M2 => r = none ∧ (∀ i, i ≠ v + 1 → (i < v + 18 ∨ v + 24 < i) → M2 i = M i) ∧ Pld M2 v (stg M (v + 2))) := by
  have hW0 := hW
  obtain ⟨hT0, ⟨ws1, ws2, ws3, ws4, ws5, ws6, ws7, ws8, ws9, ws10, ws11, ws12, ws13, ws14⟩, hWn, hWc⟩ := hW0
  have hS0 := hW.S
  refine Cn_of RX2 (plainFor_of_name (by decide)) rfl (Nat.le_of_ble_eq_true rfl) (fun X hX hQ => ?_)
  refine J_aload_n hX dX2_measure_0 rfl ?_
  refine J_callVM hX _ dX2_measure_1 cw_RX2_45 (m_X2_placeNodes hV hW) ⟨(show K (v + 1) = 2 from hV 1 (by decide)), by decide, by decide, rfl⟩ rfl (Nat.le_of_ble_eq_true rfl) (by decide) ⟨Nat.zero_le _, Nat.zero_le _⟩ (fun r9 M1 q1 => ?_)
  obtain ⟨rfl, fp1, fp2⟩ := q1
  have st1 : stg M1 (v + 2) = stg M (v + 2) := stg_eq (fun k hk => fp1 _ (by omega) (by omega) (by omega))
  have hW1 := WF_fr st1 hW
  have hZ1 : ∀ n, box M1 (v + 2) n → M1 (v + 20) n = pos (stg M1 (v + 2)) 6 n := fun n hb => by rw [st1]; have z1 := congrFun (fp1 (v + 2 + 1) (by omega) (by omega) (by omega)) 0; exact (fp2 n (by omega) (by omega)).2.2
  refine J_aload_n hX dX2_measure_4 rfl ?_
  refine J_aload_n hX dX2_measure_5 rfl ?_
  refine J_aload_n hX dX2_measure_6 rfl ?_
  refine J_gr hX (v + 2) fr_RX2_12 dX2_measure_7 (show K (v + 1) = 2 from hV 1 (by decide)) rfl ?_
  refine J_gr hX (v + 2 + 11) fr_RX2_48 dX2_measure_10 (show K (v + 2) = 5 from (hV).stage 0 (by decide)) rfl ?_
  refine J_geti hX fi_RX2_52 dX2_measure_13 (show K (v + 2 + 11) = 3 from (hV).stage 11 (by decide)) (fun r13 => ?_)
  refine J_aload_n hX dX2_measure_16 rfl ?_
  refine J_gr hX (v + 2) fr_RX2_12 dX2_measure_17 (show K (v + 1) = 2 from hV 1 (by decide)) rfl ?_
  refine J_gr hX (v + 2 + 11) fr_RX2_48 dX2_measure_20 (show K (v + 2) = 5 from (hV).stage 0 (by decide)) rfl ?_
  refine J_geti hX fi_RX2_58 dX2_measure_23 (show K (v + 2 + 11) = 3 from (hV).stage 11 (by decide)) (fun r23 => ?_)
  refine J_callVI hX _ dX2_measure_26 cw_RX2_61 (m_X2_percentageWithin hV hW1 hZ1 (by omega) (by omega)) ⟨(show K (v + 1) = 2 from hV 1 (by decide)), by decide, by decide, rfl⟩ rfl (Nat.le_of_ble_eq_true rfl) (by decide) ⟨Nat.zero_le _, Nat.zero_le _⟩ (fun r26 => ?_)
  have pr := pctW_rng (stg M1 (v + 2)) (M1 (v + 2 + 11) 2) (M1 (v + 2 + 11) 3)
  refine J_putA hX fw_RX2_65 dX2_measure_29 (show K (v + 1) = 2 from hV 1 (by decide)) (by omega) (Or.inl rfl) (fun m29 hm29 => ?_)
  have fm29 : ∀ i, i ≠ v + 1 → m29 i = M1 i := fun i h => by rw [hm29]; exact mset_ne h
  have gm29 : ∀ i j, j ≠ 10 → m29 i j = M1 i j := fun i j h => by rw [hm29]; exact mset_nj h
  have vm29 := (congrFun (congrFun hm29 (v + 1)) 10).trans mset_eq
  refine J_aload_n hX dX2_measure_32 rfl ?_
  refine J_iconst hX dX2_measure_33 ?_
  refine J_putA hX fw_RX2_68 dX2_measure_34 (show K (v + 1) = 2 from hV 1 (by decide)) (by omega) (Or.inl rfl) (fun m34 hm34 => ?_)
  have fm34 : ∀ i, i ≠ v + 1 → m34 i = m29 i := fun i h => by rw [hm34]; exact mset_ne h
  have gm34 : ∀ i j, j ≠ 9 → m34 i j = m29 i j := fun i j h => by rw [hm34]; exact mset_nj h
  have vm34 := (congrFun (congrFun hm34 (v + 1)) 9).trans mset_eq
  have hp34 : m34 (v + 1) 10 = pct (stg M (v + 2)) := by rw [gm34 _ _ (by decide), vm29, st1]; show pctW _ (M1 (v + 2 + 11) 2) (M1 (v + 2 + 11) 3) = _; rw [fp1 (v + 2 + 11) (by omega) (by omega) (by omega)]; rfl
  have fr34 : ∀ i, i ≠ v + 1 → m34 i = M1 i := fun i h => by rw [fm34 i h, fm29 i h]
  refine J_iconst hX dX2_measure_37 ?_
  refine J_istore_n hX dX2_measure_38 (by decide) ?_
  have HL39 : ∀ k : Nat, k ≤ (M (v + 2 + 1) 0).toNat → ∀ (M2 : MM), (MeI m34 M2 v (stg M (v + 2)) k) → J E X 39 [(0, .ref (v + 1)), (1, vI (k : Int))] [] K M2 0 0 := by
    refine up_ind ((M (v + 2 + 1) 0).toNat) (fun k hk39 ih39 => ?_)
    intro M2  hi39
    have fr2 : ∀ i, i ≠ v + 1 → (i < v + 18 ∨ v + 24 < i) → M2 i = M i := fun i i1 i2 => by rw [hi39.1 i i1 (by omega) (by omega) (by omega) (by omega), fr34 i i1]; exact fp1 i (by omega) (by omega) (by omega)
    have e1 := congrFun (fr2 (v + 2 + 1) (by omega) (by omega)) 0
    refine J_iload_n hX dX2_measure_39 rfl ?_
    refine J_aload_n hX dX2_measure_40 rfl ?_
    refine J_gr hX (v + 2 + 1) fr_RX2_22 dX2_measure_41 (show K (v + 1) = 2 from hV 1 (by decide)) rfl ?_
    refine J_geti hX fi_RX2_71 dX2_measure_44 (show K (v + 2 + 1) = 6 from (hV).stage 1 (by decide)) (fun r44 => ?_)
    refine J_icmp_ge hX 156 dX2_measure_47 (by omega) (by omega) (by decide) (fun c47 => ?_) (fun c47 => ?_)
    · exact J_vret hX hQ dX2_measure_156 ⟨rfl, by first | (exfalso; omega) | exact ⟨rfl, me_fin hW fp1 fp2 fr34 hi39 (by unfold cnt; show k = (M (v + 2 + 1) 0).toNat; omega)⟩⟩ (Nat.zero_le _) (Nat.zero_le _)
    · refine J_iload_n hX dX2_measure_50 rfl ?_
      refine J_bipush hX dX2_measure_51 rfl ?_
      refine J_icmp_ge hX 156 dX2_measure_53 (by omega) (by decide) (by decide) (fun c53 => ?_) (fun c53 => ?_)
      · exact J_vret hX hQ dX2_measure_156 ⟨rfl, by first | (exfalso; omega) | exact ⟨rfl, me_fin hW fp1 fp2 fr34 hi39 (by unfold cnt; show k = (M (v + 2 + 1) 0).toNat; omega)⟩⟩ (Nat.zero_le _) (Nat.zero_le _)
      · refine J_aload_n hX dX2_measure_56 rfl ?_
        refine J_gr hX (v + 2 + 1) fr_RX2_22 dX2_measure_57 (show K (v + 1) = 2 from hV 1 (by decide)) rfl ?_
        refine J_iload_n hX dX2_measure_60 rfl ?_
        refine J_callVB hX _ dX2_measure_61 cw_RX2_76 (m_X6_isBox (hV).stage (by omega)) ⟨(show K (v + 2 + 1) = 6 from (hV).stage 1 (by decide)), by decide, by decide, rfl⟩ rfl (Nat.le_of_ble_eq_true rfl) (by decide) ⟨Nat.zero_le _, Nat.zero_le _⟩ ?_
        refine J_ifb_eq hX 150 dX2_measure_64 (by decide) (fun c64 => ?_) (fun c64 => ?_)
        · refine J_iinc hX dX2_measure_150 rfl (by decide) ?_
          refine J_goto hX 39 dX2_measure_153 (by decide) ?_
          exact J_locI (ih39 (k + 1) (by omega) (by omega) _ (by first | exact me_step hi39 hb hm100 hm122 hm144 q6 qa qd pf1 pf2 pf3 pf4 | exact me_skip hi39 (fun q => c64 ⟨⟨by omega, by omega, by omega⟩, by have z7 := congrFun (fr2 (v + 2 + 7) (by omega) (by omega)) (k : Int); have := q.2; show 0 < M2 (v + 2 + 7) k; rw [z7]; exact q.2⟩))) rfl
        · have hb : bx (stg M (v + 2)) k := by refine ⟨⟨by omega, ?_, by omega⟩, ?_⟩; exact (show (k : Int) < M (v + 2 + 1) 0 by omega); show 0 < M (v + 2 + 7) k; have z7 := congrFun (fr2 (v + 2 + 7) (by omega) (by omega)) (k : Int); omega
          have u4 := pos_rng hS0 (k := 4) (by omega) (k : Int) hb.1.2.1
          have u6 := pos_rng hS0 (k := 6) (by omega) (k : Int) hb.1.2.1
          have us := shf_rng hS0 hb
          have uc1 := col_rng hS0 hb 1
          have uc0 := col_rng hS0 hb 0
          have up := pctW_rng (stg M (v + 2)) (M (v + 2 + 11) 2) (M (v + 2 + 11) 3)
          have hp2 := hi39.2.1
          have hpr : 0 ≤ pct (stg M (v + 2)) ∧ pct (stg M (v + 2)) ≤ 100 := up
          have ur := rawp_rng hS0 ws8 hpr (k : Int) hb.1.2.1
          have hg2 : M2 (v + 2 + 15) 0 = M (v + 2 + 15) 0 := congrFun (fr2 (v + 2 + 15) (by omega) (by omega)) 0
          have pz := fp2 (k : Int) (by omega) (by omega)
          have hz2 : M2 (v + 20) k = pos (stg M (v + 2)) 6 k := by rw [hi39.1 _ (by omega) (by omega) (by omega) (by omega) (by omega), fr34 _ (by omega)]; exact pz.2.2
          have hx2 : M2 (v + 18) k = pos (stg M (v + 2)) 4 k := by rw [hi39.1 _ (by omega) (by omega) (by omega) (by omega) (by omega), fr34 _ (by omega)]; exact pz.1
          refine J_aload_n hX dX2_measure_67 rfl ?_
          refine J_gr hX (v + 21) fr_RX2_33 dX2_measure_68 (show K (v + 1) = 2 from hV 1 (by decide)) rfl ?_
          refine J_iload_n hX dX2_measure_71 rfl ?_
          refine J_aload_n hX dX2_measure_72 rfl ?_
          refine J_gr hX (v + 2) fr_RX2_12 dX2_measure_73 (show K (v + 1) = 2 from hV 1 (by decide)) rfl ?_
          refine J_gr hX (v + 2 + 15) fr_RX2_80 dX2_measure_76 (show K (v + 2) = 5 from (hV).stage 0 (by decide)) rfl ?_
          refine J_iconst hX dX2_measure_79 ?_
          refine J_iald hX dX2_measure_80 (show K (v + 2 + 15) = 1000 + 4 from (hV).stage 15 (by decide)) ⟨by omega, by omega⟩ (by decide) (fun r80 => ?_)
          refine J_aload_n hX dX2_measure_81 rfl ?_
          refine J_gr hX (v + 20) fr_RX2_30 dX2_measure_82 (show K (v + 1) = 2 from hV 1 (by decide)) rfl ?_
          refine J_iload_n hX dX2_measure_85 rfl ?_
          refine J_iald hX dX2_measure_86 (show K (v + 20) = 1000 + 20 from hV 20 (by decide)) ⟨by omega, by omega⟩ (by decide) (fun r86 => ?_)
          refine J_callSI hX _ dX2_measure_87 cw_RX2_83 (m_X2_rawShift (by omega) (by omega)) rfl (Nat.le_of_ble_eq_true rfl) (by decide) ⟨Nat.zero_le _, Nat.zero_le _⟩ (fun r87 => ?_)
          refine J_aload_n hX dX2_measure_90 rfl ?_
          refine J_geti hX fi_RX2_65 dX2_measure_91 (show K (v + 1) = 2 from hV 1 (by decide)) (fun r91 => ?_)
          have q5 : M2 (v + 2 + 15) 0 * M2 (v + 20) k / 100 * M2 (v + 1) 10 = rawg (stg M (v + 2)) (M (v + 2 + 15) 0) k * pct (stg M (v + 2)) := by rw [hg2, hz2, hp2]; rfl
          refine J_imul hX dX2_measure_94 ?_
          refine J_bipush hX dX2_measure_95 rfl ?_
          refine J_callSI hX _ dX2_measure_97 cw_RX2_86 (m_J9_floorDiv_7cf53 (by omega) (by omega)) rfl (Nat.le_of_ble_eq_true rfl) (by decide) ⟨Nat.zero_le _, Nat.zero_le _⟩ (fun r97 => ?_)
          have q6 : M2 (v + 2 + 15) 0 * M2 (v + 20) k / 100 * M2 (v + 1) 10 / 100 = shf (stg M (v + 2)) k := by rw [q5]; rfl
          refine J_istA hX dX2_measure_100 (show K (v + 21) = 1000 + 20 from hV 21 (by decide)) ⟨by omega, by omega⟩ (by decide) (by omega) (fun m100 hm100 => ?_)
          have fm100 : ∀ i, i ≠ v + 21 → m100 i = M2 i := fun i h => by rw [hm100]; exact mset_ne h
          have gm100 : ∀ i j, j ≠ (k : Int) → m100 i j = M2 i j := fun i j h => by rw [hm100]; exact mset_nj h
          have vm100 := (congrFun (congrFun hm100 (v + 21)) ((k : Int))).trans mset_eq
          refine J_aload_n hX dX2_measure_101 rfl ?_
          refine J_gr hX (v + 22) fr_RX2_36 dX2_measure_102 (show K (v + 1) = 2 from hV 1 (by decide)) rfl ?_
          refine J_iload_n hX dX2_measure_105 rfl ?_
          refine J_iconst hX dX2_measure_106 ?_
          refine J_aload_n hX dX2_measure_107 rfl ?_
          refine J_gr hX (v + 18) fr_RX2_23 dX2_measure_108 (show K (v + 1) = 2 from hV 1 (by decide)) rfl ?_
          refine J_iload_n hX dX2_measure_111 rfl ?_
          refine J_iald hX dX2_measure_112 (show K (v + 18) = 1000 + 20 from hV 18 (by decide)) ⟨by omega, by omega⟩ (by decide) (fun r112 => ?_)
          refine J_aload_n hX dX2_measure_113 rfl ?_
          refine J_gr hX (v + 21) fr_RX2_33 dX2_measure_114 (show K (v + 1) = 2 from hV 1 (by decide)) rfl ?_
          refine J_iload_n hX dX2_measure_117 rfl ?_
          refine J_iald hX dX2_measure_118 (show K (v + 21) = 1000 + 20 from hV 21 (by decide)) ⟨by omega, by omega⟩ (by decide) (fun r118 => ?_)
          have q8 : m100 (v + 18) k = pos (stg M (v + 2)) 4 k := by rw [fm100 _ (by omega)]; exact hx2
          have q9 : m100 (v + 21) k = shf (stg M (v + 2)) k := by rw [vm100]; exact q6
          refine J_callNI hX _ dX2_measure_119 cw_RX2_91 (m_X9_columnOf (by omega) (by omega) (by omega)) rfl (Nat.le_of_ble_eq_true rfl) (by decide) ⟨Nat.zero_le _, Nat.zero_le _⟩ (fun r119 => ?_)
          have qa : co 1 (m100 (v + 18) k) (m100 (v + 21) k) = col (stg M (v + 2)) 1 k := by rw [q8, q9]; rfl
          refine J_istA hX dX2_measure_122 (show K (v + 22) = 1000 + 20 from hV 22 (by decide)) ⟨by omega, by omega⟩ (by decide) (by omega) (fun m122 hm122 => ?_)
          have fm122 : ∀ i, i ≠ v + 22 → m122 i = m100 i := fun i h => by rw [hm122]; exact mset_ne h
          have gm122 : ∀ i j, j ≠ (k : Int) → m122 i j = m100 i j := fun i j h => by rw [hm122]; exact mset_nj h
          have vm122 := (congrFun (congrFun hm122 (v + 22)) ((k : Int))).trans mset_eq
          refine J_aload_n hX dX2_measure_123 rfl ?_
          refine J_gr hX (v + 23) fr_RX2_39 dX2_measure_124 (show K (v + 1) = 2 from hV 1 (by decide)) rfl ?_
          refine J_iload_n hX dX2_measure_127 rfl ?_
          refine J_iconst hX dX2_measure_128 ?_
          refine J_aload_n hX dX2_measure_129 rfl ?_
          refine J_gr hX (v + 18) fr_RX2_23 dX2_measure_130 (show K (v + 1) = 2 from hV 1 (by decide)) rfl ?_
          refine J_iload_n hX dX2_measure_133 rfl ?_
          refine J_iald hX dX2_measure_134 (show K (v + 18) = 1000 + 20 from hV 18 (by decide)) ⟨by omega, by omega⟩ (by decide) (fun r134 => ?_)
          refine J_aload_n hX dX2_measure_135 rfl ?_
          refine J_gr hX (v + 21) fr_RX2_33 dX2_measure_136 (show K (v + 1) = 2 from hV 1 (by decide)) rfl ?_
          refine J_iload_n hX dX2_measure_139 rfl ?_
          refine J_iald hX dX2_measure_140 (show K (v + 21) = 1000 + 20 from hV 21 (by decide)) ⟨by omega, by omega⟩ (by decide) (fun r140 => ?_)
          have qb : m122 (v + 18) k = pos (stg M (v + 2)) 4 k := by rw [fm122 _ (by omega)]; exact q8
          have qc : m122 (v + 21) k = shf (stg M (v + 2)) k := by rw [fm122 _ (by omega)]; exact q9
          refine J_callNI hX _ dX2_measure_141 cw_RX2_91 (m_X9_columnOf (by omega) (by omega) (by omega)) rfl (Nat.le_of_ble_eq_true rfl) (by decide) ⟨Nat.zero_le _, Nat.zero_le _⟩ (fun r141 => ?_)
          have qd : co 0 (m122 (v + 18) k) (m122 (v + 21) k) = col (stg M (v + 2)) 0 k := by rw [qb, qc]; rfl
          refine J_istA hX dX2_measure_144 (show K (v + 23) = 1000 + 20 from hV 23 (by decide)) ⟨by omega, by omega⟩ (by decide) (by omega) (fun m144 hm144 => ?_)
          have fm144 : ∀ i, i ≠ v + 23 → m144 i = m122 i := fun i h => by rw [hm144]; exact mset_ne h
          have gm144 : ∀ i j, j ≠ (k : Int) → m144 i j = m122 i j := fun i j h => by rw [hm144]; exact mset_nj h
          have vm144 := (congrFun (congrFun hm144 (v + 23)) ((k : Int))).trans mset_eq
          have f3 : ∀ i, i ≠ v + 21 → i ≠ v + 22 → i ≠ v + 23 → m144 i = M2 i := fun i i1 i2 i3 => by rw [fm144 i i3, fm122 i i2, fm100 i i1]
          have st3 : stg m144 (v + 2) = (stg M (v + 2)) := stg_eq (fun k hk => by rw [f3 _ (by omega) (by omega) (by omega)]; exact fr2 _ (by omega) (by omega))
          have hn3 : has m144 (v + 2) k := by have z8 := congrFun (f3 (v + 2 + 1) (by omega) (by omega) (by omega)) 0; omega
          have hB3 : m144 (v + 1) 9 = (nbx (stg M (v + 2)) k : Nat) := by rw [f3 _ (by omega) (by omega) (by omega)]; exact hi39.2.2.1
          have hnl := nbx_le (stg M (v + 2)) k
          have hO3 : ∀ j : Nat, j < nbx (stg M (v + 2)) k → has m144 (v + 2) (m144 (v + 24) j) := fun j hj => by rw [f3 (v + 24) (by omega) (by omega) (by omega), hi39.2.2.2.2 j hj]; have z9 := (ordf_box (stg M (v + 2)) k j hj).1.1; have za : m144 (v + 2 + 1) 0 = M (v + 2 + 1) 0 := by { rw [f3 _ (by omega) (by omega) (by omega)]; omega }; exact ⟨z9.1, by rw [za]; exact z9.2.1, z9.2.2⟩
          refine J_aload_n hX dX2_measure_145 rfl ?_
          refine J_iload_n hX dX2_measure_146 rfl ?_
          refine J_callVM hX _ dX2_measure_147 cw_RX2_95 (m_X2_putInOrder hV (WF_fr st3 hW) hB3 (by omega) hn3 hO3) ⟨(show K (v + 1) = 2 from hV 1 (by decide)), by decide, by decide, rfl⟩ rfl (Nat.le_of_ble_eq_true rfl) (by decide) ⟨Nat.zero_le _, Nat.zero_le _⟩ (fun r9 M147 q147 => ?_)
          obtain ⟨rfl, pf1, pf2, pf3, pf4⟩ := q147
          refine J_iinc hX dX2_measure_150 rfl (by decide) ?_
          refine J_goto hX 39 dX2_measure_153 (by decide) ?_
          exact J_locI (ih39 (k + 1) (by omega) (by omega) _ (by first | exact me_step hi39 hb hm100 hm122 hm144 q6 qa qd pf1 pf2 pf3 pf4 | exact me_skip hi39 (fun q => c64 ⟨⟨by omega, by omega, by omega⟩, by have z7 := congrFun (fr2 (v + 2 + 7) (by omega) (by omega)) (k : Int); have := q.2; show 0 < M2 (v + 2 + 7) k; rw [z7]; exact q.2⟩))) rfl
  exact J_locI (HL39 0 (Nat.zero_le _) _ ⟨fun i _ _ _ _ _ => rfl, hp34, vm34, fun n h0 hx => absurd h0 (by have := hx.1.1; omega), fun j h => absurd h (by simp [nbx])⟩) rfl
