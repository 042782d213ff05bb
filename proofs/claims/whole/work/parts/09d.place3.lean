-- X2_putInOrder
set_option maxHeartbeats 4000000 in
set_option maxRecDepth 100000 in
theorem m_X2_putInOrder {E : EE} {K : Nat → Nat} {M : MM} {v : Nat} {T n : Int} {B : Nat} (hV : ViewK K v) (hW : WF T M (v + 2)) (hB : M (v + 1) 9 = (B : Nat)) (hB1 : B < 20) (hn : has M (v + 2) n) (hO : ∀ j : Nat, j < B → has M (v + 2) (M (v + 24) j)) : CnM E 2 yX2_putInOrder cX2_putInOrder 3 none [.ref (v + 1), vI n] K M (fun r M2 => r = none ∧ (∀ i, i ≠ v + 24 → i ≠ v + 1 → M2 i = M i) ∧ (∀ j, j ≠ 9 → M2 (v + 1) j = M (v + 1) j) ∧ M2 (v + 1) 9 = B + 1 ∧ ∀ j : Nat, j ≤ B → M2 (v + 24) j = ins (M (v + 24)) (M (v + 21)) B n j) := by
  have hW0 := hW
  obtain ⟨hT0, ⟨ws1, ws2, ws3, ws4, ws5, ws6, ws7, ws8, ws9, ws10, ws11, ws12, ws13, ws14⟩, hWn, hWc⟩ := hW0
  have hS0 := hW.S
  refine Cn_of RX2 (plainFor_of_name (by decide)) rfl (Nat.le_of_ble_eq_true rfl) (fun X hX hQ => ?_)
  refine J_aload_n hX dX2_putInOrder_0 rfl ?_
  refine J_geti hX fi_RX2_68 dX2_putInOrder_1 (show K (v + 1) = 2 from hV 1 (by decide)) (fun r1 => ?_)
  refine J_if_lt hX 16 dX2_putInOrder_4 (by omega) (by decide) (fun c4 => ?_) (fun c4 => ?_)
  · exact J_vret hX hQ dX2_putInOrder_16 ⟨rfl, by first | (exfalso; omega) | exact ⟨rfl, po_fin hB ⟨by omega, by omega⟩ hi22.2.1 hi22.2.2.1 hi22.2.2.2.1 (by rw [hi22.2.2.2.2]; first | (rw [show p.toNat = 0 by omega]; rfl) | exact scn_f (q1 := (p - 1).toNat) (by omega) (by rw [show (((p - 1).toNat : Nat) : Int) = p - 1 by omega]; intro q9; exact c39 ⟨⟨by omega, by omega⟩, by omega⟩)) hm68 hm76⟩⟩ (Nat.zero_le _) (Nat.zero_le _)
  · refine J_aload_n hX dX2_putInOrder_7 rfl ?_
    refine J_geti hX fi_RX2_68 dX2_putInOrder_8 (show K (v + 1) = 2 from hV 1 (by decide)) (fun r8 => ?_)
    refine J_bipush hX dX2_putInOrder_11 rfl ?_
    refine J_icmp_lt hX 17 dX2_putInOrder_13 (by omega) (by decide) (by decide) (fun c13 => ?_) (fun c13 => ?_)
    · refine J_aload_n hX dX2_putInOrder_17 rfl ?_
      refine J_geti hX fi_RX2_68 dX2_putInOrder_18 (show K (v + 1) = 2 from hV 1 (by decide)) (fun r18 => ?_)
      refine J_istore_n hX dX2_putInOrder_21 (by decide) ?_
      have HL22 : ∀ k : Nat, k ≤ B → ∀ (p : Int) (M2 : MM), p = B - k ∧ (∀ i, i ≠ v + 24 → M2 i = M i) ∧ (∀ j, j ≤ p → M2 (v + 24) j = M (v + 24) j) ∧ (∀ j, p < j → j ≤ B → M2 (v + 24) j = M (v + 24) (j - 1)) ∧ scn (M (v + 24)) (M (v + 21)) (M (v + 21) n) B = scn (M (v + 24)) (M (v + 21)) (M (v + 21) n) p.toNat → J E X 22 [(0, .ref (v + 1)), (1, vI n), (2, vI p)] [] K M2 0 0 := by
        refine up_ind (B) (fun k hk22 ih22 => ?_)
        intro p  M2  hi22
        have x1 := congrFun (hi22.2.1 (v + 2 + 1) (by omega)) 0
        have x2 := hi22.2.1 (v + 21) (by omega)
        have x3 := congrFun (hi22.2.1 (v + 1) (by omega)) 9
        refine J_iload_n hX dX2_putInOrder_22 rfl ?_
        refine J_if_le hX 62 dX2_putInOrder_23 (by omega) (by decide) (fun c23 => ?_) (fun c23 => ?_)
        · refine J_aload_n hX dX2_putInOrder_62 rfl ?_
          refine J_gr hX (v + 24) fr_RX2_42 dX2_putInOrder_63 (show K (v + 1) = 2 from hV 1 (by decide)) rfl ?_
          refine J_iload_n hX dX2_putInOrder_66 rfl ?_
          refine J_iload_n hX dX2_putInOrder_67 rfl ?_
          refine J_istA hX dX2_putInOrder_68 (show K (v + 24) = 1000 + 20 from hV 24 (by decide)) ⟨by omega, by omega⟩ (by decide) (by omega) (fun m68 hm68 => ?_)
          have fm68 : ∀ i, i ≠ v + 24 → m68 i = M2 i := fun i h => by rw [hm68]; exact mset_ne h
          have gm68 : ∀ i j, j ≠ p → m68 i j = M2 i j := fun i j h => by rw [hm68]; exact mset_nj h
          have vm68 := (congrFun (congrFun hm68 (v + 24)) (p)).trans mset_eq
          refine J_aload_n hX dX2_putInOrder_69 rfl ?_
          refine J_dup hX dX2_putInOrder_70 rfl ?_
          have x4 := congrFun (fm68 (v + 1) (by omega)) 9
          refine J_geti hX fi_RX2_68 dX2_putInOrder_71 (show K (v + 1) = 2 from hV 1 (by decide)) (fun r71 => ?_)
          refine J_iconst hX dX2_putInOrder_74 ?_
          refine J_iadd hX dX2_putInOrder_75 ?_
          refine J_putA hX fw_RX2_68 dX2_putInOrder_76 (show K (v + 1) = 2 from hV 1 (by decide)) (by omega) (Or.inl rfl) (fun m76 hm76 => ?_)
          have fm76 : ∀ i, i ≠ v + 1 → m76 i = m68 i := fun i h => by rw [hm76]; exact mset_ne h
          have gm76 : ∀ i j, j ≠ 9 → m76 i j = m68 i j := fun i j h => by rw [hm76]; exact mset_nj h
          have vm76 := (congrFun (congrFun hm76 (v + 1)) 9).trans mset_eq
          exact J_vret hX hQ dX2_putInOrder_79 ⟨rfl, by first | (exfalso; omega) | exact ⟨rfl, po_fin hB ⟨by omega, by omega⟩ hi22.2.1 hi22.2.2.1 hi22.2.2.2.1 (by rw [hi22.2.2.2.2]; first | (rw [show p.toNat = 0 by omega]; rfl) | exact scn_f (q1 := (p - 1).toNat) (by omega) (by rw [show (((p - 1).toNat : Nat) : Int) = p - 1 by omega]; intro q9; exact c39 ⟨⟨by omega, by omega⟩, by omega⟩)) hm68 hm76⟩⟩ (Nat.zero_le _) (Nat.zero_le _)
        · refine J_aload_n hX dX2_putInOrder_26 rfl ?_
          refine J_aload_n hX dX2_putInOrder_27 rfl ?_
          refine J_gr hX (v + 24) fr_RX2_42 dX2_putInOrder_28 (show K (v + 1) = 2 from hV 1 (by decide)) rfl ?_
          refine J_iload_n hX dX2_putInOrder_31 rfl ?_
          refine J_iconst hX dX2_putInOrder_32 ?_
          refine J_isub hX dX2_putInOrder_33 ?_
          refine J_iald hX dX2_putInOrder_34 (show K (v + 24) = 1000 + 20 from hV 24 (by decide)) ⟨by omega, by omega⟩ (by decide) (fun r34 => ?_)
          have y1 := hi22.2.2.1 (p - 1) (by omega)
          have y2 := hO (p - 1).toNat (by omega)
          rw [show (((p - 1).toNat : Nat) : Int) = p - 1 by omega] at y2
          have y3 := congrFun x2 n
          have y4 := congrFun x2 (M2 (v + 24) (p - 1))
          have y5 := congrArg (M (v + 21)) y1
          refine J_iload_n hX dX2_putInOrder_35 rfl ?_
          refine J_callVB hX _ dX2_putInOrder_36 cw_RX2_111 (m_X2_isNearer hV (by omega) (by omega)) ⟨(show K (v + 1) = 2 from hV 1 (by decide)), by decide, by decide, rfl⟩ rfl (Nat.le_of_ble_eq_true rfl) (by decide) ⟨Nat.zero_le _, Nat.zero_le _⟩ ?_
          refine J_ifb_eq hX 62 dX2_putInOrder_39 (by decide) (fun c39 => ?_) (fun c39 => ?_)
          · refine J_aload_n hX dX2_putInOrder_62 rfl ?_
            refine J_gr hX (v + 24) fr_RX2_42 dX2_putInOrder_63 (show K (v + 1) = 2 from hV 1 (by decide)) rfl ?_
            refine J_iload_n hX dX2_putInOrder_66 rfl ?_
            refine J_iload_n hX dX2_putInOrder_67 rfl ?_
            refine J_istA hX dX2_putInOrder_68 (show K (v + 24) = 1000 + 20 from hV 24 (by decide)) ⟨by omega, by omega⟩ (by decide) (by omega) (fun m68 hm68 => ?_)
            have fm68 : ∀ i, i ≠ v + 24 → m68 i = M2 i := fun i h => by rw [hm68]; exact mset_ne h
            have gm68 : ∀ i j, j ≠ p → m68 i j = M2 i j := fun i j h => by rw [hm68]; exact mset_nj h
            have vm68 := (congrFun (congrFun hm68 (v + 24)) (p)).trans mset_eq
            refine J_aload_n hX dX2_putInOrder_69 rfl ?_
            refine J_dup hX dX2_putInOrder_70 rfl ?_
            have x4 := congrFun (fm68 (v + 1) (by omega)) 9
            refine J_geti hX fi_RX2_68 dX2_putInOrder_71 (show K (v + 1) = 2 from hV 1 (by decide)) (fun r71 => ?_)
            refine J_iconst hX dX2_putInOrder_74 ?_
            refine J_iadd hX dX2_putInOrder_75 ?_
            refine J_putA hX fw_RX2_68 dX2_putInOrder_76 (show K (v + 1) = 2 from hV 1 (by decide)) (by omega) (Or.inl rfl) (fun m76 hm76 => ?_)
            have fm76 : ∀ i, i ≠ v + 1 → m76 i = m68 i := fun i h => by rw [hm76]; exact mset_ne h
            have gm76 : ∀ i j, j ≠ 9 → m76 i j = m68 i j := fun i j h => by rw [hm76]; exact mset_nj h
            have vm76 := (congrFun (congrFun hm76 (v + 1)) 9).trans mset_eq
            exact J_vret hX hQ dX2_putInOrder_79 ⟨rfl, by first | (exfalso; omega) | exact ⟨rfl, po_fin hB ⟨by omega, by omega⟩ hi22.2.1 hi22.2.2.1 hi22.2.2.2.1 (by rw [hi22.2.2.2.2]; first | (rw [show p.toNat = 0 by omega]; rfl) | exact scn_f (q1 := (p - 1).toNat) (by omega) (by rw [show (((p - 1).toNat : Nat) : Int) = p - 1 by omega]; intro q9; exact c39 ⟨⟨by omega, by omega⟩, by omega⟩)) hm68 hm76⟩⟩ (Nat.zero_le _) (Nat.zero_le _)
          · refine J_aload_n hX dX2_putInOrder_42 rfl ?_
            refine J_gr hX (v + 24) fr_RX2_42 dX2_putInOrder_43 (show K (v + 1) = 2 from hV 1 (by decide)) rfl ?_
            refine J_iload_n hX dX2_putInOrder_46 rfl ?_
            refine J_aload_n hX dX2_putInOrder_47 rfl ?_
            refine J_gr hX (v + 24) fr_RX2_42 dX2_putInOrder_48 (show K (v + 1) = 2 from hV 1 (by decide)) rfl ?_
            refine J_iload_n hX dX2_putInOrder_51 rfl ?_
            refine J_iconst hX dX2_putInOrder_52 ?_
            refine J_isub hX dX2_putInOrder_53 ?_
            refine J_iald hX dX2_putInOrder_54 (show K (v + 24) = 1000 + 20 from hV 24 (by decide)) ⟨by omega, by omega⟩ (by decide) (fun r54 => ?_)
            refine J_istA hX dX2_putInOrder_55 (show K (v + 24) = 1000 + 20 from hV 24 (by decide)) ⟨by omega, by omega⟩ (by decide) (by omega) (fun m55 hm55 => ?_)
            have fm55 : ∀ i, i ≠ v + 24 → m55 i = M2 i := fun i h => by rw [hm55]; exact mset_ne h
            have gm55 : ∀ i j, j ≠ p → m55 i j = M2 i j := fun i j h => by rw [hm55]; exact mset_nj h
            have vm55 := (congrFun (congrFun hm55 (v + 24)) (p)).trans mset_eq
            refine J_iinc hX dX2_putInOrder_56 rfl (by decide) ?_
            refine J_goto hX 22 dX2_putInOrder_59 (by decide) ?_
            exact J_locI (ih22 (k + 1) (by omega) (by omega) _ _ ⟨by omega, fun i h => by rw [fm55 i h]; exact hi22.2.1 i h, fun j h => by rw [gm55 _ j (by omega)]; exact hi22.2.2.1 j (by omega), fun j h1 h2 => by
            by_cases e : j = p
            · subst e; rw [vm55]; exact hi22.2.2.1 _ (by omega)
            · rw [gm55 _ j e]; exact hi22.2.2.2.1 j (by omega) h2, by
            rw [hi22.2.2.2.2, show (p + -1).toNat = (p - 1).toNat by omega]
            exact scn_t (by omega) (by rw [show (((p - 1).toNat : Nat) : Int) = p - 1 by omega]; have c9 := c39.2; rw [x2, hi22.2.2.1 _ (by omega)] at c9; exact c9)⟩) rfl
      exact J_locI (HL22 0 (Nat.zero_le _) _ _ ⟨by omega, fun i _ => rfl, fun j _ => rfl, fun j h1 h2 => absurd h1 (by omega), by rw [show (M (v + 1) 9).toNat = B by omega]⟩) rfl
    · exact J_vret hX hQ dX2_putInOrder_16 ⟨rfl, by first | (exfalso; omega) | exact ⟨rfl, po_fin hB ⟨by omega, by omega⟩ hi22.2.1 hi22.2.2.1 hi22.2.2.2.1 (by rw [hi22.2.2.2.2]; first | (rw [show p.toNat = 0 by omega]; rfl) | exact scn_f (q1 := (p - 1).toNat) (by omega) (by rw [show (((p - 1).toNat : Nat) : Int) = p - 1 by omega]; intro q9; exact c39 ⟨⟨by omega, by omega⟩, by omega⟩)) hm68 hm76⟩⟩ (Nat.zero_le _) (Nat.zero_le _)
