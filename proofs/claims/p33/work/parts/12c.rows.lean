-- X7_isLikeAbove
set_option maxHeartbeats 4000000 in
set_option maxRecDepth 100000 in
theorem m_X7_isLikeAbove {E : EE} {K : Nat → Nat} {M : MM} {v : Nat} {T r : Int} (hV : ViewK K v) (hW : WF T M (v + 2)) (hV2 : Vwt M v (stg M (v + 2))) (hr : -1000000 ≤ r ∧ r ≤ 1000000) : CnB E 2 yX7_isLikeAbove cX7_isLikeAbove 3 [.ref v, vI r] K M (lka (stg M (v + 2)) r) := by
  have hW0 := hW
  obtain ⟨hT0, ⟨ws1, ws2, ws3, ws4, ws5, ws6, ws7, ws8, ws9, ws10, ws11, ws12, ws13, ws14⟩, hWn, hWc⟩ := hW0
  have hS0 := hW.S
  have hP := hV2.1.1
  have hw1 := wnd_rng hS0 1
  have hw0 := wnd_rng hS0 0
  have hd1 := hV2.1.2.1
  have hd0 := hV2.1.2.2
  have t1 := hV2.2.1
  have t2 := hV2.2.2
  have tr := ttl_rng hS0
  refine Cn_of RX7 (plainFor_of_name (by decide)) rfl (Nat.le_of_ble_eq_true rfl) (fun X hX hQ => ?_)
  refine J_iload_n hX dX7_isLikeAbove_0 rfl ?_
  refine J_aload_n hX dX7_isLikeAbove_1 rfl ?_
  refine J_geti hX fi_RX7_92 dX7_isLikeAbove_2 (show K (v) = 7 from hV 0 (by decide)) (fun r2 => ?_)
  refine J_icmp_eq hX 18 dX7_isLikeAbove_5 (by omega) (by omega) (by decide) (fun c5 => ?_) (fun c5 => ?_)
  · refine J_iconst hX dX7_isLikeAbove_18 ?_
    exact J_retF hX hQ dX7_isLikeAbove_19 (by first | (exfalso; omega) | (intro q9; first | (have := q9.1; omega) | (have := q9.2.1; omega)) | (exact ⟨by omega, by omega, by rw [show cnt (stg M (v + 2)) = k from (by unfold cnt; show (M (v + 2 + 1) 0).toNat = k; omega)]; exact hi22⟩) | (intro q9; have q8 := lkn_all q9.2.2 k (by unfold cnt; show k < (M (v + 2 + 1) 0).toNat; omega); exact c59 ((inRM_iff hP).trans (q8.trans (inRM_iff hP).symm)))) rfl rfl (Nat.zero_le _) (Nat.zero_le _)
  · refine J_iload_n hX dX7_isLikeAbove_8 rfl ?_
    refine J_iconst hX dX7_isLikeAbove_9 ?_
    refine J_isub hX dX7_isLikeAbove_10 ?_
    refine J_aload_n hX dX7_isLikeAbove_11 rfl ?_
    refine J_geti hX fi_RX7_92 dX7_isLikeAbove_12 (show K (v) = 7 from hV 0 (by decide)) (fun r12 => ?_)
    refine J_icmp_ne hX 20 dX7_isLikeAbove_15 (by omega) (by omega) (by decide) (fun c15 => ?_) (fun c15 => ?_)
    · refine J_iconst hX dX7_isLikeAbove_20 ?_
      refine J_istore_n hX dX7_isLikeAbove_21 (by decide) ?_
      have HL22 : ∀ k : Nat, k ≤ (M (v + 2 + 1) 0).toNat → (lkn (stg M (v + 2)) r k = true) → J E X 22 [(0, .ref v), (1, vI r), (2, vI (k : Int))] [] K M 0 0 := by
        refine up_ind ((M (v + 2 + 1) 0).toNat) (fun k hk22 ih22 => ?_)
        intro  hi22
        refine J_iload_n hX dX7_isLikeAbove_22 rfl ?_
        refine J_aload_n hX dX7_isLikeAbove_23 rfl ?_
        refine J_gr hX (v + 2 + 1) fr_RX7_29 dX7_isLikeAbove_24 (show K (v) = 7 from hV 0 (by decide)) rfl ?_
        refine J_geti hX fi_RX7_61 dX7_isLikeAbove_27 (show K (v + 2 + 1) = 6 from (hV).stage 1 (by decide)) (fun r27 => ?_)
        refine J_icmp_ge hX 70 dX7_isLikeAbove_30 (by omega) (by omega) (by decide) (fun c30 => ?_) (fun c30 => ?_)
        · refine J_iconst hX dX7_isLikeAbove_70 ?_
          exact J_retT hX hQ dX7_isLikeAbove_71 (by first | (exfalso; omega) | (intro q9; first | (have := q9.1; omega) | (have := q9.2.1; omega)) | (exact ⟨by omega, by omega, by rw [show cnt (stg M (v + 2)) = k from (by unfold cnt; show (M (v + 2 + 1) 0).toNat = k; omega)]; exact hi22⟩) | (intro q9; have q8 := lkn_all q9.2.2 k (by unfold cnt; show k < (M (v + 2 + 1) 0).toNat; omega); exact c59 ((inRM_iff hP).trans (q8.trans (inRM_iff hP).symm)))) rfl rfl (Nat.zero_le _) (Nat.zero_le _)
        · refine J_iload_n hX dX7_isLikeAbove_33 rfl ?_
          refine J_bipush hX dX7_isLikeAbove_34 rfl ?_
          refine J_icmp_ge hX 70 dX7_isLikeAbove_36 (by omega) (by decide) (by decide) (fun c36 => ?_) (fun c36 => ?_)
          · refine J_iconst hX dX7_isLikeAbove_70 ?_
            exact J_retT hX hQ dX7_isLikeAbove_71 (by first | (exfalso; omega) | (intro q9; first | (have := q9.1; omega) | (have := q9.2.1; omega)) | (exact ⟨by omega, by omega, by rw [show cnt (stg M (v + 2)) = k from (by unfold cnt; show (M (v + 2 + 1) 0).toNat = k; omega)]; exact hi22⟩) | (intro q9; have q8 := lkn_all q9.2.2 k (by unfold cnt; show k < (M (v + 2 + 1) 0).toNat; omega); exact c59 ((inRM_iff hP).trans (q8.trans (inRM_iff hP).symm)))) rfl rfl (Nat.zero_le _) (Nat.zero_le _)
          · refine J_aload_n hX dX7_isLikeAbove_39 rfl ?_
            refine J_gr hX (v + 1) fr_RX7_12 dX7_isLikeAbove_40 (show K (v) = 7 from hV 0 (by decide)) rfl ?_
            refine J_iload_n hX dX7_isLikeAbove_43 rfl ?_
            refine J_iload_n hX dX7_isLikeAbove_44 rfl ?_
            refine J_callVB hX _ dX7_isLikeAbove_45 cw_RX7_129 (m_X2_inRow hV hW (by omega) (by omega) (hP.yr hW _)) ⟨(show K (v + 1) = 2 from hV 1 (by decide)), by decide, by decide, rfl⟩ rfl (Nat.le_of_ble_eq_true rfl) (by decide) ⟨Nat.zero_le _, Nat.zero_le _⟩ ?_
            refine J_aload_n hX dX7_isLikeAbove_48 rfl ?_
            refine J_gr hX (v + 1) fr_RX7_12 dX7_isLikeAbove_49 (show K (v) = 7 from hV 0 (by decide)) rfl ?_
            refine J_iload_n hX dX7_isLikeAbove_52 rfl ?_
            refine J_iload_n hX dX7_isLikeAbove_53 rfl ?_
            refine J_iconst hX dX7_isLikeAbove_54 ?_
            refine J_isub hX dX7_isLikeAbove_55 ?_
            refine J_callVB hX _ dX7_isLikeAbove_56 cw_RX7_129 (m_X2_inRow hV hW (by omega) (by omega) (hP.yr hW _)) ⟨(show K (v + 1) = 2 from hV 1 (by decide)), by decide, by decide, rfl⟩ rfl (Nat.le_of_ble_eq_true rfl) (by decide) ⟨Nat.zero_le _, Nat.zero_le _⟩ ?_
            refine J_icmpb_eq hX 64 dX7_isLikeAbove_59 (by decide) (fun c59 => ?_) (fun c59 => ?_)
            · refine J_iinc hX dX7_isLikeAbove_64 rfl (by decide) ?_
              refine J_goto hX 22 dX7_isLikeAbove_67 (by decide) ?_
              exact J_locI (ih22 (k + 1) (by omega) (by omega) (lkn_t.mpr ⟨hi22, (inRM_iff hP).symm.trans (c59.trans (inRM_iff hP))⟩)) rfl
            · refine J_iconst hX dX7_isLikeAbove_62 ?_
              exact J_retF hX hQ dX7_isLikeAbove_63 (by first | (exfalso; omega) | (intro q9; first | (have := q9.1; omega) | (have := q9.2.1; omega)) | (exact ⟨by omega, by omega, by rw [show cnt (stg M (v + 2)) = k from (by unfold cnt; show (M (v + 2 + 1) 0).toNat = k; omega)]; exact hi22⟩) | (intro q9; have q8 := lkn_all q9.2.2 k (by unfold cnt; show k < (M (v + 2 + 1) 0).toNat; omega); exact c59 ((inRM_iff hP).trans (q8.trans (inRM_iff hP).symm)))) rfl rfl (Nat.zero_le _) (Nat.zero_le _)
      exact J_locI (HL22 0 (Nat.zero_le _) rfl) rfl
    · refine J_iconst hX dX7_isLikeAbove_18 ?_
      exact J_retF hX hQ dX7_isLikeAbove_19 (by first | (exfalso; omega) | (intro q9; first | (have := q9.1; omega) | (have := q9.2.1; omega)) | (exact ⟨by omega, by omega, by rw [show cnt (stg M (v + 2)) = k from (by unfold cnt; show (M (v + 2 + 1) 0).toNat = k; omega)]; exact hi22⟩) | (intro q9; have q8 := lkn_all q9.2.2 k (by unfold cnt; show k < (M (v + 2 + 1) 0).toNat; omega); exact c59 ((inRM_iff hP).trans (q8.trans (inRM_iff hP).symm)))) rfl rfl (Nat.zero_le _) (Nat.zero_le _)
-- X7_holdRow
set_option maxHeartbeats 4000000 in
set_option maxRecDepth 100000 in
theorem m_X7_holdRow {E : EE} {K : Nat → Nat} {M : MM} {v : Nat} {T r : Int} (hV : ViewK K v) (hW : WF T M (v + 2)) (hV2 : Vwt M v (stg M (v + 2))) (hH : HOK M v (stg M (v + 2))) (hr : 0 ≤ r ∧ r < M (v + 2) 4) : CnM E 4 yX7_holdRow cX7_holdRow 3 (Option.some FieldType.boolean) [.ref v, vI r] K M (fun r9 M2 => (∃ x : Int, r9 = some (vI x) ∧ (x = 0 ∨ x = 1) ∧ (x = 0 → r = M v 9 ∨ (r = M v 9 + 1 ∧ lka (stg M (v + 2)) r))) ∧ (∀ i, i ≠ v → i ≠ v + 25 → i ≠ v + 26 → M2 i = M i) ∧ (∀ j, j ≠ 9 → M2 v j = M v j) ∧ M2 v 9 = r ∧ Cel M2 v (stg M (v + 2)) r) := by
  have hW0 := hW
  obtain ⟨hT0, ⟨ws1, ws2, ws3, ws4, ws5, ws6, ws7, ws8, ws9, ws10, ws11, ws12, ws13, ws14⟩, hWn, hWc⟩ := hW0
  have hS0 := hW.S
  have hP := hV2.1.1
  have hw1 := wnd_rng hS0 1
  have hw0 := wnd_rng hS0 0
  have hd1 := hV2.1.2.1
  have hd0 := hV2.1.2.2
  have t1 := hV2.2.1
  have t2 := hV2.2.2
  have tr := ttl_rng hS0
  have hH9 : -1000 ≤ M v 9 ∧ M v 9 < 1000 := by rcases hH with h | h; omega; have : (stg M (v + 2)) 0 4 = M (v + 2) 4 := rfl; omega
  refine Cn_of RX7 (plainFor_of_name (by decide)) rfl (Nat.le_of_ble_eq_true rfl) (fun X hX hQ => ?_)
  refine J_iload_n hX dX7_holdRow_0 rfl ?_
  refine J_aload_n hX dX7_holdRow_1 rfl ?_
  refine J_geti hX fi_RX7_37 dX7_holdRow_2 (show K (v) = 7 from hV 0 (by decide)) (fun r2 => ?_)
  refine J_icmp_eq hX 26 dX7_holdRow_5 (by omega) (by omega) (by decide) (fun c5 => ?_) (fun c5 => ?_)
  · refine J_iconst hX dX7_holdRow_26 ?_
    refine J_goto hX 31 dX7_holdRow_27 (by decide) ?_
    refine J_istore_n hX dX7_holdRow_31 (by decide) ?_
    refine J_aload_n hX dX7_holdRow_32 rfl ?_
    refine J_iload_n hX dX7_holdRow_33 rfl ?_
    refine J_putA hX fw_RX7_37 dX7_holdRow_34 (show K (v) = 7 from hV 0 (by decide)) (by omega) (Or.inl rfl) (fun m34 hm34 => ?_)
    have fm34 : ∀ i, i ≠ v → m34 i = M i := fun i h => by rw [hm34]; exact mset_ne h
    have gm34 : ∀ i j, j ≠ 9 → m34 i j = M i j := fun i j h => by rw [hm34]; exact mset_nj h
    have vm34 := (congrFun (congrFun hm34 (v)) 9).trans mset_eq
    have sta : stg m34 (v + 2) = (stg M (v + 2)) := stg_eq (fun k hk => fm34 _ (by omega))
    have hWa := WF_fr sta hW
    have hVa : Vwt m34 v (stg m34 (v + 2)) := by rw [sta]; exact hV2.fr (fun i i1 i2 => fm34 i i1) (fun j h => gm34 _ j h)
    refine J_iload_n hX dX7_holdRow_37 rfl ?_
    refine J_if_ne hX 61 dX7_holdRow_38 (by decide) (by decide) (fun _ => ?_) (fun h => absurd h (by decide))
    refine J_iload_n hX dX7_holdRow_61 rfl ?_
    refine J_if_ne hX 69 dX7_holdRow_62 (by decide) (by decide) (fun _ => ?_) (fun h => absurd h (by decide))
    refine J_iconst hX dX7_holdRow_69 ?_
    exact J_zret hX hQ dX7_holdRow_70 (by decide) ⟨rfl, by first | exact ⟨⟨0, rfl, Or.inl rfl, fun _ => by first | exact Or.inl c5 | exact Or.inr ⟨c15, c23⟩⟩, fun i i1 i2 i3 => fm34 i i1, fun j h => gm34 _ j h, vm34, ho_same hH (fm34 _ (by omega)) (fm34 _ (by omega)) (by omega) (by first | exact Or.inl c5 | exact Or.inr ⟨c15, c23⟩)⟩ | exact ⟨⟨1, rfl, Or.inr rfl, fun h => absurd h (by decide)⟩, fun i i1 i2 i3 => by rw [fM58 i i3, fM48 i i2, fm34 i i1], fun j h => by rw [fM58 v (by omega), fM48 v (by omega)]; exact gm34 _ j h, by rw [fM58 v (by omega), fM48 v (by omega)]; exact vm34, fun c c0 c1 => ⟨by rw [fM58 (v + 25) (by omega), cM48 c c0 (by have z := congrFun (fm34 (v + 2) (by omega)) 3; have z2 : stg M (v + 2) 0 3 = M (v + 2) 3 := rfl; omega), sta], by rw [cM58 c c0 (by have z := congrFun ((fM48 (v + 2) (by omega)).trans (fm34 (v + 2) (by omega))) 3; have z2 : stg M (v + 2) 0 3 = M (v + 2) 3 := rfl; omega), stb]⟩⟩⟩ (Nat.zero_le _) (Nat.zero_le _)
  · refine J_iload_n hX dX7_holdRow_8 rfl ?_
    refine J_aload_n hX dX7_holdRow_9 rfl ?_
    refine J_geti hX fi_RX7_37 dX7_holdRow_10 (show K (v) = 7 from hV 0 (by decide)) (fun r10 => ?_)
    refine J_iconst hX dX7_holdRow_13 ?_
    refine J_iadd hX dX7_holdRow_14 ?_
    refine J_icmp_ne hX 30 dX7_holdRow_15 (by omega) (by omega) (by decide) (fun c15 => ?_) (fun c15 => ?_)
    · refine J_iconst hX dX7_holdRow_30 ?_
      refine J_istore_n hX dX7_holdRow_31 (by decide) ?_
      refine J_aload_n hX dX7_holdRow_32 rfl ?_
      refine J_iload_n hX dX7_holdRow_33 rfl ?_
      refine J_putA hX fw_RX7_37 dX7_holdRow_34 (show K (v) = 7 from hV 0 (by decide)) (by omega) (Or.inl rfl) (fun m34 hm34 => ?_)
      have fm34 : ∀ i, i ≠ v → m34 i = M i := fun i h => by rw [hm34]; exact mset_ne h
      have gm34 : ∀ i j, j ≠ 9 → m34 i j = M i j := fun i j h => by rw [hm34]; exact mset_nj h
      have vm34 := (congrFun (congrFun hm34 (v)) 9).trans mset_eq
      have sta : stg m34 (v + 2) = (stg M (v + 2)) := stg_eq (fun k hk => fm34 _ (by omega))
      have hWa := WF_fr sta hW
      have hVa : Vwt m34 v (stg m34 (v + 2)) := by rw [sta]; exact hV2.fr (fun i i1 i2 => fm34 i i1) (fun j h => gm34 _ j h)
      refine J_iload_n hX dX7_holdRow_37 rfl ?_
      refine J_if_ne hX 61 dX7_holdRow_38 (by decide) (by decide) (fun h => absurd (by decide) h) (fun _ => ?_)
      refine J_aload_n hX dX7_holdRow_41 rfl ?_
      refine J_iconst hX dX7_holdRow_42 ?_
      refine J_iload_n hX dX7_holdRow_43 rfl ?_
      refine J_aload_n hX dX7_holdRow_44 rfl ?_
      refine J_gr hX (v + 25) fr_RX7_30 dX7_holdRow_45 (show K (v) = 7 from hV 0 (by decide)) rfl ?_
      refine J_callVM hX _ dX7_holdRow_48 cw_RX7_195 (m_X7_paintRow hV hWa (show K (v + 25) = 1000 + 200 from hV 25 (by decide)) (Or.inl rfl) hVa (Or.inr rfl) (by omega)) ⟨(show K (v) = 7 from hV 0 (by decide)), by decide, by decide, rfl⟩ rfl (Nat.le_of_ble_eq_true rfl) (by decide) ⟨Nat.zero_le _, Nat.zero_le _⟩ (fun r9 M48 q48 => ?_)
      obtain ⟨rfl, fM48, cM48⟩ := q48
      have stb : stg M48 (v + 2) = (stg M (v + 2)) := (stg_eq (fun k hk => fM48 _ (by omega))).trans sta
      have hWb := WF_fr stb hW
      have hVb : Vwt M48 v (stg M48 (v + 2)) := by rw [stb, ← sta]; exact hVa.fr (fun i i1 i2 => fM48 i (by omega)) (fun j h => congrFun (fM48 v (by omega)) j)
      refine J_aload_n hX dX7_holdRow_51 rfl ?_
      refine J_iconst hX dX7_holdRow_52 ?_
      refine J_iload_n hX dX7_holdRow_53 rfl ?_
      refine J_aload_n hX dX7_holdRow_54 rfl ?_
      refine J_gr hX (v + 26) fr_RX7_34 dX7_holdRow_55 (show K (v) = 7 from hV 0 (by decide)) rfl ?_
      refine J_callVM hX _ dX7_holdRow_58 cw_RX7_195 (m_X7_paintRow hV hWb (show K (v + 26) = 1000 + 200 from hV 26 (by decide)) (Or.inr rfl) hVb (Or.inl rfl) (by omega)) ⟨(show K (v) = 7 from hV 0 (by decide)), by decide, by decide, rfl⟩ rfl (Nat.le_of_ble_eq_true rfl) (by decide) ⟨Nat.zero_le _, Nat.zero_le _⟩ (fun r9 M58 q58 => ?_)
      obtain ⟨rfl, fM58, cM58⟩ := q58
      refine J_iload_n hX dX7_holdRow_61 rfl ?_
      refine J_if_ne hX 69 dX7_holdRow_62 (by decide) (by decide) (fun h => absurd (by decide) h) (fun _ => ?_)
      refine J_iconst hX dX7_holdRow_65 ?_
      refine J_goto hX 70 dX7_holdRow_66 (by decide) ?_
      exact J_zret hX hQ dX7_holdRow_70 (by decide) ⟨rfl, by first | exact ⟨⟨0, rfl, Or.inl rfl, fun _ => by first | exact Or.inl c5 | exact Or.inr ⟨c15, c23⟩⟩, fun i i1 i2 i3 => fm34 i i1, fun j h => gm34 _ j h, vm34, ho_same hH (fm34 _ (by omega)) (fm34 _ (by omega)) (by omega) (by first | exact Or.inl c5 | exact Or.inr ⟨c15, c23⟩)⟩ | exact ⟨⟨1, rfl, Or.inr rfl, fun h => absurd h (by decide)⟩, fun i i1 i2 i3 => by rw [fM58 i i3, fM48 i i2, fm34 i i1], fun j h => by rw [fM58 v (by omega), fM48 v (by omega)]; exact gm34 _ j h, by rw [fM58 v (by omega), fM48 v (by omega)]; exact vm34, fun c c0 c1 => ⟨by rw [fM58 (v + 25) (by omega), cM48 c c0 (by have z := congrFun (fm34 (v + 2) (by omega)) 3; have z2 : stg M (v + 2) 0 3 = M (v + 2) 3 := rfl; omega), sta], by rw [cM58 c c0 (by have z := congrFun ((fM48 (v + 2) (by omega)).trans (fm34 (v + 2) (by omega))) 3; have z2 : stg M (v + 2) 0 3 = M (v + 2) 3 := rfl; omega), stb]⟩⟩⟩ (Nat.zero_le _) (Nat.zero_le _)
    · refine J_aload_n hX dX7_holdRow_18 rfl ?_
      refine J_iload_n hX dX7_holdRow_19 rfl ?_
      refine J_callVB hX _ dX7_holdRow_20 cw_RX7_192 (m_X7_isLikeAbove hV hW hV2 (by omega)) ⟨(show K (v) = 7 from hV 0 (by decide)), by decide, by decide, rfl⟩ rfl (Nat.le_of_ble_eq_true rfl) (by decide) ⟨Nat.zero_le _, Nat.zero_le _⟩ ?_
      refine J_ifb_eq hX 30 dX7_holdRow_23 (by decide) (fun c23 => ?_) (fun c23 => ?_)
      · refine J_iconst hX dX7_holdRow_30 ?_
        refine J_istore_n hX dX7_holdRow_31 (by decide) ?_
        refine J_aload_n hX dX7_holdRow_32 rfl ?_
        refine J_iload_n hX dX7_holdRow_33 rfl ?_
        refine J_putA hX fw_RX7_37 dX7_holdRow_34 (show K (v) = 7 from hV 0 (by decide)) (by omega) (Or.inl rfl) (fun m34 hm34 => ?_)
        have fm34 : ∀ i, i ≠ v → m34 i = M i := fun i h => by rw [hm34]; exact mset_ne h
        have gm34 : ∀ i j, j ≠ 9 → m34 i j = M i j := fun i j h => by rw [hm34]; exact mset_nj h
        have vm34 := (congrFun (congrFun hm34 (v)) 9).trans mset_eq
        have sta : stg m34 (v + 2) = (stg M (v + 2)) := stg_eq (fun k hk => fm34 _ (by omega))
        have hWa := WF_fr sta hW
        have hVa : Vwt m34 v (stg m34 (v + 2)) := by rw [sta]; exact hV2.fr (fun i i1 i2 => fm34 i i1) (fun j h => gm34 _ j h)
        refine J_iload_n hX dX7_holdRow_37 rfl ?_
        refine J_if_ne hX 61 dX7_holdRow_38 (by decide) (by decide) (fun h => absurd (by decide) h) (fun _ => ?_)
        refine J_aload_n hX dX7_holdRow_41 rfl ?_
        refine J_iconst hX dX7_holdRow_42 ?_
        refine J_iload_n hX dX7_holdRow_43 rfl ?_
        refine J_aload_n hX dX7_holdRow_44 rfl ?_
        refine J_gr hX (v + 25) fr_RX7_30 dX7_holdRow_45 (show K (v) = 7 from hV 0 (by decide)) rfl ?_
        refine J_callVM hX _ dX7_holdRow_48 cw_RX7_195 (m_X7_paintRow hV hWa (show K (v + 25) = 1000 + 200 from hV 25 (by decide)) (Or.inl rfl) hVa (Or.inr rfl) (by omega)) ⟨(show K (v) = 7 from hV 0 (by decide)), by decide, by decide, rfl⟩ rfl (Nat.le_of_ble_eq_true rfl) (by decide) ⟨Nat.zero_le _, Nat.zero_le _⟩ (fun r9 M48 q48 => ?_)
        obtain ⟨rfl, fM48, cM48⟩ := q48
        have stb : stg M48 (v + 2) = (stg M (v + 2)) := (stg_eq (fun k hk => fM48 _ (by omega))).trans sta
        have hWb := WF_fr stb hW
        have hVb : Vwt M48 v (stg M48 (v + 2)) := by rw [stb, ← sta]; exact hVa.fr (fun i i1 i2 => fM48 i (by omega)) (fun j h => congrFun (fM48 v (by omega)) j)
        refine J_aload_n hX dX7_holdRow_51 rfl ?_
        refine J_iconst hX dX7_holdRow_52 ?_
        refine J_iload_n hX dX7_holdRow_53 rfl ?_
        refine J_aload_n hX dX7_holdRow_54 rfl ?_
        refine J_gr hX (v + 26) fr_RX7_34 dX7_holdRow_55 (show K (v) = 7 from hV 0 (by decide)) rfl ?_
        refine J_callVM hX _ dX7_holdRow_58 cw_RX7_195 (m_X7_paintRow hV hWb (show K (v + 26) = 1000 + 200 from hV 26 (by decide)) (Or.inr rfl) hVb (Or.inl rfl) (by omega)) ⟨(show K (v) = 7 from hV 0 (by decide)), by decide, by decide, rfl⟩ rfl (Nat.le_of_ble_eq_true rfl) (by decide) ⟨Nat.zero_le _, Nat.zero_le _⟩ (fun r9 M58 q58 => ?_)
        obtain ⟨rfl, fM58, cM58⟩ := q58
        refine J_iload_n hX dX7_holdRow_61 rfl ?_
        refine J_if_ne hX 69 dX7_holdRow_62 (by decide) (by decide) (fun h => absurd (by decide) h) (fun _ => ?_)
        refine J_iconst hX dX7_holdRow_65 ?_
        refine J_goto hX 70 dX7_holdRow_66 (by decide) ?_
        exact J_zret hX hQ dX7_holdRow_70 (by decide) ⟨rfl, by first | exact ⟨⟨0, rfl, Or.inl rfl, fun _ => by first | exact Or.inl c5 | exact Or.inr ⟨c15, c23⟩⟩, fun i i1 i2 i3 => fm34 i i1, fun j h => gm34 _ j h, vm34, ho_same hH (fm34 _ (by omega)) (fm34 _ (by omega)) (by omega) (by first | exact Or.inl c5 | exact Or.inr ⟨c15, c23⟩)⟩ | exact ⟨⟨1, rfl, Or.inr rfl, fun h => absurd h (by decide)⟩, fun i i1 i2 i3 => by rw [fM58 i i3, fM48 i i2, fm34 i i1], fun j h => by rw [fM58 v (by omega), fM48 v (by omega)]; exact gm34 _ j h, by rw [fM58 v (by omega), fM48 v (by omega)]; exact vm34, fun c c0 c1 => ⟨by rw [fM58 (v + 25) (by omega), cM48 c c0 (by have z := congrFun (fm34 (v + 2) (by omega)) 3; have z2 : stg M (v + 2) 0 3 = M (v + 2) 3 := rfl; omega), sta], by rw [cM58 c c0 (by have z := congrFun ((fM48 (v + 2) (by omega)).trans (fm34 (v + 2) (by omega))) 3; have z2 : stg M (v + 2) 0 3 = M (v + 2) 3 := rfl; omega), stb]⟩⟩⟩ (Nat.zero_le _) (Nat.zero_le _)
      · refine J_iconst hX dX7_holdRow_26 ?_
        refine J_goto hX 31 dX7_holdRow_27 (by decide) ?_
        refine J_istore_n hX dX7_holdRow_31 (by decide) ?_
        refine J_aload_n hX dX7_holdRow_32 rfl ?_
        refine J_iload_n hX dX7_holdRow_33 rfl ?_
        refine J_putA hX fw_RX7_37 dX7_holdRow_34 (show K (v) = 7 from hV 0 (by decide)) (by omega) (Or.inl rfl) (fun m34 hm34 => ?_)
        have fm34 : ∀ i, i ≠ v → m34 i = M i := fun i h => by rw [hm34]; exact mset_ne h
        have gm34 : ∀ i j, j ≠ 9 → m34 i j = M i j := fun i j h => by rw [hm34]; exact mset_nj h
        have vm34 := (congrFun (congrFun hm34 (v)) 9).trans mset_eq
        have sta : stg m34 (v + 2) = (stg M (v + 2)) := stg_eq (fun k hk => fm34 _ (by omega))
        have hWa := WF_fr sta hW
        have hVa : Vwt m34 v (stg m34 (v + 2)) := by rw [sta]; exact hV2.fr (fun i i1 i2 => fm34 i i1) (fun j h => gm34 _ j h)
        refine J_iload_n hX dX7_holdRow_37 rfl ?_
        refine J_if_ne hX 61 dX7_holdRow_38 (by decide) (by decide) (fun _ => ?_) (fun h => absurd h (by decide))
        refine J_iload_n hX dX7_holdRow_61 rfl ?_
        refine J_if_ne hX 69 dX7_holdRow_62 (by decide) (by decide) (fun _ => ?_) (fun h => absurd h (by decide))
        refine J_iconst hX dX7_holdRow_69 ?_
        exact J_zret hX hQ dX7_holdRow_70 (by decide) ⟨rfl, by first | exact ⟨⟨0, rfl, Or.inl rfl, fun _ => by first | exact Or.inl c5 | exact Or.inr ⟨c15, c23⟩⟩, fun i i1 i2 i3 => fm34 i i1, fun j h => gm34 _ j h, vm34, ho_same hH (fm34 _ (by omega)) (fm34 _ (by omega)) (by omega) (by first | exact Or.inl c5 | exact Or.inr ⟨c15, c23⟩)⟩ | exact ⟨⟨1, rfl, Or.inr rfl, fun h => absurd h (by decide)⟩, fun i i1 i2 i3 => by rw [fM58 i i3, fM48 i i2, fm34 i i1], fun j h => by rw [fM58 v (by omega), fM48 v (by omega)]; exact gm34 _ j h, by rw [fM58 v (by omega), fM48 v (by omega)]; exact vm34, fun c c0 c1 => ⟨by rw [fM58 (v + 25) (by omega), cM48 c c0 (by have z := congrFun (fm34 (v + 2) (by omega)) 3; have z2 : stg M (v + 2) 0 3 = M (v + 2) 3 := rfl; omega), sta], by rw [cM58 c c0 (by have z := congrFun ((fM48 (v + 2) (by omega)).trans (fm34 (v + 2) (by omega))) 3; have z2 : stg M (v + 2) 0 3 = M (v + 2) 3 := rfl; omega), stb]⟩⟩⟩ (Nat.zero_le _) (Nat.zero_le _)
-- X7_countInHeldRow
set_option maxHeartbeats 4000000 in
set_option maxRecDepth 100000 in
theorem m_X7_countInHeldRow {E : EE} {K : Nat → Nat} {M : MM} {v : Nat} {T r least : Int} (hV : ViewK K v) (hW : WF T M (v + 2)) (hC : Cel M v (stg M (v + 2)) r) (hle : i32 least) : CnI E 2 yX7_countInHeldRow cX7_countInHeldRow 4 (Option.some FieldType.int) [.ref v, vI least] K M (gcnt (stg M (v + 2)) least r) := by
  have hW0 := hW
  obtain ⟨hT0, ⟨ws1, ws2, ws3, ws4, ws5, ws6, ws7, ws8, ws9, ws10, ws11, ws12, ws13, ws14⟩, hWn, hWc⟩ := hW0
  have hS0 := hW.S
  have hrg := ct_rng (fun c => least ≤ ghs (stg M (v + 2)) c r)
  refine ⟨Cn_of RX7 (plainFor_of_name (by decide)) rfl (Nat.le_of_ble_eq_true rfl) (fun X hX hQ => ?_), by have := gcnt_rng hW.S least r; omega⟩
  refine J_iconst hX dX7_countInHeldRow_0 ?_
  refine J_istore_n hX dX7_countInHeldRow_1 (by decide) ?_
  refine J_iconst hX dX7_countInHeldRow_2 ?_
  refine J_istore_n hX dX7_countInHeldRow_3 (by decide) ?_
  have HL4 : ∀ k : Nat, k ≤ (M (v + 2) 3).toNat → ∀ (s : Int), (s = ct (fun c => least ≤ ghs (stg M (v + 2)) c r) k) → J E X 4 [(0, .ref v), (1, vI least), (2, vI s), (3, vI (k : Int))] [] K M 0 0 := by
    refine up_ind ((M (v + 2) 3).toNat) (fun k hk4 ih4 => ?_)
    intro s  hi4
    have hr4 := hrg k
    refine J_iload_n hX dX7_countInHeldRow_4 rfl ?_
    refine J_aload_n hX dX7_countInHeldRow_5 rfl ?_
    refine J_gr hX (v + 2) fr_RX7_22 dX7_countInHeldRow_6 (show K (v) = 7 from hV 0 (by decide)) rfl ?_
    refine J_geti hX fi_RX7_90 dX7_countInHeldRow_9 (show K (v + 2) = 5 from (hV).stage 0 (by decide)) (fun r9 => ?_)
    refine J_icmp_ge hX 56 dX7_countInHeldRow_12 (by omega) (by omega) (by decide) (fun c12 => ?_) (fun c12 => ?_)
    · refine J_iload_n hX dX7_countInHeldRow_56 rfl ?_
      exact J_retI hX hQ dX7_countInHeldRow_57 (by first | (exfalso; omega) | (unfold gcnt; rw [show ((stg M (v + 2)) 0 3).toNat = k from (by show (M (v + 2) 3).toNat = k; omega)]; exact hi4)) rfl rfl (Nat.zero_le _) (Nat.zero_le _)
    · refine J_iload_n hX dX7_countInHeldRow_15 rfl ?_
      refine J_sipush hX dX7_countInHeldRow_16 rfl ?_
      refine J_icmp_ge hX 56 dX7_countInHeldRow_19 (by omega) (by decide) (by decide) (fun c19 => ?_) (fun c19 => ?_)
      · refine J_iload_n hX dX7_countInHeldRow_56 rfl ?_
        exact J_retI hX hQ dX7_countInHeldRow_57 (by first | (exfalso; omega) | (unfold gcnt; rw [show ((stg M (v + 2)) 0 3).toNat = k from (by show (M (v + 2) 3).toNat = k; omega)]; exact hi4)) rfl rfl (Nat.zero_le _) (Nat.zero_le _)
      · refine J_iload_n hX dX7_countInHeldRow_22 rfl ?_
        refine J_aload_n hX dX7_countInHeldRow_23 rfl ?_
        refine J_aload_n hX dX7_countInHeldRow_24 rfl ?_
        refine J_gr hX (v + 25) fr_RX7_30 dX7_countInHeldRow_25 (show K (v) = 7 from hV 0 (by decide)) rfl ?_
        refine J_iload_n hX dX7_countInHeldRow_28 rfl ?_
        refine J_iald hX dX7_countInHeldRow_29 (show K (v + 25) = 1000 + 200 from hV 25 (by decide)) ⟨by omega, by omega⟩ (by decide) (fun r29 => ?_)
        refine J_aload_n hX dX7_countInHeldRow_30 rfl ?_
        refine J_gr hX (v + 26) fr_RX7_34 dX7_countInHeldRow_31 (show K (v) = 7 from hV 0 (by decide)) rfl ?_
        refine J_iload_n hX dX7_countInHeldRow_34 rfl ?_
        refine J_iald hX dX7_countInHeldRow_35 (show K (v + 26) = 1000 + 200 from hV 26 (by decide)) ⟨by omega, by omega⟩ (by decide) (fun r35 => ?_)
        have hc := hC (k : Int) (by omega) (by have z : (stg M (v + 2)) 0 3 = M (v + 2) 3 := rfl; omega)
        have hx1 := shd_rng hS0 1 (k : Int) r
        have hx0 := shd_rng hS0 0 (k : Int) r
        have hg : gst (stg M (v + 2)) (M (v + 25) k) (M (v + 26) k) = ghs (stg M (v + 2)) k r := by rw [hc.1, hc.2]; rfl
        refine J_callVI hX _ dX7_countInHeldRow_36 cw_RX7_174 (m_X7_ghostOf hV hW (by omega) (by omega)) ⟨(show K (v) = 7 from hV 0 (by decide)), by decide, by decide, rfl⟩ rfl (Nat.le_of_ble_eq_true rfl) (by decide) ⟨Nat.zero_le _, Nat.zero_le _⟩ (fun r36 => ?_)
        refine J_iload_n hX dX7_countInHeldRow_39 rfl ?_
        refine J_icmp_lt hX 47 dX7_countInHeldRow_40 (by omega) (by omega) (by decide) (fun c40 => ?_) (fun c40 => ?_)
        · refine J_iconst hX dX7_countInHeldRow_47 ?_
          refine J_iadd hX dX7_countInHeldRow_48 ?_
          refine J_istore_n hX dX7_countInHeldRow_49 (by decide) ?_
          refine J_iinc hX dX7_countInHeldRow_50 rfl (by decide) ?_
          refine J_goto hX 4 dX7_countInHeldRow_53 (by decide) ?_
          exact J_locI (ih4 (k + 1) (by omega) (by omega) _ (by first | (rw [hi4, ct_t (by omega)]) | (rw [hi4, ct_f (by omega)]; omega))) rfl
        · refine J_iconst hX dX7_countInHeldRow_43 ?_
          refine J_goto hX 48 dX7_countInHeldRow_44 (by decide) ?_
          refine J_iadd hX dX7_countInHeldRow_48 ?_
          refine J_istore_n hX dX7_countInHeldRow_49 (by decide) ?_
          refine J_iinc hX dX7_countInHeldRow_50 rfl (by decide) ?_
          refine J_goto hX 4 dX7_countInHeldRow_53 (by decide) ?_
          exact J_locI (ih4 (k + 1) (by omega) (by omega) _ (by first | (rw [hi4, ct_t (by omega)]) | (rw [hi4, ct_f (by omega)]; omega))) rfl
  exact J_locI (HL4 0 (Nat.zero_le _) _ rfl) rfl
-- X7_countGhosts
set_option maxHeartbeats 4000000 in
set_option maxRecDepth 100000 in
theorem m_X7_countGhosts {E : EE} {K : Nat → Nat} {M : MM} {v : Nat} {T least : Int} (hV : ViewK K v) (hW : WF T M (v + 2)) (hV2 : Vwt M v (stg M (v + 2))) (hH : HOK M v (stg M (v + 2))) (hle : i32 least) : CnM E 5 yX7_countGhosts cX7_countGhosts 6 (Option.some FieldType.int) [.ref v, vI least] K M (fun r9 M2 => r9 = some (vI (gall (stg M (v + 2)) least)) ∧ (∀ i, i ≠ v → i ≠ v + 25 → i ≠ v + 26 → M2 i = M i) ∧ (∀ j, j ≠ 9 → M2 v j = M v j) ∧ HOK M2 v (stg M (v + 2))) := by
  have hW0 := hW
  obtain ⟨hT0, ⟨ws1, ws2, ws3, ws4, ws5, ws6, ws7, ws8, ws9, ws10, ws11, ws12, ws13, ws14⟩, hWn, hWc⟩ := hW0
  have hS0 := hW.S
  refine Cn_of RX7 (plainFor_of_name (by decide)) rfl (Nat.le_of_ble_eq_true rfl) (fun X hX hQ => ?_)
  refine J_iconst hX dX7_countGhosts_0 ?_
  refine J_istore_n hX dX7_countGhosts_1 (by decide) ?_
  refine J_iconst hX dX7_countGhosts_2 ?_
  refine J_istore_n hX dX7_countGhosts_3 (by decide) ?_
  refine J_iconst hX dX7_countGhosts_4 ?_
  refine J_istore hX dX7_countGhosts_5 (by decide) ?_
  have HL7 : ∀ k : Nat, k ≤ (M (v + 2) 4).toNat → ∀ (s q : Int) (M2 : MM), (s = sm (gcnt (stg M (v + 2)) least) k ∧ (0 ≤ q ∧ q ≤ 200) ∧ (0 < k → q = gcnt (stg M (v + 2)) least ((k : Int) - 1) ∧ M2 v 9 = (k : Int) - 1 ∧ Cel M2 v (stg M (v + 2)) ((k : Int) - 1)) ∧ (k = 0 → M2 = M) ∧ (∀ i, i ≠ v → i ≠ v + 25 → i ≠ v + 26 → M2 i = M i) ∧ (∀ j, j ≠ 9 → M2 v j = M v j)) → J E X 7 [(0, .ref v), (1, vI least), (2, vI s), (3, vI q), (4, vI (k : Int))] [] K M2 0 0 := by
    refine up_ind ((M (v + 2) 4).toNat) (fun k hk7 ih7 => ?_)
    intro s q  M2  hi7
    obtain ⟨hs7, hq7, hk7, hz7, fr2, fv2⟩ := id hi7
    have st2 : stg M2 (v + 2) = (stg M (v + 2)) := stg_eq (fun k hk => fr2 _ (by omega) (by omega) (by omega))
    have hW2 := WF_fr st2 hW
    have hV2b : Vwt M2 v (stg M2 (v + 2)) := by rw [st2]; exact hV2.fr (fun i i1 i2 => fr2 i i1 (by omega) (by omega)) fv2
    have wm4 := congrFun (fr2 (v + 2) (by omega) (by omega) (by omega)) 4
    have s4 : (stg M (v + 2)) 0 4 = M (v + 2) 4 := rfl
    have hH2s : HOK M2 v (stg M (v + 2)) := by by_cases e : k = 0; (rw [hz7 e]; exact hH); (obtain ⟨-, a2, a3⟩ := hk7 (by omega); exact Or.inr ⟨by omega, by omega, by rw [a2]; exact a3⟩)
    have hH2 : HOK M2 v (stg M2 (v + 2)) := by rw [st2]; exact hH2s
    have smr := sm_gcnt hS0 least k (by omega)
    refine J_iload hX dX7_countGhosts_7 rfl ?_
    refine J_aload_n hX dX7_countGhosts_9 rfl ?_
    refine J_gr hX (v + 2) fr_RX7_22 dX7_countGhosts_10 (show K (v) = 7 from hV 0 (by decide)) rfl ?_
    refine J_geti hX fi_RX7_139 dX7_countGhosts_13 (show K (v + 2) = 5 from (hV).stage 0 (by decide)) (fun r13 => ?_)
    refine J_icmp_ge hX 53 dX7_countGhosts_16 (by omega) (by omega) (by decide) (fun c16 => ?_) (fun c16 => ?_)
    · refine J_iload_n hX dX7_countGhosts_53 rfl ?_
      exact J_iret hX hQ dX7_countGhosts_54 ⟨rfl, by exact ⟨by rw [hi7.1, show k = ((stg M (v + 2)) 0 4).toNat from (by show k = (M (v + 2) 4).toNat; omega)]; rfl, fr2, fv2, hH2s⟩⟩ (Nat.zero_le _) (Nat.zero_le _)
    · refine J_aload_n hX dX7_countGhosts_19 rfl ?_
      refine J_iload hX dX7_countGhosts_20 rfl ?_
      refine J_callVM hX _ dX7_countGhosts_22 cw_RX7_184 (m_X7_holdRow hV hW2 hV2b hH2 (by omega)) ⟨(show K (v) = 7 from hV 0 (by decide)), by decide, by decide, rfl⟩ rfl (Nat.le_of_ble_eq_true rfl) (by decide) ⟨Nat.zero_le _, Nat.zero_le _⟩ (fun r9 M22 q22 => ?_)
      obtain ⟨⟨xM22, rfl, x01M22, xlM22⟩, hf1M22, hf2M22, hf3M22, hf4M22⟩ := q22
      have fr3 : ∀ i, i ≠ v → i ≠ v + 25 → i ≠ v + 26 → M22 i = M i := fun i i1 i2 i3 => by rw [hf1M22 i i1 i2 i3, fr2 i i1 i2 i3]
      have st3 : stg M22 (v + 2) = (stg M (v + 2)) := stg_eq (fun k hk => fr3 _ (by omega) (by omega) (by omega))
      have hWd := WF_fr st3 hW
      have hC : Cel M22 v (stg M22 (v + 2)) k := by rw [st3, ← st2]; exact hf4M22
      have gr := gcnt_rng hS0 least k
      rw [st2] at hf4M22 xlM22
      refine J_istore hX dX7_countGhosts_25 (by decide) ?_
      refine J_iload hX dX7_countGhosts_27 rfl ?_
      refine J_if_ne hX 37 dX7_countGhosts_29 (by omega) (by decide) (fun c29 => ?_) (fun c29 => ?_)
      · refine J_aload_n hX dX7_countGhosts_37 rfl ?_
        refine J_iload_n hX dX7_countGhosts_38 rfl ?_
        refine J_callVI hX _ dX7_countGhosts_39 cw_RX7_187 (m_X7_countInHeldRow hV hWd hC (by omega)) ⟨(show K (v) = 7 from hV 0 (by decide)), by decide, by decide, rfl⟩ rfl (Nat.le_of_ble_eq_true rfl) (by decide) ⟨Nat.zero_le _, Nat.zero_le _⟩ (fun r39 => ?_)
        rw [st3]
        refine J_istore_n hX dX7_countGhosts_42 (by decide) ?_
        refine J_iload_n hX dX7_countGhosts_43 rfl ?_
        refine J_iload_n hX dX7_countGhosts_44 rfl ?_
        refine J_iadd hX dX7_countGhosts_45 ?_
        refine J_istore_n hX dX7_countGhosts_46 (by decide) ?_
        refine J_iinc hX dX7_countGhosts_47 rfl (by decide) ?_
        refine J_goto hX 7 dX7_countGhosts_50 (by decide) ?_
        exact J_locI (ih7 (k + 1) (by omega) (by omega) _ _ _ ⟨by
                    rw [hs7]
                    first
                      | rfl
                      | (show _ + q = sm (gcnt (stg M (v + 2)) least) k + gcnt (stg M (v + 2)) least k
                         obtain ⟨a1, a2, a3⟩ := hk7 (by omega)
                         rcases xlM22 (by omega) with h | ⟨h, hl⟩
                         · omega
                         · rw [gcnt_like hl, a1]), by omega, fun _ => ⟨by
                    first
                      | (rw [show ((k + 1 : Nat) : Int) - 1 = k by omega]; done)
                      | (rw [show ((k + 1 : Nat) : Int) - 1 = k by omega]
                         obtain ⟨a1, a2, a3⟩ := hk7 (by omega)
                         rcases xlM22 (by omega) with h | ⟨h, hl⟩
                         · omega
                         · rw [gcnt_like hl, a1]), by rw [hf3M22]; omega, by rw [show ((k + 1 : Nat) : Int) - 1 = k by omega]; exact hf4M22⟩, fun h => absurd h (by omega), fr3, fun j h => by rw [hf2M22 j h, fv2 j h]⟩) rfl
      · refine J_iload hX dX7_countGhosts_32 rfl ?_
        refine J_if_ne hX 43 dX7_countGhosts_34 (by omega) (by decide) (fun c34 => ?_) (fun c34 => ?_)
        · refine J_iload_n hX dX7_countGhosts_43 rfl ?_
          refine J_iload_n hX dX7_countGhosts_44 rfl ?_
          refine J_iadd hX dX7_countGhosts_45 ?_
          refine J_istore_n hX dX7_countGhosts_46 (by decide) ?_
          refine J_iinc hX dX7_countGhosts_47 rfl (by decide) ?_
          refine J_goto hX 7 dX7_countGhosts_50 (by decide) ?_
          exact J_locI (ih7 (k + 1) (by omega) (by omega) _ _ _ ⟨by
                      rw [hs7]
                      first
                        | rfl
                        | (show _ + q = sm (gcnt (stg M (v + 2)) least) k + gcnt (stg M (v + 2)) least k
                           obtain ⟨a1, a2, a3⟩ := hk7 (by omega)
                           rcases xlM22 (by omega) with h | ⟨h, hl⟩
                           · omega
                           · rw [gcnt_like hl, a1]), by omega, fun _ => ⟨by
                      first
                        | (rw [show ((k + 1 : Nat) : Int) - 1 = k by omega]; done)
                        | (rw [show ((k + 1 : Nat) : Int) - 1 = k by omega]
                           obtain ⟨a1, a2, a3⟩ := hk7 (by omega)
                           rcases xlM22 (by omega) with h | ⟨h, hl⟩
                           · omega
                           · rw [gcnt_like hl, a1]), by rw [hf3M22]; omega, by rw [show ((k + 1 : Nat) : Int) - 1 = k by omega]; exact hf4M22⟩, fun h => absurd h (by omega), fr3, fun j h => by rw [hf2M22 j h, fv2 j h]⟩) rfl
        · refine J_aload_n hX dX7_countGhosts_37 rfl ?_
          refine J_iload_n hX dX7_countGhosts_38 rfl ?_
          refine J_callVI hX _ dX7_countGhosts_39 cw_RX7_187 (m_X7_countInHeldRow hV hWd hC (by omega)) ⟨(show K (v) = 7 from hV 0 (by decide)), by decide, by decide, rfl⟩ rfl (Nat.le_of_ble_eq_true rfl) (by decide) ⟨Nat.zero_le _, Nat.zero_le _⟩ (fun r39 => ?_)
          rw [st3]
          refine J_istore_n hX dX7_countGhosts_42 (by decide) ?_
          refine J_iload_n hX dX7_countGhosts_43 rfl ?_
          refine J_iload_n hX dX7_countGhosts_44 rfl ?_
          refine J_iadd hX dX7_countGhosts_45 ?_
          refine J_istore_n hX dX7_countGhosts_46 (by decide) ?_
          refine J_iinc hX dX7_countGhosts_47 rfl (by decide) ?_
          refine J_goto hX 7 dX7_countGhosts_50 (by decide) ?_
          exact J_locI (ih7 (k + 1) (by omega) (by omega) _ _ _ ⟨by
                      rw [hs7]
                      first
                        | rfl
                        | (show _ + q = sm (gcnt (stg M (v + 2)) least) k + gcnt (stg M (v + 2)) least k
                           obtain ⟨a1, a2, a3⟩ := hk7 (by omega)
                           rcases xlM22 (by omega) with h | ⟨h, hl⟩
                           · omega
                           · rw [gcnt_like hl, a1]), by omega, fun _ => ⟨by
                      first
                        | (rw [show ((k + 1 : Nat) : Int) - 1 = k by omega]; done)
                        | (rw [show ((k + 1 : Nat) : Int) - 1 = k by omega]
                           obtain ⟨a1, a2, a3⟩ := hk7 (by omega)
                           rcases xlM22 (by omega) with h | ⟨h, hl⟩
                           · omega
                           · rw [gcnt_like hl, a1]), by rw [hf3M22]; omega, by rw [show ((k + 1 : Nat) : Int) - 1 = k by omega]; exact hf4M22⟩, fun h => absurd h (by omega), fr3, fun j h => by rw [hf2M22 j h, fv2 j h]⟩) rfl
  exact J_locI (HL7 0 (Nat.zero_le _) 0 0 _ ⟨rfl, by omega, fun h => absurd h (by omega), fun _ => rfl, fun i _ _ _ => rfl, fun j _ => rfl⟩) rfl
-- X7_sumOfGhosts
set_option maxHeartbeats 4000000 in
set_option maxRecDepth 100000 in
theorem m_X7_sumOfGhosts {E : EE} {K : Nat → Nat} {M : MM} {v : Nat} {T r : Int} (hV : ViewK K v) (hW : WF T M (v + 2)) (hV2 : Vwt M v (stg M (v + 2))) (hH : HOK M v (stg M (v + 2))) (hr : 0 ≤ r ∧ r < M (v + 2) 4) : CnM E 5 yX7_sumOfGhosts cX7_sumOfGhosts 4 (Option.some FieldType.int) [.ref v, vI r] K M (fun r9 M2 => r9 = some (vI (gsum (stg M (v + 2)) r)) ∧ (∀ i, i ≠ v → i ≠ v + 25 → i ≠ v + 26 → M2 i = M i) ∧ (∀ j, j ≠ 9 → M2 v j = M v j) ∧ HOK M2 v (stg M (v + 2))) := by
  have hW0 := hW
  obtain ⟨hT0, ⟨ws1, ws2, ws3, ws4, ws5, ws6, ws7, ws8, ws9, ws10, ws11, ws12, ws13, ws14⟩, hWn, hWc⟩ := hW0
  have hS0 := hW.S
  refine Cn_of RX7 (plainFor_of_name (by decide)) rfl (Nat.le_of_ble_eq_true rfl) (fun X hX hQ => ?_)
  refine J_aload_n hX dX7_sumOfGhosts_0 rfl ?_
  refine J_iload_n hX dX7_sumOfGhosts_1 rfl ?_
  refine J_callVM hX _ dX7_sumOfGhosts_2 cw_RX7_184 (m_X7_holdRow hV hW hV2 hH (by omega)) ⟨(show K (v) = 7 from hV 0 (by decide)), by decide, by decide, rfl⟩ rfl (Nat.le_of_ble_eq_true rfl) (by decide) ⟨Nat.zero_le _, Nat.zero_le _⟩ (fun r9 M2 q2 => ?_)
  obtain ⟨⟨xM2, rfl, x01M2, xlM2⟩, hf1M2, hf2M2, hf3M2, hf4M2⟩ := q2
  have st3 : stg M2 (v + 2) = (stg M (v + 2)) := stg_eq (fun k hk => hf1M2 _ (by omega) (by omega) (by omega))
  have hWd := WF_fr st3 hW
  have wm3 := congrFun (hf1M2 (v + 2) (by omega) (by omega) (by omega)) 3
  refine J_pop hX dX7_sumOfGhosts_5 rfl ?_
  refine J_iconst hX dX7_sumOfGhosts_6 ?_
  refine J_istore_n hX dX7_sumOfGhosts_7 (by decide) ?_
  refine J_iconst hX dX7_sumOfGhosts_8 ?_
  refine J_istore_n hX dX7_sumOfGhosts_9 (by decide) ?_
  have HL10 : ∀ k : Nat, k ≤ (M (v + 2) 3).toNat → ∀ (s : Int), (s = sm (fun c => ghs (stg M (v + 2)) c r) k) → J E X 10 [(0, .ref v), (1, vI r), (2, vI s), (3, vI (k : Int))] [] K M2 0 0 := by
    refine up_ind ((M (v + 2) 3).toNat) (fun k hk10 ih10 => ?_)
    intro s  hi10
    have smr := sm_ghs hS0 r k (by omega)
    refine J_iload_n hX dX7_sumOfGhosts_10 rfl ?_
    refine J_aload_n hX dX7_sumOfGhosts_11 rfl ?_
    refine J_gr hX (v + 2) fr_RX7_22 dX7_sumOfGhosts_12 (show K (v) = 7 from hV 0 (by decide)) rfl ?_
    refine J_geti hX fi_RX7_90 dX7_sumOfGhosts_15 (show K (v + 2) = 5 from (hV).stage 0 (by decide)) (fun r15 => ?_)
    refine J_icmp_ge hX 53 dX7_sumOfGhosts_18 (by omega) (by omega) (by decide) (fun c18 => ?_) (fun c18 => ?_)
    · refine J_iload_n hX dX7_sumOfGhosts_53 rfl ?_
      exact J_iret hX hQ dX7_sumOfGhosts_54 ⟨rfl, by first | (exfalso; omega) | exact ⟨by rw [hi10, show k = ((stg M (v + 2)) 0 3).toNat from (by show k = (M (v + 2) 3).toNat; omega)]; rfl, hf1M2, hf2M2, Or.inr ⟨by omega, by have z : (stg M (v + 2)) 0 4 = M (v + 2) 4 := rfl; omega, by rw [hf3M2]; exact hf4M2⟩⟩⟩ (Nat.zero_le _) (Nat.zero_le _)
    · refine J_iload_n hX dX7_sumOfGhosts_21 rfl ?_
      refine J_sipush hX dX7_sumOfGhosts_22 rfl ?_
      refine J_icmp_ge hX 53 dX7_sumOfGhosts_25 (by omega) (by decide) (by decide) (fun c25 => ?_) (fun c25 => ?_)
      · refine J_iload_n hX dX7_sumOfGhosts_53 rfl ?_
        exact J_iret hX hQ dX7_sumOfGhosts_54 ⟨rfl, by first | (exfalso; omega) | exact ⟨by rw [hi10, show k = ((stg M (v + 2)) 0 3).toNat from (by show k = (M (v + 2) 3).toNat; omega)]; rfl, hf1M2, hf2M2, Or.inr ⟨by omega, by have z : (stg M (v + 2)) 0 4 = M (v + 2) 4 := rfl; omega, by rw [hf3M2]; exact hf4M2⟩⟩⟩ (Nat.zero_le _) (Nat.zero_le _)
      · refine J_iload_n hX dX7_sumOfGhosts_28 rfl ?_
        refine J_aload_n hX dX7_sumOfGhosts_29 rfl ?_
        refine J_aload_n hX dX7_sumOfGhosts_30 rfl ?_
        refine J_gr hX (v + 25) fr_RX7_30 dX7_sumOfGhosts_31 (show K (v) = 7 from hV 0 (by decide)) rfl ?_
        refine J_iload_n hX dX7_sumOfGhosts_34 rfl ?_
        refine J_iald hX dX7_sumOfGhosts_35 (show K (v + 25) = 1000 + 200 from hV 25 (by decide)) ⟨by omega, by omega⟩ (by decide) (fun r35 => ?_)
        refine J_aload_n hX dX7_sumOfGhosts_36 rfl ?_
        refine J_gr hX (v + 26) fr_RX7_34 dX7_sumOfGhosts_37 (show K (v) = 7 from hV 0 (by decide)) rfl ?_
        refine J_iload_n hX dX7_sumOfGhosts_40 rfl ?_
        refine J_iald hX dX7_sumOfGhosts_41 (show K (v + 26) = 1000 + 200 from hV 26 (by decide)) ⟨by omega, by omega⟩ (by decide) (fun r41 => ?_)
        have hc := hf4M2 (k : Int) (by omega) (by have z : (stg M (v + 2)) 0 3 = M (v + 2) 3 := rfl; omega)
        have hx1 := shd_rng hS0 1 (k : Int) r
        have hx0 := shd_rng hS0 0 (k : Int) r
        have hgr := ghs_rng hS0 (k : Int) r
        have hg : gst (stg M (v + 2)) (M2 (v + 25) k) (M2 (v + 26) k) = ghs (stg M (v + 2)) k r := by rw [hc.1, hc.2]; rfl
        refine J_callVI hX _ dX7_sumOfGhosts_42 cw_RX7_174 (m_X7_ghostOf hV hWd (by omega) (by omega)) ⟨(show K (v) = 7 from hV 0 (by decide)), by decide, by decide, rfl⟩ rfl (Nat.le_of_ble_eq_true rfl) (by decide) ⟨Nat.zero_le _, Nat.zero_le _⟩ (fun r42 => ?_)
        rw [st3, hg]
        refine J_iadd hX dX7_sumOfGhosts_45 ?_
        refine J_istore_n hX dX7_sumOfGhosts_46 (by decide) ?_
        refine J_iinc hX dX7_sumOfGhosts_47 rfl (by decide) ?_
        refine J_goto hX 10 dX7_sumOfGhosts_50 (by decide) ?_
        exact J_locI (ih10 (k + 1) (by omega) (by omega) _ (by rw [hi10]; rfl)) rfl
  exact J_locI (HL10 0 (Nat.zero_le _) _ rfl) rfl
