-- X7_isLikeAbove
set_option maxHeartbeats 4000000 in
set_option maxRecDepth 100000 in
theorem m_X7_isLikeAbove {E : EE} {K : Nat → Nat} {M : MM} {v : Nat} {T r : Int} (hV : ViewK K v) (hW : WF T M (v + 2)) (hV2 : Vwt M v (stg M (v + 2))) (hr : -1000000 ≤ r ∧ r ≤ 1000000) : CnB E 2 yX7_isLikeAbove cX7_isLikeAbove 3 [.ref v, vI r] K M (lka (stg M (v + 2)) r) := by
  have hW0 := hW
  obtain ⟨hT0, ⟨ws1, ws2, ws3, ws4, ws5, ws6, ws7, ws8, ws9, ws10, ws11, ws12, ws13, ws14⟩, hWn, hWc⟩ := hW0
  have hS0 := hW.S
  have hP := hV2.1.1
  have hw1 := wnd_rng hS0 1
  have hw0 := wnd_rng hS0 0
  have hd1 := hV2.1.2.1
  have hd0 := hV2.1.2.2
  have t1 := hV2.2.1
  have t2 := hV2.2.2
  have tr := ttl_rng hS0
  refine Cn_of RX7 (plainFor_of_name (by decide)) rfl (Nat.le_of_ble_eq_true rfl) (fun X hX hQ => ?_)
  refine J_iload_n hX dX7_isLikeAbove_0 rfl ?_
  refine J_aload_n hX dX7_isLikeAbove_1 rfl ?_
  refine J_geti hX fi_RX7_92 dX7_isLikeAbove_2 (show K (v) = 7 from hV 0 (by decide)) (fun r2 => ?_)
  refine J_icmp_eq hX 18 dX7_isLikeAbove_5 (by omega) (by omega) (by decide) (fun c5 => ?_) (fun c5 => ?_)
  · refine J_iconst hX dX7_isLikeAbove_18 ?_
    exact J_retF hX hQ dX7_isLikeAbove_19 (by first | (exfalso; omega) | (intro q9; first | (have := q9.1; omega) | (have := q9.2.1; omega)) | (exact ⟨by omega, by omega, by rw [show cnt (stg M (v + 2)) = k from (by unfold cnt; show (M (v + 2 + 1) 0).toNat = k; omega)]; exact hi22⟩) | (intro q9; have q8 := lkn_all q9.2.2 k (by unfold cnt; show k < (M (v + 2 + 1) 0).toNat; omega); exact c59 ((inRM_iff hP).trans (q8.trans (inRM_iff hP).symm)))) rfl rfl (Nat.zero_le _) (Nat.zero_le _)
  · refine J_iload_n hX dX7_isLikeAbove_8 rfl ?_
    refine J_iconst hX dX7_isLikeAbove_9 ?_
    refine J_isub hX dX7_isLikeAbove_10 ?_
    refine J_aload_n hX dX7_isLikeAbove_11 rfl ?_
    refine J_geti hX fi_RX7_92 dX7_isLikeAbove_12 (show K (v) = 7 from hV 0 (by decide)) (fun r12 => ?_)
    refine J_icmp_ne hX 20 dX7_isLikeAbove_15 (by omega) (by omega) (by decide) (fun c15 => ?_) (fun c15 => ?_)
    · refine J_iconst hX dX7_isLikeAbove_20 ?_
      refine J_istore_n hX dX7_isLikeAbove_21 (by decide) ?_
      have HL22 : ∀ k : Nat, k ≤ (M (v + 2 + 1) 0).toNat → (lkn (stg M (v + 2)) r k = true) → J E X 22 [(0, .ref v), (1, vI r), (2, vI (k : Int))] [] K M 0 0 := by
        refine up_ind ((M (v + 2 + 1) 0).toNat) (fun k hk22 ih22 => ?_)
        intro  hi22
        refine J_iload_n hX dX7_isLikeAbove_22 rfl ?_
        refine J_aload_n hX dX7_isLikeAbove_23 rfl ?_
        refine J_gr hX (v + 2 + 1) fr_RX7_29 dX7_isLikeAbove_24 (show K (v) = 7 from hV 0 (by decide)) rfl ?_
        refine J_geti hX fi_RX7_61 dX7_isLikeAbove_27 (show K (v + 2 + 1) = 6 from (hV).stage 1 (by decide)) (fun r27 => ?_)
        refine J_icmp_ge hX 70 dX7_isLikeAbove_30 (by omega) (by omega) (by decide) (fun c30 => ?_) (fun c30 => ?_)
        · refine J_iconst hX dX7_isLikeAbove_70 ?_
          exact J_retT hX hQ dX7_isLikeAbove_71 (by first | (exfalso; omega) | (intro q9; first | (have := q9.1; omega) | (have := q9.2.1; omega)) | (exact ⟨by omega, by omega, by rw [show cnt (stg M (v + 2)) = k from (by unfold cnt; show (M (v + 2 + 1) 0).toNat = k; omega)]; exact hi22⟩) | (intro q9; have q8 := lkn_all q9.2.2 k (by unfold cnt; show k < (M (v + 2 + 1) 0).toNat; omega); exact c59 ((inRM_iff hP).trans (q8.trans (inRM_iff hP).symm)))) rfl rfl (Nat.zero_le _) (Nat.zero_le _)
        · refine J_iload_n hX dX7_isLikeAbove_33 rfl ?_
          refine J_bipush hX dX7_isLikeAbove_34 rfl ?_
          refine J_icmp_ge hX 70 dX7_isLikeAbove_36 (by omega) (by decide) (by decide) (fun c36 => ?_) (fun c36 => ?_)
          · refine J_iconst hX dX7_isLikeAbove_70 ?_
            exact J_retT hX hQ dX7_isLikeAbove_71 (by first | (exfalso; omega) | (intro q9; first | (have := q9.1; omega) | (have := q9.2.1; omega)) | (exact ⟨by omega, by omega, by rw [show cnt (stg M (v + 2)) = k from (by unfold cnt; show (M (v + 2 + 1) 0).toNat = k; omega)]; exact hi22⟩) | (intro q9; have q8 := lkn_all q9.2.2 k (by unfold cnt; show k < (M (v + 2 + 1) 0).toNat; omega); exact c59 ((inRM_iff hP).trans (q8.trans (inRM_iff hP).symm)))) rfl rfl (Nat.zero_le _) (Nat.zero_le _)
          · refine J_aload_n hX dX7_isLikeAbove_39 rfl ?_
            refine J_gr hX (v + 1) fr_RX7_12 dX7_isLikeAbove_40 (show K (v) = 7 from hV 0 (by decide)) rfl ?_
            refine J_iload_n hX dX7_isLikeAbove_43 rfl ?_
            refine J_iload_n hX dX7_isLikeAbove_44 rfl ?_
            refine J_callVB hX _ dX7_isLikeAbove_45 cw_RX7_129 (m_X2_inRow hV hW (by omega) (by omega) (hP.yr hW _)) ⟨(show K (v + 1) = 2 from hV 1 (by decide)), by decide, by decide, rfl⟩ rfl (Nat.le_of_ble_eq_true rfl) (by decide) ⟨Nat.zero_le _, Nat.zero_le _⟩ ?_
            refine J_aload_n hX dX7_isLikeAbove_48 rfl ?_
            refine J_gr hX (v + 1) fr_RX7_12 dX7_isLikeAbove_49 (show K (v) = 7 from hV 0 (by decide)) rfl ?_
            refine J_iload_n hX dX7_isLikeAbove_52 rfl ?_
            refine J_iload_n hX dX7_isLikeAbove_53 rfl ?_
            refine J_iconst hX dX7_isLikeAbove_54 ?_
            refine J_isub hX dX7_isLikeAbove_55 ?_
            refine J_callVB hX _ dX7_isLikeAbove_56 cw_RX7_129 (m_X2_inRow hV hW (by omega) (by omega) (hP.yr hW _)) ⟨(show K (v + 1) = 2 from hV 1 (by decide)), by decide, by decide, rfl⟩ rfl (Nat.le_of_ble_eq_true rfl) (by decide) ⟨Nat.zero_le _, Nat.zero_le _⟩ ?_
            refine J_icmpb_eq hX 64 dX7_isLikeAbove_59 (by decide) (fun c59 => ?_) (fun c59 => ?_)
            · refine J_iinc hX dX7_isLikeAbove_64 rfl (by decide) ?_
              refine J_goto hX 22 dX7_isLikeAbove_67 (by decide) ?_
              exact J_locI (ih22 (k + 1) (by omega) (by omega) (lkn_t.mpr ⟨hi22, (inRM_iff hP).symm.trans (c59.trans (inRM_iff hP))⟩)) rfl
            · refine J_iconst hX dX7_isLikeAbove_62 ?_
              exact J_retF hX hQ dX7_isLikeAbove_63 (by first | (exfalso; omega) | (intro q9; first | (have := q9.1; omega) | (have := q9.2.1; omega)) | (exact ⟨by omega, by omega, by rw [show cnt (stg M (v + 2)) = k from (by unfold cnt; show (M (v + 2 + 1) 0).toNat = k; omega)]; exact hi22⟩) | (intro q9; have q8 := lkn_all q9.2.2 k (by unfold cnt; show k < (M (v + 2 + 1) 0).toNat; omega); exact c59 ((inRM_iff hP).trans (q8.trans (inRM_iff hP).symm)))) rfl rfl (Nat.zero_le _) (Nat.zero_le _)
      exact J_locI (HL22 0 (Nat.zero_le _) rfl) rfl
    · refine J_iconst hX dX7_isLikeAbove_18 ?_
      exact J_retF hX hQ dX7_isLikeAbove_19 (by first | (exfalso; omega) | (intro q9; first | (have := q9.1; omega) | (have := q9.2.1; omega)) | (exact ⟨by omega, by omega, by rw [show cnt (stg M (v + 2)) = k from (by unfold cnt; show (M (v + 2 + 1) 0).toNat = k; omega)]; exact hi22⟩) | (intro q9; have q8 := lkn_all q9.2.2 k (by unfold cnt; show k < (M (v + 2 + 1) 0).toNat; omega); exact c59 ((inRM_iff hP).trans (q8.trans (inRM_iff hP).symm)))) rfl rfl (Nat.zero_le _) (Nat.zero_le _)
-- X7_holdRow
set_option maxHeartbeats 4000000 in
set_option maxRecDepth 100000 in
theorem m_X7_holdRow {E : EE} {K : Nat → Nat} {M : MM} {v : Nat} {T r : Int} (hV : ViewK K v) (hW : WF T M (v + 2)) (hV2 : Vwt M v (stg M (v + 2))) (hH : HOK M v (stg M (v + 2))) (hr : 0 ≤ r ∧ r < M (v + 2) 4) : CnM E 4 yX7_holdRow cX7_holdRow 3 (Option.some FieldType.boolean) [.ref v, vI r] K M (fun r9 M2 => (∃ x : Int, r9 = some (vI x) ∧ (x = 0 ∨ x = 1) ∧ (x = 0 → r = M v 9 ∨ (r = M v 9 + 1 ∧ lka (stg M (v + 2)) r))) ∧ (∀ i, i ≠ v → i ≠ v + 25 → i ≠ v + 26 → M2 i = M i) ∧ (∀ j, j ≠ 9 → M2 v j = M v j) ∧ M2 v 9 = r ∧ Cel M2 v (stg M (v + 2)) r) := by
  have hW0 := hW
  obtain ⟨hT0, ⟨ws1, ws2, ws3, ws4, ws5, ws6, ws7, ws8, ws9, ws10, ws11, ws12, ws13, ws14⟩, hWn, hWc⟩ := hW0
  have hS0 := hW.S
  have hP := hV2.1.1
  have hw1 := wnd_rng hS0 1
  have hw0 := wnd_rng hS0 0
  have hd1 := hV2.1.2.1
  have hd0 := hV2.1.2.2
  have t1 := hV2.2.1
  have t2 := hV2.2.2
  have tr := ttl_rng hS0
  have hH9 : -1000 ≤ M v 9 ∧ M v 9 < 1000 := by rcases hH with h | h; omega; have : (stg M (v + 2)) 0 4 = M (v + 2) 4 := rfl; omega
  refine Cn_of RX7 (plainFor_of_name (by decide)) rfl (Nat.le_of_ble_eq_true rfl) (fun X hX hQ => ?_)
  refine J_iload_n hX dX7_holdRow_0 rfl ?_
  refine J_aload_n hX dX7_holdRow_1 rfl ?_
  refine J_geti hX fi_RX7_37 dX7_holdRow_2 (show K (v) = 7 from hV 0 (by decide)) (fun r2 => ?_)
  refine J_icmp_eq hX 26 dX7_holdRow_5 (by omega) (by omega) (by decide) (fun c5 => ?_) (fun c5 => ?_)
  · refine J_iconst hX dX7_holdRow_26 ?_
    refine J_goto hX 31 dX7_holdRow_27 (by decide) ?_
    refine J_istore_n hX dX7_holdRow_31 (by decide) ?_
    refine J_aload_n hX dX7_holdRow_32 rfl ?_
    refine J_iload_n hX dX7_holdRow_33 rfl ?_
    refine J_putA hX fw_RX7_37 dX7_holdRow_34 (show K (v) = 7 from hV 0 (by decide)) (by omega) (Or.inl rfl) (fun m34 hm34 => ?_)
    have fm34 : ∀ i, i ≠ v → m34 i = M i := fun i h => by rw [hm34]; exact mset_ne h
    have gm34 : ∀ i j, j ≠ 9 → m34 i j = M i j := fun i j h => by rw [hm34]; exact mset_nj h
    have vm34 := (congrFun (congrFun hm34 (v)) 9).trans mset_eq
    have sta : stg m34 (v + 2) = (stg M (v + 2)) := stg_eq (fun k hk => fm34 _ (by omega))
    have hWa := WF_fr sta hW
    have hVa : Vwt m34 v (stg m34 (v + 2)) := by rw [sta]; exact hV2.fr (fun i i1 i2 => fm34 i i1) (fun j h => gm34 _ j h)
    refine J_iload_n hX dX7_holdRow_37 rfl ?_
    refine J_if_ne hX 61 dX7_holdRow_38 (by decide) (by decide) (fun _ => ?_) (fun h => absurd h (by decide))
    refine J_iload_n hX dX7_holdRow_61 rfl ?_
    refine J_if_ne hX 69 dX7_holdRow_62 (by decide) (by decide) (fun _ => ?_) (fun h => absurd h (by decide))
    refine J_iconst hX dX7_holdRow_69 ?_
    exact J_zret hX hQ dX7_holdRow_70 (by decide) ⟨rfl, by first | exact ⟨⟨0, rfl, Or.inl rfl, fun _ => by first | exact Or.inl c5 | exact Or.inr ⟨c15, c23⟩⟩, fun i i1 i2 i3 => fm34 i i1, fun j h => gm34 _ j h, vm34, ho_same hH (fm34 _ (by omega)) (fm34 _ (by omega)) (by omega) (by first | exact Or.inl c5 | exact Or.inr ⟨c15, c23⟩)⟩ | exact ⟨⟨1, rfl, Or.inr rfl, fun h => absurd h (by decide)⟩, fun i i1 i2 i3 => by rw [fM58 i i3, fM48 i i2, fm34 i i1], fun j h => by rw [fM58 v (by omega), fM48 v (by omega)]; exact gm34 _ j h, by rw [fM58 v (by omega), fM48 v (by omega)]; exact vm34, fun c c0 c1 => ⟨by rw [fM58 (v + 25) (by omega), cM48 c c0 (by have z := congrFun (fm34 (v + 2) (by omega)) 3; have z2 : stg M (v + 2) 0 3 = M (v + 2) 3 := rfl; omega), sta], by rw [cM58 c c0 (by have z := congrFun ((fM48 (v + 2) (by omega)).trans (fm34 (v + 2) (by omega))) 3; have z2 : stg M (v + 2) 0 3 = M (v + 2) 3 := rfl; omega), stb]⟩⟩⟩ (Nat.zero_le _) (Nat.zero_le _)
  · refine J_iload_n hX dX7_holdRow_8 rfl ?_
    refine J_aload_n hX dX7_holdRow_9 rfl ?_
    refine J_geti hX fi_RX7_37 dX7_holdRow_10 (show K (v) = 7 from hV 0 (by decide)) (fun r10 => ?_)
    refine J_iconst hX dX7_holdRow_13 ?_
    refine J_iadd hX dX7_holdRow_14 ?_
    refine J_icmp_ne hX 30 dX7_holdRow_15 (by omega) (by omega) (by decide) (fun c15 => ?_) (fun c15 => ?_)
    · refine J_iconst hX dX7_holdRow_30 ?_
      refine J_istore_n hX dX7_holdRow_31 (by decide) ?_
      refine J_aload_n hX dX7_holdRow_32 rfl ?_
      refine J_iload_n hX dX7_holdRow_33 rfl ?_
      refine J_putA hX fw_RX7_37 dX7_holdRow_34 (show K (v) = 7 from hV 0 (by decide)) (by omega) (Or.inl rfl) (fun m34 hm34 => ?_)
      have fm34 : ∀ i, i ≠ v → m34 i = M i := fun i h => by rw [hm34]; exact mset_ne h
      have gm34 : ∀ i j, j ≠ 9 → m34 i j = M i j := fun i j h => by rw [hm34]; exact mset_nj h
      have vm34 := (congrFun (congrFun hm34 (v)) 9).trans mset_eq
      have sta : stg m34 (v + 2) = (stg M (v + 2)) := stg_eq (fun k hk => fm34 _ (by omega))
      have hWa := WF_fr sta hW
      have hVa : Vwt m34 v (stg m34 (v + 2)) := by rw [sta]; exact hV2.fr (fun i i1 i2 => fm34 i i1) (fun j h => gm34 _ j h)
      refine J_iload_n hX dX7_holdRow_37 rfl ?_
      refine J_if_ne hX 61 dX7_holdRow_38 (by decide) (by decide) (fun h => absurd (by decide) h) (fun _ => ?_)
      refine J_aload_n hX dX7_holdRow_41 rfl ?_
      refine J_iconst hX dX7_holdRow_42 ?_
      refine J_iload_n hX dX7_holdRow_43 rfl ?_
      refine J_aload_n hX dX7_holdRow_44 rfl ?_
      refine J_gr hX (v + 25) fr_RX7_30 dX7_holdRow_45 (show K (v) = 7 from hV 0 (by decide)) rfl ?_
      refine J_callVM hX _ dX7_holdRow_48 cw_RX7_195 (m_X7_paintRow hV hWa (show K (v + 25) = 1000 + 200 from hV 25 (by decide)) (Or.inl rfl) hVa (Or.inr rfl) (by omega)) ⟨(show K (v) = 7 from hV 0 (by decide)), by decide, by decide, rfl⟩ rfl (Nat.le_of_ble_eq_true rfl) (by decide) ⟨Nat.zero_le _, Nat.zero_le _⟩ (fun r9 M48 q48 => ?_)
      obtain ⟨rfl, fM48, cM48⟩ := q48
      have stb : stg M48 (v + 2) = (stg M (v + 2)) := (stg_eq (fun k hk => fM48 _ (by omega))).trans sta
      have hWb := WF_fr stb hW
      have hVb : Vwt M48 v (stg M48 (v + 2)) := by rw [stb, ← sta]; exact hVa.fr (fun i i1 i2 => fM48 i (by omega)) (fun j h => congrFun (fM48 v (by omega)) j)
      refine J_aload_n hX dX7_holdRow_51 rfl ?_
      refine J_iconst hX dX7_holdRow_52 ?_
      refine J_iload_n hX dX7_holdRow_53 rfl ?_
      refine J_aload_n hX dX7_holdRow_54 rfl ?_
      refine J_gr hX (v + 26) fr_RX7_34 dX7_holdRow_55 (show K (v) = 7 from hV 0 (by decide)) rfl ?_
      refine J_callVM hX _ dX7_holdRow_58 cw_RX7_195 (m_X7_paintRow hV hWb (show K (v + 26) = 1000 + 200 from hV 26 (by decide)) (Or.inr rfl) hVb (Or.inl rfl) (by omega)) ⟨(show K (v) = 7 from hV 0 (by decide)), by decide, by decide, rfl⟩ rfl (Nat.le_of_ble_eq_true rfl) (by decide) ⟨Nat.zero_le _, Nat.zero_le _⟩ (fun r9 M58 q58 => ?_)
      obtain ⟨rfl, fM58, cM58⟩ := q58
      refine J_iload_n hX dX7_holdRow_61 rfl ?_
      refine J_if_ne hX 69 dX7_holdRow_62 (by decide) (by decide) (fun h => absurd (by decide) h) (fun _ => ?_)
      refine J_iconst hX dX7_holdRow_65 ?_
      refine J_goto hX 70 dX7_holdRow_66 (by decide) ?_
      exact J_zret hX hQ dX7_holdRow_70 (by decide) ⟨rfl, by first | exact ⟨⟨0, rfl, Or.inl rfl, fun _ => by first | exact Or.inl c5 | exact Or.inr ⟨c15, c23⟩⟩, fun i i1 i2 i3 => fm34 i i1, fun j h => gm34 _ j h, vm34, ho_same hH (fm34 _ (by omega)) (fm34 _ (by omega)) (by omega) (by first | exact Or.inl c5 | exact Or.inr ⟨c15, c23⟩)⟩ | exact ⟨⟨1, rfl, Or.inr rfl, fun h => absurd h (by decide)⟩, fun i i1 i2 i3 => by rw [fM58 i i3, fM48 i i2, fm34 i i1], fun j h => by rw [fM58 v (by omega), fM48 v (by omega)]; exact gm34 _ j h, by rw [fM58 v (by omega), fM48 v (by omega)]; exact vm34, fun c c0 c1 => ⟨by rw [fM58 (v + 25) (by omega), cM48 c c0 (by have z := congrFun (fm34 (v + 2) (by omega)) 3; have z2 : stg M (v + 2) 0 3 = M (v + 2) 3 := rfl; omega), sta], by rw [cM58 c c0 (by have z := congrFun ((fM48 (v + 2) (by omega)).trans (fm34 (v + 2) (by omega))) 3; have z2 : stg M (v + 2) 0 3 = M (v + 2) 3 := rfl; omega), stb]⟩⟩⟩ (Nat.zero_le _) (Nat.zero_le _)
    · refine J_aload_n hX dX7_holdRow_18 rfl ?_
      refine J_iload_n hX dX7_holdRow_19 rfl ?_
      refine J_callVB hX _ dX7_holdRow_20 cw_RX7_192 (m_X7_isLikeAbove hV hW hV2 (by omega)) ⟨(show K (v) = 7 from hV 0 (by decide)), by decide, by decide, rfl⟩ rfl (Nat.le_of_ble_eq_true rfl) (by decide) ⟨Nat.zero_le _, Nat.zero_le _⟩ ?_
      refine J_ifb_eq hX 30 dX7_holdRow_23 (by decide) (fun c23 => ?_) (fun c23 => ?_)
      · refine J_iconst hX dX7_holdRow_30 ?_
        refine J_istore_n hX dX7_holdRow_31 (by decide) ?_
        refine J_aload_n hX dX7_holdRow_32 rfl ?_
        refine J_iload_n hX dX7_holdRow_33 rfl ?_
        refine J_putA hX fw_RX7_37 dX7_holdRow_34 (show K (v) = 7 from hV 0 (by decide)) (by omega) (Or.inl rfl) (fun m34 hm34 => ?_)
        have fm34 : ∀ i, i ≠ v → m34 i = M i := fun i h => by rw [hm34]; exact mset_ne h
        have gm34 : ∀ i j, j ≠ 9 → m34 i j = M i j := fun i j h => by rw [hm34]; exact mset_nj h
        have vm34 := (congrFun (congrFun hm34 (v)) 9).trans mset_eq
        have sta : stg m34 (v + 2) = (stg M (v + 2)) := stg_eq (fun k hk => fm34 _ (by omega))
        have hWa := WF_fr sta hW
        have hVa : Vwt m34 v (stg m34 (v + 2)) := by rw [sta]; exact hV2.fr (fun i i1 i2 => fm34 i i1) (fun j h => gm34 _ j h)
        refine J_iload_n hX dX7_holdRow_37 rfl ?_
        refine J_if_ne hX 61 dX7_holdRow_38 (by decide) (by decide) (fun h => absurd (by decide) h) (fun _ => ?_)
        refine J_aload_n hX dX7_holdRow_41 rfl ?_
        refine J_iconst hX dX7_holdRow_42 ?_
        refine J_iload_n hX dX7_holdRow_43 rfl ?_
        refine J_aload_n hX dX7_holdRow_44 rfl ?_
        refine J_gr hX (v + 25) fr_RX7_30 dX7_holdRow_45 (show K (v) = 7 from hV 0 (by decide)) rfl ?_
        refine J_callVM hX _ dX7_holdRow_48 cw_RX7_195 (m_X7_paintRow hV hWa (show K (v + 25) = 1000 + 200 from hV 25 (by decide)) (Or.inl rfl) hVa (Or.inr rfl) (by omega)) ⟨(show K (v) = 7 from hV 0 (by decide)), by decide, by decide, rfl⟩ rfl (Nat.le_of_ble_eq_true rfl) (by decide) ⟨Nat.zero_le _, Nat.zero_le _⟩ (fun r9 M48 q48 => ?_)
        obtain ⟨rfl, fM48, cM48⟩ := q48
        have stb : stg M48 (v + 2) = (stg M (v + 2)) := (stg_eq (fun k hk => fM48 _ (by omega))).trans sta
        have hWb := WF_fr stb hW
        have hVb : Vwt M48 v (stg M48 (v + 2)) := by rw [stb, ← sta]; exact hVa.fr (fun i i1 i2 => fM48 i (by omega)) (fun j h => congrFun (fM48 v (by omega)) j)
        refine J_aload_n hX dX7_holdRow_51 rfl ?_
        refine J_iconst hX dX7_holdRow_52 ?_
        refine J_iload_n hX dX7_holdRow_53 rfl ?_
        refine J_aload_n hX dX7_holdRow_54 rfl ?_
        refine J_gr hX (v + 26) fr_RX7_34 dX7_holdRow_55 (show K (v) = 7 from hV 0 (by decide)) rfl ?_
        refine J_callVM hX _ dX7_holdRow_58 cw_RX7_195 (m_X7_paintRow hV hWb (show K (v + 26) = 1000 + 200 from hV 26 (by decide)) (Or.inr rfl) hVb (Or.inl rfl) (by omega)) ⟨(show K (v) = 7 from hV 0 (by decide)), by decide, by decide, rfl⟩ rfl (Nat.le_of_ble_eq_true rfl) (by decide) ⟨Nat.zero_le _, Nat.zero_le _⟩ (fun r9 M58 q58 => ?_)
        obtain ⟨rfl, fM58, cM58⟩ := q58
        refine J_iload_n hX dX7_holdRow_61 rfl ?_
        refine J_if_ne hX 69 dX7_holdRow_62 (by decide) (by decide) (fun h => absurd (by decide) h) (fun _ => ?_)
        refine J_iconst hX dX7_holdRow_65 ?_
        refine J_goto hX 70 dX7_holdRow_66 (by decide) ?_
        exact J_zret hX hQ dX7_holdRow_70 (by decide) ⟨rfl, by first | exact ⟨⟨0, rfl, Or.inl rfl, fun _ => by first | exact Or.inl c5 | exact Or.inr ⟨c15, c23⟩⟩, fun i i1 i2 i3 => fm34 i i1, fun j h => gm34 _ j h, vm34, ho_same hH (fm34 _ (by omega)) (fm34 _ (by omega)) (by omega) (by first | exact Or.inl c5 | exact Or.inr ⟨c15, c23⟩)⟩ | exact ⟨⟨1, rfl, Or.inr rfl, fun h => absurd h (by decide)⟩, fun i i1 i2 i3 => by rw [fM58 i i3, fM48 i i2, fm34 i i1], fun j h => by rw [fM58 v (by omega), fM48 v (by omega)]; exact gm34 _ j h, by rw [fM58 v (by omega), fM48 v (by omega)]; exact vm34, fun c c0 c1 => ⟨by rw [fM58 (v + 25) (by omega), cM48 c c0 (by have z := congrFun (fm34 (v + 2) (by omega)) 3; have z2 : stg M (v + 2) 0 3 = M (v + 2) 3 := rfl; omega), sta], by rw [cM58 c c0 (by have z := congrFun ((fM48 (v + 2) (by omega)).trans (fm34 (v + 2) (by omega))) 3; have z2 : stg M (v + 2) 0 3 = M (v + 2) 3 := rfl; omega), stb]⟩⟩⟩ (Nat.zero_le _) (Nat.zero_le _)
      · refine J_iconst hX dX7_holdRow_26 ?_
        refine J_goto hX 31 dX7_holdRow_27 (by decide) ?_
        refine J_istore_n hX dX7_holdRow_31 (by decide) ?_
        refine J_aload_n hX dX7_holdRow_32 rfl ?_
        refine J_iload_n hX dX7_holdRow_33 rfl ?_
        refine J_putA hX fw_RX7_37 dX7_holdRow_34 (show K (v) = 7 from hV 0 (by decide)) (by omega) (Or.inl rfl) (fun m34 hm34 => ?_)
        have fm34 : ∀ i, i ≠ v → m34 i = M i := fun i h => by rw [hm34]; exact mset_ne h
        have gm34 : ∀ i j, j ≠ 9 → m34 i j = M i j := fun i j h => by rw [hm34]; exact mset_nj h
        have vm34 := (congrFun (congrFun hm34 (v)) 9).trans mset_eq
        have sta : stg m34 (v + 2) = (stg M (v + 2)) := stg_eq (fun k hk => fm34 _ (by omega))
        have hWa := WF_fr sta hW
        have hVa : Vwt m34 v (stg m34 (v + 2)) := by rw [sta]; exact hV2.fr (fun i i1 i2 => fm34 i i1) (fun j h => gm34 _ j h)
        refine J_iload_n hX dX7_holdRow_37 rfl ?_
        refine J_if_ne hX 61 dX7_holdRow_38 (by decide) (by decide) (fun _ => ?_) (fun h => absurd h (by decide))
        refine J_iload_n hX dX7_holdRow_61 rfl ?_
        refine J_if_ne hX 69 dX7_holdRow_62 (by decide) (by decide) (fun _ => ?_) (fun h => absurd h (by decide))
        refine J_iconst hX dX7_holdRow_69 ?_
        exact J_zret hX hQ dX7_holdRow_70 (by decide) ⟨rfl, by first | exact ⟨⟨0, rfl, Or.inl rfl, fun _ => by first | exact Or.inl c5 | exact Or.inr ⟨c15, c23⟩⟩, fun i i1 i2 i3 => fm34 i i1, fun j h => gm34 _ j h, vm34, ho_same hH (fm34 _ (by omega)) (fm34 _ (by omega)) (by omega) (by first | exact Or.inl c5 | exact Or.inr ⟨c15, c23⟩)⟩ | exact ⟨⟨1, rfl, Or.inr rfl, fun h => absurd h (by decide)⟩, fun i i1 i2 i3 => by rw [fM58 i i3, fM48 i i2, fm34 i i1], fun j h => by rw [fM58 v (by omega), fM48 v (by omega)]; exact gm34 _ j h, by rw [fM58 v (by omega), fM48 v (by omega)]; exact vm34, fun c c0 c1 => ⟨by rw [fM58 (v + 25) (by omega), cM48 c c0 (by have z := congrFun (fm34 (v + 2) (by omega)) 3; have z2 : stg M (v + 2) 0 3 = M (v + 2) 3 := rfl; omega), sta], by rw [cM58 c c0 (by have z := congrFun ((fM48 (v + 2) (by omega)).trans (fm34 (v + 2) (by omega))) 3; have z2 : stg M (v + 2) 0 3 = M (v + 2) 3 := rfl; omega), stb]⟩⟩⟩ (Nat.zero_le _) (Nat.zero_le _)
