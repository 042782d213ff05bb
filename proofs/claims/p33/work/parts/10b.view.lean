-- X7_crosses
set_option maxHeartbeats 4000000 in
set_option maxRecDepth 100000 in
theorem m_X7_crosses {E : EE} {K : Nat → Nat} {M : MM} {f w e : Int} (hf : -1000000 ≤ f ∧ f ≤ 1000000) (hw : -1000000 ≤ w ∧ w ≤ 1000000) (he : i32 e) : CnB E 0 yX7_crosses cX7_crosses 3 [vI f, vI w, vI e] K M (crs f w e) := by
  refine Cn_of RX7 (plainFor_of_name (by decide)) rfl (Nat.le_of_ble_eq_true rfl) (fun X hX hQ => ?_)
  refine J_iload_n hX dX7_crosses_0 rfl ?_
  refine J_iload_n hX dX7_crosses_1 rfl ?_
  refine J_icmp_ge hX 16 dX7_crosses_2 (by omega) (by omega) (by decide) (fun c2 => ?_) (fun c2 => ?_)
  · refine J_iconst hX dX7_crosses_16 ?_
    exact J_retF hX hQ dX7_crosses_17 (by omega) rfl rfl (Nat.zero_le _) (Nat.zero_le _)
  · refine J_iload_n hX dX7_crosses_5 rfl ?_
    refine J_iload_n hX dX7_crosses_6 rfl ?_
    refine J_iadd hX dX7_crosses_7 ?_
    refine J_iload_n hX dX7_crosses_8 rfl ?_
    refine J_icmp_le hX 16 dX7_crosses_9 (by omega) (by omega) (by decide) (fun c9 => ?_) (fun c9 => ?_)
    · refine J_iconst hX dX7_crosses_16 ?_
      exact J_retF hX hQ dX7_crosses_17 (by omega) rfl rfl (Nat.zero_le _) (Nat.zero_le _)
    · refine J_iconst hX dX7_crosses_12 ?_
      refine J_goto hX 17 dX7_crosses_13 (by decide) ?_
      exact J_retT hX hQ dX7_crosses_17 (by omega) rfl rfl (Nat.zero_le _) (Nat.zero_le _)
-- X7_isCut
set_option maxHeartbeats 4000000 in
set_option maxRecDepth 100000 in
theorem m_X7_isCut {E : EE} {K : Nat → Nat} {M : MM} {v : Nat} {T l n e : Int} (hV : ViewK K v) (hW : WF T M (v + 2)) (hP : Pld M v (stg M (v + 2))) (hl : l = 0 ∨ l = 1) (hn : i32 n) (he : 0 ≤ e ∧ e ≤ 20) : CnB E 2 yX7_isCut cX7_isCut 7 [.ref v, vI l, vI n, vI e] K M (cutM M v l e n) := by
  have hW0 := hW
  obtain ⟨hT0, ⟨ws1, ws2, ws3, ws4, ws5, ws6, ws7, ws8, ws9, ws10, ws11, ws12, ws13, ws14⟩, hWn, hWc⟩ := hW0
  have hS0 := hW.S
  refine Cn_of RX7 (plainFor_of_name (by decide)) rfl (Nat.le_of_ble_eq_true rfl) (fun X hX hQ => ?_)
  refine J_aload_n hX dX7_isCut_0 rfl ?_
  refine J_gr hX (v + 1) fr_RX7_12 dX7_isCut_1 (show K (v) = 7 from hV 0 (by decide)) rfl ?_
  refine J_iload_n hX dX7_isCut_4 rfl ?_
  refine J_callVB hX _ dX7_isCut_5 cw_RX7_73 (m_X2_inFrame hV hW (by omega) (hP.yr hW _)) ⟨(show K (v + 1) = 2 from hV 1 (by decide)), by decide, by decide, rfl⟩ rfl (Nat.le_of_ble_eq_true rfl) (by decide) ⟨Nat.zero_le _, Nat.zero_le _⟩ ?_
  refine J_ifb_ne hX 13 dX7_isCut_8 (by decide) (fun c8 => ?_) (fun c8 => ?_)
  · have hb := c8.1
    have y1 := hP.cl hb
    have y2 := hP.cr hb
    have y3 := col_rng hS0 hb 1
    have y4 := col_rng hS0 hb 0
    have y5 := hWn n (by omega) (by omega)
    refine J_aload_n hX dX7_isCut_13 rfl ?_
    refine J_gr hX (v + 1) fr_RX7_12 dX7_isCut_14 (show K (v) = 7 from hV 0 (by decide)) rfl ?_
    refine J_gr hX (v + 22) fr_RX7_77 dX7_isCut_17 (show K (v + 1) = 2 from hV 1 (by decide)) rfl ?_
    refine J_iload_n hX dX7_isCut_20 rfl ?_
    refine J_iald hX dX7_isCut_21 (show K (v + 22) = 1000 + 20 from hV 22 (by decide)) ⟨by omega, by omega⟩ (by decide) (fun r21 => ?_)
    refine J_istore hX dX7_isCut_22 (by decide) ?_
    refine J_aload_n hX dX7_isCut_24 rfl ?_
    refine J_gr hX (v + 1) fr_RX7_12 dX7_isCut_25 (show K (v) = 7 from hV 0 (by decide)) rfl ?_
    refine J_gr hX (v + 23) fr_RX7_80 dX7_isCut_28 (show K (v + 1) = 2 from hV 1 (by decide)) rfl ?_
    refine J_iload_n hX dX7_isCut_31 rfl ?_
    refine J_iald hX dX7_isCut_32 (show K (v + 23) = 1000 + 20 from hV 23 (by decide)) ⟨by omega, by omega⟩ (by decide) (fun r32 => ?_)
    refine J_istore hX dX7_isCut_33 (by decide) ?_
    refine J_aload_n hX dX7_isCut_35 rfl ?_
    refine J_gr hX (v + 2 + 1) fr_RX7_29 dX7_isCut_36 (show K (v) = 7 from hV 0 (by decide)) rfl ?_
    refine J_gr hX (v + 2 + 7) fr_RX7_83 dX7_isCut_39 (show K (v + 2 + 1) = 6 from (hV).stage 1 (by decide)) rfl ?_
    refine J_iload_n hX dX7_isCut_42 rfl ?_
    refine J_iald hX dX7_isCut_43 (show K (v + 2 + 7) = 1000 + 20 from (hV).stage 7 (by decide)) ⟨by omega, by omega⟩ (by decide) (fun r43 => ?_)
    refine J_istore hX dX7_isCut_44 (by decide) ?_
    refine J_iload_n hX dX7_isCut_46 rfl ?_
    refine J_if_eq hX 78 dX7_isCut_47 (by omega) (by decide) (fun c47 => ?_) (fun c47 => ?_)
    · refine J_iload hX dX7_isCut_78 rfl ?_
      refine J_iload hX dX7_isCut_80 rfl ?_
      refine J_aload_n hX dX7_isCut_82 rfl ?_
      refine J_gr hX (v + 2) fr_RX7_22 dX7_isCut_83 (show K (v) = 7 from hV 0 (by decide)) rfl ?_
      refine J_geti hX fi_RX7_90 dX7_isCut_86 (show K (v + 2) = 5 from (hV).stage 0 (by decide)) (fun r86 => ?_)
      refine J_callSB hX _ dX7_isCut_89 cw_RX7_86 (m_X7_crosses (by omega) (by omega) (by omega)) rfl (Nat.le_of_ble_eq_true rfl) (by decide) ⟨Nat.zero_le _, Nat.zero_le _⟩ ?_
      refine J_ifb_ne hX 114 dX7_isCut_92 (by decide) (fun c92 => ?_) (fun c92 => ?_)
      · refine J_iconst hX dX7_isCut_114 ?_
        refine J_goto hX 119 dX7_isCut_115 (by decide) ?_
        exact J_retT hX hQ dX7_isCut_119 (by first | (intro q9; exact absurd q9.1 (by assumption)) | (refine ⟨by assumption, ?_⟩; (first | rw [if_pos (by assumption)] | rw [if_neg (by assumption)]); (first | exact Or.inl (by assumption) | exact Or.inr (by assumption))) | (intro q9; have q8 := q9.2; (first | rw [if_pos (by assumption)] at q8 | rw [if_neg (by assumption)] at q8); rcases q8 with q8 | q8; exact absurd q8 (by assumption); exact absurd q8 (by assumption))) rfl rfl (Nat.zero_le _) (Nat.zero_le _)
      · refine J_iload hX dX7_isCut_95 rfl ?_
        refine J_iload hX dX7_isCut_97 rfl ?_
        refine J_aload_n hX dX7_isCut_99 rfl ?_
        refine J_gr hX (v + 2) fr_RX7_22 dX7_isCut_100 (show K (v) = 7 from hV 0 (by decide)) rfl ?_
        refine J_geti hX fi_RX7_90 dX7_isCut_103 (show K (v + 2) = 5 from (hV).stage 0 (by decide)) (fun r103 => ?_)
        refine J_iload_n hX dX7_isCut_106 rfl ?_
        refine J_isub hX dX7_isCut_107 ?_
        refine J_callSB hX _ dX7_isCut_108 cw_RX7_86 (m_X7_crosses (by omega) (by omega) (by omega)) rfl (Nat.le_of_ble_eq_true rfl) (by decide) ⟨Nat.zero_le _, Nat.zero_le _⟩ ?_
        refine J_ifb_eq hX 118 dX7_isCut_111 (by decide) (fun c111 => ?_) (fun c111 => ?_)
        · refine J_iconst hX dX7_isCut_118 ?_
          exact J_retF hX hQ dX7_isCut_119 (by first | (intro q9; exact absurd q9.1 (by assumption)) | (refine ⟨by assumption, ?_⟩; (first | rw [if_pos (by assumption)] | rw [if_neg (by assumption)]); (first | exact Or.inl (by assumption) | exact Or.inr (by assumption))) | (intro q9; have q8 := q9.2; (first | rw [if_pos (by assumption)] at q8 | rw [if_neg (by assumption)] at q8); rcases q8 with q8 | q8; exact absurd q8 (by assumption); exact absurd q8 (by assumption))) rfl rfl (Nat.zero_le _) (Nat.zero_le _)
        · refine J_iconst hX dX7_isCut_114 ?_
          refine J_goto hX 119 dX7_isCut_115 (by decide) ?_
          exact J_retT hX hQ dX7_isCut_119 (by first | (intro q9; exact absurd q9.1 (by assumption)) | (refine ⟨by assumption, ?_⟩; (first | rw [if_pos (by assumption)] | rw [if_neg (by assumption)]); (first | exact Or.inl (by assumption) | exact Or.inr (by assumption))) | (intro q9; have q8 := q9.2; (first | rw [if_pos (by assumption)] at q8 | rw [if_neg (by assumption)] at q8); rcases q8 with q8 | q8; exact absurd q8 (by assumption); exact absurd q8 (by assumption))) rfl rfl (Nat.zero_le _) (Nat.zero_le _)
    · refine J_iload hX dX7_isCut_50 rfl ?_
      refine J_iload hX dX7_isCut_52 rfl ?_
      refine J_iload_n hX dX7_isCut_54 rfl ?_
      refine J_callSB hX _ dX7_isCut_55 cw_RX7_86 (m_X7_crosses (by omega) (by omega) (by omega)) rfl (Nat.le_of_ble_eq_true rfl) (by decide) ⟨Nat.zero_le _, Nat.zero_le _⟩ ?_
      refine J_ifb_ne hX 72 dX7_isCut_58 (by decide) (fun c58 => ?_) (fun c58 => ?_)
      · refine J_iconst hX dX7_isCut_72 ?_
        refine J_goto hX 77 dX7_isCut_73 (by decide) ?_
        exact J_retT hX hQ dX7_isCut_77 (by first | (intro q9; exact absurd q9.1 (by assumption)) | (refine ⟨by assumption, ?_⟩; (first | rw [if_pos (by assumption)] | rw [if_neg (by assumption)]); (first | exact Or.inl (by assumption) | exact Or.inr (by assumption))) | (intro q9; have q8 := q9.2; (first | rw [if_pos (by assumption)] at q8 | rw [if_neg (by assumption)] at q8); rcases q8 with q8 | q8; exact absurd q8 (by assumption); exact absurd q8 (by assumption))) rfl rfl (Nat.zero_le _) (Nat.zero_le _)
      · refine J_iload hX dX7_isCut_61 rfl ?_
        refine J_iload hX dX7_isCut_63 rfl ?_
        refine J_iconst hX dX7_isCut_65 ?_
        refine J_callSB hX _ dX7_isCut_66 cw_RX7_86 (m_X7_crosses (by omega) (by omega) (by omega)) rfl (Nat.le_of_ble_eq_true rfl) (by decide) ⟨Nat.zero_le _, Nat.zero_le _⟩ ?_
        refine J_ifb_eq hX 76 dX7_isCut_69 (by decide) (fun c69 => ?_) (fun c69 => ?_)
        · refine J_iconst hX dX7_isCut_76 ?_
          exact J_retF hX hQ dX7_isCut_77 (by first | (intro q9; exact absurd q9.1 (by assumption)) | (refine ⟨by assumption, ?_⟩; (first | rw [if_pos (by assumption)] | rw [if_neg (by assumption)]); (first | exact Or.inl (by assumption) | exact Or.inr (by assumption))) | (intro q9; have q8 := q9.2; (first | rw [if_pos (by assumption)] at q8 | rw [if_neg (by assumption)] at q8); rcases q8 with q8 | q8; exact absurd q8 (by assumption); exact absurd q8 (by assumption))) rfl rfl (Nat.zero_le _) (Nat.zero_le _)
        · refine J_iconst hX dX7_isCut_72 ?_
          refine J_goto hX 77 dX7_isCut_73 (by decide) ?_
          exact J_retT hX hQ dX7_isCut_77 (by first | (intro q9; exact absurd q9.1 (by assumption)) | (refine ⟨by assumption, ?_⟩; (first | rw [if_pos (by assumption)] | rw [if_neg (by assumption)]); (first | exact Or.inl (by assumption) | exact Or.inr (by assumption))) | (intro q9; have q8 := q9.2; (first | rw [if_pos (by assumption)] at q8 | rw [if_neg (by assumption)] at q8); rcases q8 with q8 | q8; exact absurd q8 (by assumption); exact absurd q8 (by assumption))) rfl rfl (Nat.zero_le _) (Nat.zero_le _)
  · refine J_iconst hX dX7_isCut_11 ?_
    exact J_retF hX hQ dX7_isCut_12 (by first | (intro q9; exact absurd q9.1 (by assumption)) | (refine ⟨by assumption, ?_⟩; (first | rw [if_pos (by assumption)] | rw [if_neg (by assumption)]); (first | exact Or.inl (by assumption) | exact Or.inr (by assumption))) | (intro q9; have q8 := q9.2; (first | rw [if_pos (by assumption)] at q8 | rw [if_neg (by assumption)] at q8); rcases q8 with q8 | q8; exact absurd q8 (by assumption); exact absurd q8 (by assumption))) rfl rfl (Nat.zero_le _) (Nat.zero_le _)
-- X7_greatestCut
set_option maxHeartbeats 4000000 in
set_option maxRecDepth 100000 in
theorem m_X7_greatestCut {E : EE} {K : Nat → Nat} {M : MM} {v : Nat} {T l e : Int} (hV : ViewK K v) (hW : WF T M (v + 2)) (hP : Pld M v (stg M (v + 2))) (hl : l = 0 ∨ l = 1) (he : 0 ≤ e ∧ e ≤ 20) : CnI E 3 yX7_greatestCut cX7_greatestCut 5 (Option.some FieldType.int) [.ref v, vI l, vI e] K M (gct (stg M (v + 2)) l e) := by
  have hW0 := hW
  obtain ⟨hT0, ⟨ws1, ws2, ws3, ws4, ws5, ws6, ws7, ws8, ws9, ws10, ws11, ws12, ws13, ws14⟩, hWn, hWc⟩ := hW0
  have hS0 := hW.S
  refine ⟨Cn_of RX7 (plainFor_of_name (by decide)) rfl (Nat.le_of_ble_eq_true rfl) (fun X hX hQ => ?_), by have := gct_rng hW.S (l := l) he; omega⟩
  refine J_iload_n hX dX7_greatestCut_0 rfl ?_
  refine J_istore_n hX dX7_greatestCut_1 (by decide) ?_
  refine J_iconst hX dX7_greatestCut_2 ?_
  refine J_istore hX dX7_greatestCut_3 (by decide) ?_
  have HL5 : ∀ k : Nat, k ≤ (M (v + 2 + 1) 0).toNat → ∀ (g : Int), (g = gcut (stg M (v + 2)) l e k) → J E X 5 [(0, .ref v), (1, vI l), (2, vI e), (3, vI g), (4, vI (k : Int))] [] K M 0 0 := by
    refine up_ind ((M (v + 2 + 1) 0).toNat) (fun k hk5 ih5 => ?_)
    intro g  hi5
    have gr := gcut_rng hS0 (l := l) he k
    refine J_iload hX dX7_greatestCut_5 rfl ?_
    refine J_aload_n hX dX7_greatestCut_7 rfl ?_
    refine J_gr hX (v + 2 + 1) fr_RX7_29 dX7_greatestCut_8 (show K (v) = 7 from hV 0 (by decide)) rfl ?_
    refine J_geti hX fi_RX7_61 dX7_greatestCut_11 (show K (v + 2 + 1) = 6 from (hV).stage 1 (by decide)) (fun r11 => ?_)
    refine J_icmp_ge hX 66 dX7_greatestCut_14 (by omega) (by omega) (by decide) (fun c14 => ?_) (fun c14 => ?_)
    · refine J_iload_n hX dX7_greatestCut_66 rfl ?_
      exact J_retI hX hQ dX7_greatestCut_67 (by first | (exfalso; omega) | (unfold gct; rw [hi5, show cnt (stg M (v + 2)) = k from (by unfold cnt; show (M (v + 2 + 1) 0).toNat = k; omega)])) rfl rfl (Nat.zero_le _) (Nat.zero_le _)
    · refine J_iload hX dX7_greatestCut_17 rfl ?_
      refine J_bipush hX dX7_greatestCut_19 rfl ?_
      refine J_icmp_ge hX 66 dX7_greatestCut_21 (by omega) (by decide) (by decide) (fun c21 => ?_) (fun c21 => ?_)
      · refine J_iload_n hX dX7_greatestCut_66 rfl ?_
        exact J_retI hX hQ dX7_greatestCut_67 (by first | (exfalso; omega) | (unfold gct; rw [hi5, show cnt (stg M (v + 2)) = k from (by unfold cnt; show (M (v + 2 + 1) 0).toNat = k; omega)])) rfl rfl (Nat.zero_le _) (Nat.zero_le _)
      · refine J_aload_n hX dX7_greatestCut_24 rfl ?_
        refine J_gr hX (v + 1) fr_RX7_12 dX7_greatestCut_25 (show K (v) = 7 from hV 0 (by decide)) rfl ?_
        refine J_gr hX (v + 21) fr_RX7_66 dX7_greatestCut_28 (show K (v + 1) = 2 from hV 1 (by decide)) rfl ?_
        refine J_iload hX dX7_greatestCut_31 rfl ?_
        refine J_iald hX dX7_greatestCut_33 (show K (v + 21) = 1000 + 20 from hV 21 (by decide)) ⟨by omega, by omega⟩ (by decide) (fun r33 => ?_)
        refine J_iload_n hX dX7_greatestCut_34 rfl ?_
        refine J_icmp_le hX 60 dX7_greatestCut_35 (by omega) (by omega) (by decide) (fun c35 => ?_) (fun c35 => ?_)
        · refine J_iinc hX dX7_greatestCut_60 rfl (by decide) ?_
          refine J_goto hX 5 dX7_greatestCut_63 (by decide) ?_
          exact J_locI (ih5 (k + 1) (by omega) (by omega) _ (by first | (rw [gcut_t ⟨by have z := hP.sh c46.1.1; omega, (cutM_iff hP).mp c46⟩]; exact hP.sh c46.1.1) | (rw [gcut_f (fun q => c46 ((cutM_iff hP).mpr q.2))]; exact hi5) | (rw [gcut_f (fun q => by have z := hP.sh q.2.1.1; omega)]; exact hi5))) rfl
        · refine J_aload_n hX dX7_greatestCut_38 rfl ?_
          refine J_iload_n hX dX7_greatestCut_39 rfl ?_
          refine J_iload hX dX7_greatestCut_40 rfl ?_
          refine J_iload_n hX dX7_greatestCut_42 rfl ?_
          refine J_callVB hX _ dX7_greatestCut_43 cw_RX7_69 (m_X7_isCut hV hW hP hl (by omega) (by omega)) ⟨(show K (v) = 7 from hV 0 (by decide)), by decide, by decide, rfl⟩ rfl (Nat.le_of_ble_eq_true rfl) (by decide) ⟨Nat.zero_le _, Nat.zero_le _⟩ ?_
          refine J_ifb_eq hX 60 dX7_greatestCut_46 (by decide) (fun c46 => ?_) (fun c46 => ?_)
          · refine J_iinc hX dX7_greatestCut_60 rfl (by decide) ?_
            refine J_goto hX 5 dX7_greatestCut_63 (by decide) ?_
            exact J_locI (ih5 (k + 1) (by omega) (by omega) _ (by first | (rw [gcut_t ⟨by have z := hP.sh c46.1.1; omega, (cutM_iff hP).mp c46⟩]; exact hP.sh c46.1.1) | (rw [gcut_f (fun q => c46 ((cutM_iff hP).mpr q.2))]; exact hi5) | (rw [gcut_f (fun q => by have z := hP.sh q.2.1.1; omega)]; exact hi5))) rfl
          · refine J_aload_n hX dX7_greatestCut_49 rfl ?_
            refine J_gr hX (v + 1) fr_RX7_12 dX7_greatestCut_50 (show K (v) = 7 from hV 0 (by decide)) rfl ?_
            refine J_gr hX (v + 21) fr_RX7_66 dX7_greatestCut_53 (show K (v + 1) = 2 from hV 1 (by decide)) rfl ?_
            refine J_iload hX dX7_greatestCut_56 rfl ?_
            refine J_iald hX dX7_greatestCut_58 (show K (v + 21) = 1000 + 20 from hV 21 (by decide)) ⟨by omega, by omega⟩ (by decide) (fun r58 => ?_)
            refine J_istore_n hX dX7_greatestCut_59 (by decide) ?_
            refine J_iinc hX dX7_greatestCut_60 rfl (by decide) ?_
            refine J_goto hX 5 dX7_greatestCut_63 (by decide) ?_
            exact J_locI (ih5 (k + 1) (by omega) (by omega) _ (by first | (rw [gcut_t ⟨by have z := hP.sh c46.1.1; omega, (cutM_iff hP).mp c46⟩]; exact hP.sh c46.1.1) | (rw [gcut_f (fun q => c46 ((cutM_iff hP).mpr q.2))]; exact hi5) | (rw [gcut_f (fun q => by have z := hP.sh q.2.1.1; omega)]; exact hi5))) rfl
  exact J_locI (HL5 0 (Nat.zero_le _) _ rfl) rfl
-- X7_windowShift
set_option maxHeartbeats 4000000 in
set_option maxRecDepth 100000 in
theorem m_X7_windowShift {E : EE} {K : Nat → Nat} {M : MM} {v : Nat} {T l : Int} (hV : ViewK K v) (hW : WF T M (v + 2)) (hP : Pld M v (stg M (v + 2))) (hl : l = 0 ∨ l = 1) : CnI E 4 yX7_windowShift cX7_windowShift 5 (Option.some FieldType.int) [.ref v, vI l] K M (wnd (stg M (v + 2)) l) := by
  have hW0 := hW
  obtain ⟨hT0, ⟨ws1, ws2, ws3, ws4, ws5, ws6, ws7, ws8, ws9, ws10, ws11, ws12, ws13, ws14⟩, hWn, hWc⟩ := hW0
  have hS0 := hW.S
  refine ⟨Cn_of RX7 (plainFor_of_name (by decide)) rfl (Nat.le_of_ble_eq_true rfl) (fun X hX hQ => ?_), by have := wnd_rng hW.S l; omega⟩
  refine J_iconst hX dX7_windowShift_0 ?_
  refine J_istore_n hX dX7_windowShift_1 (by decide) ?_
  refine J_iconst hX dX7_windowShift_2 ?_
  refine J_istore_n hX dX7_windowShift_3 (by decide) ?_
  have HL4 : ∀ k : Nat, k ≤ 21 → ∀ (e : Int), (wndF (stg M (v + 2)) l 21 0 = wndF (stg M (v + 2)) l (21 - k) e ∧ (0 ≤ e ∧ e ≤ 20)) → J E X 4 [(0, .ref v), (1, vI l), (2, vI e), (3, vI (k : Int))] [] K M 0 0 := by
    refine up_ind (21) (fun k hk4 ih4 => ?_)
    intro e  hi4
    have gr := gct_rng hS0 (l := l) hi4.2
    refine J_iload_n hX dX7_windowShift_4 rfl ?_
    refine J_bipush hX dX7_windowShift_5 rfl ?_
    refine J_icmp_gt hX 35 dX7_windowShift_7 (by omega) (by decide) (by decide) (fun c7 => ?_) (fun c7 => ?_)
    · refine J_iload_n hX dX7_windowShift_35 rfl ?_
      exact J_retI hX hQ dX7_windowShift_36 (by first | (unfold wnd; rw [hi4.1, show 21 - k = 0 by omega]; rfl) | (unfold wnd; rw [hi4.1]; exact (wndF_t (r1 := 20 - k) (by omega) (by omega)).symm)) rfl rfl (Nat.zero_le _) (Nat.zero_le _)
    · refine J_aload_n hX dX7_windowShift_10 rfl ?_
      refine J_iload_n hX dX7_windowShift_11 rfl ?_
      refine J_iload_n hX dX7_windowShift_12 rfl ?_
      refine J_callVI hX _ dX7_windowShift_13 cw_RX7_57 (m_X7_greatestCut hV hW hP hl (by omega)) ⟨(show K (v) = 7 from hV 0 (by decide)), by decide, by decide, rfl⟩ rfl (Nat.le_of_ble_eq_true rfl) (by decide) ⟨Nat.zero_le _, Nat.zero_le _⟩ (fun r13 => ?_)
      refine J_istore hX dX7_windowShift_16 (by decide) ?_
      refine J_iload hX dX7_windowShift_18 rfl ?_
      refine J_iload_n hX dX7_windowShift_20 rfl ?_
      refine J_icmp_ne hX 26 dX7_windowShift_21 (by omega) (by omega) (by decide) (fun c21 => ?_) (fun c21 => ?_)
      · refine J_iload hX dX7_windowShift_26 rfl ?_
        refine J_istore_n hX dX7_windowShift_28 (by decide) ?_
        refine J_iinc hX dX7_windowShift_29 rfl (by decide) ?_
        refine J_goto hX 4 dX7_windowShift_32 (by decide) ?_
        exact J_locI (ih4 (k + 1) (by omega) (by omega) _ ⟨by rw [hi4.1, wndF_f (r1 := 20 - k) (by omega) (by omega), show 20 - k = 21 - (k + 1) by omega], by omega, by omega⟩) rfl
      · refine J_iload_n hX dX7_windowShift_24 rfl ?_
        exact J_retI hX hQ dX7_windowShift_25 (by first | (unfold wnd; rw [hi4.1, show 21 - k = 0 by omega]; rfl) | (unfold wnd; rw [hi4.1]; exact (wndF_t (r1 := 20 - k) (by omega) (by omega)).symm)) rfl rfl (Nat.zero_le _) (Nat.zero_le _)
  exact J_locI (HL4 0 (Nat.zero_le _) 0 ⟨rfl, by omega, by omega⟩) rfl
-- X7_firstOpen
set_option maxHeartbeats 4000000 in
set_option maxRecDepth 100000 in
theorem m_X7_firstOpen {E : EE} {K : Nat → Nat} {M : MM} {v : Nat} {l : Int} (hV : ViewK K v) (hl : l = 0 ∨ l = 1) (hr : i32 (M v 3)) : CnI E 0 yX7_firstOpen cX7_firstOpen 2 (Option.some FieldType.int) [.ref v, vI l] K M (if l = 0 then 0 else M v 3) := by
  refine ⟨Cn_of RX7 (plainFor_of_name (by decide)) rfl (Nat.le_of_ble_eq_true rfl) (fun X hX hQ => ?_), by split <;> omega⟩
  refine J_iload_n hX dX7_firstOpen_0 rfl ?_
  refine J_if_eq hX 11 dX7_firstOpen_1 (by omega) (by decide) (fun c1 => ?_) (fun c1 => ?_)
  · refine J_iconst hX dX7_firstOpen_11 ?_
    exact J_retI hX hQ dX7_firstOpen_12 (by split <;> omega) rfl rfl (Nat.zero_le _) (Nat.zero_le _)
  · refine J_aload_n hX dX7_firstOpen_4 rfl ?_
    refine J_geti hX fi_RX7_48 dX7_firstOpen_5 (show K (v) = 7 from hV 0 (by decide)) (fun r5 => ?_)
    refine J_goto hX 12 dX7_firstOpen_8 (by decide) ?_
    exact J_retI hX hQ dX7_firstOpen_12 (by split <;> omega) rfl rfl (Nat.zero_le _) (Nat.zero_le _)
-- X7_endOfOpen
set_option maxHeartbeats 4000000 in
set_option maxRecDepth 100000 in
theorem m_X7_endOfOpen {E : EE} {K : Nat → Nat} {M : MM} {v : Nat} {T l : Int} (hV : ViewK K v) (hW : WF T M (v + 2)) (hl : l = 0 ∨ l = 1) (hr : 0 ≤ M v 4 ∧ M v 4 ≤ 20) : CnI E 0 yX7_endOfOpen cX7_endOfOpen 2 (Option.some FieldType.int) [.ref v, vI l] K M (if l = 0 then M (v + 2) 3 - M v 4 else M (v + 2) 3) := by
  have hW0 := hW
  obtain ⟨hT0, ⟨ws1, ws2, ws3, ws4, ws5, ws6, ws7, ws8, ws9, ws10, ws11, ws12, ws13, ws14⟩, hWn, hWc⟩ := hW0
  have hS0 := hW.S
  refine ⟨Cn_of RX7 (plainFor_of_name (by decide)) rfl (Nat.le_of_ble_eq_true rfl) (fun X hX hQ => ?_), by have hs := hW.2.1; unfold WFs at hs; split <;> omega⟩
  refine J_iload_n hX dX7_endOfOpen_0 rfl ?_
  refine J_if_eq hX 14 dX7_endOfOpen_1 (by omega) (by decide) (fun c1 => ?_) (fun c1 => ?_)
  · refine J_aload_n hX dX7_endOfOpen_14 rfl ?_
    refine J_gr hX (v + 2) fr_RX7_22 dX7_endOfOpen_15 (show K (v) = 7 from hV 0 (by decide)) rfl ?_
    refine J_geti hX fi_RX7_90 dX7_endOfOpen_18 (show K (v + 2) = 5 from (hV).stage 0 (by decide)) (fun r18 => ?_)
    refine J_aload_n hX dX7_endOfOpen_21 rfl ?_
    refine J_geti hX fi_RX7_51 dX7_endOfOpen_22 (show K (v) = 7 from hV 0 (by decide)) (fun r22 => ?_)
    refine J_isub hX dX7_endOfOpen_25 ?_
    exact J_retI hX hQ dX7_endOfOpen_26 (by split <;> omega) rfl rfl (Nat.zero_le _) (Nat.zero_le _)
  · refine J_aload_n hX dX7_endOfOpen_4 rfl ?_
    refine J_gr hX (v + 2) fr_RX7_22 dX7_endOfOpen_5 (show K (v) = 7 from hV 0 (by decide)) rfl ?_
    refine J_geti hX fi_RX7_90 dX7_endOfOpen_8 (show K (v + 2) = 5 from (hV).stage 0 (by decide)) (fun r8 => ?_)
    refine J_goto hX 26 dX7_endOfOpen_11 (by decide) ?_
    exact J_retI hX hQ dX7_endOfOpen_26 (by split <;> omega) rfl rfl (Nat.zero_le _) (Nat.zero_le _)
-- X2_column
set_option maxHeartbeats 4000000 in
set_option maxRecDepth 100000 in
theorem m_X2_column {E : EE} {K : Nat → Nat} {M : MM} {v : Nat} {l n : Int} (hV : ViewK K v) (hl : l = 0 ∨ l = 1) (hh : has M (v + 2) n) (hr : i32 (coM M v l n)) : CnI E 1 yX2_column cX2_column 3 (Option.some FieldType.int) [.ref (v + 1), vI l, vI n] K M (coM M v l n) := by
  refine ⟨Cn_of RX2 (plainFor_of_name (by decide)) rfl (Nat.le_of_ble_eq_true rfl) (fun X hX hQ => ?_), hr⟩
  refine J_aload_n hX dX2_column_0 rfl ?_
  refine J_gr hX (v + 2 + 1) fr_RX2_22 dX2_column_1 (show K (v + 1) = 2 from hV 1 (by decide)) rfl ?_
  refine J_iload_n hX dX2_column_4 rfl ?_
  refine J_callVB hX _ dX2_column_5 cw_RX2_115 (m_X6_has (hV).stage (by omega)) ⟨(show K (v + 2 + 1) = 6 from (hV).stage 1 (by decide)), by decide, by decide, rfl⟩ rfl (Nat.le_of_ble_eq_true rfl) (by decide) ⟨Nat.zero_le _, Nat.zero_le _⟩ ?_
  refine J_ifb_ne hX 15 dX2_column_8 (by decide) (fun c8 => ?_) (fun c8 => ?_)
  · refine J_iload_n hX dX2_column_15 rfl ?_
    refine J_if_eq hX 28 dX2_column_16 (by omega) (by decide) (fun c16 => ?_) (fun c16 => ?_)
    · refine J_aload_n hX dX2_column_28 rfl ?_
      refine J_gr hX (v + 23) fr_RX2_39 dX2_column_29 (show K (v + 1) = 2 from hV 1 (by decide)) rfl ?_
      refine J_iload_n hX dX2_column_32 rfl ?_
      refine J_iald hX dX2_column_33 (show K (v + 23) = 1000 + 20 from hV 23 (by decide)) ⟨by omega, by omega⟩ (by decide) (fun r33 => ?_)
      exact J_retI hX hQ dX2_column_34 (by first | (exfalso; omega) | (unfold coM; (first | rw [if_pos (by assumption)] | rw [if_neg (by assumption)]))) rfl rfl (Nat.zero_le _) (Nat.zero_le _)
    · refine J_aload_n hX dX2_column_19 rfl ?_
      refine J_gr hX (v + 22) fr_RX2_36 dX2_column_20 (show K (v + 1) = 2 from hV 1 (by decide)) rfl ?_
      refine J_iload_n hX dX2_column_23 rfl ?_
      refine J_iald hX dX2_column_24 (show K (v + 22) = 1000 + 20 from hV 22 (by decide)) ⟨by omega, by omega⟩ (by decide) (fun r24 => ?_)
      refine J_goto hX 34 dX2_column_25 (by decide) ?_
      exact J_retI hX hQ dX2_column_34 (by first | (exfalso; omega) | (unfold coM; (first | rw [if_pos (by assumption)] | rw [if_neg (by assumption)]))) rfl rfl (Nat.zero_le _) (Nat.zero_le _)
  · refine J_sipush hX dX2_column_11 rfl ?_
    exact J_retI hX hQ dX2_column_14 (by first | (exfalso; omega) | (unfold coM; (first | rw [if_pos (by assumption)] | rw [if_neg (by assumption)]))) rfl rfl (Nat.zero_le _) (Nat.zero_le _)
-- X7_titleCanStand
set_option maxHeartbeats 4000000 in
set_option maxRecDepth 100000 in
theorem m_X7_titleCanStand {E : EE} {K : Nat → Nat} {M : MM} {v : Nat} {T l r t : Int} (hV : ViewK K v) (hW : WF T M (v + 2)) (hD : Vwd M v (stg M (v + 2))) (hl : l = 0 ∨ l = 1) (hr : i32 r) (ht : 0 ≤ t ∧ t ≤ 20) : CnB E 2 yX7_titleCanStand cX7_titleCanStand 8 [.ref v, vI l, vI r, vI t] K M (cst (stg M (v + 2)) l r t = true) := by
  have hW0 := hW
  obtain ⟨hT0, ⟨ws1, ws2, ws3, ws4, ws5, ws6, ws7, ws8, ws9, ws10, ws11, ws12, ws13, ws14⟩, hWn, hWc⟩ := hW0
  have hS0 := hW.S
  have hP := hD.1
  have hw1 := wnd_rng hS0 1
  have hw0 := wnd_rng hS0 0
  have hd1 := hD.2.1
  have hd0 := hD.2.2
  have eO : (if l = 0 then (0 : Int) else M v 3) = opn (stg M (v + 2)) l := by unfold opn; rw [hd1]
  have eC : (if l = 0 then M (v + 2) 3 - M v 4 else M (v + 2) 3) = cls (stg M (v + 2)) l := by unfold cls; rw [hd0]; rfl
  refine Cn_of RX7 (plainFor_of_name (by decide)) rfl (Nat.le_of_ble_eq_true rfl) (fun X hX hQ => ?_)
  refine J_iload_n hX dX7_titleCanStand_0 rfl ?_
  refine J_aload_n hX dX7_titleCanStand_1 rfl ?_
  refine J_gr hX (v + 2) fr_RX7_22 dX7_titleCanStand_2 (show K (v) = 7 from hV 0 (by decide)) rfl ?_
  refine J_geti hX fi_RX7_116 dX7_titleCanStand_5 (show K (v + 2) = 5 from (hV).stage 0 (by decide)) (fun r5 => ?_)
  refine J_iload_n hX dX7_titleCanStand_8 rfl ?_
  refine J_callNI hX _ dX7_titleCanStand_9 cw_RX7_119 (m_X9_columnOf (by omega) (by omega) (by omega)) rfl (Nat.le_of_ble_eq_true rfl) (by decide) ⟨Nat.zero_le _, Nat.zero_le _⟩ (fun r9 => ?_)
  have rco : -100000 ≤ co l (M (v + 2) 5) t ∧ co l (M (v + 2) 5) t ≤ 100000 := by unfold co; split <;> omega
  refine J_istore hX dX7_titleCanStand_12 (by decide) ?_
  refine J_iload hX dX7_titleCanStand_14 rfl ?_
  refine J_aload_n hX dX7_titleCanStand_16 rfl ?_
  refine J_gr hX (v + 2) fr_RX7_22 dX7_titleCanStand_17 (show K (v) = 7 from hV 0 (by decide)) rfl ?_
  refine J_geti hX fi_RX7_98 dX7_titleCanStand_20 (show K (v + 2) = 5 from (hV).stage 0 (by decide)) (fun r20 => ?_)
  refine J_iadd hX dX7_titleCanStand_23 ?_
  refine J_istore hX dX7_titleCanStand_24 (by decide) ?_
  refine J_iload hX dX7_titleCanStand_26 rfl ?_
  refine J_aload_n hX dX7_titleCanStand_28 rfl ?_
  refine J_iload_n hX dX7_titleCanStand_29 rfl ?_
  refine J_callVI hX _ dX7_titleCanStand_30 cw_RX7_123 (m_X7_firstOpen hV hl (by omega)) ⟨(show K (v) = 7 from hV 0 (by decide)), by decide, by decide, rfl⟩ rfl (Nat.le_of_ble_eq_true rfl) (by decide) ⟨Nat.zero_le _, Nat.zero_le _⟩ (fun r30 => ?_)
  refine J_icmp_lt hX 46 dX7_titleCanStand_33 (by omega) (by omega) (by decide) (fun c33 => ?_) (fun c33 => ?_)
  · refine J_iconst hX dX7_titleCanStand_46 ?_
    exact J_retF hX hQ dX7_titleCanStand_47 (by first | (exfalso; omega) | (intro q9; have q8 := (cst_iff.mp q9).1; have q7 : opn (stg M (v + 2)) l ≤ co l (M (v + 2) 5) t := q8.1; omega) | (intro q9; have q8 := (cst_iff.mp q9).1; have q7 : co l (M (v + 2) 5) t + M (v + 2) 7 ≤ cls (stg M (v + 2)) l := q8.2; omega) | (refine cst_iff.mpr ⟨⟨?_, ?_⟩, ?_⟩; (show opn (stg M (v + 2)) l ≤ co l (M (v + 2) 5) t; omega); (show co l (M (v + 2) 5) t + M (v + 2) 7 ≤ cls (stg M (v + 2)) l; omega); (rw [show cnt (stg M (v + 2)) = k from (by unfold cnt; show (M (v + 2 + 1) 0).toNat = k; omega)]; exact hi51)) | (intro q9; have q8 := (cst_iff.mp q9).2; have q7 := (csn_all.mp q8) k (by unfold cnt; show k < (M (v + 2 + 1) 0).toNat; omega); have z2 := coM_eq hP hl hb; refine q7 ⟨by have z1 := hP.sh hb; omega, (inRM_iff hP).mp c94, ?_, ?_⟩; (show col (stg M (v + 2)) l k < co l (M (v + 2) 5) t + M (v + 2) 7; omega); (show co l (M (v + 2) 5) t < col (stg M (v + 2)) l k + M (v + 2 + 7) k; omega))) rfl rfl (Nat.zero_le _) (Nat.zero_le _)
  · refine J_iload hX dX7_titleCanStand_36 rfl ?_
    refine J_aload_n hX dX7_titleCanStand_38 rfl ?_
    refine J_iload_n hX dX7_titleCanStand_39 rfl ?_
    refine J_callVI hX _ dX7_titleCanStand_40 cw_RX7_126 (m_X7_endOfOpen hV hW hl (by omega)) ⟨(show K (v) = 7 from hV 0 (by decide)), by decide, by decide, rfl⟩ rfl (Nat.le_of_ble_eq_true rfl) (by decide) ⟨Nat.zero_le _, Nat.zero_le _⟩ (fun r40 => ?_)
    refine J_icmp_le hX 48 dX7_titleCanStand_43 (by omega) (by omega) (by decide) (fun c43 => ?_) (fun c43 => ?_)
    · refine J_iconst hX dX7_titleCanStand_48 ?_
      refine J_istore hX dX7_titleCanStand_49 (by decide) ?_
      have HL51 : ∀ k : Nat, k ≤ (M (v + 2 + 1) 0).toNat → (csn (stg M (v + 2)) l r t k = true) → J E X 51 [(0, .ref v), (1, vI l), (2, vI r), (3, vI t), (4, vI (co l (M (v + 2) 5) t)), (5, vI (co l (M (v + 2) 5) t + M (v + 2) 7)), (6, vI (k : Int))] [] K M 0 0 := by
        refine up_ind ((M (v + 2 + 1) 0).toNat) (fun k hk51 ih51 => ?_)
        intro  hi51
        refine J_iload hX dX7_titleCanStand_51 rfl ?_
        refine J_aload_n hX dX7_titleCanStand_53 rfl ?_
        refine J_gr hX (v + 2 + 1) fr_RX7_29 dX7_titleCanStand_54 (show K (v) = 7 from hV 0 (by decide)) rfl ?_
        refine J_geti hX fi_RX7_61 dX7_titleCanStand_57 (show K (v + 2 + 1) = 6 from (hV).stage 1 (by decide)) (fun r57 => ?_)
        refine J_icmp_ge hX 142 dX7_titleCanStand_60 (by omega) (by omega) (by decide) (fun c60 => ?_) (fun c60 => ?_)
        · refine J_iconst hX dX7_titleCanStand_142 ?_
          exact J_retT hX hQ dX7_titleCanStand_143 (by first | (exfalso; omega) | (intro q9; have q8 := (cst_iff.mp q9).1; have q7 : opn (stg M (v + 2)) l ≤ co l (M (v + 2) 5) t := q8.1; omega) | (intro q9; have q8 := (cst_iff.mp q9).1; have q7 : co l (M (v + 2) 5) t + M (v + 2) 7 ≤ cls (stg M (v + 2)) l := q8.2; omega) | (refine cst_iff.mpr ⟨⟨?_, ?_⟩, ?_⟩; (show opn (stg M (v + 2)) l ≤ co l (M (v + 2) 5) t; omega); (show co l (M (v + 2) 5) t + M (v + 2) 7 ≤ cls (stg M (v + 2)) l; omega); (rw [show cnt (stg M (v + 2)) = k from (by unfold cnt; show (M (v + 2 + 1) 0).toNat = k; omega)]; exact hi51)) | (intro q9; have q8 := (cst_iff.mp q9).2; have q7 := (csn_all.mp q8) k (by unfold cnt; show k < (M (v + 2 + 1) 0).toNat; omega); have z2 := coM_eq hP hl hb; refine q7 ⟨by have z1 := hP.sh hb; omega, (inRM_iff hP).mp c94, ?_, ?_⟩; (show col (stg M (v + 2)) l k < co l (M (v + 2) 5) t + M (v + 2) 7; omega); (show co l (M (v + 2) 5) t < col (stg M (v + 2)) l k + M (v + 2 + 7) k; omega))) rfl rfl (Nat.zero_le _) (Nat.zero_le _)
        · refine J_iload hX dX7_titleCanStand_63 rfl ?_
          refine J_bipush hX dX7_titleCanStand_65 rfl ?_
          refine J_icmp_ge hX 142 dX7_titleCanStand_67 (by omega) (by decide) (by decide) (fun c67 => ?_) (fun c67 => ?_)
          · refine J_iconst hX dX7_titleCanStand_142 ?_
            exact J_retT hX hQ dX7_titleCanStand_143 (by first | (exfalso; omega) | (intro q9; have q8 := (cst_iff.mp q9).1; have q7 : opn (stg M (v + 2)) l ≤ co l (M (v + 2) 5) t := q8.1; omega) | (intro q9; have q8 := (cst_iff.mp q9).1; have q7 : co l (M (v + 2) 5) t + M (v + 2) 7 ≤ cls (stg M (v + 2)) l := q8.2; omega) | (refine cst_iff.mpr ⟨⟨?_, ?_⟩, ?_⟩; (show opn (stg M (v + 2)) l ≤ co l (M (v + 2) 5) t; omega); (show co l (M (v + 2) 5) t + M (v + 2) 7 ≤ cls (stg M (v + 2)) l; omega); (rw [show cnt (stg M (v + 2)) = k from (by unfold cnt; show (M (v + 2 + 1) 0).toNat = k; omega)]; exact hi51)) | (intro q9; have q8 := (cst_iff.mp q9).2; have q7 := (csn_all.mp q8) k (by unfold cnt; show k < (M (v + 2 + 1) 0).toNat; omega); have z2 := coM_eq hP hl hb; refine q7 ⟨by have z1 := hP.sh hb; omega, (inRM_iff hP).mp c94, ?_, ?_⟩; (show col (stg M (v + 2)) l k < co l (M (v + 2) 5) t + M (v + 2) 7; omega); (show co l (M (v + 2) 5) t < col (stg M (v + 2)) l k + M (v + 2 + 7) k; omega))) rfl rfl (Nat.zero_le _) (Nat.zero_le _)
          · refine J_aload_n hX dX7_titleCanStand_70 rfl ?_
            refine J_gr hX (v + 1) fr_RX7_12 dX7_titleCanStand_71 (show K (v) = 7 from hV 0 (by decide)) rfl ?_
            refine J_gr hX (v + 21) fr_RX7_66 dX7_titleCanStand_74 (show K (v + 1) = 2 from hV 1 (by decide)) rfl ?_
            refine J_iload hX dX7_titleCanStand_77 rfl ?_
            refine J_iald hX dX7_titleCanStand_79 (show K (v + 21) = 1000 + 20 from hV 21 (by decide)) ⟨by omega, by omega⟩ (by decide) (fun r79 => ?_)
            refine J_iload_n hX dX7_titleCanStand_80 rfl ?_
            refine J_icmp_lt hX 136 dX7_titleCanStand_81 (by omega) (by omega) (by decide) (fun c81 => ?_) (fun c81 => ?_)
            · refine J_iinc hX dX7_titleCanStand_136 rfl (by decide) ?_
              refine J_goto hX 51 dX7_titleCanStand_139 (by decide) ?_
              exact J_locI (ih51 (k + 1) (by omega) (by omega) (csn_t.mpr ⟨hi51, fun q => by
                          have z1 := hP.sh q.2.1.1
                          have z2 := coM_eq hP hl q.2.1.1
                          have z0 := q.1
                          have z3 : col (stg M (v + 2)) l k < co l (M (v + 2) 5) t + M (v + 2) 7 := q.2.2.1
                          have z4 : co l (M (v + 2) 5) t < col (stg M (v + 2)) l k + M (v + 2 + 7) k := q.2.2.2
                          first | omega | exact c94 ((inRM_iff hP).mpr q.2.1)⟩)) rfl
            · refine J_aload_n hX dX7_titleCanStand_84 rfl ?_
              refine J_gr hX (v + 1) fr_RX7_12 dX7_titleCanStand_85 (show K (v) = 7 from hV 0 (by decide)) rfl ?_
              refine J_iload hX dX7_titleCanStand_88 rfl ?_
              refine J_iload_n hX dX7_titleCanStand_90 rfl ?_
              refine J_callVB hX _ dX7_titleCanStand_91 cw_RX7_129 (m_X2_inRow hV hW (by omega) (by omega) (hP.yr hW _)) ⟨(show K (v + 1) = 2 from hV 1 (by decide)), by decide, by decide, rfl⟩ rfl (Nat.le_of_ble_eq_true rfl) (by decide) ⟨Nat.zero_le _, Nat.zero_le _⟩ ?_
              refine J_ifb_eq hX 136 dX7_titleCanStand_94 (by decide) (fun c94 => ?_) (fun c94 => ?_)
              · refine J_iinc hX dX7_titleCanStand_136 rfl (by decide) ?_
                refine J_goto hX 51 dX7_titleCanStand_139 (by decide) ?_
                exact J_locI (ih51 (k + 1) (by omega) (by omega) (csn_t.mpr ⟨hi51, fun q => by
                            have z1 := hP.sh q.2.1.1
                            have z2 := coM_eq hP hl q.2.1.1
                            have z0 := q.1
                            have z3 : col (stg M (v + 2)) l k < co l (M (v + 2) 5) t + M (v + 2) 7 := q.2.2.1
                            have z4 : co l (M (v + 2) 5) t < col (stg M (v + 2)) l k + M (v + 2 + 7) k := q.2.2.2
                            first | omega | exact c94 ((inRM_iff hP).mpr q.2.1)⟩)) rfl
              · have hb := c94.1
                have zc := coM_eq hP hl hb
                have zr := col_rng hS0 hb l
                have zw := hWn (k : Int) (by omega) (by omega)
                refine J_aload_n hX dX7_titleCanStand_97 rfl ?_
                refine J_gr hX (v + 1) fr_RX7_12 dX7_titleCanStand_98 (show K (v) = 7 from hV 0 (by decide)) rfl ?_
                refine J_iload_n hX dX7_titleCanStand_101 rfl ?_
                refine J_iload hX dX7_titleCanStand_102 rfl ?_
                refine J_callVI hX _ dX7_titleCanStand_104 cw_RX7_133 (m_X2_column hV hl (by omega) (by omega)) ⟨(show K (v + 1) = 2 from hV 1 (by decide)), by decide, by decide, rfl⟩ rfl (Nat.le_of_ble_eq_true rfl) (by decide) ⟨Nat.zero_le _, Nat.zero_le _⟩ (fun r104 => ?_)
                refine J_istore hX dX7_titleCanStand_107 (by decide) ?_
                refine J_iload hX dX7_titleCanStand_109 rfl ?_
                refine J_iload hX dX7_titleCanStand_111 rfl ?_
                refine J_icmp_ge hX 136 dX7_titleCanStand_113 (by omega) (by omega) (by decide) (fun c113 => ?_) (fun c113 => ?_)
                · refine J_iinc hX dX7_titleCanStand_136 rfl (by decide) ?_
                  refine J_goto hX 51 dX7_titleCanStand_139 (by decide) ?_
                  exact J_locI (ih51 (k + 1) (by omega) (by omega) (csn_t.mpr ⟨hi51, fun q => by
                              have z1 := hP.sh q.2.1.1
                              have z2 := coM_eq hP hl q.2.1.1
                              have z0 := q.1
                              have z3 : col (stg M (v + 2)) l k < co l (M (v + 2) 5) t + M (v + 2) 7 := q.2.2.1
                              have z4 : co l (M (v + 2) 5) t < col (stg M (v + 2)) l k + M (v + 2 + 7) k := q.2.2.2
                              first | omega | exact c94 ((inRM_iff hP).mpr q.2.1)⟩)) rfl
                · refine J_iload hX dX7_titleCanStand_116 rfl ?_
                  refine J_aload_n hX dX7_titleCanStand_118 rfl ?_
                  refine J_gr hX (v + 2 + 1) fr_RX7_29 dX7_titleCanStand_119 (show K (v) = 7 from hV 0 (by decide)) rfl ?_
                  refine J_gr hX (v + 2 + 7) fr_RX7_83 dX7_titleCanStand_122 (show K (v + 2 + 1) = 6 from (hV).stage 1 (by decide)) rfl ?_
                  refine J_iload hX dX7_titleCanStand_125 rfl ?_
                  refine J_iald hX dX7_titleCanStand_127 (show K (v + 2 + 7) = 1000 + 20 from (hV).stage 7 (by decide)) ⟨by omega, by omega⟩ (by decide) (fun r127 => ?_)
                  refine J_iadd hX dX7_titleCanStand_128 ?_
                  refine J_iload hX dX7_titleCanStand_129 rfl ?_
                  refine J_icmp_le hX 136 dX7_titleCanStand_131 (by omega) (by omega) (by decide) (fun c131 => ?_) (fun c131 => ?_)
                  · refine J_iinc hX dX7_titleCanStand_136 rfl (by decide) ?_
                    refine J_goto hX 51 dX7_titleCanStand_139 (by decide) ?_
                    exact J_locI (ih51 (k + 1) (by omega) (by omega) (csn_t.mpr ⟨hi51, fun q => by
                                have z1 := hP.sh q.2.1.1
                                have z2 := coM_eq hP hl q.2.1.1
                                have z0 := q.1
                                have z3 : col (stg M (v + 2)) l k < co l (M (v + 2) 5) t + M (v + 2) 7 := q.2.2.1
                                have z4 : co l (M (v + 2) 5) t < col (stg M (v + 2)) l k + M (v + 2 + 7) k := q.2.2.2
                                first | omega | exact c94 ((inRM_iff hP).mpr q.2.1)⟩)) rfl
                  · refine J_iconst hX dX7_titleCanStand_134 ?_
                    exact J_retF hX hQ dX7_titleCanStand_135 (by first | (exfalso; omega) | (intro q9; have q8 := (cst_iff.mp q9).1; have q7 : opn (stg M (v + 2)) l ≤ co l (M (v + 2) 5) t := q8.1; omega) | (intro q9; have q8 := (cst_iff.mp q9).1; have q7 : co l (M (v + 2) 5) t + M (v + 2) 7 ≤ cls (stg M (v + 2)) l := q8.2; omega) | (refine cst_iff.mpr ⟨⟨?_, ?_⟩, ?_⟩; (show opn (stg M (v + 2)) l ≤ co l (M (v + 2) 5) t; omega); (show co l (M (v + 2) 5) t + M (v + 2) 7 ≤ cls (stg M (v + 2)) l; omega); (rw [show cnt (stg M (v + 2)) = k from (by unfold cnt; show (M (v + 2 + 1) 0).toNat = k; omega)]; exact hi51)) | (intro q9; have q8 := (cst_iff.mp q9).2; have q7 := (csn_all.mp q8) k (by unfold cnt; show k < (M (v + 2 + 1) 0).toNat; omega); have z2 := coM_eq hP hl hb; refine q7 ⟨by have z1 := hP.sh hb; omega, (inRM_iff hP).mp c94, ?_, ?_⟩; (show col (stg M (v + 2)) l k < co l (M (v + 2) 5) t + M (v + 2) 7; omega); (show co l (M (v + 2) 5) t < col (stg M (v + 2)) l k + M (v + 2 + 7) k; omega))) rfl rfl (Nat.zero_le _) (Nat.zero_le _)
      exact J_locI (HL51 0 (Nat.zero_le _) rfl) rfl
    · refine J_iconst hX dX7_titleCanStand_46 ?_
      exact J_retF hX hQ dX7_titleCanStand_47 (by first | (exfalso; omega) | (intro q9; have q8 := (cst_iff.mp q9).1; have q7 : opn (stg M (v + 2)) l ≤ co l (M (v + 2) 5) t := q8.1; omega) | (intro q9; have q8 := (cst_iff.mp q9).1; have q7 : co l (M (v + 2) 5) t + M (v + 2) 7 ≤ cls (stg M (v + 2)) l := q8.2; omega) | (refine cst_iff.mpr ⟨⟨?_, ?_⟩, ?_⟩; (show opn (stg M (v + 2)) l ≤ co l (M (v + 2) 5) t; omega); (show co l (M (v + 2) 5) t + M (v + 2) 7 ≤ cls (stg M (v + 2)) l; omega); (rw [show cnt (stg M (v + 2)) = k from (by unfold cnt; show (M (v + 2 + 1) 0).toNat = k; omega)]; exact hi51)) | (intro q9; have q8 := (cst_iff.mp q9).2; have q7 := (csn_all.mp q8) k (by unfold cnt; show k < (M (v + 2 + 1) 0).toNat; omega); have z2 := coM_eq hP hl hb; refine q7 ⟨by have z1 := hP.sh hb; omega, (inRM_iff hP).mp c94, ?_, ?_⟩; (show col (stg M (v + 2)) l k < co l (M (v + 2) 5) t + M (v + 2) 7; omega); (show co l (M (v + 2) 5) t < col (stg M (v + 2)) l k + M (v + 2 + 7) k; omega))) rfl rfl (Nat.zero_le _) (Nat.zero_le _)
-- X7_findTitle
set_option maxHeartbeats 4000000 in
set_option maxRecDepth 100000 in
theorem m_X7_findTitle {E : EE} {K : Nat → Nat} {M : MM} {v : Nat} {T : Int} (hV : ViewK K v) (hW : WF T M (v + 2)) (hD : Vwd M v (stg M (v + 2))) : CnM E 3 yX7_findTitle cX7_findTitle 3 none [.ref v] K M (fun r9 M2 => r9 = none ∧ (∀ i, i ≠ v → M2 i = M i) ∧ (∀ j, j ≠ 5 → j ≠ 6 → M2 v j = M v j) ∧ M2 v 5 = (ttl (stg M (v + 2))).1 ∧ M2 v 6 = (ttl (stg M (v + 2))).2) := by
  have hW0 := hW
  obtain ⟨hT0, ⟨ws1, ws2, ws3, ws4, ws5, ws6, ws7, ws8, ws9, ws10, ws11, ws12, ws13, ws14⟩, hWn, hWc⟩ := hW0
  have hS0 := hW.S
  refine Cn_of RX7 (plainFor_of_name (by decide)) rfl (Nat.le_of_ble_eq_true rfl) (fun X hX hQ => ?_)
  refine J_aload_n hX dX7_findTitle_0 rfl ?_
  refine J_sipush hX dX7_findTitle_1 rfl ?_
  refine J_putA hX fw_RX7_92 dX7_findTitle_4 (show K (v) = 7 from hV 0 (by decide)) (by omega) (Or.inl rfl) (fun m4 hm4 => ?_)
  have fm4 : ∀ i, i ≠ v → m4 i = M i := fun i h => by rw [hm4]; exact mset_ne h
  have gm4 : ∀ i j, j ≠ 5 → m4 i j = M i j := fun i j h => by rw [hm4]; exact mset_nj h
  have vm4 := (congrFun (congrFun hm4 (v)) 5).trans mset_eq
  refine J_aload_n hX dX7_findTitle_7 rfl ?_
  refine J_sipush hX dX7_findTitle_8 rfl ?_
  refine J_putA hX fw_RX7_95 dX7_findTitle_11 (show K (v) = 7 from hV 0 (by decide)) (by omega) (Or.inl rfl) (fun m11 hm11 => ?_)
  have fm11 : ∀ i, i ≠ v → m11 i = m4 i := fun i h => by rw [hm11]; exact mset_ne h
  have gm11 : ∀ i j, j ≠ 6 → m11 i j = m4 i j := fun i j h => by rw [hm11]; exact mset_nj h
  have vm11 := (congrFun (congrFun hm11 (v)) 6).trans mset_eq
  have f11 : ∀ i, i ≠ v → m11 i = M i := fun i h => by rw [fm11 i h, fm4 i h]
  have st11 : stg m11 (v + 2) = (stg M (v + 2)) := stg_eq (fun k hk => f11 _ (by omega))
  have hWm := WF_fr st11 hW
  have hDm : Vwd m11 v (stg m11 (v + 2)) := by rw [st11]; exact hD.fr f11 (by rw [gm11 _ _ (by decide), gm4 _ _ (by decide)]) (by rw [gm11 _ _ (by decide), gm4 _ _ (by decide)])
  refine J_aload_n hX dX7_findTitle_14 rfl ?_
  refine J_gr hX (v + 2) fr_RX7_22 dX7_findTitle_15 (show K (v) = 7 from hV 0 (by decide)) rfl ?_
  refine J_geti hX fi_RX7_98 dX7_findTitle_18 (show K (v + 2) = 5 from (hV).stage 0 (by decide)) (fun r18 => ?_)
  refine J_if_ne hX 25 dX7_findTitle_21 (by omega) (by decide) (fun c21 => ?_) (fun c21 => ?_)
  · have htt : ttl (stg M (v + 2)) = trw (stg M (v + 2)) (M (v + 2) 6 + 1).toNat := by unfold ttl; rw [if_neg]; rfl; show ¬ M (v + 2) 7 = 0; have zz := congrFun (f11 (v + 2) (by omega)) 7; omega
    refine J_aload_n hX dX7_findTitle_25 rfl ?_
    refine J_gr hX (v + 2) fr_RX7_22 dX7_findTitle_26 (show K (v) = 7 from hV 0 (by decide)) rfl ?_
    refine J_geti hX fi_RX7_101 dX7_findTitle_29 (show K (v + 2) = 5 from (hV).stage 0 (by decide)) (fun r29 => ?_)
    refine J_istore_n hX dX7_findTitle_32 (by decide) ?_
    have HL33 : ∀ k : Nat, k ≤ (M (v + 2) 6 + 1).toNat → ∀ (r : Int), (r = M (v + 2) 6 - k ∧ trw (stg M (v + 2)) (M (v + 2) 6 + 1).toNat = trw (stg M (v + 2)) ((M (v + 2) 6 + 1).toNat - k)) → J E X 33 [(0, .ref v), (1, vI r)] [] K m11 0 0 := by
      refine up_ind ((M (v + 2) 6 + 1).toNat) (fun k hk33 ih33 => ?_)
      intro r  hi33
      refine J_iload_n hX dX7_findTitle_33 rfl ?_
      refine J_if_lt hX 96 dX7_findTitle_34 (by omega) (by decide) (fun c34 => ?_) (fun c34 => ?_)
      · have httl : ttl (stg M (v + 2)) = (-1000, -1000) := by rw [htt, hi33.2, show (M (v + 2) 6 + 1).toNat - k = 0 by omega]; rfl
        exact J_vret hX hQ dX7_findTitle_96 ⟨rfl, by first | (exfalso; omega) | (refine ⟨rfl, fun i h => by rw [fm80 i h, fm75 i h, fm11 i h, fm4 i h], fun j j5 j6 => by rw [gm80 _ j j6, gm75 _ j j5, gm11 _ j j6, gm4 _ j j5], ?_, ?_⟩; (rw [gm80 _ 5 (by decide), vm75, httl]); (rw [vm80, httl])) | (refine ⟨rfl, fun i h => by rw [fm11 i h, fm4 i h], fun j j5 j6 => by rw [gm11 _ j j6, gm4 _ j j5], ?_, ?_⟩; (rw [gm11 _ 5 (by decide), vm4, httl]); (rw [vm11, httl]))⟩ (Nat.zero_le _) (Nat.zero_le _)
      · refine J_iconst hX dX7_findTitle_37 ?_
        refine J_istore_n hX dX7_findTitle_38 (by decide) ?_
        have HL39 : ∀ j : Nat, j ≤ (M (v + 2 + 11) 3 + 1).toNat → (tsr (stg M (v + 2)) r (M (v + 2 + 11) 3 + 1).toNat 0 = tsr (stg M (v + 2)) r ((M (v + 2 + 11) 3 + 1).toNat - j) j) → J E X 39 [(0, .ref v), (1, vI r), (2, vI (j : Int))] [] K m11 0 0 := by
          refine up_ind ((M (v + 2 + 11) 3 + 1).toNat) (fun j hk39 ih39 => ?_)
          intro  hi39
          have er : (((M (v + 2) 6 + 1).toNat - (k + 1) : Nat) : Int) = r := by omega
          have eh := congrFun (f11 (v + 2 + 11) (by omega)) 3
          refine J_iload_n hX dX7_findTitle_39 rfl ?_
          refine J_aload_n hX dX7_findTitle_40 rfl ?_
          refine J_gr hX (v + 2) fr_RX7_22 dX7_findTitle_41 (show K (v) = 7 from hV 0 (by decide)) rfl ?_
          refine J_gr hX (v + 2 + 11) fr_RX7_104 dX7_findTitle_44 (show K (v + 2) = 5 from (hV).stage 0 (by decide)) rfl ?_
          refine J_geti hX fi_RX7_108 dX7_findTitle_47 (show K (v + 2 + 11) = 3 from (hV).stage 11 (by decide)) (fun r47 => ?_)
          refine J_icmp_gt hX 90 dX7_findTitle_50 (by omega) (by omega) (by decide) (fun c50 => ?_) (fun c50 => ?_)
          · have hneg : ¬ 0 ≤ tsr (stg M (v + 2)) (((M (v + 2) 6 + 1).toNat - (k + 1) : Nat) : Int) (M (v + 2 + 11) 3 + 1).toNat 0 := by rw [er, hi39, tsr_0 (by omega)]; decide
            refine J_iinc hX dX7_findTitle_90 rfl (by decide) ?_
            refine J_goto hX 33 dX7_findTitle_93 (by decide) ?_
            exact J_locI (ih33 (k + 1) (by omega) (by omega) _ ⟨by omega, by rw [hi33.2, trw_f (r1 := (M (v + 2) 6 + 1).toNat - (k + 1)) (by omega) hneg]⟩) rfl
          · refine J_aload_n hX dX7_findTitle_53 rfl ?_
            refine J_iconst hX dX7_findTitle_54 ?_
            refine J_iload_n hX dX7_findTitle_55 rfl ?_
            refine J_iload_n hX dX7_findTitle_56 rfl ?_
            refine J_callVB hX _ dX7_findTitle_57 cw_RX7_113 (m_X7_titleCanStand hV hWm hDm (by omega) (by omega) (by omega)) ⟨(show K (v) = 7 from hV 0 (by decide)), by decide, by decide, rfl⟩ rfl (Nat.le_of_ble_eq_true rfl) (by decide) ⟨Nat.zero_le _, Nat.zero_le _⟩ ?_
            refine J_ifb_eq hX 84 dX7_findTitle_60 (by decide) (fun c60 => ?_) (fun c60 => ?_)
            · refine J_iinc hX dX7_findTitle_84 rfl (by decide) ?_
              refine J_goto hX 39 dX7_findTitle_87 (by decide) ?_
              exact J_locI (ih39 (j + 1) (by omega) (by omega) (by rw [hi39, tsr_f (m1 := (M (v + 2 + 11) 3 + 1).toNat - (j + 1)) (by omega) (fun q => by first | exact c60 (by rw [st11]; exact q.1) | exact c70 (by rw [st11]; exact q.2))])) rfl
            · refine J_aload_n hX dX7_findTitle_63 rfl ?_
              refine J_iconst hX dX7_findTitle_64 ?_
              refine J_iload_n hX dX7_findTitle_65 rfl ?_
              refine J_iload_n hX dX7_findTitle_66 rfl ?_
              refine J_callVB hX _ dX7_findTitle_67 cw_RX7_113 (m_X7_titleCanStand hV hWm hDm (by omega) (by omega) (by omega)) ⟨(show K (v) = 7 from hV 0 (by decide)), by decide, by decide, rfl⟩ rfl (Nat.le_of_ble_eq_true rfl) (by decide) ⟨Nat.zero_le _, Nat.zero_le _⟩ ?_
              refine J_ifb_eq hX 84 dX7_findTitle_70 (by decide) (fun c70 => ?_) (fun c70 => ?_)
              · refine J_iinc hX dX7_findTitle_84 rfl (by decide) ?_
                refine J_goto hX 39 dX7_findTitle_87 (by decide) ?_
                exact J_locI (ih39 (j + 1) (by omega) (by omega) (by rw [hi39, tsr_f (m1 := (M (v + 2 + 11) 3 + 1).toNat - (j + 1)) (by omega) (fun q => by first | exact c60 (by rw [st11]; exact q.1) | exact c70 (by rw [st11]; exact q.2))])) rfl
              · rw [st11] at c60 c70
                have htv : tsr (stg M (v + 2)) r (M (v + 2 + 11) 3 + 1).toNat 0 = j := by rw [hi39, tsr_t (m1 := (M (v + 2 + 11) 3 + 1).toNat - (j + 1)) (by omega) ⟨c60, c70⟩]
                have httl : ttl (stg M (v + 2)) = (r, (j : Int)) := by rw [htt, hi33.2, trw_t (r1 := (M (v + 2) 6 + 1).toNat - (k + 1)) (by omega) (by rw [er]; show 0 ≤ tsr (stg M (v + 2)) r (M (v + 2 + 11) 3 + 1).toNat 0; omega), er]; show (r, tsr (stg M (v + 2)) r (M (v + 2 + 11) 3 + 1).toNat 0) = _; rw [htv]
                refine J_aload_n hX dX7_findTitle_73 rfl ?_
                refine J_iload_n hX dX7_findTitle_74 rfl ?_
                refine J_putA hX fw_RX7_92 dX7_findTitle_75 (show K (v) = 7 from hV 0 (by decide)) (by omega) (Or.inl rfl) (fun m75 hm75 => ?_)
                have fm75 : ∀ i, i ≠ v → m75 i = m11 i := fun i h => by rw [hm75]; exact mset_ne h
                have gm75 : ∀ i j, j ≠ 5 → m75 i j = m11 i j := fun i j h => by rw [hm75]; exact mset_nj h
                have vm75 := (congrFun (congrFun hm75 (v)) 5).trans mset_eq
                refine J_aload_n hX dX7_findTitle_78 rfl ?_
                refine J_iload_n hX dX7_findTitle_79 rfl ?_
                refine J_putA hX fw_RX7_95 dX7_findTitle_80 (show K (v) = 7 from hV 0 (by decide)) (by omega) (Or.inl rfl) (fun m80 hm80 => ?_)
                have fm80 : ∀ i, i ≠ v → m80 i = m75 i := fun i h => by rw [hm80]; exact mset_ne h
                have gm80 : ∀ i j, j ≠ 6 → m80 i j = m75 i j := fun i j h => by rw [hm80]; exact mset_nj h
                have vm80 := (congrFun (congrFun hm80 (v)) 6).trans mset_eq
                exact J_vret hX hQ dX7_findTitle_83 ⟨rfl, by first | (exfalso; omega) | (refine ⟨rfl, fun i h => by rw [fm80 i h, fm75 i h, fm11 i h, fm4 i h], fun j j5 j6 => by rw [gm80 _ j j6, gm75 _ j j5, gm11 _ j j6, gm4 _ j j5], ?_, ?_⟩; (rw [gm80 _ 5 (by decide), vm75, httl]); (rw [vm80, httl])) | (refine ⟨rfl, fun i h => by rw [fm11 i h, fm4 i h], fun j j5 j6 => by rw [gm11 _ j j6, gm4 _ j j5], ?_, ?_⟩; (rw [gm11 _ 5 (by decide), vm4, httl]); (rw [vm11, httl]))⟩ (Nat.zero_le _) (Nat.zero_le _)
        exact J_locI (HL39 0 (Nat.zero_le _) rfl) rfl
    exact J_locI (HL33 0 (Nat.zero_le _) _ ⟨by have zz := congrFun (f11 (v + 2) (by omega)) 6; omega, rfl⟩) rfl
  · have httl : ttl (stg M (v + 2)) = (-1000, -1000) := by unfold ttl; rw [if_pos]; show M (v + 2) 7 = 0; have zz := congrFun (f11 (v + 2) (by omega)) 7; omega
    exact J_vret hX hQ dX7_findTitle_24 ⟨rfl, by first | (exfalso; omega) | (refine ⟨rfl, fun i h => by rw [fm80 i h, fm75 i h, fm11 i h, fm4 i h], fun j j5 j6 => by rw [gm80 _ j j6, gm75 _ j j5, gm11 _ j j6, gm4 _ j j5], ?_, ?_⟩; (rw [gm80 _ 5 (by decide), vm75, httl]); (rw [vm80, httl])) | (refine ⟨rfl, fun i h => by rw [fm11 i h, fm4 i h], fun j j5 j6 => by rw [gm11 _ j j6, gm4 _ j j5], ?_, ?_⟩; (rw [gm11 _ 5 (by decide), vm4, httl]); (rw [vm11, httl]))⟩ (Nat.zero_le _) (Nat.zero_le _)
