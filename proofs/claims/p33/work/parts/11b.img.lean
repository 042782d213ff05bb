-- X7_measure
set_option maxHeartbeats 4000000 in
set_option maxRecDepth 100000 in
theorem m_X7_measure {E : EE} {K : Nat → Nat} {M : MM} {v : Nat} {T : Int} (hV : ViewK K v) (hW : WF T M (v + 2)) : CnM E 5 yX7_measure cX7_measure 1 none [.ref v] K M (fun r9 M2 => r9 = none ∧ (∀ i, i ≠ v → i ≠ v + 1 → (i < v + 18 ∨ v + 24 < i) → M2 i = M i) ∧ Vwt M2 v (stg M (v + 2)) ∧ M2 v 9 = -1000) := by
  have hW0 := hW
  obtain ⟨hT0, ⟨ws1, ws2, ws3, ws4, ws5, ws6, ws7, ws8, ws9, ws10, ws11, ws12, ws13, ws14⟩, hWn, hWc⟩ := hW0
  have hS0 := hW.S
  refine Cn_of RX7 (plainFor_of_name (by decide)) rfl (Nat.le_of_ble_eq_true rfl) (fun X hX hQ => ?_)
  refine J_aload_n hX dX7_measure_0 rfl ?_
  refine J_sipush hX dX7_measure_1 rfl ?_
  refine J_putA hX fw_RX7_37 dX7_measure_4 (show K (v) = 7 from hV 0 (by decide)) (by omega) (Or.inl rfl) (fun m4 hm4 => ?_)
  have fm4 : ∀ i, i ≠ v → m4 i = M i := fun i h => by rw [hm4]; exact mset_ne h
  have gm4 : ∀ i j, j ≠ 9 → m4 i j = M i j := fun i j h => by rw [hm4]; exact mset_nj h
  have vm4 := (congrFun (congrFun hm4 (v)) 9).trans mset_eq
  have sta : stg m4 (v + 2) = (stg M (v + 2)) := stg_eq (fun k hk => fm4 _ (by omega))
  have hWa := WF_fr sta hW
  refine J_aload_n hX dX7_measure_7 rfl ?_
  refine J_gr hX (v + 1) fr_RX7_12 dX7_measure_8 (show K (v) = 7 from hV 0 (by decide)) rfl ?_
  refine J_callVM hX _ dX7_measure_11 cw_RX7_41 (m_X2_measure hV hWa) ⟨(show K (v + 1) = 2 from hV 1 (by decide)), by decide, by decide, rfl⟩ rfl (Nat.le_of_ble_eq_true rfl) (by decide) ⟨Nat.zero_le _, Nat.zero_le _⟩ (fun r9 M11 q11 => ?_)
  obtain ⟨rfl, ms1, ms2⟩ := q11
  have stc : stg M11 (v + 2) = stg m4 (v + 2) := stg_eq (fun k hk => ms1 _ (by omega) (by omega))
  have hWc1 := WF_fr stc hWa
  have hPc : Pld M11 v (stg M11 (v + 2)) := by rw [stc]; exact ms2
  refine J_aload_n hX dX7_measure_14 rfl ?_
  refine J_aload_n hX dX7_measure_15 rfl ?_
  refine J_iconst hX dX7_measure_16 ?_
  refine J_callVI hX _ dX7_measure_17 cw_RX7_44 (m_X7_windowShift hV hWc1 hPc (by omega)) ⟨(show K (v) = 7 from hV 0 (by decide)), by decide, by decide, rfl⟩ rfl (Nat.le_of_ble_eq_true rfl) (by decide) ⟨Nat.zero_le _, Nat.zero_le _⟩ (fun r17 => ?_)
  have wr1 := wnd_rng hWc1.S 1
  refine J_putA hX fw_RX7_48 dX7_measure_20 (show K (v) = 7 from hV 0 (by decide)) (by omega) (Or.inl rfl) (fun m20 hm20 => ?_)
  have fm20 : ∀ i, i ≠ v → m20 i = M11 i := fun i h => by rw [hm20]; exact mset_ne h
  have gm20 : ∀ i j, j ≠ 3 → m20 i j = M11 i j := fun i j h => by rw [hm20]; exact mset_nj h
  have vm20 := (congrFun (congrFun hm20 (v)) 3).trans mset_eq
  have std : stg m20 (v + 2) = stg M11 (v + 2) := stg_eq (fun k hk => fm20 _ (by omega))
  have hWd := WF_fr std hWc1
  have hPd : Pld m20 v (stg m20 (v + 2)) := by rw [std]; exact hPc.fr (fun i hi => fm20 i (by omega))
  refine J_aload_n hX dX7_measure_23 rfl ?_
  refine J_aload_n hX dX7_measure_24 rfl ?_
  refine J_iconst hX dX7_measure_25 ?_
  refine J_callVI hX _ dX7_measure_26 cw_RX7_44 (m_X7_windowShift hV hWd hPd (by omega)) ⟨(show K (v) = 7 from hV 0 (by decide)), by decide, by decide, rfl⟩ rfl (Nat.le_of_ble_eq_true rfl) (by decide) ⟨Nat.zero_le _, Nat.zero_le _⟩ (fun r26 => ?_)
  have wr0 := wnd_rng hWd.S 0
  refine J_putA hX fw_RX7_51 dX7_measure_29 (show K (v) = 7 from hV 0 (by decide)) (by omega) (Or.inl rfl) (fun m29 hm29 => ?_)
  have fm29 : ∀ i, i ≠ v → m29 i = m20 i := fun i h => by rw [hm29]; exact mset_ne h
  have gm29 : ∀ i j, j ≠ 4 → m29 i j = m20 i j := fun i j h => by rw [hm29]; exact mset_nj h
  have vm29 := (congrFun (congrFun hm29 (v)) 4).trans mset_eq
  have ste0 : stg m29 (v + 2) = stg m20 (v + 2) := stg_eq (fun k hk => fm29 _ (by omega))
  have hWb := WF_fr ste0 hWd
  have hDb : Vwd m29 v (stg m29 (v + 2)) := ⟨by rw [ste0]; exact hPd.fr (fun i hi => fm29 i (by omega)), by rw [gm29 _ _ (by decide), vm20, ste0, std], by rw [vm29, ste0]⟩
  have ste : stg m29 (v + 2) = (stg M (v + 2)) := by rw [ste0, std, stc, sta]
  refine J_aload_n hX dX7_measure_32 rfl ?_
  refine J_callVM hX _ dX7_measure_33 cw_RX7_54 (m_X7_findTitle hV hWb hDb) ⟨(show K (v) = 7 from hV 0 (by decide)), by decide, by decide, rfl⟩ rfl (Nat.le_of_ble_eq_true rfl) (by decide) ⟨Nat.zero_le _, Nat.zero_le _⟩ (fun r9 M33 q33 => ?_)
  obtain ⟨rfl, ft1, ft2, ft3, ft4⟩ := q33
  exact J_vret hX hQ dX7_measure_36 ⟨rfl, by exact ⟨rfl, fun i i1 i2 i3 => by rw [ft1 i i1, fm29 i i1, fm20 i i1, ms1 i i2 i3, fm4 i i1], by rw [← ste]; exact ⟨⟨hDb.1.fr (fun i hi => ft1 i (by omega)), by rw [ft2 3 (by decide) (by decide)]; exact hDb.2.1, by rw [ft2 4 (by decide) (by decide)]; exact hDb.2.2⟩, ft3, ft4⟩, by rw [ft2 9 (by decide) (by decide), gm29 _ _ (by decide), gm20 _ _ (by decide), ms1 v (by omega) (by omega), vm4]⟩⟩ (Nat.zero_le _) (Nat.zero_le _)
-- X2_boxAt
set_option maxHeartbeats 4000000 in
set_option maxRecDepth 100000 in
theorem m_X2_boxAt {E : EE} {K : Nat → Nat} {M : MM} {v : Nat} {T p : Int} (hV : ViewK K v) (hW : WF T M (v + 2)) (hP : Pld M v (stg M (v + 2))) (hp : i32 p) : CnI E 0 yX2_boxAt cX2_boxAt 2 (Option.some FieldType.int) [.ref (v + 1), vI p] K M (if 0 ≤ p ∧ p < (nb (stg M (v + 2)) : Nat) then ord (stg M (v + 2)) p else -1000) := by
  have hnb := nb_le hW.S
  have hB := hP.2.2.1
  refine ⟨Cn_of RX2 (plainFor_of_name (by decide)) rfl (Nat.le_of_ble_eq_true rfl) (fun X hX hQ => ?_), by split; rename_i h; have z := ord_box (S := (stg M (v + 2))) (j := p.toNat) (by omega); rw [show ((p.toNat : Nat) : Int) = p by omega] at z; have := z.1.1; omega; omega⟩
  refine J_iload_n hX dX2_boxAt_0 rfl ?_
  refine J_if_lt hX 27 dX2_boxAt_1 (by omega) (by decide) (fun c1 => ?_) (fun c1 => ?_)
  · refine J_sipush hX dX2_boxAt_27 rfl ?_
    exact J_retI hX hQ dX2_boxAt_30 (by first | (rw [if_neg (by omega)]) | (rw [if_pos (by omega)]; have z := hP.2.2.2.2 p.toNat (by omega); rw [show ((p.toNat : Nat) : Int) = p by omega] at z; exact z)) rfl rfl (Nat.zero_le _) (Nat.zero_le _)
  · refine J_iload_n hX dX2_boxAt_4 rfl ?_
    refine J_aload_n hX dX2_boxAt_5 rfl ?_
    refine J_geti hX fi_RX2_68 dX2_boxAt_6 (show K (v + 1) = 2 from hV 1 (by decide)) (fun r6 => ?_)
    refine J_icmp_ge hX 27 dX2_boxAt_9 (by omega) (by omega) (by decide) (fun c9 => ?_) (fun c9 => ?_)
    · refine J_sipush hX dX2_boxAt_27 rfl ?_
      exact J_retI hX hQ dX2_boxAt_30 (by first | (rw [if_neg (by omega)]) | (rw [if_pos (by omega)]; have z := hP.2.2.2.2 p.toNat (by omega); rw [show ((p.toNat : Nat) : Int) = p by omega] at z; exact z)) rfl rfl (Nat.zero_le _) (Nat.zero_le _)
    · refine J_iload_n hX dX2_boxAt_12 rfl ?_
      refine J_bipush hX dX2_boxAt_13 rfl ?_
      refine J_icmp_ge hX 27 dX2_boxAt_15 (by omega) (by decide) (by decide) (fun c15 => ?_) (fun c15 => ?_)
      · refine J_sipush hX dX2_boxAt_27 rfl ?_
        exact J_retI hX hQ dX2_boxAt_30 (by first | (rw [if_neg (by omega)]) | (rw [if_pos (by omega)]; have z := hP.2.2.2.2 p.toNat (by omega); rw [show ((p.toNat : Nat) : Int) = p by omega] at z; exact z)) rfl rfl (Nat.zero_le _) (Nat.zero_le _)
      · refine J_aload_n hX dX2_boxAt_18 rfl ?_
        refine J_gr hX (v + 24) fr_RX2_42 dX2_boxAt_19 (show K (v + 1) = 2 from hV 1 (by decide)) rfl ?_
        refine J_iload_n hX dX2_boxAt_22 rfl ?_
        refine J_iald hX dX2_boxAt_23 (show K (v + 24) = 1000 + 20 from hV 24 (by decide)) ⟨by omega, by omega⟩ (by decide) (fun r23 => ?_)
        refine J_goto hX 30 dX2_boxAt_24 (by decide) ?_
        exact J_retI hX hQ dX2_boxAt_30 (by first | (rw [if_neg (by omega)]) | (rw [if_pos (by omega)]; have z := hP.2.2.2.2 p.toNat (by omega); rw [show ((p.toNat : Nat) : Int) = p by omega] at z; exact z)) rfl rfl (Nat.zero_le _) (Nat.zero_le _)
-- X2_frontBox
set_option maxHeartbeats 4000000 in
set_option maxRecDepth 100000 in
theorem m_X2_frontBox {E : EE} {K : Nat → Nat} {M : MM} {v : Nat} {T l c r : Int} (hV : ViewK K v) (hW : WF T M (v + 2)) (hP : Pld M v (stg M (v + 2))) (hl : l = 0 ∨ l = 1) (hc : i32 c) (hr : i32 r) : CnI E 2 yX2_frontBox cX2_frontBox 7 (Option.some FieldType.int) [.ref (v + 1), vI l, vI c, vI r] K M (front (stg M (v + 2)) l c r) := by
  have hW0 := hW
  obtain ⟨hT0, ⟨ws1, ws2, ws3, ws4, ws5, ws6, ws7, ws8, ws9, ws10, ws11, ws12, ws13, ws14⟩, hWn, hWc⟩ := hW0
  have hS0 := hW.S
  have hnb := nb_le hS0
  have hB := hP.2.2.1
  refine ⟨Cn_of RX2 (plainFor_of_name (by decide)) rfl (Nat.le_of_ble_eq_true rfl) (fun X hX hQ => ?_), by have z := front_rng (stg M (v + 2)) l c r; rcases z with z | z; omega; have := z.1.1; omega⟩
  refine J_aload_n hX dX2_frontBox_0 rfl ?_
  refine J_geti hX fi_RX2_68 dX2_frontBox_1 (show K (v + 1) = 2 from hV 1 (by decide)) (fun r1 => ?_)
  refine J_iconst hX dX2_frontBox_4 ?_
  refine J_isub hX dX2_frontBox_5 ?_
  refine J_istore hX dX2_frontBox_6 (by decide) ?_
  have HL8 : ∀ k : Nat, k ≤ (nb (stg M (v + 2))) → ∀ (q : Int), (q = (nb (stg M (v + 2))) - 1 - k ∧ frt (stg M (v + 2)) l c r (nb (stg M (v + 2))) = frt (stg M (v + 2)) l c r ((nb (stg M (v + 2))) - k)) → J E X 8 [(0, .ref (v + 1)), (1, vI l), (2, vI c), (3, vI r), (4, vI q)] [] K M 0 0 := by
    refine up_ind ((nb (stg M (v + 2)))) (fun k hk8 ih8 => ?_)
    intro q  hi8
    refine J_iload hX dX2_frontBox_8 rfl ?_
    refine J_if_lt hX 72 dX2_frontBox_10 (by omega) (by decide) (fun c10 => ?_) (fun c10 => ?_)
    · refine J_sipush hX dX2_frontBox_72 rfl ?_
      exact J_retI hX hQ dX2_frontBox_75 (by first | (unfold front; rw [hi8.2, show nb (stg M (v + 2)) - k = 0 by omega]; rfl) | (unfold front; rw [hi8.2]; have z9 := frt_t (k1 := q.toNat) (S := (stg M (v + 2))) (l := l) (c := c) (r := r) (k := nb (stg M (v + 2)) - k) (by omega); rw [hq] at z9; exact (z9 ⟨(inRM_iff hP).mp c28, by omega, by show c < col (stg M (v + 2)) l (ord (stg M (v + 2)) q) + M (v + 2 + 7) (ord (stg M (v + 2)) q); omega⟩).symm)) rfl rfl (Nat.zero_le _) (Nat.zero_le _)
    · have hq : ((q.toNat : Nat) : Int) = q := by omega
      have ob := ord_box (S := (stg M (v + 2))) (j := q.toNat) (by omega)
      rw [hq] at ob
      have ob1 := ob.1.1
      refine J_aload_n hX dX2_frontBox_13 rfl ?_
      refine J_iload hX dX2_frontBox_14 rfl ?_
      refine J_callVI hX _ dX2_frontBox_16 cw_RX2_131 (m_X2_boxAt hV hW hP (by omega)) ⟨(show K (v + 1) = 2 from hV 1 (by decide)), by decide, by decide, rfl⟩ rfl (Nat.le_of_ble_eq_true rfl) (by decide) ⟨Nat.zero_le _, Nat.zero_le _⟩ (fun r16 => ?_)
      rw [if_pos (show 0 ≤ q ∧ q < (nb (stg M (v + 2)) : Nat) by omega)]
      refine J_istore hX dX2_frontBox_19 (by decide) ?_
      refine J_aload_n hX dX2_frontBox_21 rfl ?_
      refine J_iload hX dX2_frontBox_22 rfl ?_
      refine J_iload_n hX dX2_frontBox_24 rfl ?_
      refine J_callVB hX _ dX2_frontBox_25 cw_RX2_135 (m_X2_inRow hV hW (by omega) (by omega) (hP.yr hW _)) ⟨(show K (v + 1) = 2 from hV 1 (by decide)), by decide, by decide, rfl⟩ rfl (Nat.le_of_ble_eq_true rfl) (by decide) ⟨Nat.zero_le _, Nat.zero_le _⟩ ?_
      refine J_ifb_eq hX 66 dX2_frontBox_28 (by decide) (fun c28 => ?_) (fun c28 => ?_)
      · refine J_iinc hX dX2_frontBox_66 rfl (by decide) ?_
        refine J_goto hX 8 dX2_frontBox_69 (by decide) ?_
        exact J_locI (ih8 (k + 1) (by omega) (by omega) _ ⟨by omega, by
                    rw [hi8.2]
                    have z9 := frt_f (k1 := q.toNat) (S := stg M (v + 2)) (l := l) (c := c) (r := r) (k := nb (stg M (v + 2)) - k) (by omega)
                    rw [hq] at z9
                    rw [z9 (fun z => by
                      have z1 : c < col (stg M (v + 2)) l (ord (stg M (v + 2)) q) + M (v + 2 + 7) (ord (stg M (v + 2)) q) := z.2.2
                      have z2 := z.2.1
                      first | omega | exact c28 ((inRM_iff hP).mpr z.1)), show q.toNat = nb (stg M (v + 2)) - (k + 1) by omega]⟩) rfl
      · have hb := c28.1
        have hhas : has M (v + 2) (ord (stg M (v + 2)) q) := hb.1
        have zc := coM_eq hP hl hb
        have zr := col_rng hS0 hb l
        have zw := hWn (ord (stg M (v + 2)) q) (by omega) (by omega)
        refine J_aload_n hX dX2_frontBox_31 rfl ?_
        refine J_iload_n hX dX2_frontBox_32 rfl ?_
        refine J_iload hX dX2_frontBox_33 rfl ?_
        refine J_callVI hX _ dX2_frontBox_35 cw_RX2_138 (m_X2_column hV hl hhas (by omega)) ⟨(show K (v + 1) = 2 from hV 1 (by decide)), by decide, by decide, rfl⟩ rfl (Nat.le_of_ble_eq_true rfl) (by decide) ⟨Nat.zero_le _, Nat.zero_le _⟩ (fun r35 => ?_)
        refine J_istore hX dX2_frontBox_38 (by decide) ?_
        refine J_iload hX dX2_frontBox_40 rfl ?_
        refine J_iload_n hX dX2_frontBox_42 rfl ?_
        refine J_icmp_gt hX 66 dX2_frontBox_43 (by omega) (by omega) (by decide) (fun c43 => ?_) (fun c43 => ?_)
        · refine J_iinc hX dX2_frontBox_66 rfl (by decide) ?_
          refine J_goto hX 8 dX2_frontBox_69 (by decide) ?_
          exact J_locI (ih8 (k + 1) (by omega) (by omega) _ ⟨by omega, by
                      rw [hi8.2]
                      have z9 := frt_f (k1 := q.toNat) (S := stg M (v + 2)) (l := l) (c := c) (r := r) (k := nb (stg M (v + 2)) - k) (by omega)
                      rw [hq] at z9
                      rw [z9 (fun z => by
                        have z1 : c < col (stg M (v + 2)) l (ord (stg M (v + 2)) q) + M (v + 2 + 7) (ord (stg M (v + 2)) q) := z.2.2
                        have z2 := z.2.1
                        first | omega | exact c28 ((inRM_iff hP).mpr z.1)), show q.toNat = nb (stg M (v + 2)) - (k + 1) by omega]⟩) rfl
        · refine J_iload_n hX dX2_frontBox_46 rfl ?_
          refine J_iload hX dX2_frontBox_47 rfl ?_
          refine J_aload_n hX dX2_frontBox_49 rfl ?_
          refine J_gr hX (v + 2 + 1) fr_RX2_22 dX2_frontBox_50 (show K (v + 1) = 2 from hV 1 (by decide)) rfl ?_
          refine J_gr hX (v + 2 + 7) fr_RX2_142 dX2_frontBox_53 (show K (v + 2 + 1) = 6 from (hV).stage 1 (by decide)) rfl ?_
          refine J_iload hX dX2_frontBox_56 rfl ?_
          refine J_iald hX dX2_frontBox_58 (show K (v + 2 + 7) = 1000 + 20 from (hV).stage 7 (by decide)) ⟨by omega, by omega⟩ (by decide) (fun r58 => ?_)
          refine J_iadd hX dX2_frontBox_59 ?_
          refine J_icmp_ge hX 66 dX2_frontBox_60 (by omega) (by omega) (by decide) (fun c60 => ?_) (fun c60 => ?_)
          · refine J_iinc hX dX2_frontBox_66 rfl (by decide) ?_
            refine J_goto hX 8 dX2_frontBox_69 (by decide) ?_
            exact J_locI (ih8 (k + 1) (by omega) (by omega) _ ⟨by omega, by
                        rw [hi8.2]
                        have z9 := frt_f (k1 := q.toNat) (S := stg M (v + 2)) (l := l) (c := c) (r := r) (k := nb (stg M (v + 2)) - k) (by omega)
                        rw [hq] at z9
                        rw [z9 (fun z => by
                          have z1 : c < col (stg M (v + 2)) l (ord (stg M (v + 2)) q) + M (v + 2 + 7) (ord (stg M (v + 2)) q) := z.2.2
                          have z2 := z.2.1
                          first | omega | exact c28 ((inRM_iff hP).mpr z.1)), show q.toNat = nb (stg M (v + 2)) - (k + 1) by omega]⟩) rfl
          · refine J_iload hX dX2_frontBox_63 rfl ?_
            exact J_retI hX hQ dX2_frontBox_65 (by first | (unfold front; rw [hi8.2, show nb (stg M (v + 2)) - k = 0 by omega]; rfl) | (unfold front; rw [hi8.2]; have z9 := frt_t (k1 := q.toNat) (S := (stg M (v + 2))) (l := l) (c := c) (r := r) (k := nb (stg M (v + 2)) - k) (by omega); rw [hq] at z9; exact (z9 ⟨(inRM_iff hP).mp c28, by omega, by show c < col (stg M (v + 2)) l (ord (stg M (v + 2)) q) + M (v + 2 + 7) (ord (stg M (v + 2)) q); omega⟩).symm)) rfl rfl (Nat.zero_le _) (Nat.zero_le _)
  exact J_locI (HL8 0 (Nat.zero_le _) _ ⟨by omega, rfl⟩) rfl
-- X7_titleColumn
set_option maxHeartbeats 4000000 in
set_option maxRecDepth 100000 in
theorem m_X7_titleColumn {E : EE} {K : Nat → Nat} {M : MM} {v : Nat} {T l : Int} (hV : ViewK K v) (hW : WF T M (v + 2)) (hV2 : Vwt M v (stg M (v + 2))) (hl : l = 0 ∨ l = 1) : CnI E 2 yX7_titleColumn cX7_titleColumn 2 (Option.some FieldType.int) [.ref v, vI l] K M (tco (stg M (v + 2)) l) := by
  have hW0 := hW
  obtain ⟨hT0, ⟨ws1, ws2, ws3, ws4, ws5, ws6, ws7, ws8, ws9, ws10, ws11, ws12, ws13, ws14⟩, hWn, hWc⟩ := hW0
  have hS0 := hW.S
  have t1 := hV2.2.1
  have t2 := hV2.2.2
  have tr := ttl_rng hS0
  refine ⟨Cn_of RX7 (plainFor_of_name (by decide)) rfl (Nat.le_of_ble_eq_true rfl) (fun X hX hQ => ?_), by have := tco_rng hW.S l; omega⟩
  refine J_aload_n hX dX7_titleColumn_0 rfl ?_
  refine J_geti hX fi_RX7_92 dX7_titleColumn_1 (show K (v) = 7 from hV 0 (by decide)) (fun r1 => ?_)
  refine J_if_ge hX 13 dX7_titleColumn_4 (by omega) (by decide) (fun c4 => ?_) (fun c4 => ?_)
  · refine J_iload_n hX dX7_titleColumn_13 rfl ?_
    refine J_aload_n hX dX7_titleColumn_14 rfl ?_
    refine J_gr hX (v + 2) fr_RX7_22 dX7_titleColumn_15 (show K (v) = 7 from hV 0 (by decide)) rfl ?_
    refine J_geti hX fi_RX7_116 dX7_titleColumn_18 (show K (v + 2) = 5 from (hV).stage 0 (by decide)) (fun r18 => ?_)
    refine J_aload_n hX dX7_titleColumn_21 rfl ?_
    refine J_geti hX fi_RX7_95 dX7_titleColumn_22 (show K (v) = 7 from hV 0 (by decide)) (fun r22 => ?_)
    refine J_callNI hX _ dX7_titleColumn_25 cw_RX7_119 (m_X9_columnOf (by omega) (by omega) (by omega)) rfl (Nat.le_of_ble_eq_true rfl) (by decide) ⟨Nat.zero_le _, Nat.zero_le _⟩ (fun r25 => ?_)
    exact J_retI hX hQ dX7_titleColumn_28 (by first | (unfold tco; rw [if_pos (by omega)]) | (unfold tco; rw [if_neg (by omega), ← t2]; rfl)) rfl rfl (Nat.zero_le _) (Nat.zero_le _)
  · refine J_sipush hX dX7_titleColumn_7 rfl ?_
    refine J_goto hX 28 dX7_titleColumn_10 (by decide) ?_
    exact J_retI hX hQ dX7_titleColumn_28 (by first | (unfold tco; rw [if_pos (by omega)]) | (unfold tco; rw [if_neg (by omega), ← t2]; rfl)) rfl rfl (Nat.zero_le _) (Nat.zero_le _)
-- X7_shadeAt
set_option maxHeartbeats 4000000 in
set_option maxRecDepth 100000 in
theorem m_X7_shadeAt {E : EE} {K : Nat → Nat} {M : MM} {v : Nat} {T l c r : Int} (hV : ViewK K v) (hW : WF T M (v + 2)) (hV2 : Vwt M v (stg M (v + 2))) (hl : l = 0 ∨ l = 1) (hc : i32 c) (hr : i32 r) : CnI E 3 yX7_shadeAt cX7_shadeAt 6 (Option.some FieldType.int) [.ref v, vI l, vI c, vI r] K M (shd (stg M (v + 2)) l c r) := by
  have hW0 := hW
  obtain ⟨hT0, ⟨ws1, ws2, ws3, ws4, ws5, ws6, ws7, ws8, ws9, ws10, ws11, ws12, ws13, ws14⟩, hWn, hWc⟩ := hW0
  have hS0 := hW.S
  have hP := hV2.1.1
  have hw1 := wnd_rng hS0 1
  have hw0 := wnd_rng hS0 0
  have hd1 := hV2.1.2.1
  have hd0 := hV2.1.2.2
  have t1 := hV2.2.1
  have t2 := hV2.2.2
  have tr := ttl_rng hS0
  have tcr := tco_rng hS0 l
  have eO : (if l = 0 then (0 : Int) else M v 3) = opn (stg M (v + 2)) l := by unfold opn; rw [hd1]
  have eC : (if l = 0 then M (v + 2) 3 - M v 4 else M (v + 2) 3) = cls (stg M (v + 2)) l := by unfold cls; rw [hd0]; rfl
  have s7 : (stg M (v + 2)) 0 7 = M (v + 2) 7 := rfl
  refine ⟨Cn_of RX7 (plainFor_of_name (by decide)) rfl (Nat.le_of_ble_eq_true rfl) (fun X hX hQ => ?_), by have := shd_rng hW.S l c r; omega⟩
  refine J_iload_n hX dX7_shadeAt_0 rfl ?_
  refine J_aload_n hX dX7_shadeAt_1 rfl ?_
  refine J_iload_n hX dX7_shadeAt_2 rfl ?_
  refine J_callVI hX _ dX7_shadeAt_3 cw_RX7_123 (m_X7_firstOpen hV hl (by omega)) ⟨(show K (v) = 7 from hV 0 (by decide)), by decide, by decide, rfl⟩ rfl (Nat.le_of_ble_eq_true rfl) (by decide) ⟨Nat.zero_le _, Nat.zero_le _⟩ (fun r3 => ?_)
  refine J_icmp_lt hX 18 dX7_shadeAt_6 (by omega) (by omega) (by decide) (fun c6 => ?_) (fun c6 => ?_)
  · refine J_iconst hX dX7_shadeAt_18 ?_
    exact J_retI hX hQ dX7_shadeAt_19 (by unfold shd; first | (rw [if_pos (by omega)]) | (rw [if_neg (by omega), if_pos (by omega)]) | (rw [if_neg (by omega), if_neg (by omega), if_pos (by assumption)]; rfl) | (rw [if_neg (by omega), if_neg (by omega), if_neg (by assumption)]; rfl)) rfl rfl (Nat.zero_le _) (Nat.zero_le _)
  · refine J_iload_n hX dX7_shadeAt_9 rfl ?_
    refine J_aload_n hX dX7_shadeAt_10 rfl ?_
    refine J_iload_n hX dX7_shadeAt_11 rfl ?_
    refine J_callVI hX _ dX7_shadeAt_12 cw_RX7_126 (m_X7_endOfOpen hV hW hl (by omega)) ⟨(show K (v) = 7 from hV 0 (by decide)), by decide, by decide, rfl⟩ rfl (Nat.le_of_ble_eq_true rfl) (by decide) ⟨Nat.zero_le _, Nat.zero_le _⟩ (fun r12 => ?_)
    refine J_icmp_lt hX 20 dX7_shadeAt_15 (by omega) (by omega) (by decide) (fun c15 => ?_) (fun c15 => ?_)
    · refine J_aload_n hX dX7_shadeAt_20 rfl ?_
      refine J_iload_n hX dX7_shadeAt_21 rfl ?_
      refine J_callVI hX _ dX7_shadeAt_22 cw_RX7_136 (m_X7_titleColumn hV hW hV2 (by omega)) ⟨(show K (v) = 7 from hV 0 (by decide)), by decide, by decide, rfl⟩ rfl (Nat.le_of_ble_eq_true rfl) (by decide) ⟨Nat.zero_le _, Nat.zero_le _⟩ (fun r22 => ?_)
      refine J_istore hX dX7_shadeAt_25 (by decide) ?_
      refine J_iload_n hX dX7_shadeAt_27 rfl ?_
      refine J_aload_n hX dX7_shadeAt_28 rfl ?_
      refine J_geti hX fi_RX7_92 dX7_shadeAt_29 (show K (v) = 7 from hV 0 (by decide)) (fun r29 => ?_)
      refine J_icmp_ne hX 58 dX7_shadeAt_32 (by omega) (by omega) (by decide) (fun c32 => ?_) (fun c32 => ?_)
      · refine J_aload_n hX dX7_shadeAt_58 rfl ?_
        refine J_gr hX (v + 1) fr_RX7_12 dX7_shadeAt_59 (show K (v) = 7 from hV 0 (by decide)) rfl ?_
        refine J_iload_n hX dX7_shadeAt_62 rfl ?_
        refine J_iload_n hX dX7_shadeAt_63 rfl ?_
        refine J_iload_n hX dX7_shadeAt_64 rfl ?_
        refine J_callVI hX _ dX7_shadeAt_65 cw_RX7_162 (m_X2_frontBox hV hW hP hl (by omega) (by omega)) ⟨(show K (v + 1) = 2 from hV 1 (by decide)), by decide, by decide, rfl⟩ rfl (Nat.le_of_ble_eq_true rfl) (by decide) ⟨Nat.zero_le _, Nat.zero_le _⟩ (fun r65 => ?_)
        refine J_istore hX dX7_shadeAt_68 (by decide) ?_
        refine J_aload_n hX dX7_shadeAt_70 rfl ?_
        refine J_gr hX (v + 2 + 1) fr_RX7_29 dX7_shadeAt_71 (show K (v) = 7 from hV 0 (by decide)) rfl ?_
        refine J_iload hX dX7_shadeAt_74 rfl ?_
        refine J_callVB hX _ dX7_shadeAt_76 cw_RX7_165 (m_X6_has (hV).stage (by omega)) ⟨(show K (v + 2 + 1) = 6 from (hV).stage 1 (by decide)), by decide, by decide, rfl⟩ rfl (Nat.le_of_ble_eq_true rfl) (by decide) ⟨Nat.zero_le _, Nat.zero_le _⟩ ?_
        refine J_ifb_eq hX 95 dX7_shadeAt_79 (by decide) (fun c79 => ?_) (fun c79 => ?_)
        · refine J_aload_n hX dX7_shadeAt_95 rfl ?_
          refine J_gr hX (v + 2) fr_RX7_22 dX7_shadeAt_96 (show K (v) = 7 from hV 0 (by decide)) rfl ?_
          refine J_gr hX (v + 2 + 15) fr_RX7_159 dX7_shadeAt_99 (show K (v + 2) = 5 from (hV).stage 0 (by decide)) rfl ?_
          refine J_iconst hX dX7_shadeAt_102 ?_
          refine J_iald hX dX7_shadeAt_103 (show K (v + 2 + 15) = 1000 + 4 from (hV).stage 15 (by decide)) ⟨by omega, by omega⟩ (by decide) (fun r103 => ?_)
          exact J_retI hX hQ dX7_shadeAt_104 (by unfold shd; first | (rw [if_pos (by omega)]) | (rw [if_neg (by omega), if_pos (by omega)]) | (rw [if_neg (by omega), if_neg (by omega), if_pos (by assumption)]; rfl) | (rw [if_neg (by omega), if_neg (by omega), if_neg (by assumption)]; rfl)) rfl rfl (Nat.zero_le _) (Nat.zero_le _)
        · refine J_aload_n hX dX7_shadeAt_82 rfl ?_
          refine J_gr hX (v + 2 + 1) fr_RX7_29 dX7_shadeAt_83 (show K (v) = 7 from hV 0 (by decide)) rfl ?_
          refine J_gr hX (v + 2 + 9) fr_RX7_168 dX7_shadeAt_86 (show K (v + 2 + 1) = 6 from (hV).stage 1 (by decide)) rfl ?_
          refine J_iload hX dX7_shadeAt_89 rfl ?_
          refine J_iald hX dX7_shadeAt_91 (show K (v + 2 + 9) = 1000 + 20 from (hV).stage 9 (by decide)) ⟨by omega, by omega⟩ (by decide) (fun r91 => ?_)
          refine J_goto hX 104 dX7_shadeAt_92 (by decide) ?_
          exact J_retI hX hQ dX7_shadeAt_104 (by unfold shd; first | (rw [if_pos (by omega)]) | (rw [if_neg (by omega), if_pos (by omega)]) | (rw [if_neg (by omega), if_neg (by omega), if_pos (by assumption)]; rfl) | (rw [if_neg (by omega), if_neg (by omega), if_neg (by assumption)]; rfl)) rfl rfl (Nat.zero_le _) (Nat.zero_le _)
      · refine J_iload hX dX7_shadeAt_35 rfl ?_
        refine J_iload_n hX dX7_shadeAt_37 rfl ?_
        refine J_icmp_gt hX 58 dX7_shadeAt_38 (by omega) (by omega) (by decide) (fun c38 => ?_) (fun c38 => ?_)
        · refine J_aload_n hX dX7_shadeAt_58 rfl ?_
          refine J_gr hX (v + 1) fr_RX7_12 dX7_shadeAt_59 (show K (v) = 7 from hV 0 (by decide)) rfl ?_
          refine J_iload_n hX dX7_shadeAt_62 rfl ?_
          refine J_iload_n hX dX7_shadeAt_63 rfl ?_
          refine J_iload_n hX dX7_shadeAt_64 rfl ?_
          refine J_callVI hX _ dX7_shadeAt_65 cw_RX7_162 (m_X2_frontBox hV hW hP hl (by omega) (by omega)) ⟨(show K (v + 1) = 2 from hV 1 (by decide)), by decide, by decide, rfl⟩ rfl (Nat.le_of_ble_eq_true rfl) (by decide) ⟨Nat.zero_le _, Nat.zero_le _⟩ (fun r65 => ?_)
          refine J_istore hX dX7_shadeAt_68 (by decide) ?_
          refine J_aload_n hX dX7_shadeAt_70 rfl ?_
          refine J_gr hX (v + 2 + 1) fr_RX7_29 dX7_shadeAt_71 (show K (v) = 7 from hV 0 (by decide)) rfl ?_
          refine J_iload hX dX7_shadeAt_74 rfl ?_
          refine J_callVB hX _ dX7_shadeAt_76 cw_RX7_165 (m_X6_has (hV).stage (by omega)) ⟨(show K (v + 2 + 1) = 6 from (hV).stage 1 (by decide)), by decide, by decide, rfl⟩ rfl (Nat.le_of_ble_eq_true rfl) (by decide) ⟨Nat.zero_le _, Nat.zero_le _⟩ ?_
          refine J_ifb_eq hX 95 dX7_shadeAt_79 (by decide) (fun c79 => ?_) (fun c79 => ?_)
          · refine J_aload_n hX dX7_shadeAt_95 rfl ?_
            refine J_gr hX (v + 2) fr_RX7_22 dX7_shadeAt_96 (show K (v) = 7 from hV 0 (by decide)) rfl ?_
            refine J_gr hX (v + 2 + 15) fr_RX7_159 dX7_shadeAt_99 (show K (v + 2) = 5 from (hV).stage 0 (by decide)) rfl ?_
            refine J_iconst hX dX7_shadeAt_102 ?_
            refine J_iald hX dX7_shadeAt_103 (show K (v + 2 + 15) = 1000 + 4 from (hV).stage 15 (by decide)) ⟨by omega, by omega⟩ (by decide) (fun r103 => ?_)
            exact J_retI hX hQ dX7_shadeAt_104 (by unfold shd; first | (rw [if_pos (by omega)]) | (rw [if_neg (by omega), if_pos (by omega)]) | (rw [if_neg (by omega), if_neg (by omega), if_pos (by assumption)]; rfl) | (rw [if_neg (by omega), if_neg (by omega), if_neg (by assumption)]; rfl)) rfl rfl (Nat.zero_le _) (Nat.zero_le _)
          · refine J_aload_n hX dX7_shadeAt_82 rfl ?_
            refine J_gr hX (v + 2 + 1) fr_RX7_29 dX7_shadeAt_83 (show K (v) = 7 from hV 0 (by decide)) rfl ?_
            refine J_gr hX (v + 2 + 9) fr_RX7_168 dX7_shadeAt_86 (show K (v + 2 + 1) = 6 from (hV).stage 1 (by decide)) rfl ?_
            refine J_iload hX dX7_shadeAt_89 rfl ?_
            refine J_iald hX dX7_shadeAt_91 (show K (v + 2 + 9) = 1000 + 20 from (hV).stage 9 (by decide)) ⟨by omega, by omega⟩ (by decide) (fun r91 => ?_)
            refine J_goto hX 104 dX7_shadeAt_92 (by decide) ?_
            exact J_retI hX hQ dX7_shadeAt_104 (by unfold shd; first | (rw [if_pos (by omega)]) | (rw [if_neg (by omega), if_pos (by omega)]) | (rw [if_neg (by omega), if_neg (by omega), if_pos (by assumption)]; rfl) | (rw [if_neg (by omega), if_neg (by omega), if_neg (by assumption)]; rfl)) rfl rfl (Nat.zero_le _) (Nat.zero_le _)
        · refine J_iload_n hX dX7_shadeAt_41 rfl ?_
          refine J_iload hX dX7_shadeAt_42 rfl ?_
          refine J_aload_n hX dX7_shadeAt_44 rfl ?_
          refine J_gr hX (v + 2) fr_RX7_22 dX7_shadeAt_45 (show K (v) = 7 from hV 0 (by decide)) rfl ?_
          refine J_geti hX fi_RX7_98 dX7_shadeAt_48 (show K (v + 2) = 5 from (hV).stage 0 (by decide)) (fun r48 => ?_)
          refine J_iadd hX dX7_shadeAt_51 ?_
          refine J_icmp_ge hX 58 dX7_shadeAt_52 (by omega) (by omega) (by decide) (fun c52 => ?_) (fun c52 => ?_)
          · refine J_aload_n hX dX7_shadeAt_58 rfl ?_
            refine J_gr hX (v + 1) fr_RX7_12 dX7_shadeAt_59 (show K (v) = 7 from hV 0 (by decide)) rfl ?_
            refine J_iload_n hX dX7_shadeAt_62 rfl ?_
            refine J_iload_n hX dX7_shadeAt_63 rfl ?_
            refine J_iload_n hX dX7_shadeAt_64 rfl ?_
            refine J_callVI hX _ dX7_shadeAt_65 cw_RX7_162 (m_X2_frontBox hV hW hP hl (by omega) (by omega)) ⟨(show K (v + 1) = 2 from hV 1 (by decide)), by decide, by decide, rfl⟩ rfl (Nat.le_of_ble_eq_true rfl) (by decide) ⟨Nat.zero_le _, Nat.zero_le _⟩ (fun r65 => ?_)
            refine J_istore hX dX7_shadeAt_68 (by decide) ?_
            refine J_aload_n hX dX7_shadeAt_70 rfl ?_
            refine J_gr hX (v + 2 + 1) fr_RX7_29 dX7_shadeAt_71 (show K (v) = 7 from hV 0 (by decide)) rfl ?_
            refine J_iload hX dX7_shadeAt_74 rfl ?_
            refine J_callVB hX _ dX7_shadeAt_76 cw_RX7_165 (m_X6_has (hV).stage (by omega)) ⟨(show K (v + 2 + 1) = 6 from (hV).stage 1 (by decide)), by decide, by decide, rfl⟩ rfl (Nat.le_of_ble_eq_true rfl) (by decide) ⟨Nat.zero_le _, Nat.zero_le _⟩ ?_
            refine J_ifb_eq hX 95 dX7_shadeAt_79 (by decide) (fun c79 => ?_) (fun c79 => ?_)
            · refine J_aload_n hX dX7_shadeAt_95 rfl ?_
              refine J_gr hX (v + 2) fr_RX7_22 dX7_shadeAt_96 (show K (v) = 7 from hV 0 (by decide)) rfl ?_
              refine J_gr hX (v + 2 + 15) fr_RX7_159 dX7_shadeAt_99 (show K (v + 2) = 5 from (hV).stage 0 (by decide)) rfl ?_
              refine J_iconst hX dX7_shadeAt_102 ?_
              refine J_iald hX dX7_shadeAt_103 (show K (v + 2 + 15) = 1000 + 4 from (hV).stage 15 (by decide)) ⟨by omega, by omega⟩ (by decide) (fun r103 => ?_)
              exact J_retI hX hQ dX7_shadeAt_104 (by unfold shd; first | (rw [if_pos (by omega)]) | (rw [if_neg (by omega), if_pos (by omega)]) | (rw [if_neg (by omega), if_neg (by omega), if_pos (by assumption)]; rfl) | (rw [if_neg (by omega), if_neg (by omega), if_neg (by assumption)]; rfl)) rfl rfl (Nat.zero_le _) (Nat.zero_le _)
            · refine J_aload_n hX dX7_shadeAt_82 rfl ?_
              refine J_gr hX (v + 2 + 1) fr_RX7_29 dX7_shadeAt_83 (show K (v) = 7 from hV 0 (by decide)) rfl ?_
              refine J_gr hX (v + 2 + 9) fr_RX7_168 dX7_shadeAt_86 (show K (v + 2 + 1) = 6 from (hV).stage 1 (by decide)) rfl ?_
              refine J_iload hX dX7_shadeAt_89 rfl ?_
              refine J_iald hX dX7_shadeAt_91 (show K (v + 2 + 9) = 1000 + 20 from (hV).stage 9 (by decide)) ⟨by omega, by omega⟩ (by decide) (fun r91 => ?_)
              refine J_goto hX 104 dX7_shadeAt_92 (by decide) ?_
              exact J_retI hX hQ dX7_shadeAt_104 (by unfold shd; first | (rw [if_pos (by omega)]) | (rw [if_neg (by omega), if_pos (by omega)]) | (rw [if_neg (by omega), if_neg (by omega), if_pos (by assumption)]; rfl) | (rw [if_neg (by omega), if_neg (by omega), if_neg (by assumption)]; rfl)) rfl rfl (Nat.zero_le _) (Nat.zero_le _)
          · refine J_bipush hX dX7_shadeAt_55 rfl ?_
            exact J_retI hX hQ dX7_shadeAt_57 (by unfold shd; first | (rw [if_pos (by omega)]) | (rw [if_neg (by omega), if_pos (by omega)]) | (rw [if_neg (by omega), if_neg (by omega), if_pos (by assumption)]; rfl) | (rw [if_neg (by omega), if_neg (by omega), if_neg (by assumption)]; rfl)) rfl rfl (Nat.zero_le _) (Nat.zero_le _)
    · refine J_iconst hX dX7_shadeAt_18 ?_
      exact J_retI hX hQ dX7_shadeAt_19 (by unfold shd; first | (rw [if_pos (by omega)]) | (rw [if_neg (by omega), if_pos (by omega)]) | (rw [if_neg (by omega), if_neg (by omega), if_pos (by assumption)]; rfl) | (rw [if_neg (by omega), if_neg (by omega), if_neg (by assumption)]; rfl)) rfl rfl (Nat.zero_le _) (Nat.zero_le _)
-- X7_ghostOf
set_option maxHeartbeats 4000000 in
set_option maxRecDepth 100000 in
theorem m_X7_ghostOf {E : EE} {K : Nat → Nat} {M : MM} {v : Nat} {T x y : Int} (hV : ViewK K v) (hW : WF T M (v + 2)) (hx : 0 ≤ x ∧ x ≤ 15) (hy : 0 ≤ y ∧ y ≤ 15) : CnI E 1 yX7_ghostOf cX7_ghostOf 3 (Option.some FieldType.int) [.ref v, vI x, vI y] K M (gst (stg M (v + 2)) x y) := by
  have hW0 := hW
  obtain ⟨hT0, ⟨ws1, ws2, ws3, ws4, ws5, ws6, ws7, ws8, ws9, ws10, ws11, ws12, ws13, ws14⟩, hWn, hWc⟩ := hW0
  have hS0 := hW.S
  have gm : 0 ≤ M (v + 2 + 15) 3 * (if x - y < 0 then -(x - y) else x - y) ∧ M (v + 2 + 15) 3 * (if x - y < 0 then -(x - y) else x - y) ≤ 1500 := by have a := mul_bd (x := M (v + 2 + 15) 3) (y := if x - y < 0 then -(x - y) else x - y) (A := 100) (B := 15) (by omega) (by omega) (by split <;> omega) (by split <;> omega); exact ⟨Int.mul_nonneg (by omega) (by split <;> omega), by omega⟩
  refine ⟨Cn_of RX7 (plainFor_of_name (by decide)) rfl (Nat.le_of_ble_eq_true rfl) (fun X hX hQ => ?_), by have := gst_rng hW.S hx hy; omega⟩
  refine J_aload_n hX dX7_ghostOf_0 rfl ?_
  refine J_gr hX (v + 2) fr_RX7_22 dX7_ghostOf_1 (show K (v) = 7 from hV 0 (by decide)) rfl ?_
  refine J_gr hX (v + 2 + 15) fr_RX7_159 dX7_ghostOf_4 (show K (v + 2) = 5 from (hV).stage 0 (by decide)) rfl ?_
  refine J_iconst hX dX7_ghostOf_7 ?_
  refine J_iald hX dX7_ghostOf_8 (show K (v + 2 + 15) = 1000 + 4 from (hV).stage 15 (by decide)) ⟨by omega, by omega⟩ (by decide) (fun r8 => ?_)
  refine J_iload_n hX dX7_ghostOf_9 rfl ?_
  refine J_iload_n hX dX7_ghostOf_10 rfl ?_
  refine J_isub hX dX7_ghostOf_11 ?_
  refine J_callSI hX _ dX7_ghostOf_12 cw_RX7_178 (m_J9_abs_0f7a4 (by omega)) rfl (Nat.le_of_ble_eq_true rfl) (by decide) ⟨Nat.zero_le _, Nat.zero_le _⟩ (fun r12 => ?_)
  refine J_imul hX dX7_ghostOf_15 ?_
  refine J_bipush hX dX7_ghostOf_16 rfl ?_
  refine J_idiv hX dX7_ghostOf_18 (by omega) ⟨by omega, by omega⟩ ?_
  exact J_retI hX hQ dX7_ghostOf_19 (by rw [Int.tdiv_eq_ediv_of_nonneg gm.1]; rfl) rfl rfl (Nat.zero_le _) (Nat.zero_le _)
-- X7_ghostAt
set_option maxHeartbeats 4000000 in
set_option maxRecDepth 100000 in
theorem m_X7_ghostAt {E : EE} {K : Nat → Nat} {M : MM} {v : Nat} {T c r : Int} (hV : ViewK K v) (hW : WF T M (v + 2)) (hV2 : Vwt M v (stg M (v + 2))) (hc : i32 c) (hr : i32 r) : CnI E 4 yX7_ghostAt cX7_ghostAt 3 (Option.some FieldType.int) [.ref v, vI c, vI r] K M (ghs (stg M (v + 2)) c r) := by
  have h1 := shd_rng hW.S 1 c r
  have h0 := shd_rng hW.S 0 c r
  refine ⟨Cn_of RX7 (plainFor_of_name (by decide)) rfl (Nat.le_of_ble_eq_true rfl) (fun X hX hQ => ?_), by have := gst_rng hW.S (shd_rng hW.S 1 c r) (shd_rng hW.S 0 c r); unfold ghs; omega⟩
  refine J_aload_n hX dX7_ghostAt_0 rfl ?_
  refine J_aload_n hX dX7_ghostAt_1 rfl ?_
  refine J_iconst hX dX7_ghostAt_2 ?_
  refine J_iload_n hX dX7_ghostAt_3 rfl ?_
  refine J_iload_n hX dX7_ghostAt_4 rfl ?_
  refine J_callVI hX _ dX7_ghostAt_5 cw_RX7_171 (m_X7_shadeAt hV hW hV2 (by omega) (by omega) (by omega)) ⟨(show K (v) = 7 from hV 0 (by decide)), by decide, by decide, rfl⟩ rfl (Nat.le_of_ble_eq_true rfl) (by decide) ⟨Nat.zero_le _, Nat.zero_le _⟩ (fun r5 => ?_)
  refine J_aload_n hX dX7_ghostAt_8 rfl ?_
  refine J_iconst hX dX7_ghostAt_9 ?_
  refine J_iload_n hX dX7_ghostAt_10 rfl ?_
  refine J_iload_n hX dX7_ghostAt_11 rfl ?_
  refine J_callVI hX _ dX7_ghostAt_12 cw_RX7_171 (m_X7_shadeAt hV hW hV2 (by omega) (by omega) (by omega)) ⟨(show K (v) = 7 from hV 0 (by decide)), by decide, by decide, rfl⟩ rfl (Nat.le_of_ble_eq_true rfl) (by decide) ⟨Nat.zero_le _, Nat.zero_le _⟩ (fun r12 => ?_)
  refine J_callVI hX _ dX7_ghostAt_15 cw_RX7_174 (m_X7_ghostOf hV hW (by omega) (by omega)) ⟨(show K (v) = 7 from hV 0 (by decide)), by decide, by decide, rfl⟩ rfl (Nat.le_of_ble_eq_true rfl) (by decide) ⟨Nat.zero_le _, Nat.zero_le _⟩ (fun r15 => ?_)
  exact J_retI hX hQ dX7_ghostAt_18 (by rfl) rfl rfl (Nat.zero_le _) (Nat.zero_le _)
-- X7_titleValue
set_option maxHeartbeats 4000000 in
set_option maxRecDepth 100000 in
theorem m_X7_titleValue {E : EE} {K : Nat → Nat} {M : MM} {v : Nat} {T w : Int} (hV : ViewK K v) (hW : WF T M (v + 2)) (hV2 : Vwt M v (stg M (v + 2))) (hw : 0 ≤ w ∧ w ≤ 6) : CnI E 3 yX7_titleValue cX7_titleValue 2 (Option.some FieldType.int) [.ref v, vI w] K M (tvl (stg M (v + 2)) w) := by
  have hW0 := hW
  obtain ⟨hT0, ⟨ws1, ws2, ws3, ws4, ws5, ws6, ws7, ws8, ws9, ws10, ws11, ws12, ws13, ws14⟩, hWn, hWc⟩ := hW0
  have hS0 := hW.S
  have hP := hV2.1.1
  have hw1 := wnd_rng hS0 1
  have hw0 := wnd_rng hS0 0
  have hd1 := hV2.1.2.1
  have hd0 := hV2.1.2.2
  have t1 := hV2.2.1
  have t2 := hV2.2.2
  have tr := ttl_rng hS0
  have s03 : (stg M (v + 2)) 0 3 = M (v + 2) 3 := rfl
  have s04 : (stg M (v + 2)) 0 4 = M (v + 2) 4 := rfl
  have s05 : (stg M (v + 2)) 0 5 = M (v + 2) 5 := rfl
  have s06 : (stg M (v + 2)) 0 6 = M (v + 2) 6 := rfl
  have s07 : (stg M (v + 2)) 0 7 = M (v + 2) 7 := rfl
  have s10 : (stg M (v + 2)) 1 0 = M (v + 2 + 1) 0 := rfl
  have s110 : (stg M (v + 2)) 11 0 = M (v + 2 + 11) 0 := rfl
  have s111 : (stg M (v + 2)) 11 1 = M (v + 2 + 11) 1 := rfl
  have s112 : (stg M (v + 2)) 11 2 = M (v + 2 + 11) 2 := rfl
  have s113 : (stg M (v + 2)) 11 3 = M (v + 2 + 11) 3 := rfl
  have s150 : (stg M (v + 2)) 15 0 = M (v + 2 + 15) 0 := rfl
  have s151 : (stg M (v + 2)) 15 1 = M (v + 2 + 15) 1 := rfl
  have s152 : (stg M (v + 2)) 15 2 = M (v + 2 + 15) 2 := rfl
  have s153 : (stg M (v + 2)) 15 3 = M (v + 2 + 15) 3 := rfl
  refine ⟨Cn_of RX7 (plainFor_of_name (by decide)) rfl (Nat.le_of_ble_eq_true rfl) (fun X hX hQ => ?_), tvl_rng hW.S w⟩
  refine J_aload_n hX dX7_titleValue_0 rfl ?_
  refine J_gr hX (v + 2) fr_RX7_22 dX7_titleValue_1 (show K (v) = 7 from hV 0 (by decide)) rfl ?_
  refine J_geti hX fi_RX7_98 dX7_titleValue_4 (show K (v + 2) = 5 from (hV).stage 0 (by decide)) (fun r4 => ?_)
  refine J_if_ne hX 14 dX7_titleValue_7 (by omega) (by decide) (fun c7 => ?_) (fun c7 => ?_)
  · refine J_iload_n hX dX7_titleValue_14 rfl ?_
    rcases (show (w = 0) ∨ (w = 1) ∨ (w = 2) ∨ (w = 3) ∨ (w = 4) ∨ (w < 0 ∨ 4 < w) by omega) with e0 | e0 | e0 | e0 | e0 | e0
    · skip
      refine J_tin hX (33) 48 dX7_titleValue_15 (by omega) (by omega) (by rw [e0]; rfl) (by decide) ?_
      refine J_aload_n hX dX7_titleValue_48 rfl ?_
      refine J_gr hX (v + 2) fr_RX7_22 dX7_titleValue_49 (show K (v) = 7 from hV 0 (by decide)) rfl ?_
      refine J_geti hX fi_RX7_116 dX7_titleValue_52 (show K (v + 2) = 5 from (hV).stage 0 (by decide)) (fun r52 => ?_)
      exact J_retI hX hQ dX7_titleValue_55 (by unfold tvl; first | (rw [if_pos (by omega)]) | (rw [if_neg (by omega)]; (first | subst e0 | ((have e1 : w = 5 := by omega); subst e1) | ((have e1 : w = 6 := by omega); subst e1)); first | rfl | assumption)) rfl rfl (Nat.zero_le _) (Nat.zero_le _)
    · skip
      refine J_tin hX (41) 56 dX7_titleValue_15 (by omega) (by omega) (by rw [e0]; rfl) (by decide) ?_
      refine J_aload_n hX dX7_titleValue_56 rfl ?_
      refine J_gr hX (v + 2) fr_RX7_22 dX7_titleValue_57 (show K (v) = 7 from hV 0 (by decide)) rfl ?_
      refine J_geti hX fi_RX7_101 dX7_titleValue_60 (show K (v + 2) = 5 from (hV).stage 0 (by decide)) (fun r60 => ?_)
      exact J_retI hX hQ dX7_titleValue_63 (by unfold tvl; first | (rw [if_pos (by omega)]) | (rw [if_neg (by omega)]; (first | subst e0 | ((have e1 : w = 5 := by omega); subst e1) | ((have e1 : w = 6 := by omega); subst e1)); first | rfl | assumption)) rfl rfl (Nat.zero_le _) (Nat.zero_le _)
    · skip
      refine J_tin hX (49) 64 dX7_titleValue_15 (by omega) (by omega) (by rw [e0]; rfl) (by decide) ?_
      refine J_aload_n hX dX7_titleValue_64 rfl ?_
      refine J_gr hX (v + 2) fr_RX7_22 dX7_titleValue_65 (show K (v) = 7 from hV 0 (by decide)) rfl ?_
      refine J_geti hX fi_RX7_98 dX7_titleValue_68 (show K (v + 2) = 5 from (hV).stage 0 (by decide)) (fun r68 => ?_)
      exact J_retI hX hQ dX7_titleValue_71 (by unfold tvl; first | (rw [if_pos (by omega)]) | (rw [if_neg (by omega)]; (first | subst e0 | ((have e1 : w = 5 := by omega); subst e1) | ((have e1 : w = 6 := by omega); subst e1)); first | rfl | assumption)) rfl rfl (Nat.zero_le _) (Nat.zero_le _)
    · skip
      refine J_tin hX (57) 72 dX7_titleValue_15 (by omega) (by omega) (by rw [e0]; rfl) (by decide) ?_
      refine J_aload_n hX dX7_titleValue_72 rfl ?_
      refine J_geti hX fi_RX7_92 dX7_titleValue_73 (show K (v) = 7 from hV 0 (by decide)) (fun r73 => ?_)
      exact J_retI hX hQ dX7_titleValue_76 (by unfold tvl; first | (rw [if_pos (by omega)]) | (rw [if_neg (by omega)]; (first | subst e0 | ((have e1 : w = 5 := by omega); subst e1) | ((have e1 : w = 6 := by omega); subst e1)); first | rfl | assumption)) rfl rfl (Nat.zero_le _) (Nat.zero_le _)
    · skip
      refine J_tin hX (62) 77 dX7_titleValue_15 (by omega) (by omega) (by rw [e0]; rfl) (by decide) ?_
      refine J_aload_n hX dX7_titleValue_77 rfl ?_
      refine J_geti hX fi_RX7_95 dX7_titleValue_78 (show K (v) = 7 from hV 0 (by decide)) (fun r78 => ?_)
      exact J_retI hX hQ dX7_titleValue_81 (by unfold tvl; first | (rw [if_pos (by omega)]) | (rw [if_neg (by omega)]; (first | subst e0 | ((have e1 : w = 5 := by omega); subst e1) | ((have e1 : w = 6 := by omega); subst e1)); first | rfl | assumption)) rfl rfl (Nat.zero_le _) (Nat.zero_le _)
    · skip
      refine J_tout hX 82 dX7_titleValue_15 (by omega) (by omega) (by decide) ?_
      refine J_aload_n hX dX7_titleValue_82 rfl ?_
      refine J_iload_n hX dX7_titleValue_83 rfl ?_
      refine J_iconst hX dX7_titleValue_84 ?_
      refine J_icmp_ne hX 92 dX7_titleValue_85 (by omega) (by decide) (by decide) (fun c85 => ?_) (fun c85 => ?_)
      · refine J_iconst hX dX7_titleValue_92 ?_
        refine J_callVI hX _ dX7_titleValue_93 cw_RX7_136 (m_X7_titleColumn hV hW hV2 (by omega)) ⟨(show K (v) = 7 from hV 0 (by decide)), by decide, by decide, rfl⟩ rfl (Nat.le_of_ble_eq_true rfl) (by decide) ⟨Nat.zero_le _, Nat.zero_le _⟩ (fun r93 => ?_)
        exact J_retI hX hQ dX7_titleValue_96 (by unfold tvl; first | (rw [if_pos (by omega)]) | (rw [if_neg (by omega)]; (first | subst e0 | ((have e1 : w = 5 := by omega); subst e1) | ((have e1 : w = 6 := by omega); subst e1)); first | rfl | assumption)) rfl rfl (Nat.zero_le _) (Nat.zero_le _)
      · refine J_iconst hX dX7_titleValue_88 ?_
        refine J_goto hX 93 dX7_titleValue_89 (by decide) ?_
        refine J_callVI hX _ dX7_titleValue_93 cw_RX7_136 (m_X7_titleColumn hV hW hV2 (by omega)) ⟨(show K (v) = 7 from hV 0 (by decide)), by decide, by decide, rfl⟩ rfl (Nat.le_of_ble_eq_true rfl) (by decide) ⟨Nat.zero_le _, Nat.zero_le _⟩ (fun r93 => ?_)
        exact J_retI hX hQ dX7_titleValue_96 (by unfold tvl; first | (rw [if_pos (by omega)]) | (rw [if_neg (by omega)]; (first | subst e0 | ((have e1 : w = 5 := by omega); subst e1) | ((have e1 : w = 6 := by omega); subst e1)); first | rfl | assumption)) rfl rfl (Nat.zero_le _) (Nat.zero_le _)
  · refine J_sipush hX dX7_titleValue_10 rfl ?_
    exact J_retI hX hQ dX7_titleValue_13 (by unfold tvl; first | (rw [if_pos (by omega)]) | (rw [if_neg (by omega)]; (first | subst e0 | ((have e1 : w = 5 := by omega); subst e1) | ((have e1 : w = 6 := by omega); subst e1)); first | rfl | assumption)) rfl rfl (Nat.zero_le _) (Nat.zero_le _)
-- X7_wholeValue
set_option maxHeartbeats 4000000 in
set_option maxRecDepth 100000 in
theorem m_X7_wholeValue {E : EE} {K : Nat → Nat} {M : MM} {v : Nat} {T w : Int} (hV : ViewK K v) (hW : WF T M (v + 2)) (hV2 : Vwt M v (stg M (v + 2))) (hw : 0 ≤ w ∧ w ≤ 15) : CnI E 2 yX7_wholeValue cX7_wholeValue 2 (Option.some FieldType.int) [.ref v, vI w] K M (wvl (stg M (v + 2)) w) := by
  have hW0 := hW
  obtain ⟨hT0, ⟨ws1, ws2, ws3, ws4, ws5, ws6, ws7, ws8, ws9, ws10, ws11, ws12, ws13, ws14⟩, hWn, hWc⟩ := hW0
  have hS0 := hW.S
  have hP := hV2.1.1
  have hw1 := wnd_rng hS0 1
  have hw0 := wnd_rng hS0 0
  have hd1 := hV2.1.2.1
  have hd0 := hV2.1.2.2
  have t1 := hV2.2.1
  have t2 := hV2.2.2
  have tr := ttl_rng hS0
  have s03 : (stg M (v + 2)) 0 3 = M (v + 2) 3 := rfl
  have s04 : (stg M (v + 2)) 0 4 = M (v + 2) 4 := rfl
  have s05 : (stg M (v + 2)) 0 5 = M (v + 2) 5 := rfl
  have s06 : (stg M (v + 2)) 0 6 = M (v + 2) 6 := rfl
  have s07 : (stg M (v + 2)) 0 7 = M (v + 2) 7 := rfl
  have s10 : (stg M (v + 2)) 1 0 = M (v + 2 + 1) 0 := rfl
  have s110 : (stg M (v + 2)) 11 0 = M (v + 2 + 11) 0 := rfl
  have s111 : (stg M (v + 2)) 11 1 = M (v + 2 + 11) 1 := rfl
  have s112 : (stg M (v + 2)) 11 2 = M (v + 2 + 11) 2 := rfl
  have s113 : (stg M (v + 2)) 11 3 = M (v + 2 + 11) 3 := rfl
  have s150 : (stg M (v + 2)) 15 0 = M (v + 2 + 15) 0 := rfl
  have s151 : (stg M (v + 2)) 15 1 = M (v + 2 + 15) 1 := rfl
  have s152 : (stg M (v + 2)) 15 2 = M (v + 2 + 15) 2 := rfl
  have s153 : (stg M (v + 2)) 15 3 = M (v + 2 + 15) 3 := rfl
  have hpc := hP.2.2.2.1
  refine ⟨Cn_of RX7 (plainFor_of_name (by decide)) rfl (Nat.le_of_ble_eq_true rfl) (fun X hX hQ => ?_), wvl_rng hW.S w⟩
  refine J_iload_n hX dX7_wholeValue_0 rfl ?_
  rcases (show (w = 0) ∨ (w = 1) ∨ (w = 2) ∨ (w = 3) ∨ (w = 4) ∨ (w = 5) ∨ (w = 6) ∨ (w = 7) ∨ (w = 8) ∨ (w = 9) ∨ (w = 10) ∨ (w = 11) ∨ (w = 12) ∨ (w = 13) ∨ (w = 14) ∨ (w < 0 ∨ 14 < w) by omega) with e0 | e0 | e0 | e0 | e0 | e0 | e0 | e0 | e0 | e0 | e0 | e0 | e0 | e0 | e0 | e0
  · skip
    refine J_tin hX (75) 76 dX7_wholeValue_1 (by omega) (by omega) (by rw [e0]; rfl) (by decide) ?_
    refine J_aload_n hX dX7_wholeValue_76 rfl ?_
    refine J_gr hX (v + 2) fr_RX7_22 dX7_wholeValue_77 (show K (v) = 7 from hV 0 (by decide)) rfl ?_
    refine J_geti hX fi_RX7_90 dX7_wholeValue_80 (show K (v + 2) = 5 from (hV).stage 0 (by decide)) (fun r80 => ?_)
    exact J_retI hX hQ dX7_wholeValue_83 (by (first | subst e0 | ((have e1 : w = 15 := by omega); subst e1)); first | rfl | assumption) rfl rfl (Nat.zero_le _) (Nat.zero_le _)
  · skip
    refine J_tin hX (83) 84 dX7_wholeValue_1 (by omega) (by omega) (by rw [e0]; rfl) (by decide) ?_
    refine J_aload_n hX dX7_wholeValue_84 rfl ?_
    refine J_gr hX (v + 2) fr_RX7_22 dX7_wholeValue_85 (show K (v) = 7 from hV 0 (by decide)) rfl ?_
    refine J_geti hX fi_RX7_139 dX7_wholeValue_88 (show K (v + 2) = 5 from (hV).stage 0 (by decide)) (fun r88 => ?_)
    exact J_retI hX hQ dX7_wholeValue_91 (by (first | subst e0 | ((have e1 : w = 15 := by omega); subst e1)); first | rfl | assumption) rfl rfl (Nat.zero_le _) (Nat.zero_le _)
  · skip
    refine J_tin hX (91) 92 dX7_wholeValue_1 (by omega) (by omega) (by rw [e0]; rfl) (by decide) ?_
    refine J_aload_n hX dX7_wholeValue_92 rfl ?_
    refine J_gr hX (v + 2 + 1) fr_RX7_29 dX7_wholeValue_93 (show K (v) = 7 from hV 0 (by decide)) rfl ?_
    refine J_geti hX fi_RX7_61 dX7_wholeValue_96 (show K (v + 2 + 1) = 6 from (hV).stage 1 (by decide)) (fun r96 => ?_)
    exact J_retI hX hQ dX7_wholeValue_99 (by (first | subst e0 | ((have e1 : w = 15 := by omega); subst e1)); first | rfl | assumption) rfl rfl (Nat.zero_le _) (Nat.zero_le _)
  · skip
    refine J_tin hX (99) 100 dX7_wholeValue_1 (by omega) (by omega) (by rw [e0]; rfl) (by decide) ?_
    refine J_aload_n hX dX7_wholeValue_100 rfl ?_
    refine J_gr hX (v + 2 + 1) fr_RX7_29 dX7_wholeValue_101 (show K (v) = 7 from hV 0 (by decide)) rfl ?_
    refine J_callVI hX _ dX7_wholeValue_104 cw_RX7_142 (m_X6_boxes (hV).stage hW) ⟨(show K (v + 2 + 1) = 6 from (hV).stage 1 (by decide)), by decide, by decide, rfl⟩ rfl (Nat.le_of_ble_eq_true rfl) (by decide) ⟨Nat.zero_le _, Nat.zero_le _⟩ (fun r104 => ?_)
    exact J_retI hX hQ dX7_wholeValue_107 (by (first | subst e0 | ((have e1 : w = 15 := by omega); subst e1)); first | rfl | assumption) rfl rfl (Nat.zero_le _) (Nat.zero_le _)
  · skip
    refine J_tin hX (107) 108 dX7_wholeValue_1 (by omega) (by omega) (by rw [e0]; rfl) (by decide) ?_
    refine J_aload_n hX dX7_wholeValue_108 rfl ?_
    refine J_gr hX (v + 2) fr_RX7_22 dX7_wholeValue_109 (show K (v) = 7 from hV 0 (by decide)) rfl ?_
    refine J_gr hX (v + 2 + 11) fr_RX7_104 dX7_wholeValue_112 (show K (v + 2) = 5 from (hV).stage 0 (by decide)) rfl ?_
    refine J_geti hX fi_RX7_146 dX7_wholeValue_115 (show K (v + 2 + 11) = 3 from (hV).stage 11 (by decide)) (fun r115 => ?_)
    exact J_retI hX hQ dX7_wholeValue_118 (by (first | subst e0 | ((have e1 : w = 15 := by omega); subst e1)); first | rfl | assumption) rfl rfl (Nat.zero_le _) (Nat.zero_le _)
  · skip
    refine J_tin hX (118) 119 dX7_wholeValue_1 (by omega) (by omega) (by rw [e0]; rfl) (by decide) ?_
    refine J_aload_n hX dX7_wholeValue_119 rfl ?_
    refine J_gr hX (v + 2) fr_RX7_22 dX7_wholeValue_120 (show K (v) = 7 from hV 0 (by decide)) rfl ?_
    refine J_gr hX (v + 2 + 11) fr_RX7_104 dX7_wholeValue_123 (show K (v + 2) = 5 from (hV).stage 0 (by decide)) rfl ?_
    refine J_geti hX fi_RX7_147 dX7_wholeValue_126 (show K (v + 2 + 11) = 3 from (hV).stage 11 (by decide)) (fun r126 => ?_)
    exact J_retI hX hQ dX7_wholeValue_129 (by (first | subst e0 | ((have e1 : w = 15 := by omega); subst e1)); first | rfl | assumption) rfl rfl (Nat.zero_le _) (Nat.zero_le _)
  · skip
    refine J_tin hX (129) 130 dX7_wholeValue_1 (by omega) (by omega) (by rw [e0]; rfl) (by decide) ?_
    refine J_aload_n hX dX7_wholeValue_130 rfl ?_
    refine J_gr hX (v + 2) fr_RX7_22 dX7_wholeValue_131 (show K (v) = 7 from hV 0 (by decide)) rfl ?_
    refine J_gr hX (v + 2 + 11) fr_RX7_104 dX7_wholeValue_134 (show K (v + 2) = 5 from (hV).stage 0 (by decide)) rfl ?_
    refine J_callVI hX _ dX7_wholeValue_137 cw_RX7_150 (m_X3_present (hV).stage hW) ⟨(show K (v + 2 + 11) = 3 from (hV).stage 11 (by decide)), by decide, by decide, rfl⟩ rfl (Nat.le_of_ble_eq_true rfl) (by decide) ⟨Nat.zero_le _, Nat.zero_le _⟩ (fun r137 => ?_)
    exact J_retI hX hQ dX7_wholeValue_140 (by (first | subst e0 | ((have e1 : w = 15 := by omega); subst e1)); first | rfl | assumption) rfl rfl (Nat.zero_le _) (Nat.zero_le _)
  · skip
    refine J_tin hX (140) 141 dX7_wholeValue_1 (by omega) (by omega) (by rw [e0]; rfl) (by decide) ?_
    refine J_aload_n hX dX7_wholeValue_141 rfl ?_
    refine J_gr hX (v + 2) fr_RX7_22 dX7_wholeValue_142 (show K (v) = 7 from hV 0 (by decide)) rfl ?_
    refine J_gr hX (v + 2 + 11) fr_RX7_104 dX7_wholeValue_145 (show K (v + 2) = 5 from (hV).stage 0 (by decide)) rfl ?_
    refine J_geti hX fi_RX7_153 dX7_wholeValue_148 (show K (v + 2 + 11) = 3 from (hV).stage 11 (by decide)) (fun r148 => ?_)
    exact J_retI hX hQ dX7_wholeValue_151 (by (first | subst e0 | ((have e1 : w = 15 := by omega); subst e1)); first | rfl | assumption) rfl rfl (Nat.zero_le _) (Nat.zero_le _)
  · skip
    refine J_tin hX (151) 152 dX7_wholeValue_1 (by omega) (by omega) (by rw [e0]; rfl) (by decide) ?_
    refine J_aload_n hX dX7_wholeValue_152 rfl ?_
    refine J_gr hX (v + 2) fr_RX7_22 dX7_wholeValue_153 (show K (v) = 7 from hV 0 (by decide)) rfl ?_
    refine J_gr hX (v + 2 + 11) fr_RX7_104 dX7_wholeValue_156 (show K (v + 2) = 5 from (hV).stage 0 (by decide)) rfl ?_
    refine J_geti hX fi_RX7_108 dX7_wholeValue_159 (show K (v + 2 + 11) = 3 from (hV).stage 11 (by decide)) (fun r159 => ?_)
    exact J_retI hX hQ dX7_wholeValue_162 (by (first | subst e0 | ((have e1 : w = 15 := by omega); subst e1)); first | rfl | assumption) rfl rfl (Nat.zero_le _) (Nat.zero_le _)
  · skip
    refine J_tin hX (162) 163 dX7_wholeValue_1 (by omega) (by omega) (by rw [e0]; rfl) (by decide) ?_
    refine J_aload_n hX dX7_wholeValue_163 rfl ?_
    refine J_gr hX (v + 1) fr_RX7_12 dX7_wholeValue_164 (show K (v) = 7 from hV 0 (by decide)) rfl ?_
    refine J_geti hX fi_RX7_156 dX7_wholeValue_167 (show K (v + 1) = 2 from hV 1 (by decide)) (fun r167 => ?_)
    exact J_retI hX hQ dX7_wholeValue_170 (by (first | subst e0 | ((have e1 : w = 15 := by omega); subst e1)); first | rfl | assumption) rfl rfl (Nat.zero_le _) (Nat.zero_le _)
  · skip
    refine J_tin hX (170) 171 dX7_wholeValue_1 (by omega) (by omega) (by rw [e0]; rfl) (by decide) ?_
    refine J_aload_n hX dX7_wholeValue_171 rfl ?_
    refine J_geti hX fi_RX7_48 dX7_wholeValue_172 (show K (v) = 7 from hV 0 (by decide)) (fun r172 => ?_)
    exact J_retI hX hQ dX7_wholeValue_175 (by (first | subst e0 | ((have e1 : w = 15 := by omega); subst e1)); first | rfl | assumption) rfl rfl (Nat.zero_le _) (Nat.zero_le _)
  · skip
    refine J_tin hX (175) 176 dX7_wholeValue_1 (by omega) (by omega) (by rw [e0]; rfl) (by decide) ?_
    refine J_aload_n hX dX7_wholeValue_176 rfl ?_
    refine J_geti hX fi_RX7_51 dX7_wholeValue_177 (show K (v) = 7 from hV 0 (by decide)) (fun r177 => ?_)
    exact J_retI hX hQ dX7_wholeValue_180 (by (first | subst e0 | ((have e1 : w = 15 := by omega); subst e1)); first | rfl | assumption) rfl rfl (Nat.zero_le _) (Nat.zero_le _)
  · skip
    refine J_tin hX (180) 181 dX7_wholeValue_1 (by omega) (by omega) (by rw [e0]; rfl) (by decide) ?_
    refine J_aload_n hX dX7_wholeValue_181 rfl ?_
    refine J_gr hX (v + 2) fr_RX7_22 dX7_wholeValue_182 (show K (v) = 7 from hV 0 (by decide)) rfl ?_
    refine J_gr hX (v + 2 + 15) fr_RX7_159 dX7_wholeValue_185 (show K (v + 2) = 5 from (hV).stage 0 (by decide)) rfl ?_
    refine J_iconst hX dX7_wholeValue_188 ?_
    refine J_iald hX dX7_wholeValue_189 (show K (v + 2 + 15) = 1000 + 4 from (hV).stage 15 (by decide)) ⟨by omega, by omega⟩ (by decide) (fun r189 => ?_)
    exact J_retI hX hQ dX7_wholeValue_190 (by (first | subst e0 | ((have e1 : w = 15 := by omega); subst e1)); first | rfl | assumption) rfl rfl (Nat.zero_le _) (Nat.zero_le _)
  · skip
    refine J_tin hX (190) 191 dX7_wholeValue_1 (by omega) (by omega) (by rw [e0]; rfl) (by decide) ?_
    refine J_aload_n hX dX7_wholeValue_191 rfl ?_
    refine J_gr hX (v + 2) fr_RX7_22 dX7_wholeValue_192 (show K (v) = 7 from hV 0 (by decide)) rfl ?_
    refine J_gr hX (v + 2 + 15) fr_RX7_159 dX7_wholeValue_195 (show K (v + 2) = 5 from (hV).stage 0 (by decide)) rfl ?_
    refine J_iconst hX dX7_wholeValue_198 ?_
    refine J_iald hX dX7_wholeValue_199 (show K (v + 2 + 15) = 1000 + 4 from (hV).stage 15 (by decide)) ⟨by omega, by omega⟩ (by decide) (fun r199 => ?_)
    exact J_retI hX hQ dX7_wholeValue_200 (by (first | subst e0 | ((have e1 : w = 15 := by omega); subst e1)); first | rfl | assumption) rfl rfl (Nat.zero_le _) (Nat.zero_le _)
  · skip
    refine J_tin hX (200) 201 dX7_wholeValue_1 (by omega) (by omega) (by rw [e0]; rfl) (by decide) ?_
    refine J_aload_n hX dX7_wholeValue_201 rfl ?_
    refine J_gr hX (v + 2) fr_RX7_22 dX7_wholeValue_202 (show K (v) = 7 from hV 0 (by decide)) rfl ?_
    refine J_gr hX (v + 2 + 15) fr_RX7_159 dX7_wholeValue_205 (show K (v + 2) = 5 from (hV).stage 0 (by decide)) rfl ?_
    refine J_iconst hX dX7_wholeValue_208 ?_
    refine J_iald hX dX7_wholeValue_209 (show K (v + 2 + 15) = 1000 + 4 from (hV).stage 15 (by decide)) ⟨by omega, by omega⟩ (by decide) (fun r209 => ?_)
    exact J_retI hX hQ dX7_wholeValue_210 (by (first | subst e0 | ((have e1 : w = 15 := by omega); subst e1)); first | rfl | assumption) rfl rfl (Nat.zero_le _) (Nat.zero_le _)
  · skip
    refine J_tout hX 211 dX7_wholeValue_1 (by omega) (by omega) (by decide) ?_
    refine J_aload_n hX dX7_wholeValue_211 rfl ?_
    refine J_gr hX (v + 2) fr_RX7_22 dX7_wholeValue_212 (show K (v) = 7 from hV 0 (by decide)) rfl ?_
    refine J_gr hX (v + 2 + 15) fr_RX7_159 dX7_wholeValue_215 (show K (v + 2) = 5 from (hV).stage 0 (by decide)) rfl ?_
    refine J_iconst hX dX7_wholeValue_218 ?_
    refine J_iald hX dX7_wholeValue_219 (show K (v + 2 + 15) = 1000 + 4 from (hV).stage 15 (by decide)) ⟨by omega, by omega⟩ (by decide) (fun r219 => ?_)
    exact J_retI hX hQ dX7_wholeValue_220 (by (first | subst e0 | ((have e1 : w = 15 := by omega); subst e1)); first | rfl | assumption) rfl rfl (Nat.zero_le _) (Nat.zero_le _)
-- X2_valueOf
set_option maxHeartbeats 4000000 in
set_option maxRecDepth 100000 in
theorem m_X2_valueOf {E : EE} {K : Nat → Nat} {M : MM} {v : Nat} {T n w : Int} (hV : ViewK K v) (hW : WF T M (v + 2)) (hP : Pld M v (stg M (v + 2))) (hn : i32 n) (hw : 0 ≤ w ∧ w ≤ 15) : CnI E 2 yX2_valueOf cX2_valueOf 3 (Option.some FieldType.int) [.ref (v + 1), vI n, vI w] K M (nvl (stg M (v + 2)) n w) := by
  have hW0 := hW
  obtain ⟨hT0, ⟨ws1, ws2, ws3, ws4, ws5, ws6, ws7, ws8, ws9, ws10, ws11, ws12, ws13, ws14⟩, hWn, hWc⟩ := hW0
  have hS0 := hW.S
  have s10 : (stg M (v + 2)) 1 0 = M (v + 2 + 1) 0 := rfl
  refine ⟨Cn_of RX2 (plainFor_of_name (by decide)) rfl (Nat.le_of_ble_eq_true rfl) (fun X hX hQ => ?_), nvl_rng hW.S n w hw⟩
  refine J_aload_n hX dX2_valueOf_0 rfl ?_
  refine J_gr hX (v + 2 + 1) fr_RX2_22 dX2_valueOf_1 (show K (v + 1) = 2 from hV 1 (by decide)) rfl ?_
  refine J_iload_n hX dX2_valueOf_4 rfl ?_
  refine J_callVB hX _ dX2_valueOf_5 cw_RX2_115 (m_X6_has (hV).stage (by omega)) ⟨(show K (v + 2 + 1) = 6 from (hV).stage 1 (by decide)), by decide, by decide, rfl⟩ rfl (Nat.le_of_ble_eq_true rfl) (by decide) ⟨Nat.zero_le _, Nat.zero_le _⟩ ?_
  refine J_ifb_eq hX 28 dX2_valueOf_8 (by decide) (fun c8 => ?_) (fun c8 => ?_)
  · refine J_sipush hX dX2_valueOf_28 rfl ?_
    exact J_retI hX hQ dX2_valueOf_31 (by unfold nvl; first | (exfalso; omega) | (rw [if_pos (by first | (left; assumption) | (right; exact ⟨by omega, by assumption⟩))]) | (rw [if_neg (by rintro (q9 | q9); exact q9 (by assumption); first | omega | exact q9.2 (by assumption))]; (first | subst e0 | ((have e1 : w = 15 := by omega); subst e1)); first | (exfalso; omega) | rfl | exact (hP.1 n (by omega) (by omega)).1 | exact (hP.1 n (by omega) (by omega)).2.1 | exact (hP.1 n (by omega) (by omega)).2.2 | exact hP.sh (by assumption) | exact hP.cl (by assumption) | exact hP.cr (by assumption) | (rw [(hP.1 n (by omega) (by omega)).2.2]; rfl))) rfl rfl (Nat.zero_le _) (Nat.zero_le _)
  · refine J_iload_n hX dX2_valueOf_11 rfl ?_
    refine J_bipush hX dX2_valueOf_12 rfl ?_
    refine J_icmp_lt hX 32 dX2_valueOf_14 (by omega) (by decide) (by decide) (fun c14 => ?_) (fun c14 => ?_)
    · refine J_iload_n hX dX2_valueOf_32 rfl ?_
      rcases (show (w = 0) ∨ (w = 1) ∨ (w = 2) ∨ (w = 3) ∨ (w = 4) ∨ (w = 5) ∨ (w = 6) ∨ (w = 7) ∨ (w = 8) ∨ (w = 9) ∨ (w = 10) ∨ (w = 11) ∨ (w = 12) ∨ (w = 13) ∨ (w = 14) ∨ (w < 0 ∨ 14 < w) by omega) with e0 | e0 | e0 | e0 | e0 | e0 | e0 | e0 | e0 | e0 | e0 | e0 | e0 | e0 | e0 | e0
      · skip
        refine J_tin hX (75) 108 dX2_valueOf_33 (by omega) (by omega) (by rw [e0]; rfl) (by decide) ?_
        refine J_aload_n hX dX2_valueOf_108 rfl ?_
        refine J_gr hX (v + 2 + 1) fr_RX2_22 dX2_valueOf_109 (show K (v + 1) = 2 from hV 1 (by decide)) rfl ?_
        refine J_gr hX (v + 2 + 2) fr_RX2_99 dX2_valueOf_112 (show K (v + 2 + 1) = 6 from (hV).stage 1 (by decide)) rfl ?_
        refine J_iload_n hX dX2_valueOf_115 rfl ?_
        refine J_iald hX dX2_valueOf_116 (show K (v + 2 + 2) = 1000 + 20 from (hV).stage 2 (by decide)) ⟨by omega, by omega⟩ (by decide) (fun r116 => ?_)
        exact J_retI hX hQ dX2_valueOf_117 (by unfold nvl; first | (exfalso; omega) | (rw [if_pos (by first | (left; assumption) | (right; exact ⟨by omega, by assumption⟩))]) | (rw [if_neg (by rintro (q9 | q9); exact q9 (by assumption); first | omega | exact q9.2 (by assumption))]; (first | subst e0 | ((have e1 : w = 15 := by omega); subst e1)); first | (exfalso; omega) | rfl | exact (hP.1 n (by omega) (by omega)).1 | exact (hP.1 n (by omega) (by omega)).2.1 | exact (hP.1 n (by omega) (by omega)).2.2 | exact hP.sh (by assumption) | exact hP.cl (by assumption) | exact hP.cr (by assumption) | (rw [(hP.1 n (by omega) (by omega)).2.2]; rfl))) rfl rfl (Nat.zero_le _) (Nat.zero_le _)
      · skip
        refine J_tin hX (85) 118 dX2_valueOf_33 (by omega) (by omega) (by rw [e0]; rfl) (by decide) ?_
        refine J_aload_n hX dX2_valueOf_118 rfl ?_
        refine J_gr hX (v + 2 + 1) fr_RX2_22 dX2_valueOf_119 (show K (v + 1) = 2 from hV 1 (by decide)) rfl ?_
        refine J_gr hX (v + 2 + 4) fr_RX2_102 dX2_valueOf_122 (show K (v + 2 + 1) = 6 from (hV).stage 1 (by decide)) rfl ?_
        refine J_iload_n hX dX2_valueOf_125 rfl ?_
        refine J_iald hX dX2_valueOf_126 (show K (v + 2 + 4) = 1000 + 20 from (hV).stage 4 (by decide)) ⟨by omega, by omega⟩ (by decide) (fun r126 => ?_)
        exact J_retI hX hQ dX2_valueOf_127 (by unfold nvl; first | (exfalso; omega) | (rw [if_pos (by first | (left; assumption) | (right; exact ⟨by omega, by assumption⟩))]) | (rw [if_neg (by rintro (q9 | q9); exact q9 (by assumption); first | omega | exact q9.2 (by assumption))]; (first | subst e0 | ((have e1 : w = 15 := by omega); subst e1)); first | (exfalso; omega) | rfl | exact (hP.1 n (by omega) (by omega)).1 | exact (hP.1 n (by omega) (by omega)).2.1 | exact (hP.1 n (by omega) (by omega)).2.2 | exact hP.sh (by assumption) | exact hP.cl (by assumption) | exact hP.cr (by assumption) | (rw [(hP.1 n (by omega) (by omega)).2.2]; rfl))) rfl rfl (Nat.zero_le _) (Nat.zero_le _)
      · skip
        refine J_tin hX (95) 128 dX2_valueOf_33 (by omega) (by omega) (by rw [e0]; rfl) (by decide) ?_
        refine J_aload_n hX dX2_valueOf_128 rfl ?_
        refine J_gr hX (v + 2 + 1) fr_RX2_22 dX2_valueOf_129 (show K (v + 1) = 2 from hV 1 (by decide)) rfl ?_
        refine J_gr hX (v + 2 + 5) fr_RX2_105 dX2_valueOf_132 (show K (v + 2 + 1) = 6 from (hV).stage 1 (by decide)) rfl ?_
        refine J_iload_n hX dX2_valueOf_135 rfl ?_
        refine J_iald hX dX2_valueOf_136 (show K (v + 2 + 5) = 1000 + 20 from (hV).stage 5 (by decide)) ⟨by omega, by omega⟩ (by decide) (fun r136 => ?_)
        exact J_retI hX hQ dX2_valueOf_137 (by unfold nvl; first | (exfalso; omega) | (rw [if_pos (by first | (left; assumption) | (right; exact ⟨by omega, by assumption⟩))]) | (rw [if_neg (by rintro (q9 | q9); exact q9 (by assumption); first | omega | exact q9.2 (by assumption))]; (first | subst e0 | ((have e1 : w = 15 := by omega); subst e1)); first | (exfalso; omega) | rfl | exact (hP.1 n (by omega) (by omega)).1 | exact (hP.1 n (by omega) (by omega)).2.1 | exact (hP.1 n (by omega) (by omega)).2.2 | exact hP.sh (by assumption) | exact hP.cl (by assumption) | exact hP.cr (by assumption) | (rw [(hP.1 n (by omega) (by omega)).2.2]; rfl))) rfl rfl (Nat.zero_le _) (Nat.zero_le _)
      · skip
        refine J_tin hX (105) 138 dX2_valueOf_33 (by omega) (by omega) (by rw [e0]; rfl) (by decide) ?_
        refine J_aload_n hX dX2_valueOf_138 rfl ?_
        refine J_gr hX (v + 2 + 1) fr_RX2_22 dX2_valueOf_139 (show K (v + 1) = 2 from hV 1 (by decide)) rfl ?_
        refine J_gr hX (v + 2 + 6) fr_RX2_108 dX2_valueOf_142 (show K (v + 2 + 1) = 6 from (hV).stage 1 (by decide)) rfl ?_
        refine J_iload_n hX dX2_valueOf_145 rfl ?_
        refine J_iald hX dX2_valueOf_146 (show K (v + 2 + 6) = 1000 + 20 from (hV).stage 6 (by decide)) ⟨by omega, by omega⟩ (by decide) (fun r146 => ?_)
        exact J_retI hX hQ dX2_valueOf_147 (by unfold nvl; first | (exfalso; omega) | (rw [if_pos (by first | (left; assumption) | (right; exact ⟨by omega, by assumption⟩))]) | (rw [if_neg (by rintro (q9 | q9); exact q9 (by assumption); first | omega | exact q9.2 (by assumption))]; (first | subst e0 | ((have e1 : w = 15 := by omega); subst e1)); first | (exfalso; omega) | rfl | exact (hP.1 n (by omega) (by omega)).1 | exact (hP.1 n (by omega) (by omega)).2.1 | exact (hP.1 n (by omega) (by omega)).2.2 | exact hP.sh (by assumption) | exact hP.cl (by assumption) | exact hP.cr (by assumption) | (rw [(hP.1 n (by omega) (by omega)).2.2]; rfl))) rfl rfl (Nat.zero_le _) (Nat.zero_le _)
      · skip
        refine J_tin hX (115) 148 dX2_valueOf_33 (by omega) (by omega) (by rw [e0]; rfl) (by decide) ?_
        refine J_aload_n hX dX2_valueOf_148 rfl ?_
        refine J_gr hX (v + 18) fr_RX2_23 dX2_valueOf_149 (show K (v + 1) = 2 from hV 1 (by decide)) rfl ?_
        refine J_iload_n hX dX2_valueOf_152 rfl ?_
        refine J_iald hX dX2_valueOf_153 (show K (v + 18) = 1000 + 20 from hV 18 (by decide)) ⟨by omega, by omega⟩ (by decide) (fun r153 => ?_)
        exact J_retI hX hQ dX2_valueOf_154 (by unfold nvl; first | (exfalso; omega) | (rw [if_pos (by first | (left; assumption) | (right; exact ⟨by omega, by assumption⟩))]) | (rw [if_neg (by rintro (q9 | q9); exact q9 (by assumption); first | omega | exact q9.2 (by assumption))]; (first | subst e0 | ((have e1 : w = 15 := by omega); subst e1)); first | (exfalso; omega) | rfl | exact (hP.1 n (by omega) (by omega)).1 | exact (hP.1 n (by omega) (by omega)).2.1 | exact (hP.1 n (by omega) (by omega)).2.2 | exact hP.sh (by assumption) | exact hP.cl (by assumption) | exact hP.cr (by assumption) | (rw [(hP.1 n (by omega) (by omega)).2.2]; rfl))) rfl rfl (Nat.zero_le _) (Nat.zero_le _)
      · skip
        refine J_tin hX (122) 155 dX2_valueOf_33 (by omega) (by omega) (by rw [e0]; rfl) (by decide) ?_
        refine J_aload_n hX dX2_valueOf_155 rfl ?_
        refine J_gr hX (v + 19) fr_RX2_27 dX2_valueOf_156 (show K (v + 1) = 2 from hV 1 (by decide)) rfl ?_
        refine J_iload_n hX dX2_valueOf_159 rfl ?_
        refine J_iald hX dX2_valueOf_160 (show K (v + 19) = 1000 + 20 from hV 19 (by decide)) ⟨by omega, by omega⟩ (by decide) (fun r160 => ?_)
        exact J_retI hX hQ dX2_valueOf_161 (by unfold nvl; first | (exfalso; omega) | (rw [if_pos (by first | (left; assumption) | (right; exact ⟨by omega, by assumption⟩))]) | (rw [if_neg (by rintro (q9 | q9); exact q9 (by assumption); first | omega | exact q9.2 (by assumption))]; (first | subst e0 | ((have e1 : w = 15 := by omega); subst e1)); first | (exfalso; omega) | rfl | exact (hP.1 n (by omega) (by omega)).1 | exact (hP.1 n (by omega) (by omega)).2.1 | exact (hP.1 n (by omega) (by omega)).2.2 | exact hP.sh (by assumption) | exact hP.cl (by assumption) | exact hP.cr (by assumption) | (rw [(hP.1 n (by omega) (by omega)).2.2]; rfl))) rfl rfl (Nat.zero_le _) (Nat.zero_le _)
      · skip
        refine J_tin hX (129) 162 dX2_valueOf_33 (by omega) (by omega) (by rw [e0]; rfl) (by decide) ?_
        refine J_aload_n hX dX2_valueOf_162 rfl ?_
        refine J_gr hX (v + 20) fr_RX2_30 dX2_valueOf_163 (show K (v + 1) = 2 from hV 1 (by decide)) rfl ?_
        refine J_iload_n hX dX2_valueOf_166 rfl ?_
        refine J_iald hX dX2_valueOf_167 (show K (v + 20) = 1000 + 20 from hV 20 (by decide)) ⟨by omega, by omega⟩ (by decide) (fun r167 => ?_)
        exact J_retI hX hQ dX2_valueOf_168 (by unfold nvl; first | (exfalso; omega) | (rw [if_pos (by first | (left; assumption) | (right; exact ⟨by omega, by assumption⟩))]) | (rw [if_neg (by rintro (q9 | q9); exact q9 (by assumption); first | omega | exact q9.2 (by assumption))]; (first | subst e0 | ((have e1 : w = 15 := by omega); subst e1)); first | (exfalso; omega) | rfl | exact (hP.1 n (by omega) (by omega)).1 | exact (hP.1 n (by omega) (by omega)).2.1 | exact (hP.1 n (by omega) (by omega)).2.2 | exact hP.sh (by assumption) | exact hP.cl (by assumption) | exact hP.cr (by assumption) | (rw [(hP.1 n (by omega) (by omega)).2.2]; rfl))) rfl rfl (Nat.zero_le _) (Nat.zero_le _)
      · skip
        refine J_tin hX (136) 169 dX2_valueOf_33 (by omega) (by omega) (by rw [e0]; rfl) (by decide) ?_
        refine J_aload_n hX dX2_valueOf_169 rfl ?_
        refine J_gr hX (v + 2 + 1) fr_RX2_22 dX2_valueOf_170 (show K (v + 1) = 2 from hV 1 (by decide)) rfl ?_
        refine J_gr hX (v + 2 + 3) fr_RX2_145 dX2_valueOf_173 (show K (v + 2 + 1) = 6 from (hV).stage 1 (by decide)) rfl ?_
        refine J_iload_n hX dX2_valueOf_176 rfl ?_
        refine J_iald hX dX2_valueOf_177 (show K (v + 2 + 3) = 1000 + 20 from (hV).stage 3 (by decide)) ⟨by omega, by omega⟩ (by decide) (fun r177 => ?_)
        exact J_retI hX hQ dX2_valueOf_178 (by unfold nvl; first | (exfalso; omega) | (rw [if_pos (by first | (left; assumption) | (right; exact ⟨by omega, by assumption⟩))]) | (rw [if_neg (by rintro (q9 | q9); exact q9 (by assumption); first | omega | exact q9.2 (by assumption))]; (first | subst e0 | ((have e1 : w = 15 := by omega); subst e1)); first | (exfalso; omega) | rfl | exact (hP.1 n (by omega) (by omega)).1 | exact (hP.1 n (by omega) (by omega)).2.1 | exact (hP.1 n (by omega) (by omega)).2.2 | exact hP.sh (by assumption) | exact hP.cl (by assumption) | exact hP.cr (by assumption) | (rw [(hP.1 n (by omega) (by omega)).2.2]; rfl))) rfl rfl (Nat.zero_le _) (Nat.zero_le _)
      · skip
        refine J_tin hX (146) 179 dX2_valueOf_33 (by omega) (by omega) (by rw [e0]; rfl) (by decide) ?_
        refine J_aload_n hX dX2_valueOf_179 rfl ?_
        refine J_gr hX (v + 2 + 1) fr_RX2_22 dX2_valueOf_180 (show K (v + 1) = 2 from hV 1 (by decide)) rfl ?_
        refine J_iload_n hX dX2_valueOf_183 rfl ?_
        refine J_callVI hX _ dX2_valueOf_184 cw_RX2_148 (m_X6_children (hV).stage hW (by omega)) ⟨(show K (v + 2 + 1) = 6 from (hV).stage 1 (by decide)), by decide, by decide, rfl⟩ rfl (Nat.le_of_ble_eq_true rfl) (by decide) ⟨Nat.zero_le _, Nat.zero_le _⟩ (fun r184 => ?_)
        exact J_retI hX hQ dX2_valueOf_187 (by unfold nvl; first | (exfalso; omega) | (rw [if_pos (by first | (left; assumption) | (right; exact ⟨by omega, by assumption⟩))]) | (rw [if_neg (by rintro (q9 | q9); exact q9 (by assumption); first | omega | exact q9.2 (by assumption))]; (first | subst e0 | ((have e1 : w = 15 := by omega); subst e1)); first | (exfalso; omega) | rfl | exact (hP.1 n (by omega) (by omega)).1 | exact (hP.1 n (by omega) (by omega)).2.1 | exact (hP.1 n (by omega) (by omega)).2.2 | exact hP.sh (by assumption) | exact hP.cl (by assumption) | exact hP.cr (by assumption) | (rw [(hP.1 n (by omega) (by omega)).2.2]; rfl))) rfl rfl (Nat.zero_le _) (Nat.zero_le _)
      · skip
        refine J_tin hX (155) 188 dX2_valueOf_33 (by omega) (by omega) (by rw [e0]; rfl) (by decide) ?_
        refine J_aload_n hX dX2_valueOf_188 rfl ?_
        refine J_gr hX (v + 2 + 1) fr_RX2_22 dX2_valueOf_189 (show K (v + 1) = 2 from hV 1 (by decide)) rfl ?_
        refine J_gr hX (v + 2 + 7) fr_RX2_142 dX2_valueOf_192 (show K (v + 2 + 1) = 6 from (hV).stage 1 (by decide)) rfl ?_
        refine J_iload_n hX dX2_valueOf_195 rfl ?_
        refine J_iald hX dX2_valueOf_196 (show K (v + 2 + 7) = 1000 + 20 from (hV).stage 7 (by decide)) ⟨by omega, by omega⟩ (by decide) (fun r196 => ?_)
        exact J_retI hX hQ dX2_valueOf_197 (by unfold nvl; first | (exfalso; omega) | (rw [if_pos (by first | (left; assumption) | (right; exact ⟨by omega, by assumption⟩))]) | (rw [if_neg (by rintro (q9 | q9); exact q9 (by assumption); first | omega | exact q9.2 (by assumption))]; (first | subst e0 | ((have e1 : w = 15 := by omega); subst e1)); first | (exfalso; omega) | rfl | exact (hP.1 n (by omega) (by omega)).1 | exact (hP.1 n (by omega) (by omega)).2.1 | exact (hP.1 n (by omega) (by omega)).2.2 | exact hP.sh (by assumption) | exact hP.cl (by assumption) | exact hP.cr (by assumption) | (rw [(hP.1 n (by omega) (by omega)).2.2]; rfl))) rfl rfl (Nat.zero_le _) (Nat.zero_le _)
      · skip
        refine J_tin hX (165) 198 dX2_valueOf_33 (by omega) (by omega) (by rw [e0]; rfl) (by decide) ?_
        refine J_aload_n hX dX2_valueOf_198 rfl ?_
        refine J_gr hX (v + 2 + 1) fr_RX2_22 dX2_valueOf_199 (show K (v + 1) = 2 from hV 1 (by decide)) rfl ?_
        refine J_gr hX (v + 2 + 8) fr_RX2_126 dX2_valueOf_202 (show K (v + 2 + 1) = 6 from (hV).stage 1 (by decide)) rfl ?_
        refine J_iload_n hX dX2_valueOf_205 rfl ?_
        refine J_iald hX dX2_valueOf_206 (show K (v + 2 + 8) = 1000 + 20 from (hV).stage 8 (by decide)) ⟨by omega, by omega⟩ (by decide) (fun r206 => ?_)
        exact J_retI hX hQ dX2_valueOf_207 (by unfold nvl; first | (exfalso; omega) | (rw [if_pos (by first | (left; assumption) | (right; exact ⟨by omega, by assumption⟩))]) | (rw [if_neg (by rintro (q9 | q9); exact q9 (by assumption); first | omega | exact q9.2 (by assumption))]; (first | subst e0 | ((have e1 : w = 15 := by omega); subst e1)); first | (exfalso; omega) | rfl | exact (hP.1 n (by omega) (by omega)).1 | exact (hP.1 n (by omega) (by omega)).2.1 | exact (hP.1 n (by omega) (by omega)).2.2 | exact hP.sh (by assumption) | exact hP.cl (by assumption) | exact hP.cr (by assumption) | (rw [(hP.1 n (by omega) (by omega)).2.2]; rfl))) rfl rfl (Nat.zero_le _) (Nat.zero_le _)
      · skip
        refine J_tin hX (175) 208 dX2_valueOf_33 (by omega) (by omega) (by rw [e0]; rfl) (by decide) ?_
        refine J_aload_n hX dX2_valueOf_208 rfl ?_
        refine J_gr hX (v + 2 + 1) fr_RX2_22 dX2_valueOf_209 (show K (v + 1) = 2 from hV 1 (by decide)) rfl ?_
        refine J_gr hX (v + 2 + 9) fr_RX2_151 dX2_valueOf_212 (show K (v + 2 + 1) = 6 from (hV).stage 1 (by decide)) rfl ?_
        refine J_iload_n hX dX2_valueOf_215 rfl ?_
        refine J_iald hX dX2_valueOf_216 (show K (v + 2 + 9) = 1000 + 20 from (hV).stage 9 (by decide)) ⟨by omega, by omega⟩ (by decide) (fun r216 => ?_)
        exact J_retI hX hQ dX2_valueOf_217 (by unfold nvl; first | (exfalso; omega) | (rw [if_pos (by first | (left; assumption) | (right; exact ⟨by omega, by assumption⟩))]) | (rw [if_neg (by rintro (q9 | q9); exact q9 (by assumption); first | omega | exact q9.2 (by assumption))]; (first | subst e0 | ((have e1 : w = 15 := by omega); subst e1)); first | (exfalso; omega) | rfl | exact (hP.1 n (by omega) (by omega)).1 | exact (hP.1 n (by omega) (by omega)).2.1 | exact (hP.1 n (by omega) (by omega)).2.2 | exact hP.sh (by assumption) | exact hP.cl (by assumption) | exact hP.cr (by assumption) | (rw [(hP.1 n (by omega) (by omega)).2.2]; rfl))) rfl rfl (Nat.zero_le _) (Nat.zero_le _)
      · skip
        refine J_tin hX (185) 218 dX2_valueOf_33 (by omega) (by omega) (by rw [e0]; rfl) (by decide) ?_
        refine J_aload_n hX dX2_valueOf_218 rfl ?_
        refine J_gr hX (v + 2) fr_RX2_12 dX2_valueOf_219 (show K (v + 1) = 2 from hV 1 (by decide)) rfl ?_
        refine J_gr hX (v + 2 + 15) fr_RX2_80 dX2_valueOf_222 (show K (v + 2) = 5 from (hV).stage 0 (by decide)) rfl ?_
        refine J_iconst hX dX2_valueOf_225 ?_
        refine J_iald hX dX2_valueOf_226 (show K (v + 2 + 15) = 1000 + 4 from (hV).stage 15 (by decide)) ⟨by omega, by omega⟩ (by decide) (fun r226 => ?_)
        refine J_aload_n hX dX2_valueOf_227 rfl ?_
        refine J_gr hX (v + 20) fr_RX2_30 dX2_valueOf_228 (show K (v + 1) = 2 from hV 1 (by decide)) rfl ?_
        refine J_iload_n hX dX2_valueOf_231 rfl ?_
        refine J_iald hX dX2_valueOf_232 (show K (v + 20) = 1000 + 20 from hV 20 (by decide)) ⟨by omega, by omega⟩ (by decide) (fun r232 => ?_)
        have z1 := (hP.1 n (by omega) (by omega)).2.2
        have z2 := pos_rng hS0 (k := 6) (by omega) n (by omega)
        refine J_callSI hX _ dX2_valueOf_233 cw_RX2_83 (m_X2_rawShift (by omega) (by omega)) rfl (Nat.le_of_ble_eq_true rfl) (by decide) ⟨Nat.zero_le _, Nat.zero_le _⟩ (fun r233 => ?_)
        exact J_retI hX hQ dX2_valueOf_236 (by unfold nvl; first | (exfalso; omega) | (rw [if_pos (by first | (left; assumption) | (right; exact ⟨by omega, by assumption⟩))]) | (rw [if_neg (by rintro (q9 | q9); exact q9 (by assumption); first | omega | exact q9.2 (by assumption))]; (first | subst e0 | ((have e1 : w = 15 := by omega); subst e1)); first | (exfalso; omega) | rfl | exact (hP.1 n (by omega) (by omega)).1 | exact (hP.1 n (by omega) (by omega)).2.1 | exact (hP.1 n (by omega) (by omega)).2.2 | exact hP.sh (by assumption) | exact hP.cl (by assumption) | exact hP.cr (by assumption) | (rw [(hP.1 n (by omega) (by omega)).2.2]; rfl))) rfl rfl (Nat.zero_le _) (Nat.zero_le _)
      · skip
        refine J_tin hX (204) 237 dX2_valueOf_33 (by omega) (by omega) (by rw [e0]; rfl) (by decide) ?_
        refine J_aload_n hX dX2_valueOf_237 rfl ?_
        refine J_gr hX (v + 21) fr_RX2_33 dX2_valueOf_238 (show K (v + 1) = 2 from hV 1 (by decide)) rfl ?_
        refine J_iload_n hX dX2_valueOf_241 rfl ?_
        refine J_iald hX dX2_valueOf_242 (show K (v + 21) = 1000 + 20 from hV 21 (by decide)) ⟨by omega, by omega⟩ (by decide) (fun r242 => ?_)
        exact J_retI hX hQ dX2_valueOf_243 (by unfold nvl; first | (exfalso; omega) | (rw [if_pos (by first | (left; assumption) | (right; exact ⟨by omega, by assumption⟩))]) | (rw [if_neg (by rintro (q9 | q9); exact q9 (by assumption); first | omega | exact q9.2 (by assumption))]; (first | subst e0 | ((have e1 : w = 15 := by omega); subst e1)); first | (exfalso; omega) | rfl | exact (hP.1 n (by omega) (by omega)).1 | exact (hP.1 n (by omega) (by omega)).2.1 | exact (hP.1 n (by omega) (by omega)).2.2 | exact hP.sh (by assumption) | exact hP.cl (by assumption) | exact hP.cr (by assumption) | (rw [(hP.1 n (by omega) (by omega)).2.2]; rfl))) rfl rfl (Nat.zero_le _) (Nat.zero_le _)
      · skip
        refine J_tin hX (211) 244 dX2_valueOf_33 (by omega) (by omega) (by rw [e0]; rfl) (by decide) ?_
        refine J_aload_n hX dX2_valueOf_244 rfl ?_
        refine J_gr hX (v + 22) fr_RX2_36 dX2_valueOf_245 (show K (v + 1) = 2 from hV 1 (by decide)) rfl ?_
        refine J_iload_n hX dX2_valueOf_248 rfl ?_
        refine J_iald hX dX2_valueOf_249 (show K (v + 22) = 1000 + 20 from hV 22 (by decide)) ⟨by omega, by omega⟩ (by decide) (fun r249 => ?_)
        exact J_retI hX hQ dX2_valueOf_250 (by unfold nvl; first | (exfalso; omega) | (rw [if_pos (by first | (left; assumption) | (right; exact ⟨by omega, by assumption⟩))]) | (rw [if_neg (by rintro (q9 | q9); exact q9 (by assumption); first | omega | exact q9.2 (by assumption))]; (first | subst e0 | ((have e1 : w = 15 := by omega); subst e1)); first | (exfalso; omega) | rfl | exact (hP.1 n (by omega) (by omega)).1 | exact (hP.1 n (by omega) (by omega)).2.1 | exact (hP.1 n (by omega) (by omega)).2.2 | exact hP.sh (by assumption) | exact hP.cl (by assumption) | exact hP.cr (by assumption) | (rw [(hP.1 n (by omega) (by omega)).2.2]; rfl))) rfl rfl (Nat.zero_le _) (Nat.zero_le _)
      · skip
        refine J_tout hX 251 dX2_valueOf_33 (by omega) (by omega) (by decide) ?_
        refine J_aload_n hX dX2_valueOf_251 rfl ?_
        refine J_gr hX (v + 23) fr_RX2_39 dX2_valueOf_252 (show K (v + 1) = 2 from hV 1 (by decide)) rfl ?_
        refine J_iload_n hX dX2_valueOf_255 rfl ?_
        refine J_iald hX dX2_valueOf_256 (show K (v + 23) = 1000 + 20 from hV 23 (by decide)) ⟨by omega, by omega⟩ (by decide) (fun r256 => ?_)
        exact J_retI hX hQ dX2_valueOf_257 (by unfold nvl; first | (exfalso; omega) | (rw [if_pos (by first | (left; assumption) | (right; exact ⟨by omega, by assumption⟩))]) | (rw [if_neg (by rintro (q9 | q9); exact q9 (by assumption); first | omega | exact q9.2 (by assumption))]; (first | subst e0 | ((have e1 : w = 15 := by omega); subst e1)); first | (exfalso; omega) | rfl | exact (hP.1 n (by omega) (by omega)).1 | exact (hP.1 n (by omega) (by omega)).2.1 | exact (hP.1 n (by omega) (by omega)).2.2 | exact hP.sh (by assumption) | exact hP.cl (by assumption) | exact hP.cr (by assumption) | (rw [(hP.1 n (by omega) (by omega)).2.2]; rfl))) rfl rfl (Nat.zero_le _) (Nat.zero_le _)
    · refine J_aload_n hX dX2_valueOf_17 rfl ?_
      refine J_gr hX (v + 2 + 1) fr_RX2_22 dX2_valueOf_18 (show K (v + 1) = 2 from hV 1 (by decide)) rfl ?_
      refine J_iload_n hX dX2_valueOf_21 rfl ?_
      refine J_callVB hX _ dX2_valueOf_22 cw_RX2_76 (m_X6_isBox (hV).stage (by omega)) ⟨(show K (v + 2 + 1) = 6 from (hV).stage 1 (by decide)), by decide, by decide, rfl⟩ rfl (Nat.le_of_ble_eq_true rfl) (by decide) ⟨Nat.zero_le _, Nat.zero_le _⟩ ?_
      refine J_ifb_ne hX 32 dX2_valueOf_25 (by decide) (fun c25 => ?_) (fun c25 => ?_)
      · refine J_iload_n hX dX2_valueOf_32 rfl ?_
        rcases (show (w = 0) ∨ (w = 1) ∨ (w = 2) ∨ (w = 3) ∨ (w = 4) ∨ (w = 5) ∨ (w = 6) ∨ (w = 7) ∨ (w = 8) ∨ (w = 9) ∨ (w = 10) ∨ (w = 11) ∨ (w = 12) ∨ (w = 13) ∨ (w = 14) ∨ (w < 0 ∨ 14 < w) by omega) with e0 | e0 | e0 | e0 | e0 | e0 | e0 | e0 | e0 | e0 | e0 | e0 | e0 | e0 | e0 | e0
        · skip
          refine J_tin hX (75) 108 dX2_valueOf_33 (by omega) (by omega) (by rw [e0]; rfl) (by decide) ?_
          refine J_aload_n hX dX2_valueOf_108 rfl ?_
          refine J_gr hX (v + 2 + 1) fr_RX2_22 dX2_valueOf_109 (show K (v + 1) = 2 from hV 1 (by decide)) rfl ?_
          refine J_gr hX (v + 2 + 2) fr_RX2_99 dX2_valueOf_112 (show K (v + 2 + 1) = 6 from (hV).stage 1 (by decide)) rfl ?_
          refine J_iload_n hX dX2_valueOf_115 rfl ?_
          refine J_iald hX dX2_valueOf_116 (show K (v + 2 + 2) = 1000 + 20 from (hV).stage 2 (by decide)) ⟨by omega, by omega⟩ (by decide) (fun r116 => ?_)
          exact J_retI hX hQ dX2_valueOf_117 (by unfold nvl; first | (exfalso; omega) | (rw [if_pos (by first | (left; assumption) | (right; exact ⟨by omega, by assumption⟩))]) | (rw [if_neg (by rintro (q9 | q9); exact q9 (by assumption); first | omega | exact q9.2 (by assumption))]; (first | subst e0 | ((have e1 : w = 15 := by omega); subst e1)); first | (exfalso; omega) | rfl | exact (hP.1 n (by omega) (by omega)).1 | exact (hP.1 n (by omega) (by omega)).2.1 | exact (hP.1 n (by omega) (by omega)).2.2 | exact hP.sh (by assumption) | exact hP.cl (by assumption) | exact hP.cr (by assumption) | (rw [(hP.1 n (by omega) (by omega)).2.2]; rfl))) rfl rfl (Nat.zero_le _) (Nat.zero_le _)
        · skip
          refine J_tin hX (85) 118 dX2_valueOf_33 (by omega) (by omega) (by rw [e0]; rfl) (by decide) ?_
          refine J_aload_n hX dX2_valueOf_118 rfl ?_
          refine J_gr hX (v + 2 + 1) fr_RX2_22 dX2_valueOf_119 (show K (v + 1) = 2 from hV 1 (by decide)) rfl ?_
          refine J_gr hX (v + 2 + 4) fr_RX2_102 dX2_valueOf_122 (show K (v + 2 + 1) = 6 from (hV).stage 1 (by decide)) rfl ?_
          refine J_iload_n hX dX2_valueOf_125 rfl ?_
          refine J_iald hX dX2_valueOf_126 (show K (v + 2 + 4) = 1000 + 20 from (hV).stage 4 (by decide)) ⟨by omega, by omega⟩ (by decide) (fun r126 => ?_)
          exact J_retI hX hQ dX2_valueOf_127 (by unfold nvl; first | (exfalso; omega) | (rw [if_pos (by first | (left; assumption) | (right; exact ⟨by omega, by assumption⟩))]) | (rw [if_neg (by rintro (q9 | q9); exact q9 (by assumption); first | omega | exact q9.2 (by assumption))]; (first | subst e0 | ((have e1 : w = 15 := by omega); subst e1)); first | (exfalso; omega) | rfl | exact (hP.1 n (by omega) (by omega)).1 | exact (hP.1 n (by omega) (by omega)).2.1 | exact (hP.1 n (by omega) (by omega)).2.2 | exact hP.sh (by assumption) | exact hP.cl (by assumption) | exact hP.cr (by assumption) | (rw [(hP.1 n (by omega) (by omega)).2.2]; rfl))) rfl rfl (Nat.zero_le _) (Nat.zero_le _)
        · skip
          refine J_tin hX (95) 128 dX2_valueOf_33 (by omega) (by omega) (by rw [e0]; rfl) (by decide) ?_
          refine J_aload_n hX dX2_valueOf_128 rfl ?_
          refine J_gr hX (v + 2 + 1) fr_RX2_22 dX2_valueOf_129 (show K (v + 1) = 2 from hV 1 (by decide)) rfl ?_
          refine J_gr hX (v + 2 + 5) fr_RX2_105 dX2_valueOf_132 (show K (v + 2 + 1) = 6 from (hV).stage 1 (by decide)) rfl ?_
          refine J_iload_n hX dX2_valueOf_135 rfl ?_
          refine J_iald hX dX2_valueOf_136 (show K (v + 2 + 5) = 1000 + 20 from (hV).stage 5 (by decide)) ⟨by omega, by omega⟩ (by decide) (fun r136 => ?_)
          exact J_retI hX hQ dX2_valueOf_137 (by unfold nvl; first | (exfalso; omega) | (rw [if_pos (by first | (left; assumption) | (right; exact ⟨by omega, by assumption⟩))]) | (rw [if_neg (by rintro (q9 | q9); exact q9 (by assumption); first | omega | exact q9.2 (by assumption))]; (first | subst e0 | ((have e1 : w = 15 := by omega); subst e1)); first | (exfalso; omega) | rfl | exact (hP.1 n (by omega) (by omega)).1 | exact (hP.1 n (by omega) (by omega)).2.1 | exact (hP.1 n (by omega) (by omega)).2.2 | exact hP.sh (by assumption) | exact hP.cl (by assumption) | exact hP.cr (by assumption) | (rw [(hP.1 n (by omega) (by omega)).2.2]; rfl))) rfl rfl (Nat.zero_le _) (Nat.zero_le _)
        · skip
          refine J_tin hX (105) 138 dX2_valueOf_33 (by omega) (by omega) (by rw [e0]; rfl) (by decide) ?_
          refine J_aload_n hX dX2_valueOf_138 rfl ?_
          refine J_gr hX (v + 2 + 1) fr_RX2_22 dX2_valueOf_139 (show K (v + 1) = 2 from hV 1 (by decide)) rfl ?_
          refine J_gr hX (v + 2 + 6) fr_RX2_108 dX2_valueOf_142 (show K (v + 2 + 1) = 6 from (hV).stage 1 (by decide)) rfl ?_
          refine J_iload_n hX dX2_valueOf_145 rfl ?_
          refine J_iald hX dX2_valueOf_146 (show K (v + 2 + 6) = 1000 + 20 from (hV).stage 6 (by decide)) ⟨by omega, by omega⟩ (by decide) (fun r146 => ?_)
          exact J_retI hX hQ dX2_valueOf_147 (by unfold nvl; first | (exfalso; omega) | (rw [if_pos (by first | (left; assumption) | (right; exact ⟨by omega, by assumption⟩))]) | (rw [if_neg (by rintro (q9 | q9); exact q9 (by assumption); first | omega | exact q9.2 (by assumption))]; (first | subst e0 | ((have e1 : w = 15 := by omega); subst e1)); first | (exfalso; omega) | rfl | exact (hP.1 n (by omega) (by omega)).1 | exact (hP.1 n (by omega) (by omega)).2.1 | exact (hP.1 n (by omega) (by omega)).2.2 | exact hP.sh (by assumption) | exact hP.cl (by assumption) | exact hP.cr (by assumption) | (rw [(hP.1 n (by omega) (by omega)).2.2]; rfl))) rfl rfl (Nat.zero_le _) (Nat.zero_le _)
        · skip
          refine J_tin hX (115) 148 dX2_valueOf_33 (by omega) (by omega) (by rw [e0]; rfl) (by decide) ?_
          refine J_aload_n hX dX2_valueOf_148 rfl ?_
          refine J_gr hX (v + 18) fr_RX2_23 dX2_valueOf_149 (show K (v + 1) = 2 from hV 1 (by decide)) rfl ?_
          refine J_iload_n hX dX2_valueOf_152 rfl ?_
          refine J_iald hX dX2_valueOf_153 (show K (v + 18) = 1000 + 20 from hV 18 (by decide)) ⟨by omega, by omega⟩ (by decide) (fun r153 => ?_)
          exact J_retI hX hQ dX2_valueOf_154 (by unfold nvl; first | (exfalso; omega) | (rw [if_pos (by first | (left; assumption) | (right; exact ⟨by omega, by assumption⟩))]) | (rw [if_neg (by rintro (q9 | q9); exact q9 (by assumption); first | omega | exact q9.2 (by assumption))]; (first | subst e0 | ((have e1 : w = 15 := by omega); subst e1)); first | (exfalso; omega) | rfl | exact (hP.1 n (by omega) (by omega)).1 | exact (hP.1 n (by omega) (by omega)).2.1 | exact (hP.1 n (by omega) (by omega)).2.2 | exact hP.sh (by assumption) | exact hP.cl (by assumption) | exact hP.cr (by assumption) | (rw [(hP.1 n (by omega) (by omega)).2.2]; rfl))) rfl rfl (Nat.zero_le _) (Nat.zero_le _)
        · skip
          refine J_tin hX (122) 155 dX2_valueOf_33 (by omega) (by omega) (by rw [e0]; rfl) (by decide) ?_
          refine J_aload_n hX dX2_valueOf_155 rfl ?_
          refine J_gr hX (v + 19) fr_RX2_27 dX2_valueOf_156 (show K (v + 1) = 2 from hV 1 (by decide)) rfl ?_
          refine J_iload_n hX dX2_valueOf_159 rfl ?_
          refine J_iald hX dX2_valueOf_160 (show K (v + 19) = 1000 + 20 from hV 19 (by decide)) ⟨by omega, by omega⟩ (by decide) (fun r160 => ?_)
          exact J_retI hX hQ dX2_valueOf_161 (by unfold nvl; first | (exfalso; omega) | (rw [if_pos (by first | (left; assumption) | (right; exact ⟨by omega, by assumption⟩))]) | (rw [if_neg (by rintro (q9 | q9); exact q9 (by assumption); first | omega | exact q9.2 (by assumption))]; (first | subst e0 | ((have e1 : w = 15 := by omega); subst e1)); first | (exfalso; omega) | rfl | exact (hP.1 n (by omega) (by omega)).1 | exact (hP.1 n (by omega) (by omega)).2.1 | exact (hP.1 n (by omega) (by omega)).2.2 | exact hP.sh (by assumption) | exact hP.cl (by assumption) | exact hP.cr (by assumption) | (rw [(hP.1 n (by omega) (by omega)).2.2]; rfl))) rfl rfl (Nat.zero_le _) (Nat.zero_le _)
        · skip
          refine J_tin hX (129) 162 dX2_valueOf_33 (by omega) (by omega) (by rw [e0]; rfl) (by decide) ?_
          refine J_aload_n hX dX2_valueOf_162 rfl ?_
          refine J_gr hX (v + 20) fr_RX2_30 dX2_valueOf_163 (show K (v + 1) = 2 from hV 1 (by decide)) rfl ?_
          refine J_iload_n hX dX2_valueOf_166 rfl ?_
          refine J_iald hX dX2_valueOf_167 (show K (v + 20) = 1000 + 20 from hV 20 (by decide)) ⟨by omega, by omega⟩ (by decide) (fun r167 => ?_)
          exact J_retI hX hQ dX2_valueOf_168 (by unfold nvl; first | (exfalso; omega) | (rw [if_pos (by first | (left; assumption) | (right; exact ⟨by omega, by assumption⟩))]) | (rw [if_neg (by rintro (q9 | q9); exact q9 (by assumption); first | omega | exact q9.2 (by assumption))]; (first | subst e0 | ((have e1 : w = 15 := by omega); subst e1)); first | (exfalso; omega) | rfl | exact (hP.1 n (by omega) (by omega)).1 | exact (hP.1 n (by omega) (by omega)).2.1 | exact (hP.1 n (by omega) (by omega)).2.2 | exact hP.sh (by assumption) | exact hP.cl (by assumption) | exact hP.cr (by assumption) | (rw [(hP.1 n (by omega) (by omega)).2.2]; rfl))) rfl rfl (Nat.zero_le _) (Nat.zero_le _)
        · skip
          refine J_tin hX (136) 169 dX2_valueOf_33 (by omega) (by omega) (by rw [e0]; rfl) (by decide) ?_
          refine J_aload_n hX dX2_valueOf_169 rfl ?_
          refine J_gr hX (v + 2 + 1) fr_RX2_22 dX2_valueOf_170 (show K (v + 1) = 2 from hV 1 (by decide)) rfl ?_
          refine J_gr hX (v + 2 + 3) fr_RX2_145 dX2_valueOf_173 (show K (v + 2 + 1) = 6 from (hV).stage 1 (by decide)) rfl ?_
          refine J_iload_n hX dX2_valueOf_176 rfl ?_
          refine J_iald hX dX2_valueOf_177 (show K (v + 2 + 3) = 1000 + 20 from (hV).stage 3 (by decide)) ⟨by omega, by omega⟩ (by decide) (fun r177 => ?_)
          exact J_retI hX hQ dX2_valueOf_178 (by unfold nvl; first | (exfalso; omega) | (rw [if_pos (by first | (left; assumption) | (right; exact ⟨by omega, by assumption⟩))]) | (rw [if_neg (by rintro (q9 | q9); exact q9 (by assumption); first | omega | exact q9.2 (by assumption))]; (first | subst e0 | ((have e1 : w = 15 := by omega); subst e1)); first | (exfalso; omega) | rfl | exact (hP.1 n (by omega) (by omega)).1 | exact (hP.1 n (by omega) (by omega)).2.1 | exact (hP.1 n (by omega) (by omega)).2.2 | exact hP.sh (by assumption) | exact hP.cl (by assumption) | exact hP.cr (by assumption) | (rw [(hP.1 n (by omega) (by omega)).2.2]; rfl))) rfl rfl (Nat.zero_le _) (Nat.zero_le _)
        · skip
          refine J_tin hX (146) 179 dX2_valueOf_33 (by omega) (by omega) (by rw [e0]; rfl) (by decide) ?_
          refine J_aload_n hX dX2_valueOf_179 rfl ?_
          refine J_gr hX (v + 2 + 1) fr_RX2_22 dX2_valueOf_180 (show K (v + 1) = 2 from hV 1 (by decide)) rfl ?_
          refine J_iload_n hX dX2_valueOf_183 rfl ?_
          refine J_callVI hX _ dX2_valueOf_184 cw_RX2_148 (m_X6_children (hV).stage hW (by omega)) ⟨(show K (v + 2 + 1) = 6 from (hV).stage 1 (by decide)), by decide, by decide, rfl⟩ rfl (Nat.le_of_ble_eq_true rfl) (by decide) ⟨Nat.zero_le _, Nat.zero_le _⟩ (fun r184 => ?_)
          exact J_retI hX hQ dX2_valueOf_187 (by unfold nvl; first | (exfalso; omega) | (rw [if_pos (by first | (left; assumption) | (right; exact ⟨by omega, by assumption⟩))]) | (rw [if_neg (by rintro (q9 | q9); exact q9 (by assumption); first | omega | exact q9.2 (by assumption))]; (first | subst e0 | ((have e1 : w = 15 := by omega); subst e1)); first | (exfalso; omega) | rfl | exact (hP.1 n (by omega) (by omega)).1 | exact (hP.1 n (by omega) (by omega)).2.1 | exact (hP.1 n (by omega) (by omega)).2.2 | exact hP.sh (by assumption) | exact hP.cl (by assumption) | exact hP.cr (by assumption) | (rw [(hP.1 n (by omega) (by omega)).2.2]; rfl))) rfl rfl (Nat.zero_le _) (Nat.zero_le _)
        · skip
          refine J_tin hX (155) 188 dX2_valueOf_33 (by omega) (by omega) (by rw [e0]; rfl) (by decide) ?_
          refine J_aload_n hX dX2_valueOf_188 rfl ?_
          refine J_gr hX (v + 2 + 1) fr_RX2_22 dX2_valueOf_189 (show K (v + 1) = 2 from hV 1 (by decide)) rfl ?_
          refine J_gr hX (v + 2 + 7) fr_RX2_142 dX2_valueOf_192 (show K (v + 2 + 1) = 6 from (hV).stage 1 (by decide)) rfl ?_
          refine J_iload_n hX dX2_valueOf_195 rfl ?_
          refine J_iald hX dX2_valueOf_196 (show K (v + 2 + 7) = 1000 + 20 from (hV).stage 7 (by decide)) ⟨by omega, by omega⟩ (by decide) (fun r196 => ?_)
          exact J_retI hX hQ dX2_valueOf_197 (by unfold nvl; first | (exfalso; omega) | (rw [if_pos (by first | (left; assumption) | (right; exact ⟨by omega, by assumption⟩))]) | (rw [if_neg (by rintro (q9 | q9); exact q9 (by assumption); first | omega | exact q9.2 (by assumption))]; (first | subst e0 | ((have e1 : w = 15 := by omega); subst e1)); first | (exfalso; omega) | rfl | exact (hP.1 n (by omega) (by omega)).1 | exact (hP.1 n (by omega) (by omega)).2.1 | exact (hP.1 n (by omega) (by omega)).2.2 | exact hP.sh (by assumption) | exact hP.cl (by assumption) | exact hP.cr (by assumption) | (rw [(hP.1 n (by omega) (by omega)).2.2]; rfl))) rfl rfl (Nat.zero_le _) (Nat.zero_le _)
        · skip
          refine J_tin hX (165) 198 dX2_valueOf_33 (by omega) (by omega) (by rw [e0]; rfl) (by decide) ?_
          refine J_aload_n hX dX2_valueOf_198 rfl ?_
          refine J_gr hX (v + 2 + 1) fr_RX2_22 dX2_valueOf_199 (show K (v + 1) = 2 from hV 1 (by decide)) rfl ?_
          refine J_gr hX (v + 2 + 8) fr_RX2_126 dX2_valueOf_202 (show K (v + 2 + 1) = 6 from (hV).stage 1 (by decide)) rfl ?_
          refine J_iload_n hX dX2_valueOf_205 rfl ?_
          refine J_iald hX dX2_valueOf_206 (show K (v + 2 + 8) = 1000 + 20 from (hV).stage 8 (by decide)) ⟨by omega, by omega⟩ (by decide) (fun r206 => ?_)
          exact J_retI hX hQ dX2_valueOf_207 (by unfold nvl; first | (exfalso; omega) | (rw [if_pos (by first | (left; assumption) | (right; exact ⟨by omega, by assumption⟩))]) | (rw [if_neg (by rintro (q9 | q9); exact q9 (by assumption); first | omega | exact q9.2 (by assumption))]; (first | subst e0 | ((have e1 : w = 15 := by omega); subst e1)); first | (exfalso; omega) | rfl | exact (hP.1 n (by omega) (by omega)).1 | exact (hP.1 n (by omega) (by omega)).2.1 | exact (hP.1 n (by omega) (by omega)).2.2 | exact hP.sh (by assumption) | exact hP.cl (by assumption) | exact hP.cr (by assumption) | (rw [(hP.1 n (by omega) (by omega)).2.2]; rfl))) rfl rfl (Nat.zero_le _) (Nat.zero_le _)
        · skip
          refine J_tin hX (175) 208 dX2_valueOf_33 (by omega) (by omega) (by rw [e0]; rfl) (by decide) ?_
          refine J_aload_n hX dX2_valueOf_208 rfl ?_
          refine J_gr hX (v + 2 + 1) fr_RX2_22 dX2_valueOf_209 (show K (v + 1) = 2 from hV 1 (by decide)) rfl ?_
          refine J_gr hX (v + 2 + 9) fr_RX2_151 dX2_valueOf_212 (show K (v + 2 + 1) = 6 from (hV).stage 1 (by decide)) rfl ?_
          refine J_iload_n hX dX2_valueOf_215 rfl ?_
          refine J_iald hX dX2_valueOf_216 (show K (v + 2 + 9) = 1000 + 20 from (hV).stage 9 (by decide)) ⟨by omega, by omega⟩ (by decide) (fun r216 => ?_)
          exact J_retI hX hQ dX2_valueOf_217 (by unfold nvl; first | (exfalso; omega) | (rw [if_pos (by first | (left; assumption) | (right; exact ⟨by omega, by assumption⟩))]) | (rw [if_neg (by rintro (q9 | q9); exact q9 (by assumption); first | omega | exact q9.2 (by assumption))]; (first | subst e0 | ((have e1 : w = 15 := by omega); subst e1)); first | (exfalso; omega) | rfl | exact (hP.1 n (by omega) (by omega)).1 | exact (hP.1 n (by omega) (by omega)).2.1 | exact (hP.1 n (by omega) (by omega)).2.2 | exact hP.sh (by assumption) | exact hP.cl (by assumption) | exact hP.cr (by assumption) | (rw [(hP.1 n (by omega) (by omega)).2.2]; rfl))) rfl rfl (Nat.zero_le _) (Nat.zero_le _)
        · skip
          refine J_tin hX (185) 218 dX2_valueOf_33 (by omega) (by omega) (by rw [e0]; rfl) (by decide) ?_
          refine J_aload_n hX dX2_valueOf_218 rfl ?_
          refine J_gr hX (v + 2) fr_RX2_12 dX2_valueOf_219 (show K (v + 1) = 2 from hV 1 (by decide)) rfl ?_
          refine J_gr hX (v + 2 + 15) fr_RX2_80 dX2_valueOf_222 (show K (v + 2) = 5 from (hV).stage 0 (by decide)) rfl ?_
          refine J_iconst hX dX2_valueOf_225 ?_
          refine J_iald hX dX2_valueOf_226 (show K (v + 2 + 15) = 1000 + 4 from (hV).stage 15 (by decide)) ⟨by omega, by omega⟩ (by decide) (fun r226 => ?_)
          refine J_aload_n hX dX2_valueOf_227 rfl ?_
          refine J_gr hX (v + 20) fr_RX2_30 dX2_valueOf_228 (show K (v + 1) = 2 from hV 1 (by decide)) rfl ?_
          refine J_iload_n hX dX2_valueOf_231 rfl ?_
          refine J_iald hX dX2_valueOf_232 (show K (v + 20) = 1000 + 20 from hV 20 (by decide)) ⟨by omega, by omega⟩ (by decide) (fun r232 => ?_)
          have z1 := (hP.1 n (by omega) (by omega)).2.2
          have z2 := pos_rng hS0 (k := 6) (by omega) n (by omega)
          refine J_callSI hX _ dX2_valueOf_233 cw_RX2_83 (m_X2_rawShift (by omega) (by omega)) rfl (Nat.le_of_ble_eq_true rfl) (by decide) ⟨Nat.zero_le _, Nat.zero_le _⟩ (fun r233 => ?_)
          exact J_retI hX hQ dX2_valueOf_236 (by unfold nvl; first | (exfalso; omega) | (rw [if_pos (by first | (left; assumption) | (right; exact ⟨by omega, by assumption⟩))]) | (rw [if_neg (by rintro (q9 | q9); exact q9 (by assumption); first | omega | exact q9.2 (by assumption))]; (first | subst e0 | ((have e1 : w = 15 := by omega); subst e1)); first | (exfalso; omega) | rfl | exact (hP.1 n (by omega) (by omega)).1 | exact (hP.1 n (by omega) (by omega)).2.1 | exact (hP.1 n (by omega) (by omega)).2.2 | exact hP.sh (by assumption) | exact hP.cl (by assumption) | exact hP.cr (by assumption) | (rw [(hP.1 n (by omega) (by omega)).2.2]; rfl))) rfl rfl (Nat.zero_le _) (Nat.zero_le _)
        · skip
          refine J_tin hX (204) 237 dX2_valueOf_33 (by omega) (by omega) (by rw [e0]; rfl) (by decide) ?_
          refine J_aload_n hX dX2_valueOf_237 rfl ?_
          refine J_gr hX (v + 21) fr_RX2_33 dX2_valueOf_238 (show K (v + 1) = 2 from hV 1 (by decide)) rfl ?_
          refine J_iload_n hX dX2_valueOf_241 rfl ?_
          refine J_iald hX dX2_valueOf_242 (show K (v + 21) = 1000 + 20 from hV 21 (by decide)) ⟨by omega, by omega⟩ (by decide) (fun r242 => ?_)
          exact J_retI hX hQ dX2_valueOf_243 (by unfold nvl; first | (exfalso; omega) | (rw [if_pos (by first | (left; assumption) | (right; exact ⟨by omega, by assumption⟩))]) | (rw [if_neg (by rintro (q9 | q9); exact q9 (by assumption); first | omega | exact q9.2 (by assumption))]; (first | subst e0 | ((have e1 : w = 15 := by omega); subst e1)); first | (exfalso; omega) | rfl | exact (hP.1 n (by omega) (by omega)).1 | exact (hP.1 n (by omega) (by omega)).2.1 | exact (hP.1 n (by omega) (by omega)).2.2 | exact hP.sh (by assumption) | exact hP.cl (by assumption) | exact hP.cr (by assumption) | (rw [(hP.1 n (by omega) (by omega)).2.2]; rfl))) rfl rfl (Nat.zero_le _) (Nat.zero_le _)
        · skip
          refine J_tin hX (211) 244 dX2_valueOf_33 (by omega) (by omega) (by rw [e0]; rfl) (by decide) ?_
          refine J_aload_n hX dX2_valueOf_244 rfl ?_
          refine J_gr hX (v + 22) fr_RX2_36 dX2_valueOf_245 (show K (v + 1) = 2 from hV 1 (by decide)) rfl ?_
          refine J_iload_n hX dX2_valueOf_248 rfl ?_
          refine J_iald hX dX2_valueOf_249 (show K (v + 22) = 1000 + 20 from hV 22 (by decide)) ⟨by omega, by omega⟩ (by decide) (fun r249 => ?_)
          exact J_retI hX hQ dX2_valueOf_250 (by unfold nvl; first | (exfalso; omega) | (rw [if_pos (by first | (left; assumption) | (right; exact ⟨by omega, by assumption⟩))]) | (rw [if_neg (by rintro (q9 | q9); exact q9 (by assumption); first | omega | exact q9.2 (by assumption))]; (first | subst e0 | ((have e1 : w = 15 := by omega); subst e1)); first | (exfalso; omega) | rfl | exact (hP.1 n (by omega) (by omega)).1 | exact (hP.1 n (by omega) (by omega)).2.1 | exact (hP.1 n (by omega) (by omega)).2.2 | exact hP.sh (by assumption) | exact hP.cl (by assumption) | exact hP.cr (by assumption) | (rw [(hP.1 n (by omega) (by omega)).2.2]; rfl))) rfl rfl (Nat.zero_le _) (Nat.zero_le _)
        · skip
          refine J_tout hX 251 dX2_valueOf_33 (by omega) (by omega) (by decide) ?_
          refine J_aload_n hX dX2_valueOf_251 rfl ?_
          refine J_gr hX (v + 23) fr_RX2_39 dX2_valueOf_252 (show K (v + 1) = 2 from hV 1 (by decide)) rfl ?_
          refine J_iload_n hX dX2_valueOf_255 rfl ?_
          refine J_iald hX dX2_valueOf_256 (show K (v + 23) = 1000 + 20 from hV 23 (by decide)) ⟨by omega, by omega⟩ (by decide) (fun r256 => ?_)
          exact J_retI hX hQ dX2_valueOf_257 (by unfold nvl; first | (exfalso; omega) | (rw [if_pos (by first | (left; assumption) | (right; exact ⟨by omega, by assumption⟩))]) | (rw [if_neg (by rintro (q9 | q9); exact q9 (by assumption); first | omega | exact q9.2 (by assumption))]; (first | subst e0 | ((have e1 : w = 15 := by omega); subst e1)); first | (exfalso; omega) | rfl | exact (hP.1 n (by omega) (by omega)).1 | exact (hP.1 n (by omega) (by omega)).2.1 | exact (hP.1 n (by omega) (by omega)).2.2 | exact hP.sh (by assumption) | exact hP.cl (by assumption) | exact hP.cr (by assumption) | (rw [(hP.1 n (by omega) (by omega)).2.2]; rfl))) rfl rfl (Nat.zero_le _) (Nat.zero_le _)
      · refine J_sipush hX dX2_valueOf_28 rfl ?_
        exact J_retI hX hQ dX2_valueOf_31 (by unfold nvl; first | (exfalso; omega) | (rw [if_pos (by first | (left; assumption) | (right; exact ⟨by omega, by assumption⟩))]) | (rw [if_neg (by rintro (q9 | q9); exact q9 (by assumption); first | omega | exact q9.2 (by assumption))]; (first | subst e0 | ((have e1 : w = 15 := by omega); subst e1)); first | (exfalso; omega) | rfl | exact (hP.1 n (by omega) (by omega)).1 | exact (hP.1 n (by omega) (by omega)).2.1 | exact (hP.1 n (by omega) (by omega)).2.2 | exact hP.sh (by assumption) | exact hP.cl (by assumption) | exact hP.cr (by assumption) | (rw [(hP.1 n (by omega) (by omega)).2.2]; rfl))) rfl rfl (Nat.zero_le _) (Nat.zero_le _)
