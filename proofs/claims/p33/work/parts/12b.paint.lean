-- X7_fill
set_option maxHeartbeats 4000000 in
set_option maxRecDepth 100000 in
theorem m_X7_fill {E : EE} {K : Nat → Nat} {M : MM} {v : Nat} {T f t x : Int} {a : Nat} (hV : ViewK K v) (hW : WF T M (v + 2)) (hKa : K a = 1000 + 200) (ha : a = v + 25 ∨ a = v + 26) (hf : i32 f) (ht : i32 t) (hx : i32 x) : CnM E 1 yX7_fill cX7_fill 7 none [.ref v, .ref a, vI f, vI t, vI x] K M (fun r9 M2 => r9 = none ∧ (∀ i, i ≠ a → M2 i = M i) ∧ ∀ j, M2 a j = if (f ≤ j ∧ 0 ≤ j) ∧ (j < t ∧ j < M (v + 2) 3) then x else M a j) := by
  have hW0 := hW
  obtain ⟨hT0, ⟨ws1, ws2, ws3, ws4, ws5, ws6, ws7, ws8, ws9, ws10, ws11, ws12, ws13, ws14⟩, hWn, hWc⟩ := hW0
  have hS0 := hW.S
  refine Cn_of RX7 (plainFor_of_name (by decide)) rfl (Nat.le_of_ble_eq_true rfl) (fun X hX hQ => ?_)
  refine J_iload_n hX dX7_fill_0 rfl ?_
  refine J_aload_n hX dX7_fill_1 rfl ?_
  refine J_gr hX (v + 2) fr_RX7_22 dX7_fill_2 (show K (v) = 7 from hV 0 (by decide)) rfl ?_
  refine J_geti hX fi_RX7_90 dX7_fill_5 (show K (v + 2) = 5 from (hV).stage 0 (by decide)) (fun r5 => ?_)
  refine J_aload_n hX dX7_fill_8 rfl ?_
  refine J_alen hX dX7_fill_9 (show K (a) = 1000 + 200 from hKa) ?_
  refine J_callSI hX _ dX7_fill_10 cw_RX7_208 (m_J9_min_7cf53 (by omega) (by omega)) rfl (Nat.le_of_ble_eq_true rfl) (by decide) ⟨Nat.zero_le _, Nat.zero_le _⟩ (fun r10 => ?_)
  refine J_callSI hX _ dX7_fill_13 cw_RX7_208 (m_J9_min_7cf53 (by omega) (by omega)) rfl (Nat.le_of_ble_eq_true rfl) (by decide) ⟨Nat.zero_le _, Nat.zero_le _⟩ (fun r13 => ?_)
  refine J_abs hX r13 (fun en hen => ?_)
  have he2 : en ≤ t ∧ en ≤ M (v + 2) 3 ∧ (en = t ∨ en = M (v + 2) 3) := by (repeat' split at hen) <;> omega
  refine J_istore hX dX7_fill_16 (by decide) ?_
  refine J_iload_n hX dX7_fill_18 rfl ?_
  refine J_iconst hX dX7_fill_19 ?_
  refine J_callSI hX _ dX7_fill_20 cw_RX7_211 (m_J9_max_7cf53 (by omega) (by omega)) rfl (Nat.le_of_ble_eq_true rfl) (by decide) ⟨Nat.zero_le _, Nat.zero_le _⟩ (fun r20 => ?_)
  refine J_abs hX r20 (fun sa hsa => ?_)
  have hs2 : f ≤ sa ∧ 0 ≤ sa ∧ (sa = f ∨ sa = 0) := by (repeat' split at hsa) <;> omega
  refine J_istore hX dX7_fill_23 (by decide) ?_
  have HL25 : ∀ k : Nat, k ≤ (en - sa).toNat → ∀ (q : Int) (M2 : MM), (q = sa + k ∧ (∀ i, i ≠ a → M2 i = M i) ∧ ∀ j, M2 a j = if sa ≤ j ∧ j < sa + k then x else M a j) → J E X 25 [(0, .ref v), (1, .ref a), (2, vI f), (3, vI t), (4, vI x), (5, vI en), (6, vI q)] [] K M2 0 0 := by
    refine up_ind ((en - sa).toNat) (fun k hk25 ih25 => ?_)
    intro q  M2  hi25
    refine J_iload hX dX7_fill_25 rfl ?_
    refine J_iload hX dX7_fill_27 rfl ?_
    refine J_icmp_ge hX 44 dX7_fill_29 (by omega) (by omega) (by decide) (fun c29 => ?_) (fun c29 => ?_)
    · exact J_vret hX hQ dX7_fill_44 ⟨rfl, by refine ⟨rfl, hi25.2.1, fun j => ?_⟩; rw [hi25.2.2 j]; by_cases h9 : (f ≤ j ∧ 0 ≤ j) ∧ (j < t ∧ j < M (v + 2) 3); (rw [if_pos h9, if_pos (by omega)]); (rw [if_neg h9, if_neg (by omega)])⟩ (Nat.zero_le _) (Nat.zero_le _)
    · refine J_aload_n hX dX7_fill_32 rfl ?_
      refine J_iload hX dX7_fill_33 rfl ?_
      refine J_iload hX dX7_fill_35 rfl ?_
      refine J_istA hX dX7_fill_37 (show K (a) = 1000 + 200 from hKa) ⟨by omega, by omega⟩ (by decide) (by omega) (fun m37 hm37 => ?_)
      have fm37 : ∀ i, i ≠ a → m37 i = M2 i := fun i h => by rw [hm37]; exact mset_ne h
      have gm37 : ∀ i j, j ≠ q → m37 i j = M2 i j := fun i j h => by rw [hm37]; exact mset_nj h
      have vm37 := (congrFun (congrFun hm37 (a)) (q)).trans mset_eq
      refine J_iinc hX dX7_fill_38 rfl (by decide) ?_
      refine J_goto hX 25 dX7_fill_41 (by decide) ?_
      exact J_locI (ih25 (k + 1) (by omega) (by omega) _ _ ⟨by omega, fun i h => by rw [fm37 i h]; exact hi25.2.1 i h, fun j => by by_cases e : j = q; (subst e; rw [vm37, if_pos (by omega)]); (rw [gm37 _ j e, hi25.2.2 j]; by_cases h9 : sa ≤ j ∧ j < sa + k; (rw [if_pos h9, if_pos (by omega)]); (rw [if_neg h9, if_neg (by omega)]))⟩) rfl
  exact J_locI (HL25 0 (Nat.zero_le _) _ _ ⟨by omega, fun i _ => rfl, fun j => by rw [if_neg (by omega)]⟩) rfl
-- X7_paintRow
set_option maxHeartbeats 4000000 in
set_option maxRecDepth 100000 in
theorem m_X7_paintRow {E : EE} {K : Nat → Nat} {M : MM} {v : Nat} {T l r : Int} {a : Nat} (hV : ViewK K v) (hW : WF T M (v + 2)) (hKa : K a = 1000 + 200) (ha : a = v + 25 ∨ a = v + 26) (hV2 : Vwt M v (stg M (v + 2))) (hl : l = 0 ∨ l = 1) (hr : i32 r) : CnM E 3 yX7_paintRow cX7_paintRow 7 none [.ref v, vI l, vI r, .ref a] K M (fun r9 M2 => r9 = none ∧ (∀ i, i ≠ a → M2 i = M i) ∧ ∀ c : Int, 0 ≤ c → c < M (v + 2) 3 → M2 a c = shd (stg M (v + 2)) l c r) := by
  have hW0 := hW
  obtain ⟨hT0, ⟨ws1, ws2, ws3, ws4, ws5, ws6, ws7, ws8, ws9, ws10, ws11, ws12, ws13, ws14⟩, hWn, hWc⟩ := hW0
  have hS0 := hW.S
  have hP := hV2.1.1
  have hw1 := wnd_rng hS0 1
  have hw0 := wnd_rng hS0 0
  have hd1 := hV2.1.2.1
  have hd0 := hV2.1.2.2
  have t1 := hV2.2.1
  have t2 := hV2.2.2
  have tr := ttl_rng hS0
  have tcr := tco_rng hS0 l
  have hnb := nb_le hS0
  have hB := hP.2.2.1
  have eO : (if l = 0 then (0 : Int) else M v 3) = opn (stg M (v + 2)) l := by unfold opn; rw [hd1]
  have eC : (if l = 0 then M (v + 2) 3 - M v 4 else M (v + 2) 3) = cls (stg M (v + 2)) l := by unfold cls; rw [hd0]; rfl
  refine Cn_of RX7 (plainFor_of_name (by decide)) rfl (Nat.le_of_ble_eq_true rfl) (fun X hX hQ => ?_)
  refine J_aload_n hX dX7_paintRow_0 rfl ?_
  refine J_aload_n hX dX7_paintRow_1 rfl ?_
  refine J_iconst hX dX7_paintRow_2 ?_
  refine J_aload_n hX dX7_paintRow_3 rfl ?_
  refine J_gr hX (v + 2) fr_RX7_22 dX7_paintRow_4 (show K (v) = 7 from hV 0 (by decide)) rfl ?_
  refine J_geti hX fi_RX7_90 dX7_paintRow_7 (show K (v + 2) = 5 from (hV).stage 0 (by decide)) (fun r7 => ?_)
  refine J_aload_n hX dX7_paintRow_10 rfl ?_
  refine J_gr hX (v + 2) fr_RX7_22 dX7_paintRow_11 (show K (v) = 7 from hV 0 (by decide)) rfl ?_
  refine J_gr hX (v + 2 + 15) fr_RX7_159 dX7_paintRow_14 (show K (v + 2) = 5 from (hV).stage 0 (by decide)) rfl ?_
  refine J_iconst hX dX7_paintRow_17 ?_
  refine J_iald hX dX7_paintRow_18 (show K (v + 2 + 15) = 1000 + 4 from (hV).stage 15 (by decide)) ⟨by omega, by omega⟩ (by decide) (fun r18 => ?_)
  refine J_callVM hX _ dX7_paintRow_19 cw_RX7_199 (m_X7_fill hV hW hKa ha (by omega) (by omega) (by omega)) ⟨(show K (v) = 7 from hV 0 (by decide)), by decide, by decide, rfl⟩ rfl (Nat.le_of_ble_eq_true rfl) (by decide) ⟨Nat.zero_le _, Nat.zero_le _⟩ (fun r9 M19 q19 => ?_)
  obtain ⟨rfl, fM19, cM19⟩ := q19
  refine J_iconst hX dX7_paintRow_22 ?_
  refine J_istore hX dX7_paintRow_23 (by decide) ?_
  have HL25 : ∀ k : Nat, k ≤ (nb (stg M (v + 2))) → ∀ (M2 : MM), ((∀ i, i ≠ a → M2 i = M i) ∧ (∀ c : Int, 0 ≤ c → c < M (v + 2) 3 → M2 a c = pnt (stg M (v + 2)) l r k c)) → J E X 25 [(0, .ref v), (1, vI l), (2, vI r), (3, .ref a), (4, vI (k : Int))] [] K M2 0 0 := by
    refine up_ind ((nb (stg M (v + 2)))) (fun k hk25 ih25 => ?_)
    intro M2  hi25
    have fa2 := hi25.1
    have st2 : stg M2 (v + 2) = (stg M (v + 2)) := stg_eq (fun k hk => fa2 _ (by omega))
    have hW2 := WF_fr st2 hW
    have hV2b : Vwt M2 v (stg M2 (v + 2)) := by rw [st2]; exact hV2.fr (fun i i1 i2 => fa2 i (by omega)) (fun j _ => congrFun (fa2 v (by omega)) j)
    have hP2 := hV2b.1.1
    have hB2 := congrFun (fa2 (v + 1) (by omega)) 9
    have wm2 := congrFun (fa2 (v + 2) (by omega)) 7
    have wm3 := congrFun (fa2 (v + 2) (by omega)) 3
    have mt5 := congrFun (fa2 v (by omega)) 5
    refine J_iload hX dX7_paintRow_25 rfl ?_
    refine J_aload_n hX dX7_paintRow_27 rfl ?_
    refine J_gr hX (v + 1) fr_RX7_12 dX7_paintRow_28 (show K (v) = 7 from hV 0 (by decide)) rfl ?_
    refine J_geti hX fi_RX7_203 dX7_paintRow_31 (show K (v + 1) = 2 from hV 1 (by decide)) (fun r31 => ?_)
    refine J_icmp_ge hX 109 dX7_paintRow_34 (by omega) (by omega) (by decide) (fun c34 => ?_) (fun c34 => ?_)
    · have pk : (∀ c : Int, 0 ≤ c → c < M (v + 2) 3 → M2 a c = pnt (stg M (v + 2)) l r (nb (stg M (v + 2))) c) := by rw [show nb (stg M (v + 2)) = k by omega]; exact hi25.2
      have JN143 : ∀ (m6 : MM), ((∀ i, i ≠ a → m6 i = M i) ∧ (∀ c : Int, 0 ≤ c → c < M (v + 2) 3 → m6 a c = if r = (ttl (stg M (v + 2))).1 ∧ tco (stg M (v + 2)) l ≤ c ∧ c < tco (stg M (v + 2)) l + M (v + 2) 7 then 15 else pnt (stg M (v + 2)) l r (nb (stg M (v + 2))) c)) → J E X 143 [(0, .ref v), (1, vI l), (2, vI r), (3, .ref a)] [] K m6 0 0 := by
        intro m6  hj143
        have fa6 : ∀ i, i ≠ a → m6 i = M i := hj143.1
        have st6 : stg m6 (v + 2) = (stg M (v + 2)) := stg_eq (fun k hk => fa6 _ (by omega))
        have hW6 := WF_fr st6 hW
        have w6 := congrFun (fa6 (v + 2) (by omega)) 3
        have m63 := congrFun (fa6 v (by omega)) 3
        have m64 := congrFun (fa6 v (by omega)) 4
        refine J_aload_n hX dX7_paintRow_143 rfl ?_
        refine J_aload_n hX dX7_paintRow_144 rfl ?_
        refine J_iconst hX dX7_paintRow_145 ?_
        refine J_aload_n hX dX7_paintRow_146 rfl ?_
        refine J_iload_n hX dX7_paintRow_147 rfl ?_
        refine J_callVI hX _ dX7_paintRow_148 cw_RX7_123 (m_X7_firstOpen hV hl (by omega)) ⟨(show K (v) = 7 from hV 0 (by decide)), by decide, by decide, rfl⟩ rfl (Nat.le_of_ble_eq_true rfl) (by decide) ⟨Nat.zero_le _, Nat.zero_le _⟩ (fun r148 => ?_)
        refine J_iconst hX dX7_paintRow_151 ?_
        refine J_callVM hX _ dX7_paintRow_152 cw_RX7_199 (m_X7_fill hV hW6 hKa ha (by omega) (by omega) (by omega)) ⟨(show K (v) = 7 from hV 0 (by decide)), by decide, by decide, rfl⟩ rfl (Nat.le_of_ble_eq_true rfl) (by decide) ⟨Nat.zero_le _, Nat.zero_le _⟩ (fun r9 M152 q152 => ?_)
        obtain ⟨rfl, fM152, cM152⟩ := q152
        have st7 : stg M152 (v + 2) = stg m6 (v + 2) := stg_eq (fun k hk => fM152 _ (by omega))
        have hW7 := WF_fr st7 hW6
        have w152 := congrFun (fM152 (v + 2) (by omega)) 3
        have m154 := congrFun (fM152 v (by omega)) 4
        have hW8 := hW7
        have wsM := hW7.2.1
        unfold WFs at wsM
        refine J_aload_n hX dX7_paintRow_155 rfl ?_
        refine J_aload_n hX dX7_paintRow_156 rfl ?_
        refine J_aload_n hX dX7_paintRow_157 rfl ?_
        refine J_iload_n hX dX7_paintRow_158 rfl ?_
        refine J_callVI hX _ dX7_paintRow_159 cw_RX7_126 (m_X7_endOfOpen hV hW7 hl (by omega)) ⟨(show K (v) = 7 from hV 0 (by decide)), by decide, by decide, rfl⟩ rfl (Nat.le_of_ble_eq_true rfl) (by decide) ⟨Nat.zero_le _, Nat.zero_le _⟩ (fun r159 => ?_)
        have e8b : (if l = 0 then M152 (v + 2) 3 - M152 v 4 else M152 (v + 2) 3) = cls (stg M (v + 2)) l := by rw [← eC, w152, m154, m64, w6]
        refine J_aload_n hX dX7_paintRow_162 rfl ?_
        refine J_gr hX (v + 2) fr_RX7_22 dX7_paintRow_163 (show K (v) = 7 from hV 0 (by decide)) rfl ?_
        refine J_geti hX fi_RX7_90 dX7_paintRow_166 (show K (v + 2) = 5 from (hV).stage 0 (by decide)) (fun r166 => ?_)
        refine J_iconst hX dX7_paintRow_169 ?_
        refine J_callVM hX _ dX7_paintRow_170 cw_RX7_199 (m_X7_fill hV hW8 hKa ha (by omega) (by omega) (by omega)) ⟨(show K (v) = 7 from hV 0 (by decide)), by decide, by decide, rfl⟩ rfl (Nat.le_of_ble_eq_true rfl) (by decide) ⟨Nat.zero_le _, Nat.zero_le _⟩ (fun r9 M170 q170 => ?_)
        obtain ⟨rfl, fM170, cM170⟩ := q170
        exact J_vret hX hQ dX7_paintRow_173 ⟨rfl, by refine ⟨rfl, fun i h => by rw [fM170 i h, fM152 i h, fa6 i h], fun c c0 c1 => ?_⟩; rw [cM170 c, e8b, cM152 c, hj143.2 c c0 c1, w152, w6, m63]; exact pr_fin c0 c1 eO rfl⟩ (Nat.zero_le _) (Nat.zero_le _)
      refine J_iload_n hX dX7_paintRow_109 rfl ?_
      refine J_aload_n hX dX7_paintRow_110 rfl ?_
      refine J_geti hX fi_RX7_92 dX7_paintRow_111 (show K (v) = 7 from hV 0 (by decide)) (fun r111 => ?_)
      refine J_icmp_ne hX 143 dX7_paintRow_114 (by omega) (by omega) (by decide) (fun c114 => ?_) (fun c114 => ?_)
      · exact J_locI (JN143 _ ⟨by first | exact (fun i h => by rw [fM140 i h, fa2 i h]) | exact fa2, fun c c0 c1 => by first | (rw [if_neg (fun q => by omega)]; exact pk c c0 c1) | (rw [cM140 c, wm2]; by_cases h9 : r = (ttl (stg M (v + 2))).1 ∧ tco (stg M (v + 2)) l ≤ c ∧ c < tco (stg M (v + 2)) l + M (v + 2) 7; (rw [if_pos h9, if_pos (by omega)]); (rw [if_neg h9, if_neg (by omega)]; exact pk c c0 c1))⟩) rfl
      · refine J_aload_n hX dX7_paintRow_117 rfl ?_
        refine J_iload_n hX dX7_paintRow_118 rfl ?_
        refine J_callVI hX _ dX7_paintRow_119 cw_RX7_136 (m_X7_titleColumn hV hW2 hV2b (by omega)) ⟨(show K (v) = 7 from hV 0 (by decide)), by decide, by decide, rfl⟩ rfl (Nat.le_of_ble_eq_true rfl) (by decide) ⟨Nat.zero_le _, Nat.zero_le _⟩ (fun r119 => ?_)
        refine J_istore hX dX7_paintRow_122 (by decide) ?_
        rw [st2]
        refine J_aload_n hX dX7_paintRow_124 rfl ?_
        refine J_aload_n hX dX7_paintRow_125 rfl ?_
        refine J_iload hX dX7_paintRow_126 rfl ?_
        refine J_iload hX dX7_paintRow_128 rfl ?_
        refine J_aload_n hX dX7_paintRow_130 rfl ?_
        refine J_gr hX (v + 2) fr_RX7_22 dX7_paintRow_131 (show K (v) = 7 from hV 0 (by decide)) rfl ?_
        refine J_geti hX fi_RX7_98 dX7_paintRow_134 (show K (v + 2) = 5 from (hV).stage 0 (by decide)) (fun r134 => ?_)
        refine J_iadd hX dX7_paintRow_137 ?_
        refine J_bipush hX dX7_paintRow_138 rfl ?_
        refine J_callVM hX _ dX7_paintRow_140 cw_RX7_199 (m_X7_fill hV hW2 hKa ha (by omega) (by omega) (by omega)) ⟨(show K (v) = 7 from hV 0 (by decide)), by decide, by decide, rfl⟩ rfl (Nat.le_of_ble_eq_true rfl) (by decide) ⟨Nat.zero_le _, Nat.zero_le _⟩ (fun r9 M140 q140 => ?_)
        obtain ⟨rfl, fM140, cM140⟩ := q140
        exact J_locI (JN143 _ ⟨by first | exact (fun i h => by rw [fM140 i h, fa2 i h]) | exact fa2, fun c c0 c1 => by first | (rw [if_neg (fun q => by omega)]; exact pk c c0 c1) | (rw [cM140 c, wm2]; by_cases h9 : r = (ttl (stg M (v + 2))).1 ∧ tco (stg M (v + 2)) l ≤ c ∧ c < tco (stg M (v + 2)) l + M (v + 2) 7; (rw [if_pos h9, if_pos (by omega)]); (rw [if_neg h9, if_neg (by omega)]; exact pk c c0 c1))⟩) rfl
    · refine J_aload_n hX dX7_paintRow_37 rfl ?_
      refine J_gr hX (v + 1) fr_RX7_12 dX7_paintRow_38 (show K (v) = 7 from hV 0 (by decide)) rfl ?_
      refine J_iload hX dX7_paintRow_41 rfl ?_
      refine J_callVI hX _ dX7_paintRow_43 cw_RX7_205 (m_X2_boxAt hV hW2 hP2 (by omega)) ⟨(show K (v + 1) = 2 from hV 1 (by decide)), by decide, by decide, rfl⟩ rfl (Nat.le_of_ble_eq_true rfl) (by decide) ⟨Nat.zero_le _, Nat.zero_le _⟩ (fun r43 => ?_)
      rw [if_pos (show 0 ≤ (k : Int) ∧ (k : Int) < (nb (stg M2 (v + 2)) : Nat) by rw [st2]; omega), st2]
      have ob := ord_box (S := (stg M (v + 2))) (j := k) (by omega)
      have ob1 := ob.1.1
      refine J_istore hX dX7_paintRow_46 (by decide) ?_
      refine J_aload_n hX dX7_paintRow_48 rfl ?_
      refine J_gr hX (v + 1) fr_RX7_12 dX7_paintRow_49 (show K (v) = 7 from hV 0 (by decide)) rfl ?_
      refine J_iload hX dX7_paintRow_52 rfl ?_
      refine J_iload_n hX dX7_paintRow_54 rfl ?_
      refine J_callVB hX _ dX7_paintRow_55 cw_RX7_129 (m_X2_inRow hV hW2 (by omega) (by omega) (hP2.yr hW2 _)) ⟨(show K (v + 1) = 2 from hV 1 (by decide)), by decide, by decide, rfl⟩ rfl (Nat.le_of_ble_eq_true rfl) (by decide) ⟨Nat.zero_le _, Nat.zero_le _⟩ ?_
      refine J_ifb_eq hX 103 dX7_paintRow_58 (by decide) (fun c58 => ?_) (fun c58 => ?_)
      · refine J_iinc hX dX7_paintRow_103 rfl (by decide) ?_
        refine J_goto hX 25 dX7_paintRow_106 (by decide) ?_
        exact J_locI (ih25 (k + 1) (by omega) (by omega) _ (by first | exact ⟨fun i h => by rw [fM100 i h, fa2 i h], fun c c0 c1 => by rw [cM100 c]; exact pnt_step (hi25.2 c c0 c1) c0 (by omega) ((inRM_iff hP2).mp c58) st2 zc z7 z9 ob.1⟩ | exact ⟨fa2, fun c c0 c1 => by rw [hi25.2 c c0 c1]; exact pnt_skip (fun q => c58 ((inRM_iff hP2).mpr (by rw [st2]; exact q)))⟩)) rfl
      · have hb := c58.1
        have hhas : has M2 (v + 2) (ord (stg M (v + 2)) k) := hb.1
        have zc := coM_eq hP2 hl hb
        rw [st2] at zc
        have zr := col_rng hS0 ob.1 l
        have zw := hWn (ord (stg M (v + 2)) k) ob1.1 ob1.2.1
        have z7 := congrFun (fa2 (v + 2 + 7) (by omega)) (ord (stg M (v + 2)) k)
        have z9 := congrFun (fa2 (v + 2 + 9) (by omega)) (ord (stg M (v + 2)) k)
        refine J_aload_n hX dX7_paintRow_61 rfl ?_
        refine J_gr hX (v + 1) fr_RX7_12 dX7_paintRow_62 (show K (v) = 7 from hV 0 (by decide)) rfl ?_
        refine J_iload_n hX dX7_paintRow_65 rfl ?_
        refine J_iload hX dX7_paintRow_66 rfl ?_
        refine J_callVI hX _ dX7_paintRow_68 cw_RX7_133 (m_X2_column hV hl hhas (by omega)) ⟨(show K (v + 1) = 2 from hV 1 (by decide)), by decide, by decide, rfl⟩ rfl (Nat.le_of_ble_eq_true rfl) (by decide) ⟨Nat.zero_le _, Nat.zero_le _⟩ (fun r68 => ?_)
        refine J_istore hX dX7_paintRow_71 (by decide) ?_
        refine J_aload_n hX dX7_paintRow_73 rfl ?_
        refine J_aload_n hX dX7_paintRow_74 rfl ?_
        refine J_iload hX dX7_paintRow_75 rfl ?_
        refine J_iload hX dX7_paintRow_77 rfl ?_
        refine J_aload_n hX dX7_paintRow_79 rfl ?_
        refine J_gr hX (v + 2 + 1) fr_RX7_29 dX7_paintRow_80 (show K (v) = 7 from hV 0 (by decide)) rfl ?_
        refine J_gr hX (v + 2 + 7) fr_RX7_83 dX7_paintRow_83 (show K (v + 2 + 1) = 6 from (hV).stage 1 (by decide)) rfl ?_
        refine J_iload hX dX7_paintRow_86 rfl ?_
        refine J_iald hX dX7_paintRow_88 (show K (v + 2 + 7) = 1000 + 20 from (hV).stage 7 (by decide)) ⟨by omega, by omega⟩ (by decide) (fun r88 => ?_)
        refine J_iadd hX dX7_paintRow_89 ?_
        refine J_aload_n hX dX7_paintRow_90 rfl ?_
        refine J_gr hX (v + 2 + 1) fr_RX7_29 dX7_paintRow_91 (show K (v) = 7 from hV 0 (by decide)) rfl ?_
        refine J_gr hX (v + 2 + 9) fr_RX7_168 dX7_paintRow_94 (show K (v + 2 + 1) = 6 from (hV).stage 1 (by decide)) rfl ?_
        refine J_iload hX dX7_paintRow_97 rfl ?_
        refine J_iald hX dX7_paintRow_99 (show K (v + 2 + 9) = 1000 + 20 from (hV).stage 9 (by decide)) ⟨by omega, by omega⟩ (by decide) (fun r99 => ?_)
        refine J_callVM hX _ dX7_paintRow_100 cw_RX7_199 (m_X7_fill hV hW2 hKa ha (by omega) (by omega) (by omega)) ⟨(show K (v) = 7 from hV 0 (by decide)), by decide, by decide, rfl⟩ rfl (Nat.le_of_ble_eq_true rfl) (by decide) ⟨Nat.zero_le _, Nat.zero_le _⟩ (fun r9 M100 q100 => ?_)
        obtain ⟨rfl, fM100, cM100⟩ := q100
        refine J_iinc hX dX7_paintRow_103 rfl (by decide) ?_
        refine J_goto hX 25 dX7_paintRow_106 (by decide) ?_
        exact J_locI (ih25 (k + 1) (by omega) (by omega) _ (by first | exact ⟨fun i h => by rw [fM100 i h, fa2 i h], fun c c0 c1 => by rw [cM100 c]; exact pnt_step (hi25.2 c c0 c1) c0 (by omega) ((inRM_iff hP2).mp c58) st2 zc z7 z9 ob.1⟩ | exact ⟨fa2, fun c c0 c1 => by rw [hi25.2 c c0 c1]; exact pnt_skip (fun q => c58 ((inRM_iff hP2).mpr (by rw [st2]; exact q)))⟩)) rfl
  exact J_locI (HL25 0 (Nat.zero_le _) _ ⟨fM19, fun c c0 c1 => by rw [cM19 c, if_pos ⟨⟨by omega, by omega⟩, by omega, by omega⟩]; exact (pnt_0 (stg M (v + 2)) l r c).symm⟩) rfl
