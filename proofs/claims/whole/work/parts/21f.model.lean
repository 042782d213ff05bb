/-! the reference: ghosts, ticks, states -/
theorem ct_add {p : Int → Prop} [DecidablePred p] (a : Nat) : ∀ b : Nat, ct p (a + b) = ct p a + ct (fun j => p (a + j)) b
  | 0 => by simp [ct]
  | b + 1 => by
    have ih := ct_add (p := p) a b
    have e : ct p (a + (b + 1)) = ct p (a + b) + bI (p ((a + b : Nat) : Int)) := rfl
    have e2 : ct (fun j => p (a + j)) (b + 1) = ct (fun j => p (a + j)) b + bI (p (a + (b : Int))) := rfl
    rw [e, e2, ih, show ((a + b : Nat) : Int) = (a : Int) + b by omega]
    omega
theorem ct_grid {P : Int → Int → Prop} [∀ a b, Decidable (P a b)] {w : Nat} (hw : 0 < w) : ∀ h : Nat, ct (fun j => P (j % w) (j / w)) (w * h) = sm (fun r => ct (fun c => P c r) w) h
  | 0 => by simp [ct, sm]
  | h + 1 => by
    rw [Nat.mul_succ, ct_add, ct_grid hw h]
    show _ = sm (fun r => ct (fun c => P c r) w) h + ct (fun c => P c h) w
    congr 1
    refine ct_congr (fun j hj => ?_)
    have e1 : (((w * h : Nat) : Int) + j) % w = j := by
      rw [show ((w * h : Nat) : Int) = (w : Int) * h by simp, Int.add_comm, Int.add_mul_emod_self_left]
      exact Int.emod_eq_of_lt (by omega) (by omega)
    have e2 : (((w * h : Nat) : Int) + j) / w = h := by
      rw [show ((w * h : Nat) : Int) = (w : Int) * h by simp, Int.add_comm, Int.add_mul_ediv_left _ _ (by omega), Int.ediv_eq_zero_of_lt (by omega) (by omega)]
      omega
    rw [e1, e2]
theorem gall_grid {T : Int} {S : MM} (hW : WFS T S) (least : Int) : gall S least = ct (fun j => least ≤ ghs S (j % S 0 3) (j / S 0 3)) (S 0 3 * S 0 4).toNat := by
  have hs := hW.2.1
  unfold WFSs at hs
  have h := ct_grid (P := fun c r => least ≤ ghs S c r) (w := (S 0 3).toNat) (by omega) (S 0 4).toNat
  rw [show (((S 0 3).toNat : Nat) : Int) = S 0 3 by omega] at h
  unfold gall gcnt
  rw [← h, Int.toNat_mul (by omega) (by omega)]
theorem sv_fr {M M2 : MM} {r : Nat} {S : MM} (h : Sur M r S) (h1 : ∀ i, r ≤ i → i ≤ r + 10 → i ≠ r + 1 → M2 i = M i) : Sur M2 r S := by
  obtain ⟨a, b, c, d⟩ := h
  have e := h1 r (by omega) (by omega) (by omega)
  refine ⟨a.fr (fun i i1 i2 => h1 i (by omega) i2 (by omega)) (by rw [e]), by rw [e]; exact b, by rw [e]; exact c, by rw [e]; exact d⟩
-- X10_ghostsNow
set_option maxHeartbeats 4000000 in
set_option maxRecDepth 100000 in
theorem m_X10_ghostsNow {E : EE} {K : Nat → Nat} {M : MM} {r : Nat} {T : Int} {S : MM} {least : Int} (hM : ModelK K r) (hR : RS S (M (r + 1))) (hW : WFS T S) (hl : i32 least) : CnM E 7 yX10_ghostsNow cX10_ghostsNow 4 (Option.some FieldType.int) [.ref r, vI least] K M (fun r9 M2 => r9 = some (vI (gall S least)) ∧ (∀ i, i ≠ r → (i < r + 6 ∨ r + 10 < i) → M2 i = M i) ∧ (∀ j, (j < 12 ∨ j = 13 ∨ 19 < j) → M2 r j = M r j) ∧ Sur M2 r S) := by
  obtain ⟨⟨rs0, rs1, rs2, rs3, rs4, rs5, rs6, rs7, rs8, rs9, rs10, rs13⟩, rst, rsn, rsc⟩ := id hR
  have hs9 := hW.2.1
  unfold WFSs at hs9
  have mb := mul_bd (x := S 0 3) (y := S 0 4) (A := 200) (B := 120) (by omega) (by omega) (by omega) (by omega)
  have mb0 := Int.mul_nonneg (a := S 0 3) (b := S 0 4) (by omega) (by omega)
  have hrg := ct_rng (fun j : Int => least ≤ ghs S (j % S 0 3) (j / S 0 3))
  refine Cn_of RX10 (plainFor_of_name (by decide)) rfl (Nat.le_of_ble_eq_true rfl) (fun X hX hQ => ?_)
  refine J_aload_n hX dX10_ghostsNow_0 rfl ?_
  refine J_callVM hX _ dX10_ghostsNow_1 cw_RX10_235 (m_X10_survey hM hR hW) ⟨(show K (r) = 9 from hM 0 (by decide)), by decide, by decide, rfl⟩ rfl (Nat.le_of_ble_eq_true rfl) (by decide) ⟨Nat.zero_le _, Nat.zero_le _⟩ (fun r9 M1 q1 => ?_)
  obtain ⟨rfl, frM1, grM1, svM1⟩ := q1
  have hRa : RS S (M1 (r + 1)) := by rw [frM1 _ (by omega) (by omega)]; exact hR
  have w0 : M1 (r + 1) 0 = S 0 3 := by rw [frM1 _ (by omega) (by omega)]; exact rs0
  have w1 : M1 (r + 1) 1 = S 0 4 := by rw [frM1 _ (by omega) (by omega)]; exact rs1
  refine J_iconst hX dX10_ghostsNow_4 ?_
  refine J_istore_n hX dX10_ghostsNow_5 (by decide) ?_
  refine J_iconst hX dX10_ghostsNow_6 ?_
  refine J_istore_n hX dX10_ghostsNow_7 (by decide) ?_
  have HL8 : ∀ k : Nat, k ≤ (S 0 3 * S 0 4).toNat → ∀ (s : Int), (s = ct (fun j : Int => least ≤ ghs S (j % S 0 3) (j / S 0 3)) k) → J E X 8 [(0, .ref r), (1, vI least), (2, vI s), (3, vI (k : Int))] [] K M1 0 0 := by
    refine up_ind ((S 0 3 * S 0 4).toNat) (fun k hk8 ih8 => ?_)
    intro s  hi8
    have hr8 := hrg k
    refine J_iload_n hX dX10_ghostsNow_8 rfl ?_
    refine J_aload_n hX dX10_ghostsNow_9 rfl ?_
    refine J_gr hX (r + 1) fr_RX10_7 dX10_ghostsNow_10 (show K (r) = 9 from hM 0 (by decide)) rfl ?_
    refine J_iconst hX dX10_ghostsNow_13 ?_
    refine J_iald hX dX10_ghostsNow_14 (show K (r + 1) = 1000 + 198 from hM 1 (by decide)) ⟨by omega, by omega⟩ (by decide) (fun r14 => ?_)
    refine J_aload_n hX dX10_ghostsNow_15 rfl ?_
    refine J_gr hX (r + 1) fr_RX10_7 dX10_ghostsNow_16 (show K (r) = 9 from hM 0 (by decide)) rfl ?_
    refine J_iconst hX dX10_ghostsNow_19 ?_
    refine J_iald hX dX10_ghostsNow_20 (show K (r + 1) = 1000 + 198 from hM 1 (by decide)) ⟨by omega, by omega⟩ (by decide) (fun r20 => ?_)
    rw [w0, w1]
    refine J_imul hX dX10_ghostsNow_21 ?_
    refine J_icmp_ge hX 63 dX10_ghostsNow_22 (by omega) (by omega) (by decide) (fun c22 => ?_) (fun c22 => ?_)
    · refine J_iload_n hX dX10_ghostsNow_63 rfl ?_
      exact J_iret hX hQ dX10_ghostsNow_64 ⟨rfl, by exact ⟨by rw [hi8, gall_grid hW, show (S 0 3 * S 0 4).toNat = k by omega], frM1, grM1, svM1⟩⟩ (Nat.zero_le _) (Nat.zero_le _)
    · have em0 := Int.emod_nonneg (k : Int) (show S 0 3 ≠ 0 by omega)
      have em1 := Int.emod_lt_of_pos (k : Int) (show 0 < S 0 3 by omega)
      have ed0 := Int.ediv_nonneg (a := (k : Int)) (b := S 0 3) (by omega) (by omega)
      have ed1 := Int.ediv_lt_of_lt_mul (a := (k : Int)) (b := S 0 4) (c := S 0 3) (by omega) (by rw [Int.mul_comm]; omega)
      have et1 : (k : Int).tmod (S 0 3) = (k : Int) % S 0 3 := Int.tmod_eq_emod_of_nonneg (by omega)
      have et2 : (k : Int).tdiv (S 0 3) = (k : Int) / S 0 3 := Int.tdiv_eq_ediv_of_nonneg (by omega)
      refine J_iload_n hX dX10_ghostsNow_25 rfl ?_
      refine J_aload_n hX dX10_ghostsNow_26 rfl ?_
      refine J_iload_n hX dX10_ghostsNow_27 rfl ?_
      refine J_aload_n hX dX10_ghostsNow_28 rfl ?_
      refine J_gr hX (r + 1) fr_RX10_7 dX10_ghostsNow_29 (show K (r) = 9 from hM 0 (by decide)) rfl ?_
      refine J_iconst hX dX10_ghostsNow_32 ?_
      refine J_iald hX dX10_ghostsNow_33 (show K (r + 1) = 1000 + 198 from hM 1 (by decide)) ⟨by omega, by omega⟩ (by decide) (fun r33 => ?_)
      rw [w0]
      refine J_irem hX dX10_ghostsNow_34 (by omega) ⟨by omega, by omega⟩ ?_
      refine J_iload_n hX dX10_ghostsNow_35 rfl ?_
      refine J_aload_n hX dX10_ghostsNow_36 rfl ?_
      refine J_gr hX (r + 1) fr_RX10_7 dX10_ghostsNow_37 (show K (r) = 9 from hM 0 (by decide)) rfl ?_
      refine J_iconst hX dX10_ghostsNow_40 ?_
      refine J_iald hX dX10_ghostsNow_41 (show K (r + 1) = 1000 + 198 from hM 1 (by decide)) ⟨by omega, by omega⟩ (by decide) (fun r41 => ?_)
      rw [w0]
      refine J_idiv hX dX10_ghostsNow_42 (by omega) ⟨by omega, by omega⟩ ?_
      rw [et1, et2]
      refine J_callVI hX _ dX10_ghostsNow_43 cw_RX10_264 (m_X10_ghostOf hM hRa hW svM1 (by omega) (by omega)) ⟨(show K (r) = 9 from hM 0 (by decide)), by decide, by decide, rfl⟩ rfl (Nat.le_of_ble_eq_true rfl) (by decide) ⟨Nat.zero_le _, Nat.zero_le _⟩ (fun r43 => ?_)
      have gr9 := ghs_rng hW ((k : Int) % S 0 3) ((k : Int) / S 0 3)
      refine J_iload_n hX dX10_ghostsNow_46 rfl ?_
      refine J_icmp_lt hX 54 dX10_ghostsNow_47 (by omega) (by omega) (by decide) (fun c47 => ?_) (fun c47 => ?_)
      · refine J_iconst hX dX10_ghostsNow_54 ?_
        refine J_iadd hX dX10_ghostsNow_55 ?_
        refine J_istore_n hX dX10_ghostsNow_56 (by decide) ?_
        refine J_iinc hX dX10_ghostsNow_57 rfl (by decide) ?_
        refine J_goto hX 8 dX10_ghostsNow_60 (by decide) ?_
        exact J_locI (ih8 (k + 1) (by omega) (by omega) _ (by first | (rw [hi8, ct_t (p := (fun j : Int => least ≤ ghs S (j % S 0 3) (j / S 0 3))) (show least ≤ ghs S ((k : Int) % S 0 3) ((k : Int) / S 0 3) by omega)]) | (rw [hi8, ct_f (p := (fun j : Int => least ≤ ghs S (j % S 0 3) (j / S 0 3))) (show ¬ least ≤ ghs S ((k : Int) % S 0 3) ((k : Int) / S 0 3) by omega)]; omega))) rfl
      · refine J_iconst hX dX10_ghostsNow_50 ?_
        refine J_goto hX 55 dX10_ghostsNow_51 (by decide) ?_
        refine J_iadd hX dX10_ghostsNow_55 ?_
        refine J_istore_n hX dX10_ghostsNow_56 (by decide) ?_
        refine J_iinc hX dX10_ghostsNow_57 rfl (by decide) ?_
        refine J_goto hX 8 dX10_ghostsNow_60 (by decide) ?_
        exact J_locI (ih8 (k + 1) (by omega) (by omega) _ (by first | (rw [hi8, ct_t (p := (fun j : Int => least ≤ ghs S (j % S 0 3) (j / S 0 3))) (show least ≤ ghs S ((k : Int) % S 0 3) ((k : Int) / S 0 3) by omega)]) | (rw [hi8, ct_f (p := (fun j : Int => least ≤ ghs S (j % S 0 3) (j / S 0 3))) (show ¬ least ≤ ghs S ((k : Int) % S 0 3) ((k : Int) / S 0 3) by omega)]; omega))) rfl
  exact J_locI (HL8 0 (Nat.zero_le _) _ rfl) rfl
/-- ticks on a page -/
def tkSn : Nat → MM → MM
  | 0, S => S
  | k + 1, S => tkS (tkSn k S)
theorem tkS_row {S : MM} {k : Nat} (h : k ≠ 11) : tkS S k = S k := by
  unfold tkS
  split
  · exact mset_ne h
  · rw [mset_ne h, mset_ne h, mset_ne h]
theorem tkSn_row {S : MM} {k : Nat} (h : k ≠ 11) : ∀ j : Nat, tkSn j S k = S k
  | 0 => rfl
  | j + 1 => (tkS_row h).trans (tkSn_row h j)
/-- .. of the class are those of the page -/
theorem tkN_S {T : Int} {M : MM} {b : Nat} (hW : WF T M b) : ∀ k : Nat, T + k ≤ 1000000000 → stg (tkN b (M (b + 15) 1) k M) b = tkSn k (stg M b)
  | 0, _ => rfl
  | k + 1, h => by
    have hs := hW.2.1
    unfold WFs at hs
    have h1 := WF_tkN hW (r := M (b + 15) 1) (by omega) k (by omega)
    have e : tkN b (M (b + 15) 1) k M (b + 15) 1 = M (b + 15) 1 := by rw [tkN_rate k 15 (by decide)]
    have h2 := tkM_S h1 (by omega)
    rw [e, tkN_S hW k (by omega)] at h2
    exact h2
theorem WF_S {T : Int} {M : MM} {b : Nat} (h : WFS T (stg M b)) : WF T M b := h
theorem WFS_tkSn {T : Int} {S : MM} (hW : WFS T S) (hz : ∀ k, 16 ≤ k → S k = fun _ => 0) (k : Nat) (h : T + k ≤ 1000000000) : WFS (T + k) (tkSn k S) := by
  have e0 : stg S 0 = S := by
    funext i
    unfold stg
    by_cases q : i < 16
    · rw [if_pos q, Nat.zero_add]
    · rw [if_neg q, hz i (by omega)]
  have hW0 : WF T S 0 := WF_S (by rw [e0]; exact hW)
  have hs := hW.2.1
  unfold WFSs at hs
  have h1 := (WF_tkN hW0 (r := S 15 1) (by omega) k h).S
  rw [show S 15 1 = S (0 + 15) 1 from rfl, tkN_S hW0 k h, e0] at h1
  exact h1
-- X10_ticksOn
set_option maxHeartbeats 4000000 in
set_option maxRecDepth 100000 in
theorem m_X10_ticksOn {E : EE} {K : Nat → Nat} {M : MM} {r : Nat} {T : Int} {S : MM} {t : Int} (hM : ModelK K r) (hR : RS S (M (r + 1))) (hW : WFS T S) (hT : T + t ≤ 1000000000) (ht : 0 ≤ t ∧ t ≤ 200) (hz : ∀ k, 16 ≤ k → S k = fun _ => 0) : CnM E 2 yX10_ticksOn cX10_ticksOn 3 (Option.some FieldType.int) [.ref r, vI t] K M (fun r9 M2 => r9 = some (vI (tkSn t.toNat S 11 1)) ∧ (∀ i, i ≠ r + 1 → M2 i = M i) ∧ RS (tkSn t.toNat S) (M2 (r + 1))) := by
  refine Cn_of RX10 (plainFor_of_name (by decide)) rfl (Nat.le_of_ble_eq_true rfl) (fun X hX hQ => ?_)
  refine J_iconst hX dX10_ticksOn_0 ?_
  refine J_istore_n hX dX10_ticksOn_1 (by decide) ?_
  have HL2 : ∀ k : Nat, k ≤ t.toNat → ∀ (M3 : MM), ((∀ i, i ≠ r + 1 → M3 i = M i) ∧ RS (tkSn k S) (M3 (r + 1))) → J E X 2 [(0, .ref r), (1, vI t), (2, vI (k : Int))] [] K M3 0 0 := by
    refine up_ind (t.toNat) (fun k hk2 ih2 => ?_)
    intro M3  hi2
    refine J_iload_n hX dX10_ticksOn_2 rfl ?_
    refine J_iload_n hX dX10_ticksOn_3 rfl ?_
    refine J_icmp_ge hX 17 dX10_ticksOn_4 (by omega) (by omega) (by decide) (fun c4 => ?_) (fun c4 => ?_)
    · refine J_aload_n hX dX10_ticksOn_17 rfl ?_
      refine J_gr hX (r + 1) fr_RX10_7 dX10_ticksOn_18 (show K (r) = 9 from hM 0 (by decide)) rfl ?_
      refine J_iconst hX dX10_ticksOn_21 ?_
      refine J_iald hX dX10_ticksOn_22 (show K (r + 1) = 1000 + 198 from hM 1 (by decide)) ⟨by omega, by omega⟩ (by decide) (fun r22 => ?_)
      exact J_iret hX hQ dX10_ticksOn_23 ⟨rfl, by have e4 := hi2.2.1.2.2.2.2.1; exact ⟨by rw [e4, show t.toNat = k by omega], hi2.1, by rw [show t.toNat = k by omega]; exact hi2.2⟩⟩ (Nat.zero_le _) (Nat.zero_le _)
    · refine J_aload_n hX dX10_ticksOn_7 rfl ?_
      refine J_callVM hX _ dX10_ticksOn_8 cw_RX10_142 (m_X10_tickOnce hM hi2.2 (WFS_tkSn hW hz k (by omega)) (by omega)) ⟨(show K (r) = 9 from hM 0 (by decide)), by decide, by decide, rfl⟩ rfl (Nat.le_of_ble_eq_true rfl) (by decide) ⟨Nat.zero_le _, Nat.zero_le _⟩ (fun r9 M8 q8 => ?_)
      obtain ⟨rfl, fM8, tM8⟩ := q8
      refine J_iinc hX dX10_ticksOn_11 rfl (by decide) ?_
      refine J_goto hX 2 dX10_ticksOn_14 (by decide) ?_
      exact J_locI (ih2 (k + 1) (by omega) (by omega) _ ⟨fun i hi => by rw [fM8 i hi]; exact hi2.1 i hi, tM8⟩) rfl
  exact J_locI (HL2 0 (Nat.zero_le _) _ ⟨fun _ _ => rfl, hR⟩) rfl
-- X10_bring
set_option maxHeartbeats 4000000 in
set_option maxRecDepth 100000 in
theorem m_X10_bring_a {E : EE} {K : Nat → Nat} {M : MM} {i0 i1 : Nat} {a p : Int} (h0 : K i0 = 1000 + 198) (h1 : K i1 = 1000 + 792) (hne : i0 ≠ i1) (ha : 0 ≤ a ∧ a + 198 ≤ 198) (hp : 0 ≤ p ∧ p + 198 ≤ 792) : CnM E 0 yX10_bring cX10_bring 5 none [.ref i0, vI a, .ref i1, vI p] K M (fun r9 M2 => r9 = none ∧ (∀ i, i ≠ i1 → M2 i = M i) ∧ ∀ j : Int, M2 i1 j = if p ≤ j ∧ j < p + 198 then M i0 (a + (j - p)) else M i1 j) := by
  refine Cn_of RX10 (plainFor_of_name (by decide)) rfl (Nat.le_of_ble_eq_true rfl) (fun X hX hQ => ?_)
  refine J_iconst hX dX10_bring_0 ?_
  refine J_istore hX dX10_bring_1 (by decide) ?_
  have HL3 : ∀ k : Nat, k ≤ 198 → ∀ (M3 : MM), ((∀ i, i ≠ i1 → M3 i = M i) ∧ ∀ j : Int, M3 i1 j = if p ≤ j ∧ j < p + k then M i0 (a + (j - p)) else M i1 j) → J E X 3 [(0, .ref i0), (1, vI a), (2, .ref i1), (3, vI p), (4, vI (k : Int))] [] K M3 0 0 := by
    refine up_ind (198) (fun k hk3 ih3 => ?_)
    intro M3  hi3
    refine J_iload hX dX10_bring_3 rfl ?_
    refine J_sipush hX dX10_bring_5 rfl ?_
    refine J_icmp_ge hX 29 dX10_bring_8 (by omega) (by decide) (by decide) (fun c8 => ?_) (fun c8 => ?_)
    · exact J_vret hX hQ dX10_bring_29 ⟨rfl, by exact ⟨rfl, hi3.1, fun j => by rw [hi3.2 j, show (k : Int) = 198 by omega]⟩⟩ (Nat.zero_le _) (Nat.zero_le _)
    · refine J_aload_n hX dX10_bring_11 rfl ?_
      refine J_iload_n hX dX10_bring_12 rfl ?_
      refine J_iload hX dX10_bring_13 rfl ?_
      refine J_iadd hX dX10_bring_15 ?_
      refine J_aload_n hX dX10_bring_16 rfl ?_
      refine J_iload_n hX dX10_bring_17 rfl ?_
      refine J_iload hX dX10_bring_18 rfl ?_
      refine J_iadd hX dX10_bring_20 ?_
      refine J_iald hX dX10_bring_21 h0 ⟨by omega, by omega⟩ (by decide) (fun r21 => ?_)
      refine J_istA hX dX10_bring_22 h1 ⟨by omega, by omega⟩ (by decide) (by omega) (fun m22 hm22 => ?_)
      have fm22 : ∀ i, i ≠ i1 → m22 i = M3 i := fun i h => by rw [hm22]; exact mset_ne h
      refine J_iinc hX dX10_bring_23 rfl (by decide) ?_
      refine J_goto hX 3 dX10_bring_26 (by decide) ?_
      exact J_locI (ih3 (k + 1) (by omega) (by omega) _ ⟨fun i hi => by rw [hm22, mset_ne hi]; exact hi3.1 i hi, fun j => by by_cases e : j = p + (k : Int); (rw [e, hm22, mset_eq, if_pos (by omega), hi3.1 _ hne]; congr 1; omega); (rw [hm22, mset_nj e, hi3.2 j]; by_cases h9 : p ≤ j ∧ j < p + (k : Int); (rw [if_pos h9, if_pos (by omega)]); (rw [if_neg h9, if_neg (by omega)]))⟩) rfl
  exact J_locI (HL3 0 (Nat.zero_le _) _ ⟨fun _ _ => rfl, fun j => by rw [if_neg (by omega)]⟩) rfl
-- X10_bring
set_option maxHeartbeats 4000000 in
set_option maxRecDepth 100000 in
theorem m_X10_bring_b {E : EE} {K : Nat → Nat} {M : MM} {i0 i1 : Nat} {a p : Int} (h0 : K i0 = 1000 + 792) (h1 : K i1 = 1000 + 198) (hne : i0 ≠ i1) (ha : 0 ≤ a ∧ a + 198 ≤ 792) (hp : 0 ≤ p ∧ p + 198 ≤ 198) : CnM E 0 yX10_bring cX10_bring 5 none [.ref i0, vI a, .ref i1, vI p] K M (fun r9 M2 => r9 = none ∧ (∀ i, i ≠ i1 → M2 i = M i) ∧ ∀ j : Int, M2 i1 j = if p ≤ j ∧ j < p + 198 then M i0 (a + (j - p)) else M i1 j) := by
  refine Cn_of RX10 (plainFor_of_name (by decide)) rfl (Nat.le_of_ble_eq_true rfl) (fun X hX hQ => ?_)
  refine J_iconst hX dX10_bring_0 ?_
  refine J_istore hX dX10_bring_1 (by decide) ?_
  have HL3 : ∀ k : Nat, k ≤ 198 → ∀ (M3 : MM), ((∀ i, i ≠ i1 → M3 i = M i) ∧ ∀ j : Int, M3 i1 j = if p ≤ j ∧ j < p + k then M i0 (a + (j - p)) else M i1 j) → J E X 3 [(0, .ref i0), (1, vI a), (2, .ref i1), (3, vI p), (4, vI (k : Int))] [] K M3 0 0 := by
    refine up_ind (198) (fun k hk3 ih3 => ?_)
    intro M3  hi3
    refine J_iload hX dX10_bring_3 rfl ?_
    refine J_sipush hX dX10_bring_5 rfl ?_
    refine J_icmp_ge hX 29 dX10_bring_8 (by omega) (by decide) (by decide) (fun c8 => ?_) (fun c8 => ?_)
    · exact J_vret hX hQ dX10_bring_29 ⟨rfl, by exact ⟨rfl, hi3.1, fun j => by rw [hi3.2 j, show (k : Int) = 198 by omega]⟩⟩ (Nat.zero_le _) (Nat.zero_le _)
    · refine J_aload_n hX dX10_bring_11 rfl ?_
      refine J_iload_n hX dX10_bring_12 rfl ?_
      refine J_iload hX dX10_bring_13 rfl ?_
      refine J_iadd hX dX10_bring_15 ?_
      refine J_aload_n hX dX10_bring_16 rfl ?_
      refine J_iload_n hX dX10_bring_17 rfl ?_
      refine J_iload hX dX10_bring_18 rfl ?_
      refine J_iadd hX dX10_bring_20 ?_
      refine J_iald hX dX10_bring_21 h0 ⟨by omega, by omega⟩ (by decide) (fun r21 => ?_)
      refine J_istA hX dX10_bring_22 h1 ⟨by omega, by omega⟩ (by decide) (by omega) (fun m22 hm22 => ?_)
      have fm22 : ∀ i, i ≠ i1 → m22 i = M3 i := fun i h => by rw [hm22]; exact mset_ne h
      refine J_iinc hX dX10_bring_23 rfl (by decide) ?_
      refine J_goto hX 3 dX10_bring_26 (by decide) ?_
      exact J_locI (ih3 (k + 1) (by omega) (by omega) _ ⟨fun i hi => by rw [hm22, mset_ne hi]; exact hi3.1 i hi, fun j => by by_cases e : j = p + (k : Int); (rw [e, hm22, mset_eq, if_pos (by omega), hi3.1 _ hne]; congr 1; omega); (rw [hm22, mset_nj e, hi3.2 j]; by_cases h9 : p ≤ j ∧ j < p + (k : Int); (rw [if_pos h9, if_pos (by omega)]); (rw [if_neg h9, if_neg (by omega)]))⟩) rfl
  exact J_locI (HL3 0 (Nat.zero_le _) _ ⟨fun _ _ => rfl, fun j => by rw [if_neg (by omega)]⟩) rfl
-- X10_bring
set_option maxHeartbeats 4000000 in
set_option maxRecDepth 100000 in
theorem m_X10_bring_c {E : EE} {K : Nat → Nat} {M : MM} {i0 i1 : Nat} {a p : Int} (h0 : K i0 = 1000 + 198) (h1 : K i1 = 1000 + 198) (hne : i0 ≠ i1) (ha : 0 ≤ a ∧ a + 198 ≤ 198) (hp : 0 ≤ p ∧ p + 198 ≤ 198) : CnM E 0 yX10_bring cX10_bring 5 none [.ref i0, vI a, .ref i1, vI p] K M (fun r9 M2 => r9 = none ∧ (∀ i, i ≠ i1 → M2 i = M i) ∧ ∀ j : Int, M2 i1 j = if p ≤ j ∧ j < p + 198 then M i0 (a + (j - p)) else M i1 j) := by
  refine Cn_of RX10 (plainFor_of_name (by decide)) rfl (Nat.le_of_ble_eq_true rfl) (fun X hX hQ => ?_)
  refine J_iconst hX dX10_bring_0 ?_
  refine J_istore hX dX10_bring_1 (by decide) ?_
  have HL3 : ∀ k : Nat, k ≤ 198 → ∀ (M3 : MM), ((∀ i, i ≠ i1 → M3 i = M i) ∧ ∀ j : Int, M3 i1 j = if p ≤ j ∧ j < p + k then M i0 (a + (j - p)) else M i1 j) → J E X 3 [(0, .ref i0), (1, vI a), (2, .ref i1), (3, vI p), (4, vI (k : Int))] [] K M3 0 0 := by
    refine up_ind (198) (fun k hk3 ih3 => ?_)
    intro M3  hi3
    refine J_iload hX dX10_bring_3 rfl ?_
    refine J_sipush hX dX10_bring_5 rfl ?_
    refine J_icmp_ge hX 29 dX10_bring_8 (by omega) (by decide) (by decide) (fun c8 => ?_) (fun c8 => ?_)
    · exact J_vret hX hQ dX10_bring_29 ⟨rfl, by exact ⟨rfl, hi3.1, fun j => by rw [hi3.2 j, show (k : Int) = 198 by omega]⟩⟩ (Nat.zero_le _) (Nat.zero_le _)
    · refine J_aload_n hX dX10_bring_11 rfl ?_
      refine J_iload_n hX dX10_bring_12 rfl ?_
      refine J_iload hX dX10_bring_13 rfl ?_
      refine J_iadd hX dX10_bring_15 ?_
      refine J_aload_n hX dX10_bring_16 rfl ?_
      refine J_iload_n hX dX10_bring_17 rfl ?_
      refine J_iload hX dX10_bring_18 rfl ?_
      refine J_iadd hX dX10_bring_20 ?_
      refine J_iald hX dX10_bring_21 h0 ⟨by omega, by omega⟩ (by decide) (fun r21 => ?_)
      refine J_istA hX dX10_bring_22 h1 ⟨by omega, by omega⟩ (by decide) (by omega) (fun m22 hm22 => ?_)
      have fm22 : ∀ i, i ≠ i1 → m22 i = M3 i := fun i h => by rw [hm22]; exact mset_ne h
      refine J_iinc hX dX10_bring_23 rfl (by decide) ?_
      refine J_goto hX 3 dX10_bring_26 (by decide) ?_
      exact J_locI (ih3 (k + 1) (by omega) (by omega) _ ⟨fun i hi => by rw [hm22, mset_ne hi]; exact hi3.1 i hi, fun j => by by_cases e : j = p + (k : Int); (rw [e, hm22, mset_eq, if_pos (by omega), hi3.1 _ hne]; congr 1; omega); (rw [hm22, mset_nj e, hi3.2 j]; by_cases h9 : p ≤ j ∧ j < p + (k : Int); (rw [if_pos h9, if_pos (by omega)]); (rw [if_neg h9, if_neg (by omega)]))⟩) rfl
  exact J_locI (HL3 0 (Nat.zero_le _) _ ⟨fun _ _ => rfl, fun j => by rw [if_neg (by omega)]⟩) rfl
/-- what keep does -/
def KpM (M : MM) (r : Nat) (M2 : MM) : Prop := ∃ z c : Int, (z = 0 ∧ c = M r 3 ∧ c < 4 ∨ z = 1 ∧ M r 3 = 4 ∧ c = 3) ∧ M2 r 3 = c + 1 ∧ (∀ j i : Int, 0 ≤ j → j < c → 0 ≤ i → i < 198 → M2 (r + 3) (198 * j + i) = M (r + 3) (198 * (j + z) + i)) ∧ (∀ i : Int, 0 ≤ i → i < 198 → M2 (r + 3) (198 * c + i) = M (r + 1) i) ∧ (∀ i, i ≠ r → i ≠ r + 3 → M2 i = M i) ∧ (∀ j, j ≠ 3 → M2 r j = M r j)
-- X10_keep
set_option maxHeartbeats 4000000 in
set_option maxRecDepth 100000 in
theorem m_X10_keep {E : EE} {K : Nat → Nat} {M : MM} {r : Nat}  (hM : ModelK K r) (h3 : 0 ≤ M r 3 ∧ M r 3 ≤ 4) : CnM E 1 yX10_keep cX10_keep 2 none [.ref r] K M (fun r9 M2 => r9 = none ∧ KpM M r M2) := by
  refine Cn_of RX10 (plainFor_of_name (by decide)) rfl (Nat.le_of_ble_eq_true rfl) (fun X hX hQ => ?_)
  refine J_aload_n hX dX10_keep_0 rfl ?_
  refine J_geti hX fi_RX10_51 dX10_keep_1 (show K (r) = 9 from hM 0 (by decide)) (fun r1 => ?_)
  refine J_iconst hX dX10_keep_4 ?_
  refine J_icmp_ne hX 49 dX10_keep_5 (by omega) (by decide) (by decide) (fun c5 => ?_) (fun c5 => ?_)
  · refine J_aload_n hX dX10_keep_49 rfl ?_
    refine J_gr hX (r + 1) fr_RX10_7 dX10_keep_50 (show K (r) = 9 from hM 0 (by decide)) rfl ?_
    refine J_iconst hX dX10_keep_53 ?_
    refine J_aload_n hX dX10_keep_54 rfl ?_
    refine J_gr hX (r + 3) fr_RX10_16 dX10_keep_55 (show K (r) = 9 from hM 0 (by decide)) rfl ?_
    refine J_sipush hX dX10_keep_58 rfl ?_
    refine J_aload_n hX dX10_keep_61 rfl ?_
    refine J_geti hX fi_RX10_51 dX10_keep_62 (show K (r) = 9 from hM 0 (by decide)) (fun r62 => ?_)
    refine J_imul hX dX10_keep_65 ?_
    refine J_callSM hX _ dX10_keep_66 cw_RX10_54 (m_X10_bring_a (show K (r + 1) = 1000 + 198 from hM 1 (by decide)) (show K (r + 3) = 1000 + 792 from hM 3 (by decide)) (by omega) (by omega) (by omega)) rfl (Nat.le_of_ble_eq_true rfl) (by decide) ⟨Nat.zero_le _, Nat.zero_le _⟩ (fun r9 M66 q66 => ?_)
    obtain ⟨rfl, fM66, vM66⟩ := q66
    have e66 := congrFun (fM66 r (by omega)) 3
    refine J_aload_n hX dX10_keep_69 rfl ?_
    refine J_dup hX dX10_keep_70 rfl ?_
    refine J_geti hX fi_RX10_51 dX10_keep_71 (show K (r) = 9 from hM 0 (by decide)) (fun r71 => ?_)
    refine J_iconst hX dX10_keep_74 ?_
    refine J_iadd hX dX10_keep_75 ?_
    refine J_putA hX fw_RX10_51 dX10_keep_76 (show K (r) = 9 from hM 0 (by decide)) (by omega) (Or.inl rfl) (fun m76 hm76 => ?_)
    have fm76 : ∀ i, i ≠ r → m76 i = M66 i := fun i h => by rw [hm76]; exact mset_ne h
    have gm76 : ∀ i j, j ≠ 3 → m76 i j = M66 i j := fun i j h => by rw [hm76]; exact mset_nj h
    have vm76 := (congrFun (congrFun hm76 (r)) 3).trans mset_eq
    exact J_vret hX hQ dX10_keep_79 ⟨rfl, by first     | exact ⟨rfl, 0, M r 3, Or.inl ⟨rfl, rfl, by omega⟩, by rw [vm76, fM66 _ (by omega)], fun j i j0 j1 i0 i1 => by rw [fm76 _ (by omega), vM66, if_neg (by omega), Int.add_zero], fun i i0 i1 => by rw [fm76 _ (by omega), vM66, if_pos (by omega)]; congr 1; omega, fun i i1 i2 => by rw [fm76 i i1, fM66 i i2], fun j hj => by rw [gm76 _ j hj, fM66 _ (by omega)]⟩     | exact ⟨rfl, 1, 3, Or.inr ⟨rfl, c5, rfl⟩, by rw [vm76, fM66 _ (by omega), vm46]; omega, fun j i j0 j1 i0 i1 => by rw [fm76 _ (by omega), vM66, if_neg (by omega), fm46 _ (by omega), hi10.2, if_pos (by omega)]; congr 1; omega, fun i i0 i1 => by rw [fm76 _ (by omega), vM66, if_pos (by omega), fm46 _ (by omega), hi10.1 _ (by omega)]; congr 1; omega, fun i i1 i2 => by rw [fm76 i i1, fM66 i i2, fm46 i i1]; exact hi10.1 i i2, fun j hj => by rw [gm76 _ j hj, fM66 _ (by omega), gm46 _ j hj, hi10.1 _ (by omega)]⟩⟩ (Nat.zero_le _) (Nat.zero_le _)
  · refine J_iconst hX dX10_keep_8 ?_
    refine J_istore_n hX dX10_keep_9 (by decide) ?_
    have HL10 : ∀ k : Nat, k ≤ 594 → ∀ (M3 : MM), ((∀ i, i ≠ r + 3 → M3 i = M i) ∧ ∀ j : Int, M3 (r + 3) j = if 0 ≤ j ∧ j < k then M (r + 3) (j + 198) else M (r + 3) j) → J E X 10 [(0, .ref r), (1, vI (k : Int))] [] K M3 0 0 := by
      refine up_ind (594) (fun k hk10 ih10 => ?_)
      intro M3  hi10
      have h3r := congrFun (hi10.1 r (by omega)) 3
      refine J_iload_n hX dX10_keep_10 rfl ?_
      refine J_sipush hX dX10_keep_11 rfl ?_
      refine J_icmp_ge hX 39 dX10_keep_14 (by omega) (by decide) (by decide) (fun c14 => ?_) (fun c14 => ?_)
      · refine J_aload_n hX dX10_keep_39 rfl ?_
        refine J_dup hX dX10_keep_40 rfl ?_
        refine J_geti hX fi_RX10_51 dX10_keep_41 (show K (r) = 9 from hM 0 (by decide)) (fun r41 => ?_)
        refine J_iconst hX dX10_keep_44 ?_
        refine J_isub hX dX10_keep_45 ?_
        refine J_putA hX fw_RX10_51 dX10_keep_46 (show K (r) = 9 from hM 0 (by decide)) (by omega) (Or.inl rfl) (fun m46 hm46 => ?_)
        have fm46 : ∀ i, i ≠ r → m46 i = M3 i := fun i h => by rw [hm46]; exact mset_ne h
        have gm46 : ∀ i j, j ≠ 3 → m46 i j = M3 i j := fun i j h => by rw [hm46]; exact mset_nj h
        have vm46 := (congrFun (congrFun hm46 (r)) 3).trans mset_eq
        refine J_aload_n hX dX10_keep_49 rfl ?_
        refine J_gr hX (r + 1) fr_RX10_7 dX10_keep_50 (show K (r) = 9 from hM 0 (by decide)) rfl ?_
        refine J_iconst hX dX10_keep_53 ?_
        refine J_aload_n hX dX10_keep_54 rfl ?_
        refine J_gr hX (r + 3) fr_RX10_16 dX10_keep_55 (show K (r) = 9 from hM 0 (by decide)) rfl ?_
        refine J_sipush hX dX10_keep_58 rfl ?_
        refine J_aload_n hX dX10_keep_61 rfl ?_
        refine J_geti hX fi_RX10_51 dX10_keep_62 (show K (r) = 9 from hM 0 (by decide)) (fun r62 => ?_)
        refine J_imul hX dX10_keep_65 ?_
        refine J_callSM hX _ dX10_keep_66 cw_RX10_54 (m_X10_bring_a (show K (r + 1) = 1000 + 198 from hM 1 (by decide)) (show K (r + 3) = 1000 + 792 from hM 3 (by decide)) (by omega) (by omega) (by omega)) rfl (Nat.le_of_ble_eq_true rfl) (by decide) ⟨Nat.zero_le _, Nat.zero_le _⟩ (fun r9 M66 q66 => ?_)
        obtain ⟨rfl, fM66, vM66⟩ := q66
        have e66 := congrFun (fM66 r (by omega)) 3
        refine J_aload_n hX dX10_keep_69 rfl ?_
        refine J_dup hX dX10_keep_70 rfl ?_
        refine J_geti hX fi_RX10_51 dX10_keep_71 (show K (r) = 9 from hM 0 (by decide)) (fun r71 => ?_)
        refine J_iconst hX dX10_keep_74 ?_
        refine J_iadd hX dX10_keep_75 ?_
        refine J_putA hX fw_RX10_51 dX10_keep_76 (show K (r) = 9 from hM 0 (by decide)) (by omega) (Or.inl rfl) (fun m76 hm76 => ?_)
        have fm76 : ∀ i, i ≠ r → m76 i = M66 i := fun i h => by rw [hm76]; exact mset_ne h
        have gm76 : ∀ i j, j ≠ 3 → m76 i j = M66 i j := fun i j h => by rw [hm76]; exact mset_nj h
        have vm76 := (congrFun (congrFun hm76 (r)) 3).trans mset_eq
        exact J_vret hX hQ dX10_keep_79 ⟨rfl, by first     | exact ⟨rfl, 0, M r 3, Or.inl ⟨rfl, rfl, by omega⟩, by rw [vm76, fM66 _ (by omega)], fun j i j0 j1 i0 i1 => by rw [fm76 _ (by omega), vM66, if_neg (by omega), Int.add_zero], fun i i0 i1 => by rw [fm76 _ (by omega), vM66, if_pos (by omega)]; congr 1; omega, fun i i1 i2 => by rw [fm76 i i1, fM66 i i2], fun j hj => by rw [gm76 _ j hj, fM66 _ (by omega)]⟩     | exact ⟨rfl, 1, 3, Or.inr ⟨rfl, c5, rfl⟩, by rw [vm76, fM66 _ (by omega), vm46]; omega, fun j i j0 j1 i0 i1 => by rw [fm76 _ (by omega), vM66, if_neg (by omega), fm46 _ (by omega), hi10.2, if_pos (by omega)]; congr 1; omega, fun i i0 i1 => by rw [fm76 _ (by omega), vM66, if_pos (by omega), fm46 _ (by omega), hi10.1 _ (by omega)]; congr 1; omega, fun i i1 i2 => by rw [fm76 i i1, fM66 i i2, fm46 i i1]; exact hi10.1 i i2, fun j hj => by rw [gm76 _ j hj, fM66 _ (by omega), gm46 _ j hj, hi10.1 _ (by omega)]⟩⟩ (Nat.zero_le _) (Nat.zero_le _)
      · refine J_aload_n hX dX10_keep_17 rfl ?_
        refine J_gr hX (r + 3) fr_RX10_16 dX10_keep_18 (show K (r) = 9 from hM 0 (by decide)) rfl ?_
        refine J_iload_n hX dX10_keep_21 rfl ?_
        refine J_aload_n hX dX10_keep_22 rfl ?_
        refine J_gr hX (r + 3) fr_RX10_16 dX10_keep_23 (show K (r) = 9 from hM 0 (by decide)) rfl ?_
        refine J_iload_n hX dX10_keep_26 rfl ?_
        refine J_sipush hX dX10_keep_27 rfl ?_
        refine J_iadd hX dX10_keep_30 ?_
        refine J_iald hX dX10_keep_31 (show K (r + 3) = 1000 + 792 from hM 3 (by decide)) ⟨by omega, by omega⟩ (by decide) (fun r31 => ?_)
        refine J_istA hX dX10_keep_32 (show K (r + 3) = 1000 + 792 from hM 3 (by decide)) ⟨by omega, by omega⟩ (by decide) (by omega) (fun m32 hm32 => ?_)
        have fm32 : ∀ i, i ≠ r + 3 → m32 i = M3 i := fun i h => by rw [hm32]; exact mset_ne h
        have gm32 : ∀ i j, j ≠ (k : Int) → m32 i j = M3 i j := fun i j h => by rw [hm32]; exact mset_nj h
        have vm32 := (congrFun (congrFun hm32 (r + 3)) ((k : Int))).trans mset_eq
        refine J_iinc hX dX10_keep_33 rfl (by decide) ?_
        refine J_goto hX 10 dX10_keep_36 (by decide) ?_
        exact J_locI (ih10 (k + 1) (by omega) (by omega) _ ⟨fun i hi => by rw [fm32 i hi]; exact hi10.1 i hi, fun j => by by_cases e : j = (k : Int); (rw [e, vm32, if_pos (by omega), hi10.2, if_neg (by omega)]); (rw [gm32 _ j e, hi10.2 j]; by_cases h9 : 0 ≤ j ∧ j < (k : Int); (rw [if_pos h9, if_pos (by omega)]); (rw [if_neg h9, if_neg (by omega)]))⟩) rfl
    exact J_locI (HL10 0 (Nat.zero_le _) _ ⟨fun _ _ => rfl, fun j => by rw [if_neg (by omega)]⟩) rfl
