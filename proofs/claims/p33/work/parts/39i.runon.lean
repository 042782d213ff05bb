/-! commands are carried out -/
theorem m_X4_carryOut {E : EE} {K : Nat → Nat} {M : MM} {c b w : Nat} {T : Int} (hc : K c = 4 ∧ K (c + 1) = 1000 + 150 ∧ K (c + 2) = 1000 + 6) (hS : StageK K b) (hW : WF T M b) (hE : ∀ U, SF E U → CF E U) (hw9 : w < 9) (hw4 : M c 4 = w) (hv : NBs M c w) (hT : T + 200 ≤ 1000000000) :
    CnW E 5 yX4_carryOut cX4_carryOut 3 (some .boolean) [.ref c, .ref b] K M (fun r K' M2 => K' = K ∧ (r = some (vI 0) ∧ ¬ cmF w (fun j => M (c + 2) j) (stg M b) ∧ M2 = M ∨ r = some (vI 1) ∧ cmF w (fun j => M (c + 2) j) (stg M b) ∧ cmA w (fun j => M (c + 2) j) (stg M b) (stg M2 b) ∧ ∀ i, i < b ∨ b + 16 ≤ i → M2 i = M i)) 0 0 := by
  refine CnW_of RX4 (by decide) rfl (Nat.le_of_ble_eq_true rfl) (fun X hX hQ hXK hP => ?_)
  refine J_aload_n hX dX4_carryOut_0 rfl ?_
  refine J_getw hX hP hXK fx_RX4_44 dX4_carryOut_1 hc.1 hw4 ?_
  refine J_astore_n hX dX4_carryOut_4 (by decide) ?_
  refine J_aload_n hX dX4_carryOut_5 rfl ?_
  refine J_ifnull hX dX4_carryOut_6 ?_
  refine J_aload_n hX dX4_carryOut_9 rfl ?_
  refine J_aload_n hX dX4_carryOut_10 rfl ?_
  refine J_aload_n hX dX4_carryOut_11 rfl ?_
  refine J_callVWM hX hP hXK [] dX4_carryOut_12 cw_RX4_80 (As := [.ref b, .ref (1000000 + w)]) (m_X4_faultOn hc hS hW hE hw9 hv) ⟨hc.1, by decide, by decide, rfl⟩ rfl (Nat.le_of_ble_eq_true rfl) ⟨Nat.le_of_ble_eq_true rfl, by decide⟩ ⟨Nat.le_refl _, Nat.le_refl _⟩ (fun r9 M2 q => ?_)
  obtain ⟨rfl, f, rfl, hfr, hff⟩ := q
  refine J_if_eq hX 20 dX4_carryOut_15 hfr (by decide) (fun c15 => ?_) (fun c15 => ?_)
  · have hf := hff.1 c15
    refine J_aload_n hX dX4_carryOut_20 rfl ?_
    refine J_aload_n hX dX4_carryOut_21 rfl ?_
    refine J_aload_n hX dX4_carryOut_22 rfl ?_
    refine J_callVWM hX hP hXK [] dX4_carryOut_23 cw_RX4_84 (As := [.ref b, .ref (1000000 + w)]) (m_X4_applyTo hc hS hW hE hw9 hv hf hT) ⟨hc.1, by decide, by decide, rfl⟩ rfl (Nat.le_of_ble_eq_true rfl) ⟨Nat.le_of_ble_eq_true rfl, by decide⟩ ⟨Nat.le_refl _, Nat.le_refl _⟩ (fun r9 M3 q => ?_)
    obtain ⟨rfl, h1, h2⟩ := q
    refine J_iconst hX dX4_carryOut_26 ?_
    exact J_zret hX hQ dX4_carryOut_27 (Or.inr rfl) ⟨rfl, Or.inr ⟨rfl, hf, h1, h2⟩⟩ (Nat.zero_le _) (Nat.zero_le _)
  · refine J_iconst hX dX4_carryOut_18 ?_
    exact J_zret hX hQ dX4_carryOut_19 (Or.inl rfl) ⟨rfl, Or.inl ⟨rfl, fun q => c15 (hff.2 q), rfl⟩⟩ (Nat.zero_le _) (Nat.zero_le _)
/-- what runOn leaves -/
def RnP (M M2 : MM) (c b : Nat) (T : Int) (r : Option Value) : Prop :=
  ∃ d : Int, r = some (vI d) ∧ (0 ≤ d ∧ d ≤ 150) ∧ rnR (M (c + 1)) (M c 0) 150 (sk (M (c + 1)) (M c 0) 0) (stg M b) 0 (stg M2 b) d ∧ WF (T + 30000) M2 b ∧ (∀ i, i < b ∨ b + 16 ≤ i → i ≠ c → i ≠ c + 2 → M2 i = M i) ∧ ∀ j, j ≠ 3 → j ≠ 4 → M2 c j = M c j
theorem WF_iS {T : Int} {M : MM} {b : Nat} : WF T M b ↔ WFS T (stg M b) := Iff.rfl
set_option maxHeartbeats 4000000 in
theorem m_X4_runOn {E : EE} {K : Nat → Nat} {M : MM} {c b : Nat} {T : Int} (hc : K c = 4 ∧ K (c + 1) = 1000 + 150 ∧ K (c + 2) = 1000 + 6) (hS : StageK K b) (hW : WF T M b) (hbc : c + 2 < b ∨ b + 16 ≤ c) (ht : Txt M c) (hE : ∀ U, SF E U → CF E U) (hT : T + 30200 ≤ 1000000000) :
    CnW E 7 yX4_runOn cX4_runOn 4 (some .int) [.ref c, .ref b] K M (fun r K' M2 => K' = K ∧ RnP M M2 c b T r) 0 0 := by
  have hn := ht.1
  generalize ht0 : M (c + 1) = t
  generalize hn0 : M c 0 = n at *
  refine CnW_of RX4 (by decide) rfl (Nat.le_of_ble_eq_true rfl) (fun X hX hQ hXK hP => ?_)
  refine J_aload_n hX dX4_runOn_0 rfl ?_
  refine J_iconst hX dX4_runOn_1 ?_
  refine J_putA hX fw_RX4_22 dX4_runOn_2 hc.1 (by decide) (Or.inl rfl) (fun m2 hm => ?_)
  have f2 : ∀ i, i ≠ c → m2 i = M i := fun i h => by rw [hm, mset_ne h]
  have g2 : ∀ j, j ≠ 3 → m2 c j = M c j := fun j h => by rw [hm, mset_nj h]
  have v2 : m2 c 3 = 0 := by rw [hm, mset_eq]
  clear hm
  have e20 : m2 c 0 = n := by rw [g2 0 (by decide), hn0]
  have e21 : m2 (c + 1) = t := by rw [f2 _ (by omega), ht0]
  refine J_aload_n hX dX4_runOn_5 rfl ?_
  refine J_callVM hX _ dX4_runOn_6 cw_RX4_29 (m_X4_skipSpaces hc (ht.fr (by rw [e21, ht0]) (by rw [e20, hn0])) (by omega)) ⟨hc.1, by decide, by decide, rfl⟩ rfl (Nat.le_of_ble_eq_true rfl) (by decide) ⟨Nat.zero_le _, Nat.zero_le _⟩ (fun r9 M6 q6 => ?_)
  obtain ⟨rfl, f6, g6, v6⟩ := q6
  rw [e20, e21, v2] at v6
  refine J_iconst hX dX4_runOn_9 ?_
  refine J_istore_n hX dX4_runOn_10 (by decide) ?_
  refine J_iconst hX dX4_runOn_11 ?_
  refine J_istore_n hX dX4_runOn_12 (by decide) ?_
  have HL : ∀ k : Nat, k ≤ 150 → ∀ M3 : MM, ((∀ i, i < b ∨ b + 16 ≤ i → i ≠ c → i ≠ c + 2 → M3 i = M i) ∧ (∀ j, j ≠ 3 → j ≠ 4 → M3 c j = M c j) ∧ (0 ≤ M3 c 3 ∧ M3 c 3 ≤ n) ∧ WF (T + 200 * k) M3 b ∧ ∀ S2 d2, rnR t n (150 - k) (M3 c 3) (stg M3 b) k S2 d2 → rnR t n 150 (sk t n 0) (stg M b) 0 S2 d2) → J E X 13 [(0, .ref c), (1, .ref b), (2, vI (k : Int)), (3, vI (k : Int))] [] K M3 0 0 := by
    refine up_ind _ (fun k hk ih => ?_)
    intro M3 hi
    obtain ⟨f3, g3, a3, W3, w3⟩ := hi
    have e0 : M3 c 0 = n := by rw [g3 0 (by decide) (by decide), hn0]
    have e1 : M3 (c + 1) = t := by rw [f3 _ (by omega) (by omega) (by omega), ht0]
    have hT3 : Txt M3 c := ht.fr (by rw [e1, ht0]) (by rw [e0, hn0])
    -- the end, from a memory that differs from M3 in the script's places alone
    have fin : ∀ (pc2 : Nat) (L2 : List (Nat × Value)) (M4 : MM), decode cX4_runOn pc2 = .ok (.iload_n 2, 1) → decode cX4_runOn (pc2 + 1) = .ok (.ireturn, 1) → lget L2 2 = some (vI (k : Int)) → (150 - k = 0 ∨ ¬ cmOK t n (M3 c 3) (stg M3 b)) → (∀ i, i ≠ c → i ≠ c + 2 → M4 i = M3 i) → (∀ j, j ≠ 3 → j ≠ 4 → M4 c j = M3 c j) → J E X pc2 L2 [] K M4 0 0 := by
      intro pc2 L2 M4 d1 d2 hl hno f4 g4
      have e4 : stg M4 b = stg M3 b := stg_eq (fun j hj => f4 _ (by omega) (by omega))
      refine J_iload_n hX d1 hl ?_
      refine J_iret hX hQ d2 ⟨rfl, k, rfl, by omega, ?_, ?_, fun i h1 h2 h3 => by rw [f4 i h2 h3]; exact f3 i h1 h2 h3, fun j h1 h2 => by rw [g4 j h1 h2]; exact g3 j h1 h2⟩ (Nat.zero_le _) (Nat.zero_le _)
      · rw [ht0, hn0, e4]; exact w3 _ _ (rnR_stop hno)
      · rw [WF_iS, e4]; exact WFS_mono (WF_iS.1 W3) (by omega) (by omega)
    refine J_iload_n hX dX4_runOn_13 rfl ?_
    refine J_sipush hX dX4_runOn_14 rfl ?_
    refine J_icmp_ge hX 61 dX4_runOn_17 (by omega) (by decide) (by decide) (fun c17 => ?_) (fun c17 => ?_)
    · exact fin 61 _ M3 dX4_runOn_61 dX4_runOn_62 rfl (Or.inl (by omega)) (fun _ _ _ => rfl) (fun _ _ _ => rfl)
    refine J_aload_n hX dX4_runOn_20 rfl ?_
    refine J_geti hX fi_RX4_22 dX4_runOn_21 hc.1 (fun r21 => ?_)
    refine J_aload_n hX dX4_runOn_24 rfl ?_
    refine J_geti hX fi_RX4_18 dX4_runOn_25 hc.1 (fun r25 => ?_)
    refine J_icmp_ge hX 61 dX4_runOn_28 r21 r25 (by decide) (fun c28 => ?_) (fun c28 => ?_)
    · exact fin 61 _ M3 dX4_runOn_61 dX4_runOn_62 rfl (Or.inr (fun q => by have := q.1; omega)) (fun _ _ _ => rfl) (fun _ _ _ => rfl)
    refine J_aload_n hX dX4_runOn_31 rfl ?_
    refine J_callVWM hX hP hXK [] dX4_runOn_32 cw_RX4_32 (As := []) (m_X4_readCommand hc hT3 hE (by omega)) ⟨hc.1, by decide, by decide, rfl⟩ rfl (Nat.le_of_ble_eq_true rfl) ⟨Nat.le_of_ble_eq_true rfl, by decide⟩ ⟨Nat.le_refl _, Nat.le_refl _⟩ (fun r9 M4 q4 => ?_)
    have hT4 := q4.txt hT3
    obtain ⟨rfl, f4, g4, v4, y4⟩ := q4
    rw [e0, e1] at v4 y4
    rw [e0, e1]
    have hb := RC_bd (t := t) (n := n) (p := M3 c 3) a3.2
    refine J_ifb_eq hX 46 dX4_runOn_35 (by decide) (fun c35 => ?_) (fun c35 => ?_)
    · exact fin 46 _ M4 dX4_runOn_46 dX4_runOn_47 rfl (Or.inr (fun q => c35 q.2.1)) f4 g4
    obtain ⟨y1, y2, y3⟩ := y4 c35
    have hwr := wix_rg t (M3 c 3) (we t n (M3 c 3))
    have hw9 : wiA t n (M3 c 3) < 9 := by unfold wiA; omega
    have hw4 : M4 c 4 = (wiA t n (M3 c 3) : Nat) := by rw [y1]; unfold wiA; omega
    have hvv : ∀ j : Nat, (j : Int) < wnm (wiA t n (M3 c 3)) → M4 (c + 2) j = vlA t n (M3 c 3) j := fun j hj => y3 j hj
    have hNB : NBs M4 c (wiA t n (M3 c 3)) := fun j hj => by
      rw [hvv j hj]
      exact numV_bd
    have e4 : stg M4 b = stg M3 b := stg_eq (fun j hj => f4 _ (by omega) (by omega))
    have W4 : WF (T + 200 * k) M4 b := by rw [WF_iS, e4]; exact WF_iS.1 W3
    refine J_aload_n hX dX4_runOn_38 rfl ?_
    refine J_aload_n hX dX4_runOn_39 rfl ?_
    refine J_callVWM hX hP hXK [] dX4_runOn_40 cw_RX4_36 (As := [.ref b]) (m_X4_carryOut hc hS W4 hE hw9 hw4 hNB (by omega)) ⟨hc.1, by decide, by decide, rfl⟩ rfl (Nat.le_of_ble_eq_true rfl) ⟨Nat.le_of_ble_eq_true rfl, by decide⟩ ⟨Nat.le_refl _, Nat.le_refl _⟩ (fun r9 M5 q5 => ?_)
    rw [e4] at q5
    rcases q5 with ⟨rfl, n5, rfl⟩ | ⟨rfl, o5, A5, f5⟩
    · refine J_if_ne hX 48 dX4_runOn_43 (by decide) (by decide) (fun q => absurd rfl q) (fun _ => ?_)
      exact fin 46 _ M5 dX4_runOn_46 dX4_runOn_47 rfl (Or.inr (fun q => n5 ((cm_congr hw9 hvv (stg M3 b) (stg M3 b)).1.2 q.2.2))) f4 g4
    have hok : cmOK t n (M3 c 3) (stg M3 b) := ⟨by omega, c35, (cm_congr hw9 hvv (stg M3 b) (stg M3 b)).1.1 o5⟩
    have hA := (cm_congr hw9 hvv (stg M3 b) (stg M5 b)).2.1 A5
    have W5 : WFS (T + 200 * k + 200) (stg M5 b) := cmA_wf hw9 (WF_iS.1 W3) hok.2.2 hA (fun j hj => stg_hi hj) (by omega)
    refine J_if_ne hX 48 dX4_runOn_43 (by decide) (by decide) (fun _ => ?_) (fun q => absurd q (by decide))
    have f5c : M5 c = M4 c := f5 c (by omega)
    have e50 : M5 c 0 = n := by rw [f5c, g4 0 (by decide) (by decide), e0]
    have e51 : M5 (c + 1) = t := by rw [f5 _ (by omega), f4 _ (by omega) (by omega), e1]
    have e53 : M5 c 3 = (RC t n (M3 c 3)).2 := by rw [f5c, v4]
    refine J_iinc hX dX4_runOn_48 rfl (by decide) ?_
    refine J_aload_n hX dX4_runOn_51 rfl ?_
    refine J_callVM hX _ dX4_runOn_52 cw_RX4_29 (m_X4_skipSpaces hc (ht.fr (by rw [e51, ht0]) (by rw [e50, hn0])) (by omega)) ⟨hc.1, by decide, by decide, rfl⟩ rfl (Nat.le_of_ble_eq_true rfl) (by decide) ⟨Nat.zero_le _, Nat.zero_le _⟩ (fun r9 M7 q7 => ?_)
    obtain ⟨rfl, f7, g7, v7⟩ := q7
    rw [e50, e51, e53] at v7
    have hs0 := sk_ge (t := t) (n := n) (p := (RC t n (M3 c 3)).2)
    have hs1 := sk_le (t := t) hb.2.1
    have e7 : stg M7 b = stg M5 b := stg_eq (fun j hj => f7 _ (by omega))
    refine J_iinc hX dX4_runOn_55 rfl (by decide) ?_
    refine J_goto hX 13 dX4_runOn_58 (by decide) ?_
    refine J_locI (ih (k + 1) (by omega) (by omega) M7 ⟨fun i h1 h2 h3 => by rw [f7 i h2, f5 i h1, f4 i h2 h3]; exact f3 i h1 h2 h3, fun j h1 h2 => by rw [g7 j h1, f5c, g4 j h1 h2]; exact g3 j h1 h2, by omega, ?_, fun S2 d2 hr => ?_⟩) rfl
    · rw [WF_iS, e7]
      exact WFS_mono W5 (by omega) (by omega)
    · refine w3 S2 d2 ?_
      rw [show 150 - k = (150 - (k + 1)) + 1 by omega]
      rw [v7, e7] at hr
      exact rnR_go hok hA (fun j hj => stg_hi hj) hr
  have hs0 := sk_ge (t := t) (n := n) (p := 0)
  have hs1 := sk_le (t := t) hn.1
  have e6 : stg M6 b = stg M b := stg_eq (fun j hj => by rw [f6 _ (by omega), f2 _ (by omega)])
  exact J_locI (HL 0 (Nat.zero_le _) M6 ⟨fun i _ h1 _ => by rw [f6 i h1]; exact f2 i h1, fun j h1 _ => by rw [g6 j h1]; exact g2 j h1, by omega, by rw [WF_iS, e6]; exact WFS_mono (WF_iS.1 hW) (by omega) (by omega), fun S2 d2 hr => by rw [v6, e6] at hr; exact hr⟩) rfl

