/-! one command is read -/
def RdP (M M2 : MM) (c : Nat) (r : Option Value) : Prop :=
  r = some (vI (bI ((RC (M (c + 1)) (M c 0) (M c 3)).1 = true))) ∧ (∀ i, i ≠ c → i ≠ c + 2 → M2 i = M i) ∧ (∀ j, j ≠ 3 → j ≠ 4 → M2 c j = M c j) ∧ M2 c 3 = (RC (M (c + 1)) (M c 0) (M c 3)).2 ∧
  ((RC (M (c + 1)) (M c 0) (M c 3)).1 = true → M2 c 4 = wix (M (c + 1)) (M c 3) (we (M (c + 1)) (M c 0) (M c 3)) ∧ 0 ≤ wix (M (c + 1)) (M c 3) (we (M (c + 1)) (M c 0) (M c 3)) ∧
    ∀ j : Nat, (j : Int) < wnm (wix (M (c + 1)) (M c 3) (we (M (c + 1)) (M c 0) (M c 3))).toNat → M2 (c + 2) j = rnV (M (c + 1)) (M c 0) (plj (M (c + 1)) (M c 0) (we (M (c + 1)) (M c 0) (M c 3)) j))
set_option maxHeartbeats 4000000 in
set_option maxRecDepth 100000 in
theorem m_X4_readCommand {E : EE} {K : Nat → Nat} {M : MM} {c : Nat} (hc : K c = 4 ∧ K (c + 1) = 1000 + 150 ∧ K (c + 2) = 1000 + 6) (ht : Txt M c) (hE : ∀ U, SF E U → CF E U) (ha : 0 ≤ M c 3 ∧ M c 3 ≤ M c 0) : CnW E 6 yX4_readCommand cX4_readCommand 4 (some .boolean) [.ref c] K M (fun r K' M2 => K' = K ∧ RdP M M2 c r) 0 0 := by
  have hn := ht.1
  generalize ht0 : M (c + 1) = t
  generalize hn0 : M c 0 = n at *
  generalize hp0 : M c 3 = p at *
  refine CnW_of RX4 (by decide) rfl (Nat.le_of_ble_eq_true rfl) (fun X hX hQ hXK hP => ?_)
  have hwg := we_ge (t := t) (n := n) (p := p)
  have hwl := we_le (t := t) ha.2
  refine J_aload_n hX dX4_readCommand_0 rfl ?_
  refine J_geti hX fi_RX4_22 dX4_readCommand_1 hc.1 (fun r1 => ?_)
  refine J_istore_n hX dX4_readCommand_4 (by decide) ?_
  have fin : ∀ (pc2 : Nat) (z : Int) (L2 : List (Nat × Value)) (M2 : MM), decode cX4_readCommand pc2 = .ok (.iconst z, 1) → decode cX4_readCommand (pc2 + 1) = .ok (.ireturn, 1) → (z = 0 ∨ z = 1) → z = bI ((RC t n p).1 = true) → (∀ i, i ≠ c → i ≠ c + 2 → M2 i = M i) → (∀ j, j ≠ 3 → j ≠ 4 → M2 c j = M c j) → M2 c 3 = (RC t n p).2 →
      ((RC t n p).1 = true → M2 c 4 = wix t p (we t n p) ∧ 0 ≤ wix t p (we t n p) ∧ ∀ j : Nat, (j : Int) < wnm (wix t p (we t n p)).toNat → M2 (c + 2) j = rnV t n (plj t n (we t n p) j)) → J E X pc2 L2 [] K M2 0 0 := by
    intro pc2 z L2 M2 d1 d2 hz hz2 h1 h2 h3 h4
    refine J_iconst hX d1 ?_
    exact J_zret hX hQ d2 hz ⟨rfl, by unfold RdP; rw [ht0, hn0, hp0]; exact ⟨by rw [hz2], h1, h2, h3, h4⟩⟩ (Nat.zero_le _) (Nat.zero_le _)
  have J55 : ∀ M3 : MM, (∀ i, i ≠ c → M3 i = M i) → (∀ j, j ≠ 3 → M3 c j = M c j) → M3 c 3 = we t n p → J E X 55 [(0, .ref c), (1, vI p)] [] K M3 0 0 := by
    intro M3 f3 g3 v3
    have e0 : M3 c 0 = n := by rw [g3 0 (by decide), hn0]
    have e1 : M3 (c + 1) = t := by rw [f3 _ (by omega), ht0]
    have hT3 : Txt M3 c := ht.fr (by rw [e1, ht0]) (by rw [e0, hn0])
    have hx := wix_rg t p (we t n p)
    refine J_aload_n hX dX4_readCommand_55 rfl ?_
    refine J_iload_n hX dX4_readCommand_56 rfl ?_
    refine J_aload_n hX dX4_readCommand_57 rfl ?_
    refine J_geti hX fi_RX4_22 dX4_readCommand_58 hc.1 (fun r58 => ?_)
    refine J_callVWv hX hP hXK [] dX4_readCommand_61 cw_RX4_40 (As := [vI p, vI (M3 c 3)]) (m_X4_wordBetween hc hT3 hE (by omega)) ⟨hc.1, by decide, by decide, rfl⟩ rfl (Nat.le_of_ble_eq_true rfl) ⟨Nat.le_of_ble_eq_true rfl, by decide⟩ ⟨Nat.le_refl _, Nat.le_refl _⟩ ?_
    rw [e1, v3]
    by_cases hw : wix t p (we t n p) < 0
    · rw [show wdv (wix t p (we t n p)) = .null from if_pos hw]
      refine J_astore_nN hX dX4_readCommand_64 (by decide) ?_
      refine J_aload_nN hX dX4_readCommand_65 rfl ?_
      refine J_ifnonnullN hX dX4_readCommand_66 ?_
      refine J_aload_n hX dX4_readCommand_69 rfl ?_
      refine J_iload_n hX dX4_readCommand_70 rfl ?_
      refine J_putA hX fw_RX4_22 dX4_readCommand_71 hc.1 (by omega) (Or.inl rfl) (fun m71 hm => ?_)
      have hR := RC_w hw
      exact fin 74 0 _ _ dX4_readCommand_74 dX4_readCommand_75 (Or.inl rfl) (by rw [hR]; rfl) (fun i h1 _ => by rw [hm, mset_ne h1]; exact f3 i h1) (fun j h1 _ => by rw [hm, mset_nj h1]; exact g3 j h1) (by rw [hm, mset_eq, hR]) (fun q => by rw [hR] at q; exact Bool.noConfusion q)
    obtain ⟨w, hwe⟩ : ∃ w : Nat, wix t p (we t n p) = w := ⟨(wix t p (we t n p)).toNat, by omega⟩
    have hw9 : w < 9 := by omega
    have hwn := wnm_rg w hw9
    rw [show wdv (wix t p (we t n p)) = .ref (1000000 + w) by rw [hwe]; exact if_neg (by omega)]
    refine J_astore_n hX dX4_readCommand_64 (by decide) ?_
    refine J_aload_n hX dX4_readCommand_65 rfl ?_
    refine J_ifnonnull hX 76 dX4_readCommand_66 (by decide) ?_
    refine J_aload_n hX dX4_readCommand_76 rfl ?_
    refine J_aload_n hX dX4_readCommand_77 rfl ?_
    refine J_putw hX hP hXK fx_RX4_44 dX4_readCommand_78 hc.1 hw9 (fun m78 hm => ?_)
    have f78 : ∀ i, i ≠ c → m78 i = M i := fun i h => by rw [hm, mset_ne h]; exact f3 i h
    have g78 : ∀ j, j ≠ 3 → j ≠ 4 → m78 c j = M c j := fun j h h4 => by rw [hm, mset_nj h4]; exact g3 j h
    have v78 : m78 c 3 = we t n p := by rw [hm, mset_nj (by decide)]; exact v3
    have w78 : m78 c 4 = w := by rw [hm, mset_eq]
    clear hm
    refine J_iconst hX dX4_readCommand_81 ?_
    refine J_istore_n hX dX4_readCommand_82 (by decide) ?_
    generalize hm0 : (wnm w).toNat = m
    have hR0 : ∀ s, nsR t n (wnm (wix t p (we t n p)).toNat).toNat (we t n p) = s ↔ nsR t n m (we t n p) = s := fun s => by rw [hwe, show ((w : Int)).toNat = w by omega, hm0]
    have J113 : ∀ M5 : MM, (∀ i, i ≠ c → i ≠ c + 2 → M5 i = M i) → (∀ j, j ≠ 3 → j ≠ 4 → M5 c j = M c j) → M5 c 4 = w → nsR t n m (we t n p) = (true, M5 c 3) → (∀ j : Nat, j < m → M5 (c + 2) j = rnV t n (plj t n (we t n p) j)) → J E X 113 [(0, .ref c)] [] K M5 0 0 := by
      intro M5 f5 g5 w5 n5 u5
      have e50 : M5 c 0 = n := by rw [g5 0 (by decide) (by decide), hn0]
      have e51 : M5 (c + 1) = t := by rw [f5 _ (by omega) (by omega), ht0]
      have hT5 : Txt M5 c := ht.fr (by rw [e51, ht0]) (by rw [e50, hn0])
      have hb5 := nsR_bd (t := t) (n := n) m (we t n p)
      rw [n5] at hb5
      have hb6 := hb5.2 hwl
      have hb7 := hb5.1
      dsimp only at hb6 hb7
      have hRn := (hR0 _).2 n5
      refine J_aload_n hX dX4_readCommand_113 rfl ?_
      refine J_callVM hX _ dX4_readCommand_114 cw_RX4_29 (m_X4_skipSpaces hc hT5 (by omega)) ⟨hc.1, by decide, by decide, rfl⟩ rfl (Nat.le_of_ble_eq_true rfl) (by decide) ⟨Nat.zero_le _, Nat.zero_le _⟩ (fun r9 M6 q6 => ?_)
      obtain ⟨rfl, f6, g6, v6⟩ := q6
      rw [e51, e50] at v6
      have e60 : M6 c 0 = n := by rw [g6 0 (by decide), e50]
      have e61 : M6 (c + 1) = t := by rw [f6 _ (by omega), e51]
      have hT6 : Txt M6 c := ht.fr (by rw [e61, ht0]) (by rw [e60, hn0])
      have hs0 := sk_ge (t := t) (n := n) (p := M5 c 3)
      have hs1 := sk_le (t := t) hb6
      refine J_aload_n hX dX4_readCommand_117 rfl ?_
      refine J_aload_n hX dX4_readCommand_118 rfl ?_
      refine J_geti hX fi_RX4_22 dX4_readCommand_119 hc.1 (fun r119 => ?_)
      refine J_callVI hX _ dX4_readCommand_122 cw_RX4_25 (m_X4_byteAt hc hT6 r119) ⟨hc.1, by decide, by decide, rfl⟩ rfl (Nat.le_of_ble_eq_true rfl) (by decide) ⟨Nat.zero_le _, Nat.zero_le _⟩ (fun r122 => ?_)
      refine J_bipush hX dX4_readCommand_125 rfl ?_
      have hsk : sk t n (nsR t n (wnm (wix t p (we t n p)).toNat).toNat (we t n p)).2 = M6 c 3 := by rw [hRn, v6]
      have hR1 : (nsR t n (wnm (wix t p (we t n p)).toNat).toNat (we t n p)).1 = true := by rw [hRn]
      refine J_icmp_eq hX 132 dX4_readCommand_127 r122 (by decide) (by decide) (fun c127 => ?_) (fun c127 => ?_)
      · have h59 := (bA_eq (by decide) (by omega)).1 c127
        rw [e60, e61] at h59
        have hR := RC_y hw hR1 hsk h59
        refine J_aload_n hX dX4_readCommand_132 rfl ?_
        refine J_dup hX dX4_readCommand_133 rfl ?_
        refine J_geti hX fi_RX4_22 dX4_readCommand_134 hc.1 (fun r134 => ?_)
        refine J_iconst hX dX4_readCommand_137 ?_
        refine J_iadd hX dX4_readCommand_138 ?_
        refine J_putA hX fw_RX4_22 dX4_readCommand_139 hc.1 (by omega) (Or.inl rfl) (fun m139 hm => ?_)
        exact fin 142 1 _ _ dX4_readCommand_142 dX4_readCommand_143 (Or.inr rfl) (by rw [hR]; rfl) (fun i h1 h2 => by rw [hm, mset_ne h1, f6 i h1]; exact f5 i h1 h2) (fun j h1 h2 => by rw [hm, mset_nj h1, g6 j h1]; exact g5 j h1 h2) (by rw [hm, mset_eq, hR])
          (fun _ => ⟨by rw [hm, mset_nj (by decide), g6 4 (by decide), w5, hwe], by omega, fun j hj => by rw [hm, mset_ne (by omega), f6 _ (by omega)]; refine u5 j ?_; rw [hwe, show ((w : Int)).toNat = w by omega] at hj; omega⟩)
      · have hR := RC_s hw hR1 hsk (fun q => c127 ((bA_eq (by decide) (by omega)).2 (by rw [e60, e61]; exact q)))
        exact fin 130 0 _ _ dX4_readCommand_130 dX4_readCommand_131 (Or.inl rfl) (by rw [hR]; rfl) (fun i h1 h2 => by rw [f6 i h1]; exact f5 i h1 h2) (fun j h1 h2 => by rw [g6 j h1]; exact g5 j h1 h2) (by rw [hR]) (fun q => by rw [hR] at q; exact Bool.noConfusion q)
    have HL : ∀ k : Nat, k ≤ m → ∀ M5 : MM, ((∀ i, i ≠ c → i ≠ c + 2 → M5 i = M i) ∧ (∀ j, j ≠ 3 → j ≠ 4 → M5 c j = M c j) ∧ M5 c 4 = w ∧ M5 c 3 = plj t n (we t n p) k ∧ nsR t n (m - k) (M5 c 3) = nsR t n m (we t n p) ∧ ∀ j : Nat, j < k → M5 (c + 2) j = rnV t n (plj t n (we t n p) j)) → J E X 83 [(0, .ref c), (1, vI p), (2, .ref (1000000 + w)), (3, vI (k : Int))] [] K M5 0 0 := by
      refine up_ind m (fun k hk ih => ?_)
      intro M5 hi
      obtain ⟨f5, g5, w5, v5, n5, u5⟩ := hi
      have e50 : M5 c 0 = n := by rw [g5 0 (by decide) (by decide), hn0]
      have e51 : M5 (c + 1) = t := by rw [f5 _ (by omega) (by omega), ht0]
      have hT5 : Txt M5 c := ht.fr (by rw [e51, ht0]) (by rw [e50, hn0])
      have hpl := plj_le (t := t) (n := n) hwl k
      refine J_iload_n hX dX4_readCommand_83 rfl ?_
      refine J_aload_n hX dX4_readCommand_84 rfl ?_
      refine J_cgetf hX hP hXK (v := vI (wnm w)) (fun _ _ => rfl) (fun U hU => (hE U hU).wnum w hw9) fl_RX4_48 dX4_readCommand_85 ?_
      have end113 : m = k → J E X 113 [(0, .ref c)] [] K M5 0 0 := fun h => J113 M5 f5 g5 w5 (by rw [← n5, show m - k = 0 by omega]; rfl) (fun j hj => u5 j (by omega))
      refine J_icmp_ge hX 113 dX4_readCommand_88 (by omega) (by omega) (by decide) (fun c88 => ?_) (fun c88 => ?_)
      · exact J_locI (end113 (by omega)) rfl
      refine J_iload_n hX dX4_readCommand_91 rfl ?_
      refine J_bipush hX dX4_readCommand_92 rfl ?_
      refine J_icmp_ge hX 113 dX4_readCommand_94 (by omega) (by decide) (by decide) (fun c94 => ?_) (fun c94 => ?_)
      · exact J_locI (end113 (by omega)) rfl
      refine J_aload_n hX dX4_readCommand_97 rfl ?_
      refine J_iload_n hX dX4_readCommand_98 rfl ?_
      refine J_callVM hX _ dX4_readCommand_99 cw_RX4_52 (m_X4_readNumber hc hT5 (by omega) (by omega)) ⟨hc.1, by decide, by decide, rfl⟩ rfl (Nat.le_of_ble_eq_true rfl) (by decide) ⟨Nat.zero_le _, Nat.zero_le _⟩ (fun r9 M6 q6 => ?_)
      obtain ⟨rfl, f6, g6, v6, y6, u6⟩ := q6
      rw [e51, e50] at v6 y6
      rw [e51, e50]
      refine J_ifb_ne hX 107 dX4_readCommand_102 (by decide) (fun c102 => ?_) (fun c102 => ?_)
      · refine J_iinc hX dX4_readCommand_107 rfl (by decide) ?_
        refine J_goto hX 83 dX4_readCommand_110 (by decide) ?_
        refine J_locI (ih (k + 1) (by omega) (by omega) M6 ⟨fun i h1 h2 => by rw [f6 i h1 h2]; exact f5 i h1 h2, fun j h1 h2 => by rw [g6 j h1]; exact g5 j h1 h2, by rw [g6 4 (by decide)]; exact w5, by rw [v6, v5]; rfl, ?_, fun j hj => ?_⟩) rfl
        · rw [← n5, show m - k = (m - (k + 1)) + 1 by omega, nsR_go c102, v6]
        · by_cases e : j = k
          · subst e; rw [y6 c102, v5]
          · rw [u6 j (by omega)]; exact u5 j (by omega)
      · have hns : nsR t n m (we t n p) = (false, rnE t n (M5 c 3)) := by rw [← n5, show m - k = (m - (k + 1)) + 1 by omega, nsR_no c102]
        have hRn := (hR0 _).2 hns
        have hR := RC_n hw (by rw [hRn]; exact Bool.noConfusion)
        rw [hRn] at hR
        exact fin 105 0 _ _ dX4_readCommand_105 dX4_readCommand_106 (Or.inl rfl) (by rw [hR]; rfl) (fun i h1 h2 => by rw [f6 i h1 h2]; exact f5 i h1 h2) (fun j h1 h2 => by rw [g6 j h1]; exact g5 j h1 h2) (by rw [v6, hR]) (fun q => by rw [hR] at q; exact Bool.noConfusion q)
    exact J_locI (HL 0 (Nat.zero_le _) m78 ⟨fun i h1 _ => f78 i h1, g78, w78, v78, by rw [v78]; rfl, fun j hj => absurd hj (Nat.not_lt_zero _)⟩) rfl
  have HL5 : ∀ k : Nat, k ≤ (n - p).toNat → ∀ M3 : MM, ((∀ i, i ≠ c → M3 i = M i) ∧ (∀ j, j ≠ 3 → M3 c j = M c j) ∧ M3 c 3 = p + k ∧ we t n (p + k) = we t n p) → J E X 5 [(0, .ref c), (1, vI p)] [] K M3 0 0 := by
    refine up_ind _ (fun k hk ih => ?_)
    intro M3 hi
    obtain ⟨f3, g3, v3, w3⟩ := hi
    have e0 : M3 c 0 = n := by rw [g3 0 (by decide), hn0]
    have e1 : M3 (c + 1) = t := by rw [f3 _ (by omega), ht0]
    have hT3 : Txt M3 c := ht.fr (by rw [e1, ht0]) (by rw [e0, hn0])
    have out : ¬ (p + k < n ∧ (97 ≤ t (p + k) ∧ t (p + k) ≤ 122)) → J E X 55 [(0, .ref c), (1, vI p)] [] K M3 0 0 := fun h => J55 M3 f3 g3 (by rw [v3, ← w3, we_stop h])
    refine J_aload_n hX dX4_readCommand_5 rfl ?_
    refine J_geti hX fi_RX4_22 dX4_readCommand_6 hc.1 (fun r6 => ?_)
    refine J_aload_n hX dX4_readCommand_9 rfl ?_
    refine J_geti hX fi_RX4_18 dX4_readCommand_10 hc.1 (fun r10 => ?_)
    refine J_icmp_ge hX 55 dX4_readCommand_13 r6 r10 (by decide) (fun c13 => ?_) (fun c13 => ?_)
    · exact J_locI (out (fun q => by omega)) rfl
    have hbe : bA (M3 (c + 1)) (M3 c 0) (M3 c 3) = t (p + k) := by rw [bA_in ⟨by omega, by omega⟩, e1, v3]
    refine J_aload_n hX dX4_readCommand_16 rfl ?_
    refine J_aload_n hX dX4_readCommand_17 rfl ?_
    refine J_geti hX fi_RX4_22 dX4_readCommand_18 hc.1 (fun r18 => ?_)
    refine J_callVI hX _ dX4_readCommand_21 cw_RX4_25 (m_X4_byteAt hc hT3 r18) ⟨hc.1, by decide, by decide, rfl⟩ rfl (Nat.le_of_ble_eq_true rfl) (by decide) ⟨Nat.zero_le _, Nat.zero_le _⟩ (fun r21 => ?_)
    rw [hbe] at r21 ⊢
    refine J_bipush hX dX4_readCommand_24 rfl ?_
    refine J_icmp_lt hX 55 dX4_readCommand_26 r21 (by decide) (by decide) (fun c26 => ?_) (fun c26 => ?_)
    · exact J_locI (out (fun q => by omega)) rfl
    refine J_aload_n hX dX4_readCommand_29 rfl ?_
    refine J_aload_n hX dX4_readCommand_30 rfl ?_
    refine J_geti hX fi_RX4_22 dX4_readCommand_31 hc.1 (fun r31 => ?_)
    refine J_callVI hX _ dX4_readCommand_34 cw_RX4_25 (m_X4_byteAt hc hT3 r31) ⟨hc.1, by decide, by decide, rfl⟩ rfl (Nat.le_of_ble_eq_true rfl) (by decide) ⟨Nat.zero_le _, Nat.zero_le _⟩ (fun r34 => ?_)
    rw [hbe] at r34 ⊢
    refine J_bipush hX dX4_readCommand_37 rfl ?_
    refine J_icmp_gt hX 55 dX4_readCommand_39 r34 (by decide) (by decide) (fun c39 => ?_) (fun c39 => ?_)
    · exact J_locI (out (fun q => by omega)) rfl
    refine J_aload_n hX dX4_readCommand_42 rfl ?_
    refine J_dup hX dX4_readCommand_43 rfl ?_
    refine J_geti hX fi_RX4_22 dX4_readCommand_44 hc.1 (fun r44 => ?_)
    refine J_iconst hX dX4_readCommand_47 ?_
    refine J_iadd hX dX4_readCommand_48 ?_
    refine J_putA hX fw_RX4_22 dX4_readCommand_49 hc.1 (by omega) (Or.inl rfl) (fun m49 hm => ?_)
    refine J_goto hX 5 dX4_readCommand_52 (by decide) ?_
    exact J_locI (ih (k + 1) (by omega) (by omega) m49 ⟨fun i h => by rw [hm, mset_ne h]; exact f3 i h, fun j h => by rw [hm, mset_nj h]; exact g3 j h, by rw [hm, mset_eq, v3]; omega, by rw [← w3, we_go (t := t) (n := n) (p := p + (k : Int)) (by omega) ⟨by omega, by omega⟩, show p + (k : Int) + 1 = p + ((k + 1 : Nat) : Int) by omega]⟩) rfl
  rw [hp0]
  exact J_locI (HL5 0 (Nat.zero_le _) M ⟨fun _ _ => rfl, fun _ _ => rfl, by omega, by rw [show p + ((0 : Nat) : Int) = p by omega]⟩) rfl

