/-! the reference reads: bytes, spaces, numbers -/
abbrev TxR (M : MM) (r : Nat) : Prop := (0 ≤ M r 5 ∧ M r 5 ≤ 150) ∧ ∀ j : Int, 0 ≤ j → j < M r 5 → 0 ≤ M (r + 4) j ∧ M (r + 4) j ≤ 127
theorem TxR.fr {M M2 : MM} {r : Nat} (h : TxR M r) (h1 : M2 (r + 4) = M (r + 4)) (h0 : M2 r 5 = M r 5) : TxR M2 r := by
  unfold TxR; rw [h1, h0]; exact h
def hR (t : Int → Int) (n p : Int) : Int := if p < n then t p else -1000
theorem hR_eq {t : Int → Int} {n p k : Int} (hk : 0 ≤ k) : hR t n p = k ↔ p < n ∧ t p = k := by
  unfold hR
  by_cases c : p < n
  · rw [if_pos c]; exact ⟨fun h => ⟨c, h⟩, fun h => h.2⟩
  · rw [if_neg c]; exact ⟨fun h => by omega, fun h => absurd h.1 c⟩
theorem hR_in {t : Int → Int} {n p lo hi : Int} (hk : 0 ≤ lo) : (lo ≤ hR t n p ∧ hR t n p ≤ hi) ↔ p < n ∧ (lo ≤ t p ∧ t p ≤ hi) := by
  unfold hR
  by_cases c : p < n
  · rw [if_pos c]; exact ⟨fun h => ⟨c, h⟩, fun h => h.2⟩
  · rw [if_neg c]; exact ⟨fun h => by omega, fun h => absurd h.1 c⟩
theorem hR_at {t : Int → Int} {n p : Int} (h : p < n) : hR t n p = t p := if_pos h
theorem ModelK.k0 {K : Nat → Nat} {r : Nat} (h : ModelK K r) : K r = 9 := h 0 (by decide)
theorem m_X10_here {E : EE} {K : Nat → Nat} {M : MM} {r : Nat} (hM : ModelK K r) (ht : TxR M r) (ha : 0 ≤ M r 20) : CnI E 0 yX10_here cX10_here 1 (Option.some FieldType.int) [.ref r] K M (hR (M (r + 4)) (M r 5) (M r 20)) := by
  have hn := ht.1
  refine ⟨Cn_of RX10 (plainFor_of_name (by decide)) rfl (Nat.le_of_ble_eq_true rfl) (fun X hX hQ => ?_), ?_⟩
  · refine J_aload_n hX dX10_here_0 rfl ?_
    refine J_geti hX fi_RX10_276 dX10_here_1 hM.k0 (fun r1 => ?_)
    refine J_aload_n hX dX10_here_4 rfl ?_
    refine J_geti hX fi_RX10_273 dX10_here_5 hM.k0 (fun r5 => ?_)
    refine J_icmp_ge hX 23 dX10_here_8 r1 r5 (by decide) (fun c8 => ?_) (fun c8 => ?_)
    · refine J_sipush hX dX10_here_23 rfl ?_
      exact J_retI hX hQ dX10_here_26 (by unfold hR; rw [if_neg (by omega)]) rfl rfl (Nat.zero_le _) (Nat.zero_le _)
    · refine J_aload_n hX dX10_here_11 rfl ?_
      refine J_gr hX (r + 4) fr_RX10_19 dX10_here_12 hM.k0 rfl ?_
      refine J_aload_n hX dX10_here_15 rfl ?_
      refine J_geti hX fi_RX10_276 dX10_here_16 hM.k0 (fun r16 => ?_)
      refine J_iald hX dX10_here_19 (show K (r + 4) = 1000 + 150 from hM 4 (by decide)) ⟨by omega, by omega⟩ (by decide) (fun r19 => ?_)
      refine J_goto hX 26 dX10_here_20 (by decide) ?_
      exact J_retI hX hQ dX10_here_26 (by unfold hR; rw [if_pos (by omega)]) rfl rfl (Nat.zero_le _) (Nat.zero_le _)
  · unfold hR
    split
    · rename_i q
      have := ht.2 _ ha q
      omega
    · decide
theorem sk_gt {t : Int → Int} {n p : Int} : p < sk t n p ↔ p < n ∧ t p = 32 := by
  constructor
  · intro h
    by_cases q : p < n ∧ t p = 32
    · exact q
    · rw [sk_stop q] at h; omega
  · intro h
    rw [sk_go h.1 h.2]
    have := sk_ge (t := t) (n := n) (p := p + 1)
    omega
set_option maxHeartbeats 4000000 in
theorem m_X10_skips {E : EE} {K : Nat → Nat} {M : MM} {r : Nat} (hM : ModelK K r) (ht : TxR M r) (ha : 0 ≤ M r 20 ∧ M r 20 ≤ M r 5) : CnM E 1 yX10_skips cX10_skips 2 (Option.some FieldType.boolean) [.ref r] K M (fun r9 M2 => r9 = some (vI (bI (M r 20 < M r 5 ∧ M (r + 4) (M r 20) = 32))) ∧ (∀ i, i ≠ r → M2 i = M i) ∧ (∀ j, j ≠ 20 → M2 r j = M r j) ∧ M2 r 20 = sk (M (r + 4)) (M r 5) (M r 20)) := by
  have hn := ht.1
  generalize ht0 : M (r + 4) = t
  generalize hn0 : M r 5 = n at *
  generalize hp0 : M r 20 = p at *
  refine Cn_of RX10 (plainFor_of_name (by decide)) rfl (Nat.le_of_ble_eq_true rfl) (fun X hX hQ => ?_)
  refine J_aload_n hX dX10_skips_0 rfl ?_
  refine J_geti hX fi_RX10_276 dX10_skips_1 hM.k0 (fun r1 => ?_)
  refine J_istore_n hX dX10_skips_4 (by decide) ?_
  have HL : ∀ k : Nat, k ≤ (n - p).toNat → ∀ M3 : MM, ((∀ i, i ≠ r → M3 i = M i) ∧ (∀ j, j ≠ 20 → M3 r j = M r j) ∧ M3 r 20 = p + k ∧ sk t n (p + k) = sk t n p) → J E X 5 [(0, .ref r), (1, vI p)] [] K M3 0 0 := by
    refine up_ind _ (fun k hk ih => ?_)
    intro M3 hi
    obtain ⟨f3, g3, v3, w3⟩ := hi
    have e0 : M3 r 5 = n := by rw [g3 5 (by decide), hn0]
    have e1 : M3 (r + 4) = t := by rw [f3 _ (by omega), ht0]
    have hT3 : TxR M3 r := ht.fr (by rw [e1, ht0]) (by rw [e0, hn0])
    refine J_aload_n hX dX10_skips_5 rfl ?_
    refine J_callVI hX _ dX10_skips_6 cw_RX10_279 (m_X10_here hM hT3 (by omega)) ⟨hM.k0, by decide, by decide, rfl⟩ rfl (Nat.le_of_ble_eq_true rfl) (by decide) ⟨Nat.zero_le _, Nat.zero_le _⟩ (fun r6 => ?_)
    rw [e0, e1, v3] at r6 ⊢
    refine J_bipush hX dX10_skips_9 rfl ?_
    refine J_icmp_ne hX 27 dX10_skips_11 r6 (by decide) (by decide) (fun c11 => ?_) (fun c11 => ?_)
    · have hst : sk t n p = p + k := by rw [← w3, sk_stop (fun q => c11 ((hR_eq (by decide)).2 q))]
      refine J_aload_n hX dX10_skips_27 rfl ?_
      refine J_geti hX fi_RX10_276 dX10_skips_28 hM.k0 (fun r28 => ?_)
      refine J_iload_n hX dX10_skips_31 rfl ?_
      have hg := sk_gt (t := t) (n := n) (p := p)
      refine J_icmp_le hX 39 dX10_skips_32 r28 (by omega) (by decide) (fun c32 => ?_) (fun c32 => ?_)
      · refine J_iconst hX dX10_skips_39 ?_
        exact J_zret hX hQ dX10_skips_40 (Or.inl rfl) ⟨rfl, by rw [bI_f (fun q => by have := hg.2 q; omega)], f3, g3, by omega⟩ (Nat.zero_le _) (Nat.zero_le _)
      · refine J_iconst hX dX10_skips_35 ?_
        refine J_goto hX 40 dX10_skips_36 (by decide) ?_
        exact J_zret hX hQ dX10_skips_40 (Or.inr rfl) ⟨rfl, by rw [bI_t (hg.1 (by omega))], f3, g3, by omega⟩ (Nat.zero_le _) (Nat.zero_le _)
    · have hb := (hR_eq (t := t) (n := n) (p := p + k) (k := 32) (by decide)).1 (by omega)
      refine J_aload_n hX dX10_skips_14 rfl ?_
      refine J_dup hX dX10_skips_15 rfl ?_
      refine J_geti hX fi_RX10_276 dX10_skips_16 hM.k0 (fun r16 => ?_)
      refine J_iconst hX dX10_skips_19 ?_
      refine J_iadd hX dX10_skips_20 ?_
      refine J_putA hX fw_RX10_276 dX10_skips_21 hM.k0 (by omega) (Or.inl rfl) (fun m21 hm => ?_)
      refine J_goto hX 5 dX10_skips_24 (by decide) ?_
      exact J_locI (ih (k + 1) (by omega) (by omega) m21 ⟨fun i h => by rw [hm, mset_ne h]; exact f3 i h, fun j h => by rw [hm, mset_nj h]; exact g3 j h, by rw [hm, mset_eq, v3]; omega, by rw [← w3, sk_go (t := t) (n := n) (p := p + (k : Int)) hb.1 hb.2, show p + (k : Int) + 1 = p + ((k + 1 : Nat) : Int) by omega]⟩) rfl
  rw [hp0]
  exact J_locI (HL 0 (Nat.zero_le _) M ⟨fun _ _ => rfl, fun _ _ => rfl, by omega, by rw [show p + ((0 : Nat) : Int) = p by omega]⟩) rfl
set_option maxHeartbeats 4000000 in
theorem m_X10_readNumber {E : EE} {K : Nat → Nat} {M : MM} {r : Nat} {w : Int} (hM : ModelK K r) (ht : TxR M r) (ha : 0 ≤ M r 20 ∧ M r 20 ≤ M r 5) (hw : 0 ≤ w ∧ w < 6) : CnM E 2 yX10_readNumber cX10_readNumber 4 (Option.some FieldType.boolean) [.ref r, vI w] K M (fun r9 M2 => r9 = some (vI (bI (rnO (M (r + 4)) (M r 5) (M r 20)))) ∧ (∀ i, i ≠ r → i ≠ r + 11 → M2 i = M i) ∧ (∀ j, j ≠ 20 → M2 r j = M r j) ∧ M2 r 20 = rnE (M (r + 4)) (M r 5) (M r 20) ∧ (rnO (M (r + 4)) (M r 5) (M r 20) → M2 (r + 11) w = rnV (M (r + 4)) (M r 5) (M r 20)) ∧ ∀ k, k ≠ w → M2 (r + 11) k = M (r + 11) k) := by
  have hn := ht.1
  generalize ht0 : M (r + 4) = t
  generalize hn0 : M r 5 = n at *
  generalize hp0 : M r 20 = p at *
  have hk0 := sk_ge (t := t) (n := n) (p := p)
  have hk1 := sk_le (t := t) ha.2
  refine Cn_of RX10 (plainFor_of_name (by decide)) rfl (Nat.le_of_ble_eq_true rfl) (fun X hX hQ => ?_)
  refine J_aload_n hX dX10_readNumber_0 rfl ?_
  refine J_callVM hX _ dX10_readNumber_1 cw_RX10_313 (m_X10_skips hM ht (by omega)) ⟨hM.k0, by decide, by decide, rfl⟩ rfl (Nat.le_of_ble_eq_true rfl) (by decide) ⟨Nat.zero_le _, Nat.zero_le _⟩ (fun r9 M1 q1 => ?_)
  obtain ⟨rfl, f1, g1, v1⟩ := q1
  rw [ht0, hn0, hp0] at v1
  rw [ht0, hn0, hp0]
  have e10 : M1 r 5 = n := by rw [g1 5 (by decide), hn0]
  have e11 : M1 (r + 4) = t := by rw [f1 _ (by omega), ht0]
  refine J_ifb_ne hX 9 dX10_readNumber_4 (by decide) (fun h32 => ?_) (fun c4 => ?_)
  · refine J_aload_n hX dX10_readNumber_9 rfl ?_
    refine J_geti hX fi_RX10_276 dX10_readNumber_10 hM.k0 (fun r10 => ?_)
    rw [v1] at r10 ⊢
    refine J_istore_n hX dX10_readNumber_13 (by decide) ?_
    refine J_iconst hX dX10_readNumber_14 ?_
    refine J_istore_n hX dX10_readNumber_15 (by decide) ?_
    have HL : ∀ k : Nat, k ≤ 3 → ∀ (M3 : MM) (v : Int), ((∀ i, i ≠ r → M3 i = M i) ∧ (∀ j, j ≠ 20 → M3 r j = M r j) ∧ M3 r 20 = sk t n p + k ∧ nmF t n (3 - k) (sk t n p + k) v = nmF t n 3 (sk t n p) 0 ∧ (k = 0 ∧ v = 0 ∨ k = 1 ∧ 0 ≤ v ∧ v < 10 ∨ k = 2 ∧ 0 ≤ v ∧ v < 100 ∨ k = 3 ∧ 0 ≤ v ∧ v < 1000) ∧ sk t n p + k ≤ n ∧ (0 < k → sk t n p < n ∧ isDg t (sk t n p))) → J E X 16 [(0, .ref r), (1, vI w), (2, vI (sk t n p)), (3, vI v)] [] K M3 0 0 := by
      refine up_ind _ (fun k hk ih => ?_)
      intro M3 v hi
      obtain ⟨f3, g3, v3, n3, b3, l3, d3⟩ := hi
      have e0 : M3 r 5 = n := by rw [g3 5 (by decide), hn0]
      have e1 : M3 (r + 4) = t := by rw [f3 _ (by omega), ht0]
      have hT3 : TxR M3 r := ht.fr (by rw [e1, ht0]) (by rw [e0, hn0])
      have fin : (k = 3 ∨ ¬ (sk t n p + k < n ∧ isDg t (sk t n p + k))) → J E X 66 [(0, .ref r), (1, vI w), (2, vI (sk t n p)), (3, vI v)] [] K M3 0 0 := by
        intro hend
        have hE : nmF t n 3 (sk t n p) 0 = (sk t n p + k, v) := by
          rw [← n3]
          rcases hend with h | h
          · rw [show 3 - k = 0 by omega]; rfl
          · exact nmF_stop h
        refine J_aload_n hX dX10_readNumber_66 rfl ?_
        refine J_gr hX (r + 11) fr_RX10_40 dX10_readNumber_67 hM.k0 rfl ?_
        refine J_iload_n hX dX10_readNumber_70 rfl ?_
        refine J_iload_n hX dX10_readNumber_71 rfl ?_
        refine J_istA hX dX10_readNumber_72 (n := 6) (show K (r + 11) = 1000 + 6 from hM 11 (by decide)) ⟨by omega, by omega⟩ (by decide) (by omega) (fun m72 hm => ?_)
        have fm : ∀ i, i ≠ r + 11 → m72 i = M3 i := fun i h => by rw [hm, mset_ne h]
        have e20 : m72 r 20 = sk t n p + k := by rw [fm r (by omega), v3]
        refine J_aload_n hX dX10_readNumber_73 rfl ?_
        refine J_geti hX fi_RX10_276 dX10_readNumber_74 hM.k0 (fun r74 => ?_)
        refine J_iload_n hX dX10_readNumber_77 rfl ?_
        refine J_icmp_le hX 85 dX10_readNumber_78 r74 (by omega) (by decide) (fun c78 => ?_) (fun c78 => ?_)
        · have hno : ¬ rnO t n p := fun q => by
            rcases hend with h | h
            · omega
            · rw [show sk t n p + (k : Int) = sk t n p by omega] at h; exact h q.2
          refine J_iconst hX dX10_readNumber_85 ?_
          exact J_zret hX hQ dX10_readNumber_86 (Or.inl rfl) ⟨rfl, by rw [bI_f hno], fun i h1 h2 => by rw [fm i h2]; exact f3 i h1, fun j h => by rw [fm r (by omega)]; exact g3 j h, by unfold rnE; rw [if_neg hno, e20]; omega, fun q => absurd q hno, fun j h => by rw [hm, mset_nj h, f3 _ (by omega)]⟩ (Nat.zero_le _) (Nat.zero_le _)
        · have hyes : rnO t n p := ⟨h32, d3 (by omega)⟩
          refine J_iconst hX dX10_readNumber_81 ?_
          refine J_goto hX 86 dX10_readNumber_82 (by decide) ?_
          exact J_zret hX hQ dX10_readNumber_86 (Or.inr rfl) ⟨rfl, by rw [bI_t hyes], fun i h1 h2 => by rw [fm i h2]; exact f3 i h1, fun j h => by rw [fm r (by omega)]; exact g3 j h, by unfold rnE numE; rw [if_pos hyes, e20, hE], fun _ => by rw [hm, mset_eq]; unfold rnV numV; rw [hE], fun j h => by rw [hm, mset_nj h, f3 _ (by omega)]⟩ (Nat.zero_le _) (Nat.zero_le _)
      refine J_aload_n hX dX10_readNumber_16 rfl ?_
      refine J_geti hX fi_RX10_276 dX10_readNumber_17 hM.k0 (fun r17 => ?_)
      refine J_iload_n hX dX10_readNumber_20 rfl ?_
      refine J_iconst hX dX10_readNumber_21 ?_
      refine J_iadd hX dX10_readNumber_22 ?_
      refine J_icmp_ge hX 66 dX10_readNumber_23 r17 (by omega) (by decide) (fun c23 => ?_) (fun c23 => ?_)
      · exact J_locI (fin (Or.inl (by omega))) rfl
      refine J_aload_n hX dX10_readNumber_26 rfl ?_
      refine J_callVI hX _ dX10_readNumber_27 cw_RX10_279 (m_X10_here hM hT3 (by omega)) ⟨hM.k0, by decide, by decide, rfl⟩ rfl (Nat.le_of_ble_eq_true rfl) (by decide) ⟨Nat.zero_le _, Nat.zero_le _⟩ (fun r27 => ?_)
      rw [e0, e1, v3] at r27 ⊢
      refine J_bipush hX dX10_readNumber_30 rfl ?_
      refine J_bipush hX dX10_readNumber_32 rfl ?_
      refine J_callSB hX [] dX10_readNumber_34 cw_RX10_58 (As := [vI (hR t n (sk t n p + k)), vI 48, vI 57]) (m_X10_in r27 (by decide) (by decide)) rfl (Nat.le_of_ble_eq_true rfl) (by decide) ⟨Nat.zero_le _, Nat.zero_le _⟩ ?_
      refine J_ifb_eq hX 66 dX10_readNumber_37 (by decide) (fun c37 => ?_) (fun c37 => ?_)
      · exact J_locI (fin (Or.inr (fun q => c37 ((hR_in (by decide)).2 q)))) rfl
      have hd := (hR_in (by decide)).1 c37
      have hdv : 48 ≤ t (sk t n p + k) ∧ t (sk t n p + k) ≤ 57 := hd.2
      refine J_bipush hX dX10_readNumber_40 rfl ?_
      refine J_iload_n hX dX10_readNumber_42 rfl ?_
      refine J_imul hX dX10_readNumber_43 ?_
      refine J_aload_n hX dX10_readNumber_44 rfl ?_
      refine J_callVI hX _ dX10_readNumber_45 cw_RX10_279 (m_X10_here hM hT3 (by omega)) ⟨hM.k0, by decide, by decide, rfl⟩ rfl (Nat.le_of_ble_eq_true rfl) (by decide) ⟨Nat.zero_le _, Nat.zero_le _⟩ (fun r45 => ?_)
      rw [e0, e1, v3, hR_at hd.1]
      refine J_iadd hX dX10_readNumber_48 ?_
      refine J_bipush hX dX10_readNumber_49 rfl ?_
      refine J_isub hX dX10_readNumber_51 ?_
      refine J_istore_n hX dX10_readNumber_52 (by decide) ?_
      refine J_aload_n hX dX10_readNumber_53 rfl ?_
      refine J_dup hX dX10_readNumber_54 rfl ?_
      refine J_geti hX fi_RX10_276 dX10_readNumber_55 hM.k0 (fun r55 => ?_)
      refine J_iconst hX dX10_readNumber_58 ?_
      refine J_iadd hX dX10_readNumber_59 ?_
      refine J_putA hX fw_RX10_276 dX10_readNumber_60 hM.k0 (by omega) (Or.inl rfl) (fun m60 hm => ?_)
      refine J_goto hX 16 dX10_readNumber_63 (by decide) ?_
      refine J_locI (ih (k + 1) (by omega) (by omega) m60 (10 * v + t (sk t n p + k) - 48) ⟨fun i h => by rw [hm, mset_ne h]; exact f3 i h, fun j h => by rw [hm, mset_nj h]; exact g3 j h, by rw [hm, mset_eq, v3]; omega, ?_, by omega, by omega, fun _ => ?_⟩) rfl
      · rw [← n3, show 3 - k = (3 - (k + 1)) + 1 by omega, nmF_go hd, show sk t n p + (k : Int) + 1 = sk t n p + ((k + 1 : Nat) : Int) by omega]
      · by_cases q : 0 < k
        · exact d3 q
        · rw [show sk t n p + (k : Int) = sk t n p by omega] at hd; exact hd
    exact J_locI (HL 0 (Nat.zero_le _) M1 0 ⟨f1, g1, by omega, by rw [show sk t n p + ((0 : Nat) : Int) = sk t n p by omega], Or.inl ⟨rfl, rfl⟩, by omega, fun q => absurd q (Nat.lt_irrefl 0)⟩) rfl
  · have hno : ¬ rnO t n p := fun q => c4 q.1
    refine J_iconst hX dX10_readNumber_7 ?_
    exact J_zret hX hQ dX10_readNumber_8 (Or.inl rfl) ⟨rfl, by rw [bI_f hno], fun i h1 _ => f1 i h1, g1, by unfold rnE; rw [if_neg hno, v1], fun q => absurd q hno, fun j h => by rw [f1 _ (by omega)]⟩ (Nat.zero_le _) (Nat.zero_le _)

