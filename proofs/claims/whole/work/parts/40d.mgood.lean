/-! the reference reads a command, the text -/
theorem m_X10_manyFor {E : EE} {K : Nat → Nat} {M : MM} {r w : Nat} (hM : ModelK K r) (hw : w < 9) (h21 : M r 21 = w) : CnI E 0 yX10_manyFor cX10_manyFor 1 (Option.some FieldType.int) [.ref r] K M (wnm w) := by
  have hwn := wnm_rg w hw
  refine ⟨Cn_of RX10 (plainFor_of_name (by decide)) rfl (Nat.le_of_ble_eq_true rfl) (fun X hX hQ => ?_), by omega⟩
  refine J_aload_n hX dX10_manyFor_0 rfl ?_
  refine J_geti hX fi_RX10_310 dX10_manyFor_1 hM.k0 (fun r1 => ?_)
  rw [h21]
  rcases (show w = 0 ∨ w = 1 ∨ w = 2 ∨ w = 3 ∨ w = 4 ∨ w = 5 ∨ w = 6 ∨ w = 7 ∨ w = 8 by omega) with rfl | rfl | rfl | rfl | rfl | rfl | rfl | rfl | rfl
  · refine J_tin hX (54) 58 dX10_manyFor_4 (by decide) (by decide) rfl (by decide) ?_
    refine J_iconst hX dX10_manyFor_58 ?_
    exact J_retI hX hQ dX10_manyFor_59 rfl rfl rfl (Nat.zero_le _) (Nat.zero_le _)
  · refine J_tin hX (61) 65 dX10_manyFor_4 (by decide) (by decide) rfl (by decide) ?_
    refine J_iconst hX dX10_manyFor_65 ?_
    exact J_retI hX hQ dX10_manyFor_66 rfl rfl rfl (Nat.zero_le _) (Nat.zero_le _)
  · refine J_tin hX (58) 62 dX10_manyFor_4 (by decide) (by decide) rfl (by decide) ?_
    refine J_bipush hX dX10_manyFor_62 rfl ?_
    exact J_retI hX hQ dX10_manyFor_64 rfl rfl rfl (Nat.zero_le _) (Nat.zero_le _)
  · refine J_tin hX (56) 60 dX10_manyFor_4 (by decide) (by decide) rfl (by decide) ?_
    refine J_iconst hX dX10_manyFor_60 ?_
    exact J_retI hX hQ dX10_manyFor_61 rfl rfl rfl (Nat.zero_le _) (Nat.zero_le _)
  · refine J_tin hX (61) 65 dX10_manyFor_4 (by decide) (by decide) rfl (by decide) ?_
    refine J_iconst hX dX10_manyFor_65 ?_
    exact J_retI hX hQ dX10_manyFor_66 rfl rfl rfl (Nat.zero_le _) (Nat.zero_le _)
  · refine J_tin hX (54) 58 dX10_manyFor_4 (by decide) (by decide) rfl (by decide) ?_
    refine J_iconst hX dX10_manyFor_58 ?_
    exact J_retI hX hQ dX10_manyFor_59 rfl rfl rfl (Nat.zero_le _) (Nat.zero_le _)
  · refine J_tin hX (61) 65 dX10_manyFor_4 (by decide) (by decide) rfl (by decide) ?_
    refine J_iconst hX dX10_manyFor_65 ?_
    exact J_retI hX hQ dX10_manyFor_66 rfl rfl rfl (Nat.zero_le _) (Nat.zero_le _)
  · refine J_tin hX (52) 56 dX10_manyFor_4 (by decide) (by decide) rfl (by decide) ?_
    refine J_iconst hX dX10_manyFor_56 ?_
    exact J_retI hX hQ dX10_manyFor_57 rfl rfl rfl (Nat.zero_le _) (Nat.zero_le _)
  · refine J_tin hX (52) 56 dX10_manyFor_4 (by decide) (by decide) rfl (by decide) ?_
    refine J_iconst hX dX10_manyFor_56 ?_
    exact J_retI hX hQ dX10_manyFor_57 rfl rfl rfl (Nat.zero_le _) (Nat.zero_le _)
def RdR (M M2 : MM) (r : Nat) (r9 : Option Value) : Prop :=
  r9 = some (vI (bI ((RC (M (r + 4)) (M r 5) (M r 20)).1 = true))) ∧ (∀ i, i ≠ r → i ≠ r + 11 → M2 i = M i) ∧ (∀ j, j ≠ 20 → j ≠ 21 → M2 r j = M r j) ∧ M2 r 20 = (RC (M (r + 4)) (M r 5) (M r 20)).2 ∧
  ((RC (M (r + 4)) (M r 5) (M r 20)).1 = true → M2 r 21 = wiA (M (r + 4)) (M r 5) (M r 20) ∧ ∀ j : Nat, (j : Int) < wnm (wiA (M (r + 4)) (M r 5) (M r 20)) → M2 (r + 11) j = vlA (M (r + 4)) (M r 5) (M r 20) j)
set_option maxHeartbeats 4000000 in
set_option maxRecDepth 100000 in
theorem m_X10_readCommand {E : EE} {K : Nat → Nat} {M : MM} {r : Nat} (hM : ModelK K r) (ht : TxR M r) (ha : 0 ≤ M r 20 ∧ M r 20 ≤ M r 5) : CnM E 3 yX10_readCommand cX10_readCommand 2 (Option.some FieldType.boolean) [.ref r] K M (fun r9 M2 => RdR M M2 r r9) := by
  have hn := ht.1
  generalize ht0 : M (r + 4) = t
  generalize hn0 : M r 5 = n at *
  generalize hp0 : M r 20 = p at *
  have hwg := we_ge (t := t) (n := n) (p := p)
  have hwl := we_le (t := t) ha.2
  have hwr := wix_rg t p (we t n p)
  refine Cn_of RX10 (plainFor_of_name (by decide)) rfl (Nat.le_of_ble_eq_true rfl) (fun X hX hQ => ?_)
  have fin : ∀ (pc2 : Nat) (z : Int) (L2 : List (Nat × Value)) (M2 : MM), decode cX10_readCommand pc2 = .ok (.iconst z, 1) → decode cX10_readCommand (pc2 + 1) = .ok (.ireturn, 1) → (z = 0 ∨ z = 1) → z = bI ((RC t n p).1 = true) → (∀ i, i ≠ r → i ≠ r + 11 → M2 i = M i) → (∀ j, j ≠ 20 → j ≠ 21 → M2 r j = M r j) → M2 r 20 = (RC t n p).2 →
      ((RC t n p).1 = true → M2 r 21 = wiA t n p ∧ ∀ j : Nat, (j : Int) < wnm (wiA t n p) → M2 (r + 11) j = vlA t n p j) → J E X pc2 L2 [] K M2 0 0 := by
    intro pc2 z L2 M2 d1 d2 hz hz2 h1 h2 h3 h4
    refine J_iconst hX d1 ?_
    exact J_zret hX hQ d2 hz ⟨rfl, by unfold RdR; rw [ht0, hn0, hp0]; exact ⟨by rw [hz2], h1, h2, h3, h4⟩⟩ (Nat.zero_le _) (Nat.zero_le _)
  refine J_aload_n hX dX10_readCommand_0 rfl ?_
  refine J_callVM hX _ dX10_readCommand_1 cw_RX10_317 (m_X10_readWord hM ht (by omega)) ⟨hM.k0, by decide, by decide, rfl⟩ rfl (Nat.le_of_ble_eq_true rfl) (by decide) ⟨Nat.zero_le _, Nat.zero_le _⟩ (fun r9 M3 q3 => ?_)
  obtain ⟨rfl, f3, g3, v3, w3⟩ := q3
  rw [ht0, hn0, hp0] at v3 w3
  rw [ht0, hn0, hp0]
  refine J_ifb_ne hX 9 dX10_readCommand_4 (by decide) (fun c4 => ?_) (fun c4 => ?_)
  rotate_left
  · have hw : wix t p (we t n p) < 0 := by omega
    have hR := RC_w hw
    rw [if_pos hw] at v3
    exact fin 7 0 _ _ dX10_readCommand_7 dX10_readCommand_8 (Or.inl rfl) (by rw [hR]; rfl) (fun i h1 _ => f3 i h1) g3 (by rw [v3, hR]) (fun q => by rw [hR] at q; exact Bool.noConfusion q)
  have hw : ¬ wix t p (we t n p) < 0 := by omega
  rw [if_neg hw] at v3
  obtain ⟨w, hwe⟩ : ∃ w : Nat, wix t p (we t n p) = w := ⟨(wix t p (we t n p)).toNat, by omega⟩
  have hw9 : w < 9 := by omega
  have hwA : wiA t n p = w := by unfold wiA; omega
  have w21 : M3 r 21 = w := by rw [w3]; unfold cmW; rw [if_neg hw, hwe]
  have hwn := wnm_rg w hw9
  generalize hm0 : (wnm w).toNat = m
  have hR0 : ∀ s, nsR t n (wnm (wix t p (we t n p)).toNat).toNat (we t n p) = s ↔ nsR t n m (we t n p) = s := fun s => by rw [hwe, show ((w : Int)).toNat = w by omega, hm0]
  refine J_iconst hX dX10_readCommand_9 ?_
  refine J_istore_n hX dX10_readCommand_10 (by decide) ?_
  have HL : ∀ k : Nat, k ≤ m → ∀ M5 : MM, ((∀ i, i ≠ r → i ≠ r + 11 → M5 i = M i) ∧ (∀ j, j ≠ 20 → j ≠ 21 → M5 r j = M r j) ∧ M5 r 21 = w ∧ M5 r 20 = plj t n (we t n p) k ∧ nsR t n (m - k) (M5 r 20) = nsR t n m (we t n p) ∧ ∀ j : Nat, j < k → M5 (r + 11) j = rnV t n (plj t n (we t n p) j)) → J E X 11 [(0, .ref r), (1, vI (k : Int))] [] K M5 0 0 := by
    refine up_ind m (fun k hk ih => ?_)
    intro M5 hi
    obtain ⟨f5, g5, w5, v5, n5, u5⟩ := hi
    have e50 : M5 r 5 = n := by rw [g5 5 (by decide) (by decide), hn0]
    have e51 : M5 (r + 4) = t := by rw [f5 _ (by omega) (by omega), ht0]
    have hT5 : TxR M5 r := ht.fr (by rw [e51, ht0]) (by rw [e50, hn0])
    have hpl := plj_le (t := t) (n := n) hwl k
    refine J_iload_n hX dX10_readCommand_11 rfl ?_
    refine J_aload_n hX dX10_readCommand_12 rfl ?_
    refine J_callVI hX _ dX10_readCommand_13 cw_RX10_320 (m_X10_manyFor hM hw9 w5) ⟨hM.k0, by decide, by decide, rfl⟩ rfl (Nat.le_of_ble_eq_true rfl) (by decide) ⟨Nat.zero_le _, Nat.zero_le _⟩ (fun r13 => ?_)
    refine J_icmp_ge hX 35 dX10_readCommand_16 (by omega) r13 (by decide) (fun c16 => ?_) (fun c16 => ?_)
    · have n6 : nsR t n m (we t n p) = (true, M5 r 20) := by rw [← n5, show m - k = 0 by omega]; rfl
      have hb5 := nsR_bd (t := t) (n := n) m (we t n p)
      rw [n6] at hb5
      have hb6 := hb5.2 hwl
      have hb7 := hb5.1
      dsimp only at hb6 hb7
      have hRn := (hR0 _).2 n6
      refine J_aload_n hX dX10_readCommand_35 rfl ?_
      refine J_callVM hX _ dX10_readCommand_36 cw_RX10_313 (m_X10_skips hM hT5 (by omega)) ⟨hM.k0, by decide, by decide, rfl⟩ rfl (Nat.le_of_ble_eq_true rfl) (by decide) ⟨Nat.zero_le _, Nat.zero_le _⟩ (fun r9 M6 q6 => ?_)
      obtain ⟨rfl, f6, g6, v6⟩ := q6
      rw [e51, e50] at v6
      rw [e51, e50]
      have e60 : M6 r 5 = n := by rw [g6 5 (by decide), e50]
      have e61 : M6 (r + 4) = t := by rw [f6 _ (by omega), e51]
      have hT6 : TxR M6 r := ht.fr (by rw [e61, ht0]) (by rw [e60, hn0])
      have hs0 := sk_ge (t := t) (n := n) (p := M5 r 20)
      have hs1 := sk_le (t := t) hb6
      refine J_istore_n hX dX10_readCommand_39 (by decide) ?_
      refine J_aload_n hX dX10_readCommand_40 rfl ?_
      refine J_callVI hX _ dX10_readCommand_41 cw_RX10_279 (m_X10_here hM hT6 (by omega)) ⟨hM.k0, by decide, by decide, rfl⟩ rfl (Nat.le_of_ble_eq_true rfl) (by decide) ⟨Nat.zero_le _, Nat.zero_le _⟩ (fun r41 => ?_)
      rw [e60, e61] at r41 ⊢
      refine J_bipush hX dX10_readCommand_44 rfl ?_
      have hsk : sk t n (nsR t n (wnm (wix t p (we t n p)).toNat).toNat (we t n p)).2 = M6 r 20 := by rw [hRn, v6]
      have hR1 : (nsR t n (wnm (wix t p (we t n p)).toNat).toNat (we t n p)).1 = true := by rw [hRn]
      refine J_icmp_eq hX 51 dX10_readCommand_46 r41 (by decide) (by decide) (fun c46 => ?_) (fun c46 => ?_)
      · have h59 := (hR_eq (by decide)).1 c46
        have hR := RC_y hw hR1 hsk h59
        refine J_aload_n hX dX10_readCommand_51 rfl ?_
        refine J_dup hX dX10_readCommand_52 rfl ?_
        refine J_geti hX fi_RX10_276 dX10_readCommand_53 hM.k0 (fun r53 => ?_)
        refine J_iconst hX dX10_readCommand_56 ?_
        refine J_iadd hX dX10_readCommand_57 ?_
        refine J_putA hX fw_RX10_276 dX10_readCommand_58 hM.k0 (by omega) (Or.inl rfl) (fun m58 hm => ?_)
        exact fin 61 1 _ _ dX10_readCommand_61 dX10_readCommand_62 (Or.inr rfl) (by rw [hR]; rfl) (fun i h1 h2 => by rw [hm, mset_ne h1, f6 i h1]; exact f5 i h1 h2) (fun j h1 h2 => by rw [hm, mset_nj h1, g6 j h1]; exact g5 j h1 h2) (by rw [hm, mset_eq, hR])
          (fun _ => ⟨by rw [hm, mset_nj (by decide), g6 21 (by decide), w5, hwA], fun j hj => by rw [hm, mset_ne (by omega), f6 _ (by omega)]; refine u5 j ?_; rw [hwA] at hj; omega⟩)
      · have hR := RC_s hw hR1 hsk (fun q => c46 ((hR_eq (by decide)).2 q))
        exact fin 49 0 _ _ dX10_readCommand_49 dX10_readCommand_50 (Or.inl rfl) (by rw [hR]; rfl) (fun i h1 h2 => by rw [f6 i h1]; exact f5 i h1 h2) (fun j h1 h2 => by rw [g6 j h1]; exact g5 j h1 h2) (by rw [hR]) (fun q => by rw [hR] at q; exact Bool.noConfusion q)
    refine J_aload_n hX dX10_readCommand_19 rfl ?_
    refine J_iload_n hX dX10_readCommand_20 rfl ?_
    refine J_callVM hX _ dX10_readCommand_21 cw_RX10_323 (m_X10_readNumber hM hT5 (by omega) (by omega)) ⟨hM.k0, by decide, by decide, rfl⟩ rfl (Nat.le_of_ble_eq_true rfl) (by decide) ⟨Nat.zero_le _, Nat.zero_le _⟩ (fun r9 M6 q6 => ?_)
    obtain ⟨rfl, f6, g6, v6, y6, u6⟩ := q6
    rw [e51, e50] at v6 y6
    rw [e51, e50]
    refine J_ifb_ne hX 29 dX10_readCommand_24 (by decide) (fun c24 => ?_) (fun c24 => ?_)
    · refine J_iinc hX dX10_readCommand_29 rfl (by decide) ?_
      refine J_goto hX 11 dX10_readCommand_32 (by decide) ?_
      refine J_locI (ih (k + 1) (by omega) (by omega) M6 ⟨fun i h1 h2 => by rw [f6 i h1 h2]; exact f5 i h1 h2, fun j h1 h2 => by rw [g6 j h1]; exact g5 j h1 h2, by rw [g6 21 (by decide)]; exact w5, by rw [v6, v5]; rfl, ?_, fun j hj => ?_⟩) rfl
      · rw [← n5, show m - k = (m - (k + 1)) + 1 by omega, nsR_go c24, v6]
      · by_cases e : j = k
        · subst e; rw [y6 c24, v5]
        · rw [u6 j (by omega)]; exact u5 j (by omega)
    · have hns : nsR t n m (we t n p) = (false, rnE t n (M5 r 20)) := by rw [← n5, show m - k = (m - (k + 1)) + 1 by omega, nsR_no c24]
      have hRn := (hR0 _).2 hns
      have hR := RC_n hw (by rw [hRn]; exact Bool.noConfusion)
      rw [hRn] at hR
      exact fin 27 0 _ _ dX10_readCommand_27 dX10_readCommand_28 (Or.inl rfl) (by rw [hR]; rfl) (fun i h1 h2 => by rw [f6 i h1 h2]; exact f5 i h1 h2) (fun j h1 h2 => by rw [g6 j h1]; exact g5 j h1 h2) (by rw [v6, hR]) (fun q => by rw [hR] at q; exact Bool.noConfusion q)
  exact J_locI (HL 0 (Nat.zero_le _) M3 ⟨fun i h1 _ => f3 i h1, g3, w21, by rw [v3]; rfl, by rw [v3]; rfl, fun j hj => absurd hj (Nat.not_lt_zero _)⟩) rfl
set_option maxHeartbeats 4000000 in
theorem m_X10_isGood {E : EE} {K : Nat → Nat} {M : MM} {r : Nat} (hM : ModelK K r) (ht : TxR M r) : CnM E 4 yX10_isGood cX10_isGood 3 (Option.some FieldType.boolean) [.ref r] K M (fun r9 M2 => r9 = some (vI (bI (ff (M (r + 4)) (M r 5) < 0))) ∧ (∀ i, i ≠ r → i ≠ r + 11 → M2 i = M i) ∧ (∀ j, j ≠ 20 → j ≠ 21 → M2 r j = M r j) ∧ (0 ≤ ff (M (r + 4)) (M r 5) → M2 r 20 = ff (M (r + 4)) (M r 5))) := by
  have hn := ht.1
  generalize ht0 : M (r + 4) = t
  generalize hn0 : M r 5 = n at *
  refine Cn_of RX10 (plainFor_of_name (by decide)) rfl (Nat.le_of_ble_eq_true rfl) (fun X hX hQ => ?_)
  refine J_aload_n hX dX10_isGood_0 rfl ?_
  refine J_iconst hX dX10_isGood_1 ?_
  refine J_putA hX fw_RX10_276 dX10_isGood_2 hM.k0 (by decide) (Or.inl rfl) (fun m2 hm => ?_)
  have f2 : ∀ i, i ≠ r → m2 i = M i := fun i h => by rw [hm, mset_ne h]
  have g2 : ∀ j, j ≠ 20 → m2 r j = M r j := fun j h => by rw [hm, mset_nj h]
  have v2 : m2 r 20 = 0 := by rw [hm, mset_eq]
  clear hm
  have e20 : m2 r 5 = n := by rw [g2 5 (by decide), hn0]
  have e21 : m2 (r + 4) = t := by rw [f2 _ (by omega), ht0]
  refine J_iconst hX dX10_isGood_5 ?_
  refine J_istore_n hX dX10_isGood_6 (by decide) ?_
  refine J_aload_n hX dX10_isGood_7 rfl ?_
  refine J_callVM hX _ dX10_isGood_8 cw_RX10_313 (m_X10_skips hM (ht.fr (by rw [e21, ht0]) (by rw [e20, hn0])) (by omega)) ⟨hM.k0, by decide, by decide, rfl⟩ rfl (Nat.le_of_ble_eq_true rfl) (by decide) ⟨Nat.zero_le _, Nat.zero_le _⟩ (fun r9 M6 q6 => ?_)
  obtain ⟨rfl, f6, g6, v6⟩ := q6
  rw [e20, e21, v2] at v6
  refine J_istore_n hX dX10_isGood_11 (by decide) ?_
  have HL : ∀ k : Nat, k ≤ 150 → ∀ (M3 : MM) (sp : Int), ((∀ i, i ≠ r → i ≠ r + 11 → M3 i = M i) ∧ (∀ j, j ≠ 20 → j ≠ 21 → M3 r j = M r j) ∧ ((k : Int) ≤ M3 r 20 ∧ M3 r 20 ≤ n) ∧ ffF t n (150 - k) (M3 r 20) = ff t n) → J E X 12 [(0, .ref r), (1, vI 1), (2, vI sp)] [] K M3 0 0 := by
    refine up_ind _ (fun k hk ih => ?_)
    intro M3 sp hi
    obtain ⟨f3, g3, a3, w3⟩ := hi
    have e0 : M3 r 5 = n := by rw [g3 5 (by decide) (by decide), hn0]
    have e1 : M3 (r + 4) = t := by rw [f3 _ (by omega) (by omega), ht0]
    have hT3 : TxR M3 r := ht.fr (by rw [e1, ht0]) (by rw [e0, hn0])
    refine J_iload_n hX dX10_isGood_12 rfl ?_
    refine J_if_eq hX 52 dX10_isGood_13 (by decide) (by decide) (fun q => absurd q (by decide)) (fun _ => ?_)
    refine J_aload_n hX dX10_isGood_16 rfl ?_
    refine J_geti hX fi_RX10_276 dX10_isGood_17 hM.k0 (fun r17 => ?_)
    refine J_aload_n hX dX10_isGood_20 rfl ?_
    refine J_geti hX fi_RX10_273 dX10_isGood_21 hM.k0 (fun r21 => ?_)
    refine J_icmp_ge hX 52 dX10_isGood_24 r17 r21 (by decide) (fun c24 => ?_) (fun c24 => ?_)
    · have hf : ff t n = -1 := by rw [← w3, ffF_end (by omega)]
      refine J_iload_n hX dX10_isGood_52 rfl ?_
      exact J_zret hX hQ dX10_isGood_53 (Or.inr rfl) ⟨rfl, by rw [hf]; rfl, f3, g3, fun q => by omega⟩ (Nat.zero_le _) (Nat.zero_le _)
    refine J_aload_n hX dX10_isGood_27 rfl ?_
    refine J_callVM hX _ dX10_isGood_28 cw_RX10_326 (m_X10_readCommand hM hT3 (by omega)) ⟨hM.k0, by decide, by decide, rfl⟩ rfl (Nat.le_of_ble_eq_true rfl) (by decide) ⟨Nat.zero_le _, Nat.zero_le _⟩ (fun r9 M4 q4 => ?_)
    obtain ⟨rfl, f4, g4, v4, -⟩ := q4
    rw [e0, e1] at v4
    rw [e0, e1]
    have hT4 : TxR M4 r := hT3.fr (f4 _ (by omega) (by omega)) (g4 5 (by decide) (by decide))
    have hb := RC_bd (t := t) (n := n) (p := M3 r 20) a3.2
    refine J_istore_n hX dX10_isGood_31 (by decide) ?_
    refine J_iload_n hX dX10_isGood_32 rfl ?_
    refine J_ifb_eq hX 47 dX10_isGood_33 (by decide) (fun c33 => ?_) (fun c33 => ?_)
    · have hf : ff t n = (RC t n (M3 r 20)).2 := by rw [← w3, show 150 - k = (150 - (k + 1)) + 1 by omega, ffF_no (by omega) c33]
      rw [bI_f c33]
      refine J_iconst hX dX10_isGood_47 ?_
      refine J_istore_n hX dX10_isGood_48 (by decide) ?_
      refine J_goto hX 12 dX10_isGood_49 (by decide) ?_
      refine J_iload_n hX dX10_isGood_12 rfl ?_
      refine J_if_eq hX 52 dX10_isGood_13 (by decide) (by decide) (fun _ => ?_) (fun q => absurd rfl q)
      refine J_iload_n hX dX10_isGood_52 rfl ?_
      exact J_zret hX hQ dX10_isGood_53 (Or.inl rfl) ⟨rfl, by rw [bI_f (by omega)], fun i h1 h2 => by rw [f4 i h1 h2]; exact f3 i h1 h2, fun j h1 h2 => by rw [g4 j h1 h2]; exact g3 j h1 h2, fun _ => by rw [v4, hf]⟩ (Nat.zero_le _) (Nat.zero_le _)
    · rw [bI_t c33]
      have hgt := hb.2.2 c33
      refine J_aload_n hX dX10_isGood_36 rfl ?_
      refine J_callVM hX _ dX10_isGood_37 cw_RX10_313 (m_X10_skips hM hT4 (by rw [v4, g4 5 (by decide) (by decide)]; omega)) ⟨hM.k0, by decide, by decide, rfl⟩ rfl (Nat.le_of_ble_eq_true rfl) (by decide) ⟨Nat.zero_le _, Nat.zero_le _⟩ (fun r9 M5 q5 => ?_)
      obtain ⟨rfl, f5, g5, v5⟩ := q5
      rw [v4, f4 _ (by omega) (by omega), g4 5 (by decide) (by decide), e0, e1] at v5
      have hs0 := sk_ge (t := t) (n := n) (p := (RC t n (M3 r 20)).2)
      have hs1 := sk_le (t := t) hb.2.1
      have nxt : ∀ sp2 : Int, J E X 12 [(0, .ref r), (1, vI 1), (2, vI sp2)] [] K M5 0 0 := fun sp2 => ih (k + 1) (by omega) (by omega) M5 sp2 ⟨fun i h1 h2 => by rw [f5 i h1, f4 i h1 h2]; exact f3 i h1 h2, fun j h1 h2 => by rw [g5 j h1, g4 j h1 h2]; exact g3 j h1 h2, by omega, by rw [v5, ← w3, show 150 - k = (150 - (k + 1)) + 1 by omega, ffF_go (by omega) c33]⟩
      refine J_ifb_eq hX 47 dX10_isGood_40 (by decide) (fun _ => ?_) (fun _ => ?_)
      · refine J_iconst hX dX10_isGood_47 ?_
        refine J_istore_n hX dX10_isGood_48 (by decide) ?_
        refine J_goto hX 12 dX10_isGood_49 (by decide) ?_
        exact J_locI (nxt 0) rfl
      · refine J_iconst hX dX10_isGood_43 ?_
        refine J_goto hX 48 dX10_isGood_44 (by decide) ?_
        refine J_istore_n hX dX10_isGood_48 (by decide) ?_
        refine J_goto hX 12 dX10_isGood_49 (by decide) ?_
        exact J_locI (nxt 1) rfl
  have hs0 := sk_ge (t := t) (n := n) (p := 0)
  have hs1 := sk_le (t := t) hn.1
  exact J_locI (HL 0 (Nat.zero_le _) M6 _ ⟨fun i h1 _ => by rw [f6 i h1]; exact f2 i h1, fun j h1 _ => by rw [g6 j h1]; exact g2 j h1, by omega, by rw [v6]; rfl⟩) rfl

