/-! the reference reads a word, a command -/
theorem wxF_no {t : Int → Int} {p q : Int} (h : ∀ i, i < 9 → ¬ wok t p q i) : ∀ k i : Nat, i + k ≤ 9 → wxF t p q k i = -1 := by
  intro k
  induction k with
  | zero => intro i _; rfl
  | succ k ih =>
    intro i hi
    show (if wok t p q i then (i : Int) else wxF t p q k (i + 1)) = -1
    rw [if_neg (h i (by omega))]
    exact ih (i + 1) (by omega)
def cmW (t : Int → Int) (n p : Int) : Int := if wix t p (we t n p) < 0 then -1000 else wix t p (we t n p)
set_option maxHeartbeats 4000000 in
theorem m_X10_readWord {E : EE} {K : Nat → Nat} {M : MM} {r : Nat} (hM : ModelK K r) (ht : TxR M r) (ha : 0 ≤ M r 20 ∧ M r 20 ≤ M r 5) : CnM E 1 yX10_readWord cX10_readWord 4 (Option.some FieldType.boolean) [.ref r] K M (fun r9 M2 => r9 = some (vI (bI (0 ≤ wix (M (r + 4)) (M r 20) (we (M (r + 4)) (M r 5) (M r 20))))) ∧ (∀ i, i ≠ r → M2 i = M i) ∧ (∀ j, j ≠ 20 → j ≠ 21 → M2 r j = M r j) ∧ M2 r 20 = (if wix (M (r + 4)) (M r 20) (we (M (r + 4)) (M r 5) (M r 20)) < 0 then M r 20 else we (M (r + 4)) (M r 5) (M r 20)) ∧ M2 r 21 = cmW (M (r + 4)) (M r 5) (M r 20)) := by
  have hn := ht.1
  generalize ht0 : M (r + 4) = t
  generalize hn0 : M r 5 = n at *
  generalize hp0 : M r 20 = p at *
  have hwg := we_ge (t := t) (n := n) (p := p)
  have hwl := we_le (t := t) ha.2
  have hwr := wix_rg t p (we t n p)
  have hcm : i32 (cmW t n p) := by unfold cmW; split <;> omega
  refine Cn_of RX10 (plainFor_of_name (by decide)) rfl (Nat.le_of_ble_eq_true rfl) (fun X hX hQ => ?_)
  have J88 : ∀ (M3 : MM) (L2 : List (Nat × Value)), lget L2 0 = some (.ref r) → lget L2 1 = some (vI p) → (∀ i, i ≠ r → M3 i = M i) → (∀ j, j ≠ 20 → M3 r j = M r j) → M3 r 20 = we t n p → J E X 88 L2 [vI (cmW t n p), .ref r] K M3 0 0 := by
    intro M3 L2 hl0 hl1 f3 g3 v3
    refine J_putA hX fw_RX10_310 dX10_readWord_88 hM.k0 hcm (Or.inl rfl) (fun m88 hm => ?_)
    have fm : ∀ i, i ≠ r → m88 i = M i := fun i h => by rw [hm, mset_ne h]; exact f3 i h
    have gm : ∀ j, j ≠ 20 → j ≠ 21 → m88 r j = M r j := fun j h h2 => by rw [hm, mset_nj h2]; exact g3 j h
    have e20 : m88 r 20 = we t n p := by rw [hm, mset_nj (by decide)]; exact v3
    have e21 : m88 r 21 = cmW t n p := by rw [hm, mset_eq]
    clear hm
    -- the end, from the place that is stored
    have J110 : ∀ (q : Int), i32 q → q = (if wix t p (we t n p) < 0 then p else we t n p) → J E X 110 L2 [vI q, .ref r] K m88 0 0 := by
      intro q hq he
      refine J_putA hX fw_RX10_276 dX10_readWord_110 hM.k0 hq (Or.inl rfl) (fun m110 hm => ?_)
      have e21b : m110 r 21 = cmW t n p := by rw [hm, mset_nj (by decide)]; exact e21
      refine J_aload_n hX dX10_readWord_113 hl0 ?_
      refine J_geti hX fi_RX10_310 dX10_readWord_114 hM.k0 (fun r114 => ?_)
      refine J_sipush hX dX10_readWord_117 rfl ?_
      have post : ∀ i, i ≠ r → m110 i = M i := fun i h => by rw [hm, mset_ne h]; exact fm i h
      refine J_icmp_eq hX 127 dX10_readWord_120 r114 (by decide) (by decide) (fun c120 => ?_) (fun c120 => ?_)
      · refine J_iconst hX dX10_readWord_127 ?_
        exact J_zret hX hQ dX10_readWord_128 (Or.inl rfl) ⟨rfl, by rw [bI_f (fun z => by rw [e21b] at c120; unfold cmW at c120; rw [if_neg (by omega)] at c120; omega)], post, fun j h1 h2 => by rw [hm, mset_nj h1]; exact gm j h1 h2, by rw [hm, mset_eq, he], e21b⟩ (Nat.zero_le _) (Nat.zero_le _)
      · refine J_iconst hX dX10_readWord_123 ?_
        refine J_goto hX 128 dX10_readWord_124 (by decide) ?_
        exact J_zret hX hQ dX10_readWord_128 (Or.inr rfl) ⟨rfl, by rw [bI_t (Int.not_lt.mp (fun z => c120 (by rw [e21b]; unfold cmW; rw [if_pos z])))], post, fun j h1 h2 => by rw [hm, mset_nj h1]; exact gm j h1 h2, by rw [hm, mset_eq, he], e21b⟩ (Nat.zero_le _) (Nat.zero_le _)
    refine J_aload_n hX dX10_readWord_91 hl0 ?_
    refine J_aload_n hX dX10_readWord_92 hl0 ?_
    refine J_geti hX fi_RX10_310 dX10_readWord_93 hM.k0 (fun r93 => ?_)
    refine J_sipush hX dX10_readWord_96 rfl ?_
    refine J_icmp_ne hX 106 dX10_readWord_99 r93 (by decide) (by decide) (fun c99 => ?_) (fun c99 => ?_)
    · refine J_aload_n hX dX10_readWord_106 hl0 ?_
      refine J_geti hX fi_RX10_276 dX10_readWord_107 hM.k0 (fun r107 => ?_)
      exact J110 _ r107 (by rw [e20, if_neg (fun z => c99 (by rw [e21]; unfold cmW; rw [if_pos z]))])
    · refine J_iload_n hX dX10_readWord_102 hl1 ?_
      refine J_goto hX 110 dX10_readWord_103 (by decide) ?_
      exact J110 _ (by omega) (by
        by_cases z : wix t p (we t n p) < 0
        · rw [if_pos z]
        · exfalso; rw [e21] at c99; unfold cmW at c99; rw [if_neg z] at c99; omega)
  refine J_aload_n hX dX10_readWord_0 rfl ?_
  refine J_geti hX fi_RX10_276 dX10_readWord_1 hM.k0 (fun r1 => ?_)
  refine J_istore_n hX dX10_readWord_4 (by decide) ?_
  refine J_lconst (x := 0) hX dX10_readWord_5 rfl ?_
  refine J_lstore_n hX dX10_readWord_6 (by decide) ?_
  have HL : ∀ k : Nat, k ≤ (n - p).toNat → ∀ (M3 : MM) (z : Int), ((∀ i, i ≠ r → M3 i = M i) ∧ (∀ j, j ≠ 20 → M3 r j = M r j) ∧ M3 r 20 = p + k ∧ we t n (p + k) = we t n p ∧ (k ≤ 6 → z = encW t p k) ∧ (6 < k → z = -1) ∧ ∀ j : Nat, j < k → 97 ≤ t (p + (j : Int)) ∧ t (p + (j : Int)) ≤ 122) → J E X 7 [(0, .ref r), (1, vI p), (2, vL z)] [] K M3 0 0 := by
    refine up_ind _ (fun k hk ih => ?_)
    intro M3 z hi
    obtain ⟨f3, g3, v3, w3, z1, z2, lt3⟩ := hi
    have e0 : M3 r 5 = n := by rw [g3 5 (by decide), hn0]
    have e1 : M3 (r + 4) = t := by rw [f3 _ (by omega), ht0]
    have hT3 : TxR M3 r := ht.fr (by rw [e1, ht0]) (by rw [e0, hn0])
    refine J_aload_n hX dX10_readWord_7 rfl ?_
    refine J_callVI hX _ dX10_readWord_8 cw_RX10_279 (m_X10_here hM hT3 (by omega)) ⟨hM.k0, by decide, by decide, rfl⟩ rfl (Nat.le_of_ble_eq_true rfl) (by decide) ⟨Nat.zero_le _, Nat.zero_le _⟩ (fun r8 => ?_)
    rw [e0, e1, v3] at r8 ⊢
    refine J_bipush hX dX10_readWord_11 rfl ?_
    refine J_bipush hX dX10_readWord_13 rfl ?_
    refine J_callSB hX [] dX10_readWord_15 cw_RX10_58 (As := [vI (hR t n (p + k)), vI 97, vI 122]) (m_X10_in r8 (by decide) (by decide)) rfl (Nat.le_of_ble_eq_true rfl) (by decide) ⟨Nat.zero_le _, Nat.zero_le _⟩ ?_
    refine J_ifb_eq hX 67 dX10_readWord_18 (by decide) (fun c18 => ?_) (fun c18 => ?_)
    · have hst : we t n p = p + k := by rw [← w3, we_stop (fun q => c18 ((hR_in (by decide)).2 q))]
      refine J_aload_n hX dX10_readWord_67 rfl ?_
      refine J_aload_n hX dX10_readWord_68 rfl ?_
      refine J_geti hX fi_RX10_276 dX10_readWord_69 hM.k0 (fun r69 => ?_)
      refine J_iload_n hX dX10_readWord_72 rfl ?_
      refine J_isub hX dX10_readWord_73 ?_
      refine J_iconst hX dX10_readWord_74 ?_
      refine J_icmp_le hX 84 dX10_readWord_75 (by omega) (by decide) (by decide) (fun c75 => ?_) (fun c75 => ?_)
      · have hk5 : k ≤ 5 := by omega
        have hz := z1 (by omega)
        have hb := encW_bd (t := t) (p := p) k lt3
        have hpw : (27 : Int) ^ k ≤ 27 ^ 5 := by
          have := Nat.pow_le_pow_right (n := 27) (by decide) hk5
          exact_mod_cast this
        have hb2 : encW t p k < 14348907 := Int.lt_of_lt_of_le hb.2 hpw
        refine J_lload_n hX dX10_readWord_84 rfl ?_
        refine J_callSI hX _ dX10_readWord_85 cw_RX10_306 (As := [vL z]) (m_X10_commandOf (by omega)) rfl (Nat.le_of_ble_eq_true rfl) (by decide) ⟨Nat.zero_le _, Nat.zero_le _⟩ (fun r85 => ?_)
        have hcz : cmO z = cmW t n p := by rw [hz, cmO_wix hk5 lt3]; unfold cmW; rw [hst]
        rw [hcz]
        exact J88 M3 _ rfl rfl f3 g3 (by omega)
      · refine J_sipush hX dX10_readWord_78 rfl ?_
        refine J_goto hX 88 dX10_readWord_81 (by decide) ?_
        have hx : wix t p (we t n p) = -1 := wxF_no (fun i hi q => by
          have h1 := q.1
          have h2 := wtx_len i hi
          omega) 9 0 (by decide)
        have hcz : cmW t n p = -1000 := by unfold cmW; rw [hx]; rfl
        have := J88 M3 [(0, .ref r), (1, vI p), (2, vL z)] rfl rfl f3 g3 (by omega)
        rw [hcz] at this
        exact this
    have hb := (hR_in (by decide)).1 c18
    have hbv : 97 ≤ t (p + k) ∧ t (p + k) ≤ 122 := hb.2
    have J53 : ∀ z2 : Int, (k + 1 ≤ 6 → z2 = encW t p (k + 1)) → (6 < k + 1 → z2 = -1) → J E X 53 [(0, .ref r), (1, vI p), (2, vL z)] [vL z2] K M3 0 0 := by
      intro z2 y1 y2
      refine J_lstore_n hX dX10_readWord_53 (by decide) ?_
      refine J_aload_n hX dX10_readWord_54 rfl ?_
      refine J_dup hX dX10_readWord_55 rfl ?_
      refine J_geti hX fi_RX10_276 dX10_readWord_56 hM.k0 (fun r56 => ?_)
      refine J_iconst hX dX10_readWord_59 ?_
      refine J_iadd hX dX10_readWord_60 ?_
      refine J_putA hX fw_RX10_276 dX10_readWord_61 hM.k0 (by omega) (Or.inl rfl) (fun m61 hm => ?_)
      refine J_goto hX 7 dX10_readWord_64 (by decide) ?_
      refine J_locI (ih (k + 1) (by omega) (by omega) m61 z2 ⟨fun i h => by rw [hm, mset_ne h]; exact f3 i h, fun j h => by rw [hm, mset_nj h]; exact g3 j h, by rw [hm, mset_eq, v3]; omega, by rw [← w3, we_go (t := t) (n := n) (p := p + (k : Int)) hb.1 hb.2, show p + (k : Int) + 1 = p + ((k + 1 : Nat) : Int) by omega], y1, y2, fun j hj => ?_⟩) rfl
      by_cases e : j = k
      · subst e; exact hbv
      · exact lt3 j (by omega)
    refine J_aload_n hX dX10_readWord_21 rfl ?_
    refine J_geti hX fi_RX10_276 dX10_readWord_22 hM.k0 (fun r22 => ?_)
    refine J_iload_n hX dX10_readWord_25 rfl ?_
    refine J_isub hX dX10_readWord_26 ?_
    refine J_bipush hX dX10_readWord_27 rfl ?_
    refine J_icmp_ge hX 50 dX10_readWord_29 (by omega) (by decide) (by decide) (fun c29 => ?_) (fun c29 => ?_)
    · refine J_ldc2 (x := -1) hX dX10_readWord_50 kl_RX10_304 rfl ?_
      exact J_locI (J53 (-1) (fun h => by omega) (fun _ => rfl)) rfl
    · refine J_lload_n hX dX10_readWord_32 rfl ?_
      refine J_ldc2 (x := 27) hX dX10_readWord_33 kl_RX10_300 rfl ?_
      refine J_lmul hX dX10_readWord_36 ?_
      refine J_aload_n hX dX10_readWord_37 rfl ?_
      refine J_callVI hX _ dX10_readWord_38 cw_RX10_279 (m_X10_here hM hT3 (by omega)) ⟨hM.k0, by decide, by decide, rfl⟩ rfl (Nat.le_of_ble_eq_true rfl) (by decide) ⟨Nat.zero_le _, Nat.zero_le _⟩ (fun r38 => ?_)
      rw [e0, e1, v3, hR_at hb.1]
      refine J_i2l hX dX10_readWord_41 (by omega) ?_
      refine J_ladd hX dX10_readWord_42 ?_
      refine J_ldc2 (x := 96) hX dX10_readWord_43 kl_RX10_302 rfl ?_
      refine J_lsub hX dX10_readWord_46 ?_
      refine J_goto hX 53 dX10_readWord_47 (by decide) ?_
      exact J_locI (J53 _ (fun h => by rw [z1 (by omega)]; rfl) (fun h => by omega)) rfl
  rw [hp0]
  exact J_locI (HL 0 (Nat.zero_le _) M 0 ⟨fun _ _ => rfl, fun _ _ => rfl, by omega, by rw [show p + ((0 : Nat) : Int) = p by omega], fun _ => rfl, fun h => absurd h (by decide), fun j hj => absurd hj (Nat.not_lt_zero _)⟩) rfl

