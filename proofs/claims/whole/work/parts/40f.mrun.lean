/-! runCommands of the reference -/
def RunM (M : MM) (r : Nat) (S2 : MM) (d2 : Int) (r9 : Option Value) (M2 : MM) : Prop :=
  (0 ≤ ff (M (r + 4)) (M r 5) → r9 = some (vI (-10 - ff (M (r + 4)) (M r 5))) ∧ (∀ i, i ≠ r → i ≠ r + 11 → M2 i = M i) ∧ (∀ j, j ≠ 6 → j ≠ 20 → j ≠ 21 → M2 r j = M r j) ∧ M2 r 6 = 0) ∧
  (ff (M (r + 4)) (M r 5) < 0 → r9 = some (vI d2) ∧ RS S2 (M2 (r + 1)) ∧ ∃ M0 Mk, (∀ i, i ≠ r → i ≠ r + 11 → M0 i = M i) ∧ (∀ j, j ≠ 6 → j ≠ 20 → j ≠ 21 → M0 r j = M r j) ∧ M0 r 6 = 0 ∧ KpM M0 r Mk ∧ (∀ i, i ≠ r → i ≠ r + 1 → i ≠ r + 5 → i ≠ r + 11 → M2 i = Mk i) ∧ ∀ j, j ≠ 20 → j ≠ 21 → M2 r j = Mk r j)
set_option maxHeartbeats 4000000 in
set_option maxRecDepth 100000 in
theorem m_X10_runCommands {E : EE} {K : Nat → Nat} {M : MM} {r : Nat} {T : Int} {S S2 : MM} {d2 : Int} (hM : ModelK K r) (hR : RS S (M (r + 1))) (hW : WFS T S) (ht : TxR M r) (h3 : 0 ≤ M r 3 ∧ M r 3 ≤ 4) (hT : T + 30200 ≤ 1000000000) (hz : ∀ k, 16 ≤ k → S k = fun _ => 0)
    (hrun : ff (M (r + 4)) (M r 5) < 0 → rnR (M (r + 4)) (M r 5) 150 (sk (M (r + 4)) (M r 5) 0) S 0 S2 d2) : CnM E 5 yX10_runCommands cX10_runCommands 5 (Option.some FieldType.int) [.ref r] K M (fun r9 M2 => RunM M r S2 d2 r9 M2) := by
  have hn := ht.1
  unfold RunM
  generalize ht0 : M (r + 4) = t at *
  generalize hn0 : M r 5 = n at *
  have hfr := ff_rg (t := t) (n := n) hn.1
  refine Cn_of RX10 (plainFor_of_name (by decide)) rfl (Nat.le_of_ble_eq_true rfl) (fun X hX hQ => ?_)
  refine J_aload_n hX dX10_runCommands_0 rfl ?_
  refine J_iconst hX dX10_runCommands_1 ?_
  refine J_putA hX fw_RX10_47 dX10_runCommands_2 hM.k0 (by decide) (Or.inl rfl) (fun m2 hm => ?_)
  have f2 : ∀ i, i ≠ r → m2 i = M i := fun i h => by rw [hm, mset_ne h]
  have g2 : ∀ j, j ≠ 6 → m2 r j = M r j := fun j h => by rw [hm, mset_nj h]
  have v2 : m2 r 6 = 0 := by rw [hm, mset_eq]
  clear hm
  have e20 : m2 r 5 = n := by rw [g2 5 (by decide), hn0]
  have e21 : m2 (r + 4) = t := by rw [f2 _ (by omega), ht0]
  have hT2 : TxR m2 r := ht.fr (by rw [e21, ht0]) (by rw [e20, hn0])
  refine J_aload_n hX dX10_runCommands_5 rfl ?_
  refine J_callVM hX _ dX10_runCommands_6 cw_RX10_329 (m_X10_isGood hM hT2) ⟨hM.k0, by decide, by decide, rfl⟩ rfl (Nat.le_of_ble_eq_true rfl) (by decide) ⟨Nat.zero_le _, Nat.zero_le _⟩ (fun r9 M0 q0 => ?_)
  obtain ⟨rfl, f0, g0, v0⟩ := q0
  rw [e20, e21] at v0
  rw [e20, e21]
  have F0 : ∀ i, i ≠ r → i ≠ r + 11 → M0 i = M i := fun i h1 h2 => by rw [f0 i h1 h2]; exact f2 i h1
  have G0 : ∀ j, j ≠ 6 → j ≠ 20 → j ≠ 21 → M0 r j = M r j := fun j h1 h2 h4 => by rw [g0 j h2 h4]; exact g2 j h1
  have V0 : M0 r 6 = 0 := by rw [g0 6 (by decide) (by decide)]; exact v2
  refine J_ifb_ne hX 20 dX10_runCommands_9 (by decide) (fun c9 => ?_) (fun c9 => ?_)
  rotate_left
  · refine J_bipush hX dX10_runCommands_12 rfl ?_
    refine J_aload_n hX dX10_runCommands_14 rfl ?_
    refine J_geti hX fi_RX10_276 dX10_runCommands_15 hM.k0 (fun r15 => ?_)
    refine J_isub hX dX10_runCommands_18 ?_
    exact J_iret hX hQ dX10_runCommands_19 ⟨rfl, fun _ => ⟨by rw [v0 (by omega)], F0, G0, V0⟩, fun q => absurd q c9⟩ (Nat.zero_le _) (Nat.zero_le _)
  have hrun2 := hrun c9
  refine J_aload_n hX dX10_runCommands_20 rfl ?_
  refine J_callVM hX _ dX10_runCommands_21 cw_RX10_69 (m_X10_keep hM (by rw [G0 3 (by decide) (by decide) (by decide)]; exact h3)) ⟨hM.k0, by decide, by decide, rfl⟩ rfl (Nat.le_of_ble_eq_true rfl) (by decide) ⟨Nat.zero_le _, Nat.zero_le _⟩ (fun r9 Mk qk => ?_)
  obtain ⟨rfl, hk⟩ := qk
  refine J_aload_n hX dX10_runCommands_24 rfl ?_
  refine J_iconst hX dX10_runCommands_25 ?_
  refine J_putA hX fw_RX10_276 dX10_runCommands_26 hM.k0 (by decide) (Or.inl rfl) (fun m26 hm => ?_)
  have f26 : ∀ i, i ≠ r → m26 i = Mk i := fun i h => by rw [hm, mset_ne h]
  have g26 : ∀ j, j ≠ 20 → m26 r j = Mk r j := fun j h => by rw [hm, mset_nj h]
  have v26 : m26 r 20 = 0 := by rw [hm, mset_eq]
  clear hm
  have ek5 : Mk r 5 = n := by rw [hk.fld (by decide), G0 5 (by decide) (by decide) (by decide), hn0]
  have ek4 : Mk (r + 4) = t := by rw [hk.row (by omega) (by omega), F0 _ (by omega) (by omega), ht0]
  have ek1 : Mk (r + 1) = M (r + 1) := by rw [hk.row (by omega) (by omega), F0 _ (by omega) (by omega)]
  refine J_iconst hX dX10_runCommands_29 ?_
  refine J_istore_n hX dX10_runCommands_30 (by decide) ?_
  refine J_iconst hX dX10_runCommands_31 ?_
  refine J_istore_n hX dX10_runCommands_32 (by decide) ?_
  refine J_aload_n hX dX10_runCommands_33 rfl ?_
  have hT26 : TxR m26 r := ht.fr (by rw [f26 (r + 4) (by omega), ek4, ht0]) (by rw [g26 5 (by decide), ek5, hn0])
  refine J_callVM hX _ dX10_runCommands_34 cw_RX10_313 (m_X10_skips hM hT26 (by rw [v26, g26 5 (by decide), ek5]; omega)) ⟨hM.k0, by decide, by decide, rfl⟩ rfl (Nat.le_of_ble_eq_true rfl) (by decide) ⟨Nat.zero_le _, Nat.zero_le _⟩ (fun r9 M6 q6 => ?_)
  obtain ⟨rfl, f6, g6, v6⟩ := q6
  rw [f26 (r + 4) (by omega), g26 5 (by decide), ek5, ek4, v26] at v6
  refine J_istore_n hX dX10_runCommands_37 (by decide) ?_
  -- the end
  have fin : ∀ (L2 : List (Nat × Value)) (M4 : MM), lget L2 1 = some (vI d2) → (∀ i, i ≠ r → i ≠ r + 1 → i ≠ r + 5 → i ≠ r + 11 → M4 i = Mk i) → (∀ j, j ≠ 20 → j ≠ 21 → M4 r j = Mk r j) → RS S2 (M4 (r + 1)) → J E X 94 L2 [] K M4 0 0 := by
    intro L2 M4 hl f4 g4 h4
    refine J_iload_n hX dX10_runCommands_94 hl ?_
    exact J_iret hX hQ dX10_runCommands_95 ⟨rfl, fun q => absurd c9 (by omega), fun _ => ⟨rfl, h4, M0, Mk, F0, G0, V0, hk, f4, g4⟩⟩ (Nat.zero_le _) (Nat.zero_le _)
  have HL : ∀ k : Nat, k ≤ 150 → ∀ (M3 : MM) (sp : Int) (Sc : MM), ((∀ i, i ≠ r → i ≠ r + 1 → i ≠ r + 5 → i ≠ r + 11 → M3 i = Mk i) ∧ (∀ j, j ≠ 20 → j ≠ 21 → M3 r j = Mk r j) ∧ ((k : Int) ≤ M3 r 20 ∧ M3 r 20 ≤ n) ∧ RS Sc (M3 (r + 1)) ∧ WFS (T + 200 * k) Sc ∧ (∀ j, 16 ≤ j → Sc j = fun _ => 0) ∧ rnR t n (150 - k) (M3 r 20) Sc k S2 d2) → J E X 38 [(0, .ref r), (1, vI (k : Int)), (2, vI 1), (3, vI sp)] [] K M3 0 0 := by
    refine up_ind _ (fun k hk9 ih => ?_)
    intro M3 sp Sc hi
    obtain ⟨f3, g3, a3, R3, W3, z3, n3⟩ := hi
    have e0 : M3 r 5 = n := by rw [g3 5 (by decide) (by decide), ek5]
    have e1 : M3 (r + 4) = t := by rw [f3 _ (by omega) (by omega) (by omega) (by omega), ek4]
    have hT3 : TxR M3 r := ht.fr (by rw [e1, ht0]) (by rw [e0, hn0])
    refine J_iload_n hX dX10_runCommands_38 rfl ?_
    refine J_if_eq hX 94 dX10_runCommands_39 (by decide) (by decide) (fun q => absurd q (by decide)) (fun _ => ?_)
    refine J_aload_n hX dX10_runCommands_42 rfl ?_
    refine J_geti hX fi_RX10_276 dX10_runCommands_43 hM.k0 (fun r43 => ?_)
    refine J_aload_n hX dX10_runCommands_46 rfl ?_
    refine J_geti hX fi_RX10_273 dX10_runCommands_47 hM.k0 (fun r47 => ?_)
    refine J_icmp_ge hX 94 dX10_runCommands_50 r43 r47 (by decide) (fun c50 => ?_) (fun c50 => ?_)
    · obtain ⟨rfl, hd⟩ := rnR_end n3 (Or.inr (fun q => by have := q.1; omega))
      exact fin _ M3 (by rw [hd]; rfl) f3 g3 R3
    refine J_aload_n hX dX10_runCommands_53 rfl ?_
    refine J_callVM hX _ dX10_runCommands_54 cw_RX10_326 (m_X10_readCommand hM hT3 (by omega)) ⟨hM.k0, by decide, by decide, rfl⟩ rfl (Nat.le_of_ble_eq_true rfl) (by decide) ⟨Nat.zero_le _, Nat.zero_le _⟩ (fun r9 M4 q4 => ?_)
    obtain ⟨rfl, f4, g4, v4, y4⟩ := q4
    rw [e0, e1] at v4 y4
    rw [e0, e1]
    have hb := RC_bd (t := t) (n := n) (p := M3 r 20) a3.2
    have f4k : ∀ i, i ≠ r → i ≠ r + 1 → i ≠ r + 5 → i ≠ r + 11 → M4 i = Mk i := fun i h1 h2 h5 h11 => by rw [f4 i h1 h11]; exact f3 i h1 h2 h5 h11
    have g4k : ∀ j, j ≠ 20 → j ≠ 21 → M4 r j = Mk r j := fun j h1 h2 => by rw [g4 j h1 h2]; exact g3 j h1 h2
    have R4 : RS Sc (M4 (r + 1)) := by rw [f4 _ (by omega) (by omega)]; exact R3
    refine J_ifb_eq hX 94 dX10_runCommands_57 (by decide) (fun c57 => ?_) (fun c57 => ?_)
    · obtain ⟨rfl, hd⟩ := rnR_end n3 (Or.inr (fun q => c57 q.2.1))
      exact fin _ M4 (by rw [hd]; rfl) f4k g4k R4
    obtain ⟨y1, y3⟩ := y4 c57
    have hwr := wix_rg t (M3 r 20) (we t n (M3 r 20))
    have hw9 : wiA t n (M3 r 20) < 9 := by unfold wiA; omega
    have hNB : NBr M4 r (wiA t n (M3 r 20)) := fun j hj => by
      rw [y3 j hj]
      exact numV_bd
    have hgt := hb.2.2 c57
    have hT4 : TxR M4 r := ht.fr (by rw [f4 (r + 4) (by omega) (by omega), e1, ht0]) (by rw [g4 5 (by decide) (by decide), e0, hn0])
    refine J_aload_n hX dX10_runCommands_60 rfl ?_
    refine J_callVM hX _ dX10_runCommands_61 cw_RX10_332 (m_X10_whyNot hM R4 W3 hw9 y1 hNB) ⟨hM.k0, by decide, by decide, rfl⟩ rfl (Nat.le_of_ble_eq_true rfl) (by decide) ⟨Nat.zero_le _, Nat.zero_le _⟩ (fun r9 M5 q5 => ?_)
    obtain ⟨h5m, f, rfl, hfi, hff⟩ := q5
    rw [h5m]
    clear h5m
    refine J_if_ne hX 71 dX10_runCommands_64 hfi (by decide) (fun c64 => ?_) (fun c64 => ?_)
    · have hno : ¬ cmOK t n (M3 r 20) Sc := fun q => c64 (hff.2 ((cm_congr hw9 y3 Sc Sc).1.2 q.2.2))
      obtain ⟨rfl, hd⟩ := rnR_end n3 (Or.inr hno)
      refine J_iconst hX dX10_runCommands_71 ?_
      refine J_istore_n hX dX10_runCommands_72 (by decide) ?_
      refine J_iload_n hX dX10_runCommands_73 rfl ?_
      refine J_if_eq hX 86 dX10_runCommands_74 (by decide) (by decide) (fun _ => ?_) (fun q => absurd rfl q)
      refine J_aload_n hX dX10_runCommands_86 rfl ?_
      refine J_callVM hX _ dX10_runCommands_87 cw_RX10_313 (m_X10_skips hM hT4 (by rw [v4, g4 5 (by decide) (by decide), e0]; omega)) ⟨hM.k0, by decide, by decide, rfl⟩ rfl (Nat.le_of_ble_eq_true rfl) (by decide) ⟨Nat.zero_le _, Nat.zero_le _⟩ (fun r9 M7 q7 => ?_)
      obtain ⟨rfl, f7, g7, v7⟩ := q7
      refine J_istore_n hX dX10_runCommands_90 (by decide) ?_
      refine J_goto hX 38 dX10_runCommands_91 (by decide) ?_
      refine J_iload_n hX dX10_runCommands_38 rfl ?_
      refine J_if_eq hX 94 dX10_runCommands_39 (by decide) (by decide) (fun _ => ?_) (fun q => absurd rfl q)
      exact fin _ M7 (by rw [hd]; rfl) (fun i h1 h2 h5 h11 => by rw [f7 i h1]; exact f4k i h1 h2 h5 h11) (fun j h1 h2 => by rw [g7 j h1]; exact g4k j h1 h2) (by rw [f7 _ (by omega)]; exact R4)
    · have hf := hff.1 c64
      have hok : cmOK t n (M3 r 20) Sc := ⟨by omega, c57, (cm_congr hw9 y3 Sc Sc).1.1 hf⟩
      have n4 := n3
      rw [show 150 - k = (150 - (k + 1)) + 1 by omega] at n4
      obtain ⟨S1, hA, hz1, n5⟩ := n4.1 hok
      refine J_iconst hX dX10_runCommands_67 ?_
      refine J_goto hX 72 dX10_runCommands_68 (by decide) ?_
      refine J_istore_n hX dX10_runCommands_72 (by decide) ?_
      refine J_iload_n hX dX10_runCommands_73 rfl ?_
      refine J_if_eq hX 86 dX10_runCommands_74 (by decide) (by decide) (fun q => absurd q (by decide)) (fun _ => ?_)
      refine J_aload_n hX dX10_runCommands_77 rfl ?_
      refine J_callVM hX _ dX10_runCommands_78 cw_RX10_335 (m_X10_carryOut hM R4 W3 hw9 y1 hNB hf (by omega) z3) ⟨hM.k0, by decide, by decide, rfl⟩ rfl (Nat.le_of_ble_eq_true rfl) (by decide) ⟨Nat.zero_le _, Nat.zero_le _⟩ (fun r9 M7 q7 => ?_)
      obtain ⟨⟨told, rfl⟩, f7, R7⟩ := q7
      have hR7 := R7 S1 ((cm_congr hw9 y3 Sc S1).2.2 hA)
      have m7r : M7 r = M4 r := f7 r (by omega) (by omega)
      have hT7 : TxR M7 r := ht.fr (by rw [f7 (r + 4) (by omega) (by omega), f4 (r + 4) (by omega) (by omega), e1, ht0]) (by rw [m7r, g4 5 (by decide) (by decide), e0, hn0])
      refine J_istore hX dX10_runCommands_81 (by decide) ?_
      refine J_iinc hX dX10_runCommands_83 rfl (by decide) ?_
      refine J_aload_n hX dX10_runCommands_86 rfl ?_
      refine J_callVM hX _ dX10_runCommands_87 cw_RX10_313 (m_X10_skips hM hT7 (by rw [m7r, v4, g4 5 (by decide) (by decide), e0]; omega)) ⟨hM.k0, by decide, by decide, rfl⟩ rfl (Nat.le_of_ble_eq_true rfl) (by decide) ⟨Nat.zero_le _, Nat.zero_le _⟩ (fun r9 M8 q8 => ?_)
      obtain ⟨rfl, f8, g8, v8⟩ := q8
      rw [m7r, f7 (r + 4) (by omega) (by omega), v4, g4 5 (by decide) (by decide), f4 (r + 4) (by omega) (by omega), e0, e1] at v8
      have hs0 := sk_ge (t := t) (n := n) (p := (RC t n (M3 r 20)).2)
      have hs1 := sk_le (t := t) hb.2.1
      refine J_istore_n hX dX10_runCommands_90 (by decide) ?_
      refine J_goto hX 38 dX10_runCommands_91 (by decide) ?_
      refine J_locI (ih (k + 1) (by omega) (by omega) M8 _ S1 ⟨fun i h1 h2 h5 h11 => by rw [f8 i h1, f7 i h2 h5]; exact f4k i h1 h2 h5 h11, fun j h1 h2 => by rw [g8 j h1, m7r]; exact g4k j h1 h2, by omega, by rw [f8 _ (by omega)]; exact hR7, WFS_mono (cmA_wf hw9 W3 hok.2.2 hA z3 (by omega)) (by omega) (by omega), hz1, by rw [v8]; exact n5⟩) rfl
  have hs0 := sk_ge (t := t) (n := n) (p := 0)
  have hs1 := sk_le (t := t) hn.1
  exact J_locI (HL 0 (Nat.zero_le _) M6 _ S ⟨fun i h1 _ _ _ => by rw [f6 i h1]; exact f26 i h1, fun j h1 _ => by rw [g6 j h1]; exact g26 j h1, by omega, by rw [f6 _ (by omega), f26 _ (by omega), ek1]; exact hR, WFS_mono hW (by omega) (by omega), hz, by rw [v6]; exact hrun2⟩) rfl

