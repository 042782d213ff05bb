/-! History.save -/
/-- slots: n stages are made, in the first n slots; s: the first one's id -/
def SL (n : Nat) (M : MM) (h s : Nat) : Prop := (∀ j : Int, 0 ≤ j → j < n → ∃ c : Nat, c < n ∧ M (h + 1) j = ((s + 16 * c : Nat) : Int)) ∧ (∀ i j : Int, 0 ≤ i → i < n → 0 ≤ j → j < n → M (h + 1) i = M (h + 1) j → i = j) ∧ (∀ j : Int, n ≤ j → j < 4 → M (h + 1) j = -1)
def HV (n : Nat) (K : Nat → Nat) (M : MM) (h s : Nat) : Prop := n ≤ 4 ∧ (0 ≤ M h 0 ∧ M h 0 ≤ n) ∧ SL n M h s ∧ (∀ c, c < n → StageK K (s + 16 * c)) ∧ (∀ i, s + 16 * n ≤ i → i < s + 64 → K i = 0) ∧ s + 64 < 1000000
/-- what is saved after a call: z states dropped, c kept, and the one of b -/
def Svd (M M2 : MM) (h b : Nat) : Prop := ∃ z c : Int, (z = 0 ∧ c = M h 0 ∧ c < 4 ∨ z = 1 ∧ M h 0 = 4 ∧ c = 3) ∧ M2 h 0 = c + 1 ∧ (∀ j : Int, 0 ≤ j → j < c → M2 (h + 1) j = M (h + 1) (j + z) ∧ ∀ k, k < 16 → M2 ((M2 (h + 1) j).toNat + k) = M ((M2 (h + 1) j).toNat + k)) ∧ Alk M b M2 (M2 (h + 1) c).toNat
theorem SL.fr {n : Nat} {M M2 : MM} {h s : Nat} (hs : SL n M h s) (h1 : M2 (h + 1) = M (h + 1)) : SL n M2 h s := by
  unfold SL; rw [h1]; exact hs
set_option maxHeartbeats 4000000 in
set_option maxRecDepth 100000 in
theorem m_X1_save {E : EE} {K : Nat → Nat} {M : MM} {n h b s : Nat} (hH : K h = 1 ∧ K (h + 1) = 10) (hS : StageK K b) (hV : HV n K M h s) (hb : b + 16 ≤ s ∨ s + 64 ≤ b) (hh : h + 1 < s ∨ s + 64 ≤ h) (hC : Cl K M) :
    Cn E 4 yX1_save cX1_save 3 none [.ref h, .ref b] K M (fun r K' M' => r = none ∧ (∀ i, K i ≠ 0 → K' i = K i) ∧ (∀ i, i < s ∨ s + 64 ≤ i → K' i = K i) ∧ Cl K' M' ∧ (∃ n', n ≤ n' ∧ HV n' K' M' h s) ∧ (∀ i, i ≠ h → i ≠ h + 1 → (i < s ∨ s + 64 ≤ i) → M' i = M i) ∧ (∀ j, j ≠ 0 → M' h j = M h j) ∧ Svd M M' h b) 16 233 := by
  refine Cn_ofC RX1 (plainFor_of_name (by decide)) rfl (Nat.le_of_ble_eq_true rfl) (fun X hX hQ hXK hXN => ?_)
  obtain ⟨v1, v2, hSL, v6, v7, v8⟩ := hV
  have hkS : ∀ k, k < 16 → kS k ≠ 1 ∧ kS k ≠ 10 ∧ kS k ≠ 0 := by decide
  have hnb : ∀ k, k < 16 → b + k ≠ h ∧ b + k ≠ h + 1 := fun k hk => ⟨fun e => by have := hS k hk; rw [e, hH.1] at this; exact (hkS k hk).1 this.symm, fun e => by have := hS k hk; rw [e, hH.2] at this; exact (hkS k hk).2.1 this.symm⟩
  have tail : ∀ (K1 : Nat → Nat) (M1 : MM) (q a2 b2 : Nat), a2 ≤ 16 → b2 ≤ 233 → (K1 h = 1 ∧ K1 (h + 1) = 10) → StageK K1 b → StageK K1 q → (b + 16 ≤ q ∨ q + 16 ≤ b) → (h < q ∨ q + 16 ≤ h) → (0 ≤ M1 h 0 ∧ M1 h 0 < 4) → Cl K1 M1 →
      (∀ M3, (∀ i, i ≠ h → (i < q ∨ q + 16 ≤ i) → M3 i = M1 i) → (∀ j, j ≠ 0 → M3 h j = M1 h j) → M3 h 0 = M1 h 0 + 1 → Alk M1 b M3 q → Cl K1 M3 → (∀ i, K i ≠ 0 → K1 i = K i) ∧ (∀ i, i < s ∨ s + 64 ≤ i → K1 i = K i) ∧ Cl K1 M3 ∧ (∃ n', n ≤ n' ∧ HV n' K1 M3 h s) ∧ (∀ i, i ≠ h → i ≠ h + 1 → (i < s ∨ s + 64 ≤ i) → M3 i = M i) ∧ (∀ j, j ≠ 0 → M3 h j = M h j) ∧ Svd M M3 h b) →
      J E X 60 [(0, .ref h), (1, .ref b), (2, .ref q)] [] K1 M1 a2 b2 := by
    intro K1 M1 q a2 b2 ha2 hb2 hH1 hSb hSq hd hhq hc hC1 hp
    refine J_aload_n hX dX1_save_60 rfl ?_
    refine J_aload_n hX dX1_save_61 rfl ?_
    refine J_callVM hX _ dX1_save_62 cw_RX1_25 (m_X5_copyFrom hSb hSq hd) ⟨(show K1 q = 5 from hSq 0 (by decide)), by decide, by decide, rfl⟩ rfl (Nat.le_of_ble_eq_true rfl) (by decide) ⟨ha2, hb2⟩ (fun r9 M2 q2 => ?_)
    obtain ⟨rfl, f2, k2⟩ := q2
    have e2 := congrFun (f2 h hhq) 0
    refine J_aload_n hX dX1_save_65 rfl ?_
    refine J_dup hX dX1_save_66 rfl ?_
    refine J_geti hX fi_RX1_17 dX1_save_67 hH1.1 (fun r67 => ?_)
    refine J_iconst hX dX1_save_70 ?_
    refine J_iadd hX dX1_save_71 ?_
    refine J_putA hX fw_RX1_17 dX1_save_72 hH1.1 (by omega) (Or.inl rfl) (fun M3 hM3 => ?_)
    have hkq : ∀ k, k < 16 → q + k ≠ h := fun k hk => by omega
    have hC3 : Cl K1 M3 := by
      refine Cl_same hC1 (fun i hi => ?_)
      by_cases e : i < q ∨ q + 16 ≤ i
      · by_cases e1 : i = h
        · left; rw [e1, hH1.1]; decide
        · right; right; rw [hM3, mset_ne e1]; exact f2 i e
      · have e5 := hSq (i - q) (by omega)
        rw [show q + (i - q) = i by omega] at e5
        have : ∀ k, k < 16 → kS k < 10 ∨ 1000 ≤ kS k := by decide
        have := this (i - q) (by omega)
        rw [← e5] at this; omega
    exact J_vret hX hQ dX1_save_75 ⟨rfl, hp M3 (fun i i1 i2 => by rw [hM3, mset_ne i1]; exact f2 i i2) (fun j hj => by rw [hM3, mset_nj hj]; exact congrFun (f2 h hhq) j) (by rw [hM3, mset_eq, e2]) (fun k hk hk1 => by rw [hM3, mset_ne (hkq k hk)]; exact k2 k hk hk1) hC3⟩ ha2 hb2
  have main : ∀ (M1 : MM) (z c : Int), (z = 0 ∧ c = M h 0 ∧ c < 4 ∨ z = 1 ∧ M h 0 = 4 ∧ c = 3) → M1 h 0 = c → (∀ i, i ≠ h → i ≠ h + 1 → M1 i = M i) → (∀ j, j ≠ 0 → M1 h j = M h j) → (∀ j : Int, 0 ≤ j → j < c → M1 (h + 1) j = M (h + 1) (j + z)) → SL n M1 h s → Cl K M1 → J E X 12 [(0, .ref h), (1, .ref b)] [] K M1 0 0 := by
    intro M1 z c hz hc0 hf hfh hj hSL1 hC1
    have hc4 : 0 ≤ M1 h 0 ∧ M1 h 0 < 4 := by omega
    refine J_aload_n hX dX1_save_12 rfl ?_
    refine J_geti hX fi_RX1_17 dX1_save_13 hH.1 (fun r13 => ?_)
    refine J_if_lt hX 27 dX1_save_16 (by omega) (by decide) (fun c16 => absurd c16 (by omega)) (fun _ => ?_)
    refine J_aload_n hX dX1_save_19 rfl ?_
    refine J_geti hX fi_RX1_17 dX1_save_20 hH.1 (fun _ => ?_)
    refine J_iconst hX dX1_save_23 ?_
    refine J_icmp_lt hX 28 dX1_save_24 (by omega) (by decide) (by decide) (fun _ => ?_) (fun c24 => absurd hc4.2 c24)
    refine J_aload_n hX dX1_save_28 rfl ?_
    refine J_gr hX (h + 1) fr_RX1_11 dX1_save_29 hH.1 rfl ?_
    refine J_aload_n hX dX1_save_32 rfl ?_
    refine J_geti hX fi_RX1_17 dX1_save_33 hH.1 (fun _ => ?_)
    obtain ⟨l1, l2, l3⟩ := id hSL1
    -- the pages of the slots that stay
    have pages : ∀ (M3 : MM) (q : Nat) (m : Nat), (c ≤ m ∧ m ≤ 4) → (∀ i, i ≠ h → (i < q ∨ q + 16 ≤ i) → M3 i = M1 i ∨ i = h + 1) → (∀ j : Int, 0 ≤ j → j < c → M3 (h + 1) j = M1 (h + 1) j) → (∀ j : Int, 0 ≤ j → j < c → ∃ c2 : Nat, c2 < 4 ∧ M1 (h + 1) j = ((s + 16 * c2 : Nat) : Int) ∧ (s + 16 * c2 + 16 ≤ q ∨ q + 16 ≤ s + 16 * c2)) →
        ∀ j : Int, 0 ≤ j → j < c → M3 (h + 1) j = M (h + 1) (j + z) ∧ ∀ k, k < 16 → M3 ((M3 (h + 1) j).toNat + k) = M ((M3 (h + 1) j).toNat + k) := by
      intro M3 q m hm g1 g2 g3 j j0 j1
      obtain ⟨c2, d1, d2, d3⟩ := g3 j j0 j1
      refine ⟨by rw [g2 j j0 j1, hj j j0 j1], fun k hk => ?_⟩
      rw [g2 j j0 j1, d2, Int.toNat_natCast]
      rcases g1 (s + 16 * c2 + k) (by omega) (by omega) with e | e
      · rw [e]; exact hf _ (by omega) (by omega)
      · omega
    by_cases hn : c < n
    · obtain ⟨c2, d1, d2⟩ := l1 c (by omega) hn
      rw [← hc0] at d2
      refine J_aald hX dX1_save_36 hH.2 hc4 (by omega) ?_
      rw [d2, Int.toNat_natCast]
      refine J_astore_n hX dX1_save_37 (by decide) ?_
      refine J_aload_n hX dX1_save_38 rfl ?_
      refine J_ifnonnull hX 60 dX1_save_39 (by decide) ?_
      rw [hc0] at d2
      refine J_locI (tail K M1 (s + 16 * c2) 0 0 (by decide) (by decide) hH hS (v6 c2 d1) (by omega) (by omega) hc4 hC1 (fun M3 p1 p2 p3 p4 p5 => ?_)) rfl
      have e1 : M3 (h + 1) = M1 (h + 1) := p1 (h + 1) (by omega) (by omega)
      refine ⟨fun i _ => rfl, fun i _ => rfl, p5, ⟨n, Nat.le_refl _, v1, by omega, hSL1.fr e1, v6, v7, v8⟩, fun i i1 i2 i3 => by rw [p1 i i1 (by omega)]; exact hf i i1 i2, fun j hj2 => by rw [p2 j hj2]; exact hfh j hj2, z, c, hz, by omega, ?_, ?_⟩
      · refine pages M3 (s + 16 * c2) n (by omega) (fun i i1 i2 => Or.inl (p1 i i1 i2)) (fun j _ _ => by rw [e1]) (fun j j0 j1 => ?_)
        obtain ⟨c3, d3, d4⟩ := l1 j j0 (by omega)
        refine ⟨c3, by omega, d4, ?_⟩
        have : c3 ≠ c2 := fun e => by
          have := l2 j c j0 (by omega) (by omega) hn (by rw [d4, d2, e])
          omega
        omega
      · rw [e1, d2, Int.toNat_natCast]
        intro k hk hk1
        rw [p4 k hk hk1, hf _ (hnb k hk).1 (hnb k hk).2]
    · have hcn : c = n := by omega
      have hn4 : n < 4 := by omega
      have d2 := l3 c (by omega) (by omega)
      rw [← hc0] at d2
      have z0 : ∀ j, j < 16 → K (s + 16 * n + j) = 0 := fun j hj => v7 _ (by omega) (by omega)
      have hbK : K b ≠ 0 := by have := hS 0 (by decide); rw [Nat.add_zero] at this; rw [this]; decide
      have hhK : K h ≠ 0 := by rw [hH.1]; decide
      refine J_aaldN hX dX1_save_36 hH.2 hc4 (by omega) ?_
      refine J_astore_nN hX dX1_save_37 (by decide) ?_
      refine J_aload_nN hX dX1_save_38 rfl ?_
      refine J_ifnonnullN hX dX1_save_39 ?_
      refine J_new hX (s + 16 * n) fn_RX1_9 dX1_save_42 (z0 0 (by decide)) (fun j hj2 => by rw [← hXK]; exact hj2) hC1 ⟨hhK, hbK, trivial⟩ trivial (by decide) (fun K2 M2 e1 e2 hC2 => ?_)
      subst e1 e2
      refine J_dup hX dX1_save_45 rfl ?_
      have nh : h ≠ s + 16 * n ∧ h + 1 ≠ s + 16 * n ∧ b ≠ s + 16 * n := by omega
      refine J_callIK hX _ dX1_save_46 cw_RX1_24 (m_X5_init (b := s + 16 * n) upK_eq (fun j j0 j1 => by rw [upK_ne (by omega)]; exact z0 j j1) hC2) rfl (Nat.le_of_ble_eq_true rfl) ⟨Nat.le_of_ble_eq_true rfl, by decide⟩ (by decide) (Or.inr ⟨fun i hi => upK_up (by rw [← hXK]; exact hi) (by decide), s + 16 * n, by rw [upK_eq]; decide, by rw [hXK]; exact z0 0 (by decide)⟩)
        ⟨by rw [upK_ne nh.1]; exact hhK, by rw [upK_ne nh.2.2]; exact hbK, trivial⟩ ⟨by rw [upK_eq]; decide, trivial⟩ (fun r K2 M2 h9 i hi => by rw [h9.2.1]; exact regK_up hi (by decide)) (fun r K2 M4 h46 => ?_)
      obtain ⟨rfl, rfl, f4, p4, hC4⟩ := h46
      have f4' : ∀ i, i < s + 16 * n ∨ s + 16 * n + 16 ≤ i → M4 i = M1 i := fun i hi => by rw [f4 i hi, upM_ne (by omega)]
      have ko : ∀ i, i < s + 16 * n ∨ s + 16 * n + 16 ≤ i → regK (upK K (s + 16 * n) (100 + 5)) (s + 16 * n) 16 kS i = K i := fun i hi => by rw [regK_out hi, upK_ne (by omega)]
      have kq : StageK (regK (upK K (s + 16 * n) (100 + 5)) (s + 16 * n) 16 kS) (s + 16 * n) := fun j hj2 => regK_at rfl hj2
      refine J_astore_n hX dX1_save_49 (by decide) ?_
      refine J_aload_n hX dX1_save_50 rfl ?_
      refine J_gr hX (h + 1) fr_RX1_11 dX1_save_51 ((ko h (by omega)).trans hH.1) rfl ?_
      refine J_aload_n hX dX1_save_54 rfl ?_
      refine J_geti hX fi_RX1_17 dX1_save_55 ((ko h (by omega)).trans hH.1) (fun _ => ?_)
      refine J_aload_n hX dX1_save_58 rfl ?_
      have c4 : M4 h 0 = c := by rw [f4' h (by omega)]; exact hc0
      refine J_aast hX dX1_save_59 ((ko (h + 1) (by omega)).trans hH.2) (by omega) ((kq 0 (by decide)).trans rfl) (by omega) (fun M5 hM5 => ?_)
      have q5 : regK (upK K (s + 16 * n) (100 + 5)) (s + 16 * n) 16 kS (s + 16 * n) = 5 := kq 0 (by decide)
      have hC5 := Cl_q (j := M4 h 0) (v := s + 16 * n) hC4 ((ko (h + 1) (by omega)).trans hH.2) (by rw [q5]; decide)
      rw [← hM5] at hC5
      have f5 : ∀ i, i ≠ h + 1 → M5 i = M4 i := fun i hi => by rw [hM5]; exact mset_ne hi
      have g5 : ∀ j, j ≠ c → M5 (h + 1) j = M1 (h + 1) j := fun j hj2 => by rw [hM5, mset_nj (by omega), f4' (h + 1) (by omega)]
      have v5 : M5 (h + 1) c = ((s + 16 * n : Nat) : Int) := by rw [hM5, c4]; exact mset_eq
      refine J_locI (tail _ M5 (s + 16 * n) _ _ (by decide) (by decide) ⟨(ko h (by omega)).trans hH.1, (ko (h + 1) (by omega)).trans hH.2⟩ (fun k hk => (ko (b + k) (by omega)).trans (hS k hk)) kq (by omega) (by omega) (by rw [f5 h (by omega)]; omega) hC5 (fun M3 p1 p2 p3 p4 p5 => ?_)) rfl
      have e1 : M3 (h + 1) = M5 (h + 1) := p1 (h + 1) (by omega) (by omega)
      have e5 : M5 h 0 = c := by rw [f5 h (by omega)]; exact c4
      refine ⟨fun i hi => ko i (by by_cases e : s + 16 * n ≤ i ∧ i < s + 16 * n + 16; exact absurd (v7 i (by omega) (by omega)) hi; omega), fun i hi => ko i (by omega), p5, ⟨n + 1, by omega, by omega, by omega, ⟨fun j j0 j1 => ?_, fun i j i0 i1 j0 j1 e => ?_, fun j j0 j1 => ?_⟩, fun c2 hc2 => ?_, fun i i0 i1 => ?_, v8⟩, fun i i1 i2 i3 => ?_, fun j hj2 => ?_, z, c, hz, by omega, ?_, ?_⟩
      · rw [e1]
        by_cases ej : j = c
        · rw [ej, v5]; exact ⟨n, by omega, rfl⟩
        · rw [g5 j ej]
          obtain ⟨c2, q1, q2⟩ := l1 j j0 (by omega)
          exact ⟨c2, by omega, q2⟩
      · rw [e1] at e
        by_cases ei : i = c
        · by_cases ej : j = c
          · omega
          · rw [ei, v5, g5 j ej] at e
            obtain ⟨c2, q1, q2⟩ := l1 j j0 (by omega)
            omega
        · by_cases ej : j = c
          · rw [ej, v5, g5 i ei] at e
            obtain ⟨c2, q1, q2⟩ := l1 i i0 (by omega)
            omega
          · rw [g5 i ei, g5 j ej] at e
            exact l2 i j i0 (by omega) j0 (by omega) e
      · rw [e1, g5 j (by omega)]; exact l3 j (by omega) j1
      · by_cases e : c2 = n
        · rw [e]; exact kq
        · exact fun k hk => (ko _ (by omega)).trans (v6 c2 (by omega) k hk)
      · rw [ko i (by omega)]; exact v7 i (by omega) i1
      · rw [p1 i i1 (by omega), f5 i i2, f4' i (by omega)]; exact hf i i1 i2
      · rw [p2 j hj2, f5 h (by omega), f4' h (by omega)]; exact hfh j hj2
      · refine pages M3 (s + 16 * n) n (by omega) (fun i i1 i2 => ?_) (fun j j0 j1 => by rw [e1, g5 j (by omega)]) (fun j j0 j1 => ?_)
        · by_cases e : i = h + 1
          · exact Or.inr e
          · left; rw [p1 i i1 i2, f5 i e, f4' i i2]
        · obtain ⟨c2, q1, q2⟩ := l1 j j0 (by omega)
          exact ⟨c2, by omega, q2, by omega⟩
      · rw [e1, v5, Int.toNat_natCast]
        intro k hk hk1
        rw [p4 k hk hk1, f5 _ (hnb k hk).2, f4' _ (by omega), hf _ (hnb k hk).1 (hnb k hk).2]
  obtain ⟨l1, l2, l3⟩ := id hSL
  refine J_aload_n hX dX1_save_0 rfl ?_
  refine J_geti hX fi_RX1_17 dX1_save_1 hH.1 (fun r1 => ?_)
  refine J_iconst hX dX1_save_4 ?_
  refine J_icmp_lt hX 12 dX1_save_5 (by omega) (by decide) (by decide) (fun c5 => ?_) (fun c5 => ?_)
  · exact main M 0 (M h 0) (Or.inl ⟨rfl, rfl, c5⟩) rfl (fun _ _ _ => rfl) (fun _ _ => rfl) (fun j _ _ => by rw [Int.add_zero]) hSL hC
  · have hn : n = 4 := by omega
    refine J_aload_n hX dX1_save_8 rfl ?_
    refine J_callVM hX _ dX1_save_9 cw_RX1_21 (m_X1_dropOldest hH (fun j j0 j1 => ?_)) ⟨hH.1, by decide, by decide, rfl⟩ rfl (Nat.le_of_ble_eq_true rfl) (by decide) ⟨Nat.zero_le _, Nat.zero_le _⟩ (fun r9 M2 q2 => ?_)
    · obtain ⟨c2, d1, d2⟩ := l1 j j0 (by omega)
      rw [d2, Int.toNat_natCast]
      exact ⟨by omega, by omega, (v6 c2 d1) 0 (by decide)⟩
    · obtain ⟨rfl, a2, b2, k2, d2, e2, g2⟩ := q2
      have rot : ∀ j : Int, 0 ≤ j → j < 4 → M2 (h + 1) j = M (h + 1) (if j = 3 then 0 else j + 1) := fun j j0 j1 => by
        by_cases e : j = 3
        · rw [e, e2, if_pos rfl]
        · rw [if_neg e]; exact d2 j j0 (by omega)
      refine main M2 1 3 (Or.inr ⟨rfl, by omega, rfl⟩) a2 b2 k2 (fun j j0 j1 => d2 j j0 j1) ⟨fun j j0 j1 => ?_, fun i j i0 i1 j0 j1 e => ?_, fun j j0 j1 => by omega⟩ ?_
      · rw [rot j j0 (by omega)]
        exact l1 _ (by split <;> omega) (by split <;> omega)
      · rw [rot i i0 (by omega), rot j j0 (by omega)] at e
        have := l2 _ _ (by split <;> omega) (by split <;> omega) (by split <;> omega) (by split <;> omega) e
        split at this <;> split at this <;> omega
      · intro i hi
        by_cases e : i = h + 1
        · subst e
          obtain ⟨c1, c2, c3⟩ := hC (h + 1) hi
          refine ⟨c1, fun _ j hj2 => ?_, fun f o h1 => by rw [hH.2] at h1; omega⟩
          by_cases hj4 : (j : Int) < 4
          · rw [rot j (by omega) hj4]
            obtain ⟨x, x1, x2⟩ := l1 (if (j : Int) = 3 then 0 else (j : Int) + 1) (by split <;> omega) (by split <;> omega)
            have q5 : K (s + 16 * x) = 5 := v6 x x1 0 (by decide)
            rw [x2, Int.toNat_natCast, q5]; decide
          · rw [g2 j (by omega)] at hj2 ⊢
            exact c2 hH.2 j hj2
        · by_cases e1 : i = h
          · subst e1
            obtain ⟨c1, c2, c3⟩ := hC i hi
            exact ⟨c1, fun q => absurd (hH.1.symm.trans q) (by decide), fun f o q => absurd q (by rw [hH.1]; decide)⟩
          · rw [b2 i e1 e]; exact hC i hi
