/-! the first fault of the text; the fault of a setting -/
theorem RdP.txt {M M2 : MM} {c : Nat} {r : Option Value} (h : RdP M M2 c r) (ht : Txt M c) : Txt M2 c := ht.fr (h.2.1 _ (by omega) (by omega)) (h.2.2.1 0 (by decide) (by decide))
set_option maxHeartbeats 4000000 in
theorem m_X4_findFault {E : EE} {K : Nat → Nat} {M : MM} {c : Nat} (hc : K c = 4 ∧ K (c + 1) = 1000 + 150 ∧ K (c + 2) = 1000 + 6) (ht : Txt M c) (hE : ∀ U, SF E U → CF E U) : CnW E 7 yX4_findFault cX4_findFault 2 (some .int) [.ref c] K M (fun r K' M2 => K' = K ∧ r = some (vI (ff (M (c + 1)) (M c 0))) ∧ (∀ i, i ≠ c → i ≠ c + 2 → M2 i = M i) ∧ ∀ j, j ≠ 3 → j ≠ 4 → M2 c j = M c j) 0 0 := by
  have hn := ht.1
  generalize ht0 : M (c + 1) = t
  generalize hn0 : M c 0 = n at *
  refine CnW_of RX4 (by decide) rfl (Nat.le_of_ble_eq_true rfl) (fun X hX hQ hXK hP => ?_)
  refine J_aload_n hX dX4_findFault_0 rfl ?_
  refine J_iconst hX dX4_findFault_1 ?_
  refine J_putA hX fw_RX4_22 dX4_findFault_2 hc.1 (by decide) (Or.inl rfl) (fun m2 hm => ?_)
  have f2 : ∀ i, i ≠ c → m2 i = M i := fun i h => by rw [hm, mset_ne h]
  have g2 : ∀ j, j ≠ 3 → m2 c j = M c j := fun j h => by rw [hm, mset_nj h]
  have v2 : m2 c 3 = 0 := by rw [hm, mset_eq]
  clear hm
  have e20 : m2 c 0 = n := by rw [g2 0 (by decide), hn0]
  have e21 : m2 (c + 1) = t := by rw [f2 _ (by omega), ht0]
  refine J_aload_n hX dX4_findFault_5 rfl ?_
  refine J_callVM hX _ dX4_findFault_6 cw_RX4_29 (m_X4_skipSpaces hc (ht.fr (by rw [e21, ht0]) (by rw [e20, hn0])) (by omega)) ⟨hc.1, by decide, by decide, rfl⟩ rfl (Nat.le_of_ble_eq_true rfl) (by decide) ⟨Nat.zero_le _, Nat.zero_le _⟩ (fun r9 M6 q6 => ?_)
  obtain ⟨rfl, f6, g6, v6⟩ := q6
  rw [e20, e21, v2] at v6
  refine J_iconst hX dX4_findFault_9 ?_
  refine J_istore_n hX dX4_findFault_10 (by decide) ?_
  have HL : ∀ k : Nat, k ≤ 150 → ∀ M3 : MM, ((∀ i, i ≠ c → i ≠ c + 2 → M3 i = M i) ∧ (∀ j, j ≠ 3 → j ≠ 4 → M3 c j = M c j) ∧ (0 ≤ M3 c 3 ∧ M3 c 3 ≤ n) ∧ ffF t n (150 - k) (M3 c 3) = ff t n) → J E X 11 [(0, .ref c), (1, vI (k : Int))] [] K M3 0 0 := by
    refine up_ind _ (fun k hk ih => ?_)
    intro M3 hi
    obtain ⟨f3, g3, a3, w3⟩ := hi
    have e0 : M3 c 0 = n := by rw [g3 0 (by decide) (by decide), hn0]
    have e1 : M3 (c + 1) = t := by rw [f3 _ (by omega) (by omega), ht0]
    have hT3 : Txt M3 c := ht.fr (by rw [e1, ht0]) (by rw [e0, hn0])
    have fin : ffF t n (150 - k) (M3 c 3) = -1 → J E X 51 [] [] K M3 0 0 := fun h => by
      refine J_iconst hX dX4_findFault_51 ?_
      exact J_iret hX hQ dX4_findFault_52 ⟨rfl, by rw [← w3, h], f3, g3⟩ (Nat.zero_le _) (Nat.zero_le _)
    refine J_iload_n hX dX4_findFault_11 rfl ?_
    refine J_sipush hX dX4_findFault_12 rfl ?_
    refine J_icmp_ge hX 51 dX4_findFault_15 (by omega) (by decide) (by decide) (fun c15 => ?_) (fun c15 => ?_)
    · exact J_locI (fin (by rw [show 150 - k = 0 by omega]; rfl)) rfl
    refine J_aload_n hX dX4_findFault_18 rfl ?_
    refine J_geti hX fi_RX4_22 dX4_findFault_19 hc.1 (fun r19 => ?_)
    refine J_aload_n hX dX4_findFault_22 rfl ?_
    refine J_geti hX fi_RX4_18 dX4_findFault_23 hc.1 (fun r23 => ?_)
    refine J_icmp_ge hX 51 dX4_findFault_26 r19 r23 (by decide) (fun c26 => ?_) (fun c26 => ?_)
    · exact J_locI (fin (ffF_end (by omega))) rfl
    refine J_aload_n hX dX4_findFault_29 rfl ?_
    refine J_callVWM hX hP hXK [] dX4_findFault_30 cw_RX4_32 (As := []) (m_X4_readCommand hc hT3 hE (by omega)) ⟨hc.1, by decide, by decide, rfl⟩ rfl (Nat.le_of_ble_eq_true rfl) ⟨Nat.le_of_ble_eq_true rfl, by decide⟩ ⟨Nat.le_refl _, Nat.le_refl _⟩ (fun r9 M4 q4 => ?_)
    have hT4 := q4.txt hT3
    obtain ⟨rfl, f4, g4, v4, -⟩ := q4
    rw [e0, e1] at v4
    rw [e0, e1]
    have hb := RC_bd (t := t) (n := n) (p := M3 c 3) a3.2
    refine J_ifb_ne hX 41 dX4_findFault_33 (by decide) (fun c33 => ?_) (fun c33 => ?_)
    · refine J_aload_n hX dX4_findFault_41 rfl ?_
      refine J_callVM hX _ dX4_findFault_42 cw_RX4_29 (m_X4_skipSpaces hc hT4 (by rw [v4, g4 0 (by decide) (by decide)]; omega)) ⟨hc.1, by decide, by decide, rfl⟩ rfl (Nat.le_of_ble_eq_true rfl) (by decide) ⟨Nat.zero_le _, Nat.zero_le _⟩ (fun r9 M5 q5 => ?_)
      obtain ⟨rfl, f5, g5, v5⟩ := q5
      rw [v4, f4 _ (by omega) (by omega), g4 0 (by decide) (by decide), e0, e1] at v5
      have hs0 := sk_ge (t := t) (n := n) (p := (RC t n (M3 c 3)).2)
      have hs1 := sk_le (t := t) hb.2.1
      refine J_iinc hX dX4_findFault_45 rfl (by decide) ?_
      refine J_goto hX 11 dX4_findFault_48 (by decide) ?_
      refine J_locI (ih (k + 1) (by omega) (by omega) M5 ⟨fun i h1 h2 => by rw [f5 i h1, f4 i h1 h2]; exact f3 i h1 h2, fun j h1 h2 => by rw [g5 j h1, g4 j h1 h2]; exact g3 j h1 h2, by omega, ?_⟩) rfl
      rw [v5, ← w3, show 150 - k = (150 - (k + 1)) + 1 by omega, ffF_go (by omega) c33]
    · refine J_aload_n hX dX4_findFault_36 rfl ?_
      refine J_geti hX fi_RX4_22 dX4_findFault_37 hc.1 (fun r37 => ?_)
      refine J_iret hX hQ dX4_findFault_40 ⟨rfl, ?_, fun i h1 h2 => by rw [f4 i h1 h2]; exact f3 i h1 h2, fun j h1 h2 => by rw [g4 j h1 h2]; exact g3 j h1 h2⟩ (Nat.zero_le _) (Nat.zero_le _)
      rw [v4, ← w3, show 150 - k = (150 - (k + 1)) + 1 by omega, ffF_no (by omega) c33]
  have hs0 := sk_ge (t := t) (n := n) (p := 0)
  have hs1 := sk_le (t := t) hn.1
  exact J_locI (HL 0 (Nat.zero_le _) M6 ⟨fun i h1 _ => by rw [f6 i h1]; exact f2 i h1, fun j h1 _ => by rw [g6 j h1]; exact g2 j h1, by omega, by rw [v6]; rfl⟩) rfl
theorem ff_rg {t : Int → Int} {n : Int} (hn : 0 ≤ n) : -1 ≤ ff t n ∧ ff t n ≤ n := by
  have h : ∀ (k : Nat) (p : Int), 0 ≤ p → p ≤ n → -1 ≤ ffF t n k p ∧ ffF t n k p ≤ n := by
    intro k
    induction k with
    | zero => intro p h0 h1; exact ⟨Int.le_refl _, by show (-1 : Int) ≤ n; omega⟩
    | succ k ih =>
      intro p h0 h1
      by_cases c : p < n
      · have hb := RC_bd (t := t) (n := n) (p := p) h1
        by_cases c2 : (RC t n p).1 = true
        · rw [ffF_go c c2]
          have hs0 := sk_ge (t := t) (n := n) (p := (RC t n p).2)
          exact ih _ (by omega) (sk_le hb.2.1)
        · rw [ffF_no c c2]; omega
      · rw [ffF_end c]; omega
  have hs0 := sk_ge (t := t) (n := n) (p := 0)
  exact h 150 _ hs0 (sk_le hn)
set_option maxHeartbeats 4000000 in
theorem mW_X5_faultOfSetting {E : EE} {K : Nat → Nat} {M : MM} {b : Nat} {w v : Int} (hS : StageK K b) (hE : ∀ U, SF E U → CF E U) (hw : i32 w) (hv : i32 v) : CnW E 2 yX5_faultOfSetting cX5_faultOfSetting 3 (some .int) [.ref b, vI w, vI v] K M (fun r K' M' => r = some (vI (if fSe w v then 0 else 2)) ∧ K' = K ∧ M' = M) 0 0 := by
  refine CnW_of RX5 (by decide) rfl (Nat.le_of_ble_eq_true rfl) (fun X hX hQ hXK hP => ?_)
  have bad : ¬ (0 ≤ w ∧ w < 4) → J E X 9 [] [] K M 0 0 := fun h => by
    refine J_iconst hX dX5_faultOfSetting_9 ?_
    exact J_iret hX hQ dX5_faultOfSetting_10 ⟨by rw [if_neg (by unfold fSe; omega)], rfl, rfl⟩ (Nat.zero_le _) (Nat.zero_le _)
  refine J_iload_n hX dX5_faultOfSetting_0 rfl ?_
  refine J_if_lt hX 9 dX5_faultOfSetting_1 hw (by decide) (fun c1 => ?_) (fun c1 => ?_)
  · exact J_locI (bad (by omega)) rfl
  refine J_iload_n hX dX5_faultOfSetting_4 rfl ?_
  refine J_iconst hX dX5_faultOfSetting_5 ?_
  refine J_icmp_lt hX 11 dX5_faultOfSetting_6 hw (by decide) (by decide) (fun c6 => ?_) (fun c6 => ?_)
  · have key : ∀ lo hi : Int, ([0, 1, 0, 0] : List Int).getD w.toNat 0 = lo → ([100, 5, 15, 100] : List Int).getD w.toNat 0 = hi → (0 ≤ lo ∧ lo ≤ 1 ∧ 5 ≤ hi ∧ hi ≤ 100) → ((lo ≤ v ∧ v ≤ hi) ↔ fSe w v) → J E X 11 [(0, .ref b), (1, vI w), (2, vI v)] [] K M 0 0 := by
      intro lo hi h1 h2 h3 h4
      refine J_iload_n hX dX5_faultOfSetting_11 rfl ?_
      refine J_cgetsN (host := "EyeStage") hX hP hXK (v := .ref (1000000 + 12)) (fun ad h => h.ref _) (fun U hU => (hE U hU).least) (by decide +kernel) dX5_faultOfSetting_12 ?_
      refine J_iload_n hX dX5_faultOfSetting_15 rfl ?_
      refine J_cti hX hP hXK (v := vI lo) (fun U hU => (hE U hU).tleast) ⟨by omega, by omega⟩ (by decide) (fun _ _ => by rw [h1]; rfl) dX5_faultOfSetting_16 ?_
      refine J_cgetsN (host := "EyeStage") hX hP hXK (v := .ref (1000000 + 13)) (fun ad h => h.ref _) (fun U hU => (hE U hU).great) (by decide +kernel) dX5_faultOfSetting_17 ?_
      refine J_iload_n hX dX5_faultOfSetting_20 rfl ?_
      refine J_cti hX hP hXK (v := vI hi) (fun U hU => (hE U hU).tgreat) ⟨by omega, by omega⟩ (by decide) (fun _ _ => by rw [h2]; rfl) dX5_faultOfSetting_21 ?_
      refine J_callNI hX [] dX5_faultOfSetting_22 cw_RX5_59 (As := [vI v, vI lo, vI hi]) (m_X9_faultOfRange hv (by omega) (by omega)) rfl (Nat.le_of_ble_eq_true rfl) ⟨Nat.le_of_ble_eq_true rfl, by decide⟩ ⟨Nat.zero_le _, Nat.zero_le _⟩ (fun r22 => ?_)
      refine J_iret hX hQ dX5_faultOfSetting_25 ⟨?_, rfl, rfl⟩ (Nat.zero_le _) (Nat.zero_le _)
      by_cases q : lo ≤ v ∧ v ≤ hi
      · rw [if_pos q, if_pos (h4.1 q)]
      · rw [if_neg q, if_neg (fun z => q (h4.2 z))]
    have hw4 : w = 0 ∨ w = 1 ∨ w = 2 ∨ w = 3 := by omega
    rcases hw4 with rfl | rfl | rfl | rfl
    · exact key 0 100 rfl rfl (by decide) (by unfold fSe; omega)
    · exact key 1 5 rfl rfl (by decide) (by unfold fSe; omega)
    · exact key 0 15 rfl rfl (by decide) (by unfold fSe; omega)
    · exact key 0 100 rfl rfl (by decide) (by unfold fSe; omega)
  · exact J_locI (bad (by omega)) rfl
theorem m_X5_faultOfSetting {E : EE} {K : Nat → Nat} {M : MM} {b : Nat} {w v : Int} (hS : StageK K b) (hE : ∀ U, SF E U → CF E U) (hz : ∀ i, 1000000 ≤ i → K i = 0) (hC : Cl K M) (hw : i32 w) (hv : i32 v) : CnI E 2 yX5_faultOfSetting cX5_faultOfSetting 3 (Option.some FieldType.int) [.ref b, vI w, vI v] K M (if fSe w v then 0 else 2) :=
  ⟨Cn_pin (mW_X5_faultOfSetting hS hE hw hv) hz hC ⟨by have := hS 0 (by decide); rw [Nat.add_zero] at this; rw [this]; decide, trivial⟩ (fun r K' M' h => by obtain ⟨rfl, rfl, rfl⟩ := h; exact ⟨rfl, hC, trivial⟩), by split <;> decide⟩

