/-! reading the text: bytes, spaces, numbers -/
/-- the text of the script at c -/
abbrev Txt (M : MM) (c : Nat) : Prop := (0 ≤ M c 0 ∧ M c 0 ≤ 150) ∧ ∀ j : Int, 0 ≤ j → j < M c 0 → 0 ≤ M (c + 1) j ∧ M (c + 1) j ≤ 127
theorem Txt.fr {M M2 : MM} {c : Nat} (h : Txt M c) (h1 : M2 (c + 1) = M (c + 1)) (h0 : M2 c 0 = M c 0) : Txt M2 c := by
  unfold Txt; rw [h1, h0]; exact h
def bA (t : Int → Int) (n i : Int) : Int := if 0 ≤ i ∧ i < n then t i else -1
theorem bA_eq {t : Int → Int} {n i k : Int} (hk : 0 ≤ k) (hi : 0 ≤ i) : bA t n i = k ↔ i < n ∧ t i = k := by
  unfold bA
  by_cases c : i < n
  · rw [if_pos ⟨hi, c⟩]; exact ⟨fun h => ⟨c, h⟩, fun h => h.2⟩
  · rw [if_neg (fun q => c q.2)]; exact ⟨fun h => by omega, fun h => absurd h.1 c⟩
theorem bA_in {t : Int → Int} {n i : Int} (hi : 0 ≤ i ∧ i < n) : bA t n i = t i := if_pos hi
theorem bA_out {t : Int → Int} {n i : Int} (hi : ¬ i < n) : bA t n i = -1 := if_neg (fun q => hi q.2)
theorem bA_rg {M : MM} {c : Nat} (h : Txt M c) (i : Int) : -1 ≤ bA (M (c + 1)) (M c 0) i ∧ bA (M (c + 1)) (M c 0) i ≤ 127 := by
  unfold bA
  split
  · rename_i q
    have := h.2 i q.1 q.2
    omega
  · omega
theorem bA_dg {t : Int → Int} {n i : Int} (hi : 0 ≤ i) : (48 ≤ bA t n i ∧ bA t n i ≤ 57) ↔ i < n ∧ isDg t i := by
  unfold bA
  by_cases c : i < n
  · rw [if_pos ⟨hi, c⟩]; exact ⟨fun h => ⟨c, h⟩, fun h => h.2⟩
  · rw [if_neg (fun q => c q.2)]; exact ⟨fun h => by omega, fun h => absurd h.1 c⟩

-- X4_byteAt
set_option maxHeartbeats 4000000 in
set_option maxRecDepth 100000 in
theorem m_X4_byteAt {E : EE} {K : Nat → Nat} {M : MM} {c : Nat} {i : Int} (hc : K c = 4 ∧ K (c + 1) = 1000 + 150 ∧ K (c + 2) = 1000 + 6) (ht : Txt M c) (hi : i32 i) : CnI E 0 yX4_byteAt cX4_byteAt 2 (Option.some FieldType.int) [.ref c, vI i] K M (bA (M (c + 1)) (M c 0) i) := by
  have hn := ht.1
  refine ⟨Cn_of RX4 (plainFor_of_name (by decide)) rfl (Nat.le_of_ble_eq_true rfl) (fun X hX hQ => ?_), by have := bA_rg ht i; omega⟩
  refine J_iload_n hX dX4_byteAt_0 rfl ?_
  refine J_if_lt hX 28 dX4_byteAt_1 (by omega) (by decide) (fun c1 => ?_) (fun c1 => ?_)
  · refine J_iconst hX dX4_byteAt_28 ?_
    exact J_retI hX hQ dX4_byteAt_29 (by unfold bA; first | (rw [if_pos (by omega)]; done) | (rw [if_neg (by omega)]; done)) rfl rfl (Nat.zero_le _) (Nat.zero_le _)
  · refine J_iload_n hX dX4_byteAt_4 rfl ?_
    refine J_aload_n hX dX4_byteAt_5 rfl ?_
    refine J_geti hX fi_RX4_18 dX4_byteAt_6 (show K (c) = 4 from hc.1) (fun r6 => ?_)
    refine J_icmp_ge hX 28 dX4_byteAt_9 (by omega) (by omega) (by decide) (fun c9 => ?_) (fun c9 => ?_)
    · refine J_iconst hX dX4_byteAt_28 ?_
      exact J_retI hX hQ dX4_byteAt_29 (by unfold bA; first | (rw [if_pos (by omega)]; done) | (rw [if_neg (by omega)]; done)) rfl rfl (Nat.zero_le _) (Nat.zero_le _)
    · refine J_iload_n hX dX4_byteAt_12 rfl ?_
      refine J_sipush hX dX4_byteAt_13 rfl ?_
      refine J_icmp_ge hX 28 dX4_byteAt_16 (by omega) (by decide) (by decide) (fun c16 => ?_) (fun c16 => ?_)
      · refine J_iconst hX dX4_byteAt_28 ?_
        exact J_retI hX hQ dX4_byteAt_29 (by unfold bA; first | (rw [if_pos (by omega)]; done) | (rw [if_neg (by omega)]; done)) rfl rfl (Nat.zero_le _) (Nat.zero_le _)
      · refine J_aload_n hX dX4_byteAt_19 rfl ?_
        refine J_gr hX (c + 1) fr_RX4_9 dX4_byteAt_20 (show K (c) = 4 from hc.1) rfl ?_
        refine J_iload_n hX dX4_byteAt_23 rfl ?_
        refine J_iald hX dX4_byteAt_24 (show K (c + 1) = 1000 + 150 from hc.2.1) ⟨by omega, by omega⟩ (by decide) (fun r24 => ?_)
        refine J_goto hX 29 dX4_byteAt_25 (by decide) ?_
        exact J_retI hX hQ dX4_byteAt_29 (by unfold bA; first | (rw [if_pos (by omega)]; done) | (rw [if_neg (by omega)]; done)) rfl rfl (Nat.zero_le _) (Nat.zero_le _)
-- X4_skipSpaces
set_option maxHeartbeats 4000000 in
set_option maxRecDepth 100000 in
theorem m_X4_skipSpaces {E : EE} {K : Nat → Nat} {M : MM} {c : Nat}  (hc : K c = 4 ∧ K (c + 1) = 1000 + 150 ∧ K (c + 2) = 1000 + 6) (ht : Txt M c) (ha : 0 ≤ M c 3 ∧ M c 3 ≤ M c 0) : CnM E 1 yX4_skipSpaces cX4_skipSpaces 1 none [.ref c] K M (fun r M2 => r = none ∧ (∀ i, i ≠ c → M2 i = M i) ∧ (∀ j, j ≠ 3 → M2 c j = M c j) ∧ M2 c 3 = sk (M (c + 1)) (M c 0) (M c 3)) := by
  refine Cn_of RX4 (plainFor_of_name (by decide)) rfl (Nat.le_of_ble_eq_true rfl) (fun X hX hQ => ?_)
  have HL0 : ∀ k : Nat, k ≤ (M c 0 - M c 3).toNat → ∀ (M3 : MM), ((∀ i, i ≠ c → M3 i = M i) ∧ (∀ j, j ≠ 3 → M3 c j = M c j) ∧ M3 c 3 = M c 3 + k ∧ sk (M (c + 1)) (M c 0) (M c 3) = sk (M (c + 1)) (M c 0) (M c 3 + k)) → J E X 0 [(0, .ref c)] [] K M3 0 0 := by
    refine up_ind ((M c 0 - M c 3).toNat) (fun k hk0 ih0 => ?_)
    intro M3  hi0
    have e0 : M3 c 0 = M c 0 := hi0.2.1 0 (by decide)
    have e1 : M3 (c + 1) = M (c + 1) := hi0.1 _ (by omega)
    have hT3 : Txt M3 c := ht.fr e1 e0
    have v3 := hi0.2.2.1
    have hn := ht.1
    refine J_aload_n hX dX4_skipSpaces_0 rfl ?_
    refine J_geti hX fi_RX4_22 dX4_skipSpaces_1 (show K (c) = 4 from hc.1) (fun r1 => ?_)
    refine J_aload_n hX dX4_skipSpaces_4 rfl ?_
    refine J_geti hX fi_RX4_18 dX4_skipSpaces_5 (show K (c) = 4 from hc.1) (fun r5 => ?_)
    refine J_icmp_ge hX 37 dX4_skipSpaces_8 (by omega) (by omega) (by decide) (fun c8 => ?_) (fun c8 => ?_)
    · exact J_vret hX hQ dX4_skipSpaces_37 ⟨rfl, by refine ⟨rfl, hi0.1, hi0.2.1, ?_⟩; rw [hi0.2.2.2, ← v3, sk_stop]; intro q; first | omega | exact c21 ((bA_eq (by decide) (by omega)).2 ⟨by omega, by rw [e1]; exact q.2⟩)⟩ (Nat.zero_le _) (Nat.zero_le _)
    · refine J_aload_n hX dX4_skipSpaces_11 rfl ?_
      refine J_aload_n hX dX4_skipSpaces_12 rfl ?_
      refine J_geti hX fi_RX4_22 dX4_skipSpaces_13 (show K (c) = 4 from hc.1) (fun r13 => ?_)
      refine J_callVI hX _ dX4_skipSpaces_16 cw_RX4_25 (m_X4_byteAt hc hT3 (by omega)) ⟨(show K (c) = 4 from hc.1), by decide, by decide, rfl⟩ rfl (Nat.le_of_ble_eq_true rfl) (by decide) ⟨Nat.zero_le _, Nat.zero_le _⟩ (fun r16 => ?_)
      refine J_bipush hX dX4_skipSpaces_19 rfl ?_
      refine J_icmp_ne hX 37 dX4_skipSpaces_21 (by omega) (by decide) (by decide) (fun c21 => ?_) (fun c21 => ?_)
      · exact J_vret hX hQ dX4_skipSpaces_37 ⟨rfl, by refine ⟨rfl, hi0.1, hi0.2.1, ?_⟩; rw [hi0.2.2.2, ← v3, sk_stop]; intro q; first | omega | exact c21 ((bA_eq (by decide) (by omega)).2 ⟨by omega, by rw [e1]; exact q.2⟩)⟩ (Nat.zero_le _) (Nat.zero_le _)
      · have hb := (bA_eq (by decide) (by omega)).1 (show bA (M3 (c + 1)) (M3 c 0) (M3 c 3) = 32 by omega)
        rw [e0, e1, v3] at hb
        refine J_aload_n hX dX4_skipSpaces_24 rfl ?_
        refine J_dup hX dX4_skipSpaces_25 rfl ?_
        refine J_geti hX fi_RX4_22 dX4_skipSpaces_26 (show K (c) = 4 from hc.1) (fun r26 => ?_)
        refine J_iconst hX dX4_skipSpaces_29 ?_
        refine J_iadd hX dX4_skipSpaces_30 ?_
        refine J_putA hX fw_RX4_22 dX4_skipSpaces_31 (show K (c) = 4 from hc.1) (by omega) (Or.inl rfl) (fun m31 hm31 => ?_)
        have fm31 : ∀ i, i ≠ c → m31 i = M3 i := fun i h => by rw [hm31]; exact mset_ne h
        have gm31 : ∀ i j, j ≠ 3 → m31 i j = M3 i j := fun i j h => by rw [hm31]; exact mset_nj h
        have vm31 := (congrFun (congrFun hm31 (c)) 3).trans mset_eq
        refine J_goto hX 0 dX4_skipSpaces_34 (by decide) ?_
        exact J_locI (ih0 (k + 1) (by omega) (by omega) _ ⟨fun i hi => by rw [fm31 i hi]; exact hi0.1 i hi, fun j hj => by rw [gm31 _ j hj]; exact hi0.2.1 j hj, by rw [vm31, v3]; omega, by rw [hi0.2.2.2, sk_go hb.1 hb.2, show M c 3 + (k : Int) + 1 = M c 3 + ((k + 1 : Nat) : Int) by omega]⟩) rfl
  exact J_locI (HL0 0 (Nat.zero_le _) _ ⟨fun _ _ => rfl, fun _ _ => rfl, by omega, by rw [show M c 3 + ((0 : Nat) : Int) = M c 3 by omega]⟩) rfl
-- X4_readNumber
set_option maxHeartbeats 4000000 in
set_option maxRecDepth 100000 in
theorem m_X4_readNumber {E : EE} {K : Nat → Nat} {M : MM} {c : Nat} {w : Int} (hc : K c = 4 ∧ K (c + 1) = 1000 + 150 ∧ K (c + 2) = 1000 + 6) (ht : Txt M c) (ha : 0 ≤ M c 3 ∧ M c 3 ≤ M c 0) (hj : 0 ≤ w ∧ w < 6) : CnM E 2 yX4_readNumber cX4_readNumber 4 (Option.some FieldType.boolean) [.ref c, vI w] K M (fun r M2 => r = some (vI (bI (rnO (M (c + 1)) (M c 0) (M c 3)))) ∧ (∀ i, i ≠ c → i ≠ c + 2 → M2 i = M i) ∧ (∀ k, k ≠ 3 → M2 c k = M c k) ∧ M2 c 3 = rnE (M (c + 1)) (M c 0) (M c 3) ∧ (rnO (M (c + 1)) (M c 0) (M c 3) → M2 (c + 2) w = rnV (M (c + 1)) (M c 0) (M c 3)) ∧ ∀ k, k ≠ w → M2 (c + 2) k = M (c + 2) k) := by
  have hn := ht.1
  have hk0 := sk_ge (t := M (c + 1)) (n := M c 0) (p := M c 3)
  have hk1 := sk_le (t := M (c + 1)) (n := M c 0) (p := M c 3) ha.2
  refine Cn_of RX4 (plainFor_of_name (by decide)) rfl (Nat.le_of_ble_eq_true rfl) (fun X hX hQ => ?_)
  refine J_aload_n hX dX4_readNumber_0 rfl ?_
  refine J_aload_n hX dX4_readNumber_1 rfl ?_
  refine J_geti hX fi_RX4_22 dX4_readNumber_2 (show K (c) = 4 from hc.1) (fun r2 => ?_)
  refine J_callVI hX _ dX4_readNumber_5 cw_RX4_25 (m_X4_byteAt hc ht (by omega)) ⟨(show K (c) = 4 from hc.1), by decide, by decide, rfl⟩ rfl (Nat.le_of_ble_eq_true rfl) (by decide) ⟨Nat.zero_le _, Nat.zero_le _⟩ (fun r5 => ?_)
  refine J_bipush hX dX4_readNumber_8 rfl ?_
  refine J_icmp_eq hX 15 dX4_readNumber_10 (by omega) (by decide) (by decide) (fun c10 => ?_) (fun c10 => ?_)
  · have h32 := (bA_eq (by decide) ha.1).1 (show bA (M (c + 1)) (M c 0) (M c 3) = 32 by omega)
    refine J_aload_n hX dX4_readNumber_15 rfl ?_
    refine J_callVM hX _ dX4_readNumber_16 cw_RX4_29 (m_X4_skipSpaces hc ht (by omega)) ⟨(show K (c) = 4 from hc.1), by decide, by decide, rfl⟩ rfl (Nat.le_of_ble_eq_true rfl) (by decide) ⟨Nat.zero_le _, Nat.zero_le _⟩ (fun r9 M16 q16 => ?_)
    obtain ⟨rfl, fM16, gM16, vM16⟩ := q16
    have e0 : M16 c 0 = M c 0 := gM16 0 (by decide)
    have e1 : M16 (c + 1) = M (c + 1) := fM16 _ (by omega)
    have hT16 : Txt M16 c := ht.fr e1 e0
    refine J_aload_n hX dX4_readNumber_19 rfl ?_
    refine J_aload_n hX dX4_readNumber_20 rfl ?_
    refine J_geti hX fi_RX4_22 dX4_readNumber_21 (show K (c) = 4 from hc.1) (fun r21 => ?_)
    refine J_callVI hX _ dX4_readNumber_24 cw_RX4_25 (m_X4_byteAt hc hT16 (by omega)) ⟨(show K (c) = 4 from hc.1), by decide, by decide, rfl⟩ rfl (Nat.le_of_ble_eq_true rfl) (by decide) ⟨Nat.zero_le _, Nat.zero_le _⟩ (fun r24 => ?_)
    refine J_callSB hX _ dX4_readNumber_27 cw_RX4_77 (m_X4_isDigit (by omega)) rfl (Nat.le_of_ble_eq_true rfl) (by decide) ⟨Nat.zero_le _, Nat.zero_le _⟩ ?_
    refine J_ifb_eq hX 43 dX4_readNumber_30 (by decide) (fun c30 => ?_) (fun c30 => ?_)
    · have hno : ¬ rnO (M (c + 1)) (M c 0) (M c 3) := fun q => c30 ((bA_dg (by omega)).2 (by rw [vM16, e0, e1]; exact q.2))
      have hE : rnE (M (c + 1)) (M c 0) (M c 3) = sk (M (c + 1)) (M c 0) (M c 3) := by unfold rnE; rw [if_neg hno]
      refine J_iconst hX dX4_readNumber_43 ?_
      exact J_zret hX hQ dX4_readNumber_44 (Or.inl rfl) ⟨rfl, by rw [bI_f hno], fun i h1 _ => fM16 i h1, gM16, by rw [vM16, hE], fun q => absurd q hno, fun k _ => by rw [fM16 _ (by omega)]⟩ (Nat.zero_le _) (Nat.zero_le _)
    · have hdg := (bA_dg (by omega)).1 c30
      rw [vM16, e0, e1] at hdg
      have hyes : rnO (M (c + 1)) (M c 0) (M c 3) := ⟨h32, hdg⟩
      refine J_iload_n hX dX4_readNumber_33 rfl ?_
      refine J_if_lt hX 43 dX4_readNumber_34 (by omega) (by decide) (fun c34 => ?_) (fun c34 => ?_)
      · exfalso; omega
      · refine J_iload_n hX dX4_readNumber_37 rfl ?_
        refine J_bipush hX dX4_readNumber_38 rfl ?_
        refine J_icmp_lt hX 45 dX4_readNumber_40 (by omega) (by decide) (by decide) (fun c40 => ?_) (fun c40 => ?_)
        · refine J_iconst hX dX4_readNumber_45 ?_
          refine J_istore_n hX dX4_readNumber_46 (by decide) ?_
          refine J_iconst hX dX4_readNumber_47 ?_
          refine J_istore_n hX dX4_readNumber_48 (by decide) ?_
          have HL49 : ∀ k : Nat, k ≤ 3 → ∀ (M3 : MM) (v : Int), ((∀ i, i ≠ c → M3 i = M i) ∧ (∀ j, j ≠ 3 → M3 c j = M c j) ∧ M3 c 3 = sk (M (c + 1)) (M c 0) (M c 3) + k ∧ nmF (M (c + 1)) (M c 0) (3 - k) (sk (M (c + 1)) (M c 0) (M c 3) + k) v = nmF (M (c + 1)) (M c 0) 3 (sk (M (c + 1)) (M c 0) (M c 3)) 0 ∧ (k = 0 ∧ v = 0 ∨ k = 1 ∧ 0 ≤ v ∧ v < 10 ∨ k = 2 ∧ 0 ≤ v ∧ v < 100 ∨ k = 3 ∧ 0 ≤ v ∧ v < 1000) ∧ sk (M (c + 1)) (M c 0) (M c 3) + k ≤ M c 0) → J E X 49 [(0, .ref c), (1, vI w), (2, vI v), (3, vI (k : Int))] [] K M3 0 0 := by
            refine up_ind (3) (fun k hk49 ih49 => ?_)
            intro M3  v  hi49
            have e30 : M3 c 0 = M c 0 := hi49.2.1 0 (by decide)
            have e31 : M3 (c + 1) = M (c + 1) := hi49.1 _ (by omega)
            have hT3 : Txt M3 c := ht.fr e31 e30
            have v3 := hi49.2.2.1
            have hv3 := hi49.2.2.2.2
            refine J_iload_n hX dX4_readNumber_49 rfl ?_
            refine J_iconst hX dX4_readNumber_50 ?_
            refine J_icmp_ge hX 101 dX4_readNumber_51 (by omega) (by decide) (by decide) (fun c51 => ?_) (fun c51 => ?_)
            · have hend : nmF (M (c + 1)) (M c 0) 3 (sk (M (c + 1)) (M c 0) (M c 3)) 0 = (M3 c 3, v) := by
                rw [← hi49.2.2.2.1, ← v3]
                first
                  | (rw [nmF_stop]; intro q; exact c65 ((bA_dg (by omega)).2 (by rw [e30, e31]; exact q)))
                  | (rw [show 3 - k = 0 by omega]; rfl)
              refine J_aload_n hX dX4_readNumber_101 rfl ?_
              refine J_gr hX (c + 2) fr_RX4_15 dX4_readNumber_102 (show K (c) = 4 from hc.1) rfl ?_
              refine J_iload_n hX dX4_readNumber_105 rfl ?_
              refine J_iload_n hX dX4_readNumber_106 rfl ?_
              refine J_istA hX dX4_readNumber_107 (show K (c + 2) = 1000 + 6 from hc.2.2) ⟨by omega, by omega⟩ (by decide) (by omega) (fun m107 hm107 => ?_)
              have fm107 : ∀ i, i ≠ c + 2 → m107 i = M3 i := fun i h => by rw [hm107]; exact mset_ne h
              have gm107 : ∀ i j, j ≠ w → m107 i j = M3 i j := fun i j h => by rw [hm107]; exact mset_nj h
              have vm107 := (congrFun (congrFun hm107 (c + 2)) (w)).trans mset_eq
              refine J_iconst hX dX4_readNumber_108 ?_
              exact J_zret hX hQ dX4_readNumber_109 (Or.inr rfl) ⟨rfl, by rw [bI_t hyes], fun i h1 h2 => by rw [fm107 i h2]; exact hi49.1 i h1, fun k hk => by rw [fm107 c (by omega)]; exact hi49.2.1 k hk, by rw [fm107 c (by omega)]; unfold rnE numE; rw [if_pos hyes, hend], fun _ => by rw [vm107]; unfold rnV numV; rw [hend], fun k hk => by rw [gm107 _ k hk, hi49.1 _ (by omega)]⟩ (Nat.zero_le _) (Nat.zero_le _)
            · refine J_aload_n hX dX4_readNumber_54 rfl ?_
              refine J_aload_n hX dX4_readNumber_55 rfl ?_
              refine J_geti hX fi_RX4_22 dX4_readNumber_56 (show K (c) = 4 from hc.1) (fun r56 => ?_)
              refine J_callVI hX _ dX4_readNumber_59 cw_RX4_25 (m_X4_byteAt hc hT3 (by omega)) ⟨(show K (c) = 4 from hc.1), by decide, by decide, rfl⟩ rfl (Nat.le_of_ble_eq_true rfl) (by decide) ⟨Nat.zero_le _, Nat.zero_le _⟩ (fun r59 => ?_)
              refine J_callSB hX _ dX4_readNumber_62 cw_RX4_77 (m_X4_isDigit (by omega)) rfl (Nat.le_of_ble_eq_true rfl) (by decide) ⟨Nat.zero_le _, Nat.zero_le _⟩ ?_
              refine J_ifb_eq hX 101 dX4_readNumber_65 (by decide) (fun c65 => ?_) (fun c65 => ?_)
              · have hend : nmF (M (c + 1)) (M c 0) 3 (sk (M (c + 1)) (M c 0) (M c 3)) 0 = (M3 c 3, v) := by
                  rw [← hi49.2.2.2.1, ← v3]
                  first
                    | (rw [nmF_stop]; intro q; exact c65 ((bA_dg (by omega)).2 (by rw [e30, e31]; exact q)))
                    | (rw [show 3 - k = 0 by omega]; rfl)
                refine J_aload_n hX dX4_readNumber_101 rfl ?_
                refine J_gr hX (c + 2) fr_RX4_15 dX4_readNumber_102 (show K (c) = 4 from hc.1) rfl ?_
                refine J_iload_n hX dX4_readNumber_105 rfl ?_
                refine J_iload_n hX dX4_readNumber_106 rfl ?_
                refine J_istA hX dX4_readNumber_107 (show K (c + 2) = 1000 + 6 from hc.2.2) ⟨by omega, by omega⟩ (by decide) (by omega) (fun m107 hm107 => ?_)
                have fm107 : ∀ i, i ≠ c + 2 → m107 i = M3 i := fun i h => by rw [hm107]; exact mset_ne h
                have gm107 : ∀ i j, j ≠ w → m107 i j = M3 i j := fun i j h => by rw [hm107]; exact mset_nj h
                have vm107 := (congrFun (congrFun hm107 (c + 2)) (w)).trans mset_eq
                refine J_iconst hX dX4_readNumber_108 ?_
                exact J_zret hX hQ dX4_readNumber_109 (Or.inr rfl) ⟨rfl, by rw [bI_t hyes], fun i h1 h2 => by rw [fm107 i h2]; exact hi49.1 i h1, fun k hk => by rw [fm107 c (by omega)]; exact hi49.2.1 k hk, by rw [fm107 c (by omega)]; unfold rnE numE; rw [if_pos hyes, hend], fun _ => by rw [vm107]; unfold rnV numV; rw [hend], fun k hk => by rw [gm107 _ k hk, hi49.1 _ (by omega)]⟩ (Nat.zero_le _) (Nat.zero_le _)
              · have hd2 := (bA_dg (by omega)).1 c65
                rw [v3, e30, e31] at hd2
                have hbv : bA (M3 (c + 1)) (M3 c 0) (M3 c 3) = M (c + 1) (sk (M (c + 1)) (M c 0) (M c 3) + k) := by rw [bA_in (by omega), e31, v3]
                refine J_bipush hX dX4_readNumber_68 rfl ?_
                refine J_iload_n hX dX4_readNumber_70 rfl ?_
                refine J_imul hX dX4_readNumber_71 ?_
                refine J_aload_n hX dX4_readNumber_72 rfl ?_
                refine J_aload_n hX dX4_readNumber_73 rfl ?_
                refine J_geti hX fi_RX4_22 dX4_readNumber_74 (show K (c) = 4 from hc.1) (fun r74 => ?_)
                refine J_callVI hX _ dX4_readNumber_77 cw_RX4_25 (m_X4_byteAt hc hT3 (by omega)) ⟨(show K (c) = 4 from hc.1), by decide, by decide, rfl⟩ rfl (Nat.le_of_ble_eq_true rfl) (by decide) ⟨Nat.zero_le _, Nat.zero_le _⟩ (fun r77 => ?_)
                refine J_iadd hX dX4_readNumber_80 ?_
                refine J_bipush hX dX4_readNumber_81 rfl ?_
                refine J_isub hX dX4_readNumber_83 ?_
                rw [hbv]
                refine J_istore_n hX dX4_readNumber_84 (by decide) ?_
                refine J_aload_n hX dX4_readNumber_85 rfl ?_
                refine J_dup hX dX4_readNumber_86 rfl ?_
                refine J_geti hX fi_RX4_22 dX4_readNumber_87 (show K (c) = 4 from hc.1) (fun r87 => ?_)
                refine J_iconst hX dX4_readNumber_90 ?_
                refine J_iadd hX dX4_readNumber_91 ?_
                refine J_putA hX fw_RX4_22 dX4_readNumber_92 (show K (c) = 4 from hc.1) (by omega) (Or.inl rfl) (fun m92 hm92 => ?_)
                have fm92 : ∀ i, i ≠ c → m92 i = M3 i := fun i h => by rw [hm92]; exact mset_ne h
                have gm92 : ∀ i j, j ≠ 3 → m92 i j = M3 i j := fun i j h => by rw [hm92]; exact mset_nj h
                have vm92 := (congrFun (congrFun hm92 (c)) 3).trans mset_eq
                refine J_iinc hX dX4_readNumber_95 rfl (by decide) ?_
                refine J_goto hX 49 dX4_readNumber_98 (by decide) ?_
                exact J_locI (ih49 (k + 1) (by omega) (by omega) _ _ ⟨fun i hi => by rw [fm92 i hi]; exact hi49.1 i hi, fun j hj => by rw [gm92 _ j hj]; exact hi49.2.1 j hj, by rw [vm92, v3]; omega, by rw [← hi49.2.2.2.1, show 3 - k = (3 - (k + 1)) + 1 by omega, nmF_go hd2, show sk (M (c + 1)) (M c 0) (M c 3) + (k : Int) + 1 = sk (M (c + 1)) (M c 0) (M c 3) + ((k + 1 : Nat) : Int) by omega], by omega, by omega⟩) rfl
          exact J_locI (HL49 0 (Nat.zero_le _) _ 0 ⟨fM16, gM16, by rw [vM16]; omega, by rw [show sk (M (c + 1)) (M c 0) (M c 3) + ((0 : Nat) : Int) = sk (M (c + 1)) (M c 0) (M c 3) by omega], Or.inl ⟨rfl, rfl⟩, by omega⟩) rfl
        · exfalso; omega
  · have hno : ¬ rnO (M (c + 1)) (M c 0) (M c 3) := fun q => c10 ((bA_eq (by decide) ha.1).2 q.1)
    have hE : rnE (M (c + 1)) (M c 0) (M c 3) = M c 3 := by unfold rnE; rw [if_neg hno, sk_stop (fun q => c10 ((bA_eq (by decide) ha.1).2 q))]
    refine J_iconst hX dX4_readNumber_13 ?_
    exact J_zret hX hQ dX4_readNumber_14 (Or.inl rfl) ⟨rfl, by rw [bI_f hno], fun _ _ _ => rfl, fun _ _ => rfl, hE.symm, fun q => absurd q hno, fun _ _ => rfl⟩ (Nat.zero_le _) (Nat.zero_le _)
