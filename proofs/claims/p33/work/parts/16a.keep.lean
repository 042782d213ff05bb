/-! keepState, freshView -/
/-- an EyeStage at x -/
def EyeK (K : Nat → Nat) (x : Nat) : Prop := K x = 8 ∧ ViewK K (x + 1) ∧ ViewK K (x + 28) ∧ (K (x + 55) = 1 ∧ K (x + 56) = 10) ∧ K (x + 57) = 4 ∧ K (x + 58) = 1000 + 150 ∧ K (x + 59) = 1000 + 6
theorem EyeK.stage {K : Nat → Nat} {x : Nat} (h : EyeK K x) : StageK K (x + 3) := ViewK.stage h.2.1
/-- what keepState does -/
def KeptX (n : Nat) (K : Nat → Nat) (M : MM) (x : Nat) (K2 : Nat → Nat) (M2 : MM) : Prop := (∀ i, K i ≠ 0 → K2 i = K i) ∧ (∀ i, i < x + 60 ∨ x + 124 ≤ i → K2 i = K i) ∧ Cl K2 M2 ∧ (∃ n', n ≤ n' ∧ HV n' K2 M2 (x + 55) (x + 60)) ∧ (∀ i, i ≠ x → i ≠ x + 55 → i ≠ x + 56 → (i < x + 60 ∨ x + 124 ≤ i) → M2 i = M i) ∧
  (∀ j, j ≠ 6 → M2 x j = M x j) ∧ M2 x 6 = 1 ∧ (∀ j, j ≠ 0 → M2 (x + 55) j = M (x + 55) j) ∧ Svd M M2 (x + 55) (x + 3)
set_option maxHeartbeats 4000000 in
set_option maxRecDepth 100000 in
theorem m_X9_keepState {E : EE} {K : Nat → Nat} {M : MM} {n x : Nat} (hX0 : EyeK K x) (hV : HV n K M (x + 55) (x + 60)) (hC : Cl K M) : Cn E 5 yX9_keepState cX9_keepState 1 none [.ref x] K M (fun r K' M' => r = none ∧ KeptX n K M x K' M') 16 233 := by
  refine Cn_ofC RX9 (plainFor_of_name (by decide)) rfl (Nat.le_of_ble_eq_true rfl) (fun X hX hQ hXK hXN => ?_)
  have hx8 := hX0.1
  refine J_aload_n hX dX9_keepState_0 rfl ?_
  refine J_gr hX (x + 55) fr_RX9_30 dX9_keepState_1 hx8 rfl ?_
  refine J_aload_n hX dX9_keepState_4 rfl ?_
  refine J_gr hX (x + 3) fr_RX9_20 dX9_keepState_5 hx8 rfl ?_
  refine J_callVK hX _ dX9_keepState_8 cw_RX9_249 (m_X1_save hX0.2.2.2.1 hX0.stage hV (by omega) (by omega) hC) ⟨hX0.2.2.2.1.1, by decide, by decide, rfl⟩ rfl (Nat.le_of_ble_eq_true rfl) (by decide) (by decide) (Or.inl hXK) ⟨by rw [hx8]; decide, trivial⟩ trivial (fun r K2 M2 h9 i hi => by rw [h9.2.1 i hi]; exact hi) (fun r K2 M2 h8 => ?_)
  obtain ⟨rfl, a1, a2, a3, ⟨n', b1, b2⟩, a4, a5, z, c, s1, s2, s3, s4⟩ := h8
  have hx2 : K2 x = 8 := (a1 x (by rw [hx8]; decide)).trans hx8
  refine J_aload_n hX dX9_keepState_11 rfl ?_
  refine J_iconst hX dX9_keepState_12 ?_
  refine J_putA hX fw_RX9_41 dX9_keepState_13 hx2 (by decide) (Or.inr ⟨rfl, Or.inr rfl⟩) (fun M3 hM3 => ?_)
  have f3 : ∀ i, i ≠ x → M3 i = M2 i := fun i hi => by rw [hM3]; exact mset_ne hi
  have hC3 : Cl K2 M3 := by rw [hM3]; exact Cl_puti a3 (by rw [hx2]; decide) (by decide)
  obtain ⟨w1, w2, w3, w4, w5, w6⟩ := b2
  have slot : ∀ j : Int, 0 ≤ j → j < c + 1 → ∃ q : Nat, M2 (x + 55 + 1) j = ((x + 60 + 16 * q : Nat) : Int) := fun j j0 j1 => by
    obtain ⟨q, -, q2⟩ := w3.1 j j0 (by omega)
    exact ⟨q, q2⟩
  have e56 : M3 (x + 55 + 1) = M2 (x + 55 + 1) := f3 _ (by omega)
  have hv := hV.2.1
  refine J_vret hX hQ dX9_keepState_16 ⟨rfl, a1, fun i hi => a2 i (by omega), hC3, ⟨n', b1, w1, by rw [f3 _ (by omega)]; exact w2, w3.fr e56, w4, w5, w6⟩, fun i i1 i2 i3 i4 => by rw [f3 i i1]; exact a4 i i2 i3 (by omega), fun j hj => by rw [hM3, mset_nj hj]; exact congrFun (a4 x (by omega) (by omega) (by omega)) j, by rw [hM3]; exact mset_eq, fun j hj => by rw [f3 _ (by omega)]; exact a5 j hj, z, c, s1, by rw [f3 _ (by omega)]; exact s2, fun j j0 j1 => ?_, ?_⟩ (by decide) (by decide)
  · rw [e56]
    refine ⟨(s3 j j0 j1).1, fun k hk => ?_⟩
    obtain ⟨q, hq⟩ := slot j j0 (by omega)
    rw [f3 _ (by rw [hq, Int.toNat_natCast]; omega)]
    exact (s3 j j0 j1).2 k hk
  · rw [e56]
    intro k hk hk1
    obtain ⟨q, hq⟩ := slot c (by omega) (by omega)
    rw [f3 _ (by rw [hq, Int.toNat_natCast]; omega)]
    exact s4 k hk hk1
/-- the view is measured, if it isn't stale -/
def Frs (M : MM) (x : Nat) : Prop := M x 6 = 1 ∨ M x 6 = 0 ∧ Vwt M (x + 1) (stg M (x + 3)) ∧ HOK M (x + 1) (stg M (x + 3))
/-- after a look at the view: what may have changed -/
def Lkd (M : MM) (x : Nat) (M2 : MM) : Prop := (∀ i, i ≠ x → i ≠ x + 1 → i ≠ x + 2 → (i < x + 19 ∨ x + 27 < i) → M2 i = M i) ∧ (∀ j, j ≠ 6 → M2 x j = M x j) ∧ M2 x 6 = 0 ∧ Vwt M2 (x + 1) (stg M (x + 3)) ∧ HOK M2 (x + 1) (stg M (x + 3)) ∧ stg M2 (x + 3) = stg M (x + 3)
set_option maxHeartbeats 4000000 in
set_option maxRecDepth 100000 in
theorem m_X9_freshView {E : EE} {K : Nat → Nat} {M : MM} {x : Nat} {T : Int} (hX0 : EyeK K x) (hW : WF T M (x + 3)) (hF : Frs M x) : CnM E 6 yX9_freshView cX9_freshView 1 (some (.object "EyeStage$View")) [.ref x] K M (fun r9 M2 => r9 = some (.ref (x + 1)) ∧ Lkd M x M2) := by
  refine Cn_of RX9 (plainFor_of_name (by decide)) rfl (Nat.le_of_ble_eq_true rfl) (fun X hX hQ => ?_)
  have hx8 := hX0.1
  have fin : ∀ M2, Lkd M x M2 → J E X 19 [(0, .ref x)] [] K M2 0 0 := by
    intro M2 h2
    refine J_aload_n hX dX9_freshView_19 rfl ?_
    refine J_gr hX (x + 1) fr_RX9_10 dX9_freshView_20 hx8 rfl ?_
    exact J_aret hX hQ dX9_freshView_23 ⟨rfl, rfl, h2⟩ (Nat.zero_le _) (Nat.zero_le _)
  refine J_aload_n hX dX9_freshView_0 rfl ?_
  refine J_geti hX fi_RX9_41 dX9_freshView_1 hx8 (fun r1 => ?_)
  refine J_if_eq hX 19 dX9_freshView_4 (by omega) (by decide) (fun c4 => ?_) (fun c4 => ?_)
  · rcases hF with h | ⟨h0, h1, h2⟩
    · omega
    · exact fin M ⟨fun _ _ _ _ _ => rfl, fun _ _ => rfl, h0, h1, h2, rfl⟩
  · refine J_aload_n hX dX9_freshView_7 rfl ?_
    refine J_gr hX (x + 1) fr_RX9_10 dX9_freshView_8 hx8 rfl ?_
    refine J_callVM hX _ dX9_freshView_11 cw_RX9_218 (m_X7_measure hX0.2.1 hW) ⟨hX0.2.1 0 (by decide), by decide, by decide, rfl⟩ rfl (Nat.le_of_ble_eq_true rfl) (by decide) ⟨Nat.zero_le _, Nat.zero_le _⟩ (fun r9 M2 q2 => ?_)
    obtain ⟨rfl, f2, w2, e2⟩ := q2
    refine J_aload_n hX dX9_freshView_14 rfl ?_
    refine J_iconst hX dX9_freshView_15 ?_
    refine J_putA hX fw_RX9_41 dX9_freshView_16 hx8 (by decide) (Or.inr ⟨rfl, Or.inl rfl⟩) (fun M3 hM3 => ?_)
    have f3 : ∀ i, i ≠ x → M3 i = M2 i := fun i hi => by rw [hM3]; exact mset_ne hi
    have fx := f2 x (by omega) (by omega) (by omega)
    refine fin M3 ⟨fun i i1 i2 i3 i4 => by rw [f3 i i1]; exact f2 i (by omega) (by omega) (by omega), fun j hj => by rw [hM3, mset_nj hj, fx], by rw [hM3]; exact mset_eq, ?_, ?_, ?_⟩
    · exact w2.fr (fun i i1 _ => f3 i (by omega)) (fun j _ => congrFun (f3 (x + 1) (by omega)) j)
    · exact Or.inl (by rw [f3 _ (by omega)]; exact e2)
    · exact stg_eq (fun k hk => by rw [f3 _ (by omega)]; exact f2 _ (by omega) (by omega) (by omega))
