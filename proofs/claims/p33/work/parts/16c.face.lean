theorem KeptX.stage {n : Nat} {K K2 : Nat → Nat} {M M2 : MM} {x : Nat} (h : KeptX n K M x K2 M2) : ∀ k, k < 16 → M2 (x + 3 + k) = M (x + 3 + k) := fun k hk => h.2.2.2.2.1 _ (by omega) (by omega) (by omega) (by omega)
theorem KeptX.eye {n : Nat} {K K2 : Nat → Nat} {M M2 : MM} {x : Nat} (h : KeptX n K M x K2 M2) (hX0 : EyeK K x) : EyeK K2 x := by
  have e : ∀ i, i < x + 60 → K2 i = K i := fun i hi => h.2.1 i (by omega)
  obtain ⟨a1, a2, a3, a4, a5⟩ := hX0
  exact ⟨by rw [e _ (by omega)]; exact a1, fun j hj => by rw [e _ (by omega)]; exact a2 j hj, fun j hj => by rw [e _ (by omega)]; exact a3 j hj, ⟨by rw [e _ (by omega)]; exact a4.1, by rw [e _ (by omega)]; exact a4.2⟩, by rw [e _ (by omega)]; exact a5.1, by rw [e _ (by omega)]; exact a5.2.1, by rw [e _ (by omega)]; exact a5.2.2⟩
set_option maxHeartbeats 4000000 in
theorem m_X9_clearTitle {E : EE} {K : Nat → Nat} {M : MM} {n x : Nat} (hX0 : EyeK K x) (hV : HV n K M (x + 55) (x + 60)) (hC : Cl K M) : Cn E 6 yX9_clearTitle cX9_clearTitle 1 (some .int) [.ref x] K M (fun r K' M' => r = some (vI (M (x + 3) 7)) ∧ ∃ M1, KeptX n K M x K' M1 ∧ M' = entM M1 (x + 3) 0 0 0) 16 233 := by
  refine Cn_ofC RX9 (plainFor_of_name (by decide)) rfl (Nat.le_of_ble_eq_true rfl) (fun X hX hQ hXK hXN => ?_)
  refine J_aload_n hX dX9_clearTitle_0 rfl ?_
  refine J_callVK hX _ dX9_clearTitle_1 cw_RX9_55 (m_X9_keepState hX0 hV hC) ⟨hX0.1, by decide, by decide, rfl⟩ rfl (Nat.le_of_ble_eq_true rfl) (by decide) (by decide) (Or.inl hXK) ⟨by rw [hX0.1]; decide, trivial⟩ trivial (fun r K2 M2 h9 i hi => by rw [h9.2.1 i hi]; exact hi) (fun r K2 M2 h1 => ?_)
  obtain ⟨rfl, hk⟩ := h1
  have hX2 := hk.eye hX0
  refine J_aload_n hX dX9_clearTitle_4 rfl ?_
  refine J_gr hX (x + 3) fr_RX9_20 dX9_clearTitle_5 hX2.1 rfl ?_
  refine J_iconst hX dX9_clearTitle_8 ?_
  refine J_iconst hX dX9_clearTitle_9 ?_
  refine J_iconst hX dX9_clearTitle_10 ?_
  refine J_callVM hX _ dX9_clearTitle_11 cw_RX9_122 (m_X5_entitle hX2.stage (by decide) (by decide) (by decide)) ⟨hX2.stage 0 (by decide), by decide, by decide, rfl⟩ rfl (Nat.le_of_ble_eq_true rfl) (by decide) ⟨by decide, by decide⟩ (fun r9 M3 q2 => ?_)
  obtain ⟨rfl, rfl⟩ := q2
  have e7 := congrFun (hk.stage 0 (by decide)) 7
  exact J_iret hX hQ dX9_clearTitle_14 ⟨by rw [show M2 (x + 3) 7 = M (x + 3) 7 from e7], M2, hk, rfl⟩ (by decide) (by decide)
