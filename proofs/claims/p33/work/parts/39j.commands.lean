/-! runCommands of the class -/
def ScF (M M2 : MM) (c : Nat) : Prop := (∀ i, i ≠ c → i ≠ c + 2 → M2 i = M i) ∧ ∀ j, j ≠ 3 → j ≠ 4 → M2 c j = M c j
theorem HV.fr {n : Nat} {K : Nat → Nat} {M M2 : MM} {h s : Nat} (hV : HV n K M h s) (h0 : M2 h = M h) (h1 : M2 (h + 1) = M (h + 1)) : HV n K M2 h s := by
  unfold HV SL at hV ⊢
  rw [h0, h1]
  exact hV
def RunX (n : Nat) (K : Nat → Nat) (M : MM) (x : Nat) (T : Int) (r : Option Value) (K2 : Nat → Nat) (M2 : MM) : Prop :=
  (0 ≤ ff (M (x + 58)) (M (x + 57) 0) ∧ r = some (vI (-10 - ff (M (x + 58)) (M (x + 57) 0))) ∧ K2 = K ∧ ScF M M2 (x + 57)) ∨
  (ff (M (x + 58)) (M (x + 57) 0) < 0 ∧ ∃ M0 M1, ScF M M0 (x + 57) ∧ KeptX n K M0 x K2 M1 ∧ RnP M1 M2 (x + 57) (x + 1 + 2) T r)
set_option maxHeartbeats 4000000 in
theorem m_X9_runCommands {E : EE} {K : Nat → Nat} {M : MM} {n x : Nat} {T : Int} (hE : ∀ U, SF E U → CF E U) (hX0 : EyeK K x) (hW : WF T M (x + 1 + 2)) (hV : HV n K M (x + 55) (x + 60)) (hC : Cl K M) (hz : ∀ i, 1000000 ≤ i → K i = 0) (ht : Txt M (x + 57)) (hT : T + 30200 ≤ 1000000000) :
    Cn E 8 yX9_runCommands cX9_runCommands 2 (Option.some FieldType.int) [.ref x] K M (fun r K' M' => RunX n K M x T r K' M') 16 233 := by
  have hXa := hX0.all
  have hc0 : K (x + 57) = 4 ∧ K (x + 57 + 1) = 1000 + 150 ∧ K (x + 57 + 2) = 1000 + 6 := hX0.2.2.2.2
  have hx8 : K x = 8 := hX0.1
  have hfr := ff_rg (t := M (x + 58)) (n := M (x + 57) 0) ht.1.1
  have hn := ht.1
  refine Cn_ofC RX9 (plainFor_of_name (by decide)) rfl (Nat.le_of_ble_eq_true rfl) (fun X hX hQ hXK hXN => ?_)
  have clS : ∀ {K9 : Nat → Nat} {M9 M8 : MM}, EyeK K9 x → Cl K9 M9 → (∀ i, i ≠ x + 57 → i ≠ x + 59 → (i < x + 1 + 2 ∨ x + 1 + 2 + 16 ≤ i) → M8 i = M9 i) → Cl K9 M8 := by
    intro K9 M9 M8 e9 c9 h9
    refine Cl_same c9 (fun i hi => ?_)
    have ha := e9.all
    by_cases q : i = x + 57 ∨ i = x + 59 ∨ (x + 1 + 2 ≤ i ∧ i < x + 1 + 2 + 16)
    · have hk := ha (i - x) (by omega)
      rw [show x + (i - x) = i by omega] at hk
      have hd : ∀ j, (j = 57 ∨ j = 59 ∨ (3 ≤ j ∧ j < 19)) → (kXa j < 10 ∨ 1000 ≤ kXa j) := by
        intro j hj
        have hall : ∀ j : Fin 60, (j.val = 57 ∨ j.val = 59 ∨ (3 ≤ j.val ∧ j.val < 19)) → (kXa j.val < 10 ∨ 1000 ≤ kXa j.val) := by decide
        exact hall ⟨j, by omega⟩ hj
      have := hd (i - x) (by omega)
      rw [hk]; omega
    · exact Or.inr (Or.inr (h9 i (by omega) (by omega) (by omega)))
  refine J_aload_n hX dX9_runCommands_0 rfl ?_
  refine J_gr hX (x + 57) fr_RX9_37 dX9_runCommands_1 hx8 rfl ?_
  refine J_callVM hX _ dX9_runCommands_4 cw_RX9_226 (post := fun r M2 => r = some (vI (ff (M (x + 57 + 1)) (M (x + 57) 0))) ∧ ScF M M2 (x + 57)) (Cn_pin (m_X4_findFault hc0 ht hE) hz hC ⟨by rw [hc0.1]; decide, trivial⟩ (fun r K' M' h => ⟨h.1, clS hX0 hC (fun i h1 h2 _ => h.2.2.1 i h1 h2), by rw [h.2.1]; trivial⟩)) ⟨hc0.1, by decide, by decide, rfl⟩ rfl (Nat.le_of_ble_eq_true rfl) ⟨Nat.le_of_ble_eq_true rfl, by decide⟩ ⟨Nat.zero_le _, Nat.zero_le _⟩ (fun r9 M0 q0 => ?_)
  obtain ⟨rfl, hS0⟩ := q0
  have hff : i32 (ff (M (x + 58)) (M (x + 57) 0)) := by omega
  refine J_istore_n hX dX9_runCommands_7 (by decide) ?_
  refine J_iload_n hX dX9_runCommands_8 rfl ?_
  refine J_if_lt hX 17 dX9_runCommands_9 hff (by decide) (fun c9 => ?_) (fun c9 => ?_)
  · have c9' : ff (M (x + 58)) (M (x + 57) 0) < 0 := c9
    refine J_aload_n hX dX9_runCommands_17 rfl ?_
    have hV0 : HV n K M0 (x + 55) (x + 60) := hV.fr (hS0.1 _ (by omega) (by omega)) (hS0.1 _ (by omega) (by omega))
    have hC0 : Cl K M0 := clS hX0 hC (fun i h1 h2 _ => hS0.1 i h1 h2)
    refine J_keep hX hXK hX0 hV0 hC0 dX9_runCommands_18 (by decide) (by decide) ⟨by rw [hx8]; decide, trivial⟩ trivial (by decide) (fun K2 M1 hk => ?_)
    have hX2 := hk.eye hX0
    have hc2 : K2 (x + 57) = 4 ∧ K2 (x + 57 + 1) = 1000 + 150 ∧ K2 (x + 57 + 2) = 1000 + 6 := hX2.2.2.2.2
    have hx82 : K2 x = 8 := hX2.1
    have hs1 : stg M1 (x + 1 + 2) = stg M (x + 1 + 2) := stg_eq (fun j hj => by
      rw [hk.stage j hj]; exact hS0.1 _ (by omega) (by omega))
    have W1 : WF T M1 (x + 1 + 2) := by rw [WF_iS, hs1]; exact WF_iS.1 hW
    have h57 : ∀ j, 57 ≤ j → j < 60 → M1 (x + j) = M0 (x + j) := fun j h1 h2 => hk.2.2.2.2.1 _ (by omega) (by omega) (by omega) (by omega)
    have e57 : M1 (x + 57) = M0 (x + 57) := h57 57 (by decide) (by decide)
    have e58 : M1 (x + 57 + 1) = M0 (x + 57 + 1) := h57 58 (by decide) (by decide)
    have ht1 : Txt M1 (x + 57) := ht.fr (by rw [e58]; exact hS0.1 _ (by omega) (by omega)) (by rw [e57]; exact hS0.2 0 (by decide) (by decide))
    have hz2 : ∀ i, 1000000 ≤ i → K2 i = 0 := fun i hi => by rw [hk.2.1 i (Or.inr (by have := hV.2.2.2.2.2; omega))]; exact hz i hi
    refine J_aload_n hX dX9_runCommands_21 rfl ?_
    refine J_gr hX (x + 57) fr_RX9_37 dX9_runCommands_22 hx82 rfl ?_
    refine J_aload_n hX dX9_runCommands_25 rfl ?_
    refine J_gr hX (x + 1 + 2) fr_RX9_20 dX9_runCommands_26 hx82 rfl ?_
    have hst2 : StageK K2 (x + 1 + 2) := hX2.stage
    refine J_callVM hX _ dX9_runCommands_29 cw_RX9_229 (As := [.ref (x + 1 + 2)]) (post := fun r M2 => RnP M1 M2 (x + 57) (x + 1 + 2) T r) (Cn_pin (m_X4_runOn hc2 hst2 W1 (Or.inr (by omega)) ht1 hE hT) hz2 hk.2.2.1 ⟨by rw [hc2.1]; decide, by have := hst2 0 (by decide); rw [Nat.add_zero] at this; rw [this]; decide, trivial⟩ (fun r K' M' h => by
        obtain ⟨rfl, dd, rfl, h2, h3, h4, h5, h6⟩ := h
        exact ⟨rfl, clS hX2 hk.2.2.1 (fun i h1 h2 h3 => h5 i h3 h1 h2), trivial⟩)) ⟨hc2.1, by decide, by decide, rfl⟩ rfl (Nat.le_of_ble_eq_true rfl) ⟨Nat.le_of_ble_eq_true rfl, by decide⟩ ⟨by decide, by decide⟩ (fun r9 M2 q2 => ?_)
    have q3 := q2
    obtain ⟨dd, rfl, -⟩ := q3
    exact J_iret hX hQ dX9_runCommands_32 (Or.inr ⟨c9', M0, M1, hS0, hk, q2⟩) (by decide) (by decide)
  · refine J_bipush hX dX9_runCommands_12 rfl ?_
    refine J_iload_n hX dX9_runCommands_14 rfl ?_
    refine J_isub hX dX9_runCommands_15 ?_
    have c9' : ¬ ff (M (x + 58)) (M (x + 57) 0) < 0 := c9
    exact J_iret hX hQ dX9_runCommands_16 (Or.inl ⟨by omega, rfl, rfl, hS0⟩) (Nat.zero_le _) (Nat.zero_le _)

