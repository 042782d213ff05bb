/-! the law's small methods: each calls a face and answers by a number which throw it was; what is to stand after the call is left open -/
theorem cl_RL_15 : Cond.classLink RL 15 xIA ∈ tb := inT 642 (by decide +kernel)
theorem cl_RL_22 : Cond.classLink RL 22 xIO ∈ tb := inT 756 (by decide +kernel)
theorem cl_RL_25 : Cond.classLink RL 25 xIS ∈ tb := inT 757 (by decide +kernel)
theorem kI_7 : Cond.constant RL 7 (Int32.ofInt (1942342585)) ∈ tb := inT 634 (by decide +kernel)
theorem kI_8 : Cond.constant RL 8 (Int32.ofInt (2147483647)) ∈ tb := inT 638 (by decide +kernel)
theorem kI_17 : Cond.constant RL 17 (Int32.ofInt (-90100)) ∈ tb := inT 752 (by decide +kernel)
theorem kI_24 : Cond.constant RL 24 (Int32.ofInt (-90300)) ∈ tb := inT 764 (by decide +kernel)
theorem kI_27 : Cond.constant RL 27 (Int32.ofInt (-90200)) ∈ tb := inT 765 (by decide +kernel)
abbrev dNo : UInt64 := 13904313818814611456
theorem kD_87 : Cond.constantDouble RL 87 dNo ∈ tb := inT 1140 (by decide +kernel)
theorem f2l_c {p q c : Int} (h : f2l p q = c) (hc : c ≠ 0) : p = c ∨ q = c := by
  unfold f2l at h
  split at h
  · exact Or.inr h
  · exact Or.inl h
/-- a refusal's number -/
def fK (f : Int) : Int := if f = 1 then -90300 else if f = 2 then -90100 else -90200

abbrev hh_begin : List (Nat × Nat × Nat × Nat) := [(0, 6, 7, 15)]
theorem cd_L_begin : Cond.codeWith yL_begin cL_begin 4 (some .int) hh_begin ∈ tb := inT 641 (by decide +kernel)
theorem cwL_begin : CWH RL 136 yL_begin cL_begin 4 (some .int) hh_begin 3 := ⟨ml_RL_136, sm_L_begin, in_RL, cd_L_begin, by decide +kernel⟩
set_option maxHeartbeats 4000000 in
set_option maxRecDepth 100000 in
theorem m_L_begin {E : EE} {K : Nat → Nat} {M : MM} {x : Nat} {T : Int} {n : Nat} {w h : Int} (hE9 : ∀ U, SF E U → ThF E U ∧ NcF U) (hX0 : EyeK K x) (hW : WF T M (x + 1 + 2)) (hV : HV n K M (x + 55) (x + 60)) (hC : Cl K M) (hw : i32 w) (hh : i32 h) {pst : Option Value → (Nat → Nat) → MM → Prop} (hpo : ∀ r K2 M2, (fun r K' M' => (if (20 ≤ w ∧ w ≤ 200) ∧ (10 ≤ h ∧ h ≤ 120) then 0 else 2) = (0 : Int) ∧ r = some (vI (M (x + 1 + 2 + 11) 1)) ∧ ∃ M1, KeptX n K M x K' M1 ∧ M' = begM M1 (x + 1 + 2) w h) r K2 M2 → pst r K2 M2) (hno : (((if (20 ≤ w ∧ w ≤ 200) ∧ (10 ≤ h ∧ h ≤ 120) then 0 else 2)) : Int) ≠ 0 → pst (some (vI (fK ((if (20 ≤ w ∧ w ≤ 200) ∧ (10 ≤ h ∧ h ≤ 120) then 0 else 2))))) K M) : CnH E 9 yL_begin cL_begin 4 (some .int) hh_begin [.ref x, vI w, vI h] K M pst 40 240 := by
  have hx8 : K x ≠ 0 := by rw [hX0.1]; decide
  refine CnH_of RL (by decide) rfl (Nat.le_of_ble_eq_true rfl) (fun X hX hQ hXK hH => ?_)
  refine J_aload_n hX dL_begin_0 rfl ?_
  refine J_iload_n hX dL_begin_1 rfl ?_
  refine J_iload_n hX dL_begin_2 rfl ?_
  refine J_callVH hX hH hXK hE9 [] dL_begin_3 cw_RL_9 (m_X9_begin (fun U h => (hE9 U h).1) hX0 hW hV hC hw hh) ⟨hX0.1, by decide, by decide, rfl⟩ rfl (Nat.le_of_ble_eq_true rfl) ⟨by decide, by decide⟩ ⟨Nat.le_of_ble_eq_true rfl, Nat.le_of_ble_eq_true rfl⟩ ⟨hx8, trivial⟩ trivial (fun _ _ _ h i hi => by obtain ⟨M9, hk9, -⟩ := h.2.2; rw [hk9.1 i hi]; exact hi) (fun nm h => ?_) (fun r K2 M2 h => ?_)
  · rcases h with ⟨h1, rfl⟩ | ⟨h1, rfl⟩ | ⟨h1, rfl⟩
    · exact absurd h1 (by (repeat' split) <;> decide)
    · refine ⟨7, 3, 1, ⟨by decide, tableOf [], ⟨0, 6, 7, 15⟩, tableOf [], rfl, (fun z hz => nomatch hz), by decide, by decide, cl_RL_15, rfl⟩, ⟨Or.inr ⟨3, dL_begin_7, rfl, rfl⟩, by decide⟩, ?_⟩
      refine J_ldcI hX kI_17 dL_begin_8 ?_
      have hn := hno (by rw [h1]; decide)
      rw [h1] at hn
      exact J_iret hX hQ dL_begin_10 hn (Nat.le_of_ble_eq_true rfl) (Nat.le_of_ble_eq_true rfl)
    · exact absurd h1 (by (repeat' split) <;> decide)
  · have hr := h.2.1
    subst hr
    exact J_iret hX hQ dL_begin_6 (hpo _ _ _ h) (Nat.le_of_ble_eq_true rfl) (Nat.le_of_ble_eq_true rfl)
abbrev hh_addGroup : List (Nat × Nat × Nat × Nat) := [(0, 9, 10, 22), (0, 9, 15, 15), (0, 9, 20, 25)]
theorem cd_L_addGroup : Cond.codeWith yL_addGroup cL_addGroup 6 (some .int) hh_addGroup ∈ tb := inT 755 (by decide +kernel)
theorem cwL_addGroup : CWH RL 138 yL_addGroup cL_addGroup 6 (some .int) hh_addGroup 5 := ⟨ml_RL_138, sm_L_addGroup, in_RL, cd_L_addGroup, by decide +kernel⟩
set_option maxHeartbeats 4000000 in
set_option maxRecDepth 100000 in
theorem m_L_addGroup {E : EE} {K : Nat → Nat} {M : MM} {x : Nat} {T : Int} {n : Nat} {p u v w : Int} (hE9 : ∀ U, SF E U → ThF E U ∧ NcF U) (hX0 : EyeK K x) (hW : WF T M (x + 1 + 2)) (hV : HV n K M (x + 55) (x + 60)) (hC : Cl K M) (hp : i32 p) (hu : i32 u) (hv : i32 v) (hw : i32 w) {pst : Option Value → (Nat → Nat) → MM → Prop} (hpo : ∀ r K2 M2, (fun r K' M' => (fG M (x + 1 + 2) p u v w) = (0 : Int) ∧ r = some (vI (M (x + 1 + 2 + 1) 0)) ∧ ∃ M1, KeptX n K M x K' M1 ∧ M' = addM M1 (x + 1 + 2) p u v w 0 0) r K2 M2 → pst r K2 M2) (hno : (((fG M (x + 1 + 2) p u v w)) : Int) ≠ 0 → pst (some (vI (fK ((fG M (x + 1 + 2) p u v w))))) K M) : CnH E 9 yL_addGroup cL_addGroup 6 (some .int) hh_addGroup [.ref x, vI p, vI u, vI v, vI w] K M pst 40 240 := by
  have hx8 : K x ≠ 0 := by rw [hX0.1]; decide
  refine CnH_of RL (by decide) rfl (Nat.le_of_ble_eq_true rfl) (fun X hX hQ hXK hH => ?_)
  refine J_aload_n hX dL_addGroup_0 rfl ?_
  refine J_iload_n hX dL_addGroup_1 rfl ?_
  refine J_iload_n hX dL_addGroup_2 rfl ?_
  refine J_iload_n hX dL_addGroup_3 rfl ?_
  refine J_iload hX dL_addGroup_4 rfl ?_
  refine J_callVH hX hH hXK hE9 [] dL_addGroup_6 cw_RL_18 (m_X9_addGroup (fun U h => (hE9 U h).1) hX0 hW hV hC hp hu hv hw) ⟨hX0.1, by decide, by decide, rfl⟩ rfl (Nat.le_of_ble_eq_true rfl) ⟨by decide, by decide⟩ ⟨Nat.le_of_ble_eq_true rfl, Nat.le_of_ble_eq_true rfl⟩ ⟨hx8, trivial⟩ trivial (fun _ _ _ h i hi => by obtain ⟨M9, hk9, -⟩ := h.2.2; rw [hk9.1 i hi]; exact hi) (fun nm h => ?_) (fun r K2 M2 h => ?_)
  · rcases h with ⟨h1, rfl⟩ | ⟨h1, rfl⟩ | ⟨h1, rfl⟩
    · refine ⟨10, 5, 2, ⟨by decide, tableOf [], ⟨0, 9, 10, 22⟩, tableOf [(0, 9, 15, 15), (0, 9, 20, 25)], rfl, (fun z hz => nomatch hz), by decide, by decide, cl_RL_22, rfl⟩, ⟨Or.inl ⟨dL_addGroup_10, rfl⟩, by decide⟩, ?_⟩
      refine J_ldcI hX kI_24 dL_addGroup_12 ?_
      have hn := hno (by rw [h1]; decide)
      rw [h1] at hn
      exact J_iret hX hQ dL_addGroup_14 hn (Nat.le_of_ble_eq_true rfl) (Nat.le_of_ble_eq_true rfl)
    · refine ⟨15, 5, 2, ⟨by decide, tableOf [(0, 9, 10, 22)], ⟨0, 9, 15, 15⟩, tableOf [(0, 9, 20, 25)], rfl, (fun z hz => by rcases List.mem_singleton.mp hz with rfl; exact ⟨by decide, xIO, cl_RL_22, ⟨by decide, by decide, by decide⟩⟩), by decide, by decide, cl_RL_15, rfl⟩, ⟨Or.inl ⟨dL_addGroup_15, rfl⟩, by decide⟩, ?_⟩
      refine J_ldcI hX kI_17 dL_addGroup_17 ?_
      have hn := hno (by rw [h1]; decide)
      rw [h1] at hn
      exact J_iret hX hQ dL_addGroup_19 hn (Nat.le_of_ble_eq_true rfl) (Nat.le_of_ble_eq_true rfl)
    · have hpr : ∀ z ∈ tableOf [(0, 9, 10, 22), (0, 9, 15, 15)], z.catchType ≠ 0 ∧ ∃ nm2, Cond.classLink RL z.catchType nm2 ∈ tb ∧ ncq xIS nm2 := by
        intro z hz
        rcases List.mem_cons.mp hz with rfl | hz
        · exact ⟨by decide, xIO, cl_RL_22, ⟨by decide, by decide, by decide⟩⟩
        · rcases List.mem_singleton.mp hz with rfl
          exact ⟨by decide, xIA, cl_RL_15, ⟨by decide, by decide, by decide⟩⟩
      refine ⟨20, 5, 2, ⟨by decide, tableOf [(0, 9, 10, 22), (0, 9, 15, 15)], ⟨0, 9, 20, 25⟩, tableOf [], rfl, hpr, by decide, by decide, cl_RL_25, rfl⟩, ⟨Or.inl ⟨dL_addGroup_20, rfl⟩, by decide⟩, ?_⟩
      refine J_ldcI hX kI_27 dL_addGroup_22 ?_
      have hn := hno (by rw [h1]; decide)
      rw [h1] at hn
      exact J_iret hX hQ dL_addGroup_24 hn (Nat.le_of_ble_eq_true rfl) (Nat.le_of_ble_eq_true rfl)
  · have hr := h.2.1
    subst hr
    exact J_iret hX hQ dL_addGroup_9 (hpo _ _ _ h) (Nat.le_of_ble_eq_true rfl) (Nat.le_of_ble_eq_true rfl)
abbrev hh_addBox : List (Nat × Nat × Nat × Nat) := [(0, 13, 14, 22), (0, 13, 19, 15), (0, 13, 24, 25)]
theorem cd_L_addBox : Cond.codeWith yL_addBox cL_addBox 8 (some .int) hh_addBox ∈ tb := inT 768 (by decide +kernel)
theorem cwL_addBox : CWH RL 141 yL_addBox cL_addBox 8 (some .int) hh_addBox 7 := ⟨ml_RL_141, sm_L_addBox, in_RL, cd_L_addBox, by decide +kernel⟩
set_option maxHeartbeats 4000000 in
set_option maxRecDepth 100000 in
theorem m_L_addBox {E : EE} {K : Nat → Nat} {M : MM} {x : Nat} {T : Int} {n : Nat} {p u v w wd hg : Int} (hE9 : ∀ U, SF E U → ThF E U ∧ NcF U) (hX0 : EyeK K x) (hW : WF T M (x + 1 + 2)) (hV : HV n K M (x + 55) (x + 60)) (hC : Cl K M) (hp : i32 p) (hu : i32 u) (hv : i32 v) (hw : i32 w) (hwd : i32 wd) (hhg : i32 hg) {pst : Option Value → (Nat → Nat) → MM → Prop} (hpo : ∀ r K2 M2, (fun r K' M' => (fB M (x + 1 + 2) p u v w wd hg) = (0 : Int) ∧ r = some (vI (M (x + 1 + 2 + 1) 0)) ∧ ∃ M1, KeptX n K M x K' M1 ∧ M' = addM M1 (x + 1 + 2) p u v w wd hg) r K2 M2 → pst r K2 M2) (hno : (((fB M (x + 1 + 2) p u v w wd hg)) : Int) ≠ 0 → pst (some (vI (fK ((fB M (x + 1 + 2) p u v w wd hg))))) K M) : CnH E 9 yL_addBox cL_addBox 8 (some .int) hh_addBox [.ref x, vI p, vI u, vI v, vI w, vI wd, vI hg] K M pst 40 240 := by
  have hx8 : K x ≠ 0 := by rw [hX0.1]; decide
  refine CnH_of RL (by decide) rfl (Nat.le_of_ble_eq_true rfl) (fun X hX hQ hXK hH => ?_)
  refine J_aload_n hX dL_addBox_0 rfl ?_
  refine J_iload_n hX dL_addBox_1 rfl ?_
  refine J_iload_n hX dL_addBox_2 rfl ?_
  refine J_iload_n hX dL_addBox_3 rfl ?_
  refine J_iload hX dL_addBox_4 rfl ?_
  refine J_iload hX dL_addBox_6 rfl ?_
  refine J_iload hX dL_addBox_8 rfl ?_
  refine J_callVH hX hH hXK hE9 [] dL_addBox_10 cw_RL_28 (m_X9_addBox (fun U h => (hE9 U h).1) hX0 hW hV hC hp hu hv hw hwd hhg) ⟨hX0.1, by decide, by decide, rfl⟩ rfl (Nat.le_of_ble_eq_true rfl) ⟨by decide, by decide⟩ ⟨Nat.le_of_ble_eq_true rfl, Nat.le_of_ble_eq_true rfl⟩ ⟨hx8, trivial⟩ trivial (fun _ _ _ h i hi => by obtain ⟨M9, hk9, -⟩ := h.2.2; rw [hk9.1 i hi]; exact hi) (fun nm h => ?_) (fun r K2 M2 h => ?_)
  · rcases h with ⟨h1, rfl⟩ | ⟨h1, rfl⟩ | ⟨h1, rfl⟩
    · refine ⟨14, 7, 2, ⟨by decide, tableOf [], ⟨0, 13, 14, 22⟩, tableOf [(0, 13, 19, 15), (0, 13, 24, 25)], rfl, (fun z hz => nomatch hz), by decide, by decide, cl_RL_22, rfl⟩, ⟨Or.inl ⟨dL_addBox_14, rfl⟩, by decide⟩, ?_⟩
      refine J_ldcI hX kI_24 dL_addBox_16 ?_
      have hn := hno (by rw [h1]; decide)
      rw [h1] at hn
      exact J_iret hX hQ dL_addBox_18 hn (Nat.le_of_ble_eq_true rfl) (Nat.le_of_ble_eq_true rfl)
    · refine ⟨19, 7, 2, ⟨by decide, tableOf [(0, 13, 14, 22)], ⟨0, 13, 19, 15⟩, tableOf [(0, 13, 24, 25)], rfl, (fun z hz => by rcases List.mem_singleton.mp hz with rfl; exact ⟨by decide, xIO, cl_RL_22, ⟨by decide, by decide, by decide⟩⟩), by decide, by decide, cl_RL_15, rfl⟩, ⟨Or.inl ⟨dL_addBox_19, rfl⟩, by decide⟩, ?_⟩
      refine J_ldcI hX kI_17 dL_addBox_21 ?_
      have hn := hno (by rw [h1]; decide)
      rw [h1] at hn
      exact J_iret hX hQ dL_addBox_23 hn (Nat.le_of_ble_eq_true rfl) (Nat.le_of_ble_eq_true rfl)
    · have hpr : ∀ z ∈ tableOf [(0, 13, 14, 22), (0, 13, 19, 15)], z.catchType ≠ 0 ∧ ∃ nm2, Cond.classLink RL z.catchType nm2 ∈ tb ∧ ncq xIS nm2 := by
        intro z hz
        rcases List.mem_cons.mp hz with rfl | hz
        · exact ⟨by decide, xIO, cl_RL_22, ⟨by decide, by decide, by decide⟩⟩
        · rcases List.mem_singleton.mp hz with rfl
          exact ⟨by decide, xIA, cl_RL_15, ⟨by decide, by decide, by decide⟩⟩
      refine ⟨24, 7, 2, ⟨by decide, tableOf [(0, 13, 14, 22), (0, 13, 19, 15)], ⟨0, 13, 24, 25⟩, tableOf [], rfl, hpr, by decide, by decide, cl_RL_25, rfl⟩, ⟨Or.inl ⟨dL_addBox_24, rfl⟩, by decide⟩, ?_⟩
      refine J_ldcI hX kI_27 dL_addBox_26 ?_
      have hn := hno (by rw [h1]; decide)
      rw [h1] at hn
      exact J_iret hX hQ dL_addBox_28 hn (Nat.le_of_ble_eq_true rfl) (Nat.le_of_ble_eq_true rfl)
  · have hr := h.2.1
    subst hr
    exact J_iret hX hQ dL_addBox_13 (hpo _ _ _ h) (Nat.le_of_ble_eq_true rfl) (Nat.le_of_ble_eq_true rfl)
abbrev hh_move : List (Nat × Nat × Nat × Nat) := [(0, 9, 10, 22), (0, 9, 15, 15)]
theorem cd_L_move : Cond.codeWith yL_move cL_move 6 (some .int) hh_move ∈ tb := inT 777 (by decide +kernel)
theorem cwL_move : CWH RL 144 yL_move cL_move 6 (some .int) hh_move 5 := ⟨ml_RL_144, sm_L_move, in_RL, cd_L_move, by decide +kernel⟩
set_option maxHeartbeats 4000000 in
set_option maxRecDepth 100000 in
theorem m_L_move {E : EE} {K : Nat → Nat} {M : MM} {x : Nat} {T : Int} {n : Nat} {n9 u v w : Int} (hE9 : ∀ U, SF E U → ThF E U ∧ NcF U) (hX0 : EyeK K x) (hW : WF T M (x + 1 + 2)) (hV : HV n K M (x + 55) (x + 60)) (hC : Cl K M) (hn9 : i32 n9) (hu : i32 u) (hv : i32 v) (hw : i32 w) {pst : Option Value → (Nat → Nat) → MM → Prop} (hpo : ∀ r K2 M2, (fun r K' M' => (fP M (x + 1 + 2) n9 u v w) = (0 : Int) ∧ r = some (vI (M (x + 1 + 2 + 6) n9)) ∧ ∃ M1, KeptX n K M x K' M1 ∧ M' = movM M1 (x + 1 + 2) n9 u v w) r K2 M2 → pst r K2 M2) (hno : (((fP M (x + 1 + 2) n9 u v w)) : Int) ≠ 0 → pst (some (vI (fK ((fP M (x + 1 + 2) n9 u v w))))) K M) : CnH E 9 yL_move cL_move 6 (some .int) hh_move [.ref x, vI n9, vI u, vI v, vI w] K M pst 40 240 := by
  have hx8 : K x ≠ 0 := by rw [hX0.1]; decide
  refine CnH_of RL (by decide) rfl (Nat.le_of_ble_eq_true rfl) (fun X hX hQ hXK hH => ?_)
  refine J_aload_n hX dL_move_0 rfl ?_
  refine J_iload_n hX dL_move_1 rfl ?_
  refine J_iload_n hX dL_move_2 rfl ?_
  refine J_iload_n hX dL_move_3 rfl ?_
  refine J_iload hX dL_move_4 rfl ?_
  refine J_callVH hX hH hXK hE9 [] dL_move_6 cw_RL_32 (m_X9_move (fun U h => (hE9 U h).1) hX0 hW hV hC hn9 hu hv hw) ⟨hX0.1, by decide, by decide, rfl⟩ rfl (Nat.le_of_ble_eq_true rfl) ⟨by decide, by decide⟩ ⟨Nat.le_of_ble_eq_true rfl, Nat.le_of_ble_eq_true rfl⟩ ⟨hx8, trivial⟩ trivial (fun _ _ _ h i hi => by obtain ⟨M9, hk9, -⟩ := h.2.2; rw [hk9.1 i hi]; exact hi) (fun nm h => ?_) (fun r K2 M2 h => ?_)
  · rcases h with ⟨h1, rfl⟩ | ⟨h1, rfl⟩ | ⟨h1, rfl⟩
    · refine ⟨10, 5, 2, ⟨by decide, tableOf [], ⟨0, 9, 10, 22⟩, tableOf [(0, 9, 15, 15)], rfl, (fun z hz => nomatch hz), by decide, by decide, cl_RL_22, rfl⟩, ⟨Or.inl ⟨dL_move_10, rfl⟩, by decide⟩, ?_⟩
      refine J_ldcI hX kI_24 dL_move_12 ?_
      have hn := hno (by rw [h1]; decide)
      rw [h1] at hn
      exact J_iret hX hQ dL_move_14 hn (Nat.le_of_ble_eq_true rfl) (Nat.le_of_ble_eq_true rfl)
    · refine ⟨15, 5, 2, ⟨by decide, tableOf [(0, 9, 10, 22)], ⟨0, 9, 15, 15⟩, tableOf [], rfl, (fun z hz => by rcases List.mem_singleton.mp hz with rfl; exact ⟨by decide, xIO, cl_RL_22, ⟨by decide, by decide, by decide⟩⟩), by decide, by decide, cl_RL_15, rfl⟩, ⟨Or.inl ⟨dL_move_15, rfl⟩, by decide⟩, ?_⟩
      refine J_ldcI hX kI_17 dL_move_17 ?_
      have hn := hno (by rw [h1]; decide)
      rw [h1] at hn
      exact J_iret hX hQ dL_move_19 hn (Nat.le_of_ble_eq_true rfl) (Nat.le_of_ble_eq_true rfl)
    · exact absurd h1 (by unfold fP; (repeat' split) <;> decide)
  · have hr := h.2.1
    subst hr
    exact J_iret hX hQ dL_move_9 (hpo _ _ _ h) (Nat.le_of_ble_eq_true rfl) (Nat.le_of_ble_eq_true rfl)
abbrev hh_setShade : List (Nat × Nat × Nat × Nat) := [(0, 6, 7, 22), (0, 6, 11, 15)]
theorem cd_L_setShade : Cond.codeWith yL_setShade cL_setShade 4 (some .int) hh_setShade ∈ tb := inT 786 (by decide +kernel)
theorem cwL_setShade : CWH RL 146 yL_setShade cL_setShade 4 (some .int) hh_setShade 3 := ⟨ml_RL_146, sm_L_setShade, in_RL, cd_L_setShade, by decide +kernel⟩
set_option maxHeartbeats 4000000 in
set_option maxRecDepth 100000 in
theorem m_L_setShade {E : EE} {K : Nat → Nat} {M : MM} {x : Nat} {T : Int} {n : Nat} {n9 s : Int} (hE9 : ∀ U, SF E U → ThF E U ∧ NcF U) (hX0 : EyeK K x) (hW : WF T M (x + 1 + 2)) (hV : HV n K M (x + 55) (x + 60)) (hC : Cl K M) (hn9 : i32 n9) (hs : i32 s) {pst : Option Value → (Nat → Nat) → MM → Prop} (hpo : ∀ r K2 M2, (fun r K' M' => (fCo M (x + 1 + 2) n9 s) = (0 : Int) ∧ r = some (vI (M (x + 1 + 2 + 9) n9)) ∧ ∃ M1, KeptX n K M x K' M1 ∧ M' = mset M1 (x + 1 + 2 + 9) n9 s) r K2 M2 → pst r K2 M2) (hno : (((fCo M (x + 1 + 2) n9 s)) : Int) ≠ 0 → pst (some (vI (fK ((fCo M (x + 1 + 2) n9 s))))) K M) : CnH E 9 yL_setShade cL_setShade 4 (some .int) hh_setShade [.ref x, vI n9, vI s] K M pst 40 240 := by
  have hx8 : K x ≠ 0 := by rw [hX0.1]; decide
  refine CnH_of RL (by decide) rfl (Nat.le_of_ble_eq_true rfl) (fun X hX hQ hXK hH => ?_)
  refine J_aload_n hX dL_setShade_0 rfl ?_
  refine J_iload_n hX dL_setShade_1 rfl ?_
  refine J_iload_n hX dL_setShade_2 rfl ?_
  refine J_callVH hX hH hXK hE9 [] dL_setShade_3 cw_RL_35 (m_X9_setShade (fun U h => (hE9 U h).1) hX0 hW hV hC hn9 hs) ⟨hX0.1, by decide, by decide, rfl⟩ rfl (Nat.le_of_ble_eq_true rfl) ⟨by decide, by decide⟩ ⟨Nat.le_of_ble_eq_true rfl, Nat.le_of_ble_eq_true rfl⟩ ⟨hx8, trivial⟩ trivial (fun _ _ _ h i hi => by obtain ⟨M9, hk9, -⟩ := h.2.2; rw [hk9.1 i hi]; exact hi) (fun nm h => ?_) (fun r K2 M2 h => ?_)
  · rcases h with ⟨h1, rfl⟩ | ⟨h1, rfl⟩ | ⟨h1, rfl⟩
    · refine ⟨7, 3, 1, ⟨by decide, tableOf [], ⟨0, 6, 7, 22⟩, tableOf [(0, 6, 11, 15)], rfl, (fun z hz => nomatch hz), by decide, by decide, cl_RL_22, rfl⟩, ⟨Or.inr ⟨3, dL_setShade_7, rfl, rfl⟩, by decide⟩, ?_⟩
      refine J_ldcI hX kI_24 dL_setShade_8 ?_
      have hn := hno (by rw [h1]; decide)
      rw [h1] at hn
      exact J_iret hX hQ dL_setShade_10 hn (Nat.le_of_ble_eq_true rfl) (Nat.le_of_ble_eq_true rfl)
    · refine ⟨11, 3, 1, ⟨by decide, tableOf [(0, 6, 7, 22)], ⟨0, 6, 11, 15⟩, tableOf [], rfl, (fun z hz => by rcases List.mem_singleton.mp hz with rfl; exact ⟨by decide, xIO, cl_RL_22, ⟨by decide, by decide, by decide⟩⟩), by decide, by decide, cl_RL_15, rfl⟩, ⟨Or.inr ⟨3, dL_setShade_11, rfl, rfl⟩, by decide⟩, ?_⟩
      refine J_ldcI hX kI_17 dL_setShade_12 ?_
      have hn := hno (by rw [h1]; decide)
      rw [h1] at hn
      exact J_iret hX hQ dL_setShade_14 hn (Nat.le_of_ble_eq_true rfl) (Nat.le_of_ble_eq_true rfl)
    · exact absurd h1 (by unfold fCo; (repeat' split) <;> decide)
  · have hr := h.2.1
    subst hr
    exact J_iret hX hQ dL_setShade_6 (hpo _ _ _ h) (Nat.le_of_ble_eq_true rfl) (Nat.le_of_ble_eq_true rfl)
abbrev hh_removeNode : List (Nat × Nat × Nat × Nat) := [(0, 5, 6, 22)]
theorem cd_L_removeNode : Cond.codeWith yL_removeNode cL_removeNode 3 (some .int) hh_removeNode ∈ tb := inT 801 (by decide +kernel)
theorem cwL_removeNode : CWH RL 148 yL_removeNode cL_removeNode 3 (some .int) hh_removeNode 2 := ⟨ml_RL_148, sm_L_removeNode, in_RL, cd_L_removeNode, by decide +kernel⟩
set_option maxHeartbeats 4000000 in
set_option maxRecDepth 100000 in
theorem m_L_removeNode {E : EE} {K : Nat → Nat} {M : MM} {x : Nat} {T : Int} {n : Nat} {n9 : Int} (hE9 : ∀ U, SF E U → ThF E U ∧ NcF U) (hX0 : EyeK K x) (hW : WF T M (x + 1 + 2)) (hV : HV n K M (x + 55) (x + 60)) (hC : Cl K M) (hn9 : i32 n9) {pst : Option Value → (Nat → Nat) → MM → Prop} (hpo : ∀ r K2 M2, (fun r K' M' => (if has M (x + 1 + 2) n9 then 0 else 1) = (0 : Int) ∧ r = some (vI (nwn (stg M (x + 1 + 2)) n9 (M (x + 1 + 2 + 1) 0))) ∧ ∃ M1, KeptX n K M x K' M1 ∧ Drd (stg M (x + 1 + 2)) (stg M' (x + 1 + 2)) n9 ∧ ∀ i, i < x + 1 + 2 + 1 ∨ x + 1 + 2 + 10 < i → M' i = M1 i) r K2 M2 → pst r K2 M2) (hno : (((if has M (x + 1 + 2) n9 then 0 else 1)) : Int) ≠ 0 → pst (some (vI (fK ((if has M (x + 1 + 2) n9 then 0 else 1))))) K M) : CnH E 9 yL_removeNode cL_removeNode 3 (some .int) hh_removeNode [.ref x, vI n9] K M pst 40 240 := by
  have hx8 : K x ≠ 0 := by rw [hX0.1]; decide
  refine CnH_of RL (by decide) rfl (Nat.le_of_ble_eq_true rfl) (fun X hX hQ hXK hH => ?_)
  refine J_aload_n hX dL_removeNode_0 rfl ?_
  refine J_iload_n hX dL_removeNode_1 rfl ?_
  refine J_callVH hX hH hXK hE9 [] dL_removeNode_2 cw_RL_38 (m_X9_removeNode (fun U h => (hE9 U h).1) hX0 hW hV hC hn9) ⟨hX0.1, by decide, by decide, rfl⟩ rfl (Nat.le_of_ble_eq_true rfl) ⟨by decide, by decide⟩ ⟨Nat.le_of_ble_eq_true rfl, Nat.le_of_ble_eq_true rfl⟩ ⟨hx8, trivial⟩ trivial (fun _ _ _ h i hi => by obtain ⟨M9, hk9, -⟩ := h.2.2; rw [hk9.1 i hi]; exact hi) (fun nm h => ?_) (fun r K2 M2 h => ?_)
  · rcases h with ⟨h1, rfl⟩ | ⟨h1, rfl⟩ | ⟨h1, rfl⟩
    · refine ⟨6, 2, 1, ⟨by decide, tableOf [], ⟨0, 5, 6, 22⟩, tableOf [], rfl, (fun z hz => nomatch hz), by decide, by decide, cl_RL_22, rfl⟩, ⟨Or.inr ⟨2, dL_removeNode_6, rfl, rfl⟩, by decide⟩, ?_⟩
      refine J_ldcI hX kI_24 dL_removeNode_7 ?_
      have hn := hno (by rw [h1]; decide)
      rw [h1] at hn
      exact J_iret hX hQ dL_removeNode_9 hn (Nat.le_of_ble_eq_true rfl) (Nat.le_of_ble_eq_true rfl)
    · exact absurd h1 (by (repeat' split) <;> decide)
    · exact absurd h1 (by (repeat' split) <;> decide)
  · have hr := h.2.1
    subst hr
    exact J_iret hX hQ dL_removeNode_5 (hpo _ _ _ h) (Nat.le_of_ble_eq_true rfl) (Nat.le_of_ble_eq_true rfl)
abbrev hh_addScene : List (Nat × Nat × Nat × Nat) := [(0, 7, 8, 15), (0, 7, 13, 25)]
theorem cd_L_addScene : Cond.codeWith yL_addScene cL_addScene 5 (some .int) hh_addScene ∈ tb := inT 810 (by decide +kernel)
theorem cwL_addScene : CWH RL 150 yL_addScene cL_addScene 5 (some .int) hh_addScene 4 := ⟨ml_RL_150, sm_L_addScene, in_RL, cd_L_addScene, by decide +kernel⟩
set_option maxHeartbeats 4000000 in
set_option maxRecDepth 100000 in
theorem m_L_addScene {E : EE} {K : Nat → Nat} {M : MM} {x : Nat} {T : Int} {n : Nat} {l g t : Int} (hE9 : ∀ U, SF E U → ThF E U ∧ NcF U) (hX0 : EyeK K x) (hW : WF T M (x + 1 + 2)) (hV : HV n K M (x + 55) (x + 60)) (hC : Cl K M) (hl : i32 l) (hg : i32 g) (ht : i32 t) {pst : Option Value → (Nat → Nat) → MM → Prop} (hpo : ∀ r K2 M2, (fun r K' M' => (fS M (x + 1 + 2) l g t) = (0 : Int) ∧ r = some (vI (M (x + 1 + 2 + 11) 0)) ∧ ∃ M1, KeptX n K M x K' M1 ∧ M' = scM M1 (x + 1 + 2) l g t) r K2 M2 → pst r K2 M2) (hno : (((fS M (x + 1 + 2) l g t)) : Int) ≠ 0 → pst (some (vI (fK ((fS M (x + 1 + 2) l g t))))) K M) : CnH E 9 yL_addScene cL_addScene 5 (some .int) hh_addScene [.ref x, vI l, vI g, vI t] K M pst 40 240 := by
  have hx8 : K x ≠ 0 := by rw [hX0.1]; decide
  refine CnH_of RL (by decide) rfl (Nat.le_of_ble_eq_true rfl) (fun X hX hQ hXK hH => ?_)
  refine J_aload_n hX dL_addScene_0 rfl ?_
  refine J_iload_n hX dL_addScene_1 rfl ?_
  refine J_iload_n hX dL_addScene_2 rfl ?_
  refine J_iload_n hX dL_addScene_3 rfl ?_
  refine J_callVH hX hH hXK hE9 [] dL_addScene_4 cw_RL_42 (m_X9_addScene (fun U h => (hE9 U h).1) hX0 hW hV hC hl hg ht) ⟨hX0.1, by decide, by decide, rfl⟩ rfl (Nat.le_of_ble_eq_true rfl) ⟨by decide, by decide⟩ ⟨Nat.le_of_ble_eq_true rfl, Nat.le_of_ble_eq_true rfl⟩ ⟨hx8, trivial⟩ trivial (fun _ _ _ h i hi => by obtain ⟨M9, hk9, -⟩ := h.2.2; rw [hk9.1 i hi]; exact hi) (fun nm h => ?_) (fun r K2 M2 h => ?_)
  · rcases h with ⟨h1, rfl⟩ | ⟨h1, rfl⟩ | ⟨h1, rfl⟩
    · exact absurd h1 (by unfold fS; (repeat' split) <;> decide)
    · refine ⟨8, 4, 2, ⟨by decide, tableOf [], ⟨0, 7, 8, 15⟩, tableOf [(0, 7, 13, 25)], rfl, (fun z hz => nomatch hz), by decide, by decide, cl_RL_15, rfl⟩, ⟨Or.inl ⟨dL_addScene_8, rfl⟩, by decide⟩, ?_⟩
      refine J_ldcI hX kI_17 dL_addScene_10 ?_
      have hn := hno (by rw [h1]; decide)
      rw [h1] at hn
      exact J_iret hX hQ dL_addScene_12 hn (Nat.le_of_ble_eq_true rfl) (Nat.le_of_ble_eq_true rfl)
    · refine ⟨13, 4, 2, ⟨by decide, tableOf [(0, 7, 8, 15)], ⟨0, 7, 13, 25⟩, tableOf [], rfl, (fun z hz => by rcases List.mem_singleton.mp hz with rfl; exact ⟨by decide, xIA, cl_RL_15, ⟨by decide, by decide, by decide⟩⟩), by decide, by decide, cl_RL_25, rfl⟩, ⟨Or.inl ⟨dL_addScene_13, rfl⟩, by decide⟩, ?_⟩
      refine J_ldcI hX kI_27 dL_addScene_15 ?_
      have hn := hno (by rw [h1]; decide)
      rw [h1] at hn
      exact J_iret hX hQ dL_addScene_17 hn (Nat.le_of_ble_eq_true rfl) (Nat.le_of_ble_eq_true rfl)
  · have hr := h.2.1
    subst hr
    exact J_iret hX hQ dL_addScene_7 (hpo _ _ _ h) (Nat.le_of_ble_eq_true rfl) (Nat.le_of_ble_eq_true rfl)
abbrev hh_set : List (Nat × Nat × Nat × Nat) := [(0, 6, 7, 15)]
theorem cd_L_set : Cond.codeWith yL_set cL_set 4 (some .int) hh_set ∈ tb := inT 819 (by decide +kernel)
theorem cwL_set : CWH RL 153 yL_set cL_set 4 (some .int) hh_set 3 := ⟨ml_RL_153, sm_L_set, in_RL, cd_L_set, by decide +kernel⟩
set_option maxHeartbeats 4000000 in
set_option maxRecDepth 100000 in
theorem m_L_set {E : EE} {K : Nat → Nat} {M : MM} {x : Nat} {T : Int} {n : Nat} {w v : Int} (hE9 : ∀ U, SF E U → ThF E U ∧ NcF U) (hX0 : EyeK K x) (hW : WF T M (x + 1 + 2)) (hV : HV n K M (x + 55) (x + 60)) (hC : Cl K M) (hw : i32 w) (hv : i32 v) (hE2 : ∀ U, SF E U → CF E U) (hz : ∀ i, 1000000 ≤ i → K i = 0) {pst : Option Value → (Nat → Nat) → MM → Prop} (hpo : ∀ r K2 M2, (fun r K' M' => (if fSe w v then 0 else 2) = (0 : Int) ∧ r = some (vI (M (x + 1 + 2 + 15) w)) ∧ ∃ M1, KeptX n K M x K' M1 ∧ M' = mset M1 (x + 1 + 2 + 15) w v) r K2 M2 → pst r K2 M2) (hno : (((if fSe w v then 0 else 2)) : Int) ≠ 0 → pst (some (vI (fK ((if fSe w v then 0 else 2))))) K M) : CnH E 9 yL_set cL_set 4 (some .int) hh_set [.ref x, vI w, vI v] K M pst 40 240 := by
  have hx8 : K x ≠ 0 := by rw [hX0.1]; decide
  refine CnH_of RL (by decide) rfl (Nat.le_of_ble_eq_true rfl) (fun X hX hQ hXK hH => ?_)
  refine J_aload_n hX dL_set_0 rfl ?_
  refine J_iload_n hX dL_set_1 rfl ?_
  refine J_iload_n hX dL_set_2 rfl ?_
  refine J_callVH hX hH hXK hE9 [] dL_set_3 cw_RL_46 (m_X9_set (fun U h => (hE9 U h).1) hX0 hW hV hC hw hv hE2 hz) ⟨hX0.1, by decide, by decide, rfl⟩ rfl (Nat.le_of_ble_eq_true rfl) ⟨by decide, by decide⟩ ⟨Nat.le_of_ble_eq_true rfl, Nat.le_of_ble_eq_true rfl⟩ ⟨hx8, trivial⟩ trivial (fun _ _ _ h i hi => by obtain ⟨M9, hk9, -⟩ := h.2.2; rw [hk9.1 i hi]; exact hi) (fun nm h => ?_) (fun r K2 M2 h => ?_)
  · rcases h with ⟨h1, rfl⟩ | ⟨h1, rfl⟩ | ⟨h1, rfl⟩
    · exact absurd h1 (by (repeat' split) <;> decide)
    · refine ⟨7, 3, 1, ⟨by decide, tableOf [], ⟨0, 6, 7, 15⟩, tableOf [], rfl, (fun z hz => nomatch hz), by decide, by decide, cl_RL_15, rfl⟩, ⟨Or.inr ⟨3, dL_set_7, rfl, rfl⟩, by decide⟩, ?_⟩
      refine J_ldcI hX kI_17 dL_set_8 ?_
      have hn := hno (by rw [h1]; decide)
      rw [h1] at hn
      exact J_iret hX hQ dL_set_10 hn (Nat.le_of_ble_eq_true rfl) (Nat.le_of_ble_eq_true rfl)
    · exact absurd h1 (by (repeat' split) <;> decide)
  · have hr := h.2.1
    subst hr
    exact J_iret hX hQ dL_set_6 (hpo _ _ _ h) (Nat.le_of_ble_eq_true rfl) (Nat.le_of_ble_eq_true rfl)
abbrev hh_setTitle : List (Nat × Nat × Nat × Nat) := [(0, 7, 8, 15)]
theorem cd_L_setTitle : Cond.codeWith yL_setTitle cL_setTitle 5 (some .int) hh_setTitle ∈ tb := inT 828 (by decide +kernel)
theorem cwL_setTitle : CWH RL 155 yL_setTitle cL_setTitle 5 (some .int) hh_setTitle 4 := ⟨ml_RL_155, sm_L_setTitle, in_RL, cd_L_setTitle, by decide +kernel⟩
set_option maxHeartbeats 4000000 in
set_option maxRecDepth 100000 in
theorem m_L_setTitle {E : EE} {K : Nat → Nat} {M : MM} {x : Nat} {T : Int} {n : Nat} {u v l : Int} (hE9 : ∀ U, SF E U → ThF E U ∧ NcF U) (hX0 : EyeK K x) (hW : WF T M (x + 1 + 2)) (hV : HV n K M (x + 55) (x + 60)) (hC : Cl K M) (hu : i32 u) (hv : i32 v) (hl : i32 l) {pst : Option Value → (Nat → Nat) → MM → Prop} (hpo : ∀ r K2 M2, (fun r K' M' => (fT M (x + 1 + 2) u v l) = (0 : Int) ∧ r = some (vI (M (x + 1 + 2) 7)) ∧ ∃ M1, KeptX n K M x K' M1 ∧ M' = entM M1 (x + 1 + 2) u v l) r K2 M2 → pst r K2 M2) (hno : (((fT M (x + 1 + 2) u v l)) : Int) ≠ 0 → pst (some (vI (fK ((fT M (x + 1 + 2) u v l))))) K M) : CnH E 9 yL_setTitle cL_setTitle 5 (some .int) hh_setTitle [.ref x, vI u, vI v, vI l] K M pst 40 240 := by
  have hx8 : K x ≠ 0 := by rw [hX0.1]; decide
  refine CnH_of RL (by decide) rfl (Nat.le_of_ble_eq_true rfl) (fun X hX hQ hXK hH => ?_)
  refine J_aload_n hX dL_setTitle_0 rfl ?_
  refine J_iload_n hX dL_setTitle_1 rfl ?_
  refine J_iload_n hX dL_setTitle_2 rfl ?_
  refine J_iload_n hX dL_setTitle_3 rfl ?_
  refine J_callVH hX hH hXK hE9 [] dL_setTitle_4 cw_RL_49 (m_X9_setTitle (fun U h => (hE9 U h).1) hX0 hW hV hC hu hv hl) ⟨hX0.1, by decide, by decide, rfl⟩ rfl (Nat.le_of_ble_eq_true rfl) ⟨by decide, by decide⟩ ⟨Nat.le_of_ble_eq_true rfl, Nat.le_of_ble_eq_true rfl⟩ ⟨hx8, trivial⟩ trivial (fun _ _ _ h i hi => by obtain ⟨M9, hk9, -⟩ := h.2.2; rw [hk9.1 i hi]; exact hi) (fun nm h => ?_) (fun r K2 M2 h => ?_)
  · rcases h with ⟨h1, rfl⟩ | ⟨h1, rfl⟩ | ⟨h1, rfl⟩
    · exact absurd h1 (by unfold fT; (repeat' split) <;> decide)
    · refine ⟨8, 4, 2, ⟨by decide, tableOf [], ⟨0, 7, 8, 15⟩, tableOf [], rfl, (fun z hz => nomatch hz), by decide, by decide, cl_RL_15, rfl⟩, ⟨Or.inl ⟨dL_setTitle_8, rfl⟩, by decide⟩, ?_⟩
      refine J_ldcI hX kI_17 dL_setTitle_10 ?_
      have hn := hno (by rw [h1]; decide)
      rw [h1] at hn
      exact J_iret hX hQ dL_setTitle_12 hn (Nat.le_of_ble_eq_true rfl) (Nat.le_of_ble_eq_true rfl)
    · exact absurd h1 (by unfold fT; (repeat' split) <;> decide)
  · have hr := h.2.1
    subst hr
    exact J_iret hX hQ dL_setTitle_7 (hpo _ _ _ h) (Nat.le_of_ble_eq_true rfl) (Nat.le_of_ble_eq_true rfl)
abbrev hh_tick : List (Nat × Nat × Nat × Nat) := [(0, 5, 6, 15)]
theorem cd_L_tick : Cond.codeWith yL_tick cL_tick 3 (some .int) hh_tick ∈ tb := inT 836 (by decide +kernel)
theorem cwL_tick : CWH RL 157 yL_tick cL_tick 3 (some .int) hh_tick 2 := ⟨ml_RL_157, sm_L_tick, in_RL, cd_L_tick, by decide +kernel⟩
set_option maxHeartbeats 4000000 in
set_option maxRecDepth 100000 in
theorem m_L_tick {E : EE} {K : Nat → Nat} {M : MM} {x : Nat} {T : Int} {n : Nat} {t : Int} (hE9 : ∀ U, SF E U → ThF E U ∧ NcF U) (hX0 : EyeK K x) (hW : WF T M (x + 1 + 2)) (hV : HV n K M (x + 55) (x + 60)) (hC : Cl K M) (ht : i32 t) (hTt : T + 200 ≤ 1000000000) {pst : Option Value → (Nat → Nat) → MM → Prop} (hpo : ∀ r K2 M2, (fun r K' M' => (if 1 ≤ t ∧ t ≤ 200 then 0 else 2) = (0 : Int) ∧ r = some (vI (M' (x + 1 + 2 + 11) 1)) ∧ ∃ M1, KeptX n K M x K' M1 ∧ M' = tkN (x + 1 + 2) (M (x + 1 + 2 + 15) 1) t.toNat M1) r K2 M2 → pst r K2 M2) (hno : (((if 1 ≤ t ∧ t ≤ 200 then 0 else 2)) : Int) ≠ 0 → pst (some (vI (fK ((if 1 ≤ t ∧ t ≤ 200 then 0 else 2))))) K M) : CnH E 9 yL_tick cL_tick 3 (some .int) hh_tick [.ref x, vI t] K M pst 40 240 := by
  have hx8 : K x ≠ 0 := by rw [hX0.1]; decide
  refine CnH_of RL (by decide) rfl (Nat.le_of_ble_eq_true rfl) (fun X hX hQ hXK hH => ?_)
  refine J_aload_n hX dL_tick_0 rfl ?_
  refine J_iload_n hX dL_tick_1 rfl ?_
  refine J_callVH hX hH hXK hE9 [] dL_tick_2 cw_RL_52 (m_X9_tick (fun U h => (hE9 U h).1) hX0 hW hV hC ht hTt) ⟨hX0.1, by decide, by decide, rfl⟩ rfl (Nat.le_of_ble_eq_true rfl) ⟨by decide, by decide⟩ ⟨Nat.le_of_ble_eq_true rfl, Nat.le_of_ble_eq_true rfl⟩ ⟨hx8, trivial⟩ trivial (fun _ _ _ h i hi => by obtain ⟨M9, hk9, -⟩ := h.2.2; rw [hk9.1 i hi]; exact hi) (fun nm h => ?_) (fun r K2 M2 h => ?_)
  · rcases h with ⟨h1, rfl⟩ | ⟨h1, rfl⟩ | ⟨h1, rfl⟩
    · exact absurd h1 (by (repeat' split) <;> decide)
    · refine ⟨6, 2, 1, ⟨by decide, tableOf [], ⟨0, 5, 6, 15⟩, tableOf [], rfl, (fun z hz => nomatch hz), by decide, by decide, cl_RL_15, rfl⟩, ⟨Or.inr ⟨2, dL_tick_6, rfl, rfl⟩, by decide⟩, ?_⟩
      refine J_ldcI hX kI_17 dL_tick_7 ?_
      have hn := hno (by rw [h1]; decide)
      rw [h1] at hn
      exact J_iret hX hQ dL_tick_9 hn (Nat.le_of_ble_eq_true rfl) (Nat.le_of_ble_eq_true rfl)
    · exact absurd h1 (by (repeat' split) <;> decide)
  · have hr := h.2.1
    subst hr
    exact J_iret hX hQ dL_tick_5 (hpo _ _ _ h) (Nat.le_of_ble_eq_true rfl) (Nat.le_of_ble_eq_true rfl)
abbrev hh_node : List (Nat × Nat × Nat × Nat) := [(0, 6, 7, 22), (0, 6, 11, 15)]
theorem cd_L_node : Cond.codeWith yL_node cL_node 4 (some .int) hh_node ∈ tb := inT 845 (by decide +kernel)
theorem cwL_node : CWH RL 110 yL_node cL_node 4 (some .int) hh_node 3 := ⟨ml_RL_110, sm_L_node, in_RL, cd_L_node, by decide +kernel⟩
set_option maxHeartbeats 4000000 in
set_option maxRecDepth 100000 in
theorem m_L_node {E : EE} {K : Nat → Nat} {M : MM} {x : Nat} {T : Int} {n9 k : Int} (hE9 : ∀ U, SF E U → ThF E U ∧ NcF U) (hX0 : EyeK K x) (hW : WF T M (x + 1 + 2)) (hF : Frs M x) (hn9 : i32 n9) (hk : i32 k) {pst : Option Value → (Nat → Nat) → MM → Prop} (hpo : ∀ r K2 M2, (fun r K' M' => f2l (if has M (x + 1 + 2) n9 then 0 else 1) (if 0 ≤ k ∧ k ≤ 15 then 0 else 2) = (0 : Int) ∧ K' = K ∧ r = some (vI (nvl (stg M (x + 1 + 2)) n9 k)) ∧ Lkd M x M') r K2 M2 → pst r K2 M2) (hno : (((f2l (if has M (x + 1 + 2) n9 then 0 else 1) (if 0 ≤ k ∧ k ≤ 15 then 0 else 2))) : Int) ≠ 0 → pst (some (vI (fK ((f2l (if has M (x + 1 + 2) n9 then 0 else 1) (if 0 ≤ k ∧ k ≤ 15 then 0 else 2)))))) K M) : CnH E 9 yL_node cL_node 4 (some .int) hh_node [.ref x, vI n9, vI k] K M pst 2 12 := by
  have hx8 : K x ≠ 0 := by rw [hX0.1]; decide
  refine CnH_of RL (by decide) rfl (Nat.le_of_ble_eq_true rfl) (fun X hX hQ hXK hH => ?_)
  refine J_aload_n hX dL_node_0 rfl ?_
  refine J_iload_n hX dL_node_1 rfl ?_
  refine J_iload_n hX dL_node_2 rfl ?_
  refine J_callVH hX hH hXK hE9 [] dL_node_3 cw_RL_55 (m_X9_node (fun U h => (hE9 U h).1) hX0 hW hF hn9 hk) ⟨hX0.1, by decide, by decide, rfl⟩ rfl (Nat.le_of_ble_eq_true rfl) ⟨by decide, by decide⟩ ⟨Nat.le_of_ble_eq_true rfl, Nat.le_of_ble_eq_true rfl⟩ ⟨hx8, trivial⟩ trivial (fun _ _ _ h i hi => by rw [h.2.1]; exact hi) (fun nm h => ?_) (fun r K2 M2 h => ?_)
  · rcases h with ⟨h1, rfl⟩ | ⟨h1, rfl⟩ | ⟨h1, rfl⟩
    · refine ⟨7, 3, 1, ⟨by decide, tableOf [], ⟨0, 6, 7, 22⟩, tableOf [(0, 6, 11, 15)], rfl, (fun z hz => nomatch hz), by decide, by decide, cl_RL_22, rfl⟩, ⟨Or.inr ⟨3, dL_node_7, rfl, rfl⟩, by decide⟩, ?_⟩
      refine J_ldcI hX kI_24 dL_node_8 ?_
      have hn := hno (by rw [h1]; decide)
      rw [h1] at hn
      exact J_iret hX hQ dL_node_10 hn (Nat.le_of_ble_eq_true rfl) (Nat.le_of_ble_eq_true rfl)
    · refine ⟨11, 3, 1, ⟨by decide, tableOf [(0, 6, 7, 22)], ⟨0, 6, 11, 15⟩, tableOf [], rfl, (fun z hz => by rcases List.mem_singleton.mp hz with rfl; exact ⟨by decide, xIO, cl_RL_22, ⟨by decide, by decide, by decide⟩⟩), by decide, by decide, cl_RL_15, rfl⟩, ⟨Or.inr ⟨3, dL_node_11, rfl, rfl⟩, by decide⟩, ?_⟩
      refine J_ldcI hX kI_17 dL_node_12 ?_
      have hn := hno (by rw [h1]; decide)
      rw [h1] at hn
      exact J_iret hX hQ dL_node_14 hn (Nat.le_of_ble_eq_true rfl) (Nat.le_of_ble_eq_true rfl)
    · exact absurd h1 (by intro h2; rcases f2l_c h2 (by decide) with h3 | h3 <;> (split at h3 <;> omega))
  · have hr := h.2.2.1
    subst hr
    exact J_iret hX hQ dL_node_6 (hpo _ _ _ h) (Nat.le_of_ble_eq_true rfl) (Nat.le_of_ble_eq_true rfl)
abbrev hh_painted : List (Nat × Nat × Nat × Nat) := [(0, 5, 6, 15)]
theorem cd_L_painted : Cond.codeWith yL_painted cL_painted 3 (some .int) hh_painted ∈ tb := inT 1065 (by decide +kernel)
theorem cwL_painted : CWH RL 113 yL_painted cL_painted 3 (some .int) hh_painted 2 := ⟨ml_RL_113, sm_L_painted, in_RL, cd_L_painted, by decide +kernel⟩
set_option maxHeartbeats 4000000 in
set_option maxRecDepth 100000 in
theorem m_L_painted {E : EE} {K : Nat → Nat} {M : MM} {x : Nat} {T : Int} {p : Int} (hE9 : ∀ U, SF E U → ThF E U ∧ NcF U) (hX0 : EyeK K x) (hW : WF T M (x + 1 + 2)) (hF : Frs M x) (hp : i32 p) {pst : Option Value → (Nat → Nat) → MM → Prop} (hpo : ∀ r K2 M2, (fun r K' M' => (if p < 0 then 2 else 0) = (0 : Int) ∧ K' = K ∧ r = some (vI (if 0 ≤ p ∧ p < (nb (stg M (x + 1 + 2)) : Nat) then ord (stg M (x + 1 + 2)) p else -1000)) ∧ Lkd M x M') r K2 M2 → pst r K2 M2) (hno : ((((if p < 0 then 2 else 0))) : Int) ≠ 0 → pst (some (vI (fK (((if p < 0 then 2 else 0)))))) K M) : CnH E 9 yL_painted cL_painted 3 (some .int) hh_painted [.ref x, vI p] K M pst 2 12 := by
  have hx8 : K x ≠ 0 := by rw [hX0.1]; decide
  refine CnH_of RL (by decide) rfl (Nat.le_of_ble_eq_true rfl) (fun X hX hQ hXK hH => ?_)
  refine J_aload_n hX dL_painted_0 rfl ?_
  refine J_iload_n hX dL_painted_1 rfl ?_
  refine J_callVH hX hH hXK hE9 [] dL_painted_2 cw_RL_58 (m_X9_painted (fun U h => (hE9 U h).1) hX0 hW hF hp) ⟨hX0.1, by decide, by decide, rfl⟩ rfl (Nat.le_of_ble_eq_true rfl) ⟨by decide, by decide⟩ ⟨Nat.le_of_ble_eq_true rfl, Nat.le_of_ble_eq_true rfl⟩ ⟨hx8, trivial⟩ trivial (fun _ _ _ h i hi => by rw [h.2.1]; exact hi) (fun nm h => ?_) (fun r K2 M2 h => ?_)
  · rcases h with ⟨h1, rfl⟩ | ⟨h1, rfl⟩ | ⟨h1, rfl⟩
    · exact absurd h1 (by (repeat' split) <;> decide)
    · refine ⟨6, 2, 1, ⟨by decide, tableOf [], ⟨0, 5, 6, 15⟩, tableOf [], rfl, (fun z hz => nomatch hz), by decide, by decide, cl_RL_15, rfl⟩, ⟨Or.inr ⟨2, dL_painted_6, rfl, rfl⟩, by decide⟩, ?_⟩
      refine J_ldcI hX kI_17 dL_painted_7 ?_
      have hn := hno (by rw [h1]; decide)
      rw [h1] at hn
      exact J_iret hX hQ dL_painted_9 hn (Nat.le_of_ble_eq_true rfl) (Nat.le_of_ble_eq_true rfl)
    · exact absurd h1 (by (repeat' split) <;> decide)
  · have hr := h.2.2.1
    subst hr
    exact J_iret hX hQ dL_painted_5 (hpo _ _ _ h) (Nat.le_of_ble_eq_true rfl) (Nat.le_of_ble_eq_true rfl)
abbrev hh_scene : List (Nat × Nat × Nat × Nat) := [(0, 6, 7, 22), (0, 6, 11, 15)]
theorem cd_L_scene : Cond.codeWith yL_scene cL_scene 4 (some .int) hh_scene ∈ tb := inT 950 (by decide +kernel)
theorem cwL_scene : CWH RL 159 yL_scene cL_scene 4 (some .int) hh_scene 3 := ⟨ml_RL_159, sm_L_scene, in_RL, cd_L_scene, by decide +kernel⟩
set_option maxHeartbeats 4000000 in
set_option maxRecDepth 100000 in
theorem m_L_scene {E : EE} {K : Nat → Nat} {M : MM} {x : Nat} {T : Int} {n9 k : Int} (hE9 : ∀ U, SF E U → ThF E U ∧ NcF U) (hX0 : EyeK K x) (hW : WF T M (x + 1 + 2)) (hn9 : i32 n9) (hk : i32 k) {pst : Option Value → (Nat → Nat) → MM → Prop} (hpo : ∀ r K2 M2, (fun r K' M' => f2l (if hsc M (x + 1 + 2) n9 then 0 else 1) (if 0 ≤ k ∧ k ≤ 3 then 0 else 2) = (0 : Int) ∧ K' = K ∧ r = some (vI (scv (stg M (x + 1 + 2)) n9 k)) ∧ M' = M) r K2 M2 → pst r K2 M2) (hno : (((f2l (if hsc M (x + 1 + 2) n9 then 0 else 1) (if 0 ≤ k ∧ k ≤ 3 then 0 else 2))) : Int) ≠ 0 → pst (some (vI (fK ((f2l (if hsc M (x + 1 + 2) n9 then 0 else 1) (if 0 ≤ k ∧ k ≤ 3 then 0 else 2)))))) K M) : CnH E 9 yL_scene cL_scene 4 (some .int) hh_scene [.ref x, vI n9, vI k] K M pst 2 12 := by
  have hx8 : K x ≠ 0 := by rw [hX0.1]; decide
  refine CnH_of RL (by decide) rfl (Nat.le_of_ble_eq_true rfl) (fun X hX hQ hXK hH => ?_)
  refine J_aload_n hX dL_scene_0 rfl ?_
  refine J_iload_n hX dL_scene_1 rfl ?_
  refine J_iload_n hX dL_scene_2 rfl ?_
  refine J_callVH hX hH hXK hE9 [] dL_scene_3 cw_RL_61 (m_X9_scene (fun U h => (hE9 U h).1) hX0 hW hn9 hk) ⟨hX0.1, by decide, by decide, rfl⟩ rfl (Nat.le_of_ble_eq_true rfl) ⟨by decide, by decide⟩ ⟨Nat.le_of_ble_eq_true rfl, Nat.le_of_ble_eq_true rfl⟩ ⟨hx8, trivial⟩ trivial (fun _ _ _ h i hi => by rw [h.2.1]; exact hi) (fun nm h => ?_) (fun r K2 M2 h => ?_)
  · rcases h with ⟨h1, rfl⟩ | ⟨h1, rfl⟩ | ⟨h1, rfl⟩
    · refine ⟨7, 3, 1, ⟨by decide, tableOf [], ⟨0, 6, 7, 22⟩, tableOf [(0, 6, 11, 15)], rfl, (fun z hz => nomatch hz), by decide, by decide, cl_RL_22, rfl⟩, ⟨Or.inr ⟨3, dL_scene_7, rfl, rfl⟩, by decide⟩, ?_⟩
      refine J_ldcI hX kI_24 dL_scene_8 ?_
      have hn := hno (by rw [h1]; decide)
      rw [h1] at hn
      exact J_iret hX hQ dL_scene_10 hn (Nat.le_of_ble_eq_true rfl) (Nat.le_of_ble_eq_true rfl)
    · refine ⟨11, 3, 1, ⟨by decide, tableOf [(0, 6, 7, 22)], ⟨0, 6, 11, 15⟩, tableOf [], rfl, (fun z hz => by rcases List.mem_singleton.mp hz with rfl; exact ⟨by decide, xIO, cl_RL_22, ⟨by decide, by decide, by decide⟩⟩), by decide, by decide, cl_RL_15, rfl⟩, ⟨Or.inr ⟨3, dL_scene_11, rfl, rfl⟩, by decide⟩, ?_⟩
      refine J_ldcI hX kI_17 dL_scene_12 ?_
      have hn := hno (by rw [h1]; decide)
      rw [h1] at hn
      exact J_iret hX hQ dL_scene_14 hn (Nat.le_of_ble_eq_true rfl) (Nat.le_of_ble_eq_true rfl)
    · exact absurd h1 (by intro h2; rcases f2l_c h2 (by decide) with h3 | h3 <;> (split at h3 <;> omega))
  · have hr := h.2.2.1
    subst hr
    exact J_iret hX hQ dL_scene_6 (hpo _ _ _ h) (Nat.le_of_ble_eq_true rfl) (Nat.le_of_ble_eq_true rfl)
abbrev hh_title : List (Nat × Nat × Nat × Nat) := [(0, 5, 6, 15)]
theorem cd_L_title : Cond.codeWith yL_title cL_title 3 (some .int) hh_title ∈ tb := inT 966 (by decide +kernel)
theorem cwL_title : CWH RL 119 yL_title cL_title 3 (some .int) hh_title 2 := ⟨ml_RL_119, sm_L_title, in_RL, cd_L_title, by decide +kernel⟩
set_option maxHeartbeats 4000000 in
set_option maxRecDepth 100000 in
theorem m_L_title {E : EE} {K : Nat → Nat} {M : MM} {x : Nat} {T : Int} {k : Int} (hE9 : ∀ U, SF E U → ThF E U ∧ NcF U) (hX0 : EyeK K x) (hW : WF T M (x + 1 + 2)) (hF : Frs M x) (hk : i32 k) {pst : Option Value → (Nat → Nat) → MM → Prop} (hpo : ∀ r K2 M2, (fun r K' M' => (if 0 ≤ k ∧ k ≤ 6 then 0 else 2) = (0 : Int) ∧ K' = K ∧ r = some (vI (tvl (stg M (x + 1 + 2)) k)) ∧ Lkd M x M') r K2 M2 → pst r K2 M2) (hno : ((((if 0 ≤ k ∧ k ≤ 6 then 0 else 2))) : Int) ≠ 0 → pst (some (vI (fK (((if 0 ≤ k ∧ k ≤ 6 then 0 else 2)))))) K M) : CnH E 9 yL_title cL_title 3 (some .int) hh_title [.ref x, vI k] K M pst 2 12 := by
  have hx8 : K x ≠ 0 := by rw [hX0.1]; decide
  refine CnH_of RL (by decide) rfl (Nat.le_of_ble_eq_true rfl) (fun X hX hQ hXK hH => ?_)
  refine J_aload_n hX dL_title_0 rfl ?_
  refine J_iload_n hX dL_title_1 rfl ?_
  refine J_callVH hX hH hXK hE9 [] dL_title_2 cw_RL_64 (m_X9_title (fun U h => (hE9 U h).1) hX0 hW hF hk) ⟨hX0.1, by decide, by decide, rfl⟩ rfl (Nat.le_of_ble_eq_true rfl) ⟨by decide, by decide⟩ ⟨Nat.le_of_ble_eq_true rfl, Nat.le_of_ble_eq_true rfl⟩ ⟨hx8, trivial⟩ trivial (fun _ _ _ h i hi => by rw [h.2.1]; exact hi) (fun nm h => ?_) (fun r K2 M2 h => ?_)
  · rcases h with ⟨h1, rfl⟩ | ⟨h1, rfl⟩ | ⟨h1, rfl⟩
    · exact absurd h1 (by (repeat' split) <;> decide)
    · refine ⟨6, 2, 1, ⟨by decide, tableOf [], ⟨0, 5, 6, 15⟩, tableOf [], rfl, (fun z hz => nomatch hz), by decide, by decide, cl_RL_15, rfl⟩, ⟨Or.inr ⟨2, dL_title_6, rfl, rfl⟩, by decide⟩, ?_⟩
      refine J_ldcI hX kI_17 dL_title_7 ?_
      have hn := hno (by rw [h1]; decide)
      rw [h1] at hn
      exact J_iret hX hQ dL_title_9 hn (Nat.le_of_ble_eq_true rfl) (Nat.le_of_ble_eq_true rfl)
    · exact absurd h1 (by (repeat' split) <;> decide)
  · have hr := h.2.2.1
    subst hr
    exact J_iret hX hQ dL_title_5 (hpo _ _ _ h) (Nat.le_of_ble_eq_true rfl) (Nat.le_of_ble_eq_true rfl)
abbrev hh_whole : List (Nat × Nat × Nat × Nat) := [(0, 5, 6, 15)]
theorem cd_L_whole : Cond.codeWith yL_whole cL_whole 3 (some .int) hh_whole ∈ tb := inT 981 (by decide +kernel)
theorem cwL_whole : CWH RL 105 yL_whole cL_whole 3 (some .int) hh_whole 2 := ⟨ml_RL_105, sm_L_whole, in_RL, cd_L_whole, by decide +kernel⟩
set_option maxHeartbeats 4000000 in
set_option maxRecDepth 100000 in
theorem m_L_whole {E : EE} {K : Nat → Nat} {M : MM} {x : Nat} {T : Int} {k : Int} (hE9 : ∀ U, SF E U → ThF E U ∧ NcF U) (hX0 : EyeK K x) (hW : WF T M (x + 1 + 2)) (hF : Frs M x) (hk : i32 k) {pst : Option Value → (Nat → Nat) → MM → Prop} (hpo : ∀ r K2 M2, (fun r K' M' => (if 0 ≤ k ∧ k ≤ 15 then 0 else 2) = (0 : Int) ∧ K' = K ∧ r = some (vI (wvl (stg M (x + 1 + 2)) k)) ∧ Lkd M x M') r K2 M2 → pst r K2 M2) (hno : ((((if 0 ≤ k ∧ k ≤ 15 then 0 else 2))) : Int) ≠ 0 → pst (some (vI (fK (((if 0 ≤ k ∧ k ≤ 15 then 0 else 2)))))) K M) : CnH E 9 yL_whole cL_whole 3 (some .int) hh_whole [.ref x, vI k] K M pst 2 12 := by
  have hx8 : K x ≠ 0 := by rw [hX0.1]; decide
  refine CnH_of RL (by decide) rfl (Nat.le_of_ble_eq_true rfl) (fun X hX hQ hXK hH => ?_)
  refine J_aload_n hX dL_whole_0 rfl ?_
  refine J_iload_n hX dL_whole_1 rfl ?_
  refine J_callVH hX hH hXK hE9 [] dL_whole_2 cw_RL_67 (m_X9_whole (fun U h => (hE9 U h).1) hX0 hW hF hk) ⟨hX0.1, by decide, by decide, rfl⟩ rfl (Nat.le_of_ble_eq_true rfl) ⟨by decide, by decide⟩ ⟨Nat.le_of_ble_eq_true rfl, Nat.le_of_ble_eq_true rfl⟩ ⟨hx8, trivial⟩ trivial (fun _ _ _ h i hi => by rw [h.2.1]; exact hi) (fun nm h => ?_) (fun r K2 M2 h => ?_)
  · rcases h with ⟨h1, rfl⟩ | ⟨h1, rfl⟩ | ⟨h1, rfl⟩
    · exact absurd h1 (by (repeat' split) <;> decide)
    · refine ⟨6, 2, 1, ⟨by decide, tableOf [], ⟨0, 5, 6, 15⟩, tableOf [], rfl, (fun z hz => nomatch hz), by decide, by decide, cl_RL_15, rfl⟩, ⟨Or.inr ⟨2, dL_whole_6, rfl, rfl⟩, by decide⟩, ?_⟩
      refine J_ldcI hX kI_17 dL_whole_7 ?_
      have hn := hno (by rw [h1]; decide)
      rw [h1] at hn
      exact J_iret hX hQ dL_whole_9 hn (Nat.le_of_ble_eq_true rfl) (Nat.le_of_ble_eq_true rfl)
    · exact absurd h1 (by (repeat' split) <;> decide)
  · have hr := h.2.2.1
    subst hr
    exact J_iret hX hQ dL_whole_5 (hpo _ _ _ h) (Nat.le_of_ble_eq_true rfl) (Nat.le_of_ble_eq_true rfl)
abbrev hh_shade : List (Nat × Nat × Nat × Nat) := [(0, 7, 8, 22)]
theorem cd_L_shade : Cond.codeWith yL_shade cL_shade 5 (some .int) hh_shade ∈ tb := inT 1088 (by decide +kernel)
theorem cwL_shade : CWH RL 124 yL_shade cL_shade 5 (some .int) hh_shade 4 := ⟨ml_RL_124, sm_L_shade, in_RL, cd_L_shade, by decide +kernel⟩
set_option maxHeartbeats 4000000 in
set_option maxRecDepth 100000 in
theorem m_L_shade {E : EE} {K : Nat → Nat} {M : MM} {x : Nat} {T : Int} {l c r9 : Int} (hE9 : ∀ U, SF E U → ThF E U ∧ NcF U) (hX0 : EyeK K x) (hW : WF T M (x + 1 + 2)) (hF : Frs M x) (hl : l = 0 ∨ l = 1) (hc : i32 c) (hr9 : i32 r9) {pst : Option Value → (Nat → Nat) → MM → Prop} (hpo : ∀ r K2 M2, (fun r K' M' => (fCe M (x + 1 + 2) c r9) = (0 : Int) ∧ K' = K ∧ r = some (vI (shd (stg M (x + 1 + 2)) l c r9)) ∧ Lkd M x M') r K2 M2 → pst r K2 M2) (hno : ((((fCe M (x + 1 + 2) c r9))) : Int) ≠ 0 → pst (some (vI (fK (((fCe M (x + 1 + 2) c r9)))))) K M) : CnH E 9 yL_shade cL_shade 5 (some .int) hh_shade [.ref x, vI l, vI c, vI r9] K M pst 2 12 := by
  have hx8 : K x ≠ 0 := by rw [hX0.1]; decide
  refine CnH_of RL (by decide) rfl (Nat.le_of_ble_eq_true rfl) (fun X hX hQ hXK hH => ?_)
  refine J_aload_n hX dL_shade_0 rfl ?_
  refine J_iload_n hX dL_shade_1 rfl ?_
  refine J_iload_n hX dL_shade_2 rfl ?_
  refine J_iload_n hX dL_shade_3 rfl ?_
  refine J_callVH hX hH hXK hE9 [] dL_shade_4 cw_RL_70 (m_X9_shade (fun U h => (hE9 U h).1) hX0 hW hF hl hc hr9) ⟨hX0.1, by decide, by decide, rfl⟩ rfl (Nat.le_of_ble_eq_true rfl) ⟨by decide, by decide⟩ ⟨Nat.le_of_ble_eq_true rfl, Nat.le_of_ble_eq_true rfl⟩ ⟨hx8, trivial⟩ trivial (fun _ _ _ h i hi => by rw [h.2.1]; exact hi) (fun nm h => ?_) (fun r K2 M2 h => ?_)
  · rcases h with ⟨h1, rfl⟩ | ⟨h1, rfl⟩ | ⟨h1, rfl⟩
    · refine ⟨8, 4, 2, ⟨by decide, tableOf [], ⟨0, 7, 8, 22⟩, tableOf [], rfl, (fun z hz => nomatch hz), by decide, by decide, cl_RL_22, rfl⟩, ⟨Or.inl ⟨dL_shade_8, rfl⟩, by decide⟩, ?_⟩
      refine J_ldcI hX kI_24 dL_shade_10 ?_
      have hn := hno (by rw [h1]; decide)
      rw [h1] at hn
      exact J_iret hX hQ dL_shade_12 hn (Nat.le_of_ble_eq_true rfl) (Nat.le_of_ble_eq_true rfl)
    · exact absurd h1 (by unfold fCe; (repeat' split) <;> decide)
    · exact absurd h1 (by unfold fCe; (repeat' split) <;> decide)
  · have hr := h.2.2.1
    subst hr
    exact J_iret hX hQ dL_shade_7 (hpo _ _ _ h) (Nat.le_of_ble_eq_true rfl) (Nat.le_of_ble_eq_true rfl)
abbrev hh_shown : List (Nat × Nat × Nat × Nat) := [(0, 7, 8, 22)]
theorem cd_L_shown : Cond.codeWith yL_shown cL_shown 5 (some .int) hh_shown ∈ tb := inT 1123 (by decide +kernel)
theorem cwL_shown : CWH RL 129 yL_shown cL_shown 5 (some .int) hh_shown 4 := ⟨ml_RL_129, sm_L_shown, in_RL, cd_L_shown, by decide +kernel⟩
set_option maxHeartbeats 4000000 in
set_option maxRecDepth 100000 in
theorem m_L_shown {E : EE} {K : Nat → Nat} {M : MM} {x : Nat} {T : Int} {l c r9 : Int} (hE9 : ∀ U, SF E U → ThF E U ∧ NcF U) (hX0 : EyeK K x) (hW : WF T M (x + 1 + 2)) (hF : Frs M x) (hl : l = 0 ∨ l = 1) (hc : i32 c) (hr9 : i32 r9) {pst : Option Value → (Nat → Nat) → MM → Prop} (hpo : ∀ r K2 M2, (fun r K' M' => (fCe M (x + 1 + 2) c r9) = (0 : Int) ∧ K' = K ∧ r = some (vI (front (stg M (x + 1 + 2)) l c r9)) ∧ Lkd M x M') r K2 M2 → pst r K2 M2) (hno : ((((fCe M (x + 1 + 2) c r9))) : Int) ≠ 0 → pst (some (vI (fK (((fCe M (x + 1 + 2) c r9)))))) K M) : CnH E 9 yL_shown cL_shown 5 (some .int) hh_shown [.ref x, vI l, vI c, vI r9] K M pst 2 12 := by
  have hx8 : K x ≠ 0 := by rw [hX0.1]; decide
  refine CnH_of RL (by decide) rfl (Nat.le_of_ble_eq_true rfl) (fun X hX hQ hXK hH => ?_)
  refine J_aload_n hX dL_shown_0 rfl ?_
  refine J_iload_n hX dL_shown_1 rfl ?_
  refine J_iload_n hX dL_shown_2 rfl ?_
  refine J_iload_n hX dL_shown_3 rfl ?_
  refine J_callVH hX hH hXK hE9 [] dL_shown_4 cw_RL_74 (m_X9_shown (fun U h => (hE9 U h).1) hX0 hW hF hl hc hr9) ⟨hX0.1, by decide, by decide, rfl⟩ rfl (Nat.le_of_ble_eq_true rfl) ⟨by decide, by decide⟩ ⟨Nat.le_of_ble_eq_true rfl, Nat.le_of_ble_eq_true rfl⟩ ⟨hx8, trivial⟩ trivial (fun _ _ _ h i hi => by rw [h.2.1]; exact hi) (fun nm h => ?_) (fun r K2 M2 h => ?_)
  · rcases h with ⟨h1, rfl⟩ | ⟨h1, rfl⟩ | ⟨h1, rfl⟩
    · refine ⟨8, 4, 2, ⟨by decide, tableOf [], ⟨0, 7, 8, 22⟩, tableOf [], rfl, (fun z hz => nomatch hz), by decide, by decide, cl_RL_22, rfl⟩, ⟨Or.inl ⟨dL_shown_8, rfl⟩, by decide⟩, ?_⟩
      refine J_ldcI hX kI_24 dL_shown_10 ?_
      have hn := hno (by rw [h1]; decide)
      rw [h1] at hn
      exact J_iret hX hQ dL_shown_12 hn (Nat.le_of_ble_eq_true rfl) (Nat.le_of_ble_eq_true rfl)
    · exact absurd h1 (by unfold fCe; (repeat' split) <;> decide)
    · exact absurd h1 (by unfold fCe; (repeat' split) <;> decide)
  · have hr := h.2.2.1
    subst hr
    exact J_iret hX hQ dL_shown_7 (hpo _ _ _ h) (Nat.le_of_ble_eq_true rfl) (Nat.le_of_ble_eq_true rfl)
abbrev hh_ghost : List (Nat × Nat × Nat × Nat) := [(0, 6, 7, 22)]
theorem cd_L_ghost : Cond.codeWith yL_ghost cL_ghost 4 (some .int) hh_ghost ∈ tb := inT 1111 (by decide +kernel)
theorem cwL_ghost : CWH RL 127 yL_ghost cL_ghost 4 (some .int) hh_ghost 3 := ⟨ml_RL_127, sm_L_ghost, in_RL, cd_L_ghost, by decide +kernel⟩
set_option maxHeartbeats 4000000 in
set_option maxRecDepth 100000 in
theorem m_L_ghost {E : EE} {K : Nat → Nat} {M : MM} {x : Nat} {T : Int} {c r9 : Int} (hE9 : ∀ U, SF E U → ThF E U ∧ NcF U) (hX0 : EyeK K x) (hW : WF T M (x + 1 + 2)) (hF : Frs M x) (hc : i32 c) (hr9 : i32 r9) {pst : Option Value → (Nat → Nat) → MM → Prop} (hpo : ∀ r K2 M2, (fun r K' M' => (fCe M (x + 1 + 2) c r9) = (0 : Int) ∧ K' = K ∧ r = some (vI (ghs (stg M (x + 1 + 2)) c r9)) ∧ Lkd M x M') r K2 M2 → pst r K2 M2) (hno : ((((fCe M (x + 1 + 2) c r9))) : Int) ≠ 0 → pst (some (vI (fK (((fCe M (x + 1 + 2) c r9)))))) K M) : CnH E 9 yL_ghost cL_ghost 4 (some .int) hh_ghost [.ref x, vI c, vI r9] K M pst 2 12 := by
  have hx8 : K x ≠ 0 := by rw [hX0.1]; decide
  refine CnH_of RL (by decide) rfl (Nat.le_of_ble_eq_true rfl) (fun X hX hQ hXK hH => ?_)
  refine J_aload_n hX dL_ghost_0 rfl ?_
  refine J_iload_n hX dL_ghost_1 rfl ?_
  refine J_iload_n hX dL_ghost_2 rfl ?_
  refine J_callVH hX hH hXK hE9 [] dL_ghost_3 cw_RL_77 (m_X9_ghost (fun U h => (hE9 U h).1) hX0 hW hF hc hr9) ⟨hX0.1, by decide, by decide, rfl⟩ rfl (Nat.le_of_ble_eq_true rfl) ⟨by decide, by decide⟩ ⟨Nat.le_of_ble_eq_true rfl, Nat.le_of_ble_eq_true rfl⟩ ⟨hx8, trivial⟩ trivial (fun _ _ _ h i hi => by rw [h.2.1]; exact hi) (fun nm h => ?_) (fun r K2 M2 h => ?_)
  · rcases h with ⟨h1, rfl⟩ | ⟨h1, rfl⟩ | ⟨h1, rfl⟩
    · refine ⟨7, 3, 1, ⟨by decide, tableOf [], ⟨0, 6, 7, 22⟩, tableOf [], rfl, (fun z hz => nomatch hz), by decide, by decide, cl_RL_22, rfl⟩, ⟨Or.inr ⟨3, dL_ghost_7, rfl, rfl⟩, by decide⟩, ?_⟩
      refine J_ldcI hX kI_24 dL_ghost_8 ?_
      have hn := hno (by rw [h1]; decide)
      rw [h1] at hn
      exact J_iret hX hQ dL_ghost_10 hn (Nat.le_of_ble_eq_true rfl) (Nat.le_of_ble_eq_true rfl)
    · exact absurd h1 (by unfold fCe; (repeat' split) <;> decide)
    · exact absurd h1 (by unfold fCe; (repeat' split) <;> decide)
  · have hr := h.2.2.1
    subst hr
    exact J_iret hX hQ dL_ghost_6 (hpo _ _ _ h) (Nat.le_of_ble_eq_true rfl) (Nat.le_of_ble_eq_true rfl)
abbrev hh_ghosts : List (Nat × Nat × Nat × Nat) := [(0, 5, 6, 15)]
theorem cd_L_ghosts : Cond.codeWith yL_ghosts cL_ghosts 3 (some .int) hh_ghosts ∈ tb := inT 997 (by decide +kernel)
theorem cwL_ghosts : CWH RL 131 yL_ghosts cL_ghosts 3 (some .int) hh_ghosts 2 := ⟨ml_RL_131, sm_L_ghosts, in_RL, cd_L_ghosts, by decide +kernel⟩
set_option maxHeartbeats 4000000 in
set_option maxRecDepth 100000 in
theorem m_L_ghosts {E : EE} {K : Nat → Nat} {M : MM} {x : Nat} {T : Int} {least : Int} (hE9 : ∀ U, SF E U → ThF E U ∧ NcF U) (hX0 : EyeK K x) (hW : WF T M (x + 1 + 2)) (hF : Frs M x) (hleast : i32 least) {pst : Option Value → (Nat → Nat) → MM → Prop} (hpo : ∀ r K2 M2, (fun r K' M' => (if 1 ≤ least ∧ least ≤ 15 then 0 else 2) = (0 : Int) ∧ K' = K ∧ r = some (vI (gall (stg M (x + 1 + 2)) least)) ∧ Lkd M x M') r K2 M2 → pst r K2 M2) (hno : ((((if 1 ≤ least ∧ least ≤ 15 then 0 else 2))) : Int) ≠ 0 → pst (some (vI (fK (((if 1 ≤ least ∧ least ≤ 15 then 0 else 2)))))) K M) : CnH E 9 yL_ghosts cL_ghosts 3 (some .int) hh_ghosts [.ref x, vI least] K M pst 2 12 := by
  have hx8 : K x ≠ 0 := by rw [hX0.1]; decide
  refine CnH_of RL (by decide) rfl (Nat.le_of_ble_eq_true rfl) (fun X hX hQ hXK hH => ?_)
  refine J_aload_n hX dL_ghosts_0 rfl ?_
  refine J_iload_n hX dL_ghosts_1 rfl ?_
  refine J_callVH hX hH hXK hE9 [] dL_ghosts_2 cw_RL_80 (m_X9_ghosts (fun U h => (hE9 U h).1) hX0 hW hF hleast) ⟨hX0.1, by decide, by decide, rfl⟩ rfl (Nat.le_of_ble_eq_true rfl) ⟨by decide, by decide⟩ ⟨Nat.le_of_ble_eq_true rfl, Nat.le_of_ble_eq_true rfl⟩ ⟨hx8, trivial⟩ trivial (fun _ _ _ h i hi => by rw [h.2.1]; exact hi) (fun nm h => ?_) (fun r K2 M2 h => ?_)
  · rcases h with ⟨h1, rfl⟩ | ⟨h1, rfl⟩ | ⟨h1, rfl⟩
    · exact absurd h1 (by (repeat' split) <;> decide)
    · refine ⟨6, 2, 1, ⟨by decide, tableOf [], ⟨0, 5, 6, 15⟩, tableOf [], rfl, (fun z hz => nomatch hz), by decide, by decide, cl_RL_15, rfl⟩, ⟨Or.inr ⟨2, dL_ghosts_6, rfl, rfl⟩, by decide⟩, ?_⟩
      refine J_ldcI hX kI_17 dL_ghosts_7 ?_
      have hn := hno (by rw [h1]; decide)
      rw [h1] at hn
      exact J_iret hX hQ dL_ghosts_9 hn (Nat.le_of_ble_eq_true rfl) (Nat.le_of_ble_eq_true rfl)
    · exact absurd h1 (by (repeat' split) <;> decide)
  · have hr := h.2.2.1
    subst hr
    exact J_iret hX hQ dL_ghosts_5 (hpo _ _ _ h) (Nat.le_of_ble_eq_true rfl) (Nat.le_of_ble_eq_true rfl)
abbrev hh_meanGhost : List (Nat × Nat × Nat × Nat) := [(0, 5, 6, 22)]
theorem cd_L_meanGhost : Cond.codeWith yL_meanGhost cL_meanGhost 3 (some .double) hh_meanGhost ∈ tb := inT 1131 (by decide +kernel)
theorem cwL_meanGhost : CWH RL 133 yL_meanGhost cL_meanGhost 3 (some .double) hh_meanGhost 2 := ⟨ml_RL_133, sm_L_meanGhost, in_RL, cd_L_meanGhost, by decide +kernel⟩
set_option maxHeartbeats 4000000 in
set_option maxRecDepth 100000 in
theorem m_L_meanGhost {E : EE} {K : Nat → Nat} {M : MM} {x : Nat} {T : Int} {row : Int} (hE9 : ∀ U, SF E U → ThF E U ∧ NcF U) (hX0 : EyeK K x) (hW : WF T M (x + 1 + 2)) (hF : Frs M x) (hrow : i32 row) {pst : Option Value → (Nat → Nat) → MM → Prop} (hpo : ∀ r K2 M2, (fun r K' M' => fCe M (x + 1 + 2) 0 row = (0 : Int) ∧ K' = K ∧ r = some (.double (dd (gsum (stg M (x + 1 + 2)) row) ((stg M (x + 1 + 2)) 0 3))) ∧ Lkd M x M') r K2 M2 → pst r K2 M2) (hno : (((fCe M (x + 1 + 2) 0 row)) : Int) ≠ 0 → pst (some (.double dNo)) K M) : CnH E 9 yL_meanGhost cL_meanGhost 3 (some .double) hh_meanGhost [.ref x, vI row] K M pst 2 12 := by
  have hx8 : K x ≠ 0 := by rw [hX0.1]; decide
  refine CnH_of RL (by decide) rfl (Nat.le_of_ble_eq_true rfl) (fun X hX hQ hXK hH => ?_)
  refine J_aload_n hX dL_meanGhost_0 rfl ?_
  refine J_iload_n hX dL_meanGhost_1 rfl ?_
  refine J_callVH hX hH hXK hE9 [] dL_meanGhost_2 cw_RL_83 (m_X9_meanGhost (fun U h => (hE9 U h).1) hX0 hW hF hrow) ⟨hX0.1, by decide, by decide, rfl⟩ rfl (Nat.le_of_ble_eq_true rfl) ⟨by decide, by decide⟩ ⟨Nat.le_of_ble_eq_true rfl, Nat.le_of_ble_eq_true rfl⟩ ⟨hx8, trivial⟩ trivial (fun _ _ _ h i hi => by rw [h.2.1]; exact hi) (fun nm h => ?_) (fun r K2 M2 h => ?_)
  · rcases h with ⟨h1, rfl⟩ | ⟨h1, rfl⟩ | ⟨h1, rfl⟩
    · refine ⟨6, 2, 1, ⟨by decide, tableOf [], ⟨0, 5, 6, 22⟩, tableOf [], rfl, (fun z hz => nomatch hz), by decide, by decide, cl_RL_22, rfl⟩, ⟨Or.inr ⟨2, dL_meanGhost_6, rfl, rfl⟩, by decide⟩, ?_⟩
      refine J_ldcD hX kD_87 dL_meanGhost_7 ?_
      exact J_dret hX hQ dL_meanGhost_10 (hno (by rw [h1]; decide)) (Nat.le_of_ble_eq_true rfl) (Nat.le_of_ble_eq_true rfl)
    · exact absurd h1 (by unfold fCe; (repeat' split) <;> decide)
    · exact absurd h1 (by unfold fCe; (repeat' split) <;> decide)
  · have hr := h.2.2.1
    subst hr
    exact J_dret hX hQ dL_meanGhost_5 (hpo _ _ _ h) (Nat.le_of_ble_eq_true rfl) (Nat.le_of_ble_eq_true rfl)
abbrev hh_percentageFor : List (Nat × Nat × Nat × Nat) := [(0, 6, 7, 15)]
theorem cd_L_percentageFor : Cond.codeWith yL_percentageFor cL_percentageFor 4 (some .int) hh_percentageFor ∈ tb := inT 1073 (by decide +kernel)
theorem cwL_percentageFor : CWH RL 115 yL_percentageFor cL_percentageFor 4 (some .int) hh_percentageFor 3 := ⟨ml_RL_115, sm_L_percentageFor, in_RL, cd_L_percentageFor, by decide +kernel⟩
set_option maxHeartbeats 4000000 in
set_option maxRecDepth 100000 in
theorem m_L_percentageFor {E : EE} {K : Nat → Nat} {M : MM} {x : Nat} {T : Int} {lo hi : Int} (hE9 : ∀ U, SF E U → ThF E U ∧ NcF U) (hX0 : EyeK K x) (hW : WF T M (x + 1 + 2)) (hF : Frs M x) (hlo : i32 lo) (hhi : i32 hi) {pst : Option Value → (Nat → Nat) → MM → Prop} (hpo : ∀ r K2 M2, (fun r K' M' => (if (-20 ≤ lo ∧ lo ≤ 0) ∧ (0 ≤ hi ∧ hi ≤ 20) then 0 else 2) = (0 : Int) ∧ K' = K ∧ r = some (vI (pctW (stg M (x + 1 + 2)) lo hi)) ∧ Lkd M x M') r K2 M2 → pst r K2 M2) (hno : ((((if (-20 ≤ lo ∧ lo ≤ 0) ∧ (0 ≤ hi ∧ hi ≤ 20) then 0 else 2))) : Int) ≠ 0 → pst (some (vI (fK (((if (-20 ≤ lo ∧ lo ≤ 0) ∧ (0 ≤ hi ∧ hi ≤ 20) then 0 else 2)))))) K M) : CnH E 9 yL_percentageFor cL_percentageFor 4 (some .int) hh_percentageFor [.ref x, vI lo, vI hi] K M pst 2 12 := by
  have hx8 : K x ≠ 0 := by rw [hX0.1]; decide
  refine CnH_of RL (by decide) rfl (Nat.le_of_ble_eq_true rfl) (fun X hX hQ hXK hH => ?_)
  refine J_aload_n hX dL_percentageFor_0 rfl ?_
  refine J_iload_n hX dL_percentageFor_1 rfl ?_
  refine J_iload_n hX dL_percentageFor_2 rfl ?_
  refine J_callVH hX hH hXK hE9 [] dL_percentageFor_3 cw_RL_89 (m_X9_percentageFor (fun U h => (hE9 U h).1) hX0 hW hF hlo hhi) ⟨hX0.1, by decide, by decide, rfl⟩ rfl (Nat.le_of_ble_eq_true rfl) ⟨by decide, by decide⟩ ⟨Nat.le_of_ble_eq_true rfl, Nat.le_of_ble_eq_true rfl⟩ ⟨hx8, trivial⟩ trivial (fun _ _ _ h i hi => by rw [h.2.1]; exact hi) (fun nm h => ?_) (fun r K2 M2 h => ?_)
  · rcases h with ⟨h1, rfl⟩ | ⟨h1, rfl⟩ | ⟨h1, rfl⟩
    · exact absurd h1 (by (repeat' split) <;> decide)
    · refine ⟨7, 3, 1, ⟨by decide, tableOf [], ⟨0, 6, 7, 15⟩, tableOf [], rfl, (fun z hz => nomatch hz), by decide, by decide, cl_RL_15, rfl⟩, ⟨Or.inr ⟨3, dL_percentageFor_7, rfl, rfl⟩, by decide⟩, ?_⟩
      refine J_ldcI hX kI_17 dL_percentageFor_8 ?_
      have hn := hno (by rw [h1]; decide)
      rw [h1] at hn
      exact J_iret hX hQ dL_percentageFor_10 hn (Nat.le_of_ble_eq_true rfl) (Nat.le_of_ble_eq_true rfl)
    · exact absurd h1 (by (repeat' split) <;> decide)
  · have hr := h.2.2.1
    subst hr
    exact J_iret hX hQ dL_percentageFor_6 (hpo _ _ _ h) (Nat.le_of_ble_eq_true rfl) (Nat.le_of_ble_eq_true rfl)
abbrev hh_fullAfter : List (Nat × Nat × Nat × Nat) := [(0, 5, 6, 15)]
theorem cd_L_fullAfter : Cond.codeWith yL_fullAfter cL_fullAfter 3 (some .int) hh_fullAfter ∈ tb := inT 1041 (by decide +kernel)
theorem cwL_fullAfter : CWH RL 117 yL_fullAfter cL_fullAfter 3 (some .int) hh_fullAfter 2 := ⟨ml_RL_117, sm_L_fullAfter, in_RL, cd_L_fullAfter, by decide +kernel⟩
set_option maxHeartbeats 4000000 in
set_option maxRecDepth 100000 in
theorem m_L_fullAfter {E : EE} {K : Nat → Nat} {M : MM} {x : Nat} {T : Int} {most To : Int} (hE9 : ∀ U, SF E U → ThF E U ∧ NcF U) (hX0 : EyeK K x) (hW : WF T M (x + 1 + 2)) (hF : Frs M x) (hmo : i32 most) (hT : T + 300 ≤ 1000000000) (hWo : WF To M (x + 28 + 2)) {pst : Option Value → (Nat → Nat) → MM → Prop} (hpo : ∀ r K2 M2, (fun r K' M' => (if 0 ≤ most ∧ most ≤ 200 then 0 else 2) = (0 : Int) ∧ K' = K ∧ r = some (vI (faF (stg M (x + 1 + 2)) (most + 1).toNat 0)) ∧ (∃ M1, Lkd M x M1 ∧ ∀ i, i < x + 28 ∨ x + 54 < i → M' i = M1 i) ∧ ∃ T2, T2 ≤ T + 201 ∧ WF T2 M' (x + 28 + 2)) r K2 M2 → pst r K2 M2) (hno : (((if 0 ≤ most ∧ most ≤ 200 then 0 else 2)) : Int) ≠ 0 → pst (some (vI (fK ((if 0 ≤ most ∧ most ≤ 200 then 0 else 2))))) K M) : CnH E 9 yL_fullAfter cL_fullAfter 3 (some .int) hh_fullAfter [.ref x, vI most] K M pst 2 12 := by
  have hx8 : K x ≠ 0 := by rw [hX0.1]; decide
  refine CnH_of RL (by decide) rfl (Nat.le_of_ble_eq_true rfl) (fun X hX hQ hXK hH => ?_)
  refine J_aload_n hX dL_fullAfter_0 rfl ?_
  refine J_iload_n hX dL_fullAfter_1 rfl ?_
  refine J_callVH hX hH hXK hE9 [] dL_fullAfter_2 cw_RL_92 (m_X9_fullAfter (fun U h => (hE9 U h).1) hX0 hW hF hmo hT hWo) ⟨hX0.1, by decide, by decide, rfl⟩ rfl (Nat.le_of_ble_eq_true rfl) ⟨by decide, by decide⟩ ⟨Nat.le_of_ble_eq_true rfl, Nat.le_of_ble_eq_true rfl⟩ ⟨hx8, trivial⟩ trivial (fun _ _ _ h i hi => by rw [h.2.1]; exact hi) (fun nm h => ?_) (fun r K2 M2 h => ?_)
  · rcases h with ⟨h1, rfl⟩ | ⟨h1, rfl⟩ | ⟨h1, rfl⟩
    · exact absurd h1 (by (repeat' split) <;> decide)
    · refine ⟨6, 2, 1, ⟨by decide, tableOf [], ⟨0, 5, 6, 15⟩, tableOf [], rfl, (fun z hz => nomatch hz), by decide, by decide, cl_RL_15, rfl⟩, ⟨Or.inr ⟨2, dL_fullAfter_6, rfl, rfl⟩, by decide⟩, ?_⟩
      refine J_ldcI hX kI_17 dL_fullAfter_7 ?_
      have hn := hno (by rw [h1]; decide)
      rw [h1] at hn
      exact J_iret hX hQ dL_fullAfter_9 hn (Nat.le_of_ble_eq_true rfl) (Nat.le_of_ble_eq_true rfl)
    · exact absurd h1 (by (repeat' split) <;> decide)
  · have hr := h.2.2.1
    subst hr
    exact J_iret hX hQ dL_fullAfter_5 (hpo _ _ _ h) (Nat.le_of_ble_eq_true rfl) (Nat.le_of_ble_eq_true rfl)
abbrev hh_ghostsWithout : List (Nat × Nat × Nat × Nat) := [(0, 6, 7, 22), (0, 6, 11, 15)]
theorem cd_L_ghostsWithout : Cond.codeWith yL_ghostsWithout cL_ghostsWithout 4 (some .int) hh_ghostsWithout ∈ tb := inT 1146 (by decide +kernel)
theorem cwL_ghostsWithout : CWH RL 161 yL_ghostsWithout cL_ghostsWithout 4 (some .int) hh_ghostsWithout 3 := ⟨ml_RL_161, sm_L_ghostsWithout, in_RL, cd_L_ghostsWithout, by decide +kernel⟩
set_option maxHeartbeats 4000000 in
set_option maxRecDepth 100000 in
theorem m_L_ghostsWithout {E : EE} {K : Nat → Nat} {M : MM} {x : Nat} {T : Int} {n9 least : Int} (hE9 : ∀ U, SF E U → ThF E U ∧ NcF U) (hX0 : EyeK K x) (hW : WF T M (x + 1 + 2)) (hn9 : i32 n9) (hle : i32 least) {pst : Option Value → (Nat → Nat) → MM → Prop} (hpo : ∀ r K2 M2, (fun r K' M' => f2l (if has M (x + 1 + 2) n9 then 0 else 1) (if 1 ≤ least ∧ least ≤ 15 then 0 else 2) = (0 : Int) ∧ K' = K ∧ ∃ S2, Drd (stg M (x + 1 + 2)) S2 n9 ∧ r = some (vI (gall S2 least)) ∧ (∀ i, i < x + 28 ∨ x + 54 < i → M' i = M i) ∧ WF T M' (x + 28 + 2)) r K2 M2 → pst r K2 M2) (hno : (((f2l (if has M (x + 1 + 2) n9 then 0 else 1) (if 1 ≤ least ∧ least ≤ 15 then 0 else 2))) : Int) ≠ 0 → pst (some (vI (fK ((f2l (if has M (x + 1 + 2) n9 then 0 else 1) (if 1 ≤ least ∧ least ≤ 15 then 0 else 2)))))) K M) : CnH E 9 yL_ghostsWithout cL_ghostsWithout 4 (some .int) hh_ghostsWithout [.ref x, vI n9, vI least] K M pst 2 12 := by
  have hx8 : K x ≠ 0 := by rw [hX0.1]; decide
  refine CnH_of RL (by decide) rfl (Nat.le_of_ble_eq_true rfl) (fun X hX hQ hXK hH => ?_)
  refine J_aload_n hX dL_ghostsWithout_0 rfl ?_
  refine J_iload_n hX dL_ghostsWithout_1 rfl ?_
  refine J_iload_n hX dL_ghostsWithout_2 rfl ?_
  refine J_callVH hX hH hXK hE9 [] dL_ghostsWithout_3 cw_RL_95 (m_X9_ghostsWithout (fun U h => (hE9 U h).1) hX0 hW hn9 hle) ⟨hX0.1, by decide, by decide, rfl⟩ rfl (Nat.le_of_ble_eq_true rfl) ⟨by decide, by decide⟩ ⟨Nat.le_of_ble_eq_true rfl, Nat.le_of_ble_eq_true rfl⟩ ⟨hx8, trivial⟩ trivial (fun _ _ _ h i hi => by rw [h.2.1]; exact hi) (fun nm h => ?_) (fun r K2 M2 h => ?_)
  · rcases h with ⟨h1, rfl⟩ | ⟨h1, rfl⟩ | ⟨h1, rfl⟩
    · refine ⟨7, 3, 1, ⟨by decide, tableOf [], ⟨0, 6, 7, 22⟩, tableOf [(0, 6, 11, 15)], rfl, (fun z hz => nomatch hz), by decide, by decide, cl_RL_22, rfl⟩, ⟨Or.inr ⟨3, dL_ghostsWithout_7, rfl, rfl⟩, by decide⟩, ?_⟩
      refine J_ldcI hX kI_24 dL_ghostsWithout_8 ?_
      have hn := hno (by rw [h1]; decide)
      rw [h1] at hn
      exact J_iret hX hQ dL_ghostsWithout_10 hn (Nat.le_of_ble_eq_true rfl) (Nat.le_of_ble_eq_true rfl)
    · refine ⟨11, 3, 1, ⟨by decide, tableOf [(0, 6, 7, 22)], ⟨0, 6, 11, 15⟩, tableOf [], rfl, (fun z hz => by rcases List.mem_singleton.mp hz with rfl; exact ⟨by decide, xIO, cl_RL_22, ⟨by decide, by decide, by decide⟩⟩), by decide, by decide, cl_RL_15, rfl⟩, ⟨Or.inr ⟨3, dL_ghostsWithout_11, rfl, rfl⟩, by decide⟩, ?_⟩
      refine J_ldcI hX kI_17 dL_ghostsWithout_12 ?_
      have hn := hno (by rw [h1]; decide)
      rw [h1] at hn
      exact J_iret hX hQ dL_ghostsWithout_14 hn (Nat.le_of_ble_eq_true rfl) (Nat.le_of_ble_eq_true rfl)
    · exact absurd h1 (by intro h2; rcases f2l_c h2 (by decide) with h3 | h3 <;> (split at h3 <;> omega))
  · obtain ⟨-, -, S9, -, hr, -⟩ := id h
    subst hr
    exact J_iret hX hQ dL_ghostsWithout_6 (hpo _ _ _ h) (Nat.le_of_ble_eq_true rfl) (Nat.le_of_ble_eq_true rfl)
abbrev hh_type : List (Nat × Nat × Nat × Nat) := [(0, 5, 6, 15), (0, 5, 10, 25)]
theorem cd_L_type : Cond.codeWith yL_type cL_type 3 (some .int) hh_type ∈ tb := inT 1154 (by decide +kernel)
theorem cwL_type : CWH RL 163 yL_type cL_type 3 (some .int) hh_type 2 := ⟨ml_RL_163, sm_L_type, in_RL, cd_L_type, by decide +kernel⟩
set_option maxHeartbeats 4000000 in
set_option maxRecDepth 100000 in
theorem m_L_type {E : EE} {K : Nat → Nat} {M : MM} {x : Nat} {T : Int} {v : Int} (hE9 : ∀ U, SF E U → ThF E U ∧ NcF U) (hX0 : EyeK K x) (hW : WF T M (x + 1 + 2)) (hv : i32 v) (hlen : 0 ≤ M (x + 57) 0 ∧ M (x + 57) 0 ≤ 150) {pst : Option Value → (Nat → Nat) → MM → Prop} (hpo : ∀ r K2 M2, (fun r K' M' => f2l (if 0 ≤ v ∧ v ≤ 127 then 0 else 2) (if 150 ≤ M (x + 57) 0 then 3 else 0) = (0 : Int) ∧ K' = K ∧ r = some (vI (M (x + 57) 0 + 1)) ∧ M' = mset (mset M (x + 58) (M (x + 57) 0) v) (x + 57) 0 (M (x + 57) 0 + 1)) r K2 M2 → pst r K2 M2) (hno : (((f2l (if 0 ≤ v ∧ v ≤ 127 then 0 else 2) (if 150 ≤ M (x + 57) 0 then 3 else 0))) : Int) ≠ 0 → pst (some (vI (fK ((f2l (if 0 ≤ v ∧ v ≤ 127 then 0 else 2) (if 150 ≤ M (x + 57) 0 then 3 else 0)))))) K M) : CnH E 9 yL_type cL_type 3 (some .int) hh_type [.ref x, vI v] K M pst 2 12 := by
  have hx8 : K x ≠ 0 := by rw [hX0.1]; decide
  refine CnH_of RL (by decide) rfl (Nat.le_of_ble_eq_true rfl) (fun X hX hQ hXK hH => ?_)
  refine J_aload_n hX dL_type_0 rfl ?_
  refine J_iload_n hX dL_type_1 rfl ?_
  refine J_callVH hX hH hXK hE9 [] dL_type_2 cw_RL_98 (m_X9_type (fun U h => (hE9 U h).1) hX0 hW hv hlen) ⟨hX0.1, by decide, by decide, rfl⟩ rfl (Nat.le_of_ble_eq_true rfl) ⟨by decide, by decide⟩ ⟨Nat.le_of_ble_eq_true rfl, Nat.le_of_ble_eq_true rfl⟩ ⟨hx8, trivial⟩ trivial (fun _ _ _ h i hi => by rw [h.2.1]; exact hi) (fun nm h => ?_) (fun r K2 M2 h => ?_)
  · rcases h with ⟨h1, rfl⟩ | ⟨h1, rfl⟩ | ⟨h1, rfl⟩
    · exact absurd h1 (by intro h2; rcases f2l_c h2 (by decide) with h3 | h3 <;> (split at h3 <;> omega))
    · refine ⟨6, 2, 1, ⟨by decide, tableOf [], ⟨0, 5, 6, 15⟩, tableOf [(0, 5, 10, 25)], rfl, (fun z hz => nomatch hz), by decide, by decide, cl_RL_15, rfl⟩, ⟨Or.inr ⟨2, dL_type_6, rfl, rfl⟩, by decide⟩, ?_⟩
      refine J_ldcI hX kI_17 dL_type_7 ?_
      have hn := hno (by rw [h1]; decide)
      rw [h1] at hn
      exact J_iret hX hQ dL_type_9 hn (Nat.le_of_ble_eq_true rfl) (Nat.le_of_ble_eq_true rfl)
    · refine ⟨10, 2, 1, ⟨by decide, tableOf [(0, 5, 6, 15)], ⟨0, 5, 10, 25⟩, tableOf [], rfl, (fun z hz => by rcases List.mem_singleton.mp hz with rfl; exact ⟨by decide, xIA, cl_RL_15, ⟨by decide, by decide, by decide⟩⟩), by decide, by decide, cl_RL_25, rfl⟩, ⟨Or.inr ⟨2, dL_type_10, rfl, rfl⟩, by decide⟩, ?_⟩
      refine J_ldcI hX kI_27 dL_type_11 ?_
      have hn := hno (by rw [h1]; decide)
      rw [h1] at hn
      exact J_iret hX hQ dL_type_13 hn (Nat.le_of_ble_eq_true rfl) (Nat.le_of_ble_eq_true rfl)
  · have hr := h.2.2.1
    subst hr
    exact J_iret hX hQ dL_type_5 (hpo _ _ _ h) (Nat.le_of_ble_eq_true rfl) (Nat.le_of_ble_eq_true rfl)
abbrev hh_undo : List (Nat × Nat × Nat × Nat) := [(0, 4, 5, 25)]
theorem cd_L_undo : Cond.codeWith yL_undo cL_undo 2 (some .int) hh_undo ∈ tb := inT 1051 (by decide +kernel)
theorem cwL_undo : CWH RL 170 yL_undo cL_undo 2 (some .int) hh_undo 1 := ⟨ml_RL_170, sm_L_undo, in_RL, cd_L_undo, by decide +kernel⟩
set_option maxHeartbeats 4000000 in
set_option maxRecDepth 100000 in
theorem m_L_undo {E : EE} {K : Nat → Nat} {M : MM} {x : Nat} {T : Int} {n : Nat} (hE9 : ∀ U, SF E U → ThF E U ∧ NcF U) (hX0 : EyeK K x) (hW : WF T M (x + 1 + 2)) (hV : HV n K M (x + 55) (x + 60)) (hC : Cl K M) {pst : Option Value → (Nat → Nat) → MM → Prop} (hpo : ∀ r K2 M2, (fun r K' M' => (if M (x + 55) 0 = 0 then 3 else 0) = (0 : Int) ∧ K' = K ∧ r = some (vI (M (x + 55) 0 - 1)) ∧ UndX M x M') r K2 M2 → pst r K2 M2) (hno : (((if M (x + 55) 0 = 0 then 3 else 0)) : Int) ≠ 0 → pst (some (vI (fK ((if M (x + 55) 0 = 0 then 3 else 0))))) K M) : CnH E 9 yL_undo cL_undo 2 (some .int) hh_undo [.ref x] K M pst 40 240 := by
  have hx8 : K x ≠ 0 := by rw [hX0.1]; decide
  refine CnH_of RL (by decide) rfl (Nat.le_of_ble_eq_true rfl) (fun X hX hQ hXK hH => ?_)
  refine J_aload_n hX dL_undo_0 rfl ?_
  refine J_callVH hX hH hXK hE9 [] dL_undo_1 cw_RL_101 (m_X9_undo (fun U h => (hE9 U h).1) hX0 hW hV hC) ⟨hX0.1, by decide, by decide, rfl⟩ rfl (Nat.le_of_ble_eq_true rfl) ⟨by decide, by decide⟩ ⟨Nat.le_of_ble_eq_true rfl, Nat.le_of_ble_eq_true rfl⟩ ⟨hx8, trivial⟩ trivial (fun _ _ _ h i hi => by rw [h.2.1]; exact hi) (fun nm h => ?_) (fun r K2 M2 h => ?_)
  · rcases h with ⟨h1, rfl⟩ | ⟨h1, rfl⟩ | ⟨h1, rfl⟩
    · exact absurd h1 (by (repeat' split) <;> decide)
    · exact absurd h1 (by (repeat' split) <;> decide)
    · refine ⟨5, 1, 1, ⟨by decide, tableOf [], ⟨0, 4, 5, 25⟩, tableOf [], rfl, (fun z hz => nomatch hz), by decide, by decide, cl_RL_25, rfl⟩, ⟨Or.inr ⟨1, dL_undo_5, rfl, rfl⟩, by decide⟩, ?_⟩
      refine J_ldcI hX kI_27 dL_undo_6 ?_
      have hn := hno (by rw [h1]; decide)
      rw [h1] at hn
      exact J_iret hX hQ dL_undo_8 hn (Nat.le_of_ble_eq_true rfl) (Nat.le_of_ble_eq_true rfl)
  · have hr := h.2.2.1
    subst hr
    exact J_iret hX hQ dL_undo_4 (hpo _ _ _ h) (Nat.le_of_ble_eq_true rfl) (Nat.le_of_ble_eq_true rfl)
