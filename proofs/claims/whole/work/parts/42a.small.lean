/-! the law's small methods: each calls a face and answers by a number which throw it was -/
theorem cl_RL_13 : Cond.classLink RL 13 xIA ∈ tb := inT 865 (by decide +kernel)
theorem cl_RL_19 : Cond.classLink RL 19 xIO ∈ tb := inT 978 (by decide +kernel)
theorem cl_RL_21 : Cond.classLink RL 21 xIS ∈ tb := inT 979 (by decide +kernel)
/-- which number answers which refusal -/
def XKc (f : Int) (p q s : Int) (k : Int) : Prop := f = 1 ∧ k = p ∨ f = 2 ∧ k = q ∨ f = 3 ∧ k = s
/-- the answer of a small method: the refusal's number, or 0 and the face's answer in the array -/
def WrP (o : Nat) (K : Nat → Nat) (M : MM) (fp : Option Value → (Nat → Nat) → MM → Prop) (xk : Int → Prop) : Option Value → (Nat → Nat) → MM → Prop := fun r K' M' =>
  (∃ k, xk k ∧ r = some (vI k) ∧ K' = K ∧ M' = M) ∨ (r = some (vI 0) ∧ ∃ v, i32 v ∧ ∃ M1, fp (some (vI v)) K' M1 ∧ M' = mset M1 o 0 v)
def WrD (o : Nat) (K : Nat → Nat) (M : MM) (fp : Option Value → (Nat → Nat) → MM → Prop) (xk : Int → Prop) : Option Value → (Nat → Nat) → MM → Prop := fun r K' M' =>
  (∃ k, xk k ∧ r = some (vI k) ∧ K' = K ∧ M' = M) ∨ (r = some (vI 0) ∧ ∃ u : UInt64, ∃ M1, fp (some (.double u)) K' M1 ∧ M' = mset M1 o 0 (u.toNat : Int))
theorem i32_of (z : Int32) : i32 z.toInt := ⟨Int32.le_toInt z, Int32.toInt_le z⟩
theorem vI_n {r : Option Value} {e : Int} (hr : r = some (vI e)) : ∃ v, i32 v ∧ r = some (vI v) := ⟨(Int32.ofInt e).toInt, i32_of _, hr.trans (congrArg some (congrArg Value.int (Int32.ofInt_toInt _).symm))⟩
theorem vI_inj {v w : Int} (hv : i32 v) (hw : i32 w) (h : some (vI v) = some (vI w)) : v = w := (oi_eq hv hw).mp (Value.int.inj (Option.some.inj h))
theorem f2l_c {p q c : Int} (h : f2l p q = c) (hc : c ≠ 0) : p = c ∨ q = c := by
  unfold f2l at h
  split at h
  · exact Or.inr h
  · exact Or.inl h
theorem vDn_u (u : UInt64) : vDn (u.toNat : Int) = .double u := congrArg Value.double UInt64.ofNat_toNat

abbrev hh_begin : List (Nat × Nat × Nat × Nat) := [(0, 10, 13, 13)]
theorem cd_L_begin : Cond.codeWith yL_begin cL_begin 5 (some .int) hh_begin ∈ tb := inT 864 (by decide +kernel)
set_option maxHeartbeats 4000000 in
set_option maxRecDepth 100000 in
theorem m_L_begin {E : EE} {K : Nat → Nat} {M : MM} {x : Nat} {T : Int} {n : Nat} {w h : Int} (hE9 : ∀ U, SF E U → ThF E U ∧ NcF U) (hX0 : EyeK K x) (hW : WF T M (x + 1 + 2)) (hV : HV n K M (x + 55) (x + 60)) (hC : Cl K M) (hw : i32 w) (hh : i32 h) {o : Nat} (ho : K o = 11) : CnH E 9 yL_begin cL_begin 5 (some .int) hh_begin [.ref x, vI w, vI h, .ref o] K M (WrP o K M (fun r K' M' => (if (20 ≤ w ∧ w ≤ 200) ∧ (10 ≤ h ∧ h ≤ 120) then 0 else 2) = (0 : Int) ∧ r = some (vI (M (x + 1 + 2 + 11) 1)) ∧ ∃ M1, KeptX n K M x K' M1 ∧ M' = begM M1 (x + 1 + 2) w h) (XKc ((if (20 ≤ w ∧ w ≤ 200) ∧ (10 ≤ h ∧ h ≤ 120) then 0 else 2)) (-1) 1 (-1))) 17 239 := by
  have hx8 : K x ≠ 0 := by rw [hX0.1]; decide
  have ho9 : K o ≠ 0 := by rw [ho]; decide
  refine CnH_of RL (by decide) rfl (Nat.le_of_ble_eq_true rfl) (fun X hX hQ hXK hH => ?_)
  refine J_aload_n hX dL_begin_0 rfl ?_
  refine J_iconst hX dL_begin_1 ?_
  refine J_aload_n hX dL_begin_2 rfl ?_
  refine J_iload_n hX dL_begin_3 rfl ?_
  refine J_iload_n hX dL_begin_4 rfl ?_
  refine J_callVH hX hH hXK hE9 [vI 0, .ref o] dL_begin_5 cw_RL_7 (m_X9_begin (fun U h => (hE9 U h).1) hX0 hW hV hC hw hh) ⟨hX0.1, by decide, by decide, rfl⟩ rfl (Nat.le_of_ble_eq_true rfl) ⟨by decide, by decide⟩ ⟨Nat.le_of_ble_eq_true rfl, Nat.le_of_ble_eq_true rfl⟩ ⟨hx8, ho9, trivial⟩ ⟨ho9, trivial⟩ (fun _ _ _ h i hi => by obtain ⟨M9, hk9, -⟩ := h.2.2; rw [hk9.1 i hi]; exact hi) (fun nm h => ?_) (fun r K2 M2 h => ?_)
  · rcases h with ⟨h1, rfl⟩ | ⟨h1, rfl⟩ | ⟨h1, rfl⟩
    · exact absurd h1 (by (repeat' split) <;> decide)
    · refine ⟨13, 4, 2, ⟨by decide, tableOf [], ⟨0, 10, 13, 13⟩, tableOf [], rfl, (fun z hz => nomatch hz), by decide, by decide, cl_RL_13, rfl⟩, ⟨Or.inl ⟨dL_begin_13, rfl⟩, by decide⟩, ?_⟩
      refine J_iconst hX dL_begin_15 ?_
      exact J_iret hX hQ dL_begin_16 (Or.inl ⟨1, Or.inr (Or.inl ⟨h1, rfl⟩), rfl, rfl, rfl⟩) (Nat.le_of_ble_eq_true rfl) (Nat.le_of_ble_eq_true rfl)
    · exact absurd h1 (by (repeat' split) <;> decide)
  · obtain ⟨v, hv, hr⟩ := vI_n h.2.1
    subst hr
    refine J_i2l hX dL_begin_8 hv ?_
    refine J_last hX dL_begin_9 (by obtain ⟨M9, hk9, -⟩ := h.2.2; rw [hk9.1 o ho9]; exact ho) (fun M3 hM3 => ?_)
    refine J_goto hX 17 dL_begin_10 (by decide) ?_
    refine J_iconst hX dL_begin_17 ?_
    exact J_iret hX hQ dL_begin_18 (Or.inr ⟨rfl, v, hv, M2, h, hM3⟩) (Nat.le_of_ble_eq_true rfl) (Nat.le_of_ble_eq_true rfl)
abbrev hh_addGroup : List (Nat × Nat × Nat × Nat) := [(0, 14, 17, 19), (0, 14, 21, 13), (0, 14, 25, 21)]
theorem cd_L_addGroup : Cond.codeWith yL_addGroup cL_addGroup 7 (some .int) hh_addGroup ∈ tb := inT 977 (by decide +kernel)
set_option maxHeartbeats 4000000 in
set_option maxRecDepth 100000 in
theorem m_L_addGroup {E : EE} {K : Nat → Nat} {M : MM} {x : Nat} {T : Int} {n : Nat} {p u v w : Int} (hE9 : ∀ U, SF E U → ThF E U ∧ NcF U) (hX0 : EyeK K x) (hW : WF T M (x + 1 + 2)) (hV : HV n K M (x + 55) (x + 60)) (hC : Cl K M) (hp : i32 p) (hu : i32 u) (hv : i32 v) (hw : i32 w) {o : Nat} (ho : K o = 11) : CnH E 9 yL_addGroup cL_addGroup 7 (some .int) hh_addGroup [.ref x, vI p, vI u, vI v, vI w, .ref o] K M (WrP o K M (fun r K' M' => (fG M (x + 1 + 2) p u v w) = (0 : Int) ∧ r = some (vI (M (x + 1 + 2 + 1) 0)) ∧ ∃ M1, KeptX n K M x K' M1 ∧ M' = addM M1 (x + 1 + 2) p u v w 0 0) (XKc ((fG M (x + 1 + 2) p u v w)) 1 2 3)) 17 239 := by
  have hx8 : K x ≠ 0 := by rw [hX0.1]; decide
  have ho9 : K o ≠ 0 := by rw [ho]; decide
  refine CnH_of RL (by decide) rfl (Nat.le_of_ble_eq_true rfl) (fun X hX hQ hXK hH => ?_)
  refine J_aload hX dL_addGroup_0 rfl ?_
  refine J_iconst hX dL_addGroup_2 ?_
  refine J_aload_n hX dL_addGroup_3 rfl ?_
  refine J_iload_n hX dL_addGroup_4 rfl ?_
  refine J_iload_n hX dL_addGroup_5 rfl ?_
  refine J_iload_n hX dL_addGroup_6 rfl ?_
  refine J_iload hX dL_addGroup_7 rfl ?_
  refine J_callVH hX hH hXK hE9 [vI 0, .ref o] dL_addGroup_9 cw_RL_15 (m_X9_addGroup (fun U h => (hE9 U h).1) hX0 hW hV hC hp hu hv hw) ⟨hX0.1, by decide, by decide, rfl⟩ rfl (Nat.le_of_ble_eq_true rfl) ⟨by decide, by decide⟩ ⟨Nat.le_of_ble_eq_true rfl, Nat.le_of_ble_eq_true rfl⟩ ⟨hx8, ho9, trivial⟩ ⟨ho9, trivial⟩ (fun _ _ _ h i hi => by obtain ⟨M9, hk9, -⟩ := h.2.2; rw [hk9.1 i hi]; exact hi) (fun nm h => ?_) (fun r K2 M2 h => ?_)
  · rcases h with ⟨h1, rfl⟩ | ⟨h1, rfl⟩ | ⟨h1, rfl⟩
    · refine ⟨17, 6, 2, ⟨by decide, tableOf [], ⟨0, 14, 17, 19⟩, tableOf [(0, 14, 21, 13), (0, 14, 25, 21)], rfl, (fun z hz => nomatch hz), by decide, by decide, cl_RL_19, rfl⟩, ⟨Or.inl ⟨dL_addGroup_17, rfl⟩, by decide⟩, ?_⟩
      refine J_iconst hX dL_addGroup_19 ?_
      exact J_iret hX hQ dL_addGroup_20 (Or.inl ⟨1, Or.inl ⟨h1, rfl⟩, rfl, rfl, rfl⟩) (Nat.le_of_ble_eq_true rfl) (Nat.le_of_ble_eq_true rfl)
    · refine ⟨21, 6, 2, ⟨by decide, tableOf [(0, 14, 17, 19)], ⟨0, 14, 21, 13⟩, tableOf [(0, 14, 25, 21)], rfl, (fun z hz => by rcases List.mem_singleton.mp hz with rfl; exact ⟨by decide, xIO, cl_RL_19, ⟨by decide, by decide, by decide⟩⟩), by decide, by decide, cl_RL_13, rfl⟩, ⟨Or.inl ⟨dL_addGroup_21, rfl⟩, by decide⟩, ?_⟩
      refine J_iconst hX dL_addGroup_23 ?_
      exact J_iret hX hQ dL_addGroup_24 (Or.inl ⟨2, Or.inr (Or.inl ⟨h1, rfl⟩), rfl, rfl, rfl⟩) (Nat.le_of_ble_eq_true rfl) (Nat.le_of_ble_eq_true rfl)
    · have hpr : ∀ z ∈ tableOf [(0, 14, 17, 19), (0, 14, 21, 13)], z.catchType ≠ 0 ∧ ∃ nm2, Cond.classLink RL z.catchType nm2 ∈ tb ∧ ncq xIS nm2 := by
        intro z hz
        rcases List.mem_cons.mp hz with rfl | hz
        · exact ⟨by decide, xIO, cl_RL_19, ⟨by decide, by decide, by decide⟩⟩
        · rcases List.mem_singleton.mp hz with rfl
          exact ⟨by decide, xIA, cl_RL_13, ⟨by decide, by decide, by decide⟩⟩
      refine ⟨25, 6, 2, ⟨by decide, tableOf [(0, 14, 17, 19), (0, 14, 21, 13)], ⟨0, 14, 25, 21⟩, tableOf [], rfl, hpr, by decide, by decide, cl_RL_21, rfl⟩, ⟨Or.inl ⟨dL_addGroup_25, rfl⟩, by decide⟩, ?_⟩
      refine J_iconst hX dL_addGroup_27 ?_
      exact J_iret hX hQ dL_addGroup_28 (Or.inl ⟨3, Or.inr (Or.inr ⟨h1, rfl⟩), rfl, rfl, rfl⟩) (Nat.le_of_ble_eq_true rfl) (Nat.le_of_ble_eq_true rfl)
  · obtain ⟨v, hv, hr⟩ := vI_n h.2.1
    subst hr
    refine J_i2l hX dL_addGroup_12 hv ?_
    refine J_last hX dL_addGroup_13 (by obtain ⟨M9, hk9, -⟩ := h.2.2; rw [hk9.1 o ho9]; exact ho) (fun M3 hM3 => ?_)
    refine J_goto hX 29 dL_addGroup_14 (by decide) ?_
    refine J_iconst hX dL_addGroup_29 ?_
    exact J_iret hX hQ dL_addGroup_30 (Or.inr ⟨rfl, v, hv, M2, h, hM3⟩) (Nat.le_of_ble_eq_true rfl) (Nat.le_of_ble_eq_true rfl)
abbrev hh_addBox : List (Nat × Nat × Nat × Nat) := [(0, 18, 21, 19), (0, 18, 25, 13), (0, 18, 29, 21)]
theorem cd_L_addBox : Cond.codeWith yL_addBox cL_addBox 9 (some .int) hh_addBox ∈ tb := inT 988 (by decide +kernel)
set_option maxHeartbeats 4000000 in
set_option maxRecDepth 100000 in
theorem m_L_addBox {E : EE} {K : Nat → Nat} {M : MM} {x : Nat} {T : Int} {n : Nat} {p u v w wd hg : Int} (hE9 : ∀ U, SF E U → ThF E U ∧ NcF U) (hX0 : EyeK K x) (hW : WF T M (x + 1 + 2)) (hV : HV n K M (x + 55) (x + 60)) (hC : Cl K M) (hp : i32 p) (hu : i32 u) (hv : i32 v) (hw : i32 w) (hwd : i32 wd) (hhg : i32 hg) {o : Nat} (ho : K o = 11) : CnH E 9 yL_addBox cL_addBox 9 (some .int) hh_addBox [.ref x, vI p, vI u, vI v, vI w, vI wd, vI hg, .ref o] K M (WrP o K M (fun r K' M' => (fB M (x + 1 + 2) p u v w wd hg) = (0 : Int) ∧ r = some (vI (M (x + 1 + 2 + 1) 0)) ∧ ∃ M1, KeptX n K M x K' M1 ∧ M' = addM M1 (x + 1 + 2) p u v w wd hg) (XKc ((fB M (x + 1 + 2) p u v w wd hg)) 1 2 3)) 17 239 := by
  have hx8 : K x ≠ 0 := by rw [hX0.1]; decide
  have ho9 : K o ≠ 0 := by rw [ho]; decide
  refine CnH_of RL (by decide) rfl (Nat.le_of_ble_eq_true rfl) (fun X hX hQ hXK hH => ?_)
  refine J_aload hX dL_addBox_0 rfl ?_
  refine J_iconst hX dL_addBox_2 ?_
  refine J_aload_n hX dL_addBox_3 rfl ?_
  refine J_iload_n hX dL_addBox_4 rfl ?_
  refine J_iload_n hX dL_addBox_5 rfl ?_
  refine J_iload_n hX dL_addBox_6 rfl ?_
  refine J_iload hX dL_addBox_7 rfl ?_
  refine J_iload hX dL_addBox_9 rfl ?_
  refine J_iload hX dL_addBox_11 rfl ?_
  refine J_callVH hX hH hXK hE9 [vI 0, .ref o] dL_addBox_13 cw_RL_23 (m_X9_addBox (fun U h => (hE9 U h).1) hX0 hW hV hC hp hu hv hw hwd hhg) ⟨hX0.1, by decide, by decide, rfl⟩ rfl (Nat.le_of_ble_eq_true rfl) ⟨by decide, by decide⟩ ⟨Nat.le_of_ble_eq_true rfl, Nat.le_of_ble_eq_true rfl⟩ ⟨hx8, ho9, trivial⟩ ⟨ho9, trivial⟩ (fun _ _ _ h i hi => by obtain ⟨M9, hk9, -⟩ := h.2.2; rw [hk9.1 i hi]; exact hi) (fun nm h => ?_) (fun r K2 M2 h => ?_)
  · rcases h with ⟨h1, rfl⟩ | ⟨h1, rfl⟩ | ⟨h1, rfl⟩
    · refine ⟨21, 8, 2, ⟨by decide, tableOf [], ⟨0, 18, 21, 19⟩, tableOf [(0, 18, 25, 13), (0, 18, 29, 21)], rfl, (fun z hz => nomatch hz), by decide, by decide, cl_RL_19, rfl⟩, ⟨Or.inl ⟨dL_addBox_21, rfl⟩, by decide⟩, ?_⟩
      refine J_iconst hX dL_addBox_23 ?_
      exact J_iret hX hQ dL_addBox_24 (Or.inl ⟨1, Or.inl ⟨h1, rfl⟩, rfl, rfl, rfl⟩) (Nat.le_of_ble_eq_true rfl) (Nat.le_of_ble_eq_true rfl)
    · refine ⟨25, 8, 2, ⟨by decide, tableOf [(0, 18, 21, 19)], ⟨0, 18, 25, 13⟩, tableOf [(0, 18, 29, 21)], rfl, (fun z hz => by rcases List.mem_singleton.mp hz with rfl; exact ⟨by decide, xIO, cl_RL_19, ⟨by decide, by decide, by decide⟩⟩), by decide, by decide, cl_RL_13, rfl⟩, ⟨Or.inl ⟨dL_addBox_25, rfl⟩, by decide⟩, ?_⟩
      refine J_iconst hX dL_addBox_27 ?_
      exact J_iret hX hQ dL_addBox_28 (Or.inl ⟨2, Or.inr (Or.inl ⟨h1, rfl⟩), rfl, rfl, rfl⟩) (Nat.le_of_ble_eq_true rfl) (Nat.le_of_ble_eq_true rfl)
    · have hpr : ∀ z ∈ tableOf [(0, 18, 21, 19), (0, 18, 25, 13)], z.catchType ≠ 0 ∧ ∃ nm2, Cond.classLink RL z.catchType nm2 ∈ tb ∧ ncq xIS nm2 := by
        intro z hz
        rcases List.mem_cons.mp hz with rfl | hz
        · exact ⟨by decide, xIO, cl_RL_19, ⟨by decide, by decide, by decide⟩⟩
        · rcases List.mem_singleton.mp hz with rfl
          exact ⟨by decide, xIA, cl_RL_13, ⟨by decide, by decide, by decide⟩⟩
      refine ⟨29, 8, 2, ⟨by decide, tableOf [(0, 18, 21, 19), (0, 18, 25, 13)], ⟨0, 18, 29, 21⟩, tableOf [], rfl, hpr, by decide, by decide, cl_RL_21, rfl⟩, ⟨Or.inl ⟨dL_addBox_29, rfl⟩, by decide⟩, ?_⟩
      refine J_iconst hX dL_addBox_31 ?_
      exact J_iret hX hQ dL_addBox_32 (Or.inl ⟨3, Or.inr (Or.inr ⟨h1, rfl⟩), rfl, rfl, rfl⟩) (Nat.le_of_ble_eq_true rfl) (Nat.le_of_ble_eq_true rfl)
  · obtain ⟨v, hv, hr⟩ := vI_n h.2.1
    subst hr
    refine J_i2l hX dL_addBox_16 hv ?_
    refine J_last hX dL_addBox_17 (by obtain ⟨M9, hk9, -⟩ := h.2.2; rw [hk9.1 o ho9]; exact ho) (fun M3 hM3 => ?_)
    refine J_goto hX 33 dL_addBox_18 (by decide) ?_
    refine J_iconst hX dL_addBox_33 ?_
    exact J_iret hX hQ dL_addBox_34 (Or.inr ⟨rfl, v, hv, M2, h, hM3⟩) (Nat.le_of_ble_eq_true rfl) (Nat.le_of_ble_eq_true rfl)
abbrev hh_move : List (Nat × Nat × Nat × Nat) := [(0, 14, 17, 19), (0, 14, 21, 13)]
theorem cd_L_move : Cond.codeWith yL_move cL_move 7 (some .int) hh_move ∈ tb := inT 997 (by decide +kernel)
set_option maxHeartbeats 4000000 in
set_option maxRecDepth 100000 in
theorem m_L_move {E : EE} {K : Nat → Nat} {M : MM} {x : Nat} {T : Int} {n : Nat} {n9 u v w : Int} (hE9 : ∀ U, SF E U → ThF E U ∧ NcF U) (hX0 : EyeK K x) (hW : WF T M (x + 1 + 2)) (hV : HV n K M (x + 55) (x + 60)) (hC : Cl K M) (hn9 : i32 n9) (hu : i32 u) (hv : i32 v) (hw : i32 w) {o : Nat} (ho : K o = 11) : CnH E 9 yL_move cL_move 7 (some .int) hh_move [.ref x, vI n9, vI u, vI v, vI w, .ref o] K M (WrP o K M (fun r K' M' => (fP M (x + 1 + 2) n9 u v w) = (0 : Int) ∧ r = some (vI (M (x + 1 + 2 + 6) n9)) ∧ ∃ M1, KeptX n K M x K' M1 ∧ M' = movM M1 (x + 1 + 2) n9 u v w) (XKc ((fP M (x + 1 + 2) n9 u v w)) 1 2 (-1))) 17 239 := by
  have hx8 : K x ≠ 0 := by rw [hX0.1]; decide
  have ho9 : K o ≠ 0 := by rw [ho]; decide
  refine CnH_of RL (by decide) rfl (Nat.le_of_ble_eq_true rfl) (fun X hX hQ hXK hH => ?_)
  refine J_aload hX dL_move_0 rfl ?_
  refine J_iconst hX dL_move_2 ?_
  refine J_aload_n hX dL_move_3 rfl ?_
  refine J_iload_n hX dL_move_4 rfl ?_
  refine J_iload_n hX dL_move_5 rfl ?_
  refine J_iload_n hX dL_move_6 rfl ?_
  refine J_iload hX dL_move_7 rfl ?_
  refine J_callVH hX hH hXK hE9 [vI 0, .ref o] dL_move_9 cw_RL_27 (m_X9_move (fun U h => (hE9 U h).1) hX0 hW hV hC hn9 hu hv hw) ⟨hX0.1, by decide, by decide, rfl⟩ rfl (Nat.le_of_ble_eq_true rfl) ⟨by decide, by decide⟩ ⟨Nat.le_of_ble_eq_true rfl, Nat.le_of_ble_eq_true rfl⟩ ⟨hx8, ho9, trivial⟩ ⟨ho9, trivial⟩ (fun _ _ _ h i hi => by obtain ⟨M9, hk9, -⟩ := h.2.2; rw [hk9.1 i hi]; exact hi) (fun nm h => ?_) (fun r K2 M2 h => ?_)
  · rcases h with ⟨h1, rfl⟩ | ⟨h1, rfl⟩ | ⟨h1, rfl⟩
    · refine ⟨17, 6, 2, ⟨by decide, tableOf [], ⟨0, 14, 17, 19⟩, tableOf [(0, 14, 21, 13)], rfl, (fun z hz => nomatch hz), by decide, by decide, cl_RL_19, rfl⟩, ⟨Or.inl ⟨dL_move_17, rfl⟩, by decide⟩, ?_⟩
      refine J_iconst hX dL_move_19 ?_
      exact J_iret hX hQ dL_move_20 (Or.inl ⟨1, Or.inl ⟨h1, rfl⟩, rfl, rfl, rfl⟩) (Nat.le_of_ble_eq_true rfl) (Nat.le_of_ble_eq_true rfl)
    · refine ⟨21, 6, 2, ⟨by decide, tableOf [(0, 14, 17, 19)], ⟨0, 14, 21, 13⟩, tableOf [], rfl, (fun z hz => by rcases List.mem_singleton.mp hz with rfl; exact ⟨by decide, xIO, cl_RL_19, ⟨by decide, by decide, by decide⟩⟩), by decide, by decide, cl_RL_13, rfl⟩, ⟨Or.inl ⟨dL_move_21, rfl⟩, by decide⟩, ?_⟩
      refine J_iconst hX dL_move_23 ?_
      exact J_iret hX hQ dL_move_24 (Or.inl ⟨2, Or.inr (Or.inl ⟨h1, rfl⟩), rfl, rfl, rfl⟩) (Nat.le_of_ble_eq_true rfl) (Nat.le_of_ble_eq_true rfl)
    · exact absurd h1 (by unfold fP; (repeat' split) <;> decide)
  · obtain ⟨v, hv, hr⟩ := vI_n h.2.1
    subst hr
    refine J_i2l hX dL_move_12 hv ?_
    refine J_last hX dL_move_13 (by obtain ⟨M9, hk9, -⟩ := h.2.2; rw [hk9.1 o ho9]; exact ho) (fun M3 hM3 => ?_)
    refine J_goto hX 25 dL_move_14 (by decide) ?_
    refine J_iconst hX dL_move_25 ?_
    exact J_iret hX hQ dL_move_26 (Or.inr ⟨rfl, v, hv, M2, h, hM3⟩) (Nat.le_of_ble_eq_true rfl) (Nat.le_of_ble_eq_true rfl)
abbrev hh_setShade : List (Nat × Nat × Nat × Nat) := [(0, 10, 13, 19), (0, 10, 17, 13)]
theorem cd_L_setShade : Cond.codeWith yL_setShade cL_setShade 5 (some .int) hh_setShade ∈ tb := inT 1006 (by decide +kernel)
set_option maxHeartbeats 4000000 in
set_option maxRecDepth 100000 in
theorem m_L_setShade {E : EE} {K : Nat → Nat} {M : MM} {x : Nat} {T : Int} {n : Nat} {n9 s : Int} (hE9 : ∀ U, SF E U → ThF E U ∧ NcF U) (hX0 : EyeK K x) (hW : WF T M (x + 1 + 2)) (hV : HV n K M (x + 55) (x + 60)) (hC : Cl K M) (hn9 : i32 n9) (hs : i32 s) {o : Nat} (ho : K o = 11) : CnH E 9 yL_setShade cL_setShade 5 (some .int) hh_setShade [.ref x, vI n9, vI s, .ref o] K M (WrP o K M (fun r K' M' => (fCo M (x + 1 + 2) n9 s) = (0 : Int) ∧ r = some (vI (M (x + 1 + 2 + 9) n9)) ∧ ∃ M1, KeptX n K M x K' M1 ∧ M' = mset M1 (x + 1 + 2 + 9) n9 s) (XKc ((fCo M (x + 1 + 2) n9 s)) 1 2 (-1))) 17 239 := by
  have hx8 : K x ≠ 0 := by rw [hX0.1]; decide
  have ho9 : K o ≠ 0 := by rw [ho]; decide
  refine CnH_of RL (by decide) rfl (Nat.le_of_ble_eq_true rfl) (fun X hX hQ hXK hH => ?_)
  refine J_aload_n hX dL_setShade_0 rfl ?_
  refine J_iconst hX dL_setShade_1 ?_
  refine J_aload_n hX dL_setShade_2 rfl ?_
  refine J_iload_n hX dL_setShade_3 rfl ?_
  refine J_iload_n hX dL_setShade_4 rfl ?_
  refine J_callVH hX hH hXK hE9 [vI 0, .ref o] dL_setShade_5 cw_RL_30 (m_X9_setShade (fun U h => (hE9 U h).1) hX0 hW hV hC hn9 hs) ⟨hX0.1, by decide, by decide, rfl⟩ rfl (Nat.le_of_ble_eq_true rfl) ⟨by decide, by decide⟩ ⟨Nat.le_of_ble_eq_true rfl, Nat.le_of_ble_eq_true rfl⟩ ⟨hx8, ho9, trivial⟩ ⟨ho9, trivial⟩ (fun _ _ _ h i hi => by obtain ⟨M9, hk9, -⟩ := h.2.2; rw [hk9.1 i hi]; exact hi) (fun nm h => ?_) (fun r K2 M2 h => ?_)
  · rcases h with ⟨h1, rfl⟩ | ⟨h1, rfl⟩ | ⟨h1, rfl⟩
    · refine ⟨13, 4, 2, ⟨by decide, tableOf [], ⟨0, 10, 13, 19⟩, tableOf [(0, 10, 17, 13)], rfl, (fun z hz => nomatch hz), by decide, by decide, cl_RL_19, rfl⟩, ⟨Or.inl ⟨dL_setShade_13, rfl⟩, by decide⟩, ?_⟩
      refine J_iconst hX dL_setShade_15 ?_
      exact J_iret hX hQ dL_setShade_16 (Or.inl ⟨1, Or.inl ⟨h1, rfl⟩, rfl, rfl, rfl⟩) (Nat.le_of_ble_eq_true rfl) (Nat.le_of_ble_eq_true rfl)
    · refine ⟨17, 4, 2, ⟨by decide, tableOf [(0, 10, 13, 19)], ⟨0, 10, 17, 13⟩, tableOf [], rfl, (fun z hz => by rcases List.mem_singleton.mp hz with rfl; exact ⟨by decide, xIO, cl_RL_19, ⟨by decide, by decide, by decide⟩⟩), by decide, by decide, cl_RL_13, rfl⟩, ⟨Or.inl ⟨dL_setShade_17, rfl⟩, by decide⟩, ?_⟩
      refine J_iconst hX dL_setShade_19 ?_
      exact J_iret hX hQ dL_setShade_20 (Or.inl ⟨2, Or.inr (Or.inl ⟨h1, rfl⟩), rfl, rfl, rfl⟩) (Nat.le_of_ble_eq_true rfl) (Nat.le_of_ble_eq_true rfl)
    · exact absurd h1 (by unfold fCo; (repeat' split) <;> decide)
  · obtain ⟨v, hv, hr⟩ := vI_n h.2.1
    subst hr
    refine J_i2l hX dL_setShade_8 hv ?_
    refine J_last hX dL_setShade_9 (by obtain ⟨M9, hk9, -⟩ := h.2.2; rw [hk9.1 o ho9]; exact ho) (fun M3 hM3 => ?_)
    refine J_goto hX 21 dL_setShade_10 (by decide) ?_
    refine J_iconst hX dL_setShade_21 ?_
    exact J_iret hX hQ dL_setShade_22 (Or.inr ⟨rfl, v, hv, M2, h, hM3⟩) (Nat.le_of_ble_eq_true rfl) (Nat.le_of_ble_eq_true rfl)
abbrev hh_removeNode : List (Nat × Nat × Nat × Nat) := [(0, 9, 12, 19)]
theorem cd_L_removeNode : Cond.codeWith yL_removeNode cL_removeNode 4 (some .int) hh_removeNode ∈ tb := inT 1021 (by decide +kernel)
set_option maxHeartbeats 4000000 in
set_option maxRecDepth 100000 in
theorem m_L_removeNode {E : EE} {K : Nat → Nat} {M : MM} {x : Nat} {T : Int} {n : Nat} {n9 : Int} (hE9 : ∀ U, SF E U → ThF E U ∧ NcF U) (hX0 : EyeK K x) (hW : WF T M (x + 1 + 2)) (hV : HV n K M (x + 55) (x + 60)) (hC : Cl K M) (hn9 : i32 n9) {o : Nat} (ho : K o = 11) : CnH E 9 yL_removeNode cL_removeNode 4 (some .int) hh_removeNode [.ref x, vI n9, .ref o] K M (WrP o K M (fun r K' M' => (if has M (x + 1 + 2) n9 then 0 else 1) = (0 : Int) ∧ r = some (vI (nwn (stg M (x + 1 + 2)) n9 (M (x + 1 + 2 + 1) 0))) ∧ ∃ M1, KeptX n K M x K' M1 ∧ Drd (stg M (x + 1 + 2)) (stg M' (x + 1 + 2)) n9 ∧ ∀ i, i < x + 1 + 2 + 1 ∨ x + 1 + 2 + 10 < i → M' i = M1 i) (XKc ((if has M (x + 1 + 2) n9 then 0 else 1)) 1 (-1) (-1))) 17 239 := by
  have hx8 : K x ≠ 0 := by rw [hX0.1]; decide
  have ho9 : K o ≠ 0 := by rw [ho]; decide
  refine CnH_of RL (by decide) rfl (Nat.le_of_ble_eq_true rfl) (fun X hX hQ hXK hH => ?_)
  refine J_aload_n hX dL_removeNode_0 rfl ?_
  refine J_iconst hX dL_removeNode_1 ?_
  refine J_aload_n hX dL_removeNode_2 rfl ?_
  refine J_iload_n hX dL_removeNode_3 rfl ?_
  refine J_callVH hX hH hXK hE9 [vI 0, .ref o] dL_removeNode_4 cw_RL_33 (m_X9_removeNode (fun U h => (hE9 U h).1) hX0 hW hV hC hn9) ⟨hX0.1, by decide, by decide, rfl⟩ rfl (Nat.le_of_ble_eq_true rfl) ⟨by decide, by decide⟩ ⟨Nat.le_of_ble_eq_true rfl, Nat.le_of_ble_eq_true rfl⟩ ⟨hx8, ho9, trivial⟩ ⟨ho9, trivial⟩ (fun _ _ _ h i hi => by obtain ⟨M9, hk9, -⟩ := h.2.2; rw [hk9.1 i hi]; exact hi) (fun nm h => ?_) (fun r K2 M2 h => ?_)
  · rcases h with ⟨h1, rfl⟩ | ⟨h1, rfl⟩ | ⟨h1, rfl⟩
    · refine ⟨12, 3, 1, ⟨by decide, tableOf [], ⟨0, 9, 12, 19⟩, tableOf [], rfl, (fun z hz => nomatch hz), by decide, by decide, cl_RL_19, rfl⟩, ⟨Or.inr ⟨3, dL_removeNode_12, rfl, rfl⟩, by decide⟩, ?_⟩
      refine J_iconst hX dL_removeNode_13 ?_
      exact J_iret hX hQ dL_removeNode_14 (Or.inl ⟨1, Or.inl ⟨h1, rfl⟩, rfl, rfl, rfl⟩) (Nat.le_of_ble_eq_true rfl) (Nat.le_of_ble_eq_true rfl)
    · exact absurd h1 (by (repeat' split) <;> decide)
    · exact absurd h1 (by (repeat' split) <;> decide)
  · obtain ⟨v, hv, hr⟩ := vI_n h.2.1
    subst hr
    refine J_i2l hX dL_removeNode_7 hv ?_
    refine J_last hX dL_removeNode_8 (by obtain ⟨M9, hk9, -⟩ := h.2.2; rw [hk9.1 o ho9]; exact ho) (fun M3 hM3 => ?_)
    refine J_goto hX 15 dL_removeNode_9 (by decide) ?_
    refine J_iconst hX dL_removeNode_15 ?_
    exact J_iret hX hQ dL_removeNode_16 (Or.inr ⟨rfl, v, hv, M2, h, hM3⟩) (Nat.le_of_ble_eq_true rfl) (Nat.le_of_ble_eq_true rfl)
abbrev hh_addScene : List (Nat × Nat × Nat × Nat) := [(0, 12, 15, 13), (0, 12, 19, 21)]
theorem cd_L_addScene : Cond.codeWith yL_addScene cL_addScene 6 (some .int) hh_addScene ∈ tb := inT 1030 (by decide +kernel)
set_option maxHeartbeats 4000000 in
set_option maxRecDepth 100000 in
theorem m_L_addScene {E : EE} {K : Nat → Nat} {M : MM} {x : Nat} {T : Int} {n : Nat} {l g t : Int} (hE9 : ∀ U, SF E U → ThF E U ∧ NcF U) (hX0 : EyeK K x) (hW : WF T M (x + 1 + 2)) (hV : HV n K M (x + 55) (x + 60)) (hC : Cl K M) (hl : i32 l) (hg : i32 g) (ht : i32 t) {o : Nat} (ho : K o = 11) : CnH E 9 yL_addScene cL_addScene 6 (some .int) hh_addScene [.ref x, vI l, vI g, vI t, .ref o] K M (WrP o K M (fun r K' M' => (fS M (x + 1 + 2) l g t) = (0 : Int) ∧ r = some (vI (M (x + 1 + 2 + 11) 0)) ∧ ∃ M1, KeptX n K M x K' M1 ∧ M' = scM M1 (x + 1 + 2) l g t) (XKc ((fS M (x + 1 + 2) l g t)) (-1) 1 2)) 17 239 := by
  have hx8 : K x ≠ 0 := by rw [hX0.1]; decide
  have ho9 : K o ≠ 0 := by rw [ho]; decide
  refine CnH_of RL (by decide) rfl (Nat.le_of_ble_eq_true rfl) (fun X hX hQ hXK hH => ?_)
  refine J_aload hX dL_addScene_0 rfl ?_
  refine J_iconst hX dL_addScene_2 ?_
  refine J_aload_n hX dL_addScene_3 rfl ?_
  refine J_iload_n hX dL_addScene_4 rfl ?_
  refine J_iload_n hX dL_addScene_5 rfl ?_
  refine J_iload_n hX dL_addScene_6 rfl ?_
  refine J_callVH hX hH hXK hE9 [vI 0, .ref o] dL_addScene_7 cw_RL_37 (m_X9_addScene (fun U h => (hE9 U h).1) hX0 hW hV hC hl hg ht) ⟨hX0.1, by decide, by decide, rfl⟩ rfl (Nat.le_of_ble_eq_true rfl) ⟨by decide, by decide⟩ ⟨Nat.le_of_ble_eq_true rfl, Nat.le_of_ble_eq_true rfl⟩ ⟨hx8, ho9, trivial⟩ ⟨ho9, trivial⟩ (fun _ _ _ h i hi => by obtain ⟨M9, hk9, -⟩ := h.2.2; rw [hk9.1 i hi]; exact hi) (fun nm h => ?_) (fun r K2 M2 h => ?_)
  · rcases h with ⟨h1, rfl⟩ | ⟨h1, rfl⟩ | ⟨h1, rfl⟩
    · exact absurd h1 (by unfold fS; (repeat' split) <;> decide)
    · refine ⟨15, 5, 2, ⟨by decide, tableOf [], ⟨0, 12, 15, 13⟩, tableOf [(0, 12, 19, 21)], rfl, (fun z hz => nomatch hz), by decide, by decide, cl_RL_13, rfl⟩, ⟨Or.inl ⟨dL_addScene_15, rfl⟩, by decide⟩, ?_⟩
      refine J_iconst hX dL_addScene_17 ?_
      exact J_iret hX hQ dL_addScene_18 (Or.inl ⟨1, Or.inr (Or.inl ⟨h1, rfl⟩), rfl, rfl, rfl⟩) (Nat.le_of_ble_eq_true rfl) (Nat.le_of_ble_eq_true rfl)
    · refine ⟨19, 5, 2, ⟨by decide, tableOf [(0, 12, 15, 13)], ⟨0, 12, 19, 21⟩, tableOf [], rfl, (fun z hz => by rcases List.mem_singleton.mp hz with rfl; exact ⟨by decide, xIA, cl_RL_13, ⟨by decide, by decide, by decide⟩⟩), by decide, by decide, cl_RL_21, rfl⟩, ⟨Or.inl ⟨dL_addScene_19, rfl⟩, by decide⟩, ?_⟩
      refine J_iconst hX dL_addScene_21 ?_
      exact J_iret hX hQ dL_addScene_22 (Or.inl ⟨2, Or.inr (Or.inr ⟨h1, rfl⟩), rfl, rfl, rfl⟩) (Nat.le_of_ble_eq_true rfl) (Nat.le_of_ble_eq_true rfl)
  · obtain ⟨v, hv, hr⟩ := vI_n h.2.1
    subst hr
    refine J_i2l hX dL_addScene_10 hv ?_
    refine J_last hX dL_addScene_11 (by obtain ⟨M9, hk9, -⟩ := h.2.2; rw [hk9.1 o ho9]; exact ho) (fun M3 hM3 => ?_)
    refine J_goto hX 23 dL_addScene_12 (by decide) ?_
    refine J_iconst hX dL_addScene_23 ?_
    exact J_iret hX hQ dL_addScene_24 (Or.inr ⟨rfl, v, hv, M2, h, hM3⟩) (Nat.le_of_ble_eq_true rfl) (Nat.le_of_ble_eq_true rfl)
abbrev hh_set : List (Nat × Nat × Nat × Nat) := [(0, 10, 13, 13)]
theorem cd_L_set : Cond.codeWith yL_set cL_set 5 (some .int) hh_set ∈ tb := inT 1039 (by decide +kernel)
set_option maxHeartbeats 4000000 in
set_option maxRecDepth 100000 in
theorem m_L_set {E : EE} {K : Nat → Nat} {M : MM} {x : Nat} {T : Int} {n : Nat} {w v : Int} (hE9 : ∀ U, SF E U → ThF E U ∧ NcF U) (hX0 : EyeK K x) (hW : WF T M (x + 1 + 2)) (hV : HV n K M (x + 55) (x + 60)) (hC : Cl K M) (hw : i32 w) (hv : i32 v) (hE2 : ∀ U, SF E U → CF E U) (hz : ∀ i, 1000000 ≤ i → K i = 0) {o : Nat} (ho : K o = 11) : CnH E 9 yL_set cL_set 5 (some .int) hh_set [.ref x, vI w, vI v, .ref o] K M (WrP o K M (fun r K' M' => (if fSe w v then 0 else 2) = (0 : Int) ∧ r = some (vI (M (x + 1 + 2 + 15) w)) ∧ ∃ M1, KeptX n K M x K' M1 ∧ M' = mset M1 (x + 1 + 2 + 15) w v) (XKc ((if fSe w v then 0 else 2)) (-1) 1 (-1))) 17 239 := by
  have hx8 : K x ≠ 0 := by rw [hX0.1]; decide
  have ho9 : K o ≠ 0 := by rw [ho]; decide
  refine CnH_of RL (by decide) rfl (Nat.le_of_ble_eq_true rfl) (fun X hX hQ hXK hH => ?_)
  refine J_aload_n hX dL_set_0 rfl ?_
  refine J_iconst hX dL_set_1 ?_
  refine J_aload_n hX dL_set_2 rfl ?_
  refine J_iload_n hX dL_set_3 rfl ?_
  refine J_iload_n hX dL_set_4 rfl ?_
  refine J_callVH hX hH hXK hE9 [vI 0, .ref o] dL_set_5 cw_RL_41 (m_X9_set (fun U h => (hE9 U h).1) hX0 hW hV hC hw hv hE2 hz) ⟨hX0.1, by decide, by decide, rfl⟩ rfl (Nat.le_of_ble_eq_true rfl) ⟨by decide, by decide⟩ ⟨Nat.le_of_ble_eq_true rfl, Nat.le_of_ble_eq_true rfl⟩ ⟨hx8, ho9, trivial⟩ ⟨ho9, trivial⟩ (fun _ _ _ h i hi => by obtain ⟨M9, hk9, -⟩ := h.2.2; rw [hk9.1 i hi]; exact hi) (fun nm h => ?_) (fun r K2 M2 h => ?_)
  · rcases h with ⟨h1, rfl⟩ | ⟨h1, rfl⟩ | ⟨h1, rfl⟩
    · exact absurd h1 (by (repeat' split) <;> decide)
    · refine ⟨13, 4, 2, ⟨by decide, tableOf [], ⟨0, 10, 13, 13⟩, tableOf [], rfl, (fun z hz => nomatch hz), by decide, by decide, cl_RL_13, rfl⟩, ⟨Or.inl ⟨dL_set_13, rfl⟩, by decide⟩, ?_⟩
      refine J_iconst hX dL_set_15 ?_
      exact J_iret hX hQ dL_set_16 (Or.inl ⟨1, Or.inr (Or.inl ⟨h1, rfl⟩), rfl, rfl, rfl⟩) (Nat.le_of_ble_eq_true rfl) (Nat.le_of_ble_eq_true rfl)
    · exact absurd h1 (by (repeat' split) <;> decide)
  · obtain ⟨v, hv, hr⟩ := vI_n h.2.1
    subst hr
    refine J_i2l hX dL_set_8 hv ?_
    refine J_last hX dL_set_9 (by obtain ⟨M9, hk9, -⟩ := h.2.2; rw [hk9.1 o ho9]; exact ho) (fun M3 hM3 => ?_)
    refine J_goto hX 17 dL_set_10 (by decide) ?_
    refine J_iconst hX dL_set_17 ?_
    exact J_iret hX hQ dL_set_18 (Or.inr ⟨rfl, v, hv, M2, h, hM3⟩) (Nat.le_of_ble_eq_true rfl) (Nat.le_of_ble_eq_true rfl)
abbrev hh_setTitle : List (Nat × Nat × Nat × Nat) := [(0, 12, 15, 13)]
theorem cd_L_setTitle : Cond.codeWith yL_setTitle cL_setTitle 6 (some .int) hh_setTitle ∈ tb := inT 1048 (by decide +kernel)
set_option maxHeartbeats 4000000 in
set_option maxRecDepth 100000 in
theorem m_L_setTitle {E : EE} {K : Nat → Nat} {M : MM} {x : Nat} {T : Int} {n : Nat} {u v l : Int} (hE9 : ∀ U, SF E U → ThF E U ∧ NcF U) (hX0 : EyeK K x) (hW : WF T M (x + 1 + 2)) (hV : HV n K M (x + 55) (x + 60)) (hC : Cl K M) (hu : i32 u) (hv : i32 v) (hl : i32 l) {o : Nat} (ho : K o = 11) : CnH E 9 yL_setTitle cL_setTitle 6 (some .int) hh_setTitle [.ref x, vI u, vI v, vI l, .ref o] K M (WrP o K M (fun r K' M' => (fT M (x + 1 + 2) u v l) = (0 : Int) ∧ r = some (vI (M (x + 1 + 2) 7)) ∧ ∃ M1, KeptX n K M x K' M1 ∧ M' = entM M1 (x + 1 + 2) u v l) (XKc ((fT M (x + 1 + 2) u v l)) (-1) 1 (-1))) 17 239 := by
  have hx8 : K x ≠ 0 := by rw [hX0.1]; decide
  have ho9 : K o ≠ 0 := by rw [ho]; decide
  refine CnH_of RL (by decide) rfl (Nat.le_of_ble_eq_true rfl) (fun X hX hQ hXK hH => ?_)
  refine J_aload hX dL_setTitle_0 rfl ?_
  refine J_iconst hX dL_setTitle_2 ?_
  refine J_aload_n hX dL_setTitle_3 rfl ?_
  refine J_iload_n hX dL_setTitle_4 rfl ?_
  refine J_iload_n hX dL_setTitle_5 rfl ?_
  refine J_iload_n hX dL_setTitle_6 rfl ?_
  refine J_callVH hX hH hXK hE9 [vI 0, .ref o] dL_setTitle_7 cw_RL_44 (m_X9_setTitle (fun U h => (hE9 U h).1) hX0 hW hV hC hu hv hl) ⟨hX0.1, by decide, by decide, rfl⟩ rfl (Nat.le_of_ble_eq_true rfl) ⟨by decide, by decide⟩ ⟨Nat.le_of_ble_eq_true rfl, Nat.le_of_ble_eq_true rfl⟩ ⟨hx8, ho9, trivial⟩ ⟨ho9, trivial⟩ (fun _ _ _ h i hi => by obtain ⟨M9, hk9, -⟩ := h.2.2; rw [hk9.1 i hi]; exact hi) (fun nm h => ?_) (fun r K2 M2 h => ?_)
  · rcases h with ⟨h1, rfl⟩ | ⟨h1, rfl⟩ | ⟨h1, rfl⟩
    · exact absurd h1 (by unfold fT; (repeat' split) <;> decide)
    · refine ⟨15, 5, 2, ⟨by decide, tableOf [], ⟨0, 12, 15, 13⟩, tableOf [], rfl, (fun z hz => nomatch hz), by decide, by decide, cl_RL_13, rfl⟩, ⟨Or.inl ⟨dL_setTitle_15, rfl⟩, by decide⟩, ?_⟩
      refine J_iconst hX dL_setTitle_17 ?_
      exact J_iret hX hQ dL_setTitle_18 (Or.inl ⟨1, Or.inr (Or.inl ⟨h1, rfl⟩), rfl, rfl, rfl⟩) (Nat.le_of_ble_eq_true rfl) (Nat.le_of_ble_eq_true rfl)
    · exact absurd h1 (by unfold fT; (repeat' split) <;> decide)
  · obtain ⟨v, hv, hr⟩ := vI_n h.2.1
    subst hr
    refine J_i2l hX dL_setTitle_10 hv ?_
    refine J_last hX dL_setTitle_11 (by obtain ⟨M9, hk9, -⟩ := h.2.2; rw [hk9.1 o ho9]; exact ho) (fun M3 hM3 => ?_)
    refine J_goto hX 19 dL_setTitle_12 (by decide) ?_
    refine J_iconst hX dL_setTitle_19 ?_
    exact J_iret hX hQ dL_setTitle_20 (Or.inr ⟨rfl, v, hv, M2, h, hM3⟩) (Nat.le_of_ble_eq_true rfl) (Nat.le_of_ble_eq_true rfl)
abbrev hh_tick : List (Nat × Nat × Nat × Nat) := [(0, 9, 12, 13)]
theorem cd_L_tick : Cond.codeWith yL_tick cL_tick 4 (some .int) hh_tick ∈ tb := inT 1056 (by decide +kernel)
set_option maxHeartbeats 4000000 in
set_option maxRecDepth 100000 in
theorem m_L_tick {E : EE} {K : Nat → Nat} {M : MM} {x : Nat} {T : Int} {n : Nat} {t : Int} (hE9 : ∀ U, SF E U → ThF E U ∧ NcF U) (hX0 : EyeK K x) (hW : WF T M (x + 1 + 2)) (hV : HV n K M (x + 55) (x + 60)) (hC : Cl K M) (ht : i32 t) (hTt : T + 200 ≤ 1000000000) {o : Nat} (ho : K o = 11) : CnH E 9 yL_tick cL_tick 4 (some .int) hh_tick [.ref x, vI t, .ref o] K M (WrP o K M (fun r K' M' => (if 1 ≤ t ∧ t ≤ 200 then 0 else 2) = (0 : Int) ∧ r = some (vI (M' (x + 1 + 2 + 11) 1)) ∧ ∃ M1, KeptX n K M x K' M1 ∧ M' = tkN (x + 1 + 2) (M (x + 1 + 2 + 15) 1) t.toNat M1) (XKc ((if 1 ≤ t ∧ t ≤ 200 then 0 else 2)) (-1) 1 (-1))) 17 239 := by
  have hx8 : K x ≠ 0 := by rw [hX0.1]; decide
  have ho9 : K o ≠ 0 := by rw [ho]; decide
  refine CnH_of RL (by decide) rfl (Nat.le_of_ble_eq_true rfl) (fun X hX hQ hXK hH => ?_)
  refine J_aload_n hX dL_tick_0 rfl ?_
  refine J_iconst hX dL_tick_1 ?_
  refine J_aload_n hX dL_tick_2 rfl ?_
  refine J_iload_n hX dL_tick_3 rfl ?_
  refine J_callVH hX hH hXK hE9 [vI 0, .ref o] dL_tick_4 cw_RL_47 (m_X9_tick (fun U h => (hE9 U h).1) hX0 hW hV hC ht hTt) ⟨hX0.1, by decide, by decide, rfl⟩ rfl (Nat.le_of_ble_eq_true rfl) ⟨by decide, by decide⟩ ⟨Nat.le_of_ble_eq_true rfl, Nat.le_of_ble_eq_true rfl⟩ ⟨hx8, ho9, trivial⟩ ⟨ho9, trivial⟩ (fun _ _ _ h i hi => by obtain ⟨M9, hk9, -⟩ := h.2.2; rw [hk9.1 i hi]; exact hi) (fun nm h => ?_) (fun r K2 M2 h => ?_)
  · rcases h with ⟨h1, rfl⟩ | ⟨h1, rfl⟩ | ⟨h1, rfl⟩
    · exact absurd h1 (by (repeat' split) <;> decide)
    · refine ⟨12, 3, 1, ⟨by decide, tableOf [], ⟨0, 9, 12, 13⟩, tableOf [], rfl, (fun z hz => nomatch hz), by decide, by decide, cl_RL_13, rfl⟩, ⟨Or.inr ⟨3, dL_tick_12, rfl, rfl⟩, by decide⟩, ?_⟩
      refine J_iconst hX dL_tick_13 ?_
      exact J_iret hX hQ dL_tick_14 (Or.inl ⟨1, Or.inr (Or.inl ⟨h1, rfl⟩), rfl, rfl, rfl⟩) (Nat.le_of_ble_eq_true rfl) (Nat.le_of_ble_eq_true rfl)
    · exact absurd h1 (by (repeat' split) <;> decide)
  · obtain ⟨v, hv, hr⟩ := vI_n h.2.1
    subst hr
    refine J_i2l hX dL_tick_7 hv ?_
    refine J_last hX dL_tick_8 (by obtain ⟨M9, hk9, -⟩ := h.2.2; rw [hk9.1 o ho9]; exact ho) (fun M3 hM3 => ?_)
    refine J_goto hX 15 dL_tick_9 (by decide) ?_
    refine J_iconst hX dL_tick_15 ?_
    exact J_iret hX hQ dL_tick_16 (Or.inr ⟨rfl, v, hv, M2, h, hM3⟩) (Nat.le_of_ble_eq_true rfl) (Nat.le_of_ble_eq_true rfl)
abbrev hh_node : List (Nat × Nat × Nat × Nat) := [(0, 10, 13, 19), (0, 10, 17, 13)]
theorem cd_L_node : Cond.codeWith yL_node cL_node 5 (some .int) hh_node ∈ tb := inT 1065 (by decide +kernel)
set_option maxHeartbeats 4000000 in
set_option maxRecDepth 100000 in
theorem m_L_node {E : EE} {K : Nat → Nat} {M : MM} {x : Nat} {T : Int} {n9 k : Int} (hE9 : ∀ U, SF E U → ThF E U ∧ NcF U) (hX0 : EyeK K x) (hW : WF T M (x + 1 + 2)) (hF : Frs M x) (hn9 : i32 n9) (hk : i32 k) {o : Nat} (ho : K o = 11) : CnH E 9 yL_node cL_node 5 (some .int) hh_node [.ref x, vI n9, vI k, .ref o] K M (WrP o K M (fun r K' M' => f2l (if has M (x + 1 + 2) n9 then 0 else 1) (if 0 ≤ k ∧ k ≤ 15 then 0 else 2) = (0 : Int) ∧ K' = K ∧ r = some (vI (nvl (stg M (x + 1 + 2)) n9 k)) ∧ Lkd M x M') (XKc ((f2l (if has M (x + 1 + 2) n9 then 0 else 1) (if 0 ≤ k ∧ k ≤ 15 then 0 else 2))) 1 2 (-1))) 2 12 := by
  have hx8 : K x ≠ 0 := by rw [hX0.1]; decide
  have ho9 : K o ≠ 0 := by rw [ho]; decide
  refine CnH_of RL (by decide) rfl (Nat.le_of_ble_eq_true rfl) (fun X hX hQ hXK hH => ?_)
  refine J_aload_n hX dL_node_0 rfl ?_
  refine J_iconst hX dL_node_1 ?_
  refine J_aload_n hX dL_node_2 rfl ?_
  refine J_iload_n hX dL_node_3 rfl ?_
  refine J_iload_n hX dL_node_4 rfl ?_
  refine J_callVH hX hH hXK hE9 [vI 0, .ref o] dL_node_5 cw_RL_50 (m_X9_node (fun U h => (hE9 U h).1) hX0 hW hF hn9 hk) ⟨hX0.1, by decide, by decide, rfl⟩ rfl (Nat.le_of_ble_eq_true rfl) ⟨by decide, by decide⟩ ⟨Nat.le_of_ble_eq_true rfl, Nat.le_of_ble_eq_true rfl⟩ ⟨hx8, ho9, trivial⟩ ⟨ho9, trivial⟩ (fun _ _ _ h i hi => by rw [h.2.1]; exact hi) (fun nm h => ?_) (fun r K2 M2 h => ?_)
  · rcases h with ⟨h1, rfl⟩ | ⟨h1, rfl⟩ | ⟨h1, rfl⟩
    · refine ⟨13, 4, 2, ⟨by decide, tableOf [], ⟨0, 10, 13, 19⟩, tableOf [(0, 10, 17, 13)], rfl, (fun z hz => nomatch hz), by decide, by decide, cl_RL_19, rfl⟩, ⟨Or.inl ⟨dL_node_13, rfl⟩, by decide⟩, ?_⟩
      refine J_iconst hX dL_node_15 ?_
      exact J_iret hX hQ dL_node_16 (Or.inl ⟨1, Or.inl ⟨h1, rfl⟩, rfl, rfl, rfl⟩) (Nat.le_of_ble_eq_true rfl) (Nat.le_of_ble_eq_true rfl)
    · refine ⟨17, 4, 2, ⟨by decide, tableOf [(0, 10, 13, 19)], ⟨0, 10, 17, 13⟩, tableOf [], rfl, (fun z hz => by rcases List.mem_singleton.mp hz with rfl; exact ⟨by decide, xIO, cl_RL_19, ⟨by decide, by decide, by decide⟩⟩), by decide, by decide, cl_RL_13, rfl⟩, ⟨Or.inl ⟨dL_node_17, rfl⟩, by decide⟩, ?_⟩
      refine J_iconst hX dL_node_19 ?_
      exact J_iret hX hQ dL_node_20 (Or.inl ⟨2, Or.inr (Or.inl ⟨h1, rfl⟩), rfl, rfl, rfl⟩) (Nat.le_of_ble_eq_true rfl) (Nat.le_of_ble_eq_true rfl)
    · exact absurd h1 (by intro h2; rcases f2l_c h2 (by decide) with h3 | h3 <;> (split at h3 <;> omega))
  · obtain ⟨v, hv, hr⟩ := vI_n h.2.2.1
    subst hr
    refine J_i2l hX dL_node_8 hv ?_
    refine J_last hX dL_node_9 (by rw [h.2.1]; exact ho) (fun M3 hM3 => ?_)
    refine J_goto hX 21 dL_node_10 (by decide) ?_
    refine J_iconst hX dL_node_21 ?_
    exact J_iret hX hQ dL_node_22 (Or.inr ⟨rfl, v, hv, M2, h, hM3⟩) (Nat.le_of_ble_eq_true rfl) (Nat.le_of_ble_eq_true rfl)
abbrev hh_painted : List (Nat × Nat × Nat × Nat) := [(0, 9, 12, 13)]
theorem cd_L_painted : Cond.codeWith yL_painted cL_painted 4 (some .int) hh_painted ∈ tb := inT 1073 (by decide +kernel)
set_option maxHeartbeats 4000000 in
set_option maxRecDepth 100000 in
theorem m_L_painted {E : EE} {K : Nat → Nat} {M : MM} {x : Nat} {T : Int} {p : Int} (hE9 : ∀ U, SF E U → ThF E U ∧ NcF U) (hX0 : EyeK K x) (hW : WF T M (x + 1 + 2)) (hF : Frs M x) (hp : i32 p) {o : Nat} (ho : K o = 11) : CnH E 9 yL_painted cL_painted 4 (some .int) hh_painted [.ref x, vI p, .ref o] K M (WrP o K M (fun r K' M' => (if p < 0 then 2 else 0) = (0 : Int) ∧ K' = K ∧ r = some (vI (if 0 ≤ p ∧ p < (nb (stg M (x + 1 + 2)) : Nat) then ord (stg M (x + 1 + 2)) p else -1000)) ∧ Lkd M x M') (XKc (((if p < 0 then 2 else 0))) (-1) 1 (-1))) 1 6 := by
  have hx8 : K x ≠ 0 := by rw [hX0.1]; decide
  have ho9 : K o ≠ 0 := by rw [ho]; decide
  refine CnH_of RL (by decide) rfl (Nat.le_of_ble_eq_true rfl) (fun X hX hQ hXK hH => ?_)
  refine J_aload_n hX dL_painted_0 rfl ?_
  refine J_iconst hX dL_painted_1 ?_
  refine J_aload_n hX dL_painted_2 rfl ?_
  refine J_iload_n hX dL_painted_3 rfl ?_
  refine J_callVH hX hH hXK hE9 [vI 0, .ref o] dL_painted_4 cw_RL_53 (m_X9_painted (fun U h => (hE9 U h).1) hX0 hW hF hp) ⟨hX0.1, by decide, by decide, rfl⟩ rfl (Nat.le_of_ble_eq_true rfl) ⟨by decide, by decide⟩ ⟨Nat.le_of_ble_eq_true rfl, Nat.le_of_ble_eq_true rfl⟩ ⟨hx8, ho9, trivial⟩ ⟨ho9, trivial⟩ (fun _ _ _ h i hi => by rw [h.2.1]; exact hi) (fun nm h => ?_) (fun r K2 M2 h => ?_)
  · rcases h with ⟨h1, rfl⟩ | ⟨h1, rfl⟩ | ⟨h1, rfl⟩
    · exact absurd h1 (by (repeat' split) <;> decide)
    · refine ⟨12, 3, 1, ⟨by decide, tableOf [], ⟨0, 9, 12, 13⟩, tableOf [], rfl, (fun z hz => nomatch hz), by decide, by decide, cl_RL_13, rfl⟩, ⟨Or.inr ⟨3, dL_painted_12, rfl, rfl⟩, by decide⟩, ?_⟩
      refine J_iconst hX dL_painted_13 ?_
      exact J_iret hX hQ dL_painted_14 (Or.inl ⟨1, Or.inr (Or.inl ⟨h1, rfl⟩), rfl, rfl, rfl⟩) (Nat.le_of_ble_eq_true rfl) (Nat.le_of_ble_eq_true rfl)
    · exact absurd h1 (by (repeat' split) <;> decide)
  · obtain ⟨v, hv, hr⟩ := vI_n h.2.2.1
    subst hr
    refine J_i2l hX dL_painted_7 hv ?_
    refine J_last hX dL_painted_8 (by rw [h.2.1]; exact ho) (fun M3 hM3 => ?_)
    refine J_goto hX 15 dL_painted_9 (by decide) ?_
    refine J_iconst hX dL_painted_15 ?_
    exact J_iret hX hQ dL_painted_16 (Or.inr ⟨rfl, v, hv, M2, h, hM3⟩) (Nat.le_of_ble_eq_true rfl) (Nat.le_of_ble_eq_true rfl)
abbrev hh_scene : List (Nat × Nat × Nat × Nat) := [(0, 10, 13, 19), (0, 10, 17, 13)]
theorem cd_L_scene : Cond.codeWith yL_scene cL_scene 5 (some .int) hh_scene ∈ tb := inT 1081 (by decide +kernel)
set_option maxHeartbeats 4000000 in
set_option maxRecDepth 100000 in
theorem m_L_scene {E : EE} {K : Nat → Nat} {M : MM} {x : Nat} {T : Int} {n9 k : Int} (hE9 : ∀ U, SF E U → ThF E U ∧ NcF U) (hX0 : EyeK K x) (hW : WF T M (x + 1 + 2)) (hn9 : i32 n9) (hk : i32 k) {o : Nat} (ho : K o = 11) : CnH E 9 yL_scene cL_scene 5 (some .int) hh_scene [.ref x, vI n9, vI k, .ref o] K M (WrP o K M (fun r K' M' => f2l (if hsc M (x + 1 + 2) n9 then 0 else 1) (if 0 ≤ k ∧ k ≤ 3 then 0 else 2) = (0 : Int) ∧ K' = K ∧ r = some (vI (scv (stg M (x + 1 + 2)) n9 k)) ∧ M' = M) (XKc ((f2l (if hsc M (x + 1 + 2) n9 then 0 else 1) (if 0 ≤ k ∧ k ≤ 3 then 0 else 2))) 1 2 (-1))) 2 12 := by
  have hx8 : K x ≠ 0 := by rw [hX0.1]; decide
  have ho9 : K o ≠ 0 := by rw [ho]; decide
  refine CnH_of RL (by decide) rfl (Nat.le_of_ble_eq_true rfl) (fun X hX hQ hXK hH => ?_)
  refine J_aload_n hX dL_scene_0 rfl ?_
  refine J_iconst hX dL_scene_1 ?_
  refine J_aload_n hX dL_scene_2 rfl ?_
  refine J_iload_n hX dL_scene_3 rfl ?_
  refine J_iload_n hX dL_scene_4 rfl ?_
  refine J_callVH hX hH hXK hE9 [vI 0, .ref o] dL_scene_5 cw_RL_56 (m_X9_scene (fun U h => (hE9 U h).1) hX0 hW hn9 hk) ⟨hX0.1, by decide, by decide, rfl⟩ rfl (Nat.le_of_ble_eq_true rfl) ⟨by decide, by decide⟩ ⟨Nat.le_of_ble_eq_true rfl, Nat.le_of_ble_eq_true rfl⟩ ⟨hx8, ho9, trivial⟩ ⟨ho9, trivial⟩ (fun _ _ _ h i hi => by rw [h.2.1]; exact hi) (fun nm h => ?_) (fun r K2 M2 h => ?_)
  · rcases h with ⟨h1, rfl⟩ | ⟨h1, rfl⟩ | ⟨h1, rfl⟩
    · refine ⟨13, 4, 2, ⟨by decide, tableOf [], ⟨0, 10, 13, 19⟩, tableOf [(0, 10, 17, 13)], rfl, (fun z hz => nomatch hz), by decide, by decide, cl_RL_19, rfl⟩, ⟨Or.inl ⟨dL_scene_13, rfl⟩, by decide⟩, ?_⟩
      refine J_iconst hX dL_scene_15 ?_
      exact J_iret hX hQ dL_scene_16 (Or.inl ⟨1, Or.inl ⟨h1, rfl⟩, rfl, rfl, rfl⟩) (Nat.le_of_ble_eq_true rfl) (Nat.le_of_ble_eq_true rfl)
    · refine ⟨17, 4, 2, ⟨by decide, tableOf [(0, 10, 13, 19)], ⟨0, 10, 17, 13⟩, tableOf [], rfl, (fun z hz => by rcases List.mem_singleton.mp hz with rfl; exact ⟨by decide, xIO, cl_RL_19, ⟨by decide, by decide, by decide⟩⟩), by decide, by decide, cl_RL_13, rfl⟩, ⟨Or.inl ⟨dL_scene_17, rfl⟩, by decide⟩, ?_⟩
      refine J_iconst hX dL_scene_19 ?_
      exact J_iret hX hQ dL_scene_20 (Or.inl ⟨2, Or.inr (Or.inl ⟨h1, rfl⟩), rfl, rfl, rfl⟩) (Nat.le_of_ble_eq_true rfl) (Nat.le_of_ble_eq_true rfl)
    · exact absurd h1 (by intro h2; rcases f2l_c h2 (by decide) with h3 | h3 <;> (split at h3 <;> omega))
  · obtain ⟨v, hv, hr⟩ := vI_n h.2.2.1
    subst hr
    refine J_i2l hX dL_scene_8 hv ?_
    refine J_last hX dL_scene_9 (by rw [h.2.1]; exact ho) (fun M3 hM3 => ?_)
    refine J_goto hX 21 dL_scene_10 (by decide) ?_
    refine J_iconst hX dL_scene_21 ?_
    exact J_iret hX hQ dL_scene_22 (Or.inr ⟨rfl, v, hv, M2, h, hM3⟩) (Nat.le_of_ble_eq_true rfl) (Nat.le_of_ble_eq_true rfl)
abbrev hh_title : List (Nat × Nat × Nat × Nat) := [(0, 9, 12, 13)]
theorem cd_L_title : Cond.codeWith yL_title cL_title 4 (some .int) hh_title ∈ tb := inT 1089 (by decide +kernel)
set_option maxHeartbeats 4000000 in
set_option maxRecDepth 100000 in
theorem m_L_title {E : EE} {K : Nat → Nat} {M : MM} {x : Nat} {T : Int} {k : Int} (hE9 : ∀ U, SF E U → ThF E U ∧ NcF U) (hX0 : EyeK K x) (hW : WF T M (x + 1 + 2)) (hF : Frs M x) (hk : i32 k) {o : Nat} (ho : K o = 11) : CnH E 9 yL_title cL_title 4 (some .int) hh_title [.ref x, vI k, .ref o] K M (WrP o K M (fun r K' M' => (if 0 ≤ k ∧ k ≤ 6 then 0 else 2) = (0 : Int) ∧ K' = K ∧ r = some (vI (tvl (stg M (x + 1 + 2)) k)) ∧ Lkd M x M') (XKc (((if 0 ≤ k ∧ k ≤ 6 then 0 else 2))) (-1) 1 (-1))) 1 6 := by
  have hx8 : K x ≠ 0 := by rw [hX0.1]; decide
  have ho9 : K o ≠ 0 := by rw [ho]; decide
  refine CnH_of RL (by decide) rfl (Nat.le_of_ble_eq_true rfl) (fun X hX hQ hXK hH => ?_)
  refine J_aload_n hX dL_title_0 rfl ?_
  refine J_iconst hX dL_title_1 ?_
  refine J_aload_n hX dL_title_2 rfl ?_
  refine J_iload_n hX dL_title_3 rfl ?_
  refine J_callVH hX hH hXK hE9 [vI 0, .ref o] dL_title_4 cw_RL_59 (m_X9_title (fun U h => (hE9 U h).1) hX0 hW hF hk) ⟨hX0.1, by decide, by decide, rfl⟩ rfl (Nat.le_of_ble_eq_true rfl) ⟨by decide, by decide⟩ ⟨Nat.le_of_ble_eq_true rfl, Nat.le_of_ble_eq_true rfl⟩ ⟨hx8, ho9, trivial⟩ ⟨ho9, trivial⟩ (fun _ _ _ h i hi => by rw [h.2.1]; exact hi) (fun nm h => ?_) (fun r K2 M2 h => ?_)
  · rcases h with ⟨h1, rfl⟩ | ⟨h1, rfl⟩ | ⟨h1, rfl⟩
    · exact absurd h1 (by (repeat' split) <;> decide)
    · refine ⟨12, 3, 1, ⟨by decide, tableOf [], ⟨0, 9, 12, 13⟩, tableOf [], rfl, (fun z hz => nomatch hz), by decide, by decide, cl_RL_13, rfl⟩, ⟨Or.inr ⟨3, dL_title_12, rfl, rfl⟩, by decide⟩, ?_⟩
      refine J_iconst hX dL_title_13 ?_
      exact J_iret hX hQ dL_title_14 (Or.inl ⟨1, Or.inr (Or.inl ⟨h1, rfl⟩), rfl, rfl, rfl⟩) (Nat.le_of_ble_eq_true rfl) (Nat.le_of_ble_eq_true rfl)
    · exact absurd h1 (by (repeat' split) <;> decide)
  · obtain ⟨v, hv, hr⟩ := vI_n h.2.2.1
    subst hr
    refine J_i2l hX dL_title_7 hv ?_
    refine J_last hX dL_title_8 (by rw [h.2.1]; exact ho) (fun M3 hM3 => ?_)
    refine J_goto hX 15 dL_title_9 (by decide) ?_
    refine J_iconst hX dL_title_15 ?_
    exact J_iret hX hQ dL_title_16 (Or.inr ⟨rfl, v, hv, M2, h, hM3⟩) (Nat.le_of_ble_eq_true rfl) (Nat.le_of_ble_eq_true rfl)
abbrev hh_whole : List (Nat × Nat × Nat × Nat) := [(0, 9, 12, 13)]
theorem cd_L_whole : Cond.codeWith yL_whole cL_whole 4 (some .int) hh_whole ∈ tb := inT 1096 (by decide +kernel)
set_option maxHeartbeats 4000000 in
set_option maxRecDepth 100000 in
theorem m_L_whole {E : EE} {K : Nat → Nat} {M : MM} {x : Nat} {T : Int} {k : Int} (hE9 : ∀ U, SF E U → ThF E U ∧ NcF U) (hX0 : EyeK K x) (hW : WF T M (x + 1 + 2)) (hF : Frs M x) (hk : i32 k) {o : Nat} (ho : K o = 11) : CnH E 9 yL_whole cL_whole 4 (some .int) hh_whole [.ref x, vI k, .ref o] K M (WrP o K M (fun r K' M' => (if 0 ≤ k ∧ k ≤ 15 then 0 else 2) = (0 : Int) ∧ K' = K ∧ r = some (vI (wvl (stg M (x + 1 + 2)) k)) ∧ Lkd M x M') (XKc (((if 0 ≤ k ∧ k ≤ 15 then 0 else 2))) (-1) 1 (-1))) 1 6 := by
  have hx8 : K x ≠ 0 := by rw [hX0.1]; decide
  have ho9 : K o ≠ 0 := by rw [ho]; decide
  refine CnH_of RL (by decide) rfl (Nat.le_of_ble_eq_true rfl) (fun X hX hQ hXK hH => ?_)
  refine J_aload_n hX dL_whole_0 rfl ?_
  refine J_iconst hX dL_whole_1 ?_
  refine J_aload_n hX dL_whole_2 rfl ?_
  refine J_iload_n hX dL_whole_3 rfl ?_
  refine J_callVH hX hH hXK hE9 [vI 0, .ref o] dL_whole_4 cw_RL_62 (m_X9_whole (fun U h => (hE9 U h).1) hX0 hW hF hk) ⟨hX0.1, by decide, by decide, rfl⟩ rfl (Nat.le_of_ble_eq_true rfl) ⟨by decide, by decide⟩ ⟨Nat.le_of_ble_eq_true rfl, Nat.le_of_ble_eq_true rfl⟩ ⟨hx8, ho9, trivial⟩ ⟨ho9, trivial⟩ (fun _ _ _ h i hi => by rw [h.2.1]; exact hi) (fun nm h => ?_) (fun r K2 M2 h => ?_)
  · rcases h with ⟨h1, rfl⟩ | ⟨h1, rfl⟩ | ⟨h1, rfl⟩
    · exact absurd h1 (by (repeat' split) <;> decide)
    · refine ⟨12, 3, 1, ⟨by decide, tableOf [], ⟨0, 9, 12, 13⟩, tableOf [], rfl, (fun z hz => nomatch hz), by decide, by decide, cl_RL_13, rfl⟩, ⟨Or.inr ⟨3, dL_whole_12, rfl, rfl⟩, by decide⟩, ?_⟩
      refine J_iconst hX dL_whole_13 ?_
      exact J_iret hX hQ dL_whole_14 (Or.inl ⟨1, Or.inr (Or.inl ⟨h1, rfl⟩), rfl, rfl, rfl⟩) (Nat.le_of_ble_eq_true rfl) (Nat.le_of_ble_eq_true rfl)
    · exact absurd h1 (by (repeat' split) <;> decide)
  · obtain ⟨v, hv, hr⟩ := vI_n h.2.2.1
    subst hr
    refine J_i2l hX dL_whole_7 hv ?_
    refine J_last hX dL_whole_8 (by rw [h.2.1]; exact ho) (fun M3 hM3 => ?_)
    refine J_goto hX 15 dL_whole_9 (by decide) ?_
    refine J_iconst hX dL_whole_15 ?_
    exact J_iret hX hQ dL_whole_16 (Or.inr ⟨rfl, v, hv, M2, h, hM3⟩) (Nat.le_of_ble_eq_true rfl) (Nat.le_of_ble_eq_true rfl)
abbrev hh_shade : List (Nat × Nat × Nat × Nat) := [(0, 12, 15, 19)]
theorem cd_L_shade : Cond.codeWith yL_shade cL_shade 6 (some .int) hh_shade ∈ tb := inT 1103 (by decide +kernel)
set_option maxHeartbeats 4000000 in
set_option maxRecDepth 100000 in
theorem m_L_shade {E : EE} {K : Nat → Nat} {M : MM} {x : Nat} {T : Int} {l c r9 : Int} (hE9 : ∀ U, SF E U → ThF E U ∧ NcF U) (hX0 : EyeK K x) (hW : WF T M (x + 1 + 2)) (hF : Frs M x) (hl : l = 0 ∨ l = 1) (hc : i32 c) (hr9 : i32 r9) {o : Nat} (ho : K o = 11) : CnH E 9 yL_shade cL_shade 6 (some .int) hh_shade [.ref x, vI l, vI c, vI r9, .ref o] K M (WrP o K M (fun r K' M' => (fCe M (x + 1 + 2) c r9) = (0 : Int) ∧ K' = K ∧ r = some (vI (shd (stg M (x + 1 + 2)) l c r9)) ∧ Lkd M x M') (XKc (((fCe M (x + 1 + 2) c r9))) 1 (-1) (-1))) 1 6 := by
  have hx8 : K x ≠ 0 := by rw [hX0.1]; decide
  have ho9 : K o ≠ 0 := by rw [ho]; decide
  refine CnH_of RL (by decide) rfl (Nat.le_of_ble_eq_true rfl) (fun X hX hQ hXK hH => ?_)
  refine J_aload hX dL_shade_0 rfl ?_
  refine J_iconst hX dL_shade_2 ?_
  refine J_aload_n hX dL_shade_3 rfl ?_
  refine J_iload_n hX dL_shade_4 rfl ?_
  refine J_iload_n hX dL_shade_5 rfl ?_
  refine J_iload_n hX dL_shade_6 rfl ?_
  refine J_callVH hX hH hXK hE9 [vI 0, .ref o] dL_shade_7 cw_RL_65 (m_X9_shade (fun U h => (hE9 U h).1) hX0 hW hF hl hc hr9) ⟨hX0.1, by decide, by decide, rfl⟩ rfl (Nat.le_of_ble_eq_true rfl) ⟨by decide, by decide⟩ ⟨Nat.le_of_ble_eq_true rfl, Nat.le_of_ble_eq_true rfl⟩ ⟨hx8, ho9, trivial⟩ ⟨ho9, trivial⟩ (fun _ _ _ h i hi => by rw [h.2.1]; exact hi) (fun nm h => ?_) (fun r K2 M2 h => ?_)
  · rcases h with ⟨h1, rfl⟩ | ⟨h1, rfl⟩ | ⟨h1, rfl⟩
    · refine ⟨15, 5, 2, ⟨by decide, tableOf [], ⟨0, 12, 15, 19⟩, tableOf [], rfl, (fun z hz => nomatch hz), by decide, by decide, cl_RL_19, rfl⟩, ⟨Or.inl ⟨dL_shade_15, rfl⟩, by decide⟩, ?_⟩
      refine J_iconst hX dL_shade_17 ?_
      exact J_iret hX hQ dL_shade_18 (Or.inl ⟨1, Or.inl ⟨h1, rfl⟩, rfl, rfl, rfl⟩) (Nat.le_of_ble_eq_true rfl) (Nat.le_of_ble_eq_true rfl)
    · exact absurd h1 (by unfold fCe; (repeat' split) <;> decide)
    · exact absurd h1 (by unfold fCe; (repeat' split) <;> decide)
  · obtain ⟨v, hv, hr⟩ := vI_n h.2.2.1
    subst hr
    refine J_i2l hX dL_shade_10 hv ?_
    refine J_last hX dL_shade_11 (by rw [h.2.1]; exact ho) (fun M3 hM3 => ?_)
    refine J_goto hX 19 dL_shade_12 (by decide) ?_
    refine J_iconst hX dL_shade_19 ?_
    exact J_iret hX hQ dL_shade_20 (Or.inr ⟨rfl, v, hv, M2, h, hM3⟩) (Nat.le_of_ble_eq_true rfl) (Nat.le_of_ble_eq_true rfl)
abbrev hh_shown : List (Nat × Nat × Nat × Nat) := [(0, 12, 15, 19)]
theorem cd_L_shown : Cond.codeWith yL_shown cL_shown 6 (some .int) hh_shown ∈ tb := inT 1126 (by decide +kernel)
set_option maxHeartbeats 4000000 in
set_option maxRecDepth 100000 in
theorem m_L_shown {E : EE} {K : Nat → Nat} {M : MM} {x : Nat} {T : Int} {l c r9 : Int} (hE9 : ∀ U, SF E U → ThF E U ∧ NcF U) (hX0 : EyeK K x) (hW : WF T M (x + 1 + 2)) (hF : Frs M x) (hl : l = 0 ∨ l = 1) (hc : i32 c) (hr9 : i32 r9) {o : Nat} (ho : K o = 11) : CnH E 9 yL_shown cL_shown 6 (some .int) hh_shown [.ref x, vI l, vI c, vI r9, .ref o] K M (WrP o K M (fun r K' M' => (fCe M (x + 1 + 2) c r9) = (0 : Int) ∧ K' = K ∧ r = some (vI (front (stg M (x + 1 + 2)) l c r9)) ∧ Lkd M x M') (XKc (((fCe M (x + 1 + 2) c r9))) 1 (-1) (-1))) 1 6 := by
  have hx8 : K x ≠ 0 := by rw [hX0.1]; decide
  have ho9 : K o ≠ 0 := by rw [ho]; decide
  refine CnH_of RL (by decide) rfl (Nat.le_of_ble_eq_true rfl) (fun X hX hQ hXK hH => ?_)
  refine J_aload hX dL_shown_0 rfl ?_
  refine J_iconst hX dL_shown_2 ?_
  refine J_aload_n hX dL_shown_3 rfl ?_
  refine J_iload_n hX dL_shown_4 rfl ?_
  refine J_iload_n hX dL_shown_5 rfl ?_
  refine J_iload_n hX dL_shown_6 rfl ?_
  refine J_callVH hX hH hXK hE9 [vI 0, .ref o] dL_shown_7 cw_RL_69 (m_X9_shown (fun U h => (hE9 U h).1) hX0 hW hF hl hc hr9) ⟨hX0.1, by decide, by decide, rfl⟩ rfl (Nat.le_of_ble_eq_true rfl) ⟨by decide, by decide⟩ ⟨Nat.le_of_ble_eq_true rfl, Nat.le_of_ble_eq_true rfl⟩ ⟨hx8, ho9, trivial⟩ ⟨ho9, trivial⟩ (fun _ _ _ h i hi => by rw [h.2.1]; exact hi) (fun nm h => ?_) (fun r K2 M2 h => ?_)
  · rcases h with ⟨h1, rfl⟩ | ⟨h1, rfl⟩ | ⟨h1, rfl⟩
    · refine ⟨15, 5, 2, ⟨by decide, tableOf [], ⟨0, 12, 15, 19⟩, tableOf [], rfl, (fun z hz => nomatch hz), by decide, by decide, cl_RL_19, rfl⟩, ⟨Or.inl ⟨dL_shown_15, rfl⟩, by decide⟩, ?_⟩
      refine J_iconst hX dL_shown_17 ?_
      exact J_iret hX hQ dL_shown_18 (Or.inl ⟨1, Or.inl ⟨h1, rfl⟩, rfl, rfl, rfl⟩) (Nat.le_of_ble_eq_true rfl) (Nat.le_of_ble_eq_true rfl)
    · exact absurd h1 (by unfold fCe; (repeat' split) <;> decide)
    · exact absurd h1 (by unfold fCe; (repeat' split) <;> decide)
  · obtain ⟨v, hv, hr⟩ := vI_n h.2.2.1
    subst hr
    refine J_i2l hX dL_shown_10 hv ?_
    refine J_last hX dL_shown_11 (by rw [h.2.1]; exact ho) (fun M3 hM3 => ?_)
    refine J_goto hX 19 dL_shown_12 (by decide) ?_
    refine J_iconst hX dL_shown_19 ?_
    exact J_iret hX hQ dL_shown_20 (Or.inr ⟨rfl, v, hv, M2, h, hM3⟩) (Nat.le_of_ble_eq_true rfl) (Nat.le_of_ble_eq_true rfl)
abbrev hh_ghost : List (Nat × Nat × Nat × Nat) := [(0, 10, 13, 19)]
theorem cd_L_ghost : Cond.codeWith yL_ghost cL_ghost 5 (some .int) hh_ghost ∈ tb := inT 1134 (by decide +kernel)
set_option maxHeartbeats 4000000 in
set_option maxRecDepth 100000 in
theorem m_L_ghost {E : EE} {K : Nat → Nat} {M : MM} {x : Nat} {T : Int} {c r9 : Int} (hE9 : ∀ U, SF E U → ThF E U ∧ NcF U) (hX0 : EyeK K x) (hW : WF T M (x + 1 + 2)) (hF : Frs M x) (hc : i32 c) (hr9 : i32 r9) {o : Nat} (ho : K o = 11) : CnH E 9 yL_ghost cL_ghost 5 (some .int) hh_ghost [.ref x, vI c, vI r9, .ref o] K M (WrP o K M (fun r K' M' => (fCe M (x + 1 + 2) c r9) = (0 : Int) ∧ K' = K ∧ r = some (vI (ghs (stg M (x + 1 + 2)) c r9)) ∧ Lkd M x M') (XKc (((fCe M (x + 1 + 2) c r9))) 1 (-1) (-1))) 1 6 := by
  have hx8 : K x ≠ 0 := by rw [hX0.1]; decide
  have ho9 : K o ≠ 0 := by rw [ho]; decide
  refine CnH_of RL (by decide) rfl (Nat.le_of_ble_eq_true rfl) (fun X hX hQ hXK hH => ?_)
  refine J_aload_n hX dL_ghost_0 rfl ?_
  refine J_iconst hX dL_ghost_1 ?_
  refine J_aload_n hX dL_ghost_2 rfl ?_
  refine J_iload_n hX dL_ghost_3 rfl ?_
  refine J_iload_n hX dL_ghost_4 rfl ?_
  refine J_callVH hX hH hXK hE9 [vI 0, .ref o] dL_ghost_5 cw_RL_72 (m_X9_ghost (fun U h => (hE9 U h).1) hX0 hW hF hc hr9) ⟨hX0.1, by decide, by decide, rfl⟩ rfl (Nat.le_of_ble_eq_true rfl) ⟨by decide, by decide⟩ ⟨Nat.le_of_ble_eq_true rfl, Nat.le_of_ble_eq_true rfl⟩ ⟨hx8, ho9, trivial⟩ ⟨ho9, trivial⟩ (fun _ _ _ h i hi => by rw [h.2.1]; exact hi) (fun nm h => ?_) (fun r K2 M2 h => ?_)
  · rcases h with ⟨h1, rfl⟩ | ⟨h1, rfl⟩ | ⟨h1, rfl⟩
    · refine ⟨13, 4, 2, ⟨by decide, tableOf [], ⟨0, 10, 13, 19⟩, tableOf [], rfl, (fun z hz => nomatch hz), by decide, by decide, cl_RL_19, rfl⟩, ⟨Or.inl ⟨dL_ghost_13, rfl⟩, by decide⟩, ?_⟩
      refine J_iconst hX dL_ghost_15 ?_
      exact J_iret hX hQ dL_ghost_16 (Or.inl ⟨1, Or.inl ⟨h1, rfl⟩, rfl, rfl, rfl⟩) (Nat.le_of_ble_eq_true rfl) (Nat.le_of_ble_eq_true rfl)
    · exact absurd h1 (by unfold fCe; (repeat' split) <;> decide)
    · exact absurd h1 (by unfold fCe; (repeat' split) <;> decide)
  · obtain ⟨v, hv, hr⟩ := vI_n h.2.2.1
    subst hr
    refine J_i2l hX dL_ghost_8 hv ?_
    refine J_last hX dL_ghost_9 (by rw [h.2.1]; exact ho) (fun M3 hM3 => ?_)
    refine J_goto hX 17 dL_ghost_10 (by decide) ?_
    refine J_iconst hX dL_ghost_17 ?_
    exact J_iret hX hQ dL_ghost_18 (Or.inr ⟨rfl, v, hv, M2, h, hM3⟩) (Nat.le_of_ble_eq_true rfl) (Nat.le_of_ble_eq_true rfl)
abbrev hh_ghosts : List (Nat × Nat × Nat × Nat) := [(0, 9, 12, 13)]
theorem cd_L_ghosts : Cond.codeWith yL_ghosts cL_ghosts 4 (some .int) hh_ghosts ∈ tb := inT 1153 (by decide +kernel)
set_option maxHeartbeats 4000000 in
set_option maxRecDepth 100000 in
theorem m_L_ghosts {E : EE} {K : Nat → Nat} {M : MM} {x : Nat} {T : Int} {least : Int} (hE9 : ∀ U, SF E U → ThF E U ∧ NcF U) (hX0 : EyeK K x) (hW : WF T M (x + 1 + 2)) (hF : Frs M x) (hleast : i32 least) {o : Nat} (ho : K o = 11) : CnH E 9 yL_ghosts cL_ghosts 4 (some .int) hh_ghosts [.ref x, vI least, .ref o] K M (WrP o K M (fun r K' M' => (if 1 ≤ least ∧ least ≤ 15 then 0 else 2) = (0 : Int) ∧ K' = K ∧ r = some (vI (gall (stg M (x + 1 + 2)) least)) ∧ Lkd M x M') (XKc (((if 1 ≤ least ∧ least ≤ 15 then 0 else 2))) (-1) 1 (-1))) 1 6 := by
  have hx8 : K x ≠ 0 := by rw [hX0.1]; decide
  have ho9 : K o ≠ 0 := by rw [ho]; decide
  refine CnH_of RL (by decide) rfl (Nat.le_of_ble_eq_true rfl) (fun X hX hQ hXK hH => ?_)
  refine J_aload_n hX dL_ghosts_0 rfl ?_
  refine J_iconst hX dL_ghosts_1 ?_
  refine J_aload_n hX dL_ghosts_2 rfl ?_
  refine J_iload_n hX dL_ghosts_3 rfl ?_
  refine J_callVH hX hH hXK hE9 [vI 0, .ref o] dL_ghosts_4 cw_RL_75 (m_X9_ghosts (fun U h => (hE9 U h).1) hX0 hW hF hleast) ⟨hX0.1, by decide, by decide, rfl⟩ rfl (Nat.le_of_ble_eq_true rfl) ⟨by decide, by decide⟩ ⟨Nat.le_of_ble_eq_true rfl, Nat.le_of_ble_eq_true rfl⟩ ⟨hx8, ho9, trivial⟩ ⟨ho9, trivial⟩ (fun _ _ _ h i hi => by rw [h.2.1]; exact hi) (fun nm h => ?_) (fun r K2 M2 h => ?_)
  · rcases h with ⟨h1, rfl⟩ | ⟨h1, rfl⟩ | ⟨h1, rfl⟩
    · exact absurd h1 (by (repeat' split) <;> decide)
    · refine ⟨12, 3, 1, ⟨by decide, tableOf [], ⟨0, 9, 12, 13⟩, tableOf [], rfl, (fun z hz => nomatch hz), by decide, by decide, cl_RL_13, rfl⟩, ⟨Or.inr ⟨3, dL_ghosts_12, rfl, rfl⟩, by decide⟩, ?_⟩
      refine J_iconst hX dL_ghosts_13 ?_
      exact J_iret hX hQ dL_ghosts_14 (Or.inl ⟨1, Or.inr (Or.inl ⟨h1, rfl⟩), rfl, rfl, rfl⟩) (Nat.le_of_ble_eq_true rfl) (Nat.le_of_ble_eq_true rfl)
    · exact absurd h1 (by (repeat' split) <;> decide)
  · obtain ⟨v, hv, hr⟩ := vI_n h.2.2.1
    subst hr
    refine J_i2l hX dL_ghosts_7 hv ?_
    refine J_last hX dL_ghosts_8 (by rw [h.2.1]; exact ho) (fun M3 hM3 => ?_)
    refine J_goto hX 15 dL_ghosts_9 (by decide) ?_
    refine J_iconst hX dL_ghosts_15 ?_
    exact J_iret hX hQ dL_ghosts_16 (Or.inr ⟨rfl, v, hv, M2, h, hM3⟩) (Nat.le_of_ble_eq_true rfl) (Nat.le_of_ble_eq_true rfl)
abbrev hh_meanGhost : List (Nat × Nat × Nat × Nat) := [(0, 8, 11, 19)]
theorem cd_L_meanGhost : Cond.codeWith yL_meanGhost cL_meanGhost 4 (some .int) hh_meanGhost ∈ tb := inT 1168 (by decide +kernel)
set_option maxHeartbeats 4000000 in
set_option maxRecDepth 100000 in
theorem m_L_meanGhost {E : EE} {K : Nat → Nat} {M : MM} {x : Nat} {T : Int} {row : Int} (hE9 : ∀ U, SF E U → ThF E U ∧ NcF U) (hX0 : EyeK K x) (hW : WF T M (x + 1 + 2)) (hF : Frs M x) (hrow : i32 row) {o : Nat} (ho : K o = 12) : CnH E 9 yL_meanGhost cL_meanGhost 4 (some .int) hh_meanGhost [.ref x, vI row, .ref o] K M (WrD o K M (fun r K' M' => fCe M (x + 1 + 2) 0 row = (0 : Int) ∧ K' = K ∧ r = some (.double (dd (gsum (stg M (x + 1 + 2)) row) ((stg M (x + 1 + 2)) 0 3))) ∧ Lkd M x M') (XKc ((fCe M (x + 1 + 2) 0 row)) 1 (-1) (-1))) 1 6 := by
  have hx8 : K x ≠ 0 := by rw [hX0.1]; decide
  have ho9 : K o ≠ 0 := by rw [ho]; decide
  refine CnH_of RL (by decide) rfl (Nat.le_of_ble_eq_true rfl) (fun X hX hQ hXK hH => ?_)
  refine J_aload_n hX dL_meanGhost_0 rfl ?_
  refine J_iconst hX dL_meanGhost_1 ?_
  refine J_aload_n hX dL_meanGhost_2 rfl ?_
  refine J_iload_n hX dL_meanGhost_3 rfl ?_
  refine J_callVH hX hH hXK hE9 [vI 0, .ref o] dL_meanGhost_4 cw_RL_78 (m_X9_meanGhost (fun U h => (hE9 U h).1) hX0 hW hF hrow) ⟨hX0.1, by decide, by decide, rfl⟩ rfl (Nat.le_of_ble_eq_true rfl) ⟨by decide, by decide⟩ ⟨Nat.le_of_ble_eq_true rfl, Nat.le_of_ble_eq_true rfl⟩ ⟨hx8, ho9, trivial⟩ ⟨ho9, trivial⟩ (fun _ _ _ h i hi => by rw [h.2.1]; exact hi) (fun nm h => ?_) (fun r K2 M2 h => ?_)
  · rcases h with ⟨h1, rfl⟩ | ⟨h1, rfl⟩ | ⟨h1, rfl⟩
    · refine ⟨11, 3, 1, ⟨by decide, tableOf [], ⟨0, 8, 11, 19⟩, tableOf [], rfl, (fun z hz => nomatch hz), by decide, by decide, cl_RL_19, rfl⟩, ⟨Or.inr ⟨3, dL_meanGhost_11, rfl, rfl⟩, by decide⟩, ?_⟩
      refine J_iconst hX dL_meanGhost_12 ?_
      exact J_iret hX hQ dL_meanGhost_13 (Or.inl ⟨1, Or.inl ⟨h1, rfl⟩, rfl, rfl, rfl⟩) (Nat.le_of_ble_eq_true rfl) (Nat.le_of_ble_eq_true rfl)
    · exact absurd h1 (by unfold fCe; (repeat' split) <;> decide)
    · exact absurd h1 (by unfold fCe; (repeat' split) <;> decide)
  · have hr := h.2.2.1
    generalize hu : dd (gsum (stg M (x + 1 + 2)) row) ((stg M (x + 1 + 2)) 0 3) = u at hr
    subst hr
    refine J_st (st2 := [vDn (u.toNat : Int), vI 0, .ref o]) (by rw [vDn_u]; rfl) ?_
    refine J_dast hX dL_meanGhost_7 (by rw [h.2.1]; exact ho) (fun M3 hM3 => ?_)
    refine J_goto hX 14 dL_meanGhost_8 (by decide) ?_
    refine J_iconst hX dL_meanGhost_14 ?_
    exact J_iret hX hQ dL_meanGhost_15 (Or.inr ⟨rfl, u, M2, h, hM3⟩) (Nat.le_of_ble_eq_true rfl) (Nat.le_of_ble_eq_true rfl)
abbrev hh_percentageFor : List (Nat × Nat × Nat × Nat) := [(0, 10, 13, 13)]
theorem cd_L_percentageFor : Cond.codeWith yL_percentageFor cL_percentageFor 5 (some .int) hh_percentageFor ∈ tb := inT 1179 (by decide +kernel)
set_option maxHeartbeats 4000000 in
set_option maxRecDepth 100000 in
theorem m_L_percentageFor {E : EE} {K : Nat → Nat} {M : MM} {x : Nat} {T : Int} {lo hi : Int} (hE9 : ∀ U, SF E U → ThF E U ∧ NcF U) (hX0 : EyeK K x) (hW : WF T M (x + 1 + 2)) (hF : Frs M x) (hlo : i32 lo) (hhi : i32 hi) {o : Nat} (ho : K o = 11) : CnH E 9 yL_percentageFor cL_percentageFor 5 (some .int) hh_percentageFor [.ref x, vI lo, vI hi, .ref o] K M (WrP o K M (fun r K' M' => (if (-20 ≤ lo ∧ lo ≤ 0) ∧ (0 ≤ hi ∧ hi ≤ 20) then 0 else 2) = (0 : Int) ∧ K' = K ∧ r = some (vI (pctW (stg M (x + 1 + 2)) lo hi)) ∧ Lkd M x M') (XKc (((if (-20 ≤ lo ∧ lo ≤ 0) ∧ (0 ≤ hi ∧ hi ≤ 20) then 0 else 2))) (-1) 1 (-1))) 1 6 := by
  have hx8 : K x ≠ 0 := by rw [hX0.1]; decide
  have ho9 : K o ≠ 0 := by rw [ho]; decide
  refine CnH_of RL (by decide) rfl (Nat.le_of_ble_eq_true rfl) (fun X hX hQ hXK hH => ?_)
  refine J_aload_n hX dL_percentageFor_0 rfl ?_
  refine J_iconst hX dL_percentageFor_1 ?_
  refine J_aload_n hX dL_percentageFor_2 rfl ?_
  refine J_iload_n hX dL_percentageFor_3 rfl ?_
  refine J_iload_n hX dL_percentageFor_4 rfl ?_
  refine J_callVH hX hH hXK hE9 [vI 0, .ref o] dL_percentageFor_5 cw_RL_82 (m_X9_percentageFor (fun U h => (hE9 U h).1) hX0 hW hF hlo hhi) ⟨hX0.1, by decide, by decide, rfl⟩ rfl (Nat.le_of_ble_eq_true rfl) ⟨by decide, by decide⟩ ⟨Nat.le_of_ble_eq_true rfl, Nat.le_of_ble_eq_true rfl⟩ ⟨hx8, ho9, trivial⟩ ⟨ho9, trivial⟩ (fun _ _ _ h i hi => by rw [h.2.1]; exact hi) (fun nm h => ?_) (fun r K2 M2 h => ?_)
  · rcases h with ⟨h1, rfl⟩ | ⟨h1, rfl⟩ | ⟨h1, rfl⟩
    · exact absurd h1 (by (repeat' split) <;> decide)
    · refine ⟨13, 4, 2, ⟨by decide, tableOf [], ⟨0, 10, 13, 13⟩, tableOf [], rfl, (fun z hz => nomatch hz), by decide, by decide, cl_RL_13, rfl⟩, ⟨Or.inl ⟨dL_percentageFor_13, rfl⟩, by decide⟩, ?_⟩
      refine J_iconst hX dL_percentageFor_15 ?_
      exact J_iret hX hQ dL_percentageFor_16 (Or.inl ⟨1, Or.inr (Or.inl ⟨h1, rfl⟩), rfl, rfl, rfl⟩) (Nat.le_of_ble_eq_true rfl) (Nat.le_of_ble_eq_true rfl)
    · exact absurd h1 (by (repeat' split) <;> decide)
  · obtain ⟨v, hv, hr⟩ := vI_n h.2.2.1
    subst hr
    refine J_i2l hX dL_percentageFor_8 hv ?_
    refine J_last hX dL_percentageFor_9 (by rw [h.2.1]; exact ho) (fun M3 hM3 => ?_)
    refine J_goto hX 17 dL_percentageFor_10 (by decide) ?_
    refine J_iconst hX dL_percentageFor_17 ?_
    exact J_iret hX hQ dL_percentageFor_18 (Or.inr ⟨rfl, v, hv, M2, h, hM3⟩) (Nat.le_of_ble_eq_true rfl) (Nat.le_of_ble_eq_true rfl)
abbrev hh_fullAfter : List (Nat × Nat × Nat × Nat) := [(0, 9, 12, 13)]
theorem cd_L_fullAfter : Cond.codeWith yL_fullAfter cL_fullAfter 4 (some .int) hh_fullAfter ∈ tb := inT 1188 (by decide +kernel)
set_option maxHeartbeats 4000000 in
set_option maxRecDepth 100000 in
theorem m_L_fullAfter {E : EE} {K : Nat → Nat} {M : MM} {x : Nat} {T : Int} {most To : Int} (hE9 : ∀ U, SF E U → ThF E U ∧ NcF U) (hX0 : EyeK K x) (hW : WF T M (x + 1 + 2)) (hF : Frs M x) (hmo : i32 most) (hT : T + 300 ≤ 1000000000) (hWo : WF To M (x + 28 + 2)) {o : Nat} (ho : K o = 11) : CnH E 9 yL_fullAfter cL_fullAfter 4 (some .int) hh_fullAfter [.ref x, vI most, .ref o] K M (WrP o K M (fun r K' M' => (if 0 ≤ most ∧ most ≤ 200 then 0 else 2) = (0 : Int) ∧ K' = K ∧ r = some (vI (faF (stg M (x + 1 + 2)) (most + 1).toNat 0)) ∧ (∃ M1, Lkd M x M1 ∧ ∀ i, i < x + 28 ∨ x + 54 < i → M' i = M1 i) ∧ ∃ T2, T2 ≤ T + 201 ∧ WF T2 M' (x + 28 + 2)) (XKc ((if 0 ≤ most ∧ most ≤ 200 then 0 else 2)) (-1) 1 (-1))) 1 6 := by
  have hx8 : K x ≠ 0 := by rw [hX0.1]; decide
  have ho9 : K o ≠ 0 := by rw [ho]; decide
  refine CnH_of RL (by decide) rfl (Nat.le_of_ble_eq_true rfl) (fun X hX hQ hXK hH => ?_)
  refine J_aload_n hX dL_fullAfter_0 rfl ?_
  refine J_iconst hX dL_fullAfter_1 ?_
  refine J_aload_n hX dL_fullAfter_2 rfl ?_
  refine J_iload_n hX dL_fullAfter_3 rfl ?_
  refine J_callVH hX hH hXK hE9 [vI 0, .ref o] dL_fullAfter_4 cw_RL_85 (m_X9_fullAfter (fun U h => (hE9 U h).1) hX0 hW hF hmo hT hWo) ⟨hX0.1, by decide, by decide, rfl⟩ rfl (Nat.le_of_ble_eq_true rfl) ⟨by decide, by decide⟩ ⟨Nat.le_of_ble_eq_true rfl, Nat.le_of_ble_eq_true rfl⟩ ⟨hx8, ho9, trivial⟩ ⟨ho9, trivial⟩ (fun _ _ _ h i hi => by rw [h.2.1]; exact hi) (fun nm h => ?_) (fun r K2 M2 h => ?_)
  · rcases h with ⟨h1, rfl⟩ | ⟨h1, rfl⟩ | ⟨h1, rfl⟩
    · exact absurd h1 (by (repeat' split) <;> decide)
    · refine ⟨12, 3, 1, ⟨by decide, tableOf [], ⟨0, 9, 12, 13⟩, tableOf [], rfl, (fun z hz => nomatch hz), by decide, by decide, cl_RL_13, rfl⟩, ⟨Or.inr ⟨3, dL_fullAfter_12, rfl, rfl⟩, by decide⟩, ?_⟩
      refine J_iconst hX dL_fullAfter_13 ?_
      exact J_iret hX hQ dL_fullAfter_14 (Or.inl ⟨1, Or.inr (Or.inl ⟨h1, rfl⟩), rfl, rfl, rfl⟩) (Nat.le_of_ble_eq_true rfl) (Nat.le_of_ble_eq_true rfl)
    · exact absurd h1 (by (repeat' split) <;> decide)
  · obtain ⟨v, hv, hr⟩ := vI_n h.2.2.1
    subst hr
    refine J_i2l hX dL_fullAfter_7 hv ?_
    refine J_last hX dL_fullAfter_8 (by rw [h.2.1]; exact ho) (fun M3 hM3 => ?_)
    refine J_goto hX 15 dL_fullAfter_9 (by decide) ?_
    refine J_iconst hX dL_fullAfter_15 ?_
    exact J_iret hX hQ dL_fullAfter_16 (Or.inr ⟨rfl, v, hv, M2, h, hM3⟩) (Nat.le_of_ble_eq_true rfl) (Nat.le_of_ble_eq_true rfl)
abbrev hh_ghostsWithout : List (Nat × Nat × Nat × Nat) := [(0, 10, 13, 19), (0, 10, 17, 13)]
theorem cd_L_ghostsWithout : Cond.codeWith yL_ghostsWithout cL_ghostsWithout 5 (some .int) hh_ghostsWithout ∈ tb := inT 1198 (by decide +kernel)
set_option maxHeartbeats 4000000 in
set_option maxRecDepth 100000 in
theorem m_L_ghostsWithout {E : EE} {K : Nat → Nat} {M : MM} {x : Nat} {T : Int} {n9 least : Int} (hE9 : ∀ U, SF E U → ThF E U ∧ NcF U) (hX0 : EyeK K x) (hW : WF T M (x + 1 + 2)) (hn9 : i32 n9) (hle : i32 least) {o : Nat} (ho : K o = 11) : CnH E 9 yL_ghostsWithout cL_ghostsWithout 5 (some .int) hh_ghostsWithout [.ref x, vI n9, vI least, .ref o] K M (WrP o K M (fun r K' M' => f2l (if has M (x + 1 + 2) n9 then 0 else 1) (if 1 ≤ least ∧ least ≤ 15 then 0 else 2) = (0 : Int) ∧ K' = K ∧ ∃ S2, Drd (stg M (x + 1 + 2)) S2 n9 ∧ r = some (vI (gall S2 least)) ∧ (∀ i, i < x + 28 ∨ x + 54 < i → M' i = M i) ∧ WF T M' (x + 28 + 2)) (XKc ((f2l (if has M (x + 1 + 2) n9 then 0 else 1) (if 1 ≤ least ∧ least ≤ 15 then 0 else 2))) 1 2 (-1))) 2 12 := by
  have hx8 : K x ≠ 0 := by rw [hX0.1]; decide
  have ho9 : K o ≠ 0 := by rw [ho]; decide
  refine CnH_of RL (by decide) rfl (Nat.le_of_ble_eq_true rfl) (fun X hX hQ hXK hH => ?_)
  refine J_aload_n hX dL_ghostsWithout_0 rfl ?_
  refine J_iconst hX dL_ghostsWithout_1 ?_
  refine J_aload_n hX dL_ghostsWithout_2 rfl ?_
  refine J_iload_n hX dL_ghostsWithout_3 rfl ?_
  refine J_iload_n hX dL_ghostsWithout_4 rfl ?_
  refine J_callVH hX hH hXK hE9 [vI 0, .ref o] dL_ghostsWithout_5 cw_RL_88 (m_X9_ghostsWithout (fun U h => (hE9 U h).1) hX0 hW hn9 hle) ⟨hX0.1, by decide, by decide, rfl⟩ rfl (Nat.le_of_ble_eq_true rfl) ⟨by decide, by decide⟩ ⟨Nat.le_of_ble_eq_true rfl, Nat.le_of_ble_eq_true rfl⟩ ⟨hx8, ho9, trivial⟩ ⟨ho9, trivial⟩ (fun _ _ _ h i hi => by rw [h.2.1]; exact hi) (fun nm h => ?_) (fun r K2 M2 h => ?_)
  · rcases h with ⟨h1, rfl⟩ | ⟨h1, rfl⟩ | ⟨h1, rfl⟩
    · refine ⟨13, 4, 2, ⟨by decide, tableOf [], ⟨0, 10, 13, 19⟩, tableOf [(0, 10, 17, 13)], rfl, (fun z hz => nomatch hz), by decide, by decide, cl_RL_19, rfl⟩, ⟨Or.inl ⟨dL_ghostsWithout_13, rfl⟩, by decide⟩, ?_⟩
      refine J_iconst hX dL_ghostsWithout_15 ?_
      exact J_iret hX hQ dL_ghostsWithout_16 (Or.inl ⟨1, Or.inl ⟨h1, rfl⟩, rfl, rfl, rfl⟩) (Nat.le_of_ble_eq_true rfl) (Nat.le_of_ble_eq_true rfl)
    · refine ⟨17, 4, 2, ⟨by decide, tableOf [(0, 10, 13, 19)], ⟨0, 10, 17, 13⟩, tableOf [], rfl, (fun z hz => by rcases List.mem_singleton.mp hz with rfl; exact ⟨by decide, xIO, cl_RL_19, ⟨by decide, by decide, by decide⟩⟩), by decide, by decide, cl_RL_13, rfl⟩, ⟨Or.inl ⟨dL_ghostsWithout_17, rfl⟩, by decide⟩, ?_⟩
      refine J_iconst hX dL_ghostsWithout_19 ?_
      exact J_iret hX hQ dL_ghostsWithout_20 (Or.inl ⟨2, Or.inr (Or.inl ⟨h1, rfl⟩), rfl, rfl, rfl⟩) (Nat.le_of_ble_eq_true rfl) (Nat.le_of_ble_eq_true rfl)
    · exact absurd h1 (by intro h2; rcases f2l_c h2 (by decide) with h3 | h3 <;> (split at h3 <;> omega))
  · obtain ⟨v, hv, hr⟩ := vI_n h.2.2.choose_spec.2.1
    subst hr
    refine J_i2l hX dL_ghostsWithout_8 hv ?_
    refine J_last hX dL_ghostsWithout_9 (by rw [h.2.1]; exact ho) (fun M3 hM3 => ?_)
    refine J_goto hX 21 dL_ghostsWithout_10 (by decide) ?_
    refine J_iconst hX dL_ghostsWithout_21 ?_
    exact J_iret hX hQ dL_ghostsWithout_22 (Or.inr ⟨rfl, v, hv, M2, h, hM3⟩) (Nat.le_of_ble_eq_true rfl) (Nat.le_of_ble_eq_true rfl)
abbrev hh_type : List (Nat × Nat × Nat × Nat) := [(0, 9, 12, 13), (0, 9, 15, 21)]
theorem cd_L_type : Cond.codeWith yL_type cL_type 4 (some .int) hh_type ∈ tb := inT 1206 (by decide +kernel)
set_option maxHeartbeats 4000000 in
set_option maxRecDepth 100000 in
theorem m_L_type {E : EE} {K : Nat → Nat} {M : MM} {x : Nat} {T : Int} {v : Int} (hE9 : ∀ U, SF E U → ThF E U ∧ NcF U) (hX0 : EyeK K x) (hW : WF T M (x + 1 + 2)) (hv : i32 v) (hlen : 0 ≤ M (x + 57) 0 ∧ M (x + 57) 0 ≤ 150) {o : Nat} (ho : K o = 11) : CnH E 9 yL_type cL_type 4 (some .int) hh_type [.ref x, vI v, .ref o] K M (WrP o K M (fun r K' M' => f2l (if 0 ≤ v ∧ v ≤ 127 then 0 else 2) (if 150 ≤ M (x + 57) 0 then 3 else 0) = (0 : Int) ∧ K' = K ∧ r = some (vI (M (x + 57) 0 + 1)) ∧ M' = mset (mset M (x + 58) (M (x + 57) 0) v) (x + 57) 0 (M (x + 57) 0 + 1)) (XKc ((f2l (if 0 ≤ v ∧ v ≤ 127 then 0 else 2) (if 150 ≤ M (x + 57) 0 then 3 else 0))) (-1) 1 2)) 2 12 := by
  have hx8 : K x ≠ 0 := by rw [hX0.1]; decide
  have ho9 : K o ≠ 0 := by rw [ho]; decide
  refine CnH_of RL (by decide) rfl (Nat.le_of_ble_eq_true rfl) (fun X hX hQ hXK hH => ?_)
  refine J_aload_n hX dL_type_0 rfl ?_
  refine J_iconst hX dL_type_1 ?_
  refine J_aload_n hX dL_type_2 rfl ?_
  refine J_iload_n hX dL_type_3 rfl ?_
  refine J_callVH hX hH hXK hE9 [vI 0, .ref o] dL_type_4 cw_RL_91 (m_X9_type (fun U h => (hE9 U h).1) hX0 hW hv hlen) ⟨hX0.1, by decide, by decide, rfl⟩ rfl (Nat.le_of_ble_eq_true rfl) ⟨by decide, by decide⟩ ⟨Nat.le_of_ble_eq_true rfl, Nat.le_of_ble_eq_true rfl⟩ ⟨hx8, ho9, trivial⟩ ⟨ho9, trivial⟩ (fun _ _ _ h i hi => by rw [h.2.1]; exact hi) (fun nm h => ?_) (fun r K2 M2 h => ?_)
  · rcases h with ⟨h1, rfl⟩ | ⟨h1, rfl⟩ | ⟨h1, rfl⟩
    · exact absurd h1 (by intro h2; rcases f2l_c h2 (by decide) with h3 | h3 <;> (split at h3 <;> omega))
    · refine ⟨12, 3, 1, ⟨by decide, tableOf [], ⟨0, 9, 12, 13⟩, tableOf [(0, 9, 15, 21)], rfl, (fun z hz => nomatch hz), by decide, by decide, cl_RL_13, rfl⟩, ⟨Or.inr ⟨3, dL_type_12, rfl, rfl⟩, by decide⟩, ?_⟩
      refine J_iconst hX dL_type_13 ?_
      exact J_iret hX hQ dL_type_14 (Or.inl ⟨1, Or.inr (Or.inl ⟨h1, rfl⟩), rfl, rfl, rfl⟩) (Nat.le_of_ble_eq_true rfl) (Nat.le_of_ble_eq_true rfl)
    · refine ⟨15, 3, 1, ⟨by decide, tableOf [(0, 9, 12, 13)], ⟨0, 9, 15, 21⟩, tableOf [], rfl, (fun z hz => by rcases List.mem_singleton.mp hz with rfl; exact ⟨by decide, xIA, cl_RL_13, ⟨by decide, by decide, by decide⟩⟩), by decide, by decide, cl_RL_21, rfl⟩, ⟨Or.inr ⟨3, dL_type_15, rfl, rfl⟩, by decide⟩, ?_⟩
      refine J_iconst hX dL_type_16 ?_
      exact J_iret hX hQ dL_type_17 (Or.inl ⟨2, Or.inr (Or.inr ⟨h1, rfl⟩), rfl, rfl, rfl⟩) (Nat.le_of_ble_eq_true rfl) (Nat.le_of_ble_eq_true rfl)
  · obtain ⟨v, hv, hr⟩ := vI_n h.2.2.1
    subst hr
    refine J_i2l hX dL_type_7 hv ?_
    refine J_last hX dL_type_8 (by rw [h.2.1]; exact ho) (fun M3 hM3 => ?_)
    refine J_goto hX 18 dL_type_9 (by decide) ?_
    refine J_iconst hX dL_type_18 ?_
    exact J_iret hX hQ dL_type_19 (Or.inr ⟨rfl, v, hv, M2, h, hM3⟩) (Nat.le_of_ble_eq_true rfl) (Nat.le_of_ble_eq_true rfl)
abbrev hh_undo : List (Nat × Nat × Nat × Nat) := [(0, 8, 11, 21)]
theorem cd_L_undo : Cond.codeWith yL_undo cL_undo 3 (some .int) hh_undo ∈ tb := inT 1217 (by decide +kernel)
set_option maxHeartbeats 4000000 in
set_option maxRecDepth 100000 in
theorem m_L_undo {E : EE} {K : Nat → Nat} {M : MM} {x : Nat} {T : Int} {n : Nat} (hE9 : ∀ U, SF E U → ThF E U ∧ NcF U) (hX0 : EyeK K x) (hW : WF T M (x + 1 + 2)) (hV : HV n K M (x + 55) (x + 60)) (hC : Cl K M) {o : Nat} (ho : K o = 11) : CnH E 9 yL_undo cL_undo 3 (some .int) hh_undo [.ref x, .ref o] K M (WrP o K M (fun r K' M' => (if M (x + 55) 0 = 0 then 3 else 0) = (0 : Int) ∧ K' = K ∧ r = some (vI (M (x + 55) 0 - 1)) ∧ UndX M x M') (XKc ((if M (x + 55) 0 = 0 then 3 else 0)) (-1) (-1) 1)) 1 6 := by
  have hx8 : K x ≠ 0 := by rw [hX0.1]; decide
  have ho9 : K o ≠ 0 := by rw [ho]; decide
  refine CnH_of RL (by decide) rfl (Nat.le_of_ble_eq_true rfl) (fun X hX hQ hXK hH => ?_)
  refine J_aload_n hX dL_undo_0 rfl ?_
  refine J_iconst hX dL_undo_1 ?_
  refine J_aload_n hX dL_undo_2 rfl ?_
  refine J_callVH hX hH hXK hE9 [vI 0, .ref o] dL_undo_3 cw_RL_94 (m_X9_undo (fun U h => (hE9 U h).1) hX0 hW hV hC) ⟨hX0.1, by decide, by decide, rfl⟩ rfl (Nat.le_of_ble_eq_true rfl) ⟨by decide, by decide⟩ ⟨Nat.le_of_ble_eq_true rfl, Nat.le_of_ble_eq_true rfl⟩ ⟨hx8, ho9, trivial⟩ ⟨ho9, trivial⟩ (fun _ _ _ h i hi => by rw [h.2.1]; exact hi) (fun nm h => ?_) (fun r K2 M2 h => ?_)
  · rcases h with ⟨h1, rfl⟩ | ⟨h1, rfl⟩ | ⟨h1, rfl⟩
    · exact absurd h1 (by (repeat' split) <;> decide)
    · exact absurd h1 (by (repeat' split) <;> decide)
    · refine ⟨11, 2, 1, ⟨by decide, tableOf [], ⟨0, 8, 11, 21⟩, tableOf [], rfl, (fun z hz => nomatch hz), by decide, by decide, cl_RL_21, rfl⟩, ⟨Or.inr ⟨2, dL_undo_11, rfl, rfl⟩, by decide⟩, ?_⟩
      refine J_iconst hX dL_undo_12 ?_
      exact J_iret hX hQ dL_undo_13 (Or.inl ⟨1, Or.inr (Or.inr ⟨h1, rfl⟩), rfl, rfl, rfl⟩) (Nat.le_of_ble_eq_true rfl) (Nat.le_of_ble_eq_true rfl)
  · obtain ⟨v, hv, hr⟩ := vI_n h.2.2.1
    subst hr
    refine J_i2l hX dL_undo_6 hv ?_
    refine J_last hX dL_undo_7 (by rw [h.2.1]; exact ho) (fun M3 hM3 => ?_)
    refine J_goto hX 14 dL_undo_8 (by decide) ?_
    refine J_iconst hX dL_undo_14 ?_
    exact J_iret hX hQ dL_undo_15 (Or.inr ⟨rfl, v, hv, M2, h, hM3⟩) (Nat.le_of_ble_eq_true rfl) (Nat.le_of_ble_eq_true rfl)
