/-! faces: rules -/
def kXa (j : Nat) : Nat := if j = 0 then 8 else if j < 28 then kV (j - 1) else if j < 55 then kV (j - 28) else if j = 55 then 1 else if j = 56 then 10 else if j = 57 then 4 else if j = 58 then 1150 else 1006
def EyA (K : Nat → Nat) (x : Nat) : Prop := ∀ j, j < 60 → K (x + j) = kXa j
theorem EyeK.all {K : Nat → Nat} {x : Nat} (h : EyeK K x) : EyA K x := by
  obtain ⟨h0, h1, h2, ⟨h3, h4⟩, h5, h6, h7⟩ := h
  intro j hj
  unfold kXa
  by_cases e : j = 0
  · subst e; exact h0
  rw [if_neg e]
  by_cases e1 : j < 28
  · rw [if_pos e1]
    have := h1 (j - 1) (by omega)
    rwa [show x + 1 + (j - 1) = x + j by omega] at this
  rw [if_neg e1]
  by_cases e2 : j < 55
  · rw [if_pos e2]
    have := h2 (j - 28) (by omega)
    rwa [show x + 28 + (j - 28) = x + j by omega] at this
  rw [if_neg e2]
  have e3 : j = 55 ∨ j = 56 ∨ j = 57 ∨ j = 58 ∨ j = 59 := by omega
  rcases e3 with rfl | rfl | rfl | rfl | rfl
  · exact h3
  · exact h4
  · exact h5
  · exact h6
  · exact h7
theorem EyA.view {K : Nat → Nat} {x : Nat} (h : EyA K x) : ViewK K (x + 1) := fun j hj => by
  have := h (1 + j) (by omega)
  rw [show x + 1 + j = x + (1 + j) by omega, this]
  unfold kXa
  rw [if_neg (by omega), if_pos (by omega), show 1 + j - 1 = j by omega]
theorem EyA.other {K : Nat → Nat} {x : Nat} (h : EyA K x) : ViewK K (x + 28) := fun j hj => by
  have := h (28 + j) (by omega)
  rw [show x + 28 + j = x + (28 + j) by omega, this]
  unfold kXa
  rw [if_neg (by omega), if_neg (by omega), if_pos (by omega), show 28 + j - 28 = j by omega]
theorem if_0 {P : Prop} [Decidable P] {k : Int} (hk : k ≠ 0) (h : (if P then 0 else k) = 0) : P := by
  by_cases q : P
  · exact q
  · rw [if_neg q] at h; exact absurd h hk
/-- of two faults the first -/
abbrev f2l (f1 f2 : Int) : Int := if f1 = 0 then f2 else f1
theorem xp_1 {f1 f2 : Int} {nm : String} (h : xpF f1 nm) : xpF (f2l f1 f2) nm := by
  unfold f2l
  by_cases q : f1 = 0
  · rw [q] at h
    rcases h with h | h | h <;> exact absurd h.1 (by decide)
  · rw [if_neg q]; exact h
theorem xp_2 {f1 f2 : Int} {nm : String} (e : f1 = 0) (h : xpF f2 nm) : xpF (f2l f1 f2) nm := by
  unfold f2l; rw [if_pos e]; exact h
theorem xp_e {f g : Int} {nm : String} (e : g = f) (h : xpF f nm) : xpF g nm := e ▸ h
section RULES
variable {E : EE} {X : JX} {cc : ByteArray} {own : String} {nl d c0 s0 : Nat} {pc : Nat} {L : List (Nat × Value)} {st : List Value} {K : Nat → Nat} {M : MM} {a b : Nat}
theorem J_refuse (hX : XO E X cc RX9 nl d c0 s0) (hT : XT0 E X) (hXK : XK X = K) {rt : Option FieldType} {post0 : Option Value → (Nat → Nat) → MM → Prop} {M0 : MM} {xp0 : String → Prop} (hQ : XQX E X rt post0 M0 xp0 c0 s0) (hM : M = M0) (hE : ∀ U, SF E U → ThF E U) {f : Int} (hd : decode cc pc = .ok (.invokestatic 51, 3)) (hf : 0 ≤ f ∧ f ≤ 3) (hcat : (st.map fun v => v.category).sum ≤ 8) (hdp : 7 ≤ d) (hcs : a + 1 ≤ c0 ∧ b + 6 ≤ s0)
    (hxp : ∀ nm, xpF f nm → xp0 nm) (k1 : f = 0 → J E X (pc + 3) L st K M (a + 1) (b + 6)) : J E X pc L (vI f :: st) K M a b :=
  J_callSX hX hT hXK hQ hM st hd cw_RX9_51 (m_X9_refuse hE (by omega)) rfl hcat ⟨hdp, by decide⟩ hcs (fun r K' M' h => h.2.1) hxp (fun r M' h => by
    obtain ⟨rfl, -, rfl, h4⟩ := h
    exact k1 (by omega))
theorem J_keep (hX : XO E X cc RX9 nl d c0 s0) (hg : XK X = K) {n x : Nat} (hX0 : EyeK K x) (hV : HV n K M (x + 55) (x + 60)) (hC : Cl K M) (hd : decode cc pc = .ok (.invokevirtual 55, 3)) (hdp : 6 ≤ d) (hcs : a + 16 ≤ c0 ∧ b + 233 ≤ s0) (hL : lvs K (L.map (fun q => q.2))) (hst : lvs K st) (hcat : (st.map fun v => v.category).sum ≤ 8)
    (k1 : ∀ K2 M2, KeptX n K M x K2 M2 → J E X (pc + 3) L st K2 M2 (a + 16) (b + 233)) : J E X pc L (.ref x :: st) K M a b :=
  J_callVK hX st hd cw_RX9_55 (m_X9_keepState hX0 hV hC) ⟨hX0.1, by decide, by decide, rfl⟩ rfl hcat ⟨hdp, by decide⟩ hcs (Or.inl hg) hL hst (fun r K2 M2 h i hi => by rw [h.2.1 i hi]; exact hi) (fun r K2 M2 h => by
    obtain ⟨rfl, h⟩ := h
    exact k1 K2 M2 h)
theorem J_fresh (hX : XO E X cc RX9 nl d c0 s0) {T : Int} {x : Nat} (hX0 : EyeK K x) (hW : WF T M (x + 1 + 2)) (hF : Frs M x) (hd : decode cc pc = .ok (.invokevirtual 134, 3)) (hdp : 7 ≤ d) (hab : a ≤ c0 ∧ b ≤ s0) (hcat : (st.map fun v => v.category).sum ≤ 8)
    (k1 : ∀ M2, Lkd M x M2 → WF T M2 (x + 1 + 2) → Vwt M2 (x + 1) (stg M2 (x + 1 + 2)) → HOK M2 (x + 1) (stg M2 (x + 1 + 2)) → stg M2 (x + 1 + 2) = stg M (x + 1 + 2) → J E X (pc + 3) L (.ref (x + 1) :: st) K M2 a b) : J E X pc L (.ref x :: st) K M a b :=
  J_callVM hX st hd cw_RX9_134 (m_X9_freshView hX0 hW hF) ⟨hX0.1, by decide, by decide, rfl⟩ rfl hcat ⟨hdp, by decide⟩ hab (fun r9 M2 q => by
    obtain ⟨rfl, hL⟩ := q
    obtain ⟨l1, l2, l3, l4, l5, l6⟩ := id hL
    have e6 : stg M2 (x + 1 + 2) = stg M (x + 1 + 2) := l6
    exact k1 M2 hL (WF_fr e6 hW) (by rw [e6]; exact l4) (by rw [e6]; exact l5) e6)
end RULES
/-- a look at the view that paints rows -/
theorem Lkd.step {M M2 M3 : MM} {x : Nat} (h : Lkd M x M2) (h1 : ∀ i, i ≠ x + 1 → i ≠ x + 1 + 25 → i ≠ x + 1 + 26 → M3 i = M2 i) (h2 : ∀ j, j ≠ 9 → M3 (x + 1) j = M2 (x + 1) j) (h3 : HOK M3 (x + 1) (stg M (x + 3))) : Lkd M x M3 := by
  obtain ⟨l1, l2, l3, l4, l5, l6⟩ := h
  have e0 : M3 x = M2 x := h1 x (by omega) (by omega) (by omega)
  refine ⟨fun i i1 i2 i3 i4 => by rw [h1 i (by omega) (by omega) (by omega)]; exact l1 i i1 i2 i3 i4, fun j hj => by rw [e0]; exact l2 j hj, by rw [e0]; exact l3, l4.fr (fun i i1 i2 => h1 i i1 (by omega) (by omega)) h2, h3, ?_⟩
  rw [← l6]
  exact stg_eq (fun k hk => h1 _ (by omega) (by omega) (by omega))
theorem fG_0 {M : MM} {b : Nat} {p u v w : Int} (h : fG M b p u v w = 0) : (p = -1000 ∨ has M b p) ∧ ¬ box M b p ∧ plc u v w ∧ M (b + 1) 0 < 20 ∧ arC M b p ≤ 5 := by
  unfold fG at h
  by_cases h1 : p ≠ -1000 ∧ ¬ has M b p
  · rw [if_pos h1] at h; omega
  rw [if_neg h1] at h
  by_cases h2 : box M b p ∨ ¬ plc u v w
  · rw [if_pos h2] at h; omega
  rw [if_neg h2] at h
  by_cases h3 : 20 ≤ M (b + 1) 0 ∨ 5 < arC M b p
  · rw [if_pos h3] at h; omega
  exact ⟨by omega, fun q => h2 (Or.inl q), by omega, by omega, by omega⟩
theorem fB_0 {M : MM} {b : Nat} {p u v w wd hg : Int} (h : fB M b p u v w wd hg = 0) : fG M b p u v w = 0 ∧ (1 ≤ wd ∧ wd ≤ 100) ∧ (1 ≤ hg ∧ hg ≤ 100) := by
  unfold fB at h
  split at h
  · omega
  · exact ⟨h, by omega, by omega⟩
theorem fP_0 {M : MM} {b : Nat} {n u v w : Int} (h : fP M b n u v w = 0) : has M b n ∧ plc u v w := by
  unfold fP at h
  split at h
  · omega
  · split at h
    · exact ⟨by omega, by omega⟩
    · omega
theorem fCo_0 {M : MM} {b : Nat} {n s : Int} (h : fCo M b n s = 0) : has M b n ∧ box M b n ∧ (0 ≤ s ∧ s ≤ 15) := by
  unfold fCo at h
  split at h
  · omega
  · split at h
    · exact ⟨by omega, by omega, by omega⟩
    · omega
theorem fS_0 {M : MM} {b : Nat} {l g t : Int} (h : fS M b l g t = 0) : ((-20 ≤ l ∧ l ≤ 0) ∧ (0 ≤ g ∧ g ≤ 20)) ∧ (1 ≤ t ∧ t ≤ 50) ∧ M (b + 11) 0 < 8 := by
  unfold fS at h
  split at h
  · split at h
    · omega
    · exact ⟨by omega, by omega, by omega⟩
  · omega
theorem fT_0 {M : MM} {b : Nat} {x y l : Int} (h : fT M b x y l = 0) : ((0 ≤ x ∧ x ≤ M b 3 - 1) ∧ (0 ≤ y ∧ y ≤ M b 4 - 1)) ∧ (1 ≤ l ∧ l ≤ 40) := by
  unfold fT at h
  split at h
  · assumption
  · omega
theorem fCe_0 {M : MM} {b : Nat} {c r : Int} (h : fCe M b c r = 0) : (0 ≤ c ∧ c ≤ M b 3 - 1) ∧ (0 ≤ r ∧ r ≤ M b 4 - 1) := by
  unfold fCe at h
  split at h
  · assumption
  · omega
theorem fG_r (M : MM) (b : Nat) (p u v w : Int) : 0 ≤ fG M b p u v w ∧ fG M b p u v w ≤ 3 := by unfold fG; (repeat' split) <;> omega
theorem fB_r (M : MM) (b : Nat) (p u v w wd hg : Int) : 0 ≤ fB M b p u v w wd hg ∧ fB M b p u v w wd hg ≤ 3 := by
  have := fG_r M b p u v w
  unfold fB; split <;> omega
theorem fP_r (M : MM) (b : Nat) (n u v w : Int) : 0 ≤ fP M b n u v w ∧ fP M b n u v w ≤ 3 := by unfold fP; (repeat' split) <;> omega
theorem fCo_r (M : MM) (b : Nat) (n s : Int) : 0 ≤ fCo M b n s ∧ fCo M b n s ≤ 3 := by unfold fCo; (repeat' split) <;> omega
theorem fS_r (M : MM) (b : Nat) (l g t : Int) : 0 ≤ fS M b l g t ∧ fS M b l g t ≤ 3 := by unfold fS; (repeat' split) <;> omega
theorem fT_r (M : MM) (b : Nat) (x y l : Int) : 0 ≤ fT M b x y l ∧ fT M b x y l ≤ 3 := by unfold fT; (repeat' split) <;> omega
theorem fCe_r (M : MM) (b : Nat) (c r : Int) : 0 ≤ fCe M b c r ∧ fCe M b c r ≤ 3 := by unfold fCe; (repeat' split) <;> omega
theorem if_r {P : Prop} [Decidable P] {k : Int} (hk : 0 ≤ k ∧ k ≤ 3) : 0 ≤ (if P then 0 else k) ∧ (if P then 0 else k) ≤ 3 := by split <;> omega
