/-! what holds of the class at every call of the law (its lemmas on ids and rows as whole has them) -/
def SvW (T : Int) (M : MM) (x : Nat) : Prop := ∀ c : Int, 0 ≤ c → c < M (x + 55) 0 → WF T M (M (x + 56) c).toNat
theorem WF_mo {T T2 : Int} {M : MM} {b : Nat} (h : WF T M b) (h1 : T ≤ T2) (h2 : T2 ≤ 1000000000) : WF T2 M b := WF_iS.mpr (WFS_mono (WF_iS.mp h) h1 h2)
theorem HV.at {n : Nat} {K : Nat → Nat} {M : MM} {x : Nat} (hV : HV n K M (x + 55) (x + 60)) {c : Int} (h0 : 0 ≤ c) (h1 : c < M (x + 55) 0) : ∃ q : Nat, q < 4 ∧ (M (x + 56) c).toNat = x + 60 + 16 * q := by
  obtain ⟨h4, ⟨a1, a2⟩, ⟨s1, -, -⟩, -⟩ := hV
  obtain ⟨q, q1, q2⟩ := s1 c h0 (by omega)
  have q3 : M (x + 56) c = ((x + 60 + 16 * q : Nat) : Int) := q2
  exact ⟨q, by omega, by rw [q3]; exact Int.toNat_natCast _⟩
theorem Cl_11 {K : Nat → Nat} {M M2 : MM} (h : Cl K M) (hM : ∀ i, K i ≠ 0 → K i < 10 ∨ 1000 ≤ K i ∨ K i = 11 ∨ K i = 12 ∨ M2 i = M i) : Cl K M2 := by
  intro i hi
  obtain ⟨c1, c2, c3⟩ := h i hi
  refine ⟨c1, fun h1 j h2 => ?_, fun f o h1 h2 h3 h4 h5 => ?_⟩
  · rcases hM i hi with q | q | q | q | q
    · omega
    · omega
    · omega
    · omega
    · rw [q] at h2 ⊢; exact c2 h1 j h2
  · rcases hM i hi with q | q | q | q | q
    · omega
    · omega
    · omega
    · omega
    · rw [q] at h5; exact c3 f o h1 h2 h3 h4 h5
theorem kXa_ok : ∀ j, j < 60 → j ≠ 56 → kXa j < 10 ∨ 1000 ≤ kXa j := by decide
theorem stg_of {M M2 : MM} {b : Nat} (h : ∀ i, b ≤ i → i < b + 16 → M2 i = M i) : stg M2 b = stg M b := stg_eq (fun k hk => h (b + k) (by omega) (by omega))
theorem Vwt_fr {M M2 : MM} {v : Nat} {S : MM} (h : ∀ i, v ≤ i → i < v + 27 → M2 i = M i) (hV : Vwt M v S) : Vwt M2 v S := hV.fr (fun i _ a => h i (by omega) (by omega)) (fun j _ => by rw [h v (by omega) (by omega)])
theorem HOK_fr {M M2 : MM} {v : Nat} {S : MM} (h : ∀ i, v ≤ i → i < v + 27 → M2 i = M i) (hH : HOK M v S) : HOK M2 v S := by
  have e := h v (by omega) (by omega)
  have h1 := hH
  unfold HOK at h1 ⊢
  rw [e]
  rcases h1 with h1 | ⟨a1, a2, a3⟩
  · exact Or.inl h1
  · exact Or.inr ⟨a1, a2, ho_same hH (h _ (by omega) (by omega)) (h _ (by omega) (by omega)) a1 (Or.inl rfl)⟩
theorem Svd_fr {n2 : Nat} {K1 : Nat → Nat} {M Ma M1 M2 : MM} {x : Nat} (h00 : 0 ≤ M (x + 55) 0) (hV : HV n2 K1 M1 (x + 55) (x + 60)) (h : Svd Ma M1 (x + 55) (x + 3)) (hA : ∀ i, (x + 3 ≤ i ∧ i < x + 19) ∨ i = x + 55 ∨ i = x + 56 ∨ (x + 60 ≤ i ∧ i < x + 124) → Ma i = M i)
    (h2 : ∀ i, i = x + 55 ∨ i = x + 56 ∨ (x + 60 ≤ i ∧ i < x + 124) → M2 i = M1 i) : Svd M M2 (x + 55) (x + 3) := by
  have a55 := hA (x + 55) (by omega)
  have a56 := hA (x + 56) (by omega)
  have b55 := h2 (x + 55) (by omega)
  have b56 := h2 (x + 56) (by omega)
  obtain ⟨z, c, hz, h0, hj, hk⟩ := h
  rw [a55] at hz
  have hc0 : 0 ≤ c := by
    rcases hz with ⟨-, q, -⟩ | ⟨-, -, q⟩
    · omega
    · omega
  refine ⟨z, c, hz, by rw [b55]; exact h0, fun j j0 j1 => ?_, fun k k1 k2 => ?_⟩
  · obtain ⟨q1, q2⟩ := hj j j0 j1
    have e1 : M2 (x + 55 + 1) j = M1 (x + 55 + 1) j := congrFun b56 j
    have e2 : Ma (x + 55 + 1) (j + z) = M (x + 55 + 1) (j + z) := congrFun a56 (j + z)
    refine ⟨by rw [e1, ← e2]; exact q1, fun k hk => ?_⟩
    obtain ⟨q, q3, q4⟩ := hV.at (c := j) j0 (by omega)
    have q4' : (M1 (x + 55 + 1) j).toNat = x + 60 + 16 * q := q4
    have := q2 k hk
    rw [e1]
    rw [q4'] at this ⊢
    rw [h2 _ (by omega), this, hA _ (by omega)]
  · have e1 : M2 (x + 55 + 1) c = M1 (x + 55 + 1) c := congrFun b56 c
    obtain ⟨q, q3, q4⟩ := hV.at (c := c) hc0 (by omega)
    have q4' : (M1 (x + 55 + 1) c).toNat = x + 60 + 16 * q := q4
    have := hk k k1 k2
    rw [e1]
    rw [q4'] at this ⊢
    rw [h2 _ (by omega), this, hA _ (by omega)]
theorem i32_eq {c k : Int} (h : c = k) (hk : i32 k) : i32 c := h ▸ hk
theorem ints_k {k : Int} : ∀ v ∈ (some (vI k)).toList, ∀ ad1 ad2 : Nat → Nat, cv ad1 v = cv ad2 v := fun v hv _ _ => by
  have : v = vI k := List.mem_singleton.mp hv
  rw [this]; rfl
def Qs (M : MM) (x : Nat) (Mc : MM) : Prop := Frs Mc x ∧ stg Mc (x + 3) = stg M (x + 3) ∧ (∃ To, WF To Mc (x + 30)) ∧ ∀ i, i < x ∨ x + 55 ≤ i → Mc i = M i
theorem lkd_fr {M Mc : MM} {x : Nat} (h : Lkd M x Mc) : ∀ i, i < x ∨ x + 27 < i → Mc i = M i := fun i hi => h.1 i (by omega) (by omega) (by omega) (by omega)
theorem lkd_frs {M Mc : MM} {x : Nat} (h : Lkd M x Mc) : Frs Mc x := by
  obtain ⟨-, -, a3, a4, a5, a6⟩ := h
  unfold Frs
  rw [a6]
  exact Or.inr ⟨a3, a4, a5⟩
/-- the other view's stage changed, nothing else -/
theorem Frs_fr {M Mc : MM} {x : Nat} (h : ∀ i, x ≤ i → i < x + 28 → Mc i = M i) (hF : Frs M x) : Frs Mc x := by
  unfold Frs at hF ⊢
  rw [h x (by omega) (by omega), stg_of (M := M) (M2 := Mc) (b := x + 3) (fun i a1 a2 => h i (by omega) (by omega))]
  rcases hF with w3 | ⟨w3, w4, w5⟩
  · exact Or.inl w3
  · exact Or.inr ⟨w3, Vwt_fr (fun i a1 a2 => h i (by omega) (by omega)) w4, HOK_fr (fun i a1 a2 => h i (by omega) (by omega)) w5⟩
theorem oth_q {M Mc : MM} {x : Nat} {T : Int} (hF : Frs M x) (h : ∀ i, i < x + 28 ∨ x + 54 < i → Mc i = M i) (hW : WF T Mc (x + 30)) : Qs M x Mc := ⟨Frs_fr (fun i _ a2 => h i (by omega)) hF, stg_of (fun i a1 a2 => h i (by omega)), ⟨T, hW⟩, fun i hi => h i (by omega)⟩
theorem oth_q2 {M M1 Mc : MM} {x : Nat} {T : Int} (hL : Lkd M x M1) (h : ∀ i, i < x + 28 ∨ x + 54 < i → Mc i = M1 i) (hW : WF T Mc (x + 30)) : Qs M x Mc := by
  obtain ⟨a1, a2, a3, a4⟩ := oth_q (lkd_frs hL) h hW
  exact ⟨a1, a2.trans hL.2.2.2.2.2, a3, fun i hi => by rw [h i (by omega), lkd_fr hL i (by omega)]⟩
/-! the law's first rows: the class, its reference, two arrays -/
theorem kX_v1 : ∀ j, j < 27 → kX (1 + j) = kV j := by decide
theorem kX_v2 : ∀ j, j < 27 → kX (28 + j) = kV j := by decide
def K0 : Nat → Nat := fun _ => 0
def M0 : MM := fun _ _ => 0
theorem Cl_0 : Cl K0 M0 := fun i hi => absurd rfl hi
theorem lvs1 {K : Nat → Nat} {v : Nat} (h : 1000000 ≤ v ∨ K v ≠ 0) : pinK K v ≠ 0 := by
  unfold pinK
  by_cases e : 1000000 ≤ v
  · rw [if_pos e]; decide
  · rw [if_neg e]
    rcases h with h | h
    · exact absurd h e
    · exact h
theorem no_ints : ∀ v ∈ (none : Option Value).toList, ∀ ad1 ad2 : Nat → Nat, cv ad1 v = cv ad2 v := fun v hv => by cases hv
/-- the first page -/
theorem WF_0 {M : MM} {b : Nat} (h : M b 3 = 80 ∧ M b 4 = 40 ∧ M b 5 = 0 ∧ M b 6 = 0 ∧ M b 7 = 0 ∧ M (b + 1) 0 = 0 ∧ M (b + 11) 0 = 0 ∧ M (b + 11) 1 = 0 ∧ M (b + 11) 2 = -5 ∧ M (b + 11) 3 = 5 ∧ M (b + 15) 0 = 20 ∧ M (b + 15) 1 = 1 ∧ M (b + 15) 2 = 4 ∧ M (b + 15) 3 = 10) : WF 0 M b := by
  obtain ⟨h3, h4, h5, h6, h7, h10, h110, h111, h112, h113, h150, h151, h152, h153⟩ := h
  refine ⟨by decide, ?_, fun n n0 n1 => ?_, fun s s0 s1 => ?_⟩
  · unfold WFs
    rw [h3, h4, h5, h6, h7, h10, h110, h111, h112, h113, h150, h151, h152, h153]
    decide
  · rw [h10] at n1; omega
  · rw [h110] at s1; omega

theorem Cl33 {K : Nat → Nat} {M M2 : MM} {x : Nat} (hE : EyeK K x) (hC : Cl K M) (h : ∀ i, i < x ∨ i = x + 56 ∨ x + 60 ≤ i → M2 i = M i) : Cl K M2 := by
  refine Cl_11 hC (fun i hi => ?_)
  by_cases c1 : i < x ∨ i = x + 56 ∨ x + 60 ≤ i
  · exact Or.inr (Or.inr (Or.inr (Or.inr (h i c1))))
  · have := hE.all (i - x) (by omega)
    rw [show x + (i - x) = i by omega] at this
    rw [this]
    rcases kXa_ok (i - x) (by omega) (by omega) with q | q
    · exact Or.inl q
    · exact Or.inr (Or.inl q)
/-- the class at x stands at the page S, with c states saved, the latest alike P -/
def IV (n : Nat) (T : Int) (K : Nat → Nat) (M : MM) (x : Nat) (S : MM) (c : Int) (P : MM) : Prop :=
  (EyeK K x ∧ (∀ i, x + 124 ≤ i → K i = 0) ∧ x + 124 ≤ 1000000) ∧ HV n K M (x + 55) (x + 60) ∧ Cl K M ∧ WF T M (x + 3) ∧ (∃ To, WF To M (x + 30)) ∧ Frs M x ∧ SvW T M x ∧ M (x + 57) 0 = 0 ∧ stg M (x + 3) = S ∧ M (x + 55) 0 = c ∧ (0 < c → ∀ k, k ≠ 10 → stg M (M (x + 56) (c - 1)).toNat k = P k)
section IVS
variable {n : Nat} {T : Int} {K : Nat → Nat} {M : MM} {x : Nat} {S : MM} {c : Int} {P : MM}
theorem IV.eye (h : IV n T K M x S c P) : EyeK K x := h.1.1
theorem IV.z (h : IV n T K M x S c P) : ∀ i, x + 124 ≤ i → K i = 0 := h.1.2.1
theorem IV.xs (h : IV n T K M x S c P) : x + 124 ≤ 1000000 := h.1.2.2
theorem IV.zz (h : IV n T K M x S c P) : ∀ i, 1000000 ≤ i → K i = 0 := fun i hi => h.1.2.1 i (by have := h.1.2.2; omega)
theorem IV.hv (h : IV n T K M x S c P) : HV n K M (x + 55) (x + 60) := h.2.1
theorem IV.cl (h : IV n T K M x S c P) : Cl K M := h.2.2.1
theorem IV.wf (h : IV n T K M x S c P) : WF T M (x + 3) := h.2.2.2.1
theorem IV.ot (h : IV n T K M x S c P) : ∃ To, WF To M (x + 30) := h.2.2.2.2.1
theorem IV.fr (h : IV n T K M x S c P) : Frs M x := h.2.2.2.2.2.1
theorem IV.sw (h : IV n T K M x S c P) : SvW T M x := h.2.2.2.2.2.2.1
theorem IV.tx (h : IV n T K M x S c P) : M (x + 57) 0 = 0 := h.2.2.2.2.2.2.2.1
theorem IV.pg (h : IV n T K M x S c P) : stg M (x + 3) = S := h.2.2.2.2.2.2.2.2.1
theorem IV.ct (h : IV n T K M x S c P) : M (x + 55) 0 = c := h.2.2.2.2.2.2.2.2.2.1
theorem IV.top (h : IV n T K M x S c P) : 0 < c → ∀ k, k ≠ 10 → stg M (M (x + 56) (c - 1)).toNat k = P k := h.2.2.2.2.2.2.2.2.2.2
theorem IV.wfs (h : IV n T K M x S c P) : WFS T S := h.pg ▸ WF_iS.mp h.wf
theorem IV.c0 (h : IV n T K M x S c P) : 0 ≤ c := h.ct ▸ h.hv.2.1.1
theorem IV_mo {T2 : Int} (h : IV n T K M x S c P) (h1 : T ≤ T2) (h2 : T2 ≤ 1000000000) : IV n T2 K M x S c P :=
  ⟨h.1, h.2.1, h.2.2.1, WF_mo h.wf h1 h2, h.ot, h.fr, fun c c0 c1 => WF_mo (h.sw c c0 c1) h1 h2, h.2.2.2.2.2.2.2⟩
/-- a call that only looks -/
theorem IV_look {M2 : MM} (h : IV n T K M x S c P) (hL : Qs M x M2) : IV n T K M2 x S c P := by
  obtain ⟨l1, l2, l3, l4⟩ := hL
  have h55 := l4 (x + 55) (by omega)
  have h56 := l4 (x + 56) (by omega)
  have hst : ∀ c : Int, 0 ≤ c → c < M (x + 55) 0 → stg M2 (M (x + 56) c).toNat = stg M (M (x + 56) c).toNat := fun c c0 c1 => by
    obtain ⟨q, q1, q2⟩ := h.hv.at c0 c1
    rw [q2]
    exact stg_of (fun i a1 a2 => l4 i (by omega))
  refine ⟨h.1, h.hv.fr h55 h56, Cl33 h.eye h.cl (fun i hi => l4 i (by omega)), WF_fr l2 h.wf, l3, l1, fun c c0 c1 => ?_, by rw [l4 (x + 57) (by omega)]; exact h.tx, l2.trans h.pg, by rw [h55]; exact h.ct, fun hc k hk => ?_⟩
  · rw [h55] at c1
    rw [h56]
    exact WF_fr (hst c c0 c1) (h.sw c c0 c1)
  · rw [h56, hst (c - 1) (by omega) (by rw [h.ct]; omega)]
    exact h.top hc k hk
theorem IV_same (h : IV n T K M x S c P) : Qs M x M := ⟨h.fr, rfl, h.ot, fun _ _ => rfl⟩
theorem IV_lkd {M2 : MM} (h : IV n T K M x S c P) (hL : Lkd M x M2) : IV n T K M2 x S c P := by
  obtain ⟨To, hTo⟩ := h.ot
  exact IV_look h ⟨lkd_frs hL, hL.2.2.2.2.2, ⟨To, WF_fr (stg_of (fun i a1 a2 => lkd_fr hL i (by omega))) hTo⟩, fun i hi => lkd_fr hL i (by omega)⟩
/-- a call that saves the state and changes the page -/
theorem IV_ch {T2 : Int} {K1 : Nat → Nat} {M1 Mc : MM} (h : IV n T K M x S c P) (hk : KeptX n K M x K1 M1) (hp : ∀ i, i < x + 3 ∨ x + 18 < i → Mc i = M1 i) (hW2 : WF T2 Mc (x + 3)) (hTT : T ≤ T2) : ∃ n2 c2, IV n2 T2 K1 Mc x (stg Mc (x + 3)) c2 S ∧ 0 < c2 ∧ (c = 0 → c2 = 1) := by
  obtain ⟨j1, j2, j3, ⟨n2, j4, j5⟩, j6, j7, j8, j9, j10⟩ := id hk
  have hT2 := hW2.1
  have hE1 : EyeK K1 x := hk.eye h.eye
  obtain ⟨z, c', hz, g0, gj, gk⟩ := Svd_fr h.hv.2.1.1 j5 j10 (fun i _ => rfl) (fun i hi => hp i (by omega))
  have hct := h.ct
  have hc0 : 0 ≤ c' := by
    have := h.hv.2.1
    omega
  have f2 : ∀ i, i < x + 3 ∨ x + 18 < i → i ≠ x → i ≠ x + 55 → i ≠ x + 56 → (i < x + 60 ∨ x + 124 ≤ i) → Mc i = M i := fun i a1 a2 a3 a4 a5 => by rw [hp i a1, j6 i a2 a3 a4 a5]
  have hold : ∀ j : Int, 0 ≤ j → j < c' → Mc (x + 56) j = M (x + 56) (j + z) ∧ stg Mc (Mc (x + 56) j).toNat = stg M (Mc (x + 56) j).toNat ∧ 0 ≤ j + z ∧ j + z < M (x + 55) 0 := fun j j0 j1 => by
    obtain ⟨q1, q2⟩ := gj j j0 j1
    exact ⟨q1, stg_eq (fun k hk => q2 k hk), by omega, by omega⟩
  have hnew : ∀ k, k ≠ 10 → stg Mc (Mc (x + 56) c').toNat k = stg M (x + 3) k := Alk.stg gk
  have g0' : Mc (x + 55) 0 = c' + 1 := g0
  refine ⟨n2, c' + 1, ⟨⟨hE1, fun i hi => by rw [j2 i (by omega)]; exact h.z i hi, h.xs⟩, j5.fr (hp _ (by omega)) (hp _ (by omega)), Cl33 hE1 j3 (fun i hi => hp i (by omega)), hW2, ?_, Or.inl (by rw [hp x (by omega)]; exact j8), fun j j0 j1 => ?_, by rw [f2 (x + 57) (by omega) (by omega) (by omega) (by omega) (by omega)]; exact h.tx, rfl, g0', fun _ k hk => ?_⟩, by omega, fun e => ?_⟩
  · obtain ⟨To, hTo⟩ := h.ot
    exact ⟨To, WF_fr (stg_of (fun i a1 a2 => f2 i (by omega) (by omega) (by omega) (by omega) (by omega))) hTo⟩
  · rw [g0'] at j1
    by_cases q : j < c'
    · obtain ⟨q1, q2, q3, q4⟩ := hold j j0 q
      refine WF_fr q2 ?_
      rw [q1]
      exact WF_mo (h.sw _ q3 q4) hTT hT2
    · obtain rfl : j = c' := by omega
      exact WF_iS.mpr (WFS_alk hnew (WFS_mono (WF_iS.mp h.wf) hTT hT2))
  · rw [show c' + 1 - 1 = c' by omega, hnew k hk, h.pg]
  · omega
/-- a state is taken back -/
theorem IV_undo {Mc : MM} (h : IV n T K M x S c P) (hu : UndX M x Mc) (hpos : 0 < c) : ∃ P2, IV n T K Mc x (stg Mc (x + 3)) (c - 1) P2 ∧ ∀ k, k ≠ 10 → stg Mc (x + 3) k = P k := by
  obtain ⟨u1, u2, u3, u4, u5, u6⟩ := hu
  have hct := h.ct
  have hn := h.hv.2.1
  have h56 := u2 (x + 56) (by omega) (by omega) (by omega)
  have hst : ∀ c : Int, 0 ≤ c → c < M (x + 55) 0 → stg Mc (M (x + 56) c).toNat = stg M (M (x + 56) c).toNat := fun c c0 c1 => by
    obtain ⟨q, q1, q2⟩ := h.hv.at c0 c1
    rw [q2]
    exact stg_of (fun i a1 a2 => u2 i (by omega) (by omega) (by omega))
  have hal : ∀ k, k ≠ 10 → stg Mc (x + 3) k = stg M (M (x + 56) (M (x + 55) 0 - 1)).toNat k := Alk.stg u6
  have hw9 := h.sw (M (x + 55) 0 - 1) (by omega) (by omega)
  refine ⟨fun k => stg Mc (Mc (x + 56) (c - 1 - 1)).toNat k, ⟨h.1, ?_, Cl33 h.eye h.cl (fun i hi => u2 i (by omega) (by omega) (by omega)), WF_iS.mpr (WFS_alk hal (WF_iS.mp hw9)), ?_, Or.inl u4, fun c c0 c1 => ?_, by rw [u2 (x + 57) (by omega) (by omega) (by omega)]; exact h.tx, rfl, by rw [u1, hct], fun _ _ _ => rfl⟩, fun k hk => ?_⟩
  · obtain ⟨a1, a2, a3, a4⟩ := h.hv
    refine ⟨a1, by omega, ?_, a4⟩
    have e : Mc (x + 55 + 1) = M (x + 55 + 1) := h56
    unfold SL at a3 ⊢
    rw [e]
    exact a3
  · obtain ⟨To, hTo⟩ := h.ot
    exact ⟨To, WF_fr (stg_of (fun i a1 a2 => u2 i (by omega) (by omega) (by omega))) hTo⟩
  · rw [u1] at c1
    rw [h56]
    exact WF_fr (hst c c0 (by omega)) (h.sw c c0 (by omega))
  · rw [hal k hk, hct]
    exact h.top hpos k hk
end IVS

