/-! the law's first rows: the class, its reference, two arrays -/
theorem kX_v1 : ∀ j, j < 27 → kX (1 + j) = kV j := by decide
theorem kX_v2 : ∀ j, j < 27 → kX (28 + j) = kV j := by decide
section RULES
variable {E : EE} {X : JX} {cc : ByteArray} {own : String} {nl d c0 s0 : Nat} {pc : Nat} {L : List (Nat × Value)} {st : List Value} {K : Nat → Nat} {M : MM} {a b : Nat}
theorem JP_rg {i : Nat} (j : Int) (hK : K i ≠ 0) (k1 : rg (K i) j (M i j) → JP E X pc L st K M a b) : JP E X pc L st K M a b := by
  obtain ⟨p, l, e, R, s, m, args, below, meth, c, Q, nL, K0, ad0⟩ := X
  intro ad H locs ls hp hR hs hv
  exact k1 (hR.2.2.2.2 i j hK) ad H locs ls hp hR hs hv
end RULES
def K0 : Nat → Nat := fun _ => 0
def M0 : MM := fun _ _ => 0
theorem Cl_0 : Cl K0 M0 := fun i hi => absurd rfl hi
theorem lvs1 {K : Nat → Nat} {v : Nat} (h : 1000000 ≤ v ∨ K v ≠ 0) : pinK K v ≠ 0 := by
  unfold pinK
  by_cases e : 1000000 ≤ v
  · rw [if_pos e]; decide
  · rw [if_neg e]
    rcases h with h | h
    · exact absurd h e
    · exact h
theorem no_ints : ∀ v ∈ (none : Option Value).toList, ∀ ad1 ad2 : Nat → Nat, cv ad1 v = cv ad2 v := fun v hv => by cases hv
/-- the first page -/
theorem WF_0 {M : MM} {b : Nat} (h : M b 3 = 80 ∧ M b 4 = 40 ∧ M b 5 = 0 ∧ M b 6 = 0 ∧ M b 7 = 0 ∧ M (b + 1) 0 = 0 ∧ M (b + 11) 0 = 0 ∧ M (b + 11) 1 = 0 ∧ M (b + 11) 2 = -5 ∧ M (b + 11) 3 = 5 ∧ M (b + 15) 0 = 20 ∧ M (b + 15) 1 = 1 ∧ M (b + 15) 2 = 4 ∧ M (b + 15) 3 = 10) : WF 0 M b := by
  obtain ⟨h3, h4, h5, h6, h7, h10, h110, h111, h112, h113, h150, h151, h152, h153⟩ := h
  refine ⟨by decide, ?_, fun n n0 n1 => ?_, fun s s0 s1 => ?_⟩
  · unfold WFs
    rw [h3, h4, h5, h6, h7, h10, h110, h111, h112, h113, h150, h151, h152, h153]
    decide
  · rw [h10] at n1; omega
  · rw [h110] at s1; omega
set_option maxHeartbeats 4000000 in
set_option maxRecDepth 100000 in
theorem law_first {E : EE} {X : JX} {c0 s0 N x : Nat} {sc : Int → Int} (hx : x + 200 ≤ 1000000) (hX : XO E X cL_law RL 9 12 c0 s0) (hl : XL X) (hE : LF E N sc) (hcs : 100 ≤ c0 ∧ 4000 ≤ s0)
    (k1 : ∀ K M, Inv 0 0 K M x (x + 124) (x + 136) → JP E X 28 (LL x (x + 124) (x + 136) 0) [] K M 100 4000) : JP E X 0 [(0, .ref (1000000 + 50))] [] K0 M0 0 0 := by
  refine JP_new hX x fn_RL_8 dL_law_0 rfl (by omega) Cl_0 ⟨lvs1 (Or.inl (by decide)), trivial⟩ trivial ⟨by omega, by show 0 + 7 ≤ s0; omega⟩ (fun K1 M1 eK1 eM1 hC1 => ?_)
  have h1 : ∀ j : Nat, j ≠ x → K1 j = 0 := fun j hj => by rw [eK1, upK_ne hj]; rfl
  have h10 : K1 x = 100 + 8 := by rw [eK1, upK_eq]
  refine JP_step hX hl (fun X2 hX2 h => J_dup hX2 dL_law_3 rfl h) ?_
  refine JP_in hX hl (fun X2 hX2 hl2 hP2 hK2 hsm2 => ?_)
  refine J_callIKP hX2 hP2 hK2 [.ref x] dL_law_4 cw_RL_98 (m_X9_init2 (x := x) hE.ao h10 (fun j j1 _ => h1 _ (by omega)) hC1) rfl (Nat.le_of_ble_eq_true rfl) ⟨by decide, by decide⟩ ⟨by omega, by show 0 + 7 + 1755 ≤ s0; omega⟩ ⟨lvs1 (Or.inl (by decide)), trivial⟩ ⟨lvs1 (Or.inr (by rw [h10]; decide)), trivial⟩ (fun r K' M' h => ⟨h.2.2.2.2.2, fun i hi => by rw [h.2.1, regK_out (by omega)]; exact h1 i (by omega), by rw [h.1]; exact no_ints⟩) (fun r9 K2 M2 h => hsm2 _ _ _ _ _ _ _ ?_)
  obtain ⟨rfl, eK2, f2, p2, q2, hC2⟩ := h
  have g2 : ∀ i, x + 60 ≤ i → K2 i = 0 := fun i hi => by rw [eK2, regK_out (by omega)]; exact h1 i (by omega)
  have g2x : ∀ j, j < 60 → K2 (x + j) = kX j := fun j hj => by rw [eK2, regK_at (j := j) rfl hj]
  have g20 : K2 x ≠ 0 := by rw [show K2 x = kX 0 from g2x 0 (by decide)]; decide
  refine JP_step hX hl (fun X2 hX2 h => J_astore_n hX2 dL_law_7 (by decide) (J_loc [(0, .ref (1000000 + 50)), (1, .ref x)] rfl h)) ?_
  refine JP_new hX (x + 124) fn_RL_99 dL_law_8 (g2 _ (by omega)) (by omega) hC2 ⟨lvs1 (Or.inl (by decide)), lvs1 (Or.inr g20), trivial⟩ trivial ⟨by omega, by show 0 + 7 + 1755 + 24 ≤ s0; omega⟩ (fun K3 M3 eK3 eM3 hC3 => ?_)
  have g3 : ∀ i, i ≠ x + 124 → K3 i = K2 i := fun i hi => by rw [eK3, upK_ne hi]
  have g3r : K3 (x + 124) = 100 + 9 := by rw [eK3, upK_eq]
  refine JP_step hX hl (fun X2 hX2 h => J_dup hX2 dL_law_11 rfl h) ?_
  refine JP_in hX hl (fun X2 hX2 hl2 hP2 hK2 hsm2 => ?_)
  refine J_callIKP hX2 hP2 hK2 [.ref (x + 124)] dL_law_12 cw_RL_101 (m_X10_init (g := x + 124) g3r (fun j j1 _ => by rw [g3 _ (by omega)]; exact g2 _ (by omega)) hC3) rfl (Nat.le_of_ble_eq_true rfl) ⟨by decide, by decide⟩ ⟨by omega, by show 0 + 7 + 1755 + 24 + 1464 ≤ s0; omega⟩ ⟨lvs1 (Or.inl (by decide)), lvs1 (Or.inr (by rw [g3 _ (by omega)]; exact g20)), trivial⟩ ⟨lvs1 (Or.inr (by rw [g3r]; decide)), trivial⟩ (fun r K' M' h => ⟨h.2.2.2.2, fun i hi => by rw [h.2.1, regK_out (by omega), g3 _ (by omega)]; exact g2 i (by omega), by rw [h.1]; exact no_ints⟩) (fun r9 K4 M4 h => hsm2 _ _ _ _ _ _ _ ?_)
  obtain ⟨rfl, eK4, f4, p4, hC4⟩ := h
  have g4 : ∀ i, i < x + 124 ∨ x + 136 ≤ i → K4 i = K2 i := fun i hi => by rw [eK4, regK_out (by omega), g3 i (by omega)]
  have g4r : ∀ j, j < 12 → K4 (x + 124 + j) = kM j := fun j hj => by rw [eK4, regK_at (j := j) rfl hj]
  refine JP_step hX hl (fun X2 hX2 h => J_astore_n hX2 dL_law_15 (by decide) (J_loc [(0, .ref (1000000 + 50)), (1, .ref x), (2, .ref (x + 124))] rfl h)) ?_
  have l1 : pinK K4 x ≠ 0 := lvs1 (Or.inr (by rw [g4 x (by omega)]; exact g20))
  have l2 : pinK K4 (x + 124) ≠ 0 := lvs1 (Or.inr (by rw [show K4 (x + 124) = kM 0 from g4r 0 (by decide)]; decide))
  refine JP_step hX hl (fun X2 hX2 h => J_iconst hX2 dL_law_16 h) ?_
  refine JP_newl hX (x + 136) dL_law_17 (by rw [g4 _ (by omega)]; exact g2 _ (by omega)) (by omega) hC4 ⟨lvs1 (Or.inl (by decide)), l1, l2, trivial⟩ trivial ⟨by omega, by show 0 + 7 + 1755 + 24 + 1464 + 1 ≤ s0; omega⟩ (fun K5 M5 eK5 eM5 hC5 => ?_)
  have g5 : ∀ i, i ≠ x + 136 → K5 i = K4 i := fun i hi => by rw [eK5, upK_ne hi]
  have g5o : K5 (x + 136) = 11 := by rw [eK5, upK_eq]
  refine JP_step hX hl (fun X2 hX2 h => J_astore_n hX2 dL_law_19 (by decide) (J_loc [(0, .ref (1000000 + 50)), (1, .ref x), (2, .ref (x + 124)), (3, .ref (x + 136))] rfl h)) ?_
  have p5 : ∀ i, i ≠ x + 136 → pinK K4 i ≠ 0 → pinK K5 i ≠ 0 := fun i h1 h2 => by unfold pinK at h2 ⊢; rw [g5 i h1]; exact h2
  refine JP_step hX hl (fun X2 hX2 h => J_iconst hX2 dL_law_20 h) ?_
  refine JP_newd hX (x + 136 + 1) dL_law_21 (by rw [g5 _ (by omega), g4 _ (by omega)]; exact g2 _ (by omega)) (by omega) hC5 ⟨lvs1 (Or.inl (by decide)), p5 _ (by omega) l1, p5 _ (by omega) l2, lvs1 (Or.inr (by rw [g5o]; decide)), trivial⟩ trivial ⟨by omega, by show 0 + 7 + 1755 + 24 + 1464 + 1 + 1 ≤ s0; omega⟩ (fun K6 M6 eK6 eM6 hC6 => ?_)
  have g6 : ∀ i, i ≠ x + 136 + 1 → K6 i = K5 i := fun i hi => by rw [eK6, upK_ne hi]
  have g6o : K6 (x + 136 + 1) = 12 := by rw [eK6, upK_eq]
  refine JP_step hX hl (fun X2 hX2 h => J_astore hX2 dL_law_23 (by decide) (J_loc [(0, .ref (1000000 + 50)), (1, .ref x), (2, .ref (x + 124)), (3, .ref (x + 136)), (4, .ref (x + 136 + 1))] rfl h)) ?_
  refine JP_step hX hl (fun X2 hX2 h => J_iconst hX2 dL_law_25 h) ?_
  refine JP_step hX hl (fun X2 hX2 h => J_istore hX2 dL_law_26 (by decide) (J_loc (LL x (x + 124) (x + 136) 0) rfl h)) ?_
  have k6 : ∀ i, i < x + 124 → K6 i = K2 i := fun i hi => by rw [g6 i (by omega), g5 i (by omega), g4 i (by omega)]
  have k6x : ∀ j, j < 60 → K6 (x + j) = kX j := fun j hj => by rw [k6 _ (by omega)]; exact g2x j hj
  have k6r : ∀ j, j < 12 → K6 (x + 124 + j) = kM j := fun j hj => by rw [g6 _ (by omega), g5 _ (by omega)]; exact g4r j hj
  have m6 : ∀ i, i ≠ x + 136 → i ≠ x + 136 + 1 → M6 i = M4 i := fun i h1 h2 => by rw [eM6, upM_ne h2, eM5, upM_ne h1]
  have m6x : ∀ i, i < x + 124 → M6 i = M2 i := fun i hi => by rw [m6 i (by omega) (by omega), f4 i (by omega), eM3, upM_ne (by omega)]
  have m3r : ∀ j : Int, j ≠ 4 → M3 (x + 124) j = 0 := fun j hj => by rw [eM3, upM_eq]; rfl
  refine JP_rg (i := x + 124) 6 (by rw [show K6 (x + 124) = kM 0 from k6r 0 (by decide)]; decide) (fun hrg => ?_)
  refine JP_step hX hl (fun X2 hX2 h => J_widen (a2 := 100) (b2 := 4000) (by omega) (Nat.le_of_ble_eq_true rfl) h) (k1 K6 M6 ?_)
  obtain ⟨a3, a4, a5, a6, a7, a10, a110, a111, a112, a113, a150, a151, a152, a153, c3, c4, c5, c6, c7, c10, c110, c111, c112, c113, c150, c151, c152, c153, d6, d55, d57, -, -⟩ := p2
  obtain ⟨r3, r5, r0, r1, r2, s3, s4, s5, s6, s7, s8, s9, s10, s13⟩ := p4
  have hst : stg M6 (x + 3) = stg M2 (x + 3) := stg_of (fun i b1 b2 => m6x i (by omega))
  have e125 : M6 (x + 124 + 1) = M4 (x + 124 + 1) := m6 _ (by omega) (by omega)
  have e124 : M6 (x + 124) = M4 (x + 124) := m6 _ (by omega) (by omega)
  have e55 : M6 (x + 55) = M2 (x + 55) := m6x _ (by omega)
  have e57 : M6 (x + 57) = M2 (x + 57) := m6x _ (by omega)
  have z3 : M6 (x + 124) 3 = 0 := by rw [e124, r3]; exact m3r 3 (by decide)
  have z5 : M6 (x + 124) 5 = 0 := by rw [e124, r5]; exact m3r 5 (by decide)
  refine ⟨⟨⟨k6x 0 (by decide), fun j hj => ?_, fun j hj => ?_, ⟨k6x 55 (by decide), k6x 56 (by decide)⟩, k6x 57 (by decide), k6x 58 (by decide), k6x 59 (by decide)⟩, k6r, ⟨by rw [g6 _ (by omega)]; exact g5o, g6o⟩, fun i hi => by rw [g6 i (by omega), g5 i (by omega), g4 i (by omega)]; exact g2 i (by omega)⟩,
    ⟨by decide, by rw [e55, d55]; decide, ⟨fun j j0 j1 => absurd j1 (by simpa using j0), fun i j i0 i1 => absurd i1 (by simpa using i0), fun j _ _ => ?_⟩, fun c hc => absurd hc (by omega), fun i h1 h2 => by rw [k6 i (by omega)]; exact g2 i (by omega), by omega⟩, hC6,
    WF_fr hst (WF_0 ⟨a3, a4, a5, a6, a7, a10, a110, a111, a112, a113, a150, a151, a152, a153⟩), ⟨0, WF_fr (stg_of (fun i b1 b2 => m6x i (by omega))) (WF_0 ⟨c3, c4, c5, c6, c7, c10, c110, c111, c112, c113, c150, c151, c152, c153⟩)⟩, Or.inl (by rw [m6x x (by omega)]; exact d6), ?_, ⟨by rw [e55, d55, z3], fun c c0 c1 => by rw [z3] at c1; omega⟩, fun c c0 c1 => by rw [e55, d55] at c1; omega, ⟨by rw [e57, d57, z5], by rw [z5]; decide, fun j j0 j1 => by rw [z5] at j1; omega⟩, ?_⟩
  · rw [show x + 1 + j = x + (1 + j) by omega, k6x _ (by omega)]; exact kX_v1 j hj
  · rw [show x + 28 + j = x + (28 + j) by omega, k6x _ (by omega)]; exact kX_v2 j hj
  · have : M6 (x + 56) = M2 (x + 56) := m6x _ (by omega)
    show M6 (x + 56) j = -1
    rw [this, q2]
  · rw [hst, e125]
    refine ⟨⟨r0.trans a3.symm, r1.trans a4.symm, r2.trans a10.symm, s3.trans a110.symm, s4.trans a111.symm, s5.trans a112.symm, s6.trans a113.symm, s7.trans a150.symm, s8.trans a151.symm, s9.trans a152.symm, s10.trans a153.symm, s13.trans a7.symm⟩, Or.inl a7, fun n n0 n1 => ?_, fun s s0 s1 => ?_⟩
    · have : stg M2 (x + 3) 1 0 = 0 := a10
      omega
    · have : stg M2 (x + 3) 11 0 = 0 := a110
      omega
  · rw [show K6 (x + 124) = 9 from k6r 0 (by decide)] at hrg
    rcases hrg with h | h
    · omega
    · exact h

