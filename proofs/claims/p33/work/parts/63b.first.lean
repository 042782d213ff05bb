/-! the law's first rows: the class -/
theorem fn_RL_10 : FN RL 10 8 := ⟨_, _, _, tyX9, rfl, ⟨by decide, by decide⟩, rfl, inw_X9, tyX9_ok, cl_RL_10, it_RX9, in_RX9, fun j hj => by
  have hc : j = 0 ∨ j = 1 ∨ j = 2 ∨ j = 3 ∨ j = 4 ∨ j = 5 ∨ j = 6 := by omega
  rcases hc with rfl | rfl | rfl | rfl | rfl | rfl | rfl <;> rfl⟩
set_option maxHeartbeats 4000000 in
set_option maxRecDepth 100000 in
theorem law_first {E : EE} {X : JX} {c0 s0 N x q : Nat} {sc : Int → Int} (hx : x + 200 ≤ 1000000) (hX : XO E X cL_law RL 17 12 c0 s0) (hl : XL X) (hE : LF E N sc) (hcs : 100 + 2 * q ≤ c0 ∧ 4000 + 12 * q ≤ s0)
    (k1 : ∀ S P, WFS 0 S → S 11 1 = 0 → LJ E X (x, 0, S, 0, P, c0, s0) q 8 [(0, .ref (1000000 + 50)), (1, .ref x)] []) : JP E X 0 [(0, .ref (1000000 + 50))] [] K0 M0 0 0 := by
  refine JP_new hX x fn_RL_10 dL_law_0 rfl (by omega) Cl_0 ⟨lvs1 (Or.inl (by decide)), trivial⟩ trivial ⟨by omega, by show 0 + 7 ≤ s0; omega⟩ (fun K1 M1 eK1 eM1 hC1 => ?_)
  have h1 : ∀ j : Nat, j ≠ x → K1 j = 0 := fun j hj => by rw [eK1, upK_ne hj]; rfl
  have h10 : K1 x = 100 + 8 := by rw [eK1, upK_eq]
  refine JP_step hX hl (fun X2 hX2 h => J_dup hX2 dL_law_3 rfl h) ?_
  refine JP_in hX hl (fun X2 hX2 hl2 hP2 hK2 hsm2 => ?_)
  refine J_callIKP hX2 hP2 hK2 [.ref x] dL_law_4 cw_RL_165 (m_X9_init2 (x := x) hE.ao h10 (fun j j1 _ => h1 _ (by omega)) hC1) rfl (Nat.le_of_ble_eq_true rfl) ⟨by decide, by decide⟩ ⟨by omega, by show 0 + 7 + 1755 ≤ s0; omega⟩ ⟨lvs1 (Or.inl (by decide)), trivial⟩ ⟨lvs1 (Or.inr (by rw [h10]; decide)), trivial⟩ (fun r K' M' h => ⟨h.2.2.2.2.2, fun i hi => by rw [h.2.1, regK_out (by omega)]; exact h1 i (by omega), by rw [h.1]; exact no_ints⟩) (fun r9 K2 M2 h => hsm2 _ _ _ _ _ _ _ ?_)
  obtain ⟨rfl, eK2, f2, p2, q2, hC2⟩ := h
  have g2 : ∀ i, x + 60 ≤ i → K2 i = 0 := fun i hi => by rw [eK2, regK_out (by omega)]; exact h1 i (by omega)
  have g2x : ∀ j, j < 60 → K2 (x + j) = kX j := fun j hj => by rw [eK2, regK_at (j := j) rfl hj]
  refine JP_step hX hl (fun X2 hX2 h => J_astore_n hX2 dL_law_7 (by decide) (J_loc [(0, .ref (1000000 + 50)), (1, .ref x)] rfl h)) ?_
  obtain ⟨a3, a4, a5, a6, a7, a10, a110, a111, a112, a113, a150, a151, a152, a153, c3, c4, c5, c6, c7, c10, c110, c111, c112, c113, c150, c151, c152, c153, d6, d55, d57, -, -⟩ := p2
  have hW : WF 0 M2 (x + 3) := WF_0 ⟨a3, a4, a5, a6, a7, a10, a110, a111, a112, a113, a150, a151, a152, a153⟩
  suffices hIV : IV 0 0 K2 M2 x (stg M2 (x + 3)) 0 (stg M2 (x + 3)) from k1 (stg M2 (x + 3)) (stg M2 (x + 3)) (WF_iS.mp hW) a111 0 K2 M2 _ _ hIV (by show 0 + 1 + 59 + 2 * q ≤ c0; omega) (by show 0 + 7 + 1755 + 12 * q ≤ s0; omega)
  refine ⟨⟨⟨g2x 0 (by decide), fun j hj => ?_, fun j hj => ?_, ⟨g2x 55 (by decide), g2x 56 (by decide)⟩, g2x 57 (by decide), g2x 58 (by decide), g2x 59 (by decide)⟩, fun i hi => g2 i (by omega), by omega⟩,
    ⟨by decide, by rw [d55]; decide, ⟨fun j j0 j1 => absurd j1 (by simpa using j0), fun i j i0 i1 => absurd i1 (by simpa using i0), fun j _ _ => ?_⟩, fun c hc => absurd hc (by omega), fun i h1 h2 => g2 i (by have h3 : x + 60 + 16 * 0 ≤ i := h1; omega), by show x + 60 + 64 < 1000000; omega⟩, hC2, hW,
    ⟨0, WF_0 ⟨c3, c4, c5, c6, c7, c10, c110, c111, c112, c113, c150, c151, c152, c153⟩⟩, Or.inl d6, fun c c0 c1 => ?_, d57, rfl, d55, fun z => absurd z (by decide)⟩
  · show K2 (x + 1 + j) = kV j
    rw [show x + 1 + j = x + (1 + j) by omega, g2x _ (by omega)]; exact kX_v1 j hj
  · show K2 (x + 28 + j) = kV j
    rw [show x + 28 + j = x + (28 + j) by omega, g2x _ (by omega)]; exact kX_v2 j hj
  · show M2 (x + 56) j = -1
    rw [q2]
  · have c2 : c < M2 (x + 55) 0 := c1
    rw [d55] at c2
    omega

