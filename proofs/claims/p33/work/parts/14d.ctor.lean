/-! constructors -/
theorem regK_at {K : Nat → Nat} {lo n i j : Nat} {kf : Nat → Nat} (h : i = lo + j) (hj : j < n) : regK K lo n kf i = kf j := by
  subst h; unfold regK; rw [if_pos (by omega), show lo + j - lo = j by omega]
theorem regK_out {K : Nat → Nat} {lo n i : Nat} {kf : Nat → Nat} (h : i < lo ∨ lo + n ≤ i) : regK K lo n kf i = K i := if_neg (by omega)
theorem regK_up {K : Nat → Nat} {lo n i : Nat} {kf : Nat → Nat} (h : K i ≠ 0) (hk : ∀ j, j < n → kf j ≠ 0) : regK K lo n kf i ≠ 0 := by
  unfold regK; split
  · exact hk _ (by omega)
  · exact h
theorem regK_ext {K K2 : Nat → Nat} {lo n : Nat} {kf : Nat → Nat} (h1 : ∀ j, j < n → K2 (lo + j) = kf j) (h2 : ∀ i, i < lo ∨ lo + n ≤ i → K2 i = K i) : K2 = regK K lo n kf := by
  funext i
  by_cases h : lo ≤ i ∧ i < lo + n
  · have := h1 (i - lo) (by omega)
    rw [show lo + (i - lo) = i by omega] at this
    rw [this]; exact (if_pos h).symm
  · rw [h2 i (by omega)]; exact (if_neg h).symm
theorem mset_at {M : MM} {i : Nat} {j j2 x : Int} (h : j2 = j) : mset M i j x i j2 = x := by subst h; exact mset_eq
def kH (j : Nat) : Nat := if j = 0 then 1 else 10
def kW (j : Nat) : Nat := if j = 0 then 4 else if j = 1 then 1150 else 1006
def kX (j : Nat) : Nat := if j = 0 then 8 else if j < 28 then kV (j - 1) else if j < 55 then kV (j - 28) else if j < 57 then kH (j - 55) else kW (j - 57)
/-- a stage as it is made -/
def NewS (M : MM) (b : Nat) : Prop := M b 3 = 80 ∧ M b 4 = 40 ∧ M b 5 = 0 ∧ M b 6 = 0 ∧ M b 7 = 0 ∧ M (b + 1) 0 = 0 ∧ M (b + 11) 0 = 0 ∧ M (b + 11) 1 = 0 ∧ M (b + 11) 2 = -5 ∧ M (b + 11) 3 = 5 ∧ M (b + 15) 0 = 20 ∧ M (b + 15) 1 = 1 ∧ M (b + 15) 2 = 4 ∧ M (b + 15) 3 = 10
theorem NewS.wf {M : MM} {b : Nat} (h : NewS M b) : WF 0 M b := by
  obtain ⟨h1, h2, h3, h4, h5, h6, h7, h8, h9, h10, h11, h12, h13, h14⟩ := h
  refine ⟨by decide, ?_, fun n n0 n1 => by omega, fun n n0 n1 => by omega⟩
  unfold WFs
  omega
theorem NewS.fr {M M2 : MM} {b : Nat} (h : NewS M b) (h0 : ∀ j, j < 100 → M2 b j = M b j) (hk : ∀ k, 0 < k → k < 16 → M2 (b + k) = M (b + k)) : NewS M2 b := by
  unfold NewS
  rw [h0 3 (by decide), h0 4 (by decide), h0 5 (by decide), h0 6 (by decide), h0 7 (by decide), hk 1 (by decide) (by decide), hk 11 (by decide) (by decide), hk 15 (by decide) (by decide)]
  exact h

theorem fn_RX9_7 : FN RX9 7 7 := ⟨_, _, _, tyX7, rfl, ⟨by decide, by decide⟩, rfl, inw_X7, tyX7_ok, cl_RX9_7, it_RX7, in_RX7, fun j hj => by
  have hc : j = 0 ∨ j = 1 ∨ j = 2 ∨ j = 3 ∨ j = 4 ∨ j = 5 ∨ j = 6 ∨ j = 7 ∨ j = 8 ∨ j = 9 := by omega
  rcases hc with rfl | rfl | rfl | rfl | rfl | rfl | rfl | rfl | rfl | rfl <;> rfl⟩
theorem fn_RX7_9 : FN RX7 9 2 := ⟨_, _, _, tyX2, rfl, ⟨by decide, by decide⟩, rfl, inw_X2, tyX2_ok, cl_RX7_9, it_RX2, in_RX2, fun j hj => by
  have hc : j = 0 ∨ j = 1 ∨ j = 2 ∨ j = 3 ∨ j = 4 ∨ j = 5 ∨ j = 6 ∨ j = 7 ∨ j = 8 ∨ j = 9 ∨ j = 10 := by omega
  rcases hc with rfl | rfl | rfl | rfl | rfl | rfl | rfl | rfl | rfl | rfl | rfl <;> rfl⟩
theorem fn_RX2_9 : FN RX2 9 5 := ⟨_, _, _, tyX5, rfl, ⟨by decide, by decide⟩, rfl, inw_X5, tyX5_ok, cl_RX2_9, it_RX5, in_RX5, fun j hj => by
  have hc : j = 0 ∨ j = 1 ∨ j = 2 ∨ j = 3 ∨ j = 4 ∨ j = 5 ∨ j = 6 ∨ j = 7 := by omega
  rcases hc with rfl | rfl | rfl | rfl | rfl | rfl | rfl | rfl <;> rfl⟩
theorem fn_RX5_9 : FN RX5 9 6 := ⟨_, _, _, tyX6, rfl, ⟨by decide, by decide⟩, rfl, inw_X6, tyX6_ok, cl_RX5_9, it_RX6, in_RX6, fun j hj => by
  have hc : j = 0 ∨ j = 1 ∨ j = 2 ∨ j = 3 ∨ j = 4 ∨ j = 5 ∨ j = 6 ∨ j = 7 ∨ j = 8 ∨ j = 9 := by omega
  rcases hc with rfl | rfl | rfl | rfl | rfl | rfl | rfl | rfl | rfl | rfl <;> rfl⟩
theorem fn_RX5_18 : FN RX5 18 3 := ⟨_, _, _, tyX3, rfl, ⟨by decide, by decide⟩, rfl, inw_X3, tyX3_ok, cl_RX5_18, it_RX3, in_RX3, fun j hj => by
  have hc : j = 0 ∨ j = 1 ∨ j = 2 ∨ j = 3 ∨ j = 4 ∨ j = 5 ∨ j = 6 := by omega
  rcases hc with rfl | rfl | rfl | rfl | rfl | rfl | rfl <;> rfl⟩
theorem fn_RX9_27 : FN RX9 27 1 := ⟨_, _, _, tyX1, rfl, ⟨by decide, by decide⟩, rfl, inw_X1, tyX1_ok, cl_RX9_27, it_RX1, in_RX1, fun j hj => by
  have hc : j = 0 ∨ j = 1 := by omega
  rcases hc with rfl | rfl <;> rfl⟩
theorem fn_RX1_9 : FN RX1 9 5 := ⟨_, _, _, tyX5, rfl, ⟨by decide, by decide⟩, rfl, inw_X5, tyX5_ok, cl_RX1_9, it_RX5, in_RX5, fun j hj => by
  have hc : j = 0 ∨ j = 1 ∨ j = 2 ∨ j = 3 ∨ j = 4 ∨ j = 5 ∨ j = 6 ∨ j = 7 := by omega
  rcases hc with rfl | rfl | rfl | rfl | rfl | rfl | rfl | rfl <;> rfl⟩
theorem fn_RX9_34 : FN RX9 34 4 := ⟨_, _, _, tyX4, rfl, ⟨by decide, by decide⟩, rfl, inw_X4, tyX4_ok, cl_RX9_34, it_RX4, in_RX4, fun j hj => by
  have hc : j = 0 ∨ j = 1 ∨ j = 2 ∨ j = 3 ∨ j = 4 := by omega
  rcases hc with rfl | rfl | rfl | rfl | rfl <;> rfl⟩
theorem cw_RL_165 : CWI RL 165 yX9_init cX9_init 1 0 := ⟨ml_RL_165, ⟨im_X9_init, rfl⟩, ⟨in_RX9, co_X9_init, by decide +kernel⟩⟩
theorem cw_RX9_9 : CWIN RX9 9 yX7_init cX7_init 1 0 "EyeStage" := ⟨by decide +kernel, ⟨im_X7_init, rfl⟩, ⟨in_RX7, co_X7_init, by decide +kernel⟩⟩
theorem cw_RX7_11 : CWIN RX7 11 yX2_init cX2_init 1 0 "EyeStage" := ⟨by decide +kernel, ⟨im_X2_init, rfl⟩, ⟨in_RX2, co_X2_init, by decide +kernel⟩⟩
theorem cw_RX2_11 : CWI RX2 11 yX5_init cX5_init 1 0 := ⟨ml_RX2_11, ⟨im_X5_init, rfl⟩, ⟨in_RX5, co_X5_init, by decide +kernel⟩⟩
theorem cw_RX5_11 : CWIN RX5 11 yX6_init cX6_init 1 0 "EyeStage" := ⟨by decide +kernel, ⟨im_X6_init, rfl⟩, ⟨in_RX6, co_X6_init, by decide +kernel⟩⟩
theorem cw_RX5_20 : CWIN RX5 20 yX3_init cX3_init 1 0 "EyeStage" := ⟨by decide +kernel, ⟨im_X3_init, rfl⟩, ⟨in_RX3, co_X3_init, by decide +kernel⟩⟩
theorem cw_RX9_29 : CWIN RX9 29 yX1_init cX1_init 1 0 "EyeStage" := ⟨by decide +kernel, ⟨im_X1_init, rfl⟩, ⟨in_RX1, co_X1_init, by decide +kernel⟩⟩
theorem cw_RX9_36 : CWIN RX9 36 yX4_init cX4_init 1 0 "EyeStage" := ⟨by decide +kernel, ⟨im_X4_init, rfl⟩, ⟨in_RX4, co_X4_init, by decide +kernel⟩⟩
theorem cw_RX1_24 : CWI RX1 24 yX5_init cX5_init 1 0 := ⟨ml_RX1_24, ⟨im_X5_init, rfl⟩, ⟨in_RX5, co_X5_init, by decide +kernel⟩⟩
theorem fp_RX6_9 : FP RX6 9 6 1 1 := ⟨fr_RX6_9, fun C T N h => by cases h; exact ⟨rfl, rfl, tyX6 1, tyX6_ok 1 (by decide), fun a => ⟨rfl, rfl⟩⟩⟩
theorem fp_RX6_15 : FP RX6 15 6 2 2 := ⟨fr_RX6_15, fun C T N h => by cases h; exact ⟨rfl, rfl, tyX6 2, tyX6_ok 2 (by decide), fun a => ⟨rfl, rfl⟩⟩⟩
theorem fp_RX6_18 : FP RX6 18 6 3 3 := ⟨fr_RX6_18, fun C T N h => by cases h; exact ⟨rfl, rfl, tyX6 3, tyX6_ok 3 (by decide), fun a => ⟨rfl, rfl⟩⟩⟩
theorem fp_RX6_21 : FP RX6 21 6 4 4 := ⟨fr_RX6_21, fun C T N h => by cases h; exact ⟨rfl, rfl, tyX6 4, tyX6_ok 4 (by decide), fun a => ⟨rfl, rfl⟩⟩⟩
theorem fp_RX6_24 : FP RX6 24 6 5 5 := ⟨fr_RX6_24, fun C T N h => by cases h; exact ⟨rfl, rfl, tyX6 5, tyX6_ok 5 (by decide), fun a => ⟨rfl, rfl⟩⟩⟩
theorem fp_RX6_27 : FP RX6 27 6 6 6 := ⟨fr_RX6_27, fun C T N h => by cases h; exact ⟨rfl, rfl, tyX6 6, tyX6_ok 6 (by decide), fun a => ⟨rfl, rfl⟩⟩⟩
theorem fp_RX6_30 : FP RX6 30 6 7 7 := ⟨fr_RX6_30, fun C T N h => by cases h; exact ⟨rfl, rfl, tyX6 7, tyX6_ok 7 (by decide), fun a => ⟨rfl, rfl⟩⟩⟩
theorem fp_RX6_33 : FP RX6 33 6 8 8 := ⟨fr_RX6_33, fun C T N h => by cases h; exact ⟨rfl, rfl, tyX6 8, tyX6_ok 8 (by decide), fun a => ⟨rfl, rfl⟩⟩⟩
theorem fp_RX6_36 : FP RX6 36 6 9 9 := ⟨fr_RX6_36, fun C T N h => by cases h; exact ⟨rfl, rfl, tyX6 9, tyX6_ok 9 (by decide), fun a => ⟨rfl, rfl⟩⟩⟩
theorem fp_RX3_18 : FP RX3 18 3 4 1 := ⟨fr_RX3_18, fun C T N h => by cases h; exact ⟨rfl, rfl, tyX3 4, tyX3_ok 4 (by decide), fun a => ⟨rfl, rfl⟩⟩⟩
theorem fp_RX3_22 : FP RX3 22 3 5 2 := ⟨fr_RX3_22, fun C T N h => by cases h; exact ⟨rfl, rfl, tyX3 5, tyX3_ok 5 (by decide), fun a => ⟨rfl, rfl⟩⟩⟩
theorem fp_RX3_25 : FP RX3 25 3 6 3 := ⟨fr_RX3_25, fun C T N h => by cases h; exact ⟨rfl, rfl, tyX3 6, tyX3_ok 6 (by decide), fun a => ⟨rfl, rfl⟩⟩⟩
theorem fp_RX5_12 : FP RX5 12 5 0 1 := ⟨fr_RX5_12, fun C T N h => by cases h; exact ⟨rfl, rfl, tyX5 0, tyX5_ok 0 (by decide), fun a => ⟨rfl, rfl⟩⟩⟩
theorem fp_RX5_21 : FP RX5 21 5 1 11 := ⟨fr_RX5_21, fun C T N h => by cases h; exact ⟨rfl, rfl, tyX5 1, tyX5_ok 1 (by decide), fun a => ⟨rfl, rfl⟩⟩⟩
theorem fp_RX5_25 : FP RX5 25 5 2 15 := ⟨fr_RX5_25, fun C T N h => by cases h; exact ⟨rfl, rfl, tyX5 2, tyX5_ok 2 (by decide), fun a => ⟨rfl, rfl⟩⟩⟩
theorem fp_RX2_12 : FP RX2 12 2 0 1 := ⟨fr_RX2_12, fun C T N h => by cases h; exact ⟨rfl, rfl, tyX2 0, tyX2_ok 0 (by decide), fun a => ⟨rfl, rfl⟩⟩⟩
theorem fp_RX2_22 : FP RX2 22 2 1 2 := ⟨fr_RX2_22, fun C T N h => by cases h; exact ⟨rfl, rfl, tyX2 1, tyX2_ok 1 (by decide), fun a => ⟨rfl, rfl⟩⟩⟩
theorem fp_RX2_23 : FP RX2 23 2 2 17 := ⟨fr_RX2_23, fun C T N h => by cases h; exact ⟨rfl, rfl, tyX2 2, tyX2_ok 2 (by decide), fun a => ⟨rfl, rfl⟩⟩⟩
theorem fp_RX2_27 : FP RX2 27 2 3 18 := ⟨fr_RX2_27, fun C T N h => by cases h; exact ⟨rfl, rfl, tyX2 3, tyX2_ok 3 (by decide), fun a => ⟨rfl, rfl⟩⟩⟩
theorem fp_RX2_30 : FP RX2 30 2 4 19 := ⟨fr_RX2_30, fun C T N h => by cases h; exact ⟨rfl, rfl, tyX2 4, tyX2_ok 4 (by decide), fun a => ⟨rfl, rfl⟩⟩⟩
theorem fp_RX2_33 : FP RX2 33 2 5 20 := ⟨fr_RX2_33, fun C T N h => by cases h; exact ⟨rfl, rfl, tyX2 5, tyX2_ok 5 (by decide), fun a => ⟨rfl, rfl⟩⟩⟩
theorem fp_RX2_36 : FP RX2 36 2 6 21 := ⟨fr_RX2_36, fun C T N h => by cases h; exact ⟨rfl, rfl, tyX2 6, tyX2_ok 6 (by decide), fun a => ⟨rfl, rfl⟩⟩⟩
theorem fp_RX2_39 : FP RX2 39 2 7 22 := ⟨fr_RX2_39, fun C T N h => by cases h; exact ⟨rfl, rfl, tyX2 7, tyX2_ok 7 (by decide), fun a => ⟨rfl, rfl⟩⟩⟩
theorem fp_RX2_42 : FP RX2 42 2 8 23 := ⟨fr_RX2_42, fun C T N h => by cases h; exact ⟨rfl, rfl, tyX2 8, tyX2_ok 8 (by decide), fun a => ⟨rfl, rfl⟩⟩⟩
theorem fp_RX7_12 : FP RX7 12 7 0 1 := ⟨fr_RX7_12, fun C T N h => by cases h; exact ⟨rfl, rfl, tyX7 0, tyX7_ok 0 (by decide), fun a => ⟨rfl, rfl⟩⟩⟩
theorem fp_RX7_22 : FP RX7 22 7 1 2 := ⟨fr_RX7_22, fun C T N h => by cases h; exact ⟨rfl, rfl, tyX7 1, tyX7_ok 1 (by decide), fun a => ⟨rfl, rfl⟩⟩⟩
theorem fp_RX7_29 : FP RX7 29 7 2 3 := ⟨fr_RX7_29, fun C T N h => by cases h; exact ⟨rfl, rfl, tyX7 2, tyX7_ok 2 (by decide), fun a => ⟨rfl, rfl⟩⟩⟩
theorem fp_RX7_30 : FP RX7 30 7 7 25 := ⟨fr_RX7_30, fun C T N h => by cases h; exact ⟨rfl, rfl, tyX7 7, tyX7_ok 7 (by decide), fun a => ⟨rfl, rfl⟩⟩⟩
theorem fp_RX7_34 : FP RX7 34 7 8 26 := ⟨fr_RX7_34, fun C T N h => by cases h; exact ⟨rfl, rfl, tyX7 8, tyX7_ok 8 (by decide), fun a => ⟨rfl, rfl⟩⟩⟩
theorem fp_RX1_11 : FP RX1 11 1 1 1 := ⟨fr_RX1_11, fun C T N h => by cases h; exact ⟨rfl, rfl, tyX1 1, tyX1_ok 1 (by decide), fun a => ⟨rfl, rfl⟩⟩⟩
theorem fp_RX4_9 : FP RX4 9 4 1 1 := ⟨fr_RX4_9, fun C T N h => by cases h; exact ⟨rfl, rfl, tyX4 1, tyX4_ok 1 (by decide), fun a => ⟨rfl, rfl⟩⟩⟩
theorem fp_RX4_15 : FP RX4 15 4 2 2 := ⟨fr_RX4_15, fun C T N h => by cases h; exact ⟨rfl, rfl, tyX4 2, tyX4_ok 2 (by decide), fun a => ⟨rfl, rfl⟩⟩⟩
theorem fp_RX9_10 : FP RX9 10 8 0 1 := ⟨fr_RX9_10, fun C T N h => by cases h; exact ⟨rfl, rfl, tyX9 0, tyX9_ok 0 (by decide), fun a => ⟨rfl, rfl⟩⟩⟩
theorem fp_RX9_20 : FP RX9 20 8 1 3 := ⟨fr_RX9_20, fun C T N h => by cases h; exact ⟨rfl, rfl, tyX9 1, tyX9_ok 1 (by decide), fun a => ⟨rfl, rfl⟩⟩⟩
theorem fp_RX9_21 : FP RX9 21 8 2 28 := ⟨fr_RX9_21, fun C T N h => by cases h; exact ⟨rfl, rfl, tyX9 2, tyX9_ok 2 (by decide), fun a => ⟨rfl, rfl⟩⟩⟩
theorem fp_RX9_24 : FP RX9 24 8 3 30 := ⟨fr_RX9_24, fun C T N h => by cases h; exact ⟨rfl, rfl, tyX9 3, tyX9_ok 3 (by decide), fun a => ⟨rfl, rfl⟩⟩⟩
theorem fp_RX9_30 : FP RX9 30 8 4 55 := ⟨fr_RX9_30, fun C T N h => by cases h; exact ⟨rfl, rfl, tyX9 4, tyX9_ok 4 (by decide), fun a => ⟨rfl, rfl⟩⟩⟩
theorem fp_RX9_37 : FP RX9 37 8 5 57 := ⟨fr_RX9_37, fun C T N h => by cases h; exact ⟨rfl, rfl, tyX9 5, tyX9_ok 5 (by decide), fun a => ⟨rfl, rfl⟩⟩⟩
set_option maxHeartbeats 4000000 in
set_option maxRecDepth 100000 in
theorem m_X6_init {E : EE} {K : Nat → Nat} {M : MM} {b : Nat} (hk : K (b + 1) = 100 + 6) (hz : ∀ j, 2 ≤ j → j < 11 → K (b + j) = 0) (hC : Cl K M) : Cn E 1 yX6_init cX6_init 1 none [.ref (b + 1)] K M (fun r K' M' => r = none ∧ K' = regK K (b + 1) 10 kT ∧ (∀ i, i < b + 1 ∨ b + 11 ≤ i → M' i = M i) ∧ (M' (b + 1) 0 = M (b + 1) 0) ∧ Cl K' M') 9 180 := by
  refine Cn_ofC RX6 (plainFor_of_name (by decide)) rfl (Nat.le_of_ble_eq_true rfl) (fun X hX hQ hXK hXN0 => ?_)
  have hXN : XN X = "<init>" := hXN0
  have z2 : K (b + 2) = 0 := hz 2 (by decide) (by decide)
  have z3 : K (b + 3) = 0 := hz 3 (by decide) (by decide)
  have z4 : K (b + 4) = 0 := hz 4 (by decide) (by decide)
  have z5 : K (b + 5) = 0 := hz 5 (by decide) (by decide)
  have z6 : K (b + 6) = 0 := hz 6 (by decide) (by decide)
  have z7 : K (b + 7) = 0 := hz 7 (by decide) (by decide)
  have z8 : K (b + 8) = 0 := hz 8 (by decide) (by decide)
  have z9 : K (b + 9) = 0 := hz 9 (by decide) (by decide)
  have z10 : K (b + 10) = 0 := hz 10 (by decide) (by decide)
  have g0 : ∀ j, XK X j ≠ 0 → K j ≠ 0 := fun j hj => by rw [← hXK]; exact hj
  refine J_aload_n hX dX6_init_0 rfl ?_
  refine J_init0 hX dX6_init_1 ml_RX6_3 (by decide) (Nat.le_of_ble_eq_true rfl) ?_
  refine J_aload_n hX dX6_init_4 rfl ?_
  refine J_bipush hX dX6_init_5 rfl ?_
  refine J_newi hX (b + 2) dX6_init_7 (by decide) z2 g0 hC ⟨(by rw [hk]; decide), trivial⟩ ⟨(by rw [hk]; decide), trivial⟩ (by decide) (fun K2 M2 e1 e2 hC7 => ?_)
  subst e1 e2
  have g7 := fun j hj => upK_up (i := b + 2) (k := 1000 + (20 : Int).toNat) (g0 j hj) (by decide)
  refine J_putR hX (b + 2) fp_RX6_9 dX6_init_9 hXN (by rw [upK_ne (by omega)]; exact hk) rfl (by rw [upK_eq]; decide) hC7 (fun M2 e1 hC9 => ?_)
  subst e1
  refine J_aload_n hX dX6_init_12 rfl ?_
  refine J_bipush hX dX6_init_13 rfl ?_
  refine J_newi hX (b + 3) dX6_init_15 (by decide) (by rw [upK_ne (by omega)]; exact z3) g7 hC9 ⟨(by rw [upK_ne (by omega), hk]; decide), trivial⟩ ⟨(by rw [upK_ne (by omega), hk]; decide), trivial⟩ (by decide) (fun K2 M2 e1 e2 hC15 => ?_)
  subst e1 e2
  have g15 := fun j hj => upK_up (i := b + 3) (k := 1000 + (20 : Int).toNat) (g7 j hj) (by decide)
  refine J_putR hX (b + 3) fp_RX6_15 dX6_init_17 hXN (by rw [upK_ne (by omega), upK_ne (by omega)]; exact hk) rfl (by rw [upK_eq]; decide) hC15 (fun M2 e1 hC17 => ?_)
  subst e1
  refine J_aload_n hX dX6_init_20 rfl ?_
  refine J_bipush hX dX6_init_21 rfl ?_
  refine J_newi hX (b + 4) dX6_init_23 (by decide) (by rw [upK_ne (by omega), upK_ne (by omega)]; exact z4) g15 hC17 ⟨(by rw [upK_ne (by omega), upK_ne (by omega), hk]; decide), trivial⟩ ⟨(by rw [upK_ne (by omega), upK_ne (by omega), hk]; decide), trivial⟩ (by decide) (fun K2 M2 e1 e2 hC23 => ?_)
  subst e1 e2
  have g23 := fun j hj => upK_up (i := b + 4) (k := 1000 + (20 : Int).toNat) (g15 j hj) (by decide)
  refine J_putR hX (b + 4) fp_RX6_18 dX6_init_25 hXN (by rw [upK_ne (by omega), upK_ne (by omega), upK_ne (by omega)]; exact hk) rfl (by rw [upK_eq]; decide) hC23 (fun M2 e1 hC25 => ?_)
  subst e1
  refine J_aload_n hX dX6_init_28 rfl ?_
  refine J_bipush hX dX6_init_29 rfl ?_
  refine J_newi hX (b + 5) dX6_init_31 (by decide) (by rw [upK_ne (by omega), upK_ne (by omega), upK_ne (by omega)]; exact z5) g23 hC25 ⟨(by rw [upK_ne (by omega), upK_ne (by omega), upK_ne (by omega), hk]; decide), trivial⟩ ⟨(by rw [upK_ne (by omega), upK_ne (by omega), upK_ne (by omega), hk]; decide), trivial⟩ (by decide) (fun K2 M2 e1 e2 hC31 => ?_)
  subst e1 e2
  have g31 := fun j hj => upK_up (i := b + 5) (k := 1000 + (20 : Int).toNat) (g23 j hj) (by decide)
  refine J_putR hX (b + 5) fp_RX6_21 dX6_init_33 hXN (by rw [upK_ne (by omega), upK_ne (by omega), upK_ne (by omega), upK_ne (by omega)]; exact hk) rfl (by rw [upK_eq]; decide) hC31 (fun M2 e1 hC33 => ?_)
  subst e1
  refine J_aload_n hX dX6_init_36 rfl ?_
  refine J_bipush hX dX6_init_37 rfl ?_
  refine J_newi hX (b + 6) dX6_init_39 (by decide) (by rw [upK_ne (by omega), upK_ne (by omega), upK_ne (by omega), upK_ne (by omega)]; exact z6) g31 hC33 ⟨(by rw [upK_ne (by omega), upK_ne (by omega), upK_ne (by omega), upK_ne (by omega), hk]; decide), trivial⟩ ⟨(by rw [upK_ne (by omega), upK_ne (by omega), upK_ne (by omega), upK_ne (by omega), hk]; decide), trivial⟩ (by decide) (fun K2 M2 e1 e2 hC39 => ?_)
  subst e1 e2
  have g39 := fun j hj => upK_up (i := b + 6) (k := 1000 + (20 : Int).toNat) (g31 j hj) (by decide)
  refine J_putR hX (b + 6) fp_RX6_24 dX6_init_41 hXN (by rw [upK_ne (by omega), upK_ne (by omega), upK_ne (by omega), upK_ne (by omega), upK_ne (by omega)]; exact hk) rfl (by rw [upK_eq]; decide) hC39 (fun M2 e1 hC41 => ?_)
  subst e1
  refine J_aload_n hX dX6_init_44 rfl ?_
  refine J_bipush hX dX6_init_45 rfl ?_
  refine J_newi hX (b + 7) dX6_init_47 (by decide) (by rw [upK_ne (by omega), upK_ne (by omega), upK_ne (by omega), upK_ne (by omega), upK_ne (by omega)]; exact z7) g39 hC41 ⟨(by rw [upK_ne (by omega), upK_ne (by omega), upK_ne (by omega), upK_ne (by omega), upK_ne (by omega), hk]; decide), trivial⟩ ⟨(by rw [upK_ne (by omega), upK_ne (by omega), upK_ne (by omega), upK_ne (by omega), upK_ne (by omega), hk]; decide), trivial⟩ (by decide) (fun K2 M2 e1 e2 hC47 => ?_)
  subst e1 e2
  have g47 := fun j hj => upK_up (i := b + 7) (k := 1000 + (20 : Int).toNat) (g39 j hj) (by decide)
  refine J_putR hX (b + 7) fp_RX6_27 dX6_init_49 hXN (by rw [upK_ne (by omega), upK_ne (by omega), upK_ne (by omega), upK_ne (by omega), upK_ne (by omega), upK_ne (by omega)]; exact hk) rfl (by rw [upK_eq]; decide) hC47 (fun M2 e1 hC49 => ?_)
  subst e1
  refine J_aload_n hX dX6_init_52 rfl ?_
  refine J_bipush hX dX6_init_53 rfl ?_
  refine J_newi hX (b + 8) dX6_init_55 (by decide) (by rw [upK_ne (by omega), upK_ne (by omega), upK_ne (by omega), upK_ne (by omega), upK_ne (by omega), upK_ne (by omega)]; exact z8) g47 hC49 ⟨(by rw [upK_ne (by omega), upK_ne (by omega), upK_ne (by omega), upK_ne (by omega), upK_ne (by omega), upK_ne (by omega), hk]; decide), trivial⟩ ⟨(by rw [upK_ne (by omega), upK_ne (by omega), upK_ne (by omega), upK_ne (by omega), upK_ne (by omega), upK_ne (by omega), hk]; decide), trivial⟩ (by decide) (fun K2 M2 e1 e2 hC55 => ?_)
  subst e1 e2
  have g55 := fun j hj => upK_up (i := b + 8) (k := 1000 + (20 : Int).toNat) (g47 j hj) (by decide)
  refine J_putR hX (b + 8) fp_RX6_30 dX6_init_57 hXN (by rw [upK_ne (by omega), upK_ne (by omega), upK_ne (by omega), upK_ne (by omega), upK_ne (by omega), upK_ne (by omega), upK_ne (by omega)]; exact hk) rfl (by rw [upK_eq]; decide) hC55 (fun M2 e1 hC57 => ?_)
  subst e1
  refine J_aload_n hX dX6_init_60 rfl ?_
  refine J_bipush hX dX6_init_61 rfl ?_
  refine J_newi hX (b + 9) dX6_init_63 (by decide) (by rw [upK_ne (by omega), upK_ne (by omega), upK_ne (by omega), upK_ne (by omega), upK_ne (by omega), upK_ne (by omega), upK_ne (by omega)]; exact z9) g55 hC57 ⟨(by rw [upK_ne (by omega), upK_ne (by omega), upK_ne (by omega), upK_ne (by omega), upK_ne (by omega), upK_ne (by omega), upK_ne (by omega), hk]; decide), trivial⟩ ⟨(by rw [upK_ne (by omega), upK_ne (by omega), upK_ne (by omega), upK_ne (by omega), upK_ne (by omega), upK_ne (by omega), upK_ne (by omega), hk]; decide), trivial⟩ (by decide) (fun K2 M2 e1 e2 hC63 => ?_)
  subst e1 e2
  have g63 := fun j hj => upK_up (i := b + 9) (k := 1000 + (20 : Int).toNat) (g55 j hj) (by decide)
  refine J_putR hX (b + 9) fp_RX6_33 dX6_init_65 hXN (by rw [upK_ne (by omega), upK_ne (by omega), upK_ne (by omega), upK_ne (by omega), upK_ne (by omega), upK_ne (by omega), upK_ne (by omega), upK_ne (by omega)]; exact hk) rfl (by rw [upK_eq]; decide) hC63 (fun M2 e1 hC65 => ?_)
  subst e1
  refine J_aload_n hX dX6_init_68 rfl ?_
  refine J_bipush hX dX6_init_69 rfl ?_
  refine J_newi hX (b + 10) dX6_init_71 (by decide) (by rw [upK_ne (by omega), upK_ne (by omega), upK_ne (by omega), upK_ne (by omega), upK_ne (by omega), upK_ne (by omega), upK_ne (by omega), upK_ne (by omega)]; exact z10) g63 hC65 ⟨(by rw [upK_ne (by omega), upK_ne (by omega), upK_ne (by omega), upK_ne (by omega), upK_ne (by omega), upK_ne (by omega), upK_ne (by omega), upK_ne (by omega), hk]; decide), trivial⟩ ⟨(by rw [upK_ne (by omega), upK_ne (by omega), upK_ne (by omega), upK_ne (by omega), upK_ne (by omega), upK_ne (by omega), upK_ne (by omega), upK_ne (by omega), hk]; decide), trivial⟩ (by decide) (fun K2 M2 e1 e2 hC71 => ?_)
  subst e1 e2
  have g71 := fun j hj => upK_up (i := b + 10) (k := 1000 + (20 : Int).toNat) (g63 j hj) (by decide)
  refine J_putR hX (b + 10) fp_RX6_36 dX6_init_73 hXN (by rw [upK_ne (by omega), upK_ne (by omega), upK_ne (by omega), upK_ne (by omega), upK_ne (by omega), upK_ne (by omega), upK_ne (by omega), upK_ne (by omega), upK_ne (by omega)]; exact hk) rfl (by rw [upK_eq]; decide) hC71 (fun M2 e1 hC73 => ?_)
  subst e1
  refine J_seal (i := b + 1) (k := 6) (by rw [upK_ne (by omega), upK_ne (by omega), upK_ne (by omega), upK_ne (by omega), upK_ne (by omega), upK_ne (by omega), upK_ne (by omega), upK_ne (by omega), upK_ne (by omega)]; exact hk) (by decide) (by rw [hXK, hk]; decide) hC73 (fun f o hf hr => ?_) (fun K2 e1 hCz => ?_)
  · have hc : f = 0 ∨ f = 1 ∨ f = 2 ∨ f = 3 ∨ f = 4 ∨ f = 5 ∨ f = 6 ∨ f = 7 ∨ f = 8 ∨ f = 9 := by
      have : nf 6 = 10 := rfl
      omega
    rcases hc with rfl | rfl | rfl | rfl | rfl | rfl | rfl | rfl | rfl | rfl
    · cases hr
    · rw [show (100 + ((1 : Nat) : Int)) = 101 from rfl, mset_nj (by decide), upM_ne (by omega), mset_nj (by decide), upM_ne (by omega), mset_nj (by decide), upM_ne (by omega), mset_nj (by decide), upM_ne (by omega), mset_nj (by decide), upM_ne (by omega), mset_nj (by decide), upM_ne (by omega), mset_nj (by decide), upM_ne (by omega), mset_nj (by decide), upM_ne (by omega), mset_at (by decide)]; decide
    · rw [show (100 + ((2 : Nat) : Int)) = 102 from rfl, mset_nj (by decide), upM_ne (by omega), mset_nj (by decide), upM_ne (by omega), mset_nj (by decide), upM_ne (by omega), mset_nj (by decide), upM_ne (by omega), mset_nj (by decide), upM_ne (by omega), mset_nj (by decide), upM_ne (by omega), mset_nj (by decide), upM_ne (by omega), mset_at (by decide)]; decide
    · rw [show (100 + ((3 : Nat) : Int)) = 103 from rfl, mset_nj (by decide), upM_ne (by omega), mset_nj (by decide), upM_ne (by omega), mset_nj (by decide), upM_ne (by omega), mset_nj (by decide), upM_ne (by omega), mset_nj (by decide), upM_ne (by omega), mset_nj (by decide), upM_ne (by omega), mset_at (by decide)]; decide
    · rw [show (100 + ((4 : Nat) : Int)) = 104 from rfl, mset_nj (by decide), upM_ne (by omega), mset_nj (by decide), upM_ne (by omega), mset_nj (by decide), upM_ne (by omega), mset_nj (by decide), upM_ne (by omega), mset_nj (by decide), upM_ne (by omega), mset_at (by decide)]; decide
    · rw [show (100 + ((5 : Nat) : Int)) = 105 from rfl, mset_nj (by decide), upM_ne (by omega), mset_nj (by decide), upM_ne (by omega), mset_nj (by decide), upM_ne (by omega), mset_nj (by decide), upM_ne (by omega), mset_at (by decide)]; decide
    · rw [show (100 + ((6 : Nat) : Int)) = 106 from rfl, mset_nj (by decide), upM_ne (by omega), mset_nj (by decide), upM_ne (by omega), mset_nj (by decide), upM_ne (by omega), mset_at (by decide)]; decide
    · rw [show (100 + ((7 : Nat) : Int)) = 107 from rfl, mset_nj (by decide), upM_ne (by omega), mset_nj (by decide), upM_ne (by omega), mset_at (by decide)]; decide
    · rw [show (100 + ((8 : Nat) : Int)) = 108 from rfl, mset_nj (by decide), upM_ne (by omega), mset_at (by decide)]; decide
    · rw [show (100 + ((9 : Nat) : Int)) = 109 from rfl, mset_at (by decide)]; decide
  have hKz : K2 = regK K (b + 1) 10 kT := regK_ext (fun j hj => by
      have hc : j = 0 ∨ j = 1 ∨ j = 2 ∨ j = 3 ∨ j = 4 ∨ j = 5 ∨ j = 6 ∨ j = 7 ∨ j = 8 ∨ j = 9 := by omega
      rcases hc with rfl | rfl | rfl | rfl | rfl | rfl | rfl | rfl | rfl | rfl
      · show K2 (b + 1) = _; rw [e1, upK_eq]; try rfl
      · show K2 (b + 2) = _; rw [e1, upK_ne (by omega), upK_ne (by omega), upK_ne (by omega), upK_ne (by omega), upK_ne (by omega), upK_ne (by omega), upK_ne (by omega), upK_ne (by omega), upK_ne (by omega), upK_eq]; try rfl
      · show K2 (b + 3) = _; rw [e1, upK_ne (by omega), upK_ne (by omega), upK_ne (by omega), upK_ne (by omega), upK_ne (by omega), upK_ne (by omega), upK_ne (by omega), upK_ne (by omega), upK_eq]; try rfl
      · show K2 (b + 4) = _; rw [e1, upK_ne (by omega), upK_ne (by omega), upK_ne (by omega), upK_ne (by omega), upK_ne (by omega), upK_ne (by omega), upK_ne (by omega), upK_eq]; try rfl
      · show K2 (b + 5) = _; rw [e1, upK_ne (by omega), upK_ne (by omega), upK_ne (by omega), upK_ne (by omega), upK_ne (by omega), upK_ne (by omega), upK_eq]; try rfl
      · show K2 (b + 6) = _; rw [e1, upK_ne (by omega), upK_ne (by omega), upK_ne (by omega), upK_ne (by omega), upK_ne (by omega), upK_eq]; try rfl
      · show K2 (b + 7) = _; rw [e1, upK_ne (by omega), upK_ne (by omega), upK_ne (by omega), upK_ne (by omega), upK_eq]; try rfl
      · show K2 (b + 8) = _; rw [e1, upK_ne (by omega), upK_ne (by omega), upK_ne (by omega), upK_eq]; try rfl
      · show K2 (b + 9) = _; rw [e1, upK_ne (by omega), upK_ne (by omega), upK_eq]; try rfl
      · show K2 (b + 10) = _; rw [e1, upK_ne (by omega), upK_eq]; try rfl) (fun i hi => by rw [e1, upK_ne (by omega), upK_ne (by omega), upK_ne (by omega), upK_ne (by omega), upK_ne (by omega), upK_ne (by omega), upK_ne (by omega), upK_ne (by omega), upK_ne (by omega), upK_ne (by omega)])
  subst hKz
  exact J_vret hX hQ dX6_init_76 ⟨rfl, rfl, fun i hi => by rw [mset_ne (by omega), upM_ne (by omega), mset_ne (by omega), upM_ne (by omega), mset_ne (by omega), upM_ne (by omega), mset_ne (by omega), upM_ne (by omega), mset_ne (by omega), upM_ne (by omega), mset_ne (by omega), upM_ne (by omega), mset_ne (by omega), upM_ne (by omega), mset_ne (by omega), upM_ne (by omega), mset_ne (by omega), upM_ne (by omega)], by rw [mset_nj (by decide), upM_ne (by omega), mset_nj (by decide), upM_ne (by omega), mset_nj (by decide), upM_ne (by omega), mset_nj (by decide), upM_ne (by omega), mset_nj (by decide), upM_ne (by omega), mset_nj (by decide), upM_ne (by omega), mset_nj (by decide), upM_ne (by omega), mset_nj (by decide), upM_ne (by omega), mset_nj (by decide), upM_ne (by omega)], hCz⟩ (by decide) (by decide)
set_option maxHeartbeats 4000000 in
set_option maxRecDepth 100000 in
theorem m_X3_init {E : EE} {K : Nat → Nat} {M : MM} {b : Nat} (hk : K (b + 11) = 100 + 3) (hz : ∀ j, 12 ≤ j → j < 15 → K (b + j) = 0) (hC : Cl K M) : Cn E 1 yX3_init cX3_init 1 none [.ref (b + 11)] K M (fun r K' M' => r = none ∧ K' = regK K (b + 11) 4 kC ∧ (∀ i, i < b + 11 ∨ b + 15 ≤ i → M' i = M i) ∧ (M' (b + 11) 0 = M (b + 11) 0 ∧ M' (b + 11) 1 = M (b + 11) 1 ∧ M' (b + 11) 2 = -5 ∧ M' (b + 11) 3 = 5) ∧ Cl K' M') 3 24 := by
  refine Cn_ofC RX3 (plainFor_of_name (by decide)) rfl (Nat.le_of_ble_eq_true rfl) (fun X hX hQ hXK hXN0 => ?_)
  have hXN : XN X = "<init>" := hXN0
  have z12 : K (b + 12) = 0 := hz 12 (by decide) (by decide)
  have z13 : K (b + 13) = 0 := hz 13 (by decide) (by decide)
  have z14 : K (b + 14) = 0 := hz 14 (by decide) (by decide)
  have g0 : ∀ j, XK X j ≠ 0 → K j ≠ 0 := fun j hj => by rw [← hXK]; exact hj
  refine J_aload_n hX dX3_init_0 rfl ?_
  refine J_init0 hX dX3_init_1 ml_RX3_3 (by decide) (Nat.le_of_ble_eq_true rfl) ?_
  refine J_aload_n hX dX3_init_4 rfl ?_
  refine J_bipush hX dX3_init_5 rfl ?_
  refine J_putq hX fw_RX3_9 dX3_init_7 hk (by decide) (Or.inl rfl) hC (fun M2 e1 hC7 => ?_)
  subst e1
  refine J_aload_n hX dX3_init_10 rfl ?_
  refine J_iconst hX dX3_init_11 ?_
  refine J_putq hX fw_RX3_15 dX3_init_12 hk (by decide) (Or.inl rfl) hC7 (fun M2 e1 hC12 => ?_)
  subst e1
  refine J_aload_n hX dX3_init_15 rfl ?_
  refine J_bipush hX dX3_init_16 rfl ?_
  refine J_newi hX (b + 12) dX3_init_18 (by decide) z12 g0 hC12 ⟨(by rw [hk]; decide), trivial⟩ ⟨(by rw [hk]; decide), trivial⟩ (by decide) (fun K2 M2 e1 e2 hC18 => ?_)
  subst e1 e2
  have g18 := fun j hj => upK_up (i := b + 12) (k := 1000 + (8 : Int).toNat) (g0 j hj) (by decide)
  refine J_putR hX (b + 12) fp_RX3_18 dX3_init_20 hXN (by rw [upK_ne (by omega)]; exact hk) rfl (by rw [upK_eq]; decide) hC18 (fun M2 e1 hC20 => ?_)
  subst e1
  refine J_aload_n hX dX3_init_23 rfl ?_
  refine J_bipush hX dX3_init_24 rfl ?_
  refine J_newi hX (b + 13) dX3_init_26 (by decide) (by rw [upK_ne (by omega)]; exact z13) g18 hC20 ⟨(by rw [upK_ne (by omega), hk]; decide), trivial⟩ ⟨(by rw [upK_ne (by omega), hk]; decide), trivial⟩ (by decide) (fun K2 M2 e1 e2 hC26 => ?_)
  subst e1 e2
  have g26 := fun j hj => upK_up (i := b + 13) (k := 1000 + (8 : Int).toNat) (g18 j hj) (by decide)
  refine J_putR hX (b + 13) fp_RX3_22 dX3_init_28 hXN (by rw [upK_ne (by omega), upK_ne (by omega)]; exact hk) rfl (by rw [upK_eq]; decide) hC26 (fun M2 e1 hC28 => ?_)
  subst e1
  refine J_aload_n hX dX3_init_31 rfl ?_
  refine J_bipush hX dX3_init_32 rfl ?_
  refine J_newi hX (b + 14) dX3_init_34 (by decide) (by rw [upK_ne (by omega), upK_ne (by omega)]; exact z14) g26 hC28 ⟨(by rw [upK_ne (by omega), upK_ne (by omega), hk]; decide), trivial⟩ ⟨(by rw [upK_ne (by omega), upK_ne (by omega), hk]; decide), trivial⟩ (by decide) (fun K2 M2 e1 e2 hC34 => ?_)
  subst e1 e2
  have g34 := fun j hj => upK_up (i := b + 14) (k := 1000 + (8 : Int).toNat) (g26 j hj) (by decide)
  refine J_putR hX (b + 14) fp_RX3_25 dX3_init_36 hXN (by rw [upK_ne (by omega), upK_ne (by omega), upK_ne (by omega)]; exact hk) rfl (by rw [upK_eq]; decide) hC34 (fun M2 e1 hC36 => ?_)
  subst e1
  refine J_seal (i := b + 11) (k := 3) (by rw [upK_ne (by omega), upK_ne (by omega), upK_ne (by omega)]; exact hk) (by decide) (by rw [hXK, hk]; decide) hC36 (fun f o hf hr => ?_) (fun K2 e1 hCz => ?_)
  · have hc : f = 0 ∨ f = 1 ∨ f = 2 ∨ f = 3 ∨ f = 4 ∨ f = 5 ∨ f = 6 := by
      have : nf 3 = 7 := rfl
      omega
    rcases hc with rfl | rfl | rfl | rfl | rfl | rfl | rfl
    · cases hr
    · cases hr
    · cases hr
    · cases hr
    · rw [show (100 + ((4 : Nat) : Int)) = 104 from rfl, mset_nj (by decide), upM_ne (by omega), mset_nj (by decide), upM_ne (by omega), mset_at (by decide)]; decide
    · rw [show (100 + ((5 : Nat) : Int)) = 105 from rfl, mset_nj (by decide), upM_ne (by omega), mset_at (by decide)]; decide
    · rw [show (100 + ((6 : Nat) : Int)) = 106 from rfl, mset_at (by decide)]; decide
  have hKz : K2 = regK K (b + 11) 4 kC := regK_ext (fun j hj => by
      have hc : j = 0 ∨ j = 1 ∨ j = 2 ∨ j = 3 := by omega
      rcases hc with rfl | rfl | rfl | rfl
      · show K2 (b + 11) = _; rw [e1, upK_eq]; try rfl
      · show K2 (b + 12) = _; rw [e1, upK_ne (by omega), upK_ne (by omega), upK_ne (by omega), upK_eq]; try rfl
      · show K2 (b + 13) = _; rw [e1, upK_ne (by omega), upK_ne (by omega), upK_eq]; try rfl
      · show K2 (b + 14) = _; rw [e1, upK_ne (by omega), upK_eq]; try rfl) (fun i hi => by rw [e1, upK_ne (by omega), upK_ne (by omega), upK_ne (by omega), upK_ne (by omega)])
  subst hKz
  exact J_vret hX hQ dX3_init_39 ⟨rfl, rfl, fun i hi => by rw [mset_ne (by omega), upM_ne (by omega), mset_ne (by omega), upM_ne (by omega), mset_ne (by omega), upM_ne (by omega), mset_ne (by omega), mset_ne (by omega)], ⟨by rw [mset_nj (by decide), upM_ne (by omega), mset_nj (by decide), upM_ne (by omega), mset_nj (by decide), upM_ne (by omega), mset_nj (by decide), mset_nj (by decide)], by rw [mset_nj (by decide), upM_ne (by omega), mset_nj (by decide), upM_ne (by omega), mset_nj (by decide), upM_ne (by omega), mset_nj (by decide), mset_nj (by decide)], by rw [mset_nj (by decide), upM_ne (by omega), mset_nj (by decide), upM_ne (by omega), mset_nj (by decide), upM_ne (by omega), mset_nj (by decide), mset_at (by decide)], by rw [mset_nj (by decide), upM_ne (by omega), mset_nj (by decide), upM_ne (by omega), mset_nj (by decide), upM_ne (by omega), mset_at (by decide)]⟩, hCz⟩ (by decide) (by decide)
set_option maxHeartbeats 4000000 in
set_option maxRecDepth 100000 in
theorem m_X5_init {E : EE} {K : Nat → Nat} {M : MM} {b : Nat} (hk : K (b) = 100 + 5) (hz : ∀ j, 1 ≤ j → j < 16 → K (b + j) = 0) (hC : Cl K M) : Cn E 2 yX5_init cX5_init 1 none [.ref (b)] K M (fun r K' M' => r = none ∧ K' = regK K (b) 16 kS ∧ (∀ i, i < b ∨ b + 16 ≤ i → M' i = M i) ∧ (M' (b) 3 = 80 ∧ M' (b) 4 = 40 ∧ M' (b) 5 = M (b) 5 ∧ M' (b) 6 = M (b) 6 ∧ M' (b) 7 = M (b) 7 ∧ M' (b + 1) 0 = 0 ∧ M' (b + 11) 0 = 0 ∧ M' (b + 11) 1 = 0 ∧ M' (b + 11) 2 = -5 ∧ M' (b + 11) 3 = 5 ∧ M' (b + 15) 0 = 20 ∧ M' (b + 15) 1 = 1 ∧ M' (b + 15) 2 = 4 ∧ M' (b + 15) 3 = 10) ∧ Cl K' M') 15 225 := by
  refine Cn_ofC RX5 (plainFor_of_name (by decide)) rfl (Nat.le_of_ble_eq_true rfl) (fun X hX hQ hXK hXN0 => ?_)
  have hXN : XN X = "<init>" := hXN0
  have z1 : K (b + 1) = 0 := hz 1 (by decide) (by decide)
  have z2 : K (b + 2) = 0 := hz 2 (by decide) (by decide)
  have z3 : K (b + 3) = 0 := hz 3 (by decide) (by decide)
  have z4 : K (b + 4) = 0 := hz 4 (by decide) (by decide)
  have z5 : K (b + 5) = 0 := hz 5 (by decide) (by decide)
  have z6 : K (b + 6) = 0 := hz 6 (by decide) (by decide)
  have z7 : K (b + 7) = 0 := hz 7 (by decide) (by decide)
  have z8 : K (b + 8) = 0 := hz 8 (by decide) (by decide)
  have z9 : K (b + 9) = 0 := hz 9 (by decide) (by decide)
  have z10 : K (b + 10) = 0 := hz 10 (by decide) (by decide)
  have z11 : K (b + 11) = 0 := hz 11 (by decide) (by decide)
  have z12 : K (b + 12) = 0 := hz 12 (by decide) (by decide)
  have z13 : K (b + 13) = 0 := hz 13 (by decide) (by decide)
  have z14 : K (b + 14) = 0 := hz 14 (by decide) (by decide)
  have z15 : K (b + 15) = 0 := hz 15 (by decide) (by decide)
  have g0 : ∀ j, XK X j ≠ 0 → K j ≠ 0 := fun j hj => by rw [← hXK]; exact hj
  refine J_aload_n hX dX5_init_0 rfl ?_
  refine J_init0 hX dX5_init_1 ml_RX5_3 (by decide) (Nat.le_of_ble_eq_true rfl) ?_
  refine J_aload_n hX dX5_init_4 rfl ?_
  refine J_new hX (b + 1) fn_RX5_9 dX5_init_5 z1 g0 hC ⟨(by rw [hk]; decide), trivial⟩ ⟨(by rw [hk]; decide), trivial⟩ (by decide) (fun K2 M2 e1 e2 hC5 => ?_)
  subst e1 e2
  have g5 := fun j hj => upK_up (i := b + 1) (k := 100 + 6) (g0 j hj) (by decide)
  refine J_dup hX dX5_init_8 rfl ?_
  have hz9 : ∀ q : Nat, 2 ≤ q → q < 11 → (upK (K) (b + 1) (100 + 6)) (b + q) = 0 := fun q q0 q1 => by
    have hc : q = 2 ∨ q = 3 ∨ q = 4 ∨ q = 5 ∨ q = 6 ∨ q = 7 ∨ q = 8 ∨ q = 9 ∨ q = 10 := by omega
    rcases hc with rfl | rfl | rfl | rfl | rfl | rfl | rfl | rfl | rfl
    · exact (by rw [upK_ne (by omega)]; exact z2)
    · exact (by rw [upK_ne (by omega)]; exact z3)
    · exact (by rw [upK_ne (by omega)]; exact z4)
    · exact (by rw [upK_ne (by omega)]; exact z5)
    · exact (by rw [upK_ne (by omega)]; exact z6)
    · exact (by rw [upK_ne (by omega)]; exact z7)
    · exact (by rw [upK_ne (by omega)]; exact z8)
    · exact (by rw [upK_ne (by omega)]; exact z9)
    · exact (by rw [upK_ne (by omega)]; exact z10)
  refine J_callINK hX _ dX5_init_9 cw_RX5_11 (m_X6_init (b := b) (by rw [upK_eq]; try rfl) hz9 hC5) rfl (Nat.le_of_ble_eq_true rfl) ⟨Nat.le_of_ble_eq_true rfl, by decide⟩ (by decide) (Or.inr ⟨g5, b + 1, (by rw [upK_eq]; decide), by rw [hXK]; exact z1⟩) ⟨(by rw [upK_ne (by omega), hk]; decide), trivial⟩ ⟨(by rw [upK_eq]; decide), ⟨(by rw [upK_ne (by omega), hk]; decide), trivial⟩⟩ (fun r K2 M2 h i hi => by rw [h.2.1]; exact regK_up hi (by decide)) (fun r K2 M9 h9 => ?_)
  obtain ⟨rfl, rfl, fM9, pM9, hC9⟩ := h9
  have g9 := fun j hj => regK_up (lo := b + 1) (n := 10) (kf := kT) (g5 j hj) (by decide)
  refine J_putR hX (b + 1) fp_RX5_12 dX5_init_12 hXN (by rw [regK_out (by omega), upK_ne (by omega)]; exact hk) rfl (by rw [regK_at (j := 0) (by omega) (by decide)]; decide) hC9 (fun M2 e1 hC12 => ?_)
  subst e1
  refine J_aload_n hX dX5_init_15 rfl ?_
  refine J_new hX (b + 11) fn_RX5_18 dX5_init_16 (by rw [regK_out (by omega), upK_ne (by omega)]; exact z11) g9 hC12 ⟨(by rw [regK_out (by omega), upK_ne (by omega), hk]; decide), trivial⟩ ⟨(by rw [regK_out (by omega), upK_ne (by omega), hk]; decide), trivial⟩ (by decide) (fun K2 M2 e1 e2 hC16 => ?_)
  subst e1 e2
  have g16 := fun j hj => upK_up (i := b + 11) (k := 100 + 3) (g9 j hj) (by decide)
  refine J_dup hX dX5_init_19 rfl ?_
  have hz20 : ∀ q : Nat, 12 ≤ q → q < 15 → (upK (regK (upK (K) (b + 1) (100 + 6)) (b + 1) 10 kT) (b + 11) (100 + 3)) (b + q) = 0 := fun q q0 q1 => by
    have hc : q = 12 ∨ q = 13 ∨ q = 14 := by omega
    rcases hc with rfl | rfl | rfl
    · exact (by rw [upK_ne (by omega), regK_out (by omega), upK_ne (by omega)]; exact z12)
    · exact (by rw [upK_ne (by omega), regK_out (by omega), upK_ne (by omega)]; exact z13)
    · exact (by rw [upK_ne (by omega), regK_out (by omega), upK_ne (by omega)]; exact z14)
  refine J_callINK hX _ dX5_init_20 cw_RX5_20 (m_X3_init (b := b) (by rw [upK_eq]; try rfl) hz20 hC16) rfl (Nat.le_of_ble_eq_true rfl) ⟨Nat.le_of_ble_eq_true rfl, by decide⟩ (by decide) (Or.inr ⟨g16, b + 11, (by rw [upK_eq]; decide), by rw [hXK]; exact z11⟩) ⟨(by rw [upK_ne (by omega), regK_out (by omega), upK_ne (by omega), hk]; decide), trivial⟩ ⟨(by rw [upK_eq]; decide), ⟨(by rw [upK_ne (by omega), regK_out (by omega), upK_ne (by omega), hk]; decide), trivial⟩⟩ (fun r K2 M2 h i hi => by rw [h.2.1]; exact regK_up hi (by decide)) (fun r K2 M20 h20 => ?_)
  obtain ⟨rfl, rfl, fM20, pM20, hC20⟩ := h20
  obtain ⟨pM20_0, pM20_1, pM20_2, pM20_3⟩ := pM20
  have g20 := fun j hj => regK_up (lo := b + 11) (n := 4) (kf := kC) (g16 j hj) (by decide)
  refine J_putR hX (b + 11) fp_RX5_21 dX5_init_23 hXN (by rw [regK_out (by omega), upK_ne (by omega), regK_out (by omega), upK_ne (by omega)]; exact hk) rfl (by rw [regK_at (j := 0) (by omega) (by decide)]; decide) hC20 (fun M2 e1 hC23 => ?_)
  subst e1
  refine J_aload_n hX dX5_init_26 rfl ?_
  refine J_iconst hX dX5_init_27 ?_
  refine J_newi hX (b + 15) dX5_init_28 (by decide) (by rw [regK_out (by omega), upK_ne (by omega), regK_out (by omega), upK_ne (by omega)]; exact z15) g20 hC23 ⟨(by rw [regK_out (by omega), upK_ne (by omega), regK_out (by omega), upK_ne (by omega), hk]; decide), trivial⟩ ⟨(by rw [regK_out (by omega), upK_ne (by omega), regK_out (by omega), upK_ne (by omega), hk]; decide), trivial⟩ (by decide) (fun K2 M2 e1 e2 hC28 => ?_)
  subst e1 e2
  have g28 := fun j hj => upK_up (i := b + 15) (k := 1000 + (4 : Int).toNat) (g20 j hj) (by decide)
  refine J_putR hX (b + 15) fp_RX5_25 dX5_init_30 hXN (by rw [upK_ne (by omega), regK_out (by omega), upK_ne (by omega), regK_out (by omega), upK_ne (by omega)]; exact hk) rfl (by rw [upK_eq]; decide) hC28 (fun M2 e1 hC30 => ?_)
  subst e1
  refine J_aload_n hX dX5_init_33 rfl ?_
  refine J_bipush hX dX5_init_34 rfl ?_
  refine J_putq hX fw_RX5_29 dX5_init_36 (by rw [upK_ne (by omega), regK_out (by omega), upK_ne (by omega), regK_out (by omega), upK_ne (by omega)]; exact hk) (by decide) (Or.inl rfl) hC30 (fun M2 e1 hC36 => ?_)
  subst e1
  refine J_aload_n hX dX5_init_39 rfl ?_
  refine J_bipush hX dX5_init_40 rfl ?_
  refine J_putq hX fw_RX5_33 dX5_init_42 (by rw [upK_ne (by omega), regK_out (by omega), upK_ne (by omega), regK_out (by omega), upK_ne (by omega)]; exact hk) (by decide) (Or.inl rfl) hC36 (fun M2 e1 hC42 => ?_)
  subst e1
  refine J_aload_n hX dX5_init_45 rfl ?_
  refine J_getq hX (b + 15) fr_RX5_25 dX5_init_46 (by rw [upK_ne (by omega), regK_out (by omega), upK_ne (by omega), regK_out (by omega), upK_ne (by omega)]; exact hk) rfl (by rw [mset_nj (by decide), mset_nj (by decide), mset_at (by decide)]; decide) ?_
  refine J_iconst hX dX5_init_49 ?_
  refine J_bipush hX dX5_init_50 rfl ?_
  refine J_istA hX dX5_init_52 (n := 4) (by rw [upK_eq]; try rfl) ⟨by decide, by decide⟩ (by decide) (by decide) (fun M2 e1 => ?_)
  have hC52 := Cl_puti (i := b + 15) (j := 0) (x := 20) hC42 (fun q => by rw [upK_eq] at q; exact absurd q (by decide)) (by decide)
  subst e1
  refine J_aload_n hX dX5_init_53 rfl ?_
  refine J_getq hX (b + 15) fr_RX5_25 dX5_init_54 (by rw [upK_ne (by omega), regK_out (by omega), upK_ne (by omega), regK_out (by omega), upK_ne (by omega)]; exact hk) rfl (by rw [mset_ne (by omega), mset_nj (by decide), mset_nj (by decide), mset_at (by decide)]; decide) ?_
  refine J_iconst hX dX5_init_57 ?_
  refine J_iconst hX dX5_init_58 ?_
  refine J_istA hX dX5_init_59 (n := 4) (by rw [upK_eq]; try rfl) ⟨by decide, by decide⟩ (by decide) (by decide) (fun M2 e1 => ?_)
  have hC59 := Cl_puti (i := b + 15) (j := 1) (x := 1) hC52 (fun q => by rw [upK_eq] at q; exact absurd q (by decide)) (by decide)
  subst e1
  refine J_aload_n hX dX5_init_60 rfl ?_
  refine J_getq hX (b + 15) fr_RX5_25 dX5_init_61 (by rw [upK_ne (by omega), regK_out (by omega), upK_ne (by omega), regK_out (by omega), upK_ne (by omega)]; exact hk) rfl (by rw [mset_ne (by omega), mset_ne (by omega), mset_nj (by decide), mset_nj (by decide), mset_at (by decide)]; decide) ?_
  refine J_iconst hX dX5_init_64 ?_
  refine J_iconst hX dX5_init_65 ?_
  refine J_istA hX dX5_init_66 (n := 4) (by rw [upK_eq]; try rfl) ⟨by decide, by decide⟩ (by decide) (by decide) (fun M2 e1 => ?_)
  have hC66 := Cl_puti (i := b + 15) (j := 2) (x := 4) hC59 (fun q => by rw [upK_eq] at q; exact absurd q (by decide)) (by decide)
  subst e1
  refine J_aload_n hX dX5_init_67 rfl ?_
  refine J_getq hX (b + 15) fr_RX5_25 dX5_init_68 (by rw [upK_ne (by omega), regK_out (by omega), upK_ne (by omega), regK_out (by omega), upK_ne (by omega)]; exact hk) rfl (by rw [mset_ne (by omega), mset_ne (by omega), mset_ne (by omega), mset_nj (by decide), mset_nj (by decide), mset_at (by decide)]; decide) ?_
  refine J_iconst hX dX5_init_71 ?_
  refine J_bipush hX dX5_init_72 rfl ?_
  refine J_istA hX dX5_init_74 (n := 4) (by rw [upK_eq]; try rfl) ⟨by decide, by decide⟩ (by decide) (by decide) (fun M2 e1 => ?_)
  have hC74 := Cl_puti (i := b + 15) (j := 3) (x := 10) hC66 (fun q => by rw [upK_eq] at q; exact absurd q (by decide)) (by decide)
  subst e1
  refine J_seal (i := b) (k := 5) (by rw [upK_ne (by omega), regK_out (by omega), upK_ne (by omega), regK_out (by omega), upK_ne (by omega)]; exact hk) (by decide) (by rw [hXK, hk]; decide) hC74 (fun f o hf hr => ?_) (fun K2 e1 hCz => ?_)
  · have hc : f = 0 ∨ f = 1 ∨ f = 2 ∨ f = 3 ∨ f = 4 ∨ f = 5 ∨ f = 6 ∨ f = 7 := by
      have : nf 5 = 8 := rfl
      omega
    rcases hc with rfl | rfl | rfl | rfl | rfl | rfl | rfl | rfl
    · rw [show (100 + ((0 : Nat) : Int)) = 100 from rfl, mset_ne (by omega), mset_ne (by omega), mset_ne (by omega), mset_ne (by omega), mset_nj (by decide), mset_nj (by decide), mset_nj (by decide), upM_ne (by omega), mset_nj (by decide), fM20 _ (by omega), upM_ne (by omega), mset_at (by decide)]; decide
    · rw [show (100 + ((1 : Nat) : Int)) = 101 from rfl, mset_ne (by omega), mset_ne (by omega), mset_ne (by omega), mset_ne (by omega), mset_nj (by decide), mset_nj (by decide), mset_nj (by decide), upM_ne (by omega), mset_at (by decide)]; decide
    · rw [show (100 + ((2 : Nat) : Int)) = 102 from rfl, mset_ne (by omega), mset_ne (by omega), mset_ne (by omega), mset_ne (by omega), mset_nj (by decide), mset_nj (by decide), mset_at (by decide)]; decide
    · cases hr
    · cases hr
    · cases hr
    · cases hr
    · cases hr
  have hKz : K2 = regK K (b) 16 kS := regK_ext (fun j hj => by
      have hc : j = 0 ∨ j = 1 ∨ j = 2 ∨ j = 3 ∨ j = 4 ∨ j = 5 ∨ j = 6 ∨ j = 7 ∨ j = 8 ∨ j = 9 ∨ j = 10 ∨ j = 11 ∨ j = 12 ∨ j = 13 ∨ j = 14 ∨ j = 15 := by omega
      rcases hc with rfl | rfl | rfl | rfl | rfl | rfl | rfl | rfl | rfl | rfl | rfl | rfl | rfl | rfl | rfl | rfl
      · show K2 (b) = _; rw [e1, upK_eq]; try rfl
      · show K2 (b + 1) = _; rw [e1, upK_ne (by omega), upK_ne (by omega), regK_out (by omega), upK_ne (by omega), regK_at (j := 0) (by omega) (by decide)]; try rfl
      · show K2 (b + 2) = _; rw [e1, upK_ne (by omega), upK_ne (by omega), regK_out (by omega), upK_ne (by omega), regK_at (j := 1) (by omega) (by decide)]; try rfl
      · show K2 (b + 3) = _; rw [e1, upK_ne (by omega), upK_ne (by omega), regK_out (by omega), upK_ne (by omega), regK_at (j := 2) (by omega) (by decide)]; try rfl
      · show K2 (b + 4) = _; rw [e1, upK_ne (by omega), upK_ne (by omega), regK_out (by omega), upK_ne (by omega), regK_at (j := 3) (by omega) (by decide)]; try rfl
      · show K2 (b + 5) = _; rw [e1, upK_ne (by omega), upK_ne (by omega), regK_out (by omega), upK_ne (by omega), regK_at (j := 4) (by omega) (by decide)]; try rfl
      · show K2 (b + 6) = _; rw [e1, upK_ne (by omega), upK_ne (by omega), regK_out (by omega), upK_ne (by omega), regK_at (j := 5) (by omega) (by decide)]; try rfl
      · show K2 (b + 7) = _; rw [e1, upK_ne (by omega), upK_ne (by omega), regK_out (by omega), upK_ne (by omega), regK_at (j := 6) (by omega) (by decide)]; try rfl
      · show K2 (b + 8) = _; rw [e1, upK_ne (by omega), upK_ne (by omega), regK_out (by omega), upK_ne (by omega), regK_at (j := 7) (by omega) (by decide)]; try rfl
      · show K2 (b + 9) = _; rw [e1, upK_ne (by omega), upK_ne (by omega), regK_out (by omega), upK_ne (by omega), regK_at (j := 8) (by omega) (by decide)]; try rfl
      · show K2 (b + 10) = _; rw [e1, upK_ne (by omega), upK_ne (by omega), regK_out (by omega), upK_ne (by omega), regK_at (j := 9) (by omega) (by decide)]; try rfl
      · show K2 (b + 11) = _; rw [e1, upK_ne (by omega), upK_ne (by omega), regK_at (j := 0) (by omega) (by decide)]; try rfl
      · show K2 (b + 12) = _; rw [e1, upK_ne (by omega), upK_ne (by omega), regK_at (j := 1) (by omega) (by decide)]; try rfl
      · show K2 (b + 13) = _; rw [e1, upK_ne (by omega), upK_ne (by omega), regK_at (j := 2) (by omega) (by decide)]; try rfl
      · show K2 (b + 14) = _; rw [e1, upK_ne (by omega), upK_ne (by omega), regK_at (j := 3) (by omega) (by decide)]; try rfl
      · show K2 (b + 15) = _; rw [e1, upK_ne (by omega), upK_eq]; try rfl) (fun i hi => by rw [e1, upK_ne (by omega), upK_ne (by omega), regK_out (by omega), upK_ne (by omega), regK_out (by omega), upK_ne (by omega)])
  subst hKz
  exact J_vret hX hQ dX5_init_75 ⟨rfl, rfl, fun i hi => by rw [mset_ne (by omega), mset_ne (by omega), mset_ne (by omega), mset_ne (by omega), mset_ne (by omega), mset_ne (by omega), mset_ne (by omega), upM_ne (by omega), mset_ne (by omega), fM20 _ (by omega), upM_ne (by omega), mset_ne (by omega), fM9 _ (by omega), upM_ne (by omega)], ⟨by rw [mset_ne (by omega), mset_ne (by omega), mset_ne (by omega), mset_ne (by omega), mset_nj (by decide), mset_at (by decide)], by rw [mset_ne (by omega), mset_ne (by omega), mset_ne (by omega), mset_ne (by omega), mset_at (by decide)], by rw [mset_ne (by omega), mset_ne (by omega), mset_ne (by omega), mset_ne (by omega), mset_nj (by decide), mset_nj (by decide), mset_nj (by decide), upM_ne (by omega), mset_nj (by decide), fM20 _ (by omega), upM_ne (by omega), mset_nj (by decide), fM9 _ (by omega), upM_ne (by omega)], by rw [mset_ne (by omega), mset_ne (by omega), mset_ne (by omega), mset_ne (by omega), mset_nj (by decide), mset_nj (by decide), mset_nj (by decide), upM_ne (by omega), mset_nj (by decide), fM20 _ (by omega), upM_ne (by omega), mset_nj (by decide), fM9 _ (by omega), upM_ne (by omega)], by rw [mset_ne (by omega), mset_ne (by omega), mset_ne (by omega), mset_ne (by omega), mset_nj (by decide), mset_nj (by decide), mset_nj (by decide), upM_ne (by omega), mset_nj (by decide), fM20 _ (by omega), upM_ne (by omega), mset_nj (by decide), fM9 _ (by omega), upM_ne (by omega)], by rw [mset_ne (by omega), mset_ne (by omega), mset_ne (by omega), mset_ne (by omega), mset_ne (by omega), mset_ne (by omega), mset_ne (by omega), upM_ne (by omega), mset_ne (by omega), fM20 _ (by omega), upM_ne (by omega), mset_ne (by omega), pM9, upM_eq]; rfl, by rw [mset_ne (by omega), mset_ne (by omega), mset_ne (by omega), mset_ne (by omega), mset_ne (by omega), mset_ne (by omega), mset_ne (by omega), upM_ne (by omega), mset_ne (by omega), pM20_0, upM_eq]; rfl, by rw [mset_ne (by omega), mset_ne (by omega), mset_ne (by omega), mset_ne (by omega), mset_ne (by omega), mset_ne (by omega), mset_ne (by omega), upM_ne (by omega), mset_ne (by omega), pM20_1, upM_eq]; rfl, by rw [mset_ne (by omega), mset_ne (by omega), mset_ne (by omega), mset_ne (by omega), mset_ne (by omega), mset_ne (by omega), mset_ne (by omega), upM_ne (by omega), mset_ne (by omega), pM20_2], by rw [mset_ne (by omega), mset_ne (by omega), mset_ne (by omega), mset_ne (by omega), mset_ne (by omega), mset_ne (by omega), mset_ne (by omega), upM_ne (by omega), mset_ne (by omega), pM20_3], by rw [mset_nj (by decide), mset_nj (by decide), mset_nj (by decide), mset_at (by decide)], by rw [mset_nj (by decide), mset_nj (by decide), mset_at (by decide)], by rw [mset_nj (by decide), mset_at (by decide)], by rw [mset_at (by decide)]⟩, hCz⟩ (by decide) (by decide)
set_option maxHeartbeats 4000000 in
set_option maxRecDepth 100000 in
theorem m_X2_init {E : EE} {K : Nat → Nat} {M : MM} {p : Nat} (hk : K (p) = 100 + 2) (hz : ∀ j, 1 ≤ j → j < 24 → K (p + j) = 0) (hC : Cl K M) : Cn E 3 yX2_init cX2_init 1 none [.ref (p)] K M (fun r K' M' => r = none ∧ K' = regK K (p) 24 kP ∧ (∀ i, i < p ∨ p + 24 ≤ i → M' i = M i) ∧ (M' (p + 1) 3 = 80 ∧ M' (p + 1) 4 = 40 ∧ M' (p + 1) 5 = 0 ∧ M' (p + 1) 6 = 0 ∧ M' (p + 1) 7 = 0 ∧ M' (p + 2) 0 = 0 ∧ M' (p + 12) 0 = 0 ∧ M' (p + 12) 1 = 0 ∧ M' (p + 12) 2 = -5 ∧ M' (p + 12) 3 = 5 ∧ M' (p + 16) 0 = 20 ∧ M' (p + 16) 1 = 1 ∧ M' (p + 16) 2 = 4 ∧ M' (p + 16) 3 = 10) ∧ Cl K' M') 23 373 := by
  refine Cn_ofC RX2 (plainFor_of_name (by decide)) rfl (Nat.le_of_ble_eq_true rfl) (fun X hX hQ hXK hXN0 => ?_)
  have hXN : XN X = "<init>" := hXN0
  have z1 : K (p + 1) = 0 := hz 1 (by decide) (by decide)
  have z2 : K (p + 2) = 0 := hz 2 (by decide) (by decide)
  have z3 : K (p + 3) = 0 := hz 3 (by decide) (by decide)
  have z4 : K (p + 4) = 0 := hz 4 (by decide) (by decide)
  have z5 : K (p + 5) = 0 := hz 5 (by decide) (by decide)
  have z6 : K (p + 6) = 0 := hz 6 (by decide) (by decide)
  have z7 : K (p + 7) = 0 := hz 7 (by decide) (by decide)
  have z8 : K (p + 8) = 0 := hz 8 (by decide) (by decide)
  have z9 : K (p + 9) = 0 := hz 9 (by decide) (by decide)
  have z10 : K (p + 10) = 0 := hz 10 (by decide) (by decide)
  have z11 : K (p + 11) = 0 := hz 11 (by decide) (by decide)
  have z12 : K (p + 12) = 0 := hz 12 (by decide) (by decide)
  have z13 : K (p + 13) = 0 := hz 13 (by decide) (by decide)
  have z14 : K (p + 14) = 0 := hz 14 (by decide) (by decide)
  have z15 : K (p + 15) = 0 := hz 15 (by decide) (by decide)
  have z16 : K (p + 16) = 0 := hz 16 (by decide) (by decide)
  have z17 : K (p + 17) = 0 := hz 17 (by decide) (by decide)
  have z18 : K (p + 18) = 0 := hz 18 (by decide) (by decide)
  have z19 : K (p + 19) = 0 := hz 19 (by decide) (by decide)
  have z20 : K (p + 20) = 0 := hz 20 (by decide) (by decide)
  have z21 : K (p + 21) = 0 := hz 21 (by decide) (by decide)
  have z22 : K (p + 22) = 0 := hz 22 (by decide) (by decide)
  have z23 : K (p + 23) = 0 := hz 23 (by decide) (by decide)
  have g0 : ∀ j, XK X j ≠ 0 → K j ≠ 0 := fun j hj => by rw [← hXK]; exact hj
  refine J_aload_n hX dX2_init_0 rfl ?_
  refine J_init0 hX dX2_init_1 ml_RX2_3 (by decide) (Nat.le_of_ble_eq_true rfl) ?_
  refine J_aload_n hX dX2_init_4 rfl ?_
  refine J_new hX (p + 1) fn_RX2_9 dX2_init_5 z1 g0 hC ⟨(by rw [hk]; decide), trivial⟩ ⟨(by rw [hk]; decide), trivial⟩ (by decide) (fun K2 M2 e1 e2 hC5 => ?_)
  subst e1 e2
  have g5 := fun j hj => upK_up (i := p + 1) (k := 100 + 5) (g0 j hj) (by decide)
  refine J_dup hX dX2_init_8 rfl ?_
  have hz9 : ∀ q : Nat, 1 ≤ q → q < 16 → (upK (K) (p + 1) (100 + 5)) (p + 1 + q) = 0 := fun q q0 q1 => by
    have hc : q = 1 ∨ q = 2 ∨ q = 3 ∨ q = 4 ∨ q = 5 ∨ q = 6 ∨ q = 7 ∨ q = 8 ∨ q = 9 ∨ q = 10 ∨ q = 11 ∨ q = 12 ∨ q = 13 ∨ q = 14 ∨ q = 15 := by omega
    rcases hc with rfl | rfl | rfl | rfl | rfl | rfl | rfl | rfl | rfl | rfl | rfl | rfl | rfl | rfl | rfl
    · exact (by rw [upK_ne (by omega)]; exact z2)
    · exact (by rw [upK_ne (by omega)]; exact z3)
    · exact (by rw [upK_ne (by omega)]; exact z4)
    · exact (by rw [upK_ne (by omega)]; exact z5)
    · exact (by rw [upK_ne (by omega)]; exact z6)
    · exact (by rw [upK_ne (by omega)]; exact z7)
    · exact (by rw [upK_ne (by omega)]; exact z8)
    · exact (by rw [upK_ne (by omega)]; exact z9)
    · exact (by rw [upK_ne (by omega)]; exact z10)
    · exact (by rw [upK_ne (by omega)]; exact z11)
    · exact (by rw [upK_ne (by omega)]; exact z12)
    · exact (by rw [upK_ne (by omega)]; exact z13)
    · exact (by rw [upK_ne (by omega)]; exact z14)
    · exact (by rw [upK_ne (by omega)]; exact z15)
    · exact (by rw [upK_ne (by omega)]; exact z16)
  refine J_callIK hX _ dX2_init_9 cw_RX2_11 (m_X5_init (b := p + 1) (by rw [upK_eq]; try rfl) hz9 hC5) rfl (Nat.le_of_ble_eq_true rfl) ⟨Nat.le_of_ble_eq_true rfl, by decide⟩ (by decide) (Or.inr ⟨g5, p + 1, (by rw [upK_eq]; decide), by rw [hXK]; exact z1⟩) ⟨(by rw [upK_ne (by omega), hk]; decide), trivial⟩ ⟨(by rw [upK_eq]; decide), ⟨(by rw [upK_ne (by omega), hk]; decide), trivial⟩⟩ (fun r K2 M2 h i hi => by rw [h.2.1]; exact regK_up hi (by decide)) (fun r K2 M9 h9 => ?_)
  obtain ⟨rfl, rfl, fM9, pM9, hC9⟩ := h9
  obtain ⟨pM9_0, pM9_1, pM9_2, pM9_3, pM9_4, pM9_5, pM9_6, pM9_7, pM9_8, pM9_9, pM9_10, pM9_11, pM9_12, pM9_13⟩ := pM9
  have g9 := fun j hj => regK_up (lo := p + 1) (n := 16) (kf := kS) (g5 j hj) (by decide)
  refine J_putR hX (p + 1) fp_RX2_12 dX2_init_12 hXN (by rw [regK_out (by omega), upK_ne (by omega)]; exact hk) rfl (by rw [regK_at (j := 0) (by omega) (by decide)]; decide) hC9 (fun M2 e1 hC12 => ?_)
  subst e1
  refine J_aload_n hX dX2_init_15 rfl ?_
  refine J_aload_n hX dX2_init_16 rfl ?_
  refine J_getq hX (p + 1) fr_RX2_12 dX2_init_17 (by rw [regK_out (by omega), upK_ne (by omega)]; exact hk) rfl (by rw [mset_at (by decide)]; decide) ?_
  refine J_gr hX (p + 2) fr_RX2_18 dX2_init_20 (by rw [regK_at (j := 0) (by omega) (by decide)]; rfl) rfl ?_
  refine J_putR hX (p + 2) fp_RX2_22 dX2_init_23 hXN (by rw [regK_out (by omega), upK_ne (by omega)]; exact hk) rfl (by rw [regK_at (j := 1) (by omega) (by decide)]; decide) hC12 (fun M2 e1 hC23 => ?_)
  subst e1
  refine J_aload_n hX dX2_init_26 rfl ?_
  refine J_bipush hX dX2_init_27 rfl ?_
  refine J_newi hX (p + 17) dX2_init_29 (by decide) (by rw [regK_out (by omega), upK_ne (by omega)]; exact z17) g9 hC23 ⟨(by rw [regK_out (by omega), upK_ne (by omega), hk]; decide), trivial⟩ ⟨(by rw [regK_out (by omega), upK_ne (by omega), hk]; decide), trivial⟩ (by decide) (fun K2 M2 e1 e2 hC29 => ?_)
  subst e1 e2
  have g29 := fun j hj => upK_up (i := p + 17) (k := 1000 + (20 : Int).toNat) (g9 j hj) (by decide)
  refine J_putR hX (p + 17) fp_RX2_23 dX2_init_31 hXN (by rw [upK_ne (by omega), regK_out (by omega), upK_ne (by omega)]; exact hk) rfl (by rw [upK_eq]; decide) hC29 (fun M2 e1 hC31 => ?_)
  subst e1
  refine J_aload_n hX dX2_init_34 rfl ?_
  refine J_bipush hX dX2_init_35 rfl ?_
  refine J_newi hX (p + 18) dX2_init_37 (by decide) (by rw [upK_ne (by omega), regK_out (by omega), upK_ne (by omega)]; exact z18) g29 hC31 ⟨(by rw [upK_ne (by omega), regK_out (by omega), upK_ne (by omega), hk]; decide), trivial⟩ ⟨(by rw [upK_ne (by omega), regK_out (by omega), upK_ne (by omega), hk]; decide), trivial⟩ (by decide) (fun K2 M2 e1 e2 hC37 => ?_)
  subst e1 e2
  have g37 := fun j hj => upK_up (i := p + 18) (k := 1000 + (20 : Int).toNat) (g29 j hj) (by decide)
  refine J_putR hX (p + 18) fp_RX2_27 dX2_init_39 hXN (by rw [upK_ne (by omega), upK_ne (by omega), regK_out (by omega), upK_ne (by omega)]; exact hk) rfl (by rw [upK_eq]; decide) hC37 (fun M2 e1 hC39 => ?_)
  subst e1
  refine J_aload_n hX dX2_init_42 rfl ?_
  refine J_bipush hX dX2_init_43 rfl ?_
  refine J_newi hX (p + 19) dX2_init_45 (by decide) (by rw [upK_ne (by omega), upK_ne (by omega), regK_out (by omega), upK_ne (by omega)]; exact z19) g37 hC39 ⟨(by rw [upK_ne (by omega), upK_ne (by omega), regK_out (by omega), upK_ne (by omega), hk]; decide), trivial⟩ ⟨(by rw [upK_ne (by omega), upK_ne (by omega), regK_out (by omega), upK_ne (by omega), hk]; decide), trivial⟩ (by decide) (fun K2 M2 e1 e2 hC45 => ?_)
  subst e1 e2
  have g45 := fun j hj => upK_up (i := p + 19) (k := 1000 + (20 : Int).toNat) (g37 j hj) (by decide)
  refine J_putR hX (p + 19) fp_RX2_30 dX2_init_47 hXN (by rw [upK_ne (by omega), upK_ne (by omega), upK_ne (by omega), regK_out (by omega), upK_ne (by omega)]; exact hk) rfl (by rw [upK_eq]; decide) hC45 (fun M2 e1 hC47 => ?_)
  subst e1
  refine J_aload_n hX dX2_init_50 rfl ?_
  refine J_bipush hX dX2_init_51 rfl ?_
  refine J_newi hX (p + 20) dX2_init_53 (by decide) (by rw [upK_ne (by omega), upK_ne (by omega), upK_ne (by omega), regK_out (by omega), upK_ne (by omega)]; exact z20) g45 hC47 ⟨(by rw [upK_ne (by omega), upK_ne (by omega), upK_ne (by omega), regK_out (by omega), upK_ne (by omega), hk]; decide), trivial⟩ ⟨(by rw [upK_ne (by omega), upK_ne (by omega), upK_ne (by omega), regK_out (by omega), upK_ne (by omega), hk]; decide), trivial⟩ (by decide) (fun K2 M2 e1 e2 hC53 => ?_)
  subst e1 e2
  have g53 := fun j hj => upK_up (i := p + 20) (k := 1000 + (20 : Int).toNat) (g45 j hj) (by decide)
  refine J_putR hX (p + 20) fp_RX2_33 dX2_init_55 hXN (by rw [upK_ne (by omega), upK_ne (by omega), upK_ne (by omega), upK_ne (by omega), regK_out (by omega), upK_ne (by omega)]; exact hk) rfl (by rw [upK_eq]; decide) hC53 (fun M2 e1 hC55 => ?_)
  subst e1
  refine J_aload_n hX dX2_init_58 rfl ?_
  refine J_bipush hX dX2_init_59 rfl ?_
  refine J_newi hX (p + 21) dX2_init_61 (by decide) (by rw [upK_ne (by omega), upK_ne (by omega), upK_ne (by omega), upK_ne (by omega), regK_out (by omega), upK_ne (by omega)]; exact z21) g53 hC55 ⟨(by rw [upK_ne (by omega), upK_ne (by omega), upK_ne (by omega), upK_ne (by omega), regK_out (by omega), upK_ne (by omega), hk]; decide), trivial⟩ ⟨(by rw [upK_ne (by omega), upK_ne (by omega), upK_ne (by omega), upK_ne (by omega), regK_out (by omega), upK_ne (by omega), hk]; decide), trivial⟩ (by decide) (fun K2 M2 e1 e2 hC61 => ?_)
  subst e1 e2
  have g61 := fun j hj => upK_up (i := p + 21) (k := 1000 + (20 : Int).toNat) (g53 j hj) (by decide)
  refine J_putR hX (p + 21) fp_RX2_36 dX2_init_63 hXN (by rw [upK_ne (by omega), upK_ne (by omega), upK_ne (by omega), upK_ne (by omega), upK_ne (by omega), regK_out (by omega), upK_ne (by omega)]; exact hk) rfl (by rw [upK_eq]; decide) hC61 (fun M2 e1 hC63 => ?_)
  subst e1
  refine J_aload_n hX dX2_init_66 rfl ?_
  refine J_bipush hX dX2_init_67 rfl ?_
  refine J_newi hX (p + 22) dX2_init_69 (by decide) (by rw [upK_ne (by omega), upK_ne (by omega), upK_ne (by omega), upK_ne (by omega), upK_ne (by omega), regK_out (by omega), upK_ne (by omega)]; exact z22) g61 hC63 ⟨(by rw [upK_ne (by omega), upK_ne (by omega), upK_ne (by omega), upK_ne (by omega), upK_ne (by omega), regK_out (by omega), upK_ne (by omega), hk]; decide), trivial⟩ ⟨(by rw [upK_ne (by omega), upK_ne (by omega), upK_ne (by omega), upK_ne (by omega), upK_ne (by omega), regK_out (by omega), upK_ne (by omega), hk]; decide), trivial⟩ (by decide) (fun K2 M2 e1 e2 hC69 => ?_)
  subst e1 e2
  have g69 := fun j hj => upK_up (i := p + 22) (k := 1000 + (20 : Int).toNat) (g61 j hj) (by decide)
  refine J_putR hX (p + 22) fp_RX2_39 dX2_init_71 hXN (by rw [upK_ne (by omega), upK_ne (by omega), upK_ne (by omega), upK_ne (by omega), upK_ne (by omega), upK_ne (by omega), regK_out (by omega), upK_ne (by omega)]; exact hk) rfl (by rw [upK_eq]; decide) hC69 (fun M2 e1 hC71 => ?_)
  subst e1
  refine J_aload_n hX dX2_init_74 rfl ?_
  refine J_bipush hX dX2_init_75 rfl ?_
  refine J_newi hX (p + 23) dX2_init_77 (by decide) (by rw [upK_ne (by omega), upK_ne (by omega), upK_ne (by omega), upK_ne (by omega), upK_ne (by omega), upK_ne (by omega), regK_out (by omega), upK_ne (by omega)]; exact z23) g69 hC71 ⟨(by rw [upK_ne (by omega), upK_ne (by omega), upK_ne (by omega), upK_ne (by omega), upK_ne (by omega), upK_ne (by omega), regK_out (by omega), upK_ne (by omega), hk]; decide), trivial⟩ ⟨(by rw [upK_ne (by omega), upK_ne (by omega), upK_ne (by omega), upK_ne (by omega), upK_ne (by omega), upK_ne (by omega), regK_out (by omega), upK_ne (by omega), hk]; decide), trivial⟩ (by decide) (fun K2 M2 e1 e2 hC77 => ?_)
  subst e1 e2
  have g77 := fun j hj => upK_up (i := p + 23) (k := 1000 + (20 : Int).toNat) (g69 j hj) (by decide)
  refine J_putR hX (p + 23) fp_RX2_42 dX2_init_79 hXN (by rw [upK_ne (by omega), upK_ne (by omega), upK_ne (by omega), upK_ne (by omega), upK_ne (by omega), upK_ne (by omega), upK_ne (by omega), regK_out (by omega), upK_ne (by omega)]; exact hk) rfl (by rw [upK_eq]; decide) hC77 (fun M2 e1 hC79 => ?_)
  subst e1
  refine J_seal (i := p) (k := 2) (by rw [upK_ne (by omega), upK_ne (by omega), upK_ne (by omega), upK_ne (by omega), upK_ne (by omega), upK_ne (by omega), upK_ne (by omega), regK_out (by omega), upK_ne (by omega)]; exact hk) (by decide) (by rw [hXK, hk]; decide) hC79 (fun f o hf hr => ?_) (fun K2 e1 hCz => ?_)
  · have hc : f = 0 ∨ f = 1 ∨ f = 2 ∨ f = 3 ∨ f = 4 ∨ f = 5 ∨ f = 6 ∨ f = 7 ∨ f = 8 ∨ f = 9 ∨ f = 10 := by
      have : nf 2 = 11 := rfl
      omega
    rcases hc with rfl | rfl | rfl | rfl | rfl | rfl | rfl | rfl | rfl | rfl | rfl
    · rw [show (100 + ((0 : Nat) : Int)) = 100 from rfl, mset_nj (by decide), upM_ne (by omega), mset_nj (by decide), upM_ne (by omega), mset_nj (by decide), upM_ne (by omega), mset_nj (by decide), upM_ne (by omega), mset_nj (by decide), upM_ne (by omega), mset_nj (by decide), upM_ne (by omega), mset_nj (by decide), upM_ne (by omega), mset_nj (by decide), mset_at (by decide)]; decide
    · rw [show (100 + ((1 : Nat) : Int)) = 101 from rfl, mset_nj (by decide), upM_ne (by omega), mset_nj (by decide), upM_ne (by omega), mset_nj (by decide), upM_ne (by omega), mset_nj (by decide), upM_ne (by omega), mset_nj (by decide), upM_ne (by omega), mset_nj (by decide), upM_ne (by omega), mset_nj (by decide), upM_ne (by omega), mset_at (by decide)]; decide
    · rw [show (100 + ((2 : Nat) : Int)) = 102 from rfl, mset_nj (by decide), upM_ne (by omega), mset_nj (by decide), upM_ne (by omega), mset_nj (by decide), upM_ne (by omega), mset_nj (by decide), upM_ne (by omega), mset_nj (by decide), upM_ne (by omega), mset_nj (by decide), upM_ne (by omega), mset_at (by decide)]; decide
    · rw [show (100 + ((3 : Nat) : Int)) = 103 from rfl, mset_nj (by decide), upM_ne (by omega), mset_nj (by decide), upM_ne (by omega), mset_nj (by decide), upM_ne (by omega), mset_nj (by decide), upM_ne (by omega), mset_nj (by decide), upM_ne (by omega), mset_at (by decide)]; decide
    · rw [show (100 + ((4 : Nat) : Int)) = 104 from rfl, mset_nj (by decide), upM_ne (by omega), mset_nj (by decide), upM_ne (by omega), mset_nj (by decide), upM_ne (by omega), mset_nj (by decide), upM_ne (by omega), mset_at (by decide)]; decide
    · rw [show (100 + ((5 : Nat) : Int)) = 105 from rfl, mset_nj (by decide), upM_ne (by omega), mset_nj (by decide), upM_ne (by omega), mset_nj (by decide), upM_ne (by omega), mset_at (by decide)]; decide
    · rw [show (100 + ((6 : Nat) : Int)) = 106 from rfl, mset_nj (by decide), upM_ne (by omega), mset_nj (by decide), upM_ne (by omega), mset_at (by decide)]; decide
    · rw [show (100 + ((7 : Nat) : Int)) = 107 from rfl, mset_nj (by decide), upM_ne (by omega), mset_at (by decide)]; decide
    · rw [show (100 + ((8 : Nat) : Int)) = 108 from rfl, mset_at (by decide)]; decide
    · cases hr
    · cases hr
  have hKz : K2 = regK K (p) 24 kP := regK_ext (fun j hj => by
      have hc : j = 0 ∨ j = 1 ∨ j = 2 ∨ j = 3 ∨ j = 4 ∨ j = 5 ∨ j = 6 ∨ j = 7 ∨ j = 8 ∨ j = 9 ∨ j = 10 ∨ j = 11 ∨ j = 12 ∨ j = 13 ∨ j = 14 ∨ j = 15 ∨ j = 16 ∨ j = 17 ∨ j = 18 ∨ j = 19 ∨ j = 20 ∨ j = 21 ∨ j = 22 ∨ j = 23 := by omega
      rcases hc with rfl | rfl | rfl | rfl | rfl | rfl | rfl | rfl | rfl | rfl | rfl | rfl | rfl | rfl | rfl | rfl | rfl | rfl | rfl | rfl | rfl | rfl | rfl | rfl
      · show K2 (p) = _; rw [e1, upK_eq]; try rfl
      · show K2 (p + 1) = _; rw [e1, upK_ne (by omega), upK_ne (by omega), upK_ne (by omega), upK_ne (by omega), upK_ne (by omega), upK_ne (by omega), upK_ne (by omega), upK_ne (by omega), regK_at (j := 0) (by omega) (by decide)]; try rfl
      · show K2 (p + 2) = _; rw [e1, upK_ne (by omega), upK_ne (by omega), upK_ne (by omega), upK_ne (by omega), upK_ne (by omega), upK_ne (by omega), upK_ne (by omega), upK_ne (by omega), regK_at (j := 1) (by omega) (by decide)]; try rfl
      · show K2 (p + 3) = _; rw [e1, upK_ne (by omega), upK_ne (by omega), upK_ne (by omega), upK_ne (by omega), upK_ne (by omega), upK_ne (by omega), upK_ne (by omega), upK_ne (by omega), regK_at (j := 2) (by omega) (by decide)]; try rfl
      · show K2 (p + 4) = _; rw [e1, upK_ne (by omega), upK_ne (by omega), upK_ne (by omega), upK_ne (by omega), upK_ne (by omega), upK_ne (by omega), upK_ne (by omega), upK_ne (by omega), regK_at (j := 3) (by omega) (by decide)]; try rfl
      · show K2 (p + 5) = _; rw [e1, upK_ne (by omega), upK_ne (by omega), upK_ne (by omega), upK_ne (by omega), upK_ne (by omega), upK_ne (by omega), upK_ne (by omega), upK_ne (by omega), regK_at (j := 4) (by omega) (by decide)]; try rfl
      · show K2 (p + 6) = _; rw [e1, upK_ne (by omega), upK_ne (by omega), upK_ne (by omega), upK_ne (by omega), upK_ne (by omega), upK_ne (by omega), upK_ne (by omega), upK_ne (by omega), regK_at (j := 5) (by omega) (by decide)]; try rfl
      · show K2 (p + 7) = _; rw [e1, upK_ne (by omega), upK_ne (by omega), upK_ne (by omega), upK_ne (by omega), upK_ne (by omega), upK_ne (by omega), upK_ne (by omega), upK_ne (by omega), regK_at (j := 6) (by omega) (by decide)]; try rfl
      · show K2 (p + 8) = _; rw [e1, upK_ne (by omega), upK_ne (by omega), upK_ne (by omega), upK_ne (by omega), upK_ne (by omega), upK_ne (by omega), upK_ne (by omega), upK_ne (by omega), regK_at (j := 7) (by omega) (by decide)]; try rfl
      · show K2 (p + 9) = _; rw [e1, upK_ne (by omega), upK_ne (by omega), upK_ne (by omega), upK_ne (by omega), upK_ne (by omega), upK_ne (by omega), upK_ne (by omega), upK_ne (by omega), regK_at (j := 8) (by omega) (by decide)]; try rfl
      · show K2 (p + 10) = _; rw [e1, upK_ne (by omega), upK_ne (by omega), upK_ne (by omega), upK_ne (by omega), upK_ne (by omega), upK_ne (by omega), upK_ne (by omega), upK_ne (by omega), regK_at (j := 9) (by omega) (by decide)]; try rfl
      · show K2 (p + 11) = _; rw [e1, upK_ne (by omega), upK_ne (by omega), upK_ne (by omega), upK_ne (by omega), upK_ne (by omega), upK_ne (by omega), upK_ne (by omega), upK_ne (by omega), regK_at (j := 10) (by omega) (by decide)]; try rfl
      · show K2 (p + 12) = _; rw [e1, upK_ne (by omega), upK_ne (by omega), upK_ne (by omega), upK_ne (by omega), upK_ne (by omega), upK_ne (by omega), upK_ne (by omega), upK_ne (by omega), regK_at (j := 11) (by omega) (by decide)]; try rfl
      · show K2 (p + 13) = _; rw [e1, upK_ne (by omega), upK_ne (by omega), upK_ne (by omega), upK_ne (by omega), upK_ne (by omega), upK_ne (by omega), upK_ne (by omega), upK_ne (by omega), regK_at (j := 12) (by omega) (by decide)]; try rfl
      · show K2 (p + 14) = _; rw [e1, upK_ne (by omega), upK_ne (by omega), upK_ne (by omega), upK_ne (by omega), upK_ne (by omega), upK_ne (by omega), upK_ne (by omega), upK_ne (by omega), regK_at (j := 13) (by omega) (by decide)]; try rfl
      · show K2 (p + 15) = _; rw [e1, upK_ne (by omega), upK_ne (by omega), upK_ne (by omega), upK_ne (by omega), upK_ne (by omega), upK_ne (by omega), upK_ne (by omega), upK_ne (by omega), regK_at (j := 14) (by omega) (by decide)]; try rfl
      · show K2 (p + 16) = _; rw [e1, upK_ne (by omega), upK_ne (by omega), upK_ne (by omega), upK_ne (by omega), upK_ne (by omega), upK_ne (by omega), upK_ne (by omega), upK_ne (by omega), regK_at (j := 15) (by omega) (by decide)]; try rfl
      · show K2 (p + 17) = _; rw [e1, upK_ne (by omega), upK_ne (by omega), upK_ne (by omega), upK_ne (by omega), upK_ne (by omega), upK_ne (by omega), upK_ne (by omega), upK_eq]; try rfl
      · show K2 (p + 18) = _; rw [e1, upK_ne (by omega), upK_ne (by omega), upK_ne (by omega), upK_ne (by omega), upK_ne (by omega), upK_ne (by omega), upK_eq]; try rfl
      · show K2 (p + 19) = _; rw [e1, upK_ne (by omega), upK_ne (by omega), upK_ne (by omega), upK_ne (by omega), upK_ne (by omega), upK_eq]; try rfl
      · show K2 (p + 20) = _; rw [e1, upK_ne (by omega), upK_ne (by omega), upK_ne (by omega), upK_ne (by omega), upK_eq]; try rfl
      · show K2 (p + 21) = _; rw [e1, upK_ne (by omega), upK_ne (by omega), upK_ne (by omega), upK_eq]; try rfl
      · show K2 (p + 22) = _; rw [e1, upK_ne (by omega), upK_ne (by omega), upK_eq]; try rfl
      · show K2 (p + 23) = _; rw [e1, upK_ne (by omega), upK_eq]; try rfl) (fun i hi => by rw [e1, upK_ne (by omega), upK_ne (by omega), upK_ne (by omega), upK_ne (by omega), upK_ne (by omega), upK_ne (by omega), upK_ne (by omega), upK_ne (by omega), regK_out (by omega), upK_ne (by omega)])
  subst hKz
  exact J_vret hX hQ dX2_init_82 ⟨rfl, rfl, fun i hi => by rw [mset_ne (by omega), upM_ne (by omega), mset_ne (by omega), upM_ne (by omega), mset_ne (by omega), upM_ne (by omega), mset_ne (by omega), upM_ne (by omega), mset_ne (by omega), upM_ne (by omega), mset_ne (by omega), upM_ne (by omega), mset_ne (by omega), upM_ne (by omega), mset_ne (by omega), mset_ne (by omega), fM9 _ (by omega), upM_ne (by omega)], ⟨by rw [mset_ne (by omega), upM_ne (by omega), mset_ne (by omega), upM_ne (by omega), mset_ne (by omega), upM_ne (by omega), mset_ne (by omega), upM_ne (by omega), mset_ne (by omega), upM_ne (by omega), mset_ne (by omega), upM_ne (by omega), mset_ne (by omega), upM_ne (by omega), mset_ne (by omega), mset_ne (by omega), pM9_0], by rw [mset_ne (by omega), upM_ne (by omega), mset_ne (by omega), upM_ne (by omega), mset_ne (by omega), upM_ne (by omega), mset_ne (by omega), upM_ne (by omega), mset_ne (by omega), upM_ne (by omega), mset_ne (by omega), upM_ne (by omega), mset_ne (by omega), upM_ne (by omega), mset_ne (by omega), mset_ne (by omega), pM9_1], by rw [mset_ne (by omega), upM_ne (by omega), mset_ne (by omega), upM_ne (by omega), mset_ne (by omega), upM_ne (by omega), mset_ne (by omega), upM_ne (by omega), mset_ne (by omega), upM_ne (by omega), mset_ne (by omega), upM_ne (by omega), mset_ne (by omega), upM_ne (by omega), mset_ne (by omega), mset_ne (by omega), pM9_2, upM_eq]; rfl, by rw [mset_ne (by omega), upM_ne (by omega), mset_ne (by omega), upM_ne (by omega), mset_ne (by omega), upM_ne (by omega), mset_ne (by omega), upM_ne (by omega), mset_ne (by omega), upM_ne (by omega), mset_ne (by omega), upM_ne (by omega), mset_ne (by omega), upM_ne (by omega), mset_ne (by omega), mset_ne (by omega), pM9_3, upM_eq]; rfl, by rw [mset_ne (by omega), upM_ne (by omega), mset_ne (by omega), upM_ne (by omega), mset_ne (by omega), upM_ne (by omega), mset_ne (by omega), upM_ne (by omega), mset_ne (by omega), upM_ne (by omega), mset_ne (by omega), upM_ne (by omega), mset_ne (by omega), upM_ne (by omega), mset_ne (by omega), mset_ne (by omega), pM9_4, upM_eq]; rfl, by rw [mset_ne (by omega), upM_ne (by omega), mset_ne (by omega), upM_ne (by omega), mset_ne (by omega), upM_ne (by omega), mset_ne (by omega), upM_ne (by omega), mset_ne (by omega), upM_ne (by omega), mset_ne (by omega), upM_ne (by omega), mset_ne (by omega), upM_ne (by omega), mset_ne (by omega), mset_ne (by omega), pM9_5], by rw [mset_ne (by omega), upM_ne (by omega), mset_ne (by omega), upM_ne (by omega), mset_ne (by omega), upM_ne (by omega), mset_ne (by omega), upM_ne (by omega), mset_ne (by omega), upM_ne (by omega), mset_ne (by omega), upM_ne (by omega), mset_ne (by omega), upM_ne (by omega), mset_ne (by omega), mset_ne (by omega), pM9_6], by rw [mset_ne (by omega), upM_ne (by omega), mset_ne (by omega), upM_ne (by omega), mset_ne (by omega), upM_ne (by omega), mset_ne (by omega), upM_ne (by omega), mset_ne (by omega), upM_ne (by omega), mset_ne (by omega), upM_ne (by omega), mset_ne (by omega), upM_ne (by omega), mset_ne (by omega), mset_ne (by omega), pM9_7], by rw [mset_ne (by omega), upM_ne (by omega), mset_ne (by omega), upM_ne (by omega), mset_ne (by omega), upM_ne (by omega), mset_ne (by omega), upM_ne (by omega), mset_ne (by omega), upM_ne (by omega), mset_ne (by omega), upM_ne (by omega), mset_ne (by omega), upM_ne (by omega), mset_ne (by omega), mset_ne (by omega), pM9_8], by rw [mset_ne (by omega), upM_ne (by omega), mset_ne (by omega), upM_ne (by omega), mset_ne (by omega), upM_ne (by omega), mset_ne (by omega), upM_ne (by omega), mset_ne (by omega), upM_ne (by omega), mset_ne (by omega), upM_ne (by omega), mset_ne (by omega), upM_ne (by omega), mset_ne (by omega), mset_ne (by omega), pM9_9], by rw [mset_ne (by omega), upM_ne (by omega), mset_ne (by omega), upM_ne (by omega), mset_ne (by omega), upM_ne (by omega), mset_ne (by omega), upM_ne (by omega), mset_ne (by omega), upM_ne (by omega), mset_ne (by omega), upM_ne (by omega), mset_ne (by omega), upM_ne (by omega), mset_ne (by omega), mset_ne (by omega), pM9_10], by rw [mset_ne (by omega), upM_ne (by omega), mset_ne (by omega), upM_ne (by omega), mset_ne (by omega), upM_ne (by omega), mset_ne (by omega), upM_ne (by omega), mset_ne (by omega), upM_ne (by omega), mset_ne (by omega), upM_ne (by omega), mset_ne (by omega), upM_ne (by omega), mset_ne (by omega), mset_ne (by omega), pM9_11], by rw [mset_ne (by omega), upM_ne (by omega), mset_ne (by omega), upM_ne (by omega), mset_ne (by omega), upM_ne (by omega), mset_ne (by omega), upM_ne (by omega), mset_ne (by omega), upM_ne (by omega), mset_ne (by omega), upM_ne (by omega), mset_ne (by omega), upM_ne (by omega), mset_ne (by omega), mset_ne (by omega), pM9_12], by rw [mset_ne (by omega), upM_ne (by omega), mset_ne (by omega), upM_ne (by omega), mset_ne (by omega), upM_ne (by omega), mset_ne (by omega), upM_ne (by omega), mset_ne (by omega), upM_ne (by omega), mset_ne (by omega), upM_ne (by omega), mset_ne (by omega), upM_ne (by omega), mset_ne (by omega), mset_ne (by omega), pM9_13]⟩, hCz⟩ (by decide) (by decide)
set_option maxHeartbeats 4000000 in
set_option maxRecDepth 100000 in
theorem m_X7_init {E : EE} {K : Nat → Nat} {M : MM} {v : Nat} (hk : K (v) = 100 + 7) (hz : ∀ j, 1 ≤ j → j < 27 → K (v + j) = 0) (hC : Cl K M) : Cn E 4 yX7_init cX7_init 1 none [.ref (v)] K M (fun r K' M' => r = none ∧ K' = regK K (v) 27 kV ∧ (∀ i, i < v ∨ v + 27 ≤ i → M' i = M i) ∧ (M' (v + 2) 3 = 80 ∧ M' (v + 2) 4 = 40 ∧ M' (v + 2) 5 = 0 ∧ M' (v + 2) 6 = 0 ∧ M' (v + 2) 7 = 0 ∧ M' (v + 3) 0 = 0 ∧ M' (v + 13) 0 = 0 ∧ M' (v + 13) 1 = 0 ∧ M' (v + 13) 2 = -5 ∧ M' (v + 13) 3 = 5 ∧ M' (v + 17) 0 = 20 ∧ M' (v + 17) 1 = 1 ∧ M' (v + 17) 2 = 4 ∧ M' (v + 17) 3 = 10) ∧ Cl K' M') 26 784 := by
  refine Cn_ofC RX7 (plainFor_of_name (by decide)) rfl (Nat.le_of_ble_eq_true rfl) (fun X hX hQ hXK hXN0 => ?_)
  have hXN : XN X = "<init>" := hXN0
  have z1 : K (v + 1) = 0 := hz 1 (by decide) (by decide)
  have z2 : K (v + 2) = 0 := hz 2 (by decide) (by decide)
  have z3 : K (v + 3) = 0 := hz 3 (by decide) (by decide)
  have z4 : K (v + 4) = 0 := hz 4 (by decide) (by decide)
  have z5 : K (v + 5) = 0 := hz 5 (by decide) (by decide)
  have z6 : K (v + 6) = 0 := hz 6 (by decide) (by decide)
  have z7 : K (v + 7) = 0 := hz 7 (by decide) (by decide)
  have z8 : K (v + 8) = 0 := hz 8 (by decide) (by decide)
  have z9 : K (v + 9) = 0 := hz 9 (by decide) (by decide)
  have z10 : K (v + 10) = 0 := hz 10 (by decide) (by decide)
  have z11 : K (v + 11) = 0 := hz 11 (by decide) (by decide)
  have z12 : K (v + 12) = 0 := hz 12 (by decide) (by decide)
  have z13 : K (v + 13) = 0 := hz 13 (by decide) (by decide)
  have z14 : K (v + 14) = 0 := hz 14 (by decide) (by decide)
  have z15 : K (v + 15) = 0 := hz 15 (by decide) (by decide)
  have z16 : K (v + 16) = 0 := hz 16 (by decide) (by decide)
  have z17 : K (v + 17) = 0 := hz 17 (by decide) (by decide)
  have z18 : K (v + 18) = 0 := hz 18 (by decide) (by decide)
  have z19 : K (v + 19) = 0 := hz 19 (by decide) (by decide)
  have z20 : K (v + 20) = 0 := hz 20 (by decide) (by decide)
  have z21 : K (v + 21) = 0 := hz 21 (by decide) (by decide)
  have z22 : K (v + 22) = 0 := hz 22 (by decide) (by decide)
  have z23 : K (v + 23) = 0 := hz 23 (by decide) (by decide)
  have z24 : K (v + 24) = 0 := hz 24 (by decide) (by decide)
  have z25 : K (v + 25) = 0 := hz 25 (by decide) (by decide)
  have z26 : K (v + 26) = 0 := hz 26 (by decide) (by decide)
  have g0 : ∀ j, XK X j ≠ 0 → K j ≠ 0 := fun j hj => by rw [← hXK]; exact hj
  refine J_aload_n hX dX7_init_0 rfl ?_
  refine J_init0 hX dX7_init_1 ml_RX7_3 (by decide) (Nat.le_of_ble_eq_true rfl) ?_
  refine J_aload_n hX dX7_init_4 rfl ?_
  refine J_new hX (v + 1) fn_RX7_9 dX7_init_5 z1 g0 hC ⟨(by rw [hk]; decide), trivial⟩ ⟨(by rw [hk]; decide), trivial⟩ (by decide) (fun K2 M2 e1 e2 hC5 => ?_)
  subst e1 e2
  have g5 := fun j hj => upK_up (i := v + 1) (k := 100 + 2) (g0 j hj) (by decide)
  refine J_dup hX dX7_init_8 rfl ?_
  have hz9 : ∀ q : Nat, 1 ≤ q → q < 24 → (upK (K) (v + 1) (100 + 2)) (v + 1 + q) = 0 := fun q q0 q1 => by
    have hc : q = 1 ∨ q = 2 ∨ q = 3 ∨ q = 4 ∨ q = 5 ∨ q = 6 ∨ q = 7 ∨ q = 8 ∨ q = 9 ∨ q = 10 ∨ q = 11 ∨ q = 12 ∨ q = 13 ∨ q = 14 ∨ q = 15 ∨ q = 16 ∨ q = 17 ∨ q = 18 ∨ q = 19 ∨ q = 20 ∨ q = 21 ∨ q = 22 ∨ q = 23 := by omega
    rcases hc with rfl | rfl | rfl | rfl | rfl | rfl | rfl | rfl | rfl | rfl | rfl | rfl | rfl | rfl | rfl | rfl | rfl | rfl | rfl | rfl | rfl | rfl | rfl
    · exact (by rw [upK_ne (by omega)]; exact z2)
    · exact (by rw [upK_ne (by omega)]; exact z3)
    · exact (by rw [upK_ne (by omega)]; exact z4)
    · exact (by rw [upK_ne (by omega)]; exact z5)
    · exact (by rw [upK_ne (by omega)]; exact z6)
    · exact (by rw [upK_ne (by omega)]; exact z7)
    · exact (by rw [upK_ne (by omega)]; exact z8)
    · exact (by rw [upK_ne (by omega)]; exact z9)
    · exact (by rw [upK_ne (by omega)]; exact z10)
    · exact (by rw [upK_ne (by omega)]; exact z11)
    · exact (by rw [upK_ne (by omega)]; exact z12)
    · exact (by rw [upK_ne (by omega)]; exact z13)
    · exact (by rw [upK_ne (by omega)]; exact z14)
    · exact (by rw [upK_ne (by omega)]; exact z15)
    · exact (by rw [upK_ne (by omega)]; exact z16)
    · exact (by rw [upK_ne (by omega)]; exact z17)
    · exact (by rw [upK_ne (by omega)]; exact z18)
    · exact (by rw [upK_ne (by omega)]; exact z19)
    · exact (by rw [upK_ne (by omega)]; exact z20)
    · exact (by rw [upK_ne (by omega)]; exact z21)
    · exact (by rw [upK_ne (by omega)]; exact z22)
    · exact (by rw [upK_ne (by omega)]; exact z23)
    · exact (by rw [upK_ne (by omega)]; exact z24)
  refine J_callINK hX _ dX7_init_9 cw_RX7_11 (m_X2_init (p := v + 1) (by rw [upK_eq]; try rfl) hz9 hC5) rfl (Nat.le_of_ble_eq_true rfl) ⟨Nat.le_of_ble_eq_true rfl, by decide⟩ (by decide) (Or.inr ⟨g5, v + 1, (by rw [upK_eq]; decide), by rw [hXK]; exact z1⟩) ⟨(by rw [upK_ne (by omega), hk]; decide), trivial⟩ ⟨(by rw [upK_eq]; decide), ⟨(by rw [upK_ne (by omega), hk]; decide), trivial⟩⟩ (fun r K2 M2 h i hi => by rw [h.2.1]; exact regK_up hi (by decide)) (fun r K2 M9 h9 => ?_)
  obtain ⟨rfl, rfl, fM9, pM9, hC9⟩ := h9
  obtain ⟨pM9_0, pM9_1, pM9_2, pM9_3, pM9_4, pM9_5, pM9_6, pM9_7, pM9_8, pM9_9, pM9_10, pM9_11, pM9_12, pM9_13⟩ := pM9
  have g9 := fun j hj => regK_up (lo := v + 1) (n := 24) (kf := kP) (g5 j hj) (by decide)
  refine J_putR hX (v + 1) fp_RX7_12 dX7_init_12 hXN (by rw [regK_out (by omega), upK_ne (by omega)]; exact hk) rfl (by rw [regK_at (j := 0) (by omega) (by decide)]; decide) hC9 (fun M2 e1 hC12 => ?_)
  subst e1
  refine J_aload_n hX dX7_init_15 rfl ?_
  refine J_aload_n hX dX7_init_16 rfl ?_
  refine J_getq hX (v + 1) fr_RX7_12 dX7_init_17 (by rw [regK_out (by omega), upK_ne (by omega)]; exact hk) rfl (by rw [mset_at (by decide)]; decide) ?_
  refine J_gr hX (v + 2) fr_RX7_18 dX7_init_20 (by rw [regK_at (j := 0) (by omega) (by decide)]; rfl) rfl ?_
  refine J_putR hX (v + 2) fp_RX7_22 dX7_init_23 hXN (by rw [regK_out (by omega), upK_ne (by omega)]; exact hk) rfl (by rw [regK_at (j := 1) (by omega) (by decide)]; decide) hC12 (fun M2 e1 hC23 => ?_)
  subst e1
  refine J_aload_n hX dX7_init_26 rfl ?_
  refine J_aload_n hX dX7_init_27 rfl ?_
  refine J_getq hX (v + 2) fr_RX7_22 dX7_init_28 (by rw [regK_out (by omega), upK_ne (by omega)]; exact hk) rfl (by rw [mset_at (by decide)]; decide) ?_
  refine J_gr hX (v + 3) fr_RX7_23 dX7_init_31 (by rw [regK_at (j := 1) (by omega) (by decide)]; rfl) rfl ?_
  refine J_putR hX (v + 3) fp_RX7_29 dX7_init_34 hXN (by rw [regK_out (by omega), upK_ne (by omega)]; exact hk) rfl (by rw [regK_at (j := 2) (by omega) (by decide)]; decide) hC23 (fun M2 e1 hC34 => ?_)
  subst e1
  refine J_aload_n hX dX7_init_37 rfl ?_
  refine J_sipush hX dX7_init_38 rfl ?_
  refine J_newi hX (v + 25) dX7_init_41 (by decide) (by rw [regK_out (by omega), upK_ne (by omega)]; exact z25) g9 hC34 ⟨(by rw [regK_out (by omega), upK_ne (by omega), hk]; decide), trivial⟩ ⟨(by rw [regK_out (by omega), upK_ne (by omega), hk]; decide), trivial⟩ (by decide) (fun K2 M2 e1 e2 hC41 => ?_)
  subst e1 e2
  have g41 := fun j hj => upK_up (i := v + 25) (k := 1000 + (200 : Int).toNat) (g9 j hj) (by decide)
  refine J_putR hX (v + 25) fp_RX7_30 dX7_init_43 hXN (by rw [upK_ne (by omega), regK_out (by omega), upK_ne (by omega)]; exact hk) rfl (by rw [upK_eq]; decide) hC41 (fun M2 e1 hC43 => ?_)
  subst e1
  refine J_aload_n hX dX7_init_46 rfl ?_
  refine J_sipush hX dX7_init_47 rfl ?_
  refine J_newi hX (v + 26) dX7_init_50 (by decide) (by rw [upK_ne (by omega), regK_out (by omega), upK_ne (by omega)]; exact z26) g41 hC43 ⟨(by rw [upK_ne (by omega), regK_out (by omega), upK_ne (by omega), hk]; decide), trivial⟩ ⟨(by rw [upK_ne (by omega), regK_out (by omega), upK_ne (by omega), hk]; decide), trivial⟩ (by decide) (fun K2 M2 e1 e2 hC50 => ?_)
  subst e1 e2
  have g50 := fun j hj => upK_up (i := v + 26) (k := 1000 + (200 : Int).toNat) (g41 j hj) (by decide)
  refine J_putR hX (v + 26) fp_RX7_34 dX7_init_52 hXN (by rw [upK_ne (by omega), upK_ne (by omega), regK_out (by omega), upK_ne (by omega)]; exact hk) rfl (by rw [upK_eq]; decide) hC50 (fun M2 e1 hC52 => ?_)
  subst e1
  refine J_seal (i := v) (k := 7) (by rw [upK_ne (by omega), upK_ne (by omega), regK_out (by omega), upK_ne (by omega)]; exact hk) (by decide) (by rw [hXK, hk]; decide) hC52 (fun f o hf hr => ?_) (fun K2 e1 hCz => ?_)
  · have hc : f = 0 ∨ f = 1 ∨ f = 2 ∨ f = 3 ∨ f = 4 ∨ f = 5 ∨ f = 6 ∨ f = 7 ∨ f = 8 ∨ f = 9 := by
      have : nf 7 = 10 := rfl
      omega
    rcases hc with rfl | rfl | rfl | rfl | rfl | rfl | rfl | rfl | rfl | rfl
    · rw [show (100 + ((0 : Nat) : Int)) = 100 from rfl, mset_nj (by decide), upM_ne (by omega), mset_nj (by decide), upM_ne (by omega), mset_nj (by decide), mset_nj (by decide), mset_at (by decide)]; decide
    · rw [show (100 + ((1 : Nat) : Int)) = 101 from rfl, mset_nj (by decide), upM_ne (by omega), mset_nj (by decide), upM_ne (by omega), mset_nj (by decide), mset_at (by decide)]; decide
    · rw [show (100 + ((2 : Nat) : Int)) = 102 from rfl, mset_nj (by decide), upM_ne (by omega), mset_nj (by decide), upM_ne (by omega), mset_at (by decide)]; decide
    · cases hr
    · cases hr
    · cases hr
    · cases hr
    · rw [show (100 + ((7 : Nat) : Int)) = 107 from rfl, mset_nj (by decide), upM_ne (by omega), mset_at (by decide)]; decide
    · rw [show (100 + ((8 : Nat) : Int)) = 108 from rfl, mset_at (by decide)]; decide
    · cases hr
  have hKz : K2 = regK K (v) 27 kV := regK_ext (fun j hj => by
      have hc : j = 0 ∨ j = 1 ∨ j = 2 ∨ j = 3 ∨ j = 4 ∨ j = 5 ∨ j = 6 ∨ j = 7 ∨ j = 8 ∨ j = 9 ∨ j = 10 ∨ j = 11 ∨ j = 12 ∨ j = 13 ∨ j = 14 ∨ j = 15 ∨ j = 16 ∨ j = 17 ∨ j = 18 ∨ j = 19 ∨ j = 20 ∨ j = 21 ∨ j = 22 ∨ j = 23 ∨ j = 24 ∨ j = 25 ∨ j = 26 := by omega
      rcases hc with rfl | rfl | rfl | rfl | rfl | rfl | rfl | rfl | rfl | rfl | rfl | rfl | rfl | rfl | rfl | rfl | rfl | rfl | rfl | rfl | rfl | rfl | rfl | rfl | rfl | rfl | rfl
      · show K2 (v) = _; rw [e1, upK_eq]; try rfl
      · show K2 (v + 1) = _; rw [e1, upK_ne (by omega), upK_ne (by omega), upK_ne (by omega), regK_at (j := 0) (by omega) (by decide)]; try rfl
      · show K2 (v + 2) = _; rw [e1, upK_ne (by omega), upK_ne (by omega), upK_ne (by omega), regK_at (j := 1) (by omega) (by decide)]; try rfl
      · show K2 (v + 3) = _; rw [e1, upK_ne (by omega), upK_ne (by omega), upK_ne (by omega), regK_at (j := 2) (by omega) (by decide)]; try rfl
      · show K2 (v + 4) = _; rw [e1, upK_ne (by omega), upK_ne (by omega), upK_ne (by omega), regK_at (j := 3) (by omega) (by decide)]; try rfl
      · show K2 (v + 5) = _; rw [e1, upK_ne (by omega), upK_ne (by omega), upK_ne (by omega), regK_at (j := 4) (by omega) (by decide)]; try rfl
      · show K2 (v + 6) = _; rw [e1, upK_ne (by omega), upK_ne (by omega), upK_ne (by omega), regK_at (j := 5) (by omega) (by decide)]; try rfl
      · show K2 (v + 7) = _; rw [e1, upK_ne (by omega), upK_ne (by omega), upK_ne (by omega), regK_at (j := 6) (by omega) (by decide)]; try rfl
      · show K2 (v + 8) = _; rw [e1, upK_ne (by omega), upK_ne (by omega), upK_ne (by omega), regK_at (j := 7) (by omega) (by decide)]; try rfl
      · show K2 (v + 9) = _; rw [e1, upK_ne (by omega), upK_ne (by omega), upK_ne (by omega), regK_at (j := 8) (by omega) (by decide)]; try rfl
      · show K2 (v + 10) = _; rw [e1, upK_ne (by omega), upK_ne (by omega), upK_ne (by omega), regK_at (j := 9) (by omega) (by decide)]; try rfl
      · show K2 (v + 11) = _; rw [e1, upK_ne (by omega), upK_ne (by omega), upK_ne (by omega), regK_at (j := 10) (by omega) (by decide)]; try rfl
      · show K2 (v + 12) = _; rw [e1, upK_ne (by omega), upK_ne (by omega), upK_ne (by omega), regK_at (j := 11) (by omega) (by decide)]; try rfl
      · show K2 (v + 13) = _; rw [e1, upK_ne (by omega), upK_ne (by omega), upK_ne (by omega), regK_at (j := 12) (by omega) (by decide)]; try rfl
      · show K2 (v + 14) = _; rw [e1, upK_ne (by omega), upK_ne (by omega), upK_ne (by omega), regK_at (j := 13) (by omega) (by decide)]; try rfl
      · show K2 (v + 15) = _; rw [e1, upK_ne (by omega), upK_ne (by omega), upK_ne (by omega), regK_at (j := 14) (by omega) (by decide)]; try rfl
      · show K2 (v + 16) = _; rw [e1, upK_ne (by omega), upK_ne (by omega), upK_ne (by omega), regK_at (j := 15) (by omega) (by decide)]; try rfl
      · show K2 (v + 17) = _; rw [e1, upK_ne (by omega), upK_ne (by omega), upK_ne (by omega), regK_at (j := 16) (by omega) (by decide)]; try rfl
      · show K2 (v + 18) = _; rw [e1, upK_ne (by omega), upK_ne (by omega), upK_ne (by omega), regK_at (j := 17) (by omega) (by decide)]; try rfl
      · show K2 (v + 19) = _; rw [e1, upK_ne (by omega), upK_ne (by omega), upK_ne (by omega), regK_at (j := 18) (by omega) (by decide)]; try rfl
      · show K2 (v + 20) = _; rw [e1, upK_ne (by omega), upK_ne (by omega), upK_ne (by omega), regK_at (j := 19) (by omega) (by decide)]; try rfl
      · show K2 (v + 21) = _; rw [e1, upK_ne (by omega), upK_ne (by omega), upK_ne (by omega), regK_at (j := 20) (by omega) (by decide)]; try rfl
      · show K2 (v + 22) = _; rw [e1, upK_ne (by omega), upK_ne (by omega), upK_ne (by omega), regK_at (j := 21) (by omega) (by decide)]; try rfl
      · show K2 (v + 23) = _; rw [e1, upK_ne (by omega), upK_ne (by omega), upK_ne (by omega), regK_at (j := 22) (by omega) (by decide)]; try rfl
      · show K2 (v + 24) = _; rw [e1, upK_ne (by omega), upK_ne (by omega), upK_ne (by omega), regK_at (j := 23) (by omega) (by decide)]; try rfl
      · show K2 (v + 25) = _; rw [e1, upK_ne (by omega), upK_ne (by omega), upK_eq]; try rfl
      · show K2 (v + 26) = _; rw [e1, upK_ne (by omega), upK_eq]; try rfl) (fun i hi => by rw [e1, upK_ne (by omega), upK_ne (by omega), upK_ne (by omega), regK_out (by omega), upK_ne (by omega)])
  subst hKz
  exact J_vret hX hQ dX7_init_55 ⟨rfl, rfl, fun i hi => by rw [mset_ne (by omega), upM_ne (by omega), mset_ne (by omega), upM_ne (by omega), mset_ne (by omega), mset_ne (by omega), mset_ne (by omega), fM9 _ (by omega), upM_ne (by omega)], ⟨by rw [mset_ne (by omega), upM_ne (by omega), mset_ne (by omega), upM_ne (by omega), mset_ne (by omega), mset_ne (by omega), mset_ne (by omega), pM9_0], by rw [mset_ne (by omega), upM_ne (by omega), mset_ne (by omega), upM_ne (by omega), mset_ne (by omega), mset_ne (by omega), mset_ne (by omega), pM9_1], by rw [mset_ne (by omega), upM_ne (by omega), mset_ne (by omega), upM_ne (by omega), mset_ne (by omega), mset_ne (by omega), mset_ne (by omega), pM9_2], by rw [mset_ne (by omega), upM_ne (by omega), mset_ne (by omega), upM_ne (by omega), mset_ne (by omega), mset_ne (by omega), mset_ne (by omega), pM9_3], by rw [mset_ne (by omega), upM_ne (by omega), mset_ne (by omega), upM_ne (by omega), mset_ne (by omega), mset_ne (by omega), mset_ne (by omega), pM9_4], by rw [mset_ne (by omega), upM_ne (by omega), mset_ne (by omega), upM_ne (by omega), mset_ne (by omega), mset_ne (by omega), mset_ne (by omega), pM9_5], by rw [mset_ne (by omega), upM_ne (by omega), mset_ne (by omega), upM_ne (by omega), mset_ne (by omega), mset_ne (by omega), mset_ne (by omega), pM9_6], by rw [mset_ne (by omega), upM_ne (by omega), mset_ne (by omega), upM_ne (by omega), mset_ne (by omega), mset_ne (by omega), mset_ne (by omega), pM9_7], by rw [mset_ne (by omega), upM_ne (by omega), mset_ne (by omega), upM_ne (by omega), mset_ne (by omega), mset_ne (by omega), mset_ne (by omega), pM9_8], by rw [mset_ne (by omega), upM_ne (by omega), mset_ne (by omega), upM_ne (by omega), mset_ne (by omega), mset_ne (by omega), mset_ne (by omega), pM9_9], by rw [mset_ne (by omega), upM_ne (by omega), mset_ne (by omega), upM_ne (by omega), mset_ne (by omega), mset_ne (by omega), mset_ne (by omega), pM9_10], by rw [mset_ne (by omega), upM_ne (by omega), mset_ne (by omega), upM_ne (by omega), mset_ne (by omega), mset_ne (by omega), mset_ne (by omega), pM9_11], by rw [mset_ne (by omega), upM_ne (by omega), mset_ne (by omega), upM_ne (by omega), mset_ne (by omega), mset_ne (by omega), mset_ne (by omega), pM9_12], by rw [mset_ne (by omega), upM_ne (by omega), mset_ne (by omega), upM_ne (by omega), mset_ne (by omega), mset_ne (by omega), mset_ne (by omega), pM9_13]⟩, hCz⟩ (by decide) (by decide)
set_option maxHeartbeats 4000000 in
set_option maxRecDepth 100000 in
theorem m_X1_init {E : EE} {K : Nat → Nat} {M : MM} {h : Nat} (hE : ∀ U, SF E U → va_AO RX5 U) (hk : K (h) = 100 + 1) (hz : ∀ j, 1 ≤ j → j < 2 → K (h + j) = 0) (hC : Cl K M) : Cn E 1 yX1_init cX1_init 1 none [.ref (h)] K M (fun r K' M' => r = none ∧ K' = regK K (h) 2 kH ∧ (∀ i, i < h ∨ h + 2 ≤ i → M' i = M i) ∧ (M' (h) 0 = M (h) 0) ∧ Cl K' M') 1 4 := by
  refine Cn_ofC RX1 (plainFor_of_name (by decide)) rfl (Nat.le_of_ble_eq_true rfl) (fun X hX hQ hXK hXN0 => ?_)
  have hXN : XN X = "<init>" := hXN0
  have z1 : K (h + 1) = 0 := hz 1 (by decide) (by decide)
  have g0 : ∀ j, XK X j ≠ 0 → K j ≠ 0 := fun j hj => by rw [← hXK]; exact hj
  refine J_aload_n hX dX1_init_0 rfl ?_
  refine J_init0 hX dX1_init_1 ml_RX1_3 (by decide) (Nat.le_of_ble_eq_true rfl) ?_
  refine J_aload_n hX dX1_init_4 rfl ?_
  refine J_iconst hX dX1_init_5 ?_
  refine J_newq hX (h + 1) hE cl_RX1_9 dX1_init_6 z1 g0 hC ⟨(by rw [hk]; decide), trivial⟩ ⟨(by rw [hk]; decide), trivial⟩ (by decide) (fun K2 M2 e1 e2 hC6 => ?_)
  subst e1 e2
  have g6 := fun j hj => upK_up (i := h + 1) (k := 10) (g0 j hj) (by decide)
  refine J_putR hX (h + 1) fp_RX1_11 dX1_init_9 hXN (by rw [upK_ne (by omega)]; exact hk) rfl (by rw [upK_eq]; decide) hC6 (fun M2 e1 hC9 => ?_)
  subst e1
  refine J_seal (i := h) (k := 1) (by rw [upK_ne (by omega)]; exact hk) (by decide) (by rw [hXK, hk]; decide) hC9 (fun f o hf hr => ?_) (fun K2 e1 hCz => ?_)
  · have hc : f = 0 ∨ f = 1 := by
      have : nf 1 = 2 := rfl
      omega
    rcases hc with rfl | rfl
    · cases hr
    · rw [show (100 + ((1 : Nat) : Int)) = 101 from rfl, mset_at (by decide)]; decide
  have hKz : K2 = regK K (h) 2 kH := regK_ext (fun j hj => by
      have hc : j = 0 ∨ j = 1 := by omega
      rcases hc with rfl | rfl
      · show K2 (h) = _; rw [e1, upK_eq]; try rfl
      · show K2 (h + 1) = _; rw [e1, upK_ne (by omega), upK_eq]; try rfl) (fun i hi => by rw [e1, upK_ne (by omega), upK_ne (by omega)])
  subst hKz
  exact J_vret hX hQ dX1_init_12 ⟨rfl, rfl, fun i hi => by rw [mset_ne (by omega), upM_ne (by omega)], by rw [mset_nj (by decide), upM_ne (by omega)], hCz⟩ (by decide) (by decide)
set_option maxHeartbeats 4000000 in
set_option maxRecDepth 100000 in
theorem m_X4_init {E : EE} {K : Nat → Nat} {M : MM} {c : Nat} (hk : K (c) = 100 + 4) (hz : ∀ j, 1 ≤ j → j < 3 → K (c + j) = 0) (hC : Cl K M) : Cn E 1 yX4_init cX4_init 1 none [.ref (c)] K M (fun r K' M' => r = none ∧ K' = regK K (c) 3 kW ∧ (∀ i, i < c ∨ c + 3 ≤ i → M' i = M i) ∧ (M' (c) 0 = M (c) 0 ∧ M' (c) 3 = M (c) 3 ∧ M' (c) 4 = M (c) 4) ∧ Cl K' M') 2 156 := by
  refine Cn_ofC RX4 (plainFor_of_name (by decide)) rfl (Nat.le_of_ble_eq_true rfl) (fun X hX hQ hXK hXN0 => ?_)
  have hXN : XN X = "<init>" := hXN0
  have z1 : K (c + 1) = 0 := hz 1 (by decide) (by decide)
  have z2 : K (c + 2) = 0 := hz 2 (by decide) (by decide)
  have g0 : ∀ j, XK X j ≠ 0 → K j ≠ 0 := fun j hj => by rw [← hXK]; exact hj
  refine J_aload_n hX dX4_init_0 rfl ?_
  refine J_init0 hX dX4_init_1 ml_RX4_3 (by decide) (Nat.le_of_ble_eq_true rfl) ?_
  refine J_aload_n hX dX4_init_4 rfl ?_
  refine J_sipush hX dX4_init_5 rfl ?_
  refine J_newi hX (c + 1) dX4_init_8 (by decide) z1 g0 hC ⟨(by rw [hk]; decide), trivial⟩ ⟨(by rw [hk]; decide), trivial⟩ (by decide) (fun K2 M2 e1 e2 hC8 => ?_)
  subst e1 e2
  have g8 := fun j hj => upK_up (i := c + 1) (k := 1000 + (150 : Int).toNat) (g0 j hj) (by decide)
  refine J_putR hX (c + 1) fp_RX4_9 dX4_init_10 hXN (by rw [upK_ne (by omega)]; exact hk) rfl (by rw [upK_eq]; decide) hC8 (fun M2 e1 hC10 => ?_)
  subst e1
  refine J_aload_n hX dX4_init_13 rfl ?_
  refine J_bipush hX dX4_init_14 rfl ?_
  refine J_newi hX (c + 2) dX4_init_16 (by decide) (by rw [upK_ne (by omega)]; exact z2) g8 hC10 ⟨(by rw [upK_ne (by omega), hk]; decide), trivial⟩ ⟨(by rw [upK_ne (by omega), hk]; decide), trivial⟩ (by decide) (fun K2 M2 e1 e2 hC16 => ?_)
  subst e1 e2
  have g16 := fun j hj => upK_up (i := c + 2) (k := 1000 + (6 : Int).toNat) (g8 j hj) (by decide)
  refine J_putR hX (c + 2) fp_RX4_15 dX4_init_18 hXN (by rw [upK_ne (by omega), upK_ne (by omega)]; exact hk) rfl (by rw [upK_eq]; decide) hC16 (fun M2 e1 hC18 => ?_)
  subst e1
  refine J_seal (i := c) (k := 4) (by rw [upK_ne (by omega), upK_ne (by omega)]; exact hk) (by decide) (by rw [hXK, hk]; decide) hC18 (fun f o hf hr => ?_) (fun K2 e1 hCz => ?_)
  · have hc : f = 0 ∨ f = 1 ∨ f = 2 ∨ f = 3 ∨ f = 4 := by
      have : nf 4 = 5 := rfl
      omega
    rcases hc with rfl | rfl | rfl | rfl | rfl
    · cases hr
    · rw [show (100 + ((1 : Nat) : Int)) = 101 from rfl, mset_nj (by decide), upM_ne (by omega), mset_at (by decide)]; decide
    · rw [show (100 + ((2 : Nat) : Int)) = 102 from rfl, mset_at (by decide)]; decide
    · cases hr
    · cases hr
  have hKz : K2 = regK K (c) 3 kW := regK_ext (fun j hj => by
      have hc : j = 0 ∨ j = 1 ∨ j = 2 := by omega
      rcases hc with rfl | rfl | rfl
      · show K2 (c) = _; rw [e1, upK_eq]; try rfl
      · show K2 (c + 1) = _; rw [e1, upK_ne (by omega), upK_ne (by omega), upK_eq]; try rfl
      · show K2 (c + 2) = _; rw [e1, upK_ne (by omega), upK_eq]; try rfl) (fun i hi => by rw [e1, upK_ne (by omega), upK_ne (by omega), upK_ne (by omega)])
  subst hKz
  exact J_vret hX hQ dX4_init_21 ⟨rfl, rfl, fun i hi => by rw [mset_ne (by omega), upM_ne (by omega), mset_ne (by omega), upM_ne (by omega)], ⟨by rw [mset_nj (by decide), upM_ne (by omega), mset_nj (by decide), upM_ne (by omega)], by rw [mset_nj (by decide), upM_ne (by omega), mset_nj (by decide), upM_ne (by omega)], by rw [mset_nj (by decide), upM_ne (by omega), mset_nj (by decide), upM_ne (by omega)]⟩, hCz⟩ (by decide) (by decide)
set_option maxHeartbeats 4000000 in
set_option maxRecDepth 100000 in
theorem m_X9_init {E : EE} {K : Nat → Nat} {M : MM} {x : Nat} (hE : ∀ U, SF E U → va_AO RX5 U) (hk : K (x) = 100 + 8) (hz : ∀ j, 1 ≤ j → j < 60 → K (x + j) = 0) (hC : Cl K M) : Cn E 5 yX9_init cX9_init 1 none [.ref (x)] K M (fun r K' M' => r = none ∧ K' = regK K (x) 60 kX ∧ (∀ i, i < x ∨ x + 60 ≤ i → M' i = M i) ∧ (M' (x + 3) 3 = 80 ∧ M' (x + 3) 4 = 40 ∧ M' (x + 3) 5 = 0 ∧ M' (x + 3) 6 = 0 ∧ M' (x + 3) 7 = 0 ∧ M' (x + 4) 0 = 0 ∧ M' (x + 14) 0 = 0 ∧ M' (x + 14) 1 = 0 ∧ M' (x + 14) 2 = -5 ∧ M' (x + 14) 3 = 5 ∧ M' (x + 18) 0 = 20 ∧ M' (x + 18) 1 = 1 ∧ M' (x + 18) 2 = 4 ∧ M' (x + 18) 3 = 10 ∧ M' (x + 30) 3 = 80 ∧ M' (x + 30) 4 = 40 ∧ M' (x + 30) 5 = 0 ∧ M' (x + 30) 6 = 0 ∧ M' (x + 30) 7 = 0 ∧ M' (x + 31) 0 = 0 ∧ M' (x + 41) 0 = 0 ∧ M' (x + 41) 1 = 0 ∧ M' (x + 41) 2 = -5 ∧ M' (x + 41) 3 = 5 ∧ M' (x + 45) 0 = 20 ∧ M' (x + 45) 1 = 1 ∧ M' (x + 45) 2 = 4 ∧ M' (x + 45) 3 = 10 ∧ M' (x) 6 = 1 ∧ M' (x + 55) 0 = 0 ∧ M' (x + 57) 0 = 0 ∧ M' (x + 57) 3 = 0 ∧ M' (x + 57) 4 = -1) ∧ Cl K' M') 59 1755 := by
  refine Cn_ofC RX9 (plainFor_of_name (by decide)) rfl (Nat.le_of_ble_eq_true rfl) (fun X hX hQ hXK hXN0 => ?_)
  have hXN : XN X = "<init>" := hXN0
  have z1 : K (x + 1) = 0 := hz 1 (by decide) (by decide)
  have z2 : K (x + 2) = 0 := hz 2 (by decide) (by decide)
  have z3 : K (x + 3) = 0 := hz 3 (by decide) (by decide)
  have z4 : K (x + 4) = 0 := hz 4 (by decide) (by decide)
  have z5 : K (x + 5) = 0 := hz 5 (by decide) (by decide)
  have z6 : K (x + 6) = 0 := hz 6 (by decide) (by decide)
  have z7 : K (x + 7) = 0 := hz 7 (by decide) (by decide)
  have z8 : K (x + 8) = 0 := hz 8 (by decide) (by decide)
  have z9 : K (x + 9) = 0 := hz 9 (by decide) (by decide)
  have z10 : K (x + 10) = 0 := hz 10 (by decide) (by decide)
  have z11 : K (x + 11) = 0 := hz 11 (by decide) (by decide)
  have z12 : K (x + 12) = 0 := hz 12 (by decide) (by decide)
  have z13 : K (x + 13) = 0 := hz 13 (by decide) (by decide)
  have z14 : K (x + 14) = 0 := hz 14 (by decide) (by decide)
  have z15 : K (x + 15) = 0 := hz 15 (by decide) (by decide)
  have z16 : K (x + 16) = 0 := hz 16 (by decide) (by decide)
  have z17 : K (x + 17) = 0 := hz 17 (by decide) (by decide)
  have z18 : K (x + 18) = 0 := hz 18 (by decide) (by decide)
  have z19 : K (x + 19) = 0 := hz 19 (by decide) (by decide)
  have z20 : K (x + 20) = 0 := hz 20 (by decide) (by decide)
  have z21 : K (x + 21) = 0 := hz 21 (by decide) (by decide)
  have z22 : K (x + 22) = 0 := hz 22 (by decide) (by decide)
  have z23 : K (x + 23) = 0 := hz 23 (by decide) (by decide)
  have z24 : K (x + 24) = 0 := hz 24 (by decide) (by decide)
  have z25 : K (x + 25) = 0 := hz 25 (by decide) (by decide)
  have z26 : K (x + 26) = 0 := hz 26 (by decide) (by decide)
  have z27 : K (x + 27) = 0 := hz 27 (by decide) (by decide)
  have z28 : K (x + 28) = 0 := hz 28 (by decide) (by decide)
  have z29 : K (x + 29) = 0 := hz 29 (by decide) (by decide)
  have z30 : K (x + 30) = 0 := hz 30 (by decide) (by decide)
  have z31 : K (x + 31) = 0 := hz 31 (by decide) (by decide)
  have z32 : K (x + 32) = 0 := hz 32 (by decide) (by decide)
  have z33 : K (x + 33) = 0 := hz 33 (by decide) (by decide)
  have z34 : K (x + 34) = 0 := hz 34 (by decide) (by decide)
  have z35 : K (x + 35) = 0 := hz 35 (by decide) (by decide)
  have z36 : K (x + 36) = 0 := hz 36 (by decide) (by decide)
  have z37 : K (x + 37) = 0 := hz 37 (by decide) (by decide)
  have z38 : K (x + 38) = 0 := hz 38 (by decide) (by decide)
  have z39 : K (x + 39) = 0 := hz 39 (by decide) (by decide)
  have z40 : K (x + 40) = 0 := hz 40 (by decide) (by decide)
  have z41 : K (x + 41) = 0 := hz 41 (by decide) (by decide)
  have z42 : K (x + 42) = 0 := hz 42 (by decide) (by decide)
  have z43 : K (x + 43) = 0 := hz 43 (by decide) (by decide)
  have z44 : K (x + 44) = 0 := hz 44 (by decide) (by decide)
  have z45 : K (x + 45) = 0 := hz 45 (by decide) (by decide)
  have z46 : K (x + 46) = 0 := hz 46 (by decide) (by decide)
  have z47 : K (x + 47) = 0 := hz 47 (by decide) (by decide)
  have z48 : K (x + 48) = 0 := hz 48 (by decide) (by decide)
  have z49 : K (x + 49) = 0 := hz 49 (by decide) (by decide)
  have z50 : K (x + 50) = 0 := hz 50 (by decide) (by decide)
  have z51 : K (x + 51) = 0 := hz 51 (by decide) (by decide)
  have z52 : K (x + 52) = 0 := hz 52 (by decide) (by decide)
  have z53 : K (x + 53) = 0 := hz 53 (by decide) (by decide)
  have z54 : K (x + 54) = 0 := hz 54 (by decide) (by decide)
  have z55 : K (x + 55) = 0 := hz 55 (by decide) (by decide)
  have z56 : K (x + 56) = 0 := hz 56 (by decide) (by decide)
  have z57 : K (x + 57) = 0 := hz 57 (by decide) (by decide)
  have z58 : K (x + 58) = 0 := hz 58 (by decide) (by decide)
  have z59 : K (x + 59) = 0 := hz 59 (by decide) (by decide)
  have g0 : ∀ j, XK X j ≠ 0 → K j ≠ 0 := fun j hj => by rw [← hXK]; exact hj
  refine J_aload_n hX dX9_init_0 rfl ?_
  refine J_init0 hX dX9_init_1 ml_RX9_1 (by decide) (Nat.le_of_ble_eq_true rfl) ?_
  refine J_aload_n hX dX9_init_4 rfl ?_
  refine J_new hX (x + 1) fn_RX9_7 dX9_init_5 z1 g0 hC ⟨(by rw [hk]; decide), trivial⟩ ⟨(by rw [hk]; decide), trivial⟩ (by decide) (fun K2 M2 e1 e2 hC5 => ?_)
  subst e1 e2
  have g5 := fun j hj => upK_up (i := x + 1) (k := 100 + 7) (g0 j hj) (by decide)
  refine J_dup hX dX9_init_8 rfl ?_
  have hz9 : ∀ q : Nat, 1 ≤ q → q < 27 → (upK (K) (x + 1) (100 + 7)) (x + 1 + q) = 0 := fun q q0 q1 => by
    have hc : q = 1 ∨ q = 2 ∨ q = 3 ∨ q = 4 ∨ q = 5 ∨ q = 6 ∨ q = 7 ∨ q = 8 ∨ q = 9 ∨ q = 10 ∨ q = 11 ∨ q = 12 ∨ q = 13 ∨ q = 14 ∨ q = 15 ∨ q = 16 ∨ q = 17 ∨ q = 18 ∨ q = 19 ∨ q = 20 ∨ q = 21 ∨ q = 22 ∨ q = 23 ∨ q = 24 ∨ q = 25 ∨ q = 26 := by omega
    rcases hc with rfl | rfl | rfl | rfl | rfl | rfl | rfl | rfl | rfl | rfl | rfl | rfl | rfl | rfl | rfl | rfl | rfl | rfl | rfl | rfl | rfl | rfl | rfl | rfl | rfl | rfl
    · exact (by rw [upK_ne (by omega)]; exact z2)
    · exact (by rw [upK_ne (by omega)]; exact z3)
    · exact (by rw [upK_ne (by omega)]; exact z4)
    · exact (by rw [upK_ne (by omega)]; exact z5)
    · exact (by rw [upK_ne (by omega)]; exact z6)
    · exact (by rw [upK_ne (by omega)]; exact z7)
    · exact (by rw [upK_ne (by omega)]; exact z8)
    · exact (by rw [upK_ne (by omega)]; exact z9)
    · exact (by rw [upK_ne (by omega)]; exact z10)
    · exact (by rw [upK_ne (by omega)]; exact z11)
    · exact (by rw [upK_ne (by omega)]; exact z12)
    · exact (by rw [upK_ne (by omega)]; exact z13)
    · exact (by rw [upK_ne (by omega)]; exact z14)
    · exact (by rw [upK_ne (by omega)]; exact z15)
    · exact (by rw [upK_ne (by omega)]; exact z16)
    · exact (by rw [upK_ne (by omega)]; exact z17)
    · exact (by rw [upK_ne (by omega)]; exact z18)
    · exact (by rw [upK_ne (by omega)]; exact z19)
    · exact (by rw [upK_ne (by omega)]; exact z20)
    · exact (by rw [upK_ne (by omega)]; exact z21)
    · exact (by rw [upK_ne (by omega)]; exact z22)
    · exact (by rw [upK_ne (by omega)]; exact z23)
    · exact (by rw [upK_ne (by omega)]; exact z24)
    · exact (by rw [upK_ne (by omega)]; exact z25)
    · exact (by rw [upK_ne (by omega)]; exact z26)
    · exact (by rw [upK_ne (by omega)]; exact z27)
  refine J_callINK hX _ dX9_init_9 cw_RX9_9 (m_X7_init (v := x + 1) (by rw [upK_eq]; try rfl) hz9 hC5) rfl (Nat.le_of_ble_eq_true rfl) ⟨Nat.le_of_ble_eq_true rfl, by decide⟩ (by decide) (Or.inr ⟨g5, x + 1, (by rw [upK_eq]; decide), by rw [hXK]; exact z1⟩) ⟨(by rw [upK_ne (by omega), hk]; decide), trivial⟩ ⟨(by rw [upK_eq]; decide), ⟨(by rw [upK_ne (by omega), hk]; decide), trivial⟩⟩ (fun r K2 M2 h i hi => by rw [h.2.1]; exact regK_up hi (by decide)) (fun r K2 M9 h9 => ?_)
  obtain ⟨rfl, rfl, fM9, pM9, hC9⟩ := h9
  obtain ⟨pM9_0, pM9_1, pM9_2, pM9_3, pM9_4, pM9_5, pM9_6, pM9_7, pM9_8, pM9_9, pM9_10, pM9_11, pM9_12, pM9_13⟩ := pM9
  have g9 := fun j hj => regK_up (lo := x + 1) (n := 27) (kf := kV) (g5 j hj) (by decide)
  refine J_putR hX (x + 1) fp_RX9_10 dX9_init_12 hXN (by rw [regK_out (by omega), upK_ne (by omega)]; exact hk) rfl (by rw [regK_at (j := 0) (by omega) (by decide)]; decide) hC9 (fun M2 e1 hC12 => ?_)
  subst e1
  refine J_aload_n hX dX9_init_15 rfl ?_
  refine J_aload_n hX dX9_init_16 rfl ?_
  refine J_getq hX (x + 1) fr_RX9_10 dX9_init_17 (by rw [regK_out (by omega), upK_ne (by omega)]; exact hk) rfl (by rw [mset_at (by decide)]; decide) ?_
  refine J_gr hX (x + 3) fr_RX9_16 dX9_init_20 (by rw [regK_at (j := 0) (by omega) (by decide)]; rfl) rfl ?_
  refine J_putR hX (x + 3) fp_RX9_20 dX9_init_23 hXN (by rw [regK_out (by omega), upK_ne (by omega)]; exact hk) rfl (by rw [regK_at (j := 2) (by omega) (by decide)]; decide) hC12 (fun M2 e1 hC23 => ?_)
  subst e1
  refine J_aload_n hX dX9_init_26 rfl ?_
  refine J_new hX (x + 28) fn_RX9_7 dX9_init_27 (by rw [regK_out (by omega), upK_ne (by omega)]; exact z28) g9 hC23 ⟨(by rw [regK_out (by omega), upK_ne (by omega), hk]; decide), trivial⟩ ⟨(by rw [regK_out (by omega), upK_ne (by omega), hk]; decide), trivial⟩ (by decide) (fun K2 M2 e1 e2 hC27 => ?_)
  subst e1 e2
  have g27 := fun j hj => upK_up (i := x + 28) (k := 100 + 7) (g9 j hj) (by decide)
  refine J_dup hX dX9_init_30 rfl ?_
  have hz31 : ∀ q : Nat, 1 ≤ q → q < 27 → (upK (regK (upK (K) (x + 1) (100 + 7)) (x + 1) 27 kV) (x + 28) (100 + 7)) (x + 28 + q) = 0 := fun q q0 q1 => by
    have hc : q = 1 ∨ q = 2 ∨ q = 3 ∨ q = 4 ∨ q = 5 ∨ q = 6 ∨ q = 7 ∨ q = 8 ∨ q = 9 ∨ q = 10 ∨ q = 11 ∨ q = 12 ∨ q = 13 ∨ q = 14 ∨ q = 15 ∨ q = 16 ∨ q = 17 ∨ q = 18 ∨ q = 19 ∨ q = 20 ∨ q = 21 ∨ q = 22 ∨ q = 23 ∨ q = 24 ∨ q = 25 ∨ q = 26 := by omega
    rcases hc with rfl | rfl | rfl | rfl | rfl | rfl | rfl | rfl | rfl | rfl | rfl | rfl | rfl | rfl | rfl | rfl | rfl | rfl | rfl | rfl | rfl | rfl | rfl | rfl | rfl | rfl
    · exact (by rw [upK_ne (by omega), regK_out (by omega), upK_ne (by omega)]; exact z29)
    · exact (by rw [upK_ne (by omega), regK_out (by omega), upK_ne (by omega)]; exact z30)
    · exact (by rw [upK_ne (by omega), regK_out (by omega), upK_ne (by omega)]; exact z31)
    · exact (by rw [upK_ne (by omega), regK_out (by omega), upK_ne (by omega)]; exact z32)
    · exact (by rw [upK_ne (by omega), regK_out (by omega), upK_ne (by omega)]; exact z33)
    · exact (by rw [upK_ne (by omega), regK_out (by omega), upK_ne (by omega)]; exact z34)
    · exact (by rw [upK_ne (by omega), regK_out (by omega), upK_ne (by omega)]; exact z35)
    · exact (by rw [upK_ne (by omega), regK_out (by omega), upK_ne (by omega)]; exact z36)
    · exact (by rw [upK_ne (by omega), regK_out (by omega), upK_ne (by omega)]; exact z37)
    · exact (by rw [upK_ne (by omega), regK_out (by omega), upK_ne (by omega)]; exact z38)
    · exact (by rw [upK_ne (by omega), regK_out (by omega), upK_ne (by omega)]; exact z39)
    · exact (by rw [upK_ne (by omega), regK_out (by omega), upK_ne (by omega)]; exact z40)
    · exact (by rw [upK_ne (by omega), regK_out (by omega), upK_ne (by omega)]; exact z41)
    · exact (by rw [upK_ne (by omega), regK_out (by omega), upK_ne (by omega)]; exact z42)
    · exact (by rw [upK_ne (by omega), regK_out (by omega), upK_ne (by omega)]; exact z43)
    · exact (by rw [upK_ne (by omega), regK_out (by omega), upK_ne (by omega)]; exact z44)
    · exact (by rw [upK_ne (by omega), regK_out (by omega), upK_ne (by omega)]; exact z45)
    · exact (by rw [upK_ne (by omega), regK_out (by omega), upK_ne (by omega)]; exact z46)
    · exact (by rw [upK_ne (by omega), regK_out (by omega), upK_ne (by omega)]; exact z47)
    · exact (by rw [upK_ne (by omega), regK_out (by omega), upK_ne (by omega)]; exact z48)
    · exact (by rw [upK_ne (by omega), regK_out (by omega), upK_ne (by omega)]; exact z49)
    · exact (by rw [upK_ne (by omega), regK_out (by omega), upK_ne (by omega)]; exact z50)
    · exact (by rw [upK_ne (by omega), regK_out (by omega), upK_ne (by omega)]; exact z51)
    · exact (by rw [upK_ne (by omega), regK_out (by omega), upK_ne (by omega)]; exact z52)
    · exact (by rw [upK_ne (by omega), regK_out (by omega), upK_ne (by omega)]; exact z53)
    · exact (by rw [upK_ne (by omega), regK_out (by omega), upK_ne (by omega)]; exact z54)
  refine J_callINK hX _ dX9_init_31 cw_RX9_9 (m_X7_init (v := x + 28) (by rw [upK_eq]; try rfl) hz31 hC27) rfl (Nat.le_of_ble_eq_true rfl) ⟨Nat.le_of_ble_eq_true rfl, by decide⟩ (by decide) (Or.inr ⟨g27, x + 28, (by rw [upK_eq]; decide), by rw [hXK]; exact z28⟩) ⟨(by rw [upK_ne (by omega), regK_out (by omega), upK_ne (by omega), hk]; decide), trivial⟩ ⟨(by rw [upK_eq]; decide), ⟨(by rw [upK_ne (by omega), regK_out (by omega), upK_ne (by omega), hk]; decide), trivial⟩⟩ (fun r K2 M2 h i hi => by rw [h.2.1]; exact regK_up hi (by decide)) (fun r K2 M31 h31 => ?_)
  obtain ⟨rfl, rfl, fM31, pM31, hC31⟩ := h31
  obtain ⟨pM31_0, pM31_1, pM31_2, pM31_3, pM31_4, pM31_5, pM31_6, pM31_7, pM31_8, pM31_9, pM31_10, pM31_11, pM31_12, pM31_13⟩ := pM31
  have g31 := fun j hj => regK_up (lo := x + 28) (n := 27) (kf := kV) (g27 j hj) (by decide)
  refine J_putR hX (x + 28) fp_RX9_21 dX9_init_34 hXN (by rw [regK_out (by omega), upK_ne (by omega), regK_out (by omega), upK_ne (by omega)]; exact hk) rfl (by rw [regK_at (j := 0) (by omega) (by decide)]; decide) hC31 (fun M2 e1 hC34 => ?_)
  subst e1
  refine J_aload_n hX dX9_init_37 rfl ?_
  refine J_aload_n hX dX9_init_38 rfl ?_
  refine J_getq hX (x + 28) fr_RX9_21 dX9_init_39 (by rw [regK_out (by omega), upK_ne (by omega), regK_out (by omega), upK_ne (by omega)]; exact hk) rfl (by rw [mset_at (by decide)]; decide) ?_
  refine J_gr hX (x + 30) fr_RX9_16 dX9_init_42 (by rw [regK_at (j := 0) (by omega) (by decide)]; rfl) rfl ?_
  refine J_putR hX (x + 30) fp_RX9_24 dX9_init_45 hXN (by rw [regK_out (by omega), upK_ne (by omega), regK_out (by omega), upK_ne (by omega)]; exact hk) rfl (by rw [regK_at (j := 2) (by omega) (by decide)]; decide) hC34 (fun M2 e1 hC45 => ?_)
  subst e1
  refine J_aload_n hX dX9_init_48 rfl ?_
  refine J_new hX (x + 55) fn_RX9_27 dX9_init_49 (by rw [regK_out (by omega), upK_ne (by omega), regK_out (by omega), upK_ne (by omega)]; exact z55) g31 hC45 ⟨(by rw [regK_out (by omega), upK_ne (by omega), regK_out (by omega), upK_ne (by omega), hk]; decide), trivial⟩ ⟨(by rw [regK_out (by omega), upK_ne (by omega), regK_out (by omega), upK_ne (by omega), hk]; decide), trivial⟩ (by decide) (fun K2 M2 e1 e2 hC49 => ?_)
  subst e1 e2
  have g49 := fun j hj => upK_up (i := x + 55) (k := 100 + 1) (g31 j hj) (by decide)
  refine J_dup hX dX9_init_52 rfl ?_
  have hz53 : ∀ q : Nat, 1 ≤ q → q < 2 → (upK (regK (upK (regK (upK (K) (x + 1) (100 + 7)) (x + 1) 27 kV) (x + 28) (100 + 7)) (x + 28) 27 kV) (x + 55) (100 + 1)) (x + 55 + q) = 0 := fun q q0 q1 => by
    have hc : q = 1 := by omega
    rcases hc with rfl
    · exact (by rw [upK_ne (by omega), regK_out (by omega), upK_ne (by omega), regK_out (by omega), upK_ne (by omega)]; exact z56)
  refine J_callINK hX _ dX9_init_53 cw_RX9_29 (m_X1_init (h := x + 55) hE (by rw [upK_eq]; try rfl) hz53 hC49) rfl (Nat.le_of_ble_eq_true rfl) ⟨Nat.le_of_ble_eq_true rfl, by decide⟩ (by decide) (Or.inr ⟨g49, x + 55, (by rw [upK_eq]; decide), by rw [hXK]; exact z55⟩) ⟨(by rw [upK_ne (by omega), regK_out (by omega), upK_ne (by omega), regK_out (by omega), upK_ne (by omega), hk]; decide), trivial⟩ ⟨(by rw [upK_eq]; decide), ⟨(by rw [upK_ne (by omega), regK_out (by omega), upK_ne (by omega), regK_out (by omega), upK_ne (by omega), hk]; decide), trivial⟩⟩ (fun r K2 M2 h i hi => by rw [h.2.1]; exact regK_up hi (by decide)) (fun r K2 M53 h53 => ?_)
  obtain ⟨rfl, rfl, fM53, pM53, hC53⟩ := h53
  have g53 := fun j hj => regK_up (lo := x + 55) (n := 2) (kf := kH) (g49 j hj) (by decide)
  refine J_putR hX (x + 55) fp_RX9_30 dX9_init_56 hXN (by rw [regK_out (by omega), upK_ne (by omega), regK_out (by omega), upK_ne (by omega), regK_out (by omega), upK_ne (by omega)]; exact hk) rfl (by rw [regK_at (j := 0) (by omega) (by decide)]; decide) hC53 (fun M2 e1 hC56 => ?_)
  subst e1
  refine J_aload_n hX dX9_init_59 rfl ?_
  refine J_new hX (x + 57) fn_RX9_34 dX9_init_60 (by rw [regK_out (by omega), upK_ne (by omega), regK_out (by omega), upK_ne (by omega), regK_out (by omega), upK_ne (by omega)]; exact z57) g53 hC56 ⟨(by rw [regK_out (by omega), upK_ne (by omega), regK_out (by omega), upK_ne (by omega), regK_out (by omega), upK_ne (by omega), hk]; decide), trivial⟩ ⟨(by rw [regK_out (by omega), upK_ne (by omega), regK_out (by omega), upK_ne (by omega), regK_out (by omega), upK_ne (by omega), hk]; decide), trivial⟩ (by decide) (fun K2 M2 e1 e2 hC60 => ?_)
  subst e1 e2
  have g60 := fun j hj => upK_up (i := x + 57) (k := 100 + 4) (g53 j hj) (by decide)
  refine J_dup hX dX9_init_63 rfl ?_
  have hz64 : ∀ q : Nat, 1 ≤ q → q < 3 → (upK (regK (upK (regK (upK (regK (upK (K) (x + 1) (100 + 7)) (x + 1) 27 kV) (x + 28) (100 + 7)) (x + 28) 27 kV) (x + 55) (100 + 1)) (x + 55) 2 kH) (x + 57) (100 + 4)) (x + 57 + q) = 0 := fun q q0 q1 => by
    have hc : q = 1 ∨ q = 2 := by omega
    rcases hc with rfl | rfl
    · exact (by rw [upK_ne (by omega), regK_out (by omega), upK_ne (by omega), regK_out (by omega), upK_ne (by omega), regK_out (by omega), upK_ne (by omega)]; exact z58)
    · exact (by rw [upK_ne (by omega), regK_out (by omega), upK_ne (by omega), regK_out (by omega), upK_ne (by omega), regK_out (by omega), upK_ne (by omega)]; exact z59)
  refine J_callINK hX _ dX9_init_64 cw_RX9_36 (m_X4_init (c := x + 57) (by rw [upK_eq]; try rfl) hz64 hC60) rfl (Nat.le_of_ble_eq_true rfl) ⟨Nat.le_of_ble_eq_true rfl, by decide⟩ (by decide) (Or.inr ⟨g60, x + 57, (by rw [upK_eq]; decide), by rw [hXK]; exact z57⟩) ⟨(by rw [upK_ne (by omega), regK_out (by omega), upK_ne (by omega), regK_out (by omega), upK_ne (by omega), regK_out (by omega), upK_ne (by omega), hk]; decide), trivial⟩ ⟨(by rw [upK_eq]; decide), ⟨(by rw [upK_ne (by omega), regK_out (by omega), upK_ne (by omega), regK_out (by omega), upK_ne (by omega), regK_out (by omega), upK_ne (by omega), hk]; decide), trivial⟩⟩ (fun r K2 M2 h i hi => by rw [h.2.1]; exact regK_up hi (by decide)) (fun r K2 M64 h64 => ?_)
  obtain ⟨rfl, rfl, fM64, pM64, hC64⟩ := h64
  obtain ⟨pM64_0, pM64_1, pM64_2⟩ := pM64
  have g64 := fun j hj => regK_up (lo := x + 57) (n := 3) (kf := kW) (g60 j hj) (by decide)
  refine J_putR hX (x + 57) fp_RX9_37 dX9_init_67 hXN (by rw [regK_out (by omega), upK_ne (by omega), regK_out (by omega), upK_ne (by omega), regK_out (by omega), upK_ne (by omega), regK_out (by omega), upK_ne (by omega)]; exact hk) rfl (by rw [regK_at (j := 0) (by omega) (by decide)]; decide) hC64 (fun M2 e1 hC67 => ?_)
  subst e1
  refine J_aload_n hX dX9_init_70 rfl ?_
  refine J_iconst hX dX9_init_71 ?_
  refine J_putq hX fw_RX9_41 dX9_init_72 (by rw [regK_out (by omega), upK_ne (by omega), regK_out (by omega), upK_ne (by omega), regK_out (by omega), upK_ne (by omega), regK_out (by omega), upK_ne (by omega)]; exact hk) (by decide) (Or.inr ⟨rfl, by decide⟩) hC67 (fun M2 e1 hC72 => ?_)
  subst e1
  refine J_seal (i := x) (k := 8) (by rw [regK_out (by omega), upK_ne (by omega), regK_out (by omega), upK_ne (by omega), regK_out (by omega), upK_ne (by omega), regK_out (by omega), upK_ne (by omega)]; exact hk) (by decide) (by rw [hXK, hk]; decide) hC72 (fun f o hf hr => ?_) (fun K2 e1 hCz => ?_)
  · have hc : f = 0 ∨ f = 1 ∨ f = 2 ∨ f = 3 ∨ f = 4 ∨ f = 5 ∨ f = 6 := by
      have : nf 8 = 7 := rfl
      omega
    rcases hc with rfl | rfl | rfl | rfl | rfl | rfl | rfl
    · rw [show (100 + ((0 : Nat) : Int)) = 100 from rfl, mset_nj (by decide), mset_nj (by decide), fM64 _ (by omega), upM_ne (by omega), mset_nj (by decide), fM53 _ (by omega), upM_ne (by omega), mset_nj (by decide), mset_nj (by decide), fM31 _ (by omega), upM_ne (by omega), mset_nj (by decide), mset_at (by decide)]; decide
    · rw [show (100 + ((1 : Nat) : Int)) = 101 from rfl, mset_nj (by decide), mset_nj (by decide), fM64 _ (by omega), upM_ne (by omega), mset_nj (by decide), fM53 _ (by omega), upM_ne (by omega), mset_nj (by decide), mset_nj (by decide), fM31 _ (by omega), upM_ne (by omega), mset_at (by decide)]; decide
    · rw [show (100 + ((2 : Nat) : Int)) = 102 from rfl, mset_nj (by decide), mset_nj (by decide), fM64 _ (by omega), upM_ne (by omega), mset_nj (by decide), fM53 _ (by omega), upM_ne (by omega), mset_nj (by decide), mset_at (by decide)]; decide
    · rw [show (100 + ((3 : Nat) : Int)) = 103 from rfl, mset_nj (by decide), mset_nj (by decide), fM64 _ (by omega), upM_ne (by omega), mset_nj (by decide), fM53 _ (by omega), upM_ne (by omega), mset_at (by decide)]; decide
    · rw [show (100 + ((4 : Nat) : Int)) = 104 from rfl, mset_nj (by decide), mset_nj (by decide), fM64 _ (by omega), upM_ne (by omega), mset_at (by decide)]; decide
    · rw [show (100 + ((5 : Nat) : Int)) = 105 from rfl, mset_nj (by decide), mset_at (by decide)]; decide
    · cases hr
  have hKz : K2 = regK K (x) 60 kX := regK_ext (fun j hj => by
      have hc : j = 0 ∨ j = 1 ∨ j = 2 ∨ j = 3 ∨ j = 4 ∨ j = 5 ∨ j = 6 ∨ j = 7 ∨ j = 8 ∨ j = 9 ∨ j = 10 ∨ j = 11 ∨ j = 12 ∨ j = 13 ∨ j = 14 ∨ j = 15 ∨ j = 16 ∨ j = 17 ∨ j = 18 ∨ j = 19 ∨ j = 20 ∨ j = 21 ∨ j = 22 ∨ j = 23 ∨ j = 24 ∨ j = 25 ∨ j = 26 ∨ j = 27 ∨ j = 28 ∨ j = 29 ∨ j = 30 ∨ j = 31 ∨ j = 32 ∨ j = 33 ∨ j = 34 ∨ j = 35 ∨ j = 36 ∨ j = 37 ∨ j = 38 ∨ j = 39 ∨ j = 40 ∨ j = 41 ∨ j = 42 ∨ j = 43 ∨ j = 44 ∨ j = 45 ∨ j = 46 ∨ j = 47 ∨ j = 48 ∨ j = 49 ∨ j = 50 ∨ j = 51 ∨ j = 52 ∨ j = 53 ∨ j = 54 ∨ j = 55 ∨ j = 56 ∨ j = 57 ∨ j = 58 ∨ j = 59 := by omega
      rcases hc with rfl | rfl | rfl | rfl | rfl | rfl | rfl | rfl | rfl | rfl | rfl | rfl | rfl | rfl | rfl | rfl | rfl | rfl | rfl | rfl | rfl | rfl | rfl | rfl | rfl | rfl | rfl | rfl | rfl | rfl | rfl | rfl | rfl | rfl | rfl | rfl | rfl | rfl | rfl | rfl | rfl | rfl | rfl | rfl | rfl | rfl | rfl | rfl | rfl | rfl | rfl | rfl | rfl | rfl | rfl | rfl | rfl | rfl | rfl | rfl
      · show K2 (x) = _; rw [e1, upK_eq]; try rfl
      · show K2 (x + 1) = _; rw [e1, upK_ne (by omega), regK_out (by omega), upK_ne (by omega), regK_out (by omega), upK_ne (by omega), regK_out (by omega), upK_ne (by omega), regK_at (j := 0) (by omega) (by decide)]; try rfl
      · show K2 (x + 2) = _; rw [e1, upK_ne (by omega), regK_out (by omega), upK_ne (by omega), regK_out (by omega), upK_ne (by omega), regK_out (by omega), upK_ne (by omega), regK_at (j := 1) (by omega) (by decide)]; try rfl
      · show K2 (x + 3) = _; rw [e1, upK_ne (by omega), regK_out (by omega), upK_ne (by omega), regK_out (by omega), upK_ne (by omega), regK_out (by omega), upK_ne (by omega), regK_at (j := 2) (by omega) (by decide)]; try rfl
      · show K2 (x + 4) = _; rw [e1, upK_ne (by omega), regK_out (by omega), upK_ne (by omega), regK_out (by omega), upK_ne (by omega), regK_out (by omega), upK_ne (by omega), regK_at (j := 3) (by omega) (by decide)]; try rfl
      · show K2 (x + 5) = _; rw [e1, upK_ne (by omega), regK_out (by omega), upK_ne (by omega), regK_out (by omega), upK_ne (by omega), regK_out (by omega), upK_ne (by omega), regK_at (j := 4) (by omega) (by decide)]; try rfl
      · show K2 (x + 6) = _; rw [e1, upK_ne (by omega), regK_out (by omega), upK_ne (by omega), regK_out (by omega), upK_ne (by omega), regK_out (by omega), upK_ne (by omega), regK_at (j := 5) (by omega) (by decide)]; try rfl
      · show K2 (x + 7) = _; rw [e1, upK_ne (by omega), regK_out (by omega), upK_ne (by omega), regK_out (by omega), upK_ne (by omega), regK_out (by omega), upK_ne (by omega), regK_at (j := 6) (by omega) (by decide)]; try rfl
      · show K2 (x + 8) = _; rw [e1, upK_ne (by omega), regK_out (by omega), upK_ne (by omega), regK_out (by omega), upK_ne (by omega), regK_out (by omega), upK_ne (by omega), regK_at (j := 7) (by omega) (by decide)]; try rfl
      · show K2 (x + 9) = _; rw [e1, upK_ne (by omega), regK_out (by omega), upK_ne (by omega), regK_out (by omega), upK_ne (by omega), regK_out (by omega), upK_ne (by omega), regK_at (j := 8) (by omega) (by decide)]; try rfl
      · show K2 (x + 10) = _; rw [e1, upK_ne (by omega), regK_out (by omega), upK_ne (by omega), regK_out (by omega), upK_ne (by omega), regK_out (by omega), upK_ne (by omega), regK_at (j := 9) (by omega) (by decide)]; try rfl
      · show K2 (x + 11) = _; rw [e1, upK_ne (by omega), regK_out (by omega), upK_ne (by omega), regK_out (by omega), upK_ne (by omega), regK_out (by omega), upK_ne (by omega), regK_at (j := 10) (by omega) (by decide)]; try rfl
      · show K2 (x + 12) = _; rw [e1, upK_ne (by omega), regK_out (by omega), upK_ne (by omega), regK_out (by omega), upK_ne (by omega), regK_out (by omega), upK_ne (by omega), regK_at (j := 11) (by omega) (by decide)]; try rfl
      · show K2 (x + 13) = _; rw [e1, upK_ne (by omega), regK_out (by omega), upK_ne (by omega), regK_out (by omega), upK_ne (by omega), regK_out (by omega), upK_ne (by omega), regK_at (j := 12) (by omega) (by decide)]; try rfl
      · show K2 (x + 14) = _; rw [e1, upK_ne (by omega), regK_out (by omega), upK_ne (by omega), regK_out (by omega), upK_ne (by omega), regK_out (by omega), upK_ne (by omega), regK_at (j := 13) (by omega) (by decide)]; try rfl
      · show K2 (x + 15) = _; rw [e1, upK_ne (by omega), regK_out (by omega), upK_ne (by omega), regK_out (by omega), upK_ne (by omega), regK_out (by omega), upK_ne (by omega), regK_at (j := 14) (by omega) (by decide)]; try rfl
      · show K2 (x + 16) = _; rw [e1, upK_ne (by omega), regK_out (by omega), upK_ne (by omega), regK_out (by omega), upK_ne (by omega), regK_out (by omega), upK_ne (by omega), regK_at (j := 15) (by omega) (by decide)]; try rfl
      · show K2 (x + 17) = _; rw [e1, upK_ne (by omega), regK_out (by omega), upK_ne (by omega), regK_out (by omega), upK_ne (by omega), regK_out (by omega), upK_ne (by omega), regK_at (j := 16) (by omega) (by decide)]; try rfl
      · show K2 (x + 18) = _; rw [e1, upK_ne (by omega), regK_out (by omega), upK_ne (by omega), regK_out (by omega), upK_ne (by omega), regK_out (by omega), upK_ne (by omega), regK_at (j := 17) (by omega) (by decide)]; try rfl
      · show K2 (x + 19) = _; rw [e1, upK_ne (by omega), regK_out (by omega), upK_ne (by omega), regK_out (by omega), upK_ne (by omega), regK_out (by omega), upK_ne (by omega), regK_at (j := 18) (by omega) (by decide)]; try rfl
      · show K2 (x + 20) = _; rw [e1, upK_ne (by omega), regK_out (by omega), upK_ne (by omega), regK_out (by omega), upK_ne (by omega), regK_out (by omega), upK_ne (by omega), regK_at (j := 19) (by omega) (by decide)]; try rfl
      · show K2 (x + 21) = _; rw [e1, upK_ne (by omega), regK_out (by omega), upK_ne (by omega), regK_out (by omega), upK_ne (by omega), regK_out (by omega), upK_ne (by omega), regK_at (j := 20) (by omega) (by decide)]; try rfl
      · show K2 (x + 22) = _; rw [e1, upK_ne (by omega), regK_out (by omega), upK_ne (by omega), regK_out (by omega), upK_ne (by omega), regK_out (by omega), upK_ne (by omega), regK_at (j := 21) (by omega) (by decide)]; try rfl
      · show K2 (x + 23) = _; rw [e1, upK_ne (by omega), regK_out (by omega), upK_ne (by omega), regK_out (by omega), upK_ne (by omega), regK_out (by omega), upK_ne (by omega), regK_at (j := 22) (by omega) (by decide)]; try rfl
      · show K2 (x + 24) = _; rw [e1, upK_ne (by omega), regK_out (by omega), upK_ne (by omega), regK_out (by omega), upK_ne (by omega), regK_out (by omega), upK_ne (by omega), regK_at (j := 23) (by omega) (by decide)]; try rfl
      · show K2 (x + 25) = _; rw [e1, upK_ne (by omega), regK_out (by omega), upK_ne (by omega), regK_out (by omega), upK_ne (by omega), regK_out (by omega), upK_ne (by omega), regK_at (j := 24) (by omega) (by decide)]; try rfl
      · show K2 (x + 26) = _; rw [e1, upK_ne (by omega), regK_out (by omega), upK_ne (by omega), regK_out (by omega), upK_ne (by omega), regK_out (by omega), upK_ne (by omega), regK_at (j := 25) (by omega) (by decide)]; try rfl
      · show K2 (x + 27) = _; rw [e1, upK_ne (by omega), regK_out (by omega), upK_ne (by omega), regK_out (by omega), upK_ne (by omega), regK_out (by omega), upK_ne (by omega), regK_at (j := 26) (by omega) (by decide)]; try rfl
      · show K2 (x + 28) = _; rw [e1, upK_ne (by omega), regK_out (by omega), upK_ne (by omega), regK_out (by omega), upK_ne (by omega), regK_at (j := 0) (by omega) (by decide)]; try rfl
      · show K2 (x + 29) = _; rw [e1, upK_ne (by omega), regK_out (by omega), upK_ne (by omega), regK_out (by omega), upK_ne (by omega), regK_at (j := 1) (by omega) (by decide)]; try rfl
      · show K2 (x + 30) = _; rw [e1, upK_ne (by omega), regK_out (by omega), upK_ne (by omega), regK_out (by omega), upK_ne (by omega), regK_at (j := 2) (by omega) (by decide)]; try rfl
      · show K2 (x + 31) = _; rw [e1, upK_ne (by omega), regK_out (by omega), upK_ne (by omega), regK_out (by omega), upK_ne (by omega), regK_at (j := 3) (by omega) (by decide)]; try rfl
      · show K2 (x + 32) = _; rw [e1, upK_ne (by omega), regK_out (by omega), upK_ne (by omega), regK_out (by omega), upK_ne (by omega), regK_at (j := 4) (by omega) (by decide)]; try rfl
      · show K2 (x + 33) = _; rw [e1, upK_ne (by omega), regK_out (by omega), upK_ne (by omega), regK_out (by omega), upK_ne (by omega), regK_at (j := 5) (by omega) (by decide)]; try rfl
      · show K2 (x + 34) = _; rw [e1, upK_ne (by omega), regK_out (by omega), upK_ne (by omega), regK_out (by omega), upK_ne (by omega), regK_at (j := 6) (by omega) (by decide)]; try rfl
      · show K2 (x + 35) = _; rw [e1, upK_ne (by omega), regK_out (by omega), upK_ne (by omega), regK_out (by omega), upK_ne (by omega), regK_at (j := 7) (by omega) (by decide)]; try rfl
      · show K2 (x + 36) = _; rw [e1, upK_ne (by omega), regK_out (by omega), upK_ne (by omega), regK_out (by omega), upK_ne (by omega), regK_at (j := 8) (by omega) (by decide)]; try rfl
      · show K2 (x + 37) = _; rw [e1, upK_ne (by omega), regK_out (by omega), upK_ne (by omega), regK_out (by omega), upK_ne (by omega), regK_at (j := 9) (by omega) (by decide)]; try rfl
      · show K2 (x + 38) = _; rw [e1, upK_ne (by omega), regK_out (by omega), upK_ne (by omega), regK_out (by omega), upK_ne (by omega), regK_at (j := 10) (by omega) (by decide)]; try rfl
      · show K2 (x + 39) = _; rw [e1, upK_ne (by omega), regK_out (by omega), upK_ne (by omega), regK_out (by omega), upK_ne (by omega), regK_at (j := 11) (by omega) (by decide)]; try rfl
      · show K2 (x + 40) = _; rw [e1, upK_ne (by omega), regK_out (by omega), upK_ne (by omega), regK_out (by omega), upK_ne (by omega), regK_at (j := 12) (by omega) (by decide)]; try rfl
      · show K2 (x + 41) = _; rw [e1, upK_ne (by omega), regK_out (by omega), upK_ne (by omega), regK_out (by omega), upK_ne (by omega), regK_at (j := 13) (by omega) (by decide)]; try rfl
      · show K2 (x + 42) = _; rw [e1, upK_ne (by omega), regK_out (by omega), upK_ne (by omega), regK_out (by omega), upK_ne (by omega), regK_at (j := 14) (by omega) (by decide)]; try rfl
      · show K2 (x + 43) = _; rw [e1, upK_ne (by omega), regK_out (by omega), upK_ne (by omega), regK_out (by omega), upK_ne (by omega), regK_at (j := 15) (by omega) (by decide)]; try rfl
      · show K2 (x + 44) = _; rw [e1, upK_ne (by omega), regK_out (by omega), upK_ne (by omega), regK_out (by omega), upK_ne (by omega), regK_at (j := 16) (by omega) (by decide)]; try rfl
      · show K2 (x + 45) = _; rw [e1, upK_ne (by omega), regK_out (by omega), upK_ne (by omega), regK_out (by omega), upK_ne (by omega), regK_at (j := 17) (by omega) (by decide)]; try rfl
      · show K2 (x + 46) = _; rw [e1, upK_ne (by omega), regK_out (by omega), upK_ne (by omega), regK_out (by omega), upK_ne (by omega), regK_at (j := 18) (by omega) (by decide)]; try rfl
      · show K2 (x + 47) = _; rw [e1, upK_ne (by omega), regK_out (by omega), upK_ne (by omega), regK_out (by omega), upK_ne (by omega), regK_at (j := 19) (by omega) (by decide)]; try rfl
      · show K2 (x + 48) = _; rw [e1, upK_ne (by omega), regK_out (by omega), upK_ne (by omega), regK_out (by omega), upK_ne (by omega), regK_at (j := 20) (by omega) (by decide)]; try rfl
      · show K2 (x + 49) = _; rw [e1, upK_ne (by omega), regK_out (by omega), upK_ne (by omega), regK_out (by omega), upK_ne (by omega), regK_at (j := 21) (by omega) (by decide)]; try rfl
      · show K2 (x + 50) = _; rw [e1, upK_ne (by omega), regK_out (by omega), upK_ne (by omega), regK_out (by omega), upK_ne (by omega), regK_at (j := 22) (by omega) (by decide)]; try rfl
      · show K2 (x + 51) = _; rw [e1, upK_ne (by omega), regK_out (by omega), upK_ne (by omega), regK_out (by omega), upK_ne (by omega), regK_at (j := 23) (by omega) (by decide)]; try rfl
      · show K2 (x + 52) = _; rw [e1, upK_ne (by omega), regK_out (by omega), upK_ne (by omega), regK_out (by omega), upK_ne (by omega), regK_at (j := 24) (by omega) (by decide)]; try rfl
      · show K2 (x + 53) = _; rw [e1, upK_ne (by omega), regK_out (by omega), upK_ne (by omega), regK_out (by omega), upK_ne (by omega), regK_at (j := 25) (by omega) (by decide)]; try rfl
      · show K2 (x + 54) = _; rw [e1, upK_ne (by omega), regK_out (by omega), upK_ne (by omega), regK_out (by omega), upK_ne (by omega), regK_at (j := 26) (by omega) (by decide)]; try rfl
      · show K2 (x + 55) = _; rw [e1, upK_ne (by omega), regK_out (by omega), upK_ne (by omega), regK_at (j := 0) (by omega) (by decide)]; try rfl
      · show K2 (x + 56) = _; rw [e1, upK_ne (by omega), regK_out (by omega), upK_ne (by omega), regK_at (j := 1) (by omega) (by decide)]; try rfl
      · show K2 (x + 57) = _; rw [e1, upK_ne (by omega), regK_at (j := 0) (by omega) (by decide)]; try rfl
      · show K2 (x + 58) = _; rw [e1, upK_ne (by omega), regK_at (j := 1) (by omega) (by decide)]; try rfl
      · show K2 (x + 59) = _; rw [e1, upK_ne (by omega), regK_at (j := 2) (by omega) (by decide)]; try rfl) (fun i hi => by rw [e1, upK_ne (by omega), regK_out (by omega), upK_ne (by omega), regK_out (by omega), upK_ne (by omega), regK_out (by omega), upK_ne (by omega), regK_out (by omega), upK_ne (by omega)])
  subst hKz
  exact J_vret hX hQ dX9_init_75 ⟨rfl, rfl, fun i hi => by rw [mset_ne (by omega), mset_ne (by omega), fM64 _ (by omega), upM_ne (by omega), mset_ne (by omega), fM53 _ (by omega), upM_ne (by omega), mset_ne (by omega), mset_ne (by omega), fM31 _ (by omega), upM_ne (by omega), mset_ne (by omega), mset_ne (by omega), fM9 _ (by omega), upM_ne (by omega)], ⟨by rw [mset_ne (by omega), mset_ne (by omega), fM64 _ (by omega), upM_ne (by omega), mset_ne (by omega), fM53 _ (by omega), upM_ne (by omega), mset_ne (by omega), mset_ne (by omega), fM31 _ (by omega), upM_ne (by omega), mset_ne (by omega), mset_ne (by omega), pM9_0], by rw [mset_ne (by omega), mset_ne (by omega), fM64 _ (by omega), upM_ne (by omega), mset_ne (by omega), fM53 _ (by omega), upM_ne (by omega), mset_ne (by omega), mset_ne (by omega), fM31 _ (by omega), upM_ne (by omega), mset_ne (by omega), mset_ne (by omega), pM9_1], by rw [mset_ne (by omega), mset_ne (by omega), fM64 _ (by omega), upM_ne (by omega), mset_ne (by omega), fM53 _ (by omega), upM_ne (by omega), mset_ne (by omega), mset_ne (by omega), fM31 _ (by omega), upM_ne (by omega), mset_ne (by omega), mset_ne (by omega), pM9_2], by rw [mset_ne (by omega), mset_ne (by omega), fM64 _ (by omega), upM_ne (by omega), mset_ne (by omega), fM53 _ (by omega), upM_ne (by omega), mset_ne (by omega), mset_ne (by omega), fM31 _ (by omega), upM_ne (by omega), mset_ne (by omega), mset_ne (by omega), pM9_3], by rw [mset_ne (by omega), mset_ne (by omega), fM64 _ (by omega), upM_ne (by omega), mset_ne (by omega), fM53 _ (by omega), upM_ne (by omega), mset_ne (by omega), mset_ne (by omega), fM31 _ (by omega), upM_ne (by omega), mset_ne (by omega), mset_ne (by omega), pM9_4], by rw [mset_ne (by omega), mset_ne (by omega), fM64 _ (by omega), upM_ne (by omega), mset_ne (by omega), fM53 _ (by omega), upM_ne (by omega), mset_ne (by omega), mset_ne (by omega), fM31 _ (by omega), upM_ne (by omega), mset_ne (by omega), mset_ne (by omega), pM9_5], by rw [mset_ne (by omega), mset_ne (by omega), fM64 _ (by omega), upM_ne (by omega), mset_ne (by omega), fM53 _ (by omega), upM_ne (by omega), mset_ne (by omega), mset_ne (by omega), fM31 _ (by omega), upM_ne (by omega), mset_ne (by omega), mset_ne (by omega), pM9_6], by rw [mset_ne (by omega), mset_ne (by omega), fM64 _ (by omega), upM_ne (by omega), mset_ne (by omega), fM53 _ (by omega), upM_ne (by omega), mset_ne (by omega), mset_ne (by omega), fM31 _ (by omega), upM_ne (by omega), mset_ne (by omega), mset_ne (by omega), pM9_7], by rw [mset_ne (by omega), mset_ne (by omega), fM64 _ (by omega), upM_ne (by omega), mset_ne (by omega), fM53 _ (by omega), upM_ne (by omega), mset_ne (by omega), mset_ne (by omega), fM31 _ (by omega), upM_ne (by omega), mset_ne (by omega), mset_ne (by omega), pM9_8], by rw [mset_ne (by omega), mset_ne (by omega), fM64 _ (by omega), upM_ne (by omega), mset_ne (by omega), fM53 _ (by omega), upM_ne (by omega), mset_ne (by omega), mset_ne (by omega), fM31 _ (by omega), upM_ne (by omega), mset_ne (by omega), mset_ne (by omega), pM9_9], by rw [mset_ne (by omega), mset_ne (by omega), fM64 _ (by omega), upM_ne (by omega), mset_ne (by omega), fM53 _ (by omega), upM_ne (by omega), mset_ne (by omega), mset_ne (by omega), fM31 _ (by omega), upM_ne (by omega), mset_ne (by omega), mset_ne (by omega), pM9_10], by rw [mset_ne (by omega), mset_ne (by omega), fM64 _ (by omega), upM_ne (by omega), mset_ne (by omega), fM53 _ (by omega), upM_ne (by omega), mset_ne (by omega), mset_ne (by omega), fM31 _ (by omega), upM_ne (by omega), mset_ne (by omega), mset_ne (by omega), pM9_11], by rw [mset_ne (by omega), mset_ne (by omega), fM64 _ (by omega), upM_ne (by omega), mset_ne (by omega), fM53 _ (by omega), upM_ne (by omega), mset_ne (by omega), mset_ne (by omega), fM31 _ (by omega), upM_ne (by omega), mset_ne (by omega), mset_ne (by omega), pM9_12], by rw [mset_ne (by omega), mset_ne (by omega), fM64 _ (by omega), upM_ne (by omega), mset_ne (by omega), fM53 _ (by omega), upM_ne (by omega), mset_ne (by omega), mset_ne (by omega), fM31 _ (by omega), upM_ne (by omega), mset_ne (by omega), mset_ne (by omega), pM9_13], by rw [mset_ne (by omega), mset_ne (by omega), fM64 _ (by omega), upM_ne (by omega), mset_ne (by omega), fM53 _ (by omega), upM_ne (by omega), mset_ne (by omega), mset_ne (by omega), pM31_0], by rw [mset_ne (by omega), mset_ne (by omega), fM64 _ (by omega), upM_ne (by omega), mset_ne (by omega), fM53 _ (by omega), upM_ne (by omega), mset_ne (by omega), mset_ne (by omega), pM31_1], by rw [mset_ne (by omega), mset_ne (by omega), fM64 _ (by omega), upM_ne (by omega), mset_ne (by omega), fM53 _ (by omega), upM_ne (by omega), mset_ne (by omega), mset_ne (by omega), pM31_2], by rw [mset_ne (by omega), mset_ne (by omega), fM64 _ (by omega), upM_ne (by omega), mset_ne (by omega), fM53 _ (by omega), upM_ne (by omega), mset_ne (by omega), mset_ne (by omega), pM31_3], by rw [mset_ne (by omega), mset_ne (by omega), fM64 _ (by omega), upM_ne (by omega), mset_ne (by omega), fM53 _ (by omega), upM_ne (by omega), mset_ne (by omega), mset_ne (by omega), pM31_4], by rw [mset_ne (by omega), mset_ne (by omega), fM64 _ (by omega), upM_ne (by omega), mset_ne (by omega), fM53 _ (by omega), upM_ne (by omega), mset_ne (by omega), mset_ne (by omega), pM31_5], by rw [mset_ne (by omega), mset_ne (by omega), fM64 _ (by omega), upM_ne (by omega), mset_ne (by omega), fM53 _ (by omega), upM_ne (by omega), mset_ne (by omega), mset_ne (by omega), pM31_6], by rw [mset_ne (by omega), mset_ne (by omega), fM64 _ (by omega), upM_ne (by omega), mset_ne (by omega), fM53 _ (by omega), upM_ne (by omega), mset_ne (by omega), mset_ne (by omega), pM31_7], by rw [mset_ne (by omega), mset_ne (by omega), fM64 _ (by omega), upM_ne (by omega), mset_ne (by omega), fM53 _ (by omega), upM_ne (by omega), mset_ne (by omega), mset_ne (by omega), pM31_8], by rw [mset_ne (by omega), mset_ne (by omega), fM64 _ (by omega), upM_ne (by omega), mset_ne (by omega), fM53 _ (by omega), upM_ne (by omega), mset_ne (by omega), mset_ne (by omega), pM31_9], by rw [mset_ne (by omega), mset_ne (by omega), fM64 _ (by omega), upM_ne (by omega), mset_ne (by omega), fM53 _ (by omega), upM_ne (by omega), mset_ne (by omega), mset_ne (by omega), pM31_10], by rw [mset_ne (by omega), mset_ne (by omega), fM64 _ (by omega), upM_ne (by omega), mset_ne (by omega), fM53 _ (by omega), upM_ne (by omega), mset_ne (by omega), mset_ne (by omega), pM31_11], by rw [mset_ne (by omega), mset_ne (by omega), fM64 _ (by omega), upM_ne (by omega), mset_ne (by omega), fM53 _ (by omega), upM_ne (by omega), mset_ne (by omega), mset_ne (by omega), pM31_12], by rw [mset_ne (by omega), mset_ne (by omega), fM64 _ (by omega), upM_ne (by omega), mset_ne (by omega), fM53 _ (by omega), upM_ne (by omega), mset_ne (by omega), mset_ne (by omega), pM31_13], by rw [mset_at (by decide)], by rw [mset_ne (by omega), mset_ne (by omega), fM64 _ (by omega), upM_ne (by omega), mset_ne (by omega), pM53, upM_eq]; rfl, by rw [mset_ne (by omega), mset_ne (by omega), pM64_0, upM_eq]; rfl, by rw [mset_ne (by omega), mset_ne (by omega), pM64_1, upM_eq]; rfl, by rw [mset_ne (by omega), mset_ne (by omega), pM64_2, upM_eq]; rfl⟩, hCz⟩ (by decide) (by decide)
