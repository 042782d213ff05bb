/-! the constructors of the history and of the class, with the row of what is saved -/
set_option maxHeartbeats 4000000 in
set_option maxRecDepth 100000 in
theorem m_X1_init2 {E : EE} {K : Nat → Nat} {M : MM} {h : Nat} (hE : ∀ U, SF E U → va_AO RX5 U) (hk : K (h) = 100 + 1) (hz : ∀ j, 1 ≤ j → j < 2 → K (h + j) = 0) (hC : Cl K M) : Cn E 1 yX1_init cX1_init 1 none [.ref (h)] K M (fun r K' M' => r = none ∧ K' = regK K (h) 2 kH ∧ (∀ i, i < h ∨ h + 2 ≤ i → M' i = M i) ∧ (M' (h) 0 = M (h) 0) ∧ (M' (h + 1) = fun _ => -1) ∧ Cl K' M') 1 4 := by
  refine Cn_ofC RX1 (plainFor_of_name (by decide)) rfl (Nat.le_of_ble_eq_true rfl) (fun X hX hQ hXK hXN0 => ?_)
  have hXN : XN X = "<init>" := hXN0
  have z1 : K (h + 1) = 0 := hz 1 (by decide) (by decide)
  have g0 : ∀ j, XK X j ≠ 0 → K j ≠ 0 := fun j hj => by rw [← hXK]; exact hj
  refine J_aload_n hX dX1_init_0 rfl ?_
  refine J_init0 hX dX1_init_1 ml_RX1_3 (by decide) (Nat.le_of_ble_eq_true rfl) ?_
  refine J_aload_n hX dX1_init_4 rfl ?_
  refine J_iconst hX dX1_init_5 ?_
  refine J_newq hX (h + 1) hE cl_RX1_9 dX1_init_6 z1 g0 hC ⟨(by rw [hk]; decide), trivial⟩ ⟨(by rw [hk]; decide), trivial⟩ (by decide) (fun K2 M2 e1 e2 hC6 => ?_)
  subst e1 e2
  have g6 := fun j hj => upK_up (i := h + 1) (k := 10) (g0 j hj) (by decide)
  refine J_putR hX (h + 1) fp_RX1_11 dX1_init_9 hXN (by rw [upK_ne (by omega)]; exact hk) rfl (by rw [upK_eq]; decide) hC6 (fun M2 e1 hC9 => ?_)
  subst e1
  refine J_seal (i := h) (k := 1) (by rw [upK_ne (by omega)]; exact hk) (by decide) (by rw [hXK, hk]; decide) hC9 (fun f o hf hr => ?_) (fun K2 e1 hCz => ?_)
  · have hc : f = 0 ∨ f = 1 := by
      have : nf 1 = 2 := rfl
      omega
    rcases hc with rfl | rfl
    · cases hr
    · rw [show (100 + ((1 : Nat) : Int)) = 101 from rfl, mset_at (by decide)]; decide
  have hKz : K2 = regK K (h) 2 kH := regK_ext (fun j hj => by
      have hc : j = 0 ∨ j = 1 := by omega
      rcases hc with rfl | rfl
      · show K2 (h) = _; rw [e1, upK_eq]; try rfl
      · show K2 (h + 1) = _; rw [e1, upK_ne (by omega), upK_eq]; try rfl) (fun i hi => by rw [e1, upK_ne (by omega), upK_ne (by omega)])
  subst hKz
  exact J_vret hX hQ dX1_init_12 ⟨rfl, rfl, fun i hi => by rw [mset_ne (by omega), upM_ne (by omega)], by rw [mset_nj (by decide), upM_ne (by omega)], by rw [mset_ne (by omega), upM_eq], hCz⟩ (by decide) (by decide)
set_option maxHeartbeats 4000000 in
set_option maxRecDepth 100000 in
theorem m_X9_init2 {E : EE} {K : Nat → Nat} {M : MM} {x : Nat} (hE : ∀ U, SF E U → va_AO RX5 U) (hk : K (x) = 100 + 8) (hz : ∀ j, 1 ≤ j → j < 60 → K (x + j) = 0) (hC : Cl K M) : Cn E 5 yX9_init cX9_init 1 none [.ref (x)] K M (fun r K' M' => r = none ∧ K' = regK K (x) 60 kX ∧ (∀ i, i < x ∨ x + 60 ≤ i → M' i = M i) ∧ (M' (x + 3) 3 = 80 ∧ M' (x + 3) 4 = 40 ∧ M' (x + 3) 5 = 0 ∧ M' (x + 3) 6 = 0 ∧ M' (x + 3) 7 = 0 ∧ M' (x + 4) 0 = 0 ∧ M' (x + 14) 0 = 0 ∧ M' (x + 14) 1 = 0 ∧ M' (x + 14) 2 = -5 ∧ M' (x + 14) 3 = 5 ∧ M' (x + 18) 0 = 20 ∧ M' (x + 18) 1 = 1 ∧ M' (x + 18) 2 = 4 ∧ M' (x + 18) 3 = 10 ∧ M' (x + 30) 3 = 80 ∧ M' (x + 30) 4 = 40 ∧ M' (x + 30) 5 = 0 ∧ M' (x + 30) 6 = 0 ∧ M' (x + 30) 7 = 0 ∧ M' (x + 31) 0 = 0 ∧ M' (x + 41) 0 = 0 ∧ M' (x + 41) 1 = 0 ∧ M' (x + 41) 2 = -5 ∧ M' (x + 41) 3 = 5 ∧ M' (x + 45) 0 = 20 ∧ M' (x + 45) 1 = 1 ∧ M' (x + 45) 2 = 4 ∧ M' (x + 45) 3 = 10 ∧ M' (x) 6 = 1 ∧ M' (x + 55) 0 = 0 ∧ M' (x + 57) 0 = 0 ∧ M' (x + 57) 3 = 0 ∧ M' (x + 57) 4 = -1) ∧ (M' (x + 56) = fun _ => -1) ∧ Cl K' M') 59 1755 := by
  refine Cn_ofC RX9 (plainFor_of_name (by decide)) rfl (Nat.le_of_ble_eq_true rfl) (fun X hX hQ hXK hXN0 => ?_)
  have hXN : XN X = "<init>" := hXN0
  have z1 : K (x + 1) = 0 := hz 1 (by decide) (by decide)
  have z2 : K (x + 2) = 0 := hz 2 (by decide) (by decide)
  have z3 : K (x + 3) = 0 := hz 3 (by decide) (by decide)
  have z4 : K (x + 4) = 0 := hz 4 (by decide) (by decide)
  have z5 : K (x + 5) = 0 := hz 5 (by decide) (by decide)
  have z6 : K (x + 6) = 0 := hz 6 (by decide) (by decide)
  have z7 : K (x + 7) = 0 := hz 7 (by decide) (by decide)
  have z8 : K (x + 8) = 0 := hz 8 (by decide) (by decide)
  have z9 : K (x + 9) = 0 := hz 9 (by decide) (by decide)
  have z10 : K (x + 10) = 0 := hz 10 (by decide) (by decide)
  have z11 : K (x + 11) = 0 := hz 11 (by decide) (by decide)
  have z12 : K (x + 12) = 0 := hz 12 (by decide) (by decide)
  have z13 : K (x + 13) = 0 := hz 13 (by decide) (by decide)
  have z14 : K (x + 14) = 0 := hz 14 (by decide) (by decide)
  have z15 : K (x + 15) = 0 := hz 15 (by decide) (by decide)
  have z16 : K (x + 16) = 0 := hz 16 (by decide) (by decide)
  have z17 : K (x + 17) = 0 := hz 17 (by decide) (by decide)
  have z18 : K (x + 18) = 0 := hz 18 (by decide) (by decide)
  have z19 : K (x + 19) = 0 := hz 19 (by decide) (by decide)
  have z20 : K (x + 20) = 0 := hz 20 (by decide) (by decide)
  have z21 : K (x + 21) = 0 := hz 21 (by decide) (by decide)
  have z22 : K (x + 22) = 0 := hz 22 (by decide) (by decide)
  have z23 : K (x + 23) = 0 := hz 23 (by decide) (by decide)
  have z24 : K (x + 24) = 0 := hz 24 (by decide) (by decide)
  have z25 : K (x + 25) = 0 := hz 25 (by decide) (by decide)
  have z26 : K (x + 26) = 0 := hz 26 (by decide) (by decide)
  have z27 : K (x + 27) = 0 := hz 27 (by decide) (by decide)
  have z28 : K (x + 28) = 0 := hz 28 (by decide) (by decide)
  have z29 : K (x + 29) = 0 := hz 29 (by decide) (by decide)
  have z30 : K (x + 30) = 0 := hz 30 (by decide) (by decide)
  have z31 : K (x + 31) = 0 := hz 31 (by decide) (by decide)
  have z32 : K (x + 32) = 0 := hz 32 (by decide) (by decide)
  have z33 : K (x + 33) = 0 := hz 33 (by decide) (by decide)
  have z34 : K (x + 34) = 0 := hz 34 (by decide) (by decide)
  have z35 : K (x + 35) = 0 := hz 35 (by decide) (by decide)
  have z36 : K (x + 36) = 0 := hz 36 (by decide) (by decide)
  have z37 : K (x + 37) = 0 := hz 37 (by decide) (by decide)
  have z38 : K (x + 38) = 0 := hz 38 (by decide) (by decide)
  have z39 : K (x + 39) = 0 := hz 39 (by decide) (by decide)
  have z40 : K (x + 40) = 0 := hz 40 (by decide) (by decide)
  have z41 : K (x + 41) = 0 := hz 41 (by decide) (by decide)
  have z42 : K (x + 42) = 0 := hz 42 (by decide) (by decide)
  have z43 : K (x + 43) = 0 := hz 43 (by decide) (by decide)
  have z44 : K (x + 44) = 0 := hz 44 (by decide) (by decide)
  have z45 : K (x + 45) = 0 := hz 45 (by decide) (by decide)
  have z46 : K (x + 46) = 0 := hz 46 (by decide) (by decide)
  have z47 : K (x + 47) = 0 := hz 47 (by decide) (by decide)
  have z48 : K (x + 48) = 0 := hz 48 (by decide) (by decide)
  have z49 : K (x + 49) = 0 := hz 49 (by decide) (by decide)
  have z50 : K (x + 50) = 0 := hz 50 (by decide) (by decide)
  have z51 : K (x + 51) = 0 := hz 51 (by decide) (by decide)
  have z52 : K (x + 52) = 0 := hz 52 (by decide) (by decide)
  have z53 : K (x + 53) = 0 := hz 53 (by decide) (by decide)
  have z54 : K (x + 54) = 0 := hz 54 (by decide) (by decide)
  have z55 : K (x + 55) = 0 := hz 55 (by decide) (by decide)
  have z56 : K (x + 56) = 0 := hz 56 (by decide) (by decide)
  have z57 : K (x + 57) = 0 := hz 57 (by decide) (by decide)
  have z58 : K (x + 58) = 0 := hz 58 (by decide) (by decide)
  have z59 : K (x + 59) = 0 := hz 59 (by decide) (by decide)
  have g0 : ∀ j, XK X j ≠ 0 → K j ≠ 0 := fun j hj => by rw [← hXK]; exact hj
  refine J_aload_n hX dX9_init_0 rfl ?_
  refine J_init0 hX dX9_init_1 ml_RX9_1 (by decide) (Nat.le_of_ble_eq_true rfl) ?_
  refine J_aload_n hX dX9_init_4 rfl ?_
  refine J_new hX (x + 1) fn_RX9_7 dX9_init_5 z1 g0 hC ⟨(by rw [hk]; decide), trivial⟩ ⟨(by rw [hk]; decide), trivial⟩ (by decide) (fun K2 M2 e1 e2 hC5 => ?_)
  subst e1 e2
  have g5 := fun j hj => upK_up (i := x + 1) (k := 100 + 7) (g0 j hj) (by decide)
  refine J_dup hX dX9_init_8 rfl ?_
  have hz9 : ∀ q : Nat, 1 ≤ q → q < 27 → (upK (K) (x + 1) (100 + 7)) (x + 1 + q) = 0 := fun q q0 q1 => by
    have hc : q = 1 ∨ q = 2 ∨ q = 3 ∨ q = 4 ∨ q = 5 ∨ q = 6 ∨ q = 7 ∨ q = 8 ∨ q = 9 ∨ q = 10 ∨ q = 11 ∨ q = 12 ∨ q = 13 ∨ q = 14 ∨ q = 15 ∨ q = 16 ∨ q = 17 ∨ q = 18 ∨ q = 19 ∨ q = 20 ∨ q = 21 ∨ q = 22 ∨ q = 23 ∨ q = 24 ∨ q = 25 ∨ q = 26 := by omega
    rcases hc with rfl | rfl | rfl | rfl | rfl | rfl | rfl | rfl | rfl | rfl | rfl | rfl | rfl | rfl | rfl | rfl | rfl | rfl | rfl | rfl | rfl | rfl | rfl | rfl | rfl | rfl
    · exact (by rw [upK_ne (by omega)]; exact z2)
    · exact (by rw [upK_ne (by omega)]; exact z3)
    · exact (by rw [upK_ne (by omega)]; exact z4)
    · exact (by rw [upK_ne (by omega)]; exact z5)
    · exact (by rw [upK_ne (by omega)]; exact z6)
    · exact (by rw [upK_ne (by omega)]; exact z7)
    · exact (by rw [upK_ne (by omega)]; exact z8)
    · exact (by rw [upK_ne (by omega)]; exact z9)
    · exact (by rw [upK_ne (by omega)]; exact z10)
    · exact (by rw [upK_ne (by omega)]; exact z11)
    · exact (by rw [upK_ne (by omega)]; exact z12)
    · exact (by rw [upK_ne (by omega)]; exact z13)
    · exact (by rw [upK_ne (by omega)]; exact z14)
    · exact (by rw [upK_ne (by omega)]; exact z15)
    · exact (by rw [upK_ne (by omega)]; exact z16)
    · exact (by rw [upK_ne (by omega)]; exact z17)
    · exact (by rw [upK_ne (by omega)]; exact z18)
    · exact (by rw [upK_ne (by omega)]; exact z19)
    · exact (by rw [upK_ne (by omega)]; exact z20)
    · exact (by rw [upK_ne (by omega)]; exact z21)
    · exact (by rw [upK_ne (by omega)]; exact z22)
    · exact (by rw [upK_ne (by omega)]; exact z23)
    · exact (by rw [upK_ne (by omega)]; exact z24)
    · exact (by rw [upK_ne (by omega)]; exact z25)
    · exact (by rw [upK_ne (by omega)]; exact z26)
    · exact (by rw [upK_ne (by omega)]; exact z27)
  refine J_callINK hX _ dX9_init_9 cw_RX9_9 (m_X7_init (v := x + 1) (by rw [upK_eq]; try rfl) hz9 hC5) rfl (Nat.le_of_ble_eq_true rfl) ⟨Nat.le_of_ble_eq_true rfl, by decide⟩ (by decide) (Or.inr ⟨g5, x + 1, (by rw [upK_eq]; decide), by rw [hXK]; exact z1⟩) ⟨(by rw [upK_ne (by omega), hk]; decide), trivial⟩ ⟨(by rw [upK_eq]; decide), ⟨(by rw [upK_ne (by omega), hk]; decide), trivial⟩⟩ (fun r K2 M2 h i hi => by rw [h.2.1]; exact regK_up hi (by decide)) (fun r K2 M9 h9 => ?_)
  obtain ⟨rfl, rfl, fM9, pM9, hC9⟩ := h9
  obtain ⟨pM9_0, pM9_1, pM9_2, pM9_3, pM9_4, pM9_5, pM9_6, pM9_7, pM9_8, pM9_9, pM9_10, pM9_11, pM9_12, pM9_13⟩ := pM9
  have g9 := fun j hj => regK_up (lo := x + 1) (n := 27) (kf := kV) (g5 j hj) (by decide)
  refine J_putR hX (x + 1) fp_RX9_10 dX9_init_12 hXN (by rw [regK_out (by omega), upK_ne (by omega)]; exact hk) rfl (by rw [regK_at (j := 0) (by omega) (by decide)]; decide) hC9 (fun M2 e1 hC12 => ?_)
  subst e1
  refine J_aload_n hX dX9_init_15 rfl ?_
  refine J_aload_n hX dX9_init_16 rfl ?_
  refine J_getq hX (x + 1) fr_RX9_10 dX9_init_17 (by rw [regK_out (by omega), upK_ne (by omega)]; exact hk) rfl (by rw [mset_at (by decide)]; decide) ?_
  refine J_gr hX (x + 3) fr_RX9_16 dX9_init_20 (by rw [regK_at (j := 0) (by omega) (by decide)]; rfl) rfl ?_
  refine J_putR hX (x + 3) fp_RX9_20 dX9_init_23 hXN (by rw [regK_out (by omega), upK_ne (by omega)]; exact hk) rfl (by rw [regK_at (j := 2) (by omega) (by decide)]; decide) hC12 (fun M2 e1 hC23 => ?_)
  subst e1
  refine J_aload_n hX dX9_init_26 rfl ?_
  refine J_new hX (x + 28) fn_RX9_7 dX9_init_27 (by rw [regK_out (by omega), upK_ne (by omega)]; exact z28) g9 hC23 ⟨(by rw [regK_out (by omega), upK_ne (by omega), hk]; decide), trivial⟩ ⟨(by rw [regK_out (by omega), upK_ne (by omega), hk]; decide), trivial⟩ (by decide) (fun K2 M2 e1 e2 hC27 => ?_)
  subst e1 e2
  have g27 := fun j hj => upK_up (i := x + 28) (k := 100 + 7) (g9 j hj) (by decide)
  refine J_dup hX dX9_init_30 rfl ?_
  have hz31 : ∀ q : Nat, 1 ≤ q → q < 27 → (upK (regK (upK (K) (x + 1) (100 + 7)) (x + 1) 27 kV) (x + 28) (100 + 7)) (x + 28 + q) = 0 := fun q q0 q1 => by
    have hc : q = 1 ∨ q = 2 ∨ q = 3 ∨ q = 4 ∨ q = 5 ∨ q = 6 ∨ q = 7 ∨ q = 8 ∨ q = 9 ∨ q = 10 ∨ q = 11 ∨ q = 12 ∨ q = 13 ∨ q = 14 ∨ q = 15 ∨ q = 16 ∨ q = 17 ∨ q = 18 ∨ q = 19 ∨ q = 20 ∨ q = 21 ∨ q = 22 ∨ q = 23 ∨ q = 24 ∨ q = 25 ∨ q = 26 := by omega
    rcases hc with rfl | rfl | rfl | rfl | rfl | rfl | rfl | rfl | rfl | rfl | rfl | rfl | rfl | rfl | rfl | rfl | rfl | rfl | rfl | rfl | rfl | rfl | rfl | rfl | rfl | rfl
    · exact (by rw [upK_ne (by omega), regK_out (by omega), upK_ne (by omega)]; exact z29)
    · exact (by rw [upK_ne (by omega), regK_out (by omega), upK_ne (by omega)]; exact z30)
    · exact (by rw [upK_ne (by omega), regK_out (by omega), upK_ne (by omega)]; exact z31)
    · exact (by rw [upK_ne (by omega), regK_out (by omega), upK_ne (by omega)]; exact z32)
    · exact (by rw [upK_ne (by omega), regK_out (by omega), upK_ne (by omega)]; exact z33)
    · exact (by rw [upK_ne (by omega), regK_out (by omega), upK_ne (by omega)]; exact z34)
    · exact (by rw [upK_ne (by omega), regK_out (by omega), upK_ne (by omega)]; exact z35)
    · exact (by rw [upK_ne (by omega), regK_out (by omega), upK_ne (by omega)]; exact z36)
    · exact (by rw [upK_ne (by omega), regK_out (by omega), upK_ne (by omega)]; exact z37)
    · exact (by rw [upK_ne (by omega), regK_out (by omega), upK_ne (by omega)]; exact z38)
    · exact (by rw [upK_ne (by omega), regK_out (by omega), upK_ne (by omega)]; exact z39)
    · exact (by rw [upK_ne (by omega), regK_out (by omega), upK_ne (by omega)]; exact z40)
    · exact (by rw [upK_ne (by omega), regK_out (by omega), upK_ne (by omega)]; exact z41)
    · exact (by rw [upK_ne (by omega), regK_out (by omega), upK_ne (by omega)]; exact z42)
    · exact (by rw [upK_ne (by omega), regK_out (by omega), upK_ne (by omega)]; exact z43)
    · exact (by rw [upK_ne (by omega), regK_out (by omega), upK_ne (by omega)]; exact z44)
    · exact (by rw [upK_ne (by omega), regK_out (by omega), upK_ne (by omega)]; exact z45)
    · exact (by rw [upK_ne (by omega), regK_out (by omega), upK_ne (by omega)]; exact z46)
    · exact (by rw [upK_ne (by omega), regK_out (by omega), upK_ne (by omega)]; exact z47)
    · exact (by rw [upK_ne (by omega), regK_out (by omega), upK_ne (by omega)]; exact z48)
    · exact (by rw [upK_ne (by omega), regK_out (by omega), upK_ne (by omega)]; exact z49)
    · exact (by rw [upK_ne (by omega), regK_out (by omega), upK_ne (by omega)]; exact z50)
    · exact (by rw [upK_ne (by omega), regK_out (by omega), upK_ne (by omega)]; exact z51)
    · exact (by rw [upK_ne (by omega), regK_out (by omega), upK_ne (by omega)]; exact z52)
    · exact (by rw [upK_ne (by omega), regK_out (by omega), upK_ne (by omega)]; exact z53)
    · exact (by rw [upK_ne (by omega), regK_out (by omega), upK_ne (by omega)]; exact z54)
  refine J_callINK hX _ dX9_init_31 cw_RX9_9 (m_X7_init (v := x + 28) (by rw [upK_eq]; try rfl) hz31 hC27) rfl (Nat.le_of_ble_eq_true rfl) ⟨Nat.le_of_ble_eq_true rfl, by decide⟩ (by decide) (Or.inr ⟨g27, x + 28, (by rw [upK_eq]; decide), by rw [hXK]; exact z28⟩) ⟨(by rw [upK_ne (by omega), regK_out (by omega), upK_ne (by omega), hk]; decide), trivial⟩ ⟨(by rw [upK_eq]; decide), ⟨(by rw [upK_ne (by omega), regK_out (by omega), upK_ne (by omega), hk]; decide), trivial⟩⟩ (fun r K2 M2 h i hi => by rw [h.2.1]; exact regK_up hi (by decide)) (fun r K2 M31 h31 => ?_)
  obtain ⟨rfl, rfl, fM31, pM31, hC31⟩ := h31
  obtain ⟨pM31_0, pM31_1, pM31_2, pM31_3, pM31_4, pM31_5, pM31_6, pM31_7, pM31_8, pM31_9, pM31_10, pM31_11, pM31_12, pM31_13⟩ := pM31
  have g31 := fun j hj => regK_up (lo := x + 28) (n := 27) (kf := kV) (g27 j hj) (by decide)
  refine J_putR hX (x + 28) fp_RX9_21 dX9_init_34 hXN (by rw [regK_out (by omega), upK_ne (by omega), regK_out (by omega), upK_ne (by omega)]; exact hk) rfl (by rw [regK_at (j := 0) (by omega) (by decide)]; decide) hC31 (fun M2 e1 hC34 => ?_)
  subst e1
  refine J_aload_n hX dX9_init_37 rfl ?_
  refine J_aload_n hX dX9_init_38 rfl ?_
  refine J_getq hX (x + 28) fr_RX9_21 dX9_init_39 (by rw [regK_out (by omega), upK_ne (by omega), regK_out (by omega), upK_ne (by omega)]; exact hk) rfl (by rw [mset_at (by decide)]; decide) ?_
  refine J_gr hX (x + 30) fr_RX9_16 dX9_init_42 (by rw [regK_at (j := 0) (by omega) (by decide)]; rfl) rfl ?_
  refine J_putR hX (x + 30) fp_RX9_24 dX9_init_45 hXN (by rw [regK_out (by omega), upK_ne (by omega), regK_out (by omega), upK_ne (by omega)]; exact hk) rfl (by rw [regK_at (j := 2) (by omega) (by decide)]; decide) hC34 (fun M2 e1 hC45 => ?_)
  subst e1
  refine J_aload_n hX dX9_init_48 rfl ?_
  refine J_new hX (x + 55) fn_RX9_27 dX9_init_49 (by rw [regK_out (by omega), upK_ne (by omega), regK_out (by omega), upK_ne (by omega)]; exact z55) g31 hC45 ⟨(by rw [regK_out (by omega), upK_ne (by omega), regK_out (by omega), upK_ne (by omega), hk]; decide), trivial⟩ ⟨(by rw [regK_out (by omega), upK_ne (by omega), regK_out (by omega), upK_ne (by omega), hk]; decide), trivial⟩ (by decide) (fun K2 M2 e1 e2 hC49 => ?_)
  subst e1 e2
  have g49 := fun j hj => upK_up (i := x + 55) (k := 100 + 1) (g31 j hj) (by decide)
  refine J_dup hX dX9_init_52 rfl ?_
  have hz53 : ∀ q : Nat, 1 ≤ q → q < 2 → (upK (regK (upK (regK (upK (K) (x + 1) (100 + 7)) (x + 1) 27 kV) (x + 28) (100 + 7)) (x + 28) 27 kV) (x + 55) (100 + 1)) (x + 55 + q) = 0 := fun q q0 q1 => by
    have hc : q = 1 := by omega
    rcases hc with rfl
    · exact (by rw [upK_ne (by omega), regK_out (by omega), upK_ne (by omega), regK_out (by omega), upK_ne (by omega)]; exact z56)
  refine J_callINK hX _ dX9_init_53 cw_RX9_29 (m_X1_init2 (h := x + 55) hE (by rw [upK_eq]; try rfl) hz53 hC49) rfl (Nat.le_of_ble_eq_true rfl) ⟨Nat.le_of_ble_eq_true rfl, by decide⟩ (by decide) (Or.inr ⟨g49, x + 55, (by rw [upK_eq]; decide), by rw [hXK]; exact z55⟩) ⟨(by rw [upK_ne (by omega), regK_out (by omega), upK_ne (by omega), regK_out (by omega), upK_ne (by omega), hk]; decide), trivial⟩ ⟨(by rw [upK_eq]; decide), ⟨(by rw [upK_ne (by omega), regK_out (by omega), upK_ne (by omega), regK_out (by omega), upK_ne (by omega), hk]; decide), trivial⟩⟩ (fun r K2 M2 h i hi => by rw [h.2.1]; exact regK_up hi (by decide)) (fun r K2 M53 h53 => ?_)
  obtain ⟨rfl, rfl, fM53, pM53, hq53, hC53⟩ := h53
  have g53 := fun j hj => regK_up (lo := x + 55) (n := 2) (kf := kH) (g49 j hj) (by decide)
  refine J_putR hX (x + 55) fp_RX9_30 dX9_init_56 hXN (by rw [regK_out (by omega), upK_ne (by omega), regK_out (by omega), upK_ne (by omega), regK_out (by omega), upK_ne (by omega)]; exact hk) rfl (by rw [regK_at (j := 0) (by omega) (by decide)]; decide) hC53 (fun M2 e1 hC56 => ?_)
  subst e1
  refine J_aload_n hX dX9_init_59 rfl ?_
  refine J_new hX (x + 57) fn_RX9_34 dX9_init_60 (by rw [regK_out (by omega), upK_ne (by omega), regK_out (by omega), upK_ne (by omega), regK_out (by omega), upK_ne (by omega)]; exact z57) g53 hC56 ⟨(by rw [regK_out (by omega), upK_ne (by omega), regK_out (by omega), upK_ne (by omega), regK_out (by omega), upK_ne (by omega), hk]; decide), trivial⟩ ⟨(by rw [regK_out (by omega), upK_ne (by omega), regK_out (by omega), upK_ne (by omega), regK_out (by omega), upK_ne (by omega), hk]; decide), trivial⟩ (by decide) (fun K2 M2 e1 e2 hC60 => ?_)
  subst e1 e2
  have g60 := fun j hj => upK_up (i := x + 57) (k := 100 + 4) (g53 j hj) (by decide)
  refine J_dup hX dX9_init_63 rfl ?_
  have hz64 : ∀ q : Nat, 1 ≤ q → q < 3 → (upK (regK (upK (regK (upK (regK (upK (K) (x + 1) (100 + 7)) (x + 1) 27 kV) (x + 28) (100 + 7)) (x + 28) 27 kV) (x + 55) (100 + 1)) (x + 55) 2 kH) (x + 57) (100 + 4)) (x + 57 + q) = 0 := fun q q0 q1 => by
    have hc : q = 1 ∨ q = 2 := by omega
    rcases hc with rfl | rfl
    · exact (by rw [upK_ne (by omega), regK_out (by omega), upK_ne (by omega), regK_out (by omega), upK_ne (by omega), regK_out (by omega), upK_ne (by omega)]; exact z58)
    · exact (by rw [upK_ne (by omega), regK_out (by omega), upK_ne (by omega), regK_out (by omega), upK_ne (by omega), regK_out (by omega), upK_ne (by omega)]; exact z59)
  refine J_callINK hX _ dX9_init_64 cw_RX9_36 (m_X4_init (c := x + 57) (by rw [upK_eq]; try rfl) hz64 hC60) rfl (Nat.le_of_ble_eq_true rfl) ⟨Nat.le_of_ble_eq_true rfl, by decide⟩ (by decide) (Or.inr ⟨g60, x + 57, (by rw [upK_eq]; decide), by rw [hXK]; exact z57⟩) ⟨(by rw [upK_ne (by omega), regK_out (by omega), upK_ne (by omega), regK_out (by omega), upK_ne (by omega), regK_out (by omega), upK_ne (by omega), hk]; decide), trivial⟩ ⟨(by rw [upK_eq]; decide), ⟨(by rw [upK_ne (by omega), regK_out (by omega), upK_ne (by omega), regK_out (by omega), upK_ne (by omega), regK_out (by omega), upK_ne (by omega), hk]; decide), trivial⟩⟩ (fun r K2 M2 h i hi => by rw [h.2.1]; exact regK_up hi (by decide)) (fun r K2 M64 h64 => ?_)
  obtain ⟨rfl, rfl, fM64, pM64, hC64⟩ := h64
  obtain ⟨pM64_0, pM64_1, pM64_2⟩ := pM64
  have g64 := fun j hj => regK_up (lo := x + 57) (n := 3) (kf := kW) (g60 j hj) (by decide)
  refine J_putR hX (x + 57) fp_RX9_37 dX9_init_67 hXN (by rw [regK_out (by omega), upK_ne (by omega), regK_out (by omega), upK_ne (by omega), regK_out (by omega), upK_ne (by omega), regK_out (by omega), upK_ne (by omega)]; exact hk) rfl (by rw [regK_at (j := 0) (by omega) (by decide)]; decide) hC64 (fun M2 e1 hC67 => ?_)
  subst e1
  refine J_aload_n hX dX9_init_70 rfl ?_
  refine J_iconst hX dX9_init_71 ?_
  refine J_putq hX fw_RX9_41 dX9_init_72 (by rw [regK_out (by omega), upK_ne (by omega), regK_out (by omega), upK_ne (by omega), regK_out (by omega), upK_ne (by omega), regK_out (by omega), upK_ne (by omega)]; exact hk) (by decide) (Or.inr ⟨rfl, by decide⟩) hC67 (fun M2 e1 hC72 => ?_)
  subst e1
  refine J_seal (i := x) (k := 8) (by rw [regK_out (by omega), upK_ne (by omega), regK_out (by omega), upK_ne (by omega), regK_out (by omega), upK_ne (by omega), regK_out (by omega), upK_ne (by omega)]; exact hk) (by decide) (by rw [hXK, hk]; decide) hC72 (fun f o hf hr => ?_) (fun K2 e1 hCz => ?_)
  · have hc : f = 0 ∨ f = 1 ∨ f = 2 ∨ f = 3 ∨ f = 4 ∨ f = 5 ∨ f = 6 := by
      have : nf 8 = 7 := rfl
      omega
    rcases hc with rfl | rfl | rfl | rfl | rfl | rfl | rfl
    · rw [show (100 + ((0 : Nat) : Int)) = 100 from rfl, mset_nj (by decide), mset_nj (by decide), fM64 _ (by omega), upM_ne (by omega), mset_nj (by decide), fM53 _ (by omega), upM_ne (by omega), mset_nj (by decide), mset_nj (by decide), fM31 _ (by omega), upM_ne (by omega), mset_nj (by decide), mset_at (by decide)]; decide
    · rw [show (100 + ((1 : Nat) : Int)) = 101 from rfl, mset_nj (by decide), mset_nj (by decide), fM64 _ (by omega), upM_ne (by omega), mset_nj (by decide), fM53 _ (by omega), upM_ne (by omega), mset_nj (by decide), mset_nj (by decide), fM31 _ (by omega), upM_ne (by omega), mset_at (by decide)]; decide
    · rw [show (100 + ((2 : Nat) : Int)) = 102 from rfl, mset_nj (by decide), mset_nj (by decide), fM64 _ (by omega), upM_ne (by omega), mset_nj (by decide), fM53 _ (by omega), upM_ne (by omega), mset_nj (by decide), mset_at (by decide)]; decide
    · rw [show (100 + ((3 : Nat) : Int)) = 103 from rfl, mset_nj (by decide), mset_nj (by decide), fM64 _ (by omega), upM_ne (by omega), mset_nj (by decide), fM53 _ (by omega), upM_ne (by omega), mset_at (by decide)]; decide
    · rw [show (100 + ((4 : Nat) : Int)) = 104 from rfl, mset_nj (by decide), mset_nj (by decide), fM64 _ (by omega), upM_ne (by omega), mset_at (by decide)]; decide
    · rw [show (100 + ((5 : Nat) : Int)) = 105 from rfl, mset_nj (by decide), mset_at (by decide)]; decide
    · cases hr
  have hKz : K2 = regK K (x) 60 kX := regK_ext (fun j hj => by
      have hc : j = 0 ∨ j = 1 ∨ j = 2 ∨ j = 3 ∨ j = 4 ∨ j = 5 ∨ j = 6 ∨ j = 7 ∨ j = 8 ∨ j = 9 ∨ j = 10 ∨ j = 11 ∨ j = 12 ∨ j = 13 ∨ j = 14 ∨ j = 15 ∨ j = 16 ∨ j = 17 ∨ j = 18 ∨ j = 19 ∨ j = 20 ∨ j = 21 ∨ j = 22 ∨ j = 23 ∨ j = 24 ∨ j = 25 ∨ j = 26 ∨ j = 27 ∨ j = 28 ∨ j = 29 ∨ j = 30 ∨ j = 31 ∨ j = 32 ∨ j = 33 ∨ j = 34 ∨ j = 35 ∨ j = 36 ∨ j = 37 ∨ j = 38 ∨ j = 39 ∨ j = 40 ∨ j = 41 ∨ j = 42 ∨ j = 43 ∨ j = 44 ∨ j = 45 ∨ j = 46 ∨ j = 47 ∨ j = 48 ∨ j = 49 ∨ j = 50 ∨ j = 51 ∨ j = 52 ∨ j = 53 ∨ j = 54 ∨ j = 55 ∨ j = 56 ∨ j = 57 ∨ j = 58 ∨ j = 59 := by omega
      rcases hc with rfl | rfl | rfl | rfl | rfl | rfl | rfl | rfl | rfl | rfl | rfl | rfl | rfl | rfl | rfl | rfl | rfl | rfl | rfl | rfl | rfl | rfl | rfl | rfl | rfl | rfl | rfl | rfl | rfl | rfl | rfl | rfl | rfl | rfl | rfl | rfl | rfl | rfl | rfl | rfl | rfl | rfl | rfl | rfl | rfl | rfl | rfl | rfl | rfl | rfl | rfl | rfl | rfl | rfl | rfl | rfl | rfl | rfl | rfl | rfl
      · show K2 (x) = _; rw [e1, upK_eq]; try rfl
      · show K2 (x + 1) = _; rw [e1, upK_ne (by omega), regK_out (by omega), upK_ne (by omega), regK_out (by omega), upK_ne (by omega), regK_out (by omega), upK_ne (by omega), regK_at (j := 0) (by omega) (by decide)]; try rfl
      · show K2 (x + 2) = _; rw [e1, upK_ne (by omega), regK_out (by omega), upK_ne (by omega), regK_out (by omega), upK_ne (by omega), regK_out (by omega), upK_ne (by omega), regK_at (j := 1) (by omega) (by decide)]; try rfl
      · show K2 (x + 3) = _; rw [e1, upK_ne (by omega), regK_out (by omega), upK_ne (by omega), regK_out (by omega), upK_ne (by omega), regK_out (by omega), upK_ne (by omega), regK_at (j := 2) (by omega) (by decide)]; try rfl
      · show K2 (x + 4) = _; rw [e1, upK_ne (by omega), regK_out (by omega), upK_ne (by omega), regK_out (by omega), upK_ne (by omega), regK_out (by omega), upK_ne (by omega), regK_at (j := 3) (by omega) (by decide)]; try rfl
      · show K2 (x + 5) = _; rw [e1, upK_ne (by omega), regK_out (by omega), upK_ne (by omega), regK_out (by omega), upK_ne (by omega), regK_out (by omega), upK_ne (by omega), regK_at (j := 4) (by omega) (by decide)]; try rfl
      · show K2 (x + 6) = _; rw [e1, upK_ne (by omega), regK_out (by omega), upK_ne (by omega), regK_out (by omega), upK_ne (by omega), regK_out (by omega), upK_ne (by omega), regK_at (j := 5) (by omega) (by decide)]; try rfl
      · show K2 (x + 7) = _; rw [e1, upK_ne (by omega), regK_out (by omega), upK_ne (by omega), regK_out (by omega), upK_ne (by omega), regK_out (by omega), upK_ne (by omega), regK_at (j := 6) (by omega) (by decide)]; try rfl
      · show K2 (x + 8) = _; rw [e1, upK_ne (by omega), regK_out (by omega), upK_ne (by omega), regK_out (by omega), upK_ne (by omega), regK_out (by omega), upK_ne (by omega), regK_at (j := 7) (by omega) (by decide)]; try rfl
      · show K2 (x + 9) = _; rw [e1, upK_ne (by omega), regK_out (by omega), upK_ne (by omega), regK_out (by omega), upK_ne (by omega), regK_out (by omega), upK_ne (by omega), regK_at (j := 8) (by omega) (by decide)]; try rfl
      · show K2 (x + 10) = _; rw [e1, upK_ne (by omega), regK_out (by omega), upK_ne (by omega), regK_out (by omega), upK_ne (by omega), regK_out (by omega), upK_ne (by omega), regK_at (j := 9) (by omega) (by decide)]; try rfl
      · show K2 (x + 11) = _; rw [e1, upK_ne (by omega), regK_out (by omega), upK_ne (by omega), regK_out (by omega), upK_ne (by omega), regK_out (by omega), upK_ne (by omega), regK_at (j := 10) (by omega) (by decide)]; try rfl
      · show K2 (x + 12) = _; rw [e1, upK_ne (by omega), regK_out (by omega), upK_ne (by omega), regK_out (by omega), upK_ne (by omega), regK_out (by omega), upK_ne (by omega), regK_at (j := 11) (by omega) (by decide)]; try rfl
      · show K2 (x + 13) = _; rw [e1, upK_ne (by omega), regK_out (by omega), upK_ne (by omega), regK_out (by omega), upK_ne (by omega), regK_out (by omega), upK_ne (by omega), regK_at (j := 12) (by omega) (by decide)]; try rfl
      · show K2 (x + 14) = _; rw [e1, upK_ne (by omega), regK_out (by omega), upK_ne (by omega), regK_out (by omega), upK_ne (by omega), regK_out (by omega), upK_ne (by omega), regK_at (j := 13) (by omega) (by decide)]; try rfl
      · show K2 (x + 15) = _; rw [e1, upK_ne (by omega), regK_out (by omega), upK_ne (by omega), regK_out (by omega), upK_ne (by omega), regK_out (by omega), upK_ne (by omega), regK_at (j := 14) (by omega) (by decide)]; try rfl
      · show K2 (x + 16) = _; rw [e1, upK_ne (by omega), regK_out (by omega), upK_ne (by omega), regK_out (by omega), upK_ne (by omega), regK_out (by omega), upK_ne (by omega), regK_at (j := 15) (by omega) (by decide)]; try rfl
      · show K2 (x + 17) = _; rw [e1, upK_ne (by omega), regK_out (by omega), upK_ne (by omega), regK_out (by omega), upK_ne (by omega), regK_out (by omega), upK_ne (by omega), regK_at (j := 16) (by omega) (by decide)]; try rfl
      · show K2 (x + 18) = _; rw [e1, upK_ne (by omega), regK_out (by omega), upK_ne (by omega), regK_out (by omega), upK_ne (by omega), regK_out (by omega), upK_ne (by omega), regK_at (j := 17) (by omega) (by decide)]; try rfl
      · show K2 (x + 19) = _; rw [e1, upK_ne (by omega), regK_out (by omega), upK_ne (by omega), regK_out (by omega), upK_ne (by omega), regK_out (by omega), upK_ne (by omega), regK_at (j := 18) (by omega) (by decide)]; try rfl
      · show K2 (x + 20) = _; rw [e1, upK_ne (by omega), regK_out (by omega), upK_ne (by omega), regK_out (by omega), upK_ne (by omega), regK_out (by omega), upK_ne (by omega), regK_at (j := 19) (by omega) (by decide)]; try rfl
      · show K2 (x + 21) = _; rw [e1, upK_ne (by omega), regK_out (by omega), upK_ne (by omega), regK_out (by omega), upK_ne (by omega), regK_out (by omega), upK_ne (by omega), regK_at (j := 20) (by omega) (by decide)]; try rfl
      · show K2 (x + 22) = _; rw [e1, upK_ne (by omega), regK_out (by omega), upK_ne (by omega), regK_out (by omega), upK_ne (by omega), regK_out (by omega), upK_ne (by omega), regK_at (j := 21) (by omega) (by decide)]; try rfl
      · show K2 (x + 23) = _; rw [e1, upK_ne (by omega), regK_out (by omega), upK_ne (by omega), regK_out (by omega), upK_ne (by omega), regK_out (by omega), upK_ne (by omega), regK_at (j := 22) (by omega) (by decide)]; try rfl
      · show K2 (x + 24) = _; rw [e1, upK_ne (by omega), regK_out (by omega), upK_ne (by omega), regK_out (by omega), upK_ne (by omega), regK_out (by omega), upK_ne (by omega), regK_at (j := 23) (by omega) (by decide)]; try rfl
      · show K2 (x + 25) = _; rw [e1, upK_ne (by omega), regK_out (by omega), upK_ne (by omega), regK_out (by omega), upK_ne (by omega), regK_out (by omega), upK_ne (by omega), regK_at (j := 24) (by omega) (by decide)]; try rfl
      · show K2 (x + 26) = _; rw [e1, upK_ne (by omega), regK_out (by omega), upK_ne (by omega), regK_out (by omega), upK_ne (by omega), regK_out (by omega), upK_ne (by omega), regK_at (j := 25) (by omega) (by decide)]; try rfl
      · show K2 (x + 27) = _; rw [e1, upK_ne (by omega), regK_out (by omega), upK_ne (by omega), regK_out (by omega), upK_ne (by omega), regK_out (by omega), upK_ne (by omega), regK_at (j := 26) (by omega) (by decide)]; try rfl
      · show K2 (x + 28) = _; rw [e1, upK_ne (by omega), regK_out (by omega), upK_ne (by omega), regK_out (by omega), upK_ne (by omega), regK_at (j := 0) (by omega) (by decide)]; try rfl
      · show K2 (x + 29) = _; rw [e1, upK_ne (by omega), regK_out (by omega), upK_ne (by omega), regK_out (by omega), upK_ne (by omega), regK_at (j := 1) (by omega) (by decide)]; try rfl
      · show K2 (x + 30) = _; rw [e1, upK_ne (by omega), regK_out (by omega), upK_ne (by omega), regK_out (by omega), upK_ne (by omega), regK_at (j := 2) (by omega) (by decide)]; try rfl
      · show K2 (x + 31) = _; rw [e1, upK_ne (by omega), regK_out (by omega), upK_ne (by omega), regK_out (by omega), upK_ne (by omega), regK_at (j := 3) (by omega) (by decide)]; try rfl
      · show K2 (x + 32) = _; rw [e1, upK_ne (by omega), regK_out (by omega), upK_ne (by omega), regK_out (by omega), upK_ne (by omega), regK_at (j := 4) (by omega) (by decide)]; try rfl
      · show K2 (x + 33) = _; rw [e1, upK_ne (by omega), regK_out (by omega), upK_ne (by omega), regK_out (by omega), upK_ne (by omega), regK_at (j := 5) (by omega) (by decide)]; try rfl
      · show K2 (x + 34) = _; rw [e1, upK_ne (by omega), regK_out (by omega), upK_ne (by omega), regK_out (by omega), upK_ne (by omega), regK_at (j := 6) (by omega) (by decide)]; try rfl
      · show K2 (x + 35) = _; rw [e1, upK_ne (by omega), regK_out (by omega), upK_ne (by omega), regK_out (by omega), upK_ne (by omega), regK_at (j := 7) (by omega) (by decide)]; try rfl
      · show K2 (x + 36) = _; rw [e1, upK_ne (by omega), regK_out (by omega), upK_ne (by omega), regK_out (by omega), upK_ne (by omega), regK_at (j := 8) (by omega) (by decide)]; try rfl
      · show K2 (x + 37) = _; rw [e1, upK_ne (by omega), regK_out (by omega), upK_ne (by omega), regK_out (by omega), upK_ne (by omega), regK_at (j := 9) (by omega) (by decide)]; try rfl
      · show K2 (x + 38) = _; rw [e1, upK_ne (by omega), regK_out (by omega), upK_ne (by omega), regK_out (by omega), upK_ne (by omega), regK_at (j := 10) (by omega) (by decide)]; try rfl
      · show K2 (x + 39) = _; rw [e1, upK_ne (by omega), regK_out (by omega), upK_ne (by omega), regK_out (by omega), upK_ne (by omega), regK_at (j := 11) (by omega) (by decide)]; try rfl
      · show K2 (x + 40) = _; rw [e1, upK_ne (by omega), regK_out (by omega), upK_ne (by omega), regK_out (by omega), upK_ne (by omega), regK_at (j := 12) (by omega) (by decide)]; try rfl
      · show K2 (x + 41) = _; rw [e1, upK_ne (by omega), regK_out (by omega), upK_ne (by omega), regK_out (by omega), upK_ne (by omega), regK_at (j := 13) (by omega) (by decide)]; try rfl
      · show K2 (x + 42) = _; rw [e1, upK_ne (by omega), regK_out (by omega), upK_ne (by omega), regK_out (by omega), upK_ne (by omega), regK_at (j := 14) (by omega) (by decide)]; try rfl
      · show K2 (x + 43) = _; rw [e1, upK_ne (by omega), regK_out (by omega), upK_ne (by omega), regK_out (by omega), upK_ne (by omega), regK_at (j := 15) (by omega) (by decide)]; try rfl
      · show K2 (x + 44) = _; rw [e1, upK_ne (by omega), regK_out (by omega), upK_ne (by omega), regK_out (by omega), upK_ne (by omega), regK_at (j := 16) (by omega) (by decide)]; try rfl
      · show K2 (x + 45) = _; rw [e1, upK_ne (by omega), regK_out (by omega), upK_ne (by omega), regK_out (by omega), upK_ne (by omega), regK_at (j := 17) (by omega) (by decide)]; try rfl
      · show K2 (x + 46) = _; rw [e1, upK_ne (by omega), regK_out (by omega), upK_ne (by omega), regK_out (by omega), upK_ne (by omega), regK_at (j := 18) (by omega) (by decide)]; try rfl
      · show K2 (x + 47) = _; rw [e1, upK_ne (by omega), regK_out (by omega), upK_ne (by omega), regK_out (by omega), upK_ne (by omega), regK_at (j := 19) (by omega) (by decide)]; try rfl
      · show K2 (x + 48) = _; rw [e1, upK_ne (by omega), regK_out (by omega), upK_ne (by omega), regK_out (by omega), upK_ne (by omega), regK_at (j := 20) (by omega) (by decide)]; try rfl
      · show K2 (x + 49) = _; rw [e1, upK_ne (by omega), regK_out (by omega), upK_ne (by omega), regK_out (by omega), upK_ne (by omega), regK_at (j := 21) (by omega) (by decide)]; try rfl
      · show K2 (x + 50) = _; rw [e1, upK_ne (by omega), regK_out (by omega), upK_ne (by omega), regK_out (by omega), upK_ne (by omega), regK_at (j := 22) (by omega) (by decide)]; try rfl
      · show K2 (x + 51) = _; rw [e1, upK_ne (by omega), regK_out (by omega), upK_ne (by omega), regK_out (by omega), upK_ne (by omega), regK_at (j := 23) (by omega) (by decide)]; try rfl
      · show K2 (x + 52) = _; rw [e1, upK_ne (by omega), regK_out (by omega), upK_ne (by omega), regK_out (by omega), upK_ne (by omega), regK_at (j := 24) (by omega) (by decide)]; try rfl
      · show K2 (x + 53) = _; rw [e1, upK_ne (by omega), regK_out (by omega), upK_ne (by omega), regK_out (by omega), upK_ne (by omega), regK_at (j := 25) (by omega) (by decide)]; try rfl
      · show K2 (x + 54) = _; rw [e1, upK_ne (by omega), regK_out (by omega), upK_ne (by omega), regK_out (by omega), upK_ne (by omega), regK_at (j := 26) (by omega) (by decide)]; try rfl
      · show K2 (x + 55) = _; rw [e1, upK_ne (by omega), regK_out (by omega), upK_ne (by omega), regK_at (j := 0) (by omega) (by decide)]; try rfl
      · show K2 (x + 56) = _; rw [e1, upK_ne (by omega), regK_out (by omega), upK_ne (by omega), regK_at (j := 1) (by omega) (by decide)]; try rfl
      · show K2 (x + 57) = _; rw [e1, upK_ne (by omega), regK_at (j := 0) (by omega) (by decide)]; try rfl
      · show K2 (x + 58) = _; rw [e1, upK_ne (by omega), regK_at (j := 1) (by omega) (by decide)]; try rfl
      · show K2 (x + 59) = _; rw [e1, upK_ne (by omega), regK_at (j := 2) (by omega) (by decide)]; try rfl) (fun i hi => by rw [e1, upK_ne (by omega), regK_out (by omega), upK_ne (by omega), regK_out (by omega), upK_ne (by omega), regK_out (by omega), upK_ne (by omega), regK_out (by omega), upK_ne (by omega)])
  subst hKz
  exact J_vret hX hQ dX9_init_75 ⟨rfl, rfl, fun i hi => by rw [mset_ne (by omega), mset_ne (by omega), fM64 _ (by omega), upM_ne (by omega), mset_ne (by omega), fM53 _ (by omega), upM_ne (by omega), mset_ne (by omega), mset_ne (by omega), fM31 _ (by omega), upM_ne (by omega), mset_ne (by omega), mset_ne (by omega), fM9 _ (by omega), upM_ne (by omega)], ⟨by rw [mset_ne (by omega), mset_ne (by omega), fM64 _ (by omega), upM_ne (by omega), mset_ne (by omega), fM53 _ (by omega), upM_ne (by omega), mset_ne (by omega), mset_ne (by omega), fM31 _ (by omega), upM_ne (by omega), mset_ne (by omega), mset_ne (by omega), pM9_0], by rw [mset_ne (by omega), mset_ne (by omega), fM64 _ (by omega), upM_ne (by omega), mset_ne (by omega), fM53 _ (by omega), upM_ne (by omega), mset_ne (by omega), mset_ne (by omega), fM31 _ (by omega), upM_ne (by omega), mset_ne (by omega), mset_ne (by omega), pM9_1], by rw [mset_ne (by omega), mset_ne (by omega), fM64 _ (by omega), upM_ne (by omega), mset_ne (by omega), fM53 _ (by omega), upM_ne (by omega), mset_ne (by omega), mset_ne (by omega), fM31 _ (by omega), upM_ne (by omega), mset_ne (by omega), mset_ne (by omega), pM9_2], by rw [mset_ne (by omega), mset_ne (by omega), fM64 _ (by omega), upM_ne (by omega), mset_ne (by omega), fM53 _ (by omega), upM_ne (by omega), mset_ne (by omega), mset_ne (by omega), fM31 _ (by omega), upM_ne (by omega), mset_ne (by omega), mset_ne (by omega), pM9_3], by rw [mset_ne (by omega), mset_ne (by omega), fM64 _ (by omega), upM_ne (by omega), mset_ne (by omega), fM53 _ (by omega), upM_ne (by omega), mset_ne (by omega), mset_ne (by omega), fM31 _ (by omega), upM_ne (by omega), mset_ne (by omega), mset_ne (by omega), pM9_4], by rw [mset_ne (by omega), mset_ne (by omega), fM64 _ (by omega), upM_ne (by omega), mset_ne (by omega), fM53 _ (by omega), upM_ne (by omega), mset_ne (by omega), mset_ne (by omega), fM31 _ (by omega), upM_ne (by omega), mset_ne (by omega), mset_ne (by omega), pM9_5], by rw [mset_ne (by omega), mset_ne (by omega), fM64 _ (by omega), upM_ne (by omega), mset_ne (by omega), fM53 _ (by omega), upM_ne (by omega), mset_ne (by omega), mset_ne (by omega), fM31 _ (by omega), upM_ne (by omega), mset_ne (by omega), mset_ne (by omega), pM9_6], by rw [mset_ne (by omega), mset_ne (by omega), fM64 _ (by omega), upM_ne (by omega), mset_ne (by omega), fM53 _ (by omega), upM_ne (by omega), mset_ne (by omega), mset_ne (by omega), fM31 _ (by omega), upM_ne (by omega), mset_ne (by omega), mset_ne (by omega), pM9_7], by rw [mset_ne (by omega), mset_ne (by omega), fM64 _ (by omega), upM_ne (by omega), mset_ne (by omega), fM53 _ (by omega), upM_ne (by omega), mset_ne (by omega), mset_ne (by omega), fM31 _ (by omega), upM_ne (by omega), mset_ne (by omega), mset_ne (by omega), pM9_8], by rw [mset_ne (by omega), mset_ne (by omega), fM64 _ (by omega), upM_ne (by omega), mset_ne (by omega), fM53 _ (by omega), upM_ne (by omega), mset_ne (by omega), mset_ne (by omega), fM31 _ (by omega), upM_ne (by omega), mset_ne (by omega), mset_ne (by omega), pM9_9], by rw [mset_ne (by omega), mset_ne (by omega), fM64 _ (by omega), upM_ne (by omega), mset_ne (by omega), fM53 _ (by omega), upM_ne (by omega), mset_ne (by omega), mset_ne (by omega), fM31 _ (by omega), upM_ne (by omega), mset_ne (by omega), mset_ne (by omega), pM9_10], by rw [mset_ne (by omega), mset_ne (by omega), fM64 _ (by omega), upM_ne (by omega), mset_ne (by omega), fM53 _ (by omega), upM_ne (by omega), mset_ne (by omega), mset_ne (by omega), fM31 _ (by omega), upM_ne (by omega), mset_ne (by omega), mset_ne (by omega), pM9_11], by rw [mset_ne (by omega), mset_ne (by omega), fM64 _ (by omega), upM_ne (by omega), mset_ne (by omega), fM53 _ (by omega), upM_ne (by omega), mset_ne (by omega), mset_ne (by omega), fM31 _ (by omega), upM_ne (by omega), mset_ne (by omega), mset_ne (by omega), pM9_12], by rw [mset_ne (by omega), mset_ne (by omega), fM64 _ (by omega), upM_ne (by omega), mset_ne (by omega), fM53 _ (by omega), upM_ne (by omega), mset_ne (by omega), mset_ne (by omega), fM31 _ (by omega), upM_ne (by omega), mset_ne (by omega), mset_ne (by omega), pM9_13], by rw [mset_ne (by omega), mset_ne (by omega), fM64 _ (by omega), upM_ne (by omega), mset_ne (by omega), fM53 _ (by omega), upM_ne (by omega), mset_ne (by omega), mset_ne (by omega), pM31_0], by rw [mset_ne (by omega), mset_ne (by omega), fM64 _ (by omega), upM_ne (by omega), mset_ne (by omega), fM53 _ (by omega), upM_ne (by omega), mset_ne (by omega), mset_ne (by omega), pM31_1], by rw [mset_ne (by omega), mset_ne (by omega), fM64 _ (by omega), upM_ne (by omega), mset_ne (by omega), fM53 _ (by omega), upM_ne (by omega), mset_ne (by omega), mset_ne (by omega), pM31_2], by rw [mset_ne (by omega), mset_ne (by omega), fM64 _ (by omega), upM_ne (by omega), mset_ne (by omega), fM53 _ (by omega), upM_ne (by omega), mset_ne (by omega), mset_ne (by omega), pM31_3], by rw [mset_ne (by omega), mset_ne (by omega), fM64 _ (by omega), upM_ne (by omega), mset_ne (by omega), fM53 _ (by omega), upM_ne (by omega), mset_ne (by omega), mset_ne (by omega), pM31_4], by rw [mset_ne (by omega), mset_ne (by omega), fM64 _ (by omega), upM_ne (by omega), mset_ne (by omega), fM53 _ (by omega), upM_ne (by omega), mset_ne (by omega), mset_ne (by omega), pM31_5], by rw [mset_ne (by omega), mset_ne (by omega), fM64 _ (by omega), upM_ne (by omega), mset_ne (by omega), fM53 _ (by omega), upM_ne (by omega), mset_ne (by omega), mset_ne (by omega), pM31_6], by rw [mset_ne (by omega), mset_ne (by omega), fM64 _ (by omega), upM_ne (by omega), mset_ne (by omega), fM53 _ (by omega), upM_ne (by omega), mset_ne (by omega), mset_ne (by omega), pM31_7], by rw [mset_ne (by omega), mset_ne (by omega), fM64 _ (by omega), upM_ne (by omega), mset_ne (by omega), fM53 _ (by omega), upM_ne (by omega), mset_ne (by omega), mset_ne (by omega), pM31_8], by rw [mset_ne (by omega), mset_ne (by omega), fM64 _ (by omega), upM_ne (by omega), mset_ne (by omega), fM53 _ (by omega), upM_ne (by omega), mset_ne (by omega), mset_ne (by omega), pM31_9], by rw [mset_ne (by omega), mset_ne (by omega), fM64 _ (by omega), upM_ne (by omega), mset_ne (by omega), fM53 _ (by omega), upM_ne (by omega), mset_ne (by omega), mset_ne (by omega), pM31_10], by rw [mset_ne (by omega), mset_ne (by omega), fM64 _ (by omega), upM_ne (by omega), mset_ne (by omega), fM53 _ (by omega), upM_ne (by omega), mset_ne (by omega), mset_ne (by omega), pM31_11], by rw [mset_ne (by omega), mset_ne (by omega), fM64 _ (by omega), upM_ne (by omega), mset_ne (by omega), fM53 _ (by omega), upM_ne (by omega), mset_ne (by omega), mset_ne (by omega), pM31_12], by rw [mset_ne (by omega), mset_ne (by omega), fM64 _ (by omega), upM_ne (by omega), mset_ne (by omega), fM53 _ (by omega), upM_ne (by omega), mset_ne (by omega), mset_ne (by omega), pM31_13], by rw [mset_at (by decide)], by rw [mset_ne (by omega), mset_ne (by omega), fM64 _ (by omega), upM_ne (by omega), mset_ne (by omega), pM53, upM_eq]; rfl, by rw [mset_ne (by omega), mset_ne (by omega), pM64_0, upM_eq]; rfl, by rw [mset_ne (by omega), mset_ne (by omega), pM64_1, upM_eq]; rfl, by rw [mset_ne (by omega), mset_ne (by omega), pM64_2, upM_eq]; rfl⟩, by rw [mset_ne (by omega), mset_ne (by omega), fM64 _ (by omega), upM_ne (by omega), mset_ne (by omega)]; exact hq53, hCz⟩ (by decide) (by decide)
