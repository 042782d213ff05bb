/-! the reference: its constructor -/
theorem fp_RX10_7 : FP RX10 7 9 0 1 := ⟨fr_RX10_7, fun C T N h => by cases h; exact ⟨rfl, rfl, tyX10 0, tyX10_ok 0 (by decide), fun a => ⟨rfl, rfl⟩⟩⟩
theorem fp_RX10_13 : FP RX10 13 9 1 2 := ⟨fr_RX10_13, fun C T N h => by cases h; exact ⟨rfl, rfl, tyX10 1, tyX10_ok 1 (by decide), fun a => ⟨rfl, rfl⟩⟩⟩
theorem fp_RX10_16 : FP RX10 16 9 2 3 := ⟨fr_RX10_16, fun C T N h => by cases h; exact ⟨rfl, rfl, tyX10 2, tyX10_ok 2 (by decide), fun a => ⟨rfl, rfl⟩⟩⟩
theorem fp_RX10_19 : FP RX10 19 9 4 4 := ⟨fr_RX10_19, fun C T N h => by cases h; exact ⟨rfl, rfl, tyX10 4, tyX10_ok 4 (by decide), fun a => ⟨rfl, rfl⟩⟩⟩
theorem fp_RX10_22 : FP RX10 22 9 7 5 := ⟨fr_RX10_22, fun C T N h => by cases h; exact ⟨rfl, rfl, tyX10 7, tyX10_ok 7 (by decide), fun a => ⟨rfl, rfl⟩⟩⟩
theorem fp_RX10_25 : FP RX10 25 9 8 6 := ⟨fr_RX10_25, fun C T N h => by cases h; exact ⟨rfl, rfl, tyX10 8, tyX10_ok 8 (by decide), fun a => ⟨rfl, rfl⟩⟩⟩
theorem fp_RX10_28 : FP RX10 28 9 9 7 := ⟨fr_RX10_28, fun C T N h => by cases h; exact ⟨rfl, rfl, tyX10 9, tyX10_ok 9 (by decide), fun a => ⟨rfl, rfl⟩⟩⟩
theorem fp_RX10_31 : FP RX10 31 9 10 8 := ⟨fr_RX10_31, fun C T N h => by cases h; exact ⟨rfl, rfl, tyX10 10, tyX10_ok 10 (by decide), fun a => ⟨rfl, rfl⟩⟩⟩
theorem fp_RX10_34 : FP RX10 34 9 11 9 := ⟨fr_RX10_34, fun C T N h => by cases h; exact ⟨rfl, rfl, tyX10 11, tyX10_ok 11 (by decide), fun a => ⟨rfl, rfl⟩⟩⟩
theorem fp_RX10_37 : FP RX10 37 9 13 10 := ⟨fr_RX10_37, fun C T N h => by cases h; exact ⟨rfl, rfl, tyX10 13, tyX10_ok 13 (by decide), fun a => ⟨rfl, rfl⟩⟩⟩
theorem fp_RX10_40 : FP RX10 40 9 22 11 := ⟨fr_RX10_40, fun C T N h => by cases h; exact ⟨rfl, rfl, tyX10 22, tyX10_ok 22 (by decide), fun a => ⟨rfl, rfl⟩⟩⟩
set_option maxHeartbeats 4000000 in
set_option maxRecDepth 100000 in
theorem m_X10_init {E : EE} {K : Nat → Nat} {M : MM} {g : Nat} (hk : K (g) = 100 + 9) (hz : ∀ j, 1 ≤ j → j < 12 → K (g + j) = 0) (hC : Cl K M) : Cn E 1 yX10_init cX10_init 1 none [.ref (g)] K M (fun r K' M' => r = none ∧ K' = regK K (g) 12 kM ∧ (∀ i, i < g ∨ g + 12 ≤ i → M' i = M i) ∧ (M' (g) 3 = M (g) 3 ∧ M' (g) 5 = M (g) 5 ∧ M' (g + 1) 0 = 80 ∧ M' (g + 1) 1 = 40 ∧ M' (g + 1) 2 = 0 ∧ M' (g + 1) 3 = 0 ∧ M' (g + 1) 4 = 0 ∧ M' (g + 1) 5 = -5 ∧ M' (g + 1) 6 = 5 ∧ M' (g + 1) 7 = 20 ∧ M' (g + 1) 8 = 1 ∧ M' (g + 1) 9 = 4 ∧ M' (g + 1) 10 = 10 ∧ M' (g + 1) 13 = 0) ∧ Cl K' M') 11 1464 := by
  refine Cn_ofC RX10 (plainFor_of_name (by decide)) rfl (Nat.le_of_ble_eq_true rfl) (fun X hX hQ hXK hXN0 => ?_)
  have hXN : XN X = "<init>" := hXN0
  have z1 : K (g + 1) = 0 := hz 1 (by decide) (by decide)
  have z2 : K (g + 2) = 0 := hz 2 (by decide) (by decide)
  have z3 : K (g + 3) = 0 := hz 3 (by decide) (by decide)
  have z4 : K (g + 4) = 0 := hz 4 (by decide) (by decide)
  have z5 : K (g + 5) = 0 := hz 5 (by decide) (by decide)
  have z6 : K (g + 6) = 0 := hz 6 (by decide) (by decide)
  have z7 : K (g + 7) = 0 := hz 7 (by decide) (by decide)
  have z8 : K (g + 8) = 0 := hz 8 (by decide) (by decide)
  have z9 : K (g + 9) = 0 := hz 9 (by decide) (by decide)
  have z10 : K (g + 10) = 0 := hz 10 (by decide) (by decide)
  have z11 : K (g + 11) = 0 := hz 11 (by decide) (by decide)
  have g0 : ∀ j, XK X j ≠ 0 → K j ≠ 0 := fun j hj => by rw [← hXK]; exact hj
  refine J_aload_n hX dX10_init_0 rfl ?_
  refine J_init0 hX dX10_init_1 ml_RX10_1 (by decide) (Nat.le_of_ble_eq_true rfl) ?_
  refine J_aload_n hX dX10_init_4 rfl ?_
  refine J_sipush hX dX10_init_5 rfl ?_
  refine J_newi hX (g + 1) dX10_init_8 (by decide) z1 g0 hC ⟨(by rw [hk]; decide), trivial⟩ ⟨(by rw [hk]; decide), trivial⟩ (by decide) (fun K2 M2 e1 e2 hC8 => ?_)
  subst e1 e2
  have g8 := fun j hj => upK_up (i := g + 1) (k := 1000 + (198 : Int).toNat) (g0 j hj) (by decide)
  refine J_putR hX (g + 1) fp_RX10_7 dX10_init_10 hXN (by rw [upK_ne (by omega)]; exact hk) rfl (by rw [upK_eq]; decide) hC8 (fun M2 e1 hC10 => ?_)
  subst e1
  refine J_aload_n hX dX10_init_13 rfl ?_
  refine J_sipush hX dX10_init_14 rfl ?_
  refine J_newi hX (g + 2) dX10_init_17 (by decide) (by rw [upK_ne (by omega)]; exact z2) g8 hC10 ⟨(by rw [upK_ne (by omega), hk]; decide), trivial⟩ ⟨(by rw [upK_ne (by omega), hk]; decide), trivial⟩ (by decide) (fun K2 M2 e1 e2 hC17 => ?_)
  subst e1 e2
  have g17 := fun j hj => upK_up (i := g + 2) (k := 1000 + (198 : Int).toNat) (g8 j hj) (by decide)
  refine J_putR hX (g + 2) fp_RX10_13 dX10_init_19 hXN (by rw [upK_ne (by omega), upK_ne (by omega)]; exact hk) rfl (by rw [upK_eq]; decide) hC17 (fun M2 e1 hC19 => ?_)
  subst e1
  refine J_aload_n hX dX10_init_22 rfl ?_
  refine J_sipush hX dX10_init_23 rfl ?_
  refine J_newi hX (g + 3) dX10_init_26 (by decide) (by rw [upK_ne (by omega), upK_ne (by omega)]; exact z3) g17 hC19 ⟨(by rw [upK_ne (by omega), upK_ne (by omega), hk]; decide), trivial⟩ ⟨(by rw [upK_ne (by omega), upK_ne (by omega), hk]; decide), trivial⟩ (by decide) (fun K2 M2 e1 e2 hC26 => ?_)
  subst e1 e2
  have g26 := fun j hj => upK_up (i := g + 3) (k := 1000 + (792 : Int).toNat) (g17 j hj) (by decide)
  refine J_putR hX (g + 3) fp_RX10_16 dX10_init_28 hXN (by rw [upK_ne (by omega), upK_ne (by omega), upK_ne (by omega)]; exact hk) rfl (by rw [upK_eq]; decide) hC26 (fun M2 e1 hC28 => ?_)
  subst e1
  refine J_aload_n hX dX10_init_31 rfl ?_
  refine J_sipush hX dX10_init_32 rfl ?_
  refine J_newi hX (g + 4) dX10_init_35 (by decide) (by rw [upK_ne (by omega), upK_ne (by omega), upK_ne (by omega)]; exact z4) g26 hC28 ⟨(by rw [upK_ne (by omega), upK_ne (by omega), upK_ne (by omega), hk]; decide), trivial⟩ ⟨(by rw [upK_ne (by omega), upK_ne (by omega), upK_ne (by omega), hk]; decide), trivial⟩ (by decide) (fun K2 M2 e1 e2 hC35 => ?_)
  subst e1 e2
  have g35 := fun j hj => upK_up (i := g + 4) (k := 1000 + (150 : Int).toNat) (g26 j hj) (by decide)
  refine J_putR hX (g + 4) fp_RX10_19 dX10_init_37 hXN (by rw [upK_ne (by omega), upK_ne (by omega), upK_ne (by omega), upK_ne (by omega)]; exact hk) rfl (by rw [upK_eq]; decide) hC35 (fun M2 e1 hC37 => ?_)
  subst e1
  refine J_aload_n hX dX10_init_40 rfl ?_
  refine J_bipush hX dX10_init_41 rfl ?_
  refine J_newi hX (g + 5) dX10_init_43 (by decide) (by rw [upK_ne (by omega), upK_ne (by omega), upK_ne (by omega), upK_ne (by omega)]; exact z5) g35 hC37 ⟨(by rw [upK_ne (by omega), upK_ne (by omega), upK_ne (by omega), upK_ne (by omega), hk]; decide), trivial⟩ ⟨(by rw [upK_ne (by omega), upK_ne (by omega), upK_ne (by omega), upK_ne (by omega), hk]; decide), trivial⟩ (by decide) (fun K2 M2 e1 e2 hC43 => ?_)
  subst e1 e2
  have g43 := fun j hj => upK_up (i := g + 5) (k := 1000 + (20 : Int).toNat) (g35 j hj) (by decide)
  refine J_putR hX (g + 5) fp_RX10_22 dX10_init_45 hXN (by rw [upK_ne (by omega), upK_ne (by omega), upK_ne (by omega), upK_ne (by omega), upK_ne (by omega)]; exact hk) rfl (by rw [upK_eq]; decide) hC43 (fun M2 e1 hC45 => ?_)
  subst e1
  refine J_aload_n hX dX10_init_48 rfl ?_
  refine J_bipush hX dX10_init_49 rfl ?_
  refine J_newi hX (g + 6) dX10_init_51 (by decide) (by rw [upK_ne (by omega), upK_ne (by omega), upK_ne (by omega), upK_ne (by omega), upK_ne (by omega)]; exact z6) g43 hC45 ⟨(by rw [upK_ne (by omega), upK_ne (by omega), upK_ne (by omega), upK_ne (by omega), upK_ne (by omega), hk]; decide), trivial⟩ ⟨(by rw [upK_ne (by omega), upK_ne (by omega), upK_ne (by omega), upK_ne (by omega), upK_ne (by omega), hk]; decide), trivial⟩ (by decide) (fun K2 M2 e1 e2 hC51 => ?_)
  subst e1 e2
  have g51 := fun j hj => upK_up (i := g + 6) (k := 1000 + (20 : Int).toNat) (g43 j hj) (by decide)
  refine J_putR hX (g + 6) fp_RX10_25 dX10_init_53 hXN (by rw [upK_ne (by omega), upK_ne (by omega), upK_ne (by omega), upK_ne (by omega), upK_ne (by omega), upK_ne (by omega)]; exact hk) rfl (by rw [upK_eq]; decide) hC51 (fun M2 e1 hC53 => ?_)
  subst e1
  refine J_aload_n hX dX10_init_56 rfl ?_
  refine J_bipush hX dX10_init_57 rfl ?_
  refine J_newi hX (g + 7) dX10_init_59 (by decide) (by rw [upK_ne (by omega), upK_ne (by omega), upK_ne (by omega), upK_ne (by omega), upK_ne (by omega), upK_ne (by omega)]; exact z7) g51 hC53 ⟨(by rw [upK_ne (by omega), upK_ne (by omega), upK_ne (by omega), upK_ne (by omega), upK_ne (by omega), upK_ne (by omega), hk]; decide), trivial⟩ ⟨(by rw [upK_ne (by omega), upK_ne (by omega), upK_ne (by omega), upK_ne (by omega), upK_ne (by omega), upK_ne (by omega), hk]; decide), trivial⟩ (by decide) (fun K2 M2 e1 e2 hC59 => ?_)
  subst e1 e2
  have g59 := fun j hj => upK_up (i := g + 7) (k := 1000 + (20 : Int).toNat) (g51 j hj) (by decide)
  refine J_putR hX (g + 7) fp_RX10_28 dX10_init_61 hXN (by rw [upK_ne (by omega), upK_ne (by omega), upK_ne (by omega), upK_ne (by omega), upK_ne (by omega), upK_ne (by omega), upK_ne (by omega)]; exact hk) rfl (by rw [upK_eq]; decide) hC59 (fun M2 e1 hC61 => ?_)
  subst e1
  refine J_aload_n hX dX10_init_64 rfl ?_
  refine J_bipush hX dX10_init_65 rfl ?_
  refine J_newi hX (g + 8) dX10_init_67 (by decide) (by rw [upK_ne (by omega), upK_ne (by omega), upK_ne (by omega), upK_ne (by omega), upK_ne (by omega), upK_ne (by omega), upK_ne (by omega)]; exact z8) g59 hC61 ⟨(by rw [upK_ne (by omega), upK_ne (by omega), upK_ne (by omega), upK_ne (by omega), upK_ne (by omega), upK_ne (by omega), upK_ne (by omega), hk]; decide), trivial⟩ ⟨(by rw [upK_ne (by omega), upK_ne (by omega), upK_ne (by omega), upK_ne (by omega), upK_ne (by omega), upK_ne (by omega), upK_ne (by omega), hk]; decide), trivial⟩ (by decide) (fun K2 M2 e1 e2 hC67 => ?_)
  subst e1 e2
  have g67 := fun j hj => upK_up (i := g + 8) (k := 1000 + (20 : Int).toNat) (g59 j hj) (by decide)
  refine J_putR hX (g + 8) fp_RX10_31 dX10_init_69 hXN (by rw [upK_ne (by omega), upK_ne (by omega), upK_ne (by omega), upK_ne (by omega), upK_ne (by omega), upK_ne (by omega), upK_ne (by omega), upK_ne (by omega)]; exact hk) rfl (by rw [upK_eq]; decide) hC67 (fun M2 e1 hC69 => ?_)
  subst e1
  refine J_aload_n hX dX10_init_72 rfl ?_
  refine J_bipush hX dX10_init_73 rfl ?_
  refine J_newi hX (g + 9) dX10_init_75 (by decide) (by rw [upK_ne (by omega), upK_ne (by omega), upK_ne (by omega), upK_ne (by omega), upK_ne (by omega), upK_ne (by omega), upK_ne (by omega), upK_ne (by omega)]; exact z9) g67 hC69 ⟨(by rw [upK_ne (by omega), upK_ne (by omega), upK_ne (by omega), upK_ne (by omega), upK_ne (by omega), upK_ne (by omega), upK_ne (by omega), upK_ne (by omega), hk]; decide), trivial⟩ ⟨(by rw [upK_ne (by omega), upK_ne (by omega), upK_ne (by omega), upK_ne (by omega), upK_ne (by omega), upK_ne (by omega), upK_ne (by omega), upK_ne (by omega), hk]; decide), trivial⟩ (by decide) (fun K2 M2 e1 e2 hC75 => ?_)
  subst e1 e2
  have g75 := fun j hj => upK_up (i := g + 9) (k := 1000 + (20 : Int).toNat) (g67 j hj) (by decide)
  refine J_putR hX (g + 9) fp_RX10_34 dX10_init_77 hXN (by rw [upK_ne (by omega), upK_ne (by omega), upK_ne (by omega), upK_ne (by omega), upK_ne (by omega), upK_ne (by omega), upK_ne (by omega), upK_ne (by omega), upK_ne (by omega)]; exact hk) rfl (by rw [upK_eq]; decide) hC75 (fun M2 e1 hC77 => ?_)
  subst e1
  refine J_aload_n hX dX10_init_80 rfl ?_
  refine J_bipush hX dX10_init_81 rfl ?_
  refine J_newi hX (g + 10) dX10_init_83 (by decide) (by rw [upK_ne (by omega), upK_ne (by omega), upK_ne (by omega), upK_ne (by omega), upK_ne (by omega), upK_ne (by omega), upK_ne (by omega), upK_ne (by omega), upK_ne (by omega)]; exact z10) g75 hC77 ⟨(by rw [upK_ne (by omega), upK_ne (by omega), upK_ne (by omega), upK_ne (by omega), upK_ne (by omega), upK_ne (by omega), upK_ne (by omega), upK_ne (by omega), upK_ne (by omega), hk]; decide), trivial⟩ ⟨(by rw [upK_ne (by omega), upK_ne (by omega), upK_ne (by omega), upK_ne (by omega), upK_ne (by omega), upK_ne (by omega), upK_ne (by omega), upK_ne (by omega), upK_ne (by omega), hk]; decide), trivial⟩ (by decide) (fun K2 M2 e1 e2 hC83 => ?_)
  subst e1 e2
  have g83 := fun j hj => upK_up (i := g + 10) (k := 1000 + (20 : Int).toNat) (g75 j hj) (by decide)
  refine J_putR hX (g + 10) fp_RX10_37 dX10_init_85 hXN (by rw [upK_ne (by omega), upK_ne (by omega), upK_ne (by omega), upK_ne (by omega), upK_ne (by omega), upK_ne (by omega), upK_ne (by omega), upK_ne (by omega), upK_ne (by omega), upK_ne (by omega)]; exact hk) rfl (by rw [upK_eq]; decide) hC83 (fun M2 e1 hC85 => ?_)
  subst e1
  refine J_aload_n hX dX10_init_88 rfl ?_
  refine J_bipush hX dX10_init_89 rfl ?_
  refine J_newi hX (g + 11) dX10_init_91 (by decide) (by rw [upK_ne (by omega), upK_ne (by omega), upK_ne (by omega), upK_ne (by omega), upK_ne (by omega), upK_ne (by omega), upK_ne (by omega), upK_ne (by omega), upK_ne (by omega), upK_ne (by omega)]; exact z11) g83 hC85 ⟨(by rw [upK_ne (by omega), upK_ne (by omega), upK_ne (by omega), upK_ne (by omega), upK_ne (by omega), upK_ne (by omega), upK_ne (by omega), upK_ne (by omega), upK_ne (by omega), upK_ne (by omega), hk]; decide), trivial⟩ ⟨(by rw [upK_ne (by omega), upK_ne (by omega), upK_ne (by omega), upK_ne (by omega), upK_ne (by omega), upK_ne (by omega), upK_ne (by omega), upK_ne (by omega), upK_ne (by omega), upK_ne (by omega), hk]; decide), trivial⟩ (by decide) (fun K2 M2 e1 e2 hC91 => ?_)
  subst e1 e2
  have g91 := fun j hj => upK_up (i := g + 11) (k := 1000 + (6 : Int).toNat) (g83 j hj) (by decide)
  refine J_putR hX (g + 11) fp_RX10_40 dX10_init_93 hXN (by rw [upK_ne (by omega), upK_ne (by omega), upK_ne (by omega), upK_ne (by omega), upK_ne (by omega), upK_ne (by omega), upK_ne (by omega), upK_ne (by omega), upK_ne (by omega), upK_ne (by omega), upK_ne (by omega)]; exact hk) rfl (by rw [upK_eq]; decide) hC91 (fun M2 e1 hC93 => ?_)
  subst e1
  refine J_aload_n hX dX10_init_96 rfl ?_
  refine J_getq hX (g + 1) fr_RX10_7 dX10_init_97 (by rw [upK_ne (by omega), upK_ne (by omega), upK_ne (by omega), upK_ne (by omega), upK_ne (by omega), upK_ne (by omega), upK_ne (by omega), upK_ne (by omega), upK_ne (by omega), upK_ne (by omega), upK_ne (by omega)]; exact hk) rfl (by rw [mset_nj (by decide), upM_ne (by omega), mset_nj (by decide), upM_ne (by omega), mset_nj (by decide), upM_ne (by omega), mset_nj (by decide), upM_ne (by omega), mset_nj (by decide), upM_ne (by omega), mset_nj (by decide), upM_ne (by omega), mset_nj (by decide), upM_ne (by omega), mset_nj (by decide), upM_ne (by omega), mset_nj (by decide), upM_ne (by omega), mset_nj (by decide), upM_ne (by omega), mset_at (by decide)]; decide) ?_
  refine J_bipush hX dX10_init_100 rfl ?_
  refine J_bipush hX dX10_init_102 rfl ?_
  refine J_istA hX dX10_init_104 (n := 198) (by rw [upK_ne (by omega), upK_ne (by omega), upK_ne (by omega), upK_ne (by omega), upK_ne (by omega), upK_ne (by omega), upK_ne (by omega), upK_ne (by omega), upK_ne (by omega), upK_ne (by omega), upK_eq]; try rfl) ⟨by decide, by decide⟩ (by decide) (by decide) (fun M2 e1 => ?_)
  have hC104 := Cl_puti (i := g + 1) (j := 7) (x := 20) hC93 (fun q => by rw [upK_ne (by omega), upK_ne (by omega), upK_ne (by omega), upK_ne (by omega), upK_ne (by omega), upK_ne (by omega), upK_ne (by omega), upK_ne (by omega), upK_ne (by omega), upK_ne (by omega), upK_eq] at q; exact absurd q (by decide)) (by decide)
  subst e1
  refine J_aload_n hX dX10_init_105 rfl ?_
  refine J_getq hX (g + 1) fr_RX10_7 dX10_init_106 (by rw [upK_ne (by omega), upK_ne (by omega), upK_ne (by omega), upK_ne (by omega), upK_ne (by omega), upK_ne (by omega), upK_ne (by omega), upK_ne (by omega), upK_ne (by omega), upK_ne (by omega), upK_ne (by omega)]; exact hk) rfl (by rw [mset_ne (by omega), mset_nj (by decide), upM_ne (by omega), mset_nj (by decide), upM_ne (by omega), mset_nj (by decide), upM_ne (by omega), mset_nj (by decide), upM_ne (by omega), mset_nj (by decide), upM_ne (by omega), mset_nj (by decide), upM_ne (by omega), mset_nj (by decide), upM_ne (by omega), mset_nj (by decide), upM_ne (by omega), mset_nj (by decide), upM_ne (by omega), mset_nj (by decide), upM_ne (by omega), mset_at (by decide)]; decide) ?_
  refine J_bipush hX dX10_init_109 rfl ?_
  refine J_iconst hX dX10_init_111 ?_
  refine J_istA hX dX10_init_112 (n := 198) (by rw [upK_ne (by omega), upK_ne (by omega), upK_ne (by omega), upK_ne (by omega), upK_ne (by omega), upK_ne (by omega), upK_ne (by omega), upK_ne (by omega), upK_ne (by omega), upK_ne (by omega), upK_eq]; try rfl) ⟨by decide, by decide⟩ (by decide) (by decide) (fun M2 e1 => ?_)
  have hC112 := Cl_puti (i := g + 1) (j := 8) (x := 1) hC104 (fun q => by rw [upK_ne (by omega), upK_ne (by omega), upK_ne (by omega), upK_ne (by omega), upK_ne (by omega), upK_ne (by omega), upK_ne (by omega), upK_ne (by omega), upK_ne (by omega), upK_ne (by omega), upK_eq] at q; exact absurd q (by decide)) (by decide)
  subst e1
  refine J_aload_n hX dX10_init_113 rfl ?_
  refine J_getq hX (g + 1) fr_RX10_7 dX10_init_114 (by rw [upK_ne (by omega), upK_ne (by omega), upK_ne (by omega), upK_ne (by omega), upK_ne (by omega), upK_ne (by omega), upK_ne (by omega), upK_ne (by omega), upK_ne (by omega), upK_ne (by omega), upK_ne (by omega)]; exact hk) rfl (by rw [mset_ne (by omega), mset_ne (by omega), mset_nj (by decide), upM_ne (by omega), mset_nj (by decide), upM_ne (by omega), mset_nj (by decide), upM_ne (by omega), mset_nj (by decide), upM_ne (by omega), mset_nj (by decide), upM_ne (by omega), mset_nj (by decide), upM_ne (by omega), mset_nj (by decide), upM_ne (by omega), mset_nj (by decide), upM_ne (by omega), mset_nj (by decide), upM_ne (by omega), mset_nj (by decide), upM_ne (by omega), mset_at (by decide)]; decide) ?_
  refine J_bipush hX dX10_init_117 rfl ?_
  refine J_iconst hX dX10_init_119 ?_
  refine J_istA hX dX10_init_120 (n := 198) (by rw [upK_ne (by omega), upK_ne (by omega), upK_ne (by omega), upK_ne (by omega), upK_ne (by omega), upK_ne (by omega), upK_ne (by omega), upK_ne (by omega), upK_ne (by omega), upK_ne (by omega), upK_eq]; try rfl) ⟨by decide, by decide⟩ (by decide) (by decide) (fun M2 e1 => ?_)
  have hC120 := Cl_puti (i := g + 1) (j := 9) (x := 4) hC112 (fun q => by rw [upK_ne (by omega), upK_ne (by omega), upK_ne (by omega), upK_ne (by omega), upK_ne (by omega), upK_ne (by omega), upK_ne (by omega), upK_ne (by omega), upK_ne (by omega), upK_ne (by omega), upK_eq] at q; exact absurd q (by decide)) (by decide)
  subst e1
  refine J_aload_n hX dX10_init_121 rfl ?_
  refine J_getq hX (g + 1) fr_RX10_7 dX10_init_122 (by rw [upK_ne (by omega), upK_ne (by omega), upK_ne (by omega), upK_ne (by omega), upK_ne (by omega), upK_ne (by omega), upK_ne (by omega), upK_ne (by omega), upK_ne (by omega), upK_ne (by omega), upK_ne (by omega)]; exact hk) rfl (by rw [mset_ne (by omega), mset_ne (by omega), mset_ne (by omega), mset_nj (by decide), upM_ne (by omega), mset_nj (by decide), upM_ne (by omega), mset_nj (by decide), upM_ne (by omega), mset_nj (by decide), upM_ne (by omega), mset_nj (by decide), upM_ne (by omega), mset_nj (by decide), upM_ne (by omega), mset_nj (by decide), upM_ne (by omega), mset_nj (by decide), upM_ne (by omega), mset_nj (by decide), upM_ne (by omega), mset_nj (by decide), upM_ne (by omega), mset_at (by decide)]; decide) ?_
  refine J_bipush hX dX10_init_125 rfl ?_
  refine J_bipush hX dX10_init_127 rfl ?_
  refine J_istA hX dX10_init_129 (n := 198) (by rw [upK_ne (by omega), upK_ne (by omega), upK_ne (by omega), upK_ne (by omega), upK_ne (by omega), upK_ne (by omega), upK_ne (by omega), upK_ne (by omega), upK_ne (by omega), upK_ne (by omega), upK_eq]; try rfl) ⟨by decide, by decide⟩ (by decide) (by decide) (fun M2 e1 => ?_)
  have hC129 := Cl_puti (i := g + 1) (j := 10) (x := 10) hC120 (fun q => by rw [upK_ne (by omega), upK_ne (by omega), upK_ne (by omega), upK_ne (by omega), upK_ne (by omega), upK_ne (by omega), upK_ne (by omega), upK_ne (by omega), upK_ne (by omega), upK_ne (by omega), upK_eq] at q; exact absurd q (by decide)) (by decide)
  subst e1
  refine J_seal (i := g) (k := 9) (by rw [upK_ne (by omega), upK_ne (by omega), upK_ne (by omega), upK_ne (by omega), upK_ne (by omega), upK_ne (by omega), upK_ne (by omega), upK_ne (by omega), upK_ne (by omega), upK_ne (by omega), upK_ne (by omega)]; exact hk) (by decide) (by rw [hXK, hk]; decide) hC129 (fun f o hf hr => ?_) (fun K2 e1 hCz => ?_)
  · have hc : f = 0 ∨ f = 1 ∨ f = 2 ∨ f = 3 ∨ f = 4 ∨ f = 5 ∨ f = 6 ∨ f = 7 ∨ f = 8 ∨ f = 9 ∨ f = 10 ∨ f = 11 ∨ f = 12 ∨ f = 13 ∨ f = 14 ∨ f = 15 ∨ f = 16 ∨ f = 17 ∨ f = 18 ∨ f = 19 ∨ f = 20 ∨ f = 21 ∨ f = 22 ∨ f = 23 := by
      have : nf 9 = 24 := rfl
      omega
    rcases hc with rfl | rfl | rfl | rfl | rfl | rfl | rfl | rfl | rfl | rfl | rfl | rfl | rfl | rfl | rfl | rfl | rfl | rfl | rfl | rfl | rfl | rfl | rfl | rfl
    · rw [show (100 + ((0 : Nat) : Int)) = 100 from rfl, mset_ne (by omega), mset_ne (by omega), mset_ne (by omega), mset_ne (by omega), mset_nj (by decide), upM_ne (by omega), mset_nj (by decide), upM_ne (by omega), mset_nj (by decide), upM_ne (by omega), mset_nj (by decide), upM_ne (by omega), mset_nj (by decide), upM_ne (by omega), mset_nj (by decide), upM_ne (by omega), mset_nj (by decide), upM_ne (by omega), mset_nj (by decide), upM_ne (by omega), mset_nj (by decide), upM_ne (by omega), mset_nj (by decide), upM_ne (by omega), mset_at (by decide)]; decide
    · rw [show (100 + ((1 : Nat) : Int)) = 101 from rfl, mset_ne (by omega), mset_ne (by omega), mset_ne (by omega), mset_ne (by omega), mset_nj (by decide), upM_ne (by omega), mset_nj (by decide), upM_ne (by omega), mset_nj (by decide), upM_ne (by omega), mset_nj (by decide), upM_ne (by omega), mset_nj (by decide), upM_ne (by omega), mset_nj (by decide), upM_ne (by omega), mset_nj (by decide), upM_ne (by omega), mset_nj (by decide), upM_ne (by omega), mset_nj (by decide), upM_ne (by omega), mset_at (by decide)]; decide
    · rw [show (100 + ((2 : Nat) : Int)) = 102 from rfl, mset_ne (by omega), mset_ne (by omega), mset_ne (by omega), mset_ne (by omega), mset_nj (by decide), upM_ne (by omega), mset_nj (by decide), upM_ne (by omega), mset_nj (by decide), upM_ne (by omega), mset_nj (by decide), upM_ne (by omega), mset_nj (by decide), upM_ne (by omega), mset_nj (by decide), upM_ne (by omega), mset_nj (by decide), upM_ne (by omega), mset_nj (by decide), upM_ne (by omega), mset_at (by decide)]; decide
    · cases hr
    · rw [show (100 + ((4 : Nat) : Int)) = 104 from rfl, mset_ne (by omega), mset_ne (by omega), mset_ne (by omega), mset_ne (by omega), mset_nj (by decide), upM_ne (by omega), mset_nj (by decide), upM_ne (by omega), mset_nj (by decide), upM_ne (by omega), mset_nj (by decide), upM_ne (by omega), mset_nj (by decide), upM_ne (by omega), mset_nj (by decide), upM_ne (by omega), mset_nj (by decide), upM_ne (by omega), mset_at (by decide)]; decide
    · cases hr
    · cases hr
    · rw [show (100 + ((7 : Nat) : Int)) = 107 from rfl, mset_ne (by omega), mset_ne (by omega), mset_ne (by omega), mset_ne (by omega), mset_nj (by decide), upM_ne (by omega), mset_nj (by decide), upM_ne (by omega), mset_nj (by decide), upM_ne (by omega), mset_nj (by decide), upM_ne (by omega), mset_nj (by decide), upM_ne (by omega), mset_nj (by decide), upM_ne (by omega), mset_at (by decide)]; decide
    · rw [show (100 + ((8 : Nat) : Int)) = 108 from rfl, mset_ne (by omega), mset_ne (by omega), mset_ne (by omega), mset_ne (by omega), mset_nj (by decide), upM_ne (by omega), mset_nj (by decide), upM_ne (by omega), mset_nj (by decide), upM_ne (by omega), mset_nj (by decide), upM_ne (by omega), mset_nj (by decide), upM_ne (by omega), mset_at (by decide)]; decide
    · rw [show (100 + ((9 : Nat) : Int)) = 109 from rfl, mset_ne (by omega), mset_ne (by omega), mset_ne (by omega), mset_ne (by omega), mset_nj (by decide), upM_ne (by omega), mset_nj (by decide), upM_ne (by omega), mset_nj (by decide), upM_ne (by omega), mset_nj (by decide), upM_ne (by omega), mset_at (by decide)]; decide
    · rw [show (100 + ((10 : Nat) : Int)) = 110 from rfl, mset_ne (by omega), mset_ne (by omega), mset_ne (by omega), mset_ne (by omega), mset_nj (by decide), upM_ne (by omega), mset_nj (by decide), upM_ne (by omega), mset_nj (by decide), upM_ne (by omega), mset_at (by decide)]; decide
    · rw [show (100 + ((11 : Nat) : Int)) = 111 from rfl, mset_ne (by omega), mset_ne (by omega), mset_ne (by omega), mset_ne (by omega), mset_nj (by decide), upM_ne (by omega), mset_nj (by decide), upM_ne (by omega), mset_at (by decide)]; decide
    · cases hr
    · rw [show (100 + ((13 : Nat) : Int)) = 113 from rfl, mset_ne (by omega), mset_ne (by omega), mset_ne (by omega), mset_ne (by omega), mset_nj (by decide), upM_ne (by omega), mset_at (by decide)]; decide
    · cases hr
    · cases hr
    · cases hr
    · cases hr
    · cases hr
    · cases hr
    · cases hr
    · cases hr
    · rw [show (100 + ((22 : Nat) : Int)) = 122 from rfl, mset_ne (by omega), mset_ne (by omega), mset_ne (by omega), mset_ne (by omega), mset_at (by decide)]; decide
    · cases hr
  have hKz : K2 = regK K (g) 12 kM := regK_ext (fun j hj => by
      have hc : j = 0 ∨ j = 1 ∨ j = 2 ∨ j = 3 ∨ j = 4 ∨ j = 5 ∨ j = 6 ∨ j = 7 ∨ j = 8 ∨ j = 9 ∨ j = 10 ∨ j = 11 := by omega
      rcases hc with rfl | rfl | rfl | rfl | rfl | rfl | rfl | rfl | rfl | rfl | rfl | rfl
      · show K2 (g) = _; rw [e1, upK_eq]; try rfl
      · show K2 (g + 1) = _; rw [e1, upK_ne (by omega), upK_ne (by omega), upK_ne (by omega), upK_ne (by omega), upK_ne (by omega), upK_ne (by omega), upK_ne (by omega), upK_ne (by omega), upK_ne (by omega), upK_ne (by omega), upK_ne (by omega), upK_eq]; try rfl
      · show K2 (g + 2) = _; rw [e1, upK_ne (by omega), upK_ne (by omega), upK_ne (by omega), upK_ne (by omega), upK_ne (by omega), upK_ne (by omega), upK_ne (by omega), upK_ne (by omega), upK_ne (by omega), upK_ne (by omega), upK_eq]; try rfl
      · show K2 (g + 3) = _; rw [e1, upK_ne (by omega), upK_ne (by omega), upK_ne (by omega), upK_ne (by omega), upK_ne (by omega), upK_ne (by omega), upK_ne (by omega), upK_ne (by omega), upK_ne (by omega), upK_eq]; try rfl
      · show K2 (g + 4) = _; rw [e1, upK_ne (by omega), upK_ne (by omega), upK_ne (by omega), upK_ne (by omega), upK_ne (by omega), upK_ne (by omega), upK_ne (by omega), upK_ne (by omega), upK_eq]; try rfl
      · show K2 (g + 5) = _; rw [e1, upK_ne (by omega), upK_ne (by omega), upK_ne (by omega), upK_ne (by omega), upK_ne (by omega), upK_ne (by omega), upK_ne (by omega), upK_eq]; try rfl
      · show K2 (g + 6) = _; rw [e1, upK_ne (by omega), upK_ne (by omega), upK_ne (by omega), upK_ne (by omega), upK_ne (by omega), upK_ne (by omega), upK_eq]; try rfl
      · show K2 (g + 7) = _; rw [e1, upK_ne (by omega), upK_ne (by omega), upK_ne (by omega), upK_ne (by omega), upK_ne (by omega), upK_eq]; try rfl
      · show K2 (g + 8) = _; rw [e1, upK_ne (by omega), upK_ne (by omega), upK_ne (by omega), upK_ne (by omega), upK_eq]; try rfl
      · show K2 (g + 9) = _; rw [e1, upK_ne (by omega), upK_ne (by omega), upK_ne (by omega), upK_eq]; try rfl
      · show K2 (g + 10) = _; rw [e1, upK_ne (by omega), upK_ne (by omega), upK_eq]; try rfl
      · show K2 (g + 11) = _; rw [e1, upK_ne (by omega), upK_eq]; try rfl) (fun i hi => by rw [e1, upK_ne (by omega), upK_ne (by omega), upK_ne (by omega), upK_ne (by omega), upK_ne (by omega), upK_ne (by omega), upK_ne (by omega), upK_ne (by omega), upK_ne (by omega), upK_ne (by omega), upK_ne (by omega), upK_ne (by omega)])
  subst hKz
  have gz := fun j hj => regK_up (lo := g) (n := 12) (kf := kM) (g0 j hj) (by decide)
  refine J_aload_n hX dX10_init_130 rfl ?_
  refine J_bipush hX dX10_init_131 rfl ?_
  refine J_bipush hX dX10_init_133 rfl ?_
  refine J_callVK hX _ dX10_init_135 cw_RX10_43 (m_X10_anew (r := g) (fun j hj => (regK_at (j := j) rfl hj)) (by decide) (by decide)) ⟨(regK_at (j := 0) rfl (by decide)), by decide, by decide, rfl⟩ rfl (by decide) ⟨Nat.le_of_ble_eq_true rfl, by decide⟩ ⟨Nat.le_of_ble_eq_true rfl, Nat.le_of_ble_eq_true rfl⟩ (Or.inr ⟨gz, g + 1, by rw [regK_at (j := 1) rfl (by decide)]; decide, by rw [hXK]; exact z1⟩) ⟨(show _ ≠ 0 by rw [regK_at (j := 0) (Nat.add_zero _).symm (by decide)]; decide), trivial⟩ trivial (fun r9 K9 M9 h9 i hi => by rw [h9.1]; exact hi) (fun r9 K9 M9 h9 => ?_)
  obtain ⟨rfl, rfl, rfl⟩ := h9
  unfold anM
  have hCy := (Cl_puti (i := g + 1) (j := 13) (x := 0) (Cl_puti (i := g + 1) (j := 6) (x := 5) (Cl_puti (i := g + 1) (j := 5) (x := -5) (Cl_puti (i := g + 1) (j := 4) (x := 0) (Cl_puti (i := g + 1) (j := 3) (x := 0) (Cl_puti (i := g + 1) (j := 2) (x := 0) (Cl_puti (i := g + 1) (j := 1) (x := 40) (Cl_puti (i := g + 1) (j := 0) (x := 80) hCz (by rw [regK_at (j := 1) rfl (by decide)]; decide) (by decide)) (by rw [regK_at (j := 1) rfl (by decide)]; decide) (by decide)) (by rw [regK_at (j := 1) rfl (by decide)]; decide) (by decide)) (by rw [regK_at (j := 1) rfl (by decide)]; decide) (by decide)) (by rw [regK_at (j := 1) rfl (by decide)]; decide) (by decide)) (by rw [regK_at (j := 1) rfl (by decide)]; decide) (by decide)) (by rw [regK_at (j := 1) rfl (by decide)]; decide) (by decide)) (by rw [regK_at (j := 1) rfl (by decide)]; decide) (by decide))
  exact J_vret hX hQ dX10_init_138 ⟨rfl, rfl, fun i hi => by rw [mset_ne (by omega), mset_ne (by omega), mset_ne (by omega), mset_ne (by omega), mset_ne (by omega), mset_ne (by omega), mset_ne (by omega), mset_ne (by omega), mset_ne (by omega), mset_ne (by omega), mset_ne (by omega), mset_ne (by omega), mset_ne (by omega), upM_ne (by omega), mset_ne (by omega), upM_ne (by omega), mset_ne (by omega), upM_ne (by omega), mset_ne (by omega), upM_ne (by omega), mset_ne (by omega), upM_ne (by omega), mset_ne (by omega), upM_ne (by omega), mset_ne (by omega), upM_ne (by omega), mset_ne (by omega), upM_ne (by omega), mset_ne (by omega), upM_ne (by omega), mset_ne (by omega), upM_ne (by omega), mset_ne (by omega), upM_ne (by omega)], ⟨by rw [mset_ne (by omega), mset_ne (by omega), mset_ne (by omega), mset_ne (by omega), mset_ne (by omega), mset_ne (by omega), mset_ne (by omega), mset_ne (by omega), mset_ne (by omega), mset_ne (by omega), mset_ne (by omega), mset_ne (by omega), mset_nj (by decide), upM_ne (by omega), mset_nj (by decide), upM_ne (by omega), mset_nj (by decide), upM_ne (by omega), mset_nj (by decide), upM_ne (by omega), mset_nj (by decide), upM_ne (by omega), mset_nj (by decide), upM_ne (by omega), mset_nj (by decide), upM_ne (by omega), mset_nj (by decide), upM_ne (by omega), mset_nj (by decide), upM_ne (by omega), mset_nj (by decide), upM_ne (by omega), mset_nj (by decide), upM_ne (by omega)], by rw [mset_ne (by omega), mset_ne (by omega), mset_ne (by omega), mset_ne (by omega), mset_ne (by omega), mset_ne (by omega), mset_ne (by omega), mset_ne (by omega), mset_ne (by omega), mset_ne (by omega), mset_ne (by omega), mset_ne (by omega), mset_nj (by decide), upM_ne (by omega), mset_nj (by decide), upM_ne (by omega), mset_nj (by decide), upM_ne (by omega), mset_nj (by decide), upM_ne (by omega), mset_nj (by decide), upM_ne (by omega), mset_nj (by decide), upM_ne (by omega), mset_nj (by decide), upM_ne (by omega), mset_nj (by decide), upM_ne (by omega), mset_nj (by decide), upM_ne (by omega), mset_nj (by decide), upM_ne (by omega), mset_nj (by decide), upM_ne (by omega)], by rw [mset_nj (by decide), mset_nj (by decide), mset_nj (by decide), mset_nj (by decide), mset_nj (by decide), mset_nj (by decide), mset_nj (by decide), mset_at (by decide)], by rw [mset_nj (by decide), mset_nj (by decide), mset_nj (by decide), mset_nj (by decide), mset_nj (by decide), mset_nj (by decide), mset_at (by decide)], by rw [mset_nj (by decide), mset_nj (by decide), mset_nj (by decide), mset_nj (by decide), mset_nj (by decide), mset_at (by decide)], by rw [mset_nj (by decide), mset_nj (by decide), mset_nj (by decide), mset_nj (by decide), mset_at (by decide)], by rw [mset_nj (by decide), mset_nj (by decide), mset_nj (by decide), mset_at (by decide)], by rw [mset_nj (by decide), mset_nj (by decide), mset_at (by decide)], by rw [mset_nj (by decide), mset_at (by decide)], by rw [mset_nj (by decide), mset_nj (by decide), mset_nj (by decide), mset_nj (by decide), mset_nj (by decide), mset_nj (by decide), mset_nj (by decide), mset_nj (by decide), mset_nj (by decide), mset_nj (by decide), mset_nj (by decide), mset_at (by decide)], by rw [mset_nj (by decide), mset_nj (by decide), mset_nj (by decide), mset_nj (by decide), mset_nj (by decide), mset_nj (by decide), mset_nj (by decide), mset_nj (by decide), mset_nj (by decide), mset_nj (by decide), mset_at (by decide)], by rw [mset_nj (by decide), mset_nj (by decide), mset_nj (by decide), mset_nj (by decide), mset_nj (by decide), mset_nj (by decide), mset_nj (by decide), mset_nj (by decide), mset_nj (by decide), mset_at (by decide)], by rw [mset_nj (by decide), mset_nj (by decide), mset_nj (by decide), mset_nj (by decide), mset_nj (by decide), mset_nj (by decide), mset_nj (by decide), mset_nj (by decide), mset_at (by decide)], by rw [mset_at (by decide)]⟩, hCy⟩ (by decide) (by decide)
