/-! the reference: the title's place, the survey -/
theorem Mdl.fr {M M2 : MM} {r : Nat} {S : MM} (h : Mdl M r S) (h1 : ∀ i, r + 6 ≤ i → i ≤ r + 10 → M2 i = M i) (h2 : M2 r 14 = M r 14) : Mdl M2 r S := by
  unfold Mdl Plc Shs Srd
  rw [h1 (r + 6) (by omega) (by omega), h1 (r + 7) (by omega) (by omega), h1 (r + 8) (by omega) (by omega), h1 (r + 9) (by omega) (by omega), h1 (r + 10) (by omega) (by omega), h2]
  exact h
abbrev clr (S : MM) (l row t n : Int) : Prop := ¬ (t ≤ shf S n ∧ inRw S n row ∧ col S l n < co l (S 0 5) t + S 0 7 ∧ co l (S 0 5) t < col S l n + S 7 n)
def csO (S : MM) (l row t : Int) : Nat → Bool
  | 0 => true
  | k + 1 => csO S l row t k && decide (clr S l row t (ord S k))
theorem csO_t {S : MM} {l row t : Int} {k : Nat} : csO S l row t (k + 1) = true ↔ csO S l row t k = true ∧ clr S l row t (ord S k) := by
  simp only [csO, Bool.and_eq_true, decide_eq_true_eq]
theorem csO_all {S : MM} {l row t : Int} : ∀ {k : Nat}, csO S l row t k = true ↔ ∀ j : Nat, j < k → clr S l row t (ord S j)
  | 0 => ⟨fun _ j h => absurd h (by omega), fun _ => rfl⟩
  | k + 1 => by
    rw [csO_t, csO_all]
    constructor
    · rintro ⟨h1, h2⟩ j hj
      by_cases e : j = k
      · subst e; exact h2
      · exact h1 j (by omega)
    · intro h
      exact ⟨fun j hj => h j (by omega), h k (by omega)⟩
theorem csO_csn {S : MM} {l row t : Int} : csO S l row t (nb S) = true ↔ csn S l row t (cnt S) = true := by
  rw [csO_all, csn_all]
  constructor
  · intro h j hj q
    obtain ⟨i, ia, ib⟩ := ordf_onto S (cnt S) (j : Int) q.2.1.1 (by omega)
    have ib' : ord S i = j := ib
    have z := h i ia
    rw [ib'] at z
    exact z q
  · intro h j hj q
    have ob := ord_box (S := S) hj
    have z := h (ord S j).toNat (by have := ob.1.1; omega)
    rw [show (((ord S j).toNat : Nat) : Int) = ord S j by have := ob.1.1; omega] at z
    exact z q
-- X10_isClear
set_option maxHeartbeats 4000000 in
set_option maxRecDepth 100000 in
theorem m_X10_isClear {E : EE} {K : Nat → Nat} {M : MM} {r : Nat} {T : Int} {S : MM} {row t l : Int} (hM : ModelK K r) (hR : RS S (M (r + 1))) (hW : WFS T S) (hMd : Mdl M r S) (hw1 : M r 15 = wnd S 1) (hw0 : M r 16 = wnd S 0) (hrow : 0 ≤ row ∧ row ≤ 1000) (ht : 0 ≤ t ∧ t ≤ 20) (h7 : S 0 7 ≠ 0) (hl : l = 0 ∨ l = 1) : CnB E 3 yX10_isClear cX10_isClear 11 [.ref r, vI row, vI t, vI l] K M (cst S l row t = true) := by
  obtain ⟨⟨rs0, rs1, rs2, rs3, rs4, rs5, rs6, rs7, rs8, rs9, rs10, rs13⟩, rst, rsn, rsc⟩ := id hR
  have hs9 := hW.2.1
  unfold WFSs at hs9
  have nbl := nb_le hW
  have e14 := hMd.2.2.1
  have e11 : M (r + 1) 11 = S 0 5 := (rst.resolve_left h7).1
  have wr1 := wnd_rng hW 1
  have wr0 := wnd_rng hW 0
  have cor : -1000 ≤ co l (S 0 5) t ∧ co l (S 0 5) t ≤ 1000 := by unfold co; split <;> omega
  refine Cn_of RX10 (plainFor_of_name (by decide)) rfl (Nat.le_of_ble_eq_true rfl) (fun X hX hQ => ?_)
  refine J_aload_n hX dX10_isClear_0 rfl ?_
  refine J_gr hX (r + 1) fr_RX10_7 dX10_isClear_1 (show K (r) = 9 from hM 0 (by decide)) rfl ?_
  refine J_bipush hX dX10_isClear_4 rfl ?_
  refine J_iald hX dX10_isClear_6 (show K (r + 1) = 1000 + 198 from hM 1 (by decide)) ⟨by omega, by omega⟩ (by decide) (fun r6 => ?_)
  refine J_iload_n hX dX10_isClear_7 rfl ?_
  refine J_iload_n hX dX10_isClear_8 rfl ?_
  refine J_callSI hX _ dX10_isClear_9 cw_RX10_166 (m_X10_column (by omega) (by omega) (by omega)) rfl (Nat.le_of_ble_eq_true rfl) (by decide) ⟨Nat.zero_le _, Nat.zero_le _⟩ (fun r9 => ?_)
  rw [e11]
  refine J_istore hX dX10_isClear_12 (by decide) ?_
  refine J_iload hX dX10_isClear_14 rfl ?_
  refine J_aload_n hX dX10_isClear_16 rfl ?_
  refine J_gr hX (r + 1) fr_RX10_7 dX10_isClear_17 (show K (r) = 9 from hM 0 (by decide)) rfl ?_
  refine J_bipush hX dX10_isClear_20 rfl ?_
  refine J_iald hX dX10_isClear_22 (show K (r + 1) = 1000 + 198 from hM 1 (by decide)) ⟨by omega, by omega⟩ (by decide) (fun r22 => ?_)
  rw [rs13]
  refine J_iadd hX dX10_isClear_23 ?_
  refine J_istore hX dX10_isClear_24 (by decide) ?_
  have JN77 : ∀ (z : Int), (z = bI (opn S l ≤ co l (S 0 5) t ∧ co l (S 0 5) t + S 0 7 ≤ cls S l)) → J E X 77 [(0, .ref r), (1, vI row), (2, vI t), (3, vI l), (4, vI (co l (S 0 5) t)), (5, vI (co l (S 0 5) t + S 0 7))] [vI z] K M 0 0 := by
    intro z  hj77
    refine J_istore hX dX10_isClear_77 (by decide) ?_
    refine J_iconst hX dX10_isClear_79 ?_
    refine J_istore hX dX10_isClear_80 (by decide) ?_
    have HL82 : ∀ k : Nat, k ≤ (nb S) → ∀ (q : Int), (q = bI ((opn S l ≤ co l (S 0 5) t ∧ co l (S 0 5) t + S 0 7 ≤ cls S l) ∧ csO S l row t k = true) ∧ True) → J E X 82 [(0, .ref r), (1, vI row), (2, vI t), (3, vI l), (4, vI (co l (S 0 5) t)), (5, vI (co l (S 0 5) t + S 0 7)), (6, vI q), (7, vI (k : Int))] [] K M 0 0 := by
      refine up_ind ((nb S)) (fun k hk82 ih82 => ?_)
      intro q  hi82
      have q01 := bI_01 ((opn S l ≤ co l (S 0 5) t ∧ co l (S 0 5) t + S 0 7 ≤ cls S l) ∧ csO S l row t k = true)
      refine J_iload hX dX10_isClear_82 rfl ?_
      refine J_aload_n hX dX10_isClear_84 rfl ?_
      refine J_geti hX fi_RX10_163 dX10_isClear_85 (show K (r) = 9 from hM 0 (by decide)) (fun r85 => ?_)
      refine J_icmp_ge hX 197 dX10_isClear_88 (by omega) (by omega) (by decide) (fun c88 => ?_) (fun c88 => ?_)
      · refine J_iload hX dX10_isClear_197 rfl ?_
        have k2n : nb S = k := by omega
        rw [show q = bI (cst S l row t = true) by rw [hi82.1]; exact bI_c (by rw [← k2n, csO_csn, cst_iff])]
        exact J_retB hX hQ dX10_isClear_199 Iff.rfl rfl rfl (Nat.zero_le _) (Nat.zero_le _)
      · have ob := ord_box (S := S) (j := k) (by omega)
        have eor := hMd.2.2.2 k (by omega)
        have es := hMd.2.1 (ord S k) ob.1.1.1 ob.1.1.2.1
        have e7 := (hMd.1 (ord S k) ob.1.1.1 ob.1.1.2.1).2.1
        have sr := shf_rng hW ob.1
        have cr := col_rng hW ob.1 l
        have pr5 := pos_rng hW (k := 5) (by decide) (ord S k) ob.1.1.2.1
        have q8 := rsn (ord S k) ob.1.1.1 ob.1.1.2.1
        have hwk := hW.2.2.1 (ord S k) ob.1.1.1 ob.1.1.2.1
        refine J_aload_n hX dX10_isClear_91 rfl ?_
        refine J_gr hX (r + 10) fr_RX10_37 dX10_isClear_92 (show K (r) = 9 from hM 0 (by decide)) rfl ?_
        refine J_iload hX dX10_isClear_95 rfl ?_
        refine J_iald hX dX10_isClear_97 (show K (r + 10) = 1000 + 20 from hM 10 (by decide)) ⟨by omega, by omega⟩ (by decide) (fun r97 => ?_)
        rw [eor]
        refine J_istore hX dX10_isClear_98 (by decide) ?_
        refine J_aload_n hX dX10_isClear_100 rfl ?_
        refine J_iload hX dX10_isClear_101 rfl ?_
        refine J_iload_n hX dX10_isClear_103 rfl ?_
        refine J_callVI hX _ dX10_isClear_104 cw_RX10_170 (m_X10_columnOf hM hR hW ob.1 hMd.1 hMd.2.1 hl) ⟨(show K (r) = 9 from hM 0 (by decide)), by decide, by decide, rfl⟩ rfl (Nat.le_of_ble_eq_true rfl) (by decide) ⟨Nat.zero_le _, Nat.zero_le _⟩ (fun r104 => ?_)
        refine J_istore hX dX10_isClear_107 (by decide) ?_
        refine J_iload_n hX dX10_isClear_109 rfl ?_
        refine J_aload_n hX dX10_isClear_110 rfl ?_
        refine J_gr hX (r + 7) fr_RX10_28 dX10_isClear_111 (show K (r) = 9 from hM 0 (by decide)) rfl ?_
        refine J_iload hX dX10_isClear_114 rfl ?_
        refine J_iald hX dX10_isClear_116 (show K (r + 7) = 1000 + 20 from hM 7 (by decide)) ⟨by omega, by omega⟩ (by decide) (fun r116 => ?_)
        refine J_isub hX dX10_isClear_117 ?_
        refine J_iconst hX dX10_isClear_118 ?_
        refine J_aload_n hX dX10_isClear_119 rfl ?_
        refine J_iload hX dX10_isClear_120 rfl ?_
        refine J_iconst hX dX10_isClear_122 ?_
        refine J_callVI hX _ dX10_isClear_123 cw_RX10_62 (m_X10_of hM (by omega) (by omega) (by omega)) ⟨(show K (r) = 9 from hM 0 (by decide)), by decide, by decide, rfl⟩ rfl (Nat.le_of_ble_eq_true rfl) (by decide) ⟨Nat.zero_le _, Nat.zero_le _⟩ (fun r123 => ?_)
        refine J_iconst hX dX10_isClear_126 ?_
        refine J_isub hX dX10_isClear_127 ?_
        refine J_callSB hX _ dX10_isClear_128 cw_RX10_58 (m_X10_in (by omega) (by omega) (by omega)) rfl (Nat.le_of_ble_eq_true rfl) (by decide) ⟨Nat.zero_le _, Nat.zero_le _⟩ ?_
        refine J_ifb_eq hX 160 dX10_isClear_131 (by decide) (fun c131 => ?_) (fun c131 => ?_)
        · refine J_iconst hX dX10_isClear_160 ?_
          refine J_istore hX dX10_isClear_161 (by decide) ?_
          refine J_iload hX dX10_isClear_163 rfl ?_
          refine J_if_eq hX 188 dX10_isClear_165 (by omega) (by decide) (fun c165 => ?_) (fun c165 => ?_)
          · refine J_iconst hX dX10_isClear_188 ?_
            refine J_istore hX dX10_isClear_189 (by decide) ?_
            refine J_iinc hX dX10_isClear_191 rfl (by decide) ?_
            refine J_goto hX 82 dX10_isClear_194 (by decide) ?_
            exact J_locI (ih82 (k + 1) (by omega) (by omega) _ ⟨by
                        first
                          | exact (bI_t ⟨(bI_1.mp (show bI ((opn S l ≤ co l (S 0 5) t ∧ co l (S 0 5) t + S 0 7 ≤ cls S l) ∧ csO S l row t k = true) = 1 by omega)).1, csO_t.mpr ⟨(bI_1.mp (show bI ((opn S l ≤ co l (S 0 5) t ∧ co l (S 0 5) t + S 0 7 ≤ cls S l) ∧ csO S l row t k = true) = 1 by omega)).2, by omega⟩⟩).symm
                          | exact (bI_f (fun h => bI_0.mp (show bI ((opn S l ≤ co l (S 0 5) t ∧ co l (S 0 5) t + S 0 7 ≤ cls S l) ∧ csO S l row t k = true) = 0 by omega) ⟨h.1, (csO_t.mp h.2).1⟩)).symm
                          | exact (bI_f (fun h => (csO_t.mp h.2).2 (by omega))).symm, trivial⟩) rfl
          · refine J_iload hX dX10_isClear_168 rfl ?_
            refine J_if_eq hX 184 dX10_isClear_170 (by decide) (by decide) (fun _ => ?_) (fun h => absurd (by decide) h)
            refine J_iconst hX dX10_isClear_184 ?_
            refine J_goto hX 189 dX10_isClear_185 (by decide) ?_
            refine J_istore hX dX10_isClear_189 (by decide) ?_
            refine J_iinc hX dX10_isClear_191 rfl (by decide) ?_
            refine J_goto hX 82 dX10_isClear_194 (by decide) ?_
            exact J_locI (ih82 (k + 1) (by omega) (by omega) _ ⟨by
                        first
                          | exact (bI_t ⟨(bI_1.mp (show bI ((opn S l ≤ co l (S 0 5) t ∧ co l (S 0 5) t + S 0 7 ≤ cls S l) ∧ csO S l row t k = true) = 1 by omega)).1, csO_t.mpr ⟨(bI_1.mp (show bI ((opn S l ≤ co l (S 0 5) t ∧ co l (S 0 5) t + S 0 7 ≤ cls S l) ∧ csO S l row t k = true) = 1 by omega)).2, by omega⟩⟩).symm
                          | exact (bI_f (fun h => bI_0.mp (show bI ((opn S l ≤ co l (S 0 5) t ∧ co l (S 0 5) t + S 0 7 ≤ cls S l) ∧ csO S l row t k = true) = 0 by omega) ⟨h.1, (csO_t.mp h.2).1⟩)).symm
                          | exact (bI_f (fun h => (csO_t.mp h.2).2 (by omega))).symm, trivial⟩) rfl
        · refine J_iload hX dX10_isClear_134 rfl ?_
          refine J_iload hX dX10_isClear_136 rfl ?_
          refine J_icmp_ge hX 160 dX10_isClear_138 (by omega) (by omega) (by decide) (fun c138 => ?_) (fun c138 => ?_)
          · refine J_iconst hX dX10_isClear_160 ?_
            refine J_istore hX dX10_isClear_161 (by decide) ?_
            refine J_iload hX dX10_isClear_163 rfl ?_
            refine J_if_eq hX 188 dX10_isClear_165 (by omega) (by decide) (fun c165 => ?_) (fun c165 => ?_)
            · refine J_iconst hX dX10_isClear_188 ?_
              refine J_istore hX dX10_isClear_189 (by decide) ?_
              refine J_iinc hX dX10_isClear_191 rfl (by decide) ?_
              refine J_goto hX 82 dX10_isClear_194 (by decide) ?_
              exact J_locI (ih82 (k + 1) (by omega) (by omega) _ ⟨by
                          first
                            | exact (bI_t ⟨(bI_1.mp (show bI ((opn S l ≤ co l (S 0 5) t ∧ co l (S 0 5) t + S 0 7 ≤ cls S l) ∧ csO S l row t k = true) = 1 by omega)).1, csO_t.mpr ⟨(bI_1.mp (show bI ((opn S l ≤ co l (S 0 5) t ∧ co l (S 0 5) t + S 0 7 ≤ cls S l) ∧ csO S l row t k = true) = 1 by omega)).2, by omega⟩⟩).symm
                            | exact (bI_f (fun h => bI_0.mp (show bI ((opn S l ≤ co l (S 0 5) t ∧ co l (S 0 5) t + S 0 7 ≤ cls S l) ∧ csO S l row t k = true) = 0 by omega) ⟨h.1, (csO_t.mp h.2).1⟩)).symm
                            | exact (bI_f (fun h => (csO_t.mp h.2).2 (by omega))).symm, trivial⟩) rfl
            · refine J_iload hX dX10_isClear_168 rfl ?_
              refine J_if_eq hX 184 dX10_isClear_170 (by decide) (by decide) (fun _ => ?_) (fun h => absurd (by decide) h)
              refine J_iconst hX dX10_isClear_184 ?_
              refine J_goto hX 189 dX10_isClear_185 (by decide) ?_
              refine J_istore hX dX10_isClear_189 (by decide) ?_
              refine J_iinc hX dX10_isClear_191 rfl (by decide) ?_
              refine J_goto hX 82 dX10_isClear_194 (by decide) ?_
              exact J_locI (ih82 (k + 1) (by omega) (by omega) _ ⟨by
                          first
                            | exact (bI_t ⟨(bI_1.mp (show bI ((opn S l ≤ co l (S 0 5) t ∧ co l (S 0 5) t + S 0 7 ≤ cls S l) ∧ csO S l row t k = true) = 1 by omega)).1, csO_t.mpr ⟨(bI_1.mp (show bI ((opn S l ≤ co l (S 0 5) t ∧ co l (S 0 5) t + S 0 7 ≤ cls S l) ∧ csO S l row t k = true) = 1 by omega)).2, by omega⟩⟩).symm
                            | exact (bI_f (fun h => bI_0.mp (show bI ((opn S l ≤ co l (S 0 5) t ∧ co l (S 0 5) t + S 0 7 ≤ cls S l) ∧ csO S l row t k = true) = 0 by omega) ⟨h.1, (csO_t.mp h.2).1⟩)).symm
                            | exact (bI_f (fun h => (csO_t.mp h.2).2 (by omega))).symm, trivial⟩) rfl
          · refine J_iload hX dX10_isClear_141 rfl ?_
            refine J_aload_n hX dX10_isClear_143 rfl ?_
            refine J_iload hX dX10_isClear_144 rfl ?_
            refine J_iconst hX dX10_isClear_146 ?_
            refine J_callVI hX _ dX10_isClear_147 cw_RX10_62 (m_X10_of hM (by omega) (by omega) (by omega)) ⟨(show K (r) = 9 from hM 0 (by decide)), by decide, by decide, rfl⟩ rfl (Nat.le_of_ble_eq_true rfl) (by decide) ⟨Nat.zero_le _, Nat.zero_le _⟩ (fun r147 => ?_)
            refine J_iadd hX dX10_isClear_150 ?_
            refine J_iload hX dX10_isClear_151 rfl ?_
            refine J_icmp_le hX 160 dX10_isClear_153 (by omega) (by omega) (by decide) (fun c153 => ?_) (fun c153 => ?_)
            · refine J_iconst hX dX10_isClear_160 ?_
              refine J_istore hX dX10_isClear_161 (by decide) ?_
              refine J_iload hX dX10_isClear_163 rfl ?_
              refine J_if_eq hX 188 dX10_isClear_165 (by omega) (by decide) (fun c165 => ?_) (fun c165 => ?_)
              · refine J_iconst hX dX10_isClear_188 ?_
                refine J_istore hX dX10_isClear_189 (by decide) ?_
                refine J_iinc hX dX10_isClear_191 rfl (by decide) ?_
                refine J_goto hX 82 dX10_isClear_194 (by decide) ?_
                exact J_locI (ih82 (k + 1) (by omega) (by omega) _ ⟨by
                            first
                              | exact (bI_t ⟨(bI_1.mp (show bI ((opn S l ≤ co l (S 0 5) t ∧ co l (S 0 5) t + S 0 7 ≤ cls S l) ∧ csO S l row t k = true) = 1 by omega)).1, csO_t.mpr ⟨(bI_1.mp (show bI ((opn S l ≤ co l (S 0 5) t ∧ co l (S 0 5) t + S 0 7 ≤ cls S l) ∧ csO S l row t k = true) = 1 by omega)).2, by omega⟩⟩).symm
                              | exact (bI_f (fun h => bI_0.mp (show bI ((opn S l ≤ co l (S 0 5) t ∧ co l (S 0 5) t + S 0 7 ≤ cls S l) ∧ csO S l row t k = true) = 0 by omega) ⟨h.1, (csO_t.mp h.2).1⟩)).symm
                              | exact (bI_f (fun h => (csO_t.mp h.2).2 (by omega))).symm, trivial⟩) rfl
              · refine J_iload hX dX10_isClear_168 rfl ?_
                refine J_if_eq hX 184 dX10_isClear_170 (by decide) (by decide) (fun _ => ?_) (fun h => absurd (by decide) h)
                refine J_iconst hX dX10_isClear_184 ?_
                refine J_goto hX 189 dX10_isClear_185 (by decide) ?_
                refine J_istore hX dX10_isClear_189 (by decide) ?_
                refine J_iinc hX dX10_isClear_191 rfl (by decide) ?_
                refine J_goto hX 82 dX10_isClear_194 (by decide) ?_
                exact J_locI (ih82 (k + 1) (by omega) (by omega) _ ⟨by
                            first
                              | exact (bI_t ⟨(bI_1.mp (show bI ((opn S l ≤ co l (S 0 5) t ∧ co l (S 0 5) t + S 0 7 ≤ cls S l) ∧ csO S l row t k = true) = 1 by omega)).1, csO_t.mpr ⟨(bI_1.mp (show bI ((opn S l ≤ co l (S 0 5) t ∧ co l (S 0 5) t + S 0 7 ≤ cls S l) ∧ csO S l row t k = true) = 1 by omega)).2, by omega⟩⟩).symm
                              | exact (bI_f (fun h => bI_0.mp (show bI ((opn S l ≤ co l (S 0 5) t ∧ co l (S 0 5) t + S 0 7 ≤ cls S l) ∧ csO S l row t k = true) = 0 by omega) ⟨h.1, (csO_t.mp h.2).1⟩)).symm
                              | exact (bI_f (fun h => (csO_t.mp h.2).2 (by omega))).symm, trivial⟩) rfl
            · refine J_iconst hX dX10_isClear_156 ?_
              refine J_goto hX 161 dX10_isClear_157 (by decide) ?_
              refine J_istore hX dX10_isClear_161 (by decide) ?_
              refine J_iload hX dX10_isClear_163 rfl ?_
              refine J_if_eq hX 188 dX10_isClear_165 (by omega) (by decide) (fun c165 => ?_) (fun c165 => ?_)
              · refine J_iconst hX dX10_isClear_188 ?_
                refine J_istore hX dX10_isClear_189 (by decide) ?_
                refine J_iinc hX dX10_isClear_191 rfl (by decide) ?_
                refine J_goto hX 82 dX10_isClear_194 (by decide) ?_
                exact J_locI (ih82 (k + 1) (by omega) (by omega) _ ⟨by
                            first
                              | exact (bI_t ⟨(bI_1.mp (show bI ((opn S l ≤ co l (S 0 5) t ∧ co l (S 0 5) t + S 0 7 ≤ cls S l) ∧ csO S l row t k = true) = 1 by omega)).1, csO_t.mpr ⟨(bI_1.mp (show bI ((opn S l ≤ co l (S 0 5) t ∧ co l (S 0 5) t + S 0 7 ≤ cls S l) ∧ csO S l row t k = true) = 1 by omega)).2, by omega⟩⟩).symm
                              | exact (bI_f (fun h => bI_0.mp (show bI ((opn S l ≤ co l (S 0 5) t ∧ co l (S 0 5) t + S 0 7 ≤ cls S l) ∧ csO S l row t k = true) = 0 by omega) ⟨h.1, (csO_t.mp h.2).1⟩)).symm
                              | exact (bI_f (fun h => (csO_t.mp h.2).2 (by omega))).symm, trivial⟩) rfl
              · refine J_iload hX dX10_isClear_168 rfl ?_
                refine J_if_eq hX 184 dX10_isClear_170 (by decide) (by decide) (fun h => absurd h (by decide)) (fun _ => ?_)
                refine J_aload_n hX dX10_isClear_173 rfl ?_
                refine J_gr hX (r + 9) fr_RX10_34 dX10_isClear_174 (show K (r) = 9 from hM 0 (by decide)) rfl ?_
                refine J_iload hX dX10_isClear_177 rfl ?_
                refine J_iald hX dX10_isClear_179 (show K (r + 9) = 1000 + 20 from hM 9 (by decide)) ⟨by omega, by omega⟩ (by decide) (fun r179 => ?_)
                refine J_iload_n hX dX10_isClear_180 rfl ?_
                refine J_icmp_ge hX 188 dX10_isClear_181 (by omega) (by omega) (by decide) (fun c181 => ?_) (fun c181 => ?_)
                · refine J_iconst hX dX10_isClear_188 ?_
                  refine J_istore hX dX10_isClear_189 (by decide) ?_
                  refine J_iinc hX dX10_isClear_191 rfl (by decide) ?_
                  refine J_goto hX 82 dX10_isClear_194 (by decide) ?_
                  exact J_locI (ih82 (k + 1) (by omega) (by omega) _ ⟨by
                              first
                                | exact (bI_t ⟨(bI_1.mp (show bI ((opn S l ≤ co l (S 0 5) t ∧ co l (S 0 5) t + S 0 7 ≤ cls S l) ∧ csO S l row t k = true) = 1 by omega)).1, csO_t.mpr ⟨(bI_1.mp (show bI ((opn S l ≤ co l (S 0 5) t ∧ co l (S 0 5) t + S 0 7 ≤ cls S l) ∧ csO S l row t k = true) = 1 by omega)).2, by omega⟩⟩).symm
                                | exact (bI_f (fun h => bI_0.mp (show bI ((opn S l ≤ co l (S 0 5) t ∧ co l (S 0 5) t + S 0 7 ≤ cls S l) ∧ csO S l row t k = true) = 0 by omega) ⟨h.1, (csO_t.mp h.2).1⟩)).symm
                                | exact (bI_f (fun h => (csO_t.mp h.2).2 (by omega))).symm, trivial⟩) rfl
                · refine J_iconst hX dX10_isClear_184 ?_
                  refine J_goto hX 189 dX10_isClear_185 (by decide) ?_
                  refine J_istore hX dX10_isClear_189 (by decide) ?_
                  refine J_iinc hX dX10_isClear_191 rfl (by decide) ?_
                  refine J_goto hX 82 dX10_isClear_194 (by decide) ?_
                  exact J_locI (ih82 (k + 1) (by omega) (by omega) _ ⟨by
                              first
                                | exact (bI_t ⟨(bI_1.mp (show bI ((opn S l ≤ co l (S 0 5) t ∧ co l (S 0 5) t + S 0 7 ≤ cls S l) ∧ csO S l row t k = true) = 1 by omega)).1, csO_t.mpr ⟨(bI_1.mp (show bI ((opn S l ≤ co l (S 0 5) t ∧ co l (S 0 5) t + S 0 7 ≤ cls S l) ∧ csO S l row t k = true) = 1 by omega)).2, by omega⟩⟩).symm
                                | exact (bI_f (fun h => bI_0.mp (show bI ((opn S l ≤ co l (S 0 5) t ∧ co l (S 0 5) t + S 0 7 ≤ cls S l) ∧ csO S l row t k = true) = 0 by omega) ⟨h.1, (csO_t.mp h.2).1⟩)).symm
                                | exact (bI_f (fun h => (csO_t.mp h.2).2 (by omega))).symm, trivial⟩) rfl
    exact J_locI (HL82 0 (Nat.zero_le _) _ ⟨by rw [hj77]; exact bI_c ⟨fun h => ⟨h, rfl⟩, fun h => h.1⟩, trivial⟩) rfl
  refine J_iload hX dX10_isClear_26 rfl ?_
  refine J_iload_n hX dX10_isClear_28 rfl ?_
  refine J_if_eq hX 39 dX10_isClear_29 (by omega) (by decide) (fun c29 => ?_) (fun c29 => ?_)
  · have eo : opn S l = 0 := if_pos c29
    have ec : cls S l = S 0 3 - wnd S 0 := if_pos c29
    refine J_iconst hX dX10_isClear_39 ?_
    refine J_icmp_lt hX 76 dX10_isClear_40 (by omega) (by decide) (by decide) (fun c40 => ?_) (fun c40 => ?_)
    · refine J_iconst hX dX10_isClear_76 ?_
      exact J_locI (JN77 _ (by first | exact (bI_t (by omega)).symm | exact (bI_f (by omega)).symm)) rfl
    · refine J_iload hX dX10_isClear_43 rfl ?_
      refine J_iload_n hX dX10_isClear_45 rfl ?_
      refine J_if_eq hX 58 dX10_isClear_46 (by omega) (by decide) (fun c46 => ?_) (fun c46 => ?_)
      · refine J_aload_n hX dX10_isClear_58 rfl ?_
        refine J_gr hX (r + 1) fr_RX10_7 dX10_isClear_59 (show K (r) = 9 from hM 0 (by decide)) rfl ?_
        refine J_iconst hX dX10_isClear_62 ?_
        refine J_iald hX dX10_isClear_63 (show K (r + 1) = 1000 + 198 from hM 1 (by decide)) ⟨by omega, by omega⟩ (by decide) (fun r63 => ?_)
        refine J_aload_n hX dX10_isClear_64 rfl ?_
        refine J_geti hX fi_RX10_193 dX10_isClear_65 (show K (r) = 9 from hM 0 (by decide)) (fun r65 => ?_)
        refine J_isub hX dX10_isClear_68 ?_
        refine J_icmp_gt hX 76 dX10_isClear_69 (by omega) (by omega) (by decide) (fun c69 => ?_) (fun c69 => ?_)
        · refine J_iconst hX dX10_isClear_76 ?_
          exact J_locI (JN77 _ (by first | exact (bI_t (by omega)).symm | exact (bI_f (by omega)).symm)) rfl
        · refine J_iconst hX dX10_isClear_72 ?_
          refine J_goto hX 77 dX10_isClear_73 (by decide) ?_
          exact J_locI (JN77 _ (by first | exact (bI_t (by omega)).symm | exact (bI_f (by omega)).symm)) rfl
      · refine J_aload_n hX dX10_isClear_49 rfl ?_
        refine J_gr hX (r + 1) fr_RX10_7 dX10_isClear_50 (show K (r) = 9 from hM 0 (by decide)) rfl ?_
        refine J_iconst hX dX10_isClear_53 ?_
        refine J_iald hX dX10_isClear_54 (show K (r + 1) = 1000 + 198 from hM 1 (by decide)) ⟨by omega, by omega⟩ (by decide) (fun r54 => ?_)
        refine J_goto hX 69 dX10_isClear_55 (by decide) ?_
        refine J_icmp_gt hX 76 dX10_isClear_69 (by omega) (by omega) (by decide) (fun c69 => ?_) (fun c69 => ?_)
        · refine J_iconst hX dX10_isClear_76 ?_
          exact J_locI (JN77 _ (by first | exact (bI_t (by omega)).symm | exact (bI_f (by omega)).symm)) rfl
        · refine J_iconst hX dX10_isClear_72 ?_
          refine J_goto hX 77 dX10_isClear_73 (by decide) ?_
          exact J_locI (JN77 _ (by first | exact (bI_t (by omega)).symm | exact (bI_f (by omega)).symm)) rfl
  · have eo : opn S l = wnd S 1 := if_neg c29
    have ec : cls S l = S 0 3 := if_neg c29
    refine J_aload_n hX dX10_isClear_32 rfl ?_
    refine J_geti hX fi_RX10_190 dX10_isClear_33 (show K (r) = 9 from hM 0 (by decide)) (fun r33 => ?_)
    refine J_goto hX 40 dX10_isClear_36 (by decide) ?_
    refine J_icmp_lt hX 76 dX10_isClear_40 (by omega) (by omega) (by decide) (fun c40 => ?_) (fun c40 => ?_)
    · refine J_iconst hX dX10_isClear_76 ?_
      exact J_locI (JN77 _ (by first | exact (bI_t (by omega)).symm | exact (bI_f (by omega)).symm)) rfl
    · refine J_iload hX dX10_isClear_43 rfl ?_
      refine J_iload_n hX dX10_isClear_45 rfl ?_
      refine J_if_eq hX 58 dX10_isClear_46 (by omega) (by decide) (fun c46 => ?_) (fun c46 => ?_)
      · refine J_aload_n hX dX10_isClear_58 rfl ?_
        refine J_gr hX (r + 1) fr_RX10_7 dX10_isClear_59 (show K (r) = 9 from hM 0 (by decide)) rfl ?_
        refine J_iconst hX dX10_isClear_62 ?_
        refine J_iald hX dX10_isClear_63 (show K (r + 1) = 1000 + 198 from hM 1 (by decide)) ⟨by omega, by omega⟩ (by decide) (fun r63 => ?_)
        refine J_aload_n hX dX10_isClear_64 rfl ?_
        refine J_geti hX fi_RX10_193 dX10_isClear_65 (show K (r) = 9 from hM 0 (by decide)) (fun r65 => ?_)
        refine J_isub hX dX10_isClear_68 ?_
        refine J_icmp_gt hX 76 dX10_isClear_69 (by omega) (by omega) (by decide) (fun c69 => ?_) (fun c69 => ?_)
        · refine J_iconst hX dX10_isClear_76 ?_
          exact J_locI (JN77 _ (by first | exact (bI_t (by omega)).symm | exact (bI_f (by omega)).symm)) rfl
        · refine J_iconst hX dX10_isClear_72 ?_
          refine J_goto hX 77 dX10_isClear_73 (by decide) ?_
          exact J_locI (JN77 _ (by first | exact (bI_t (by omega)).symm | exact (bI_f (by omega)).symm)) rfl
      · refine J_aload_n hX dX10_isClear_49 rfl ?_
        refine J_gr hX (r + 1) fr_RX10_7 dX10_isClear_50 (show K (r) = 9 from hM 0 (by decide)) rfl ?_
        refine J_iconst hX dX10_isClear_53 ?_
        refine J_iald hX dX10_isClear_54 (show K (r + 1) = 1000 + 198 from hM 1 (by decide)) ⟨by omega, by omega⟩ (by decide) (fun r54 => ?_)
        refine J_goto hX 69 dX10_isClear_55 (by decide) ?_
        refine J_icmp_gt hX 76 dX10_isClear_69 (by omega) (by omega) (by decide) (fun c69 => ?_) (fun c69 => ?_)
        · refine J_iconst hX dX10_isClear_76 ?_
          exact J_locI (JN77 _ (by first | exact (bI_t (by omega)).symm | exact (bI_f (by omega)).symm)) rfl
        · refine J_iconst hX dX10_isClear_72 ?_
          refine J_goto hX 77 dX10_isClear_73 (by decide) ?_
          exact J_locI (JN77 _ (by first | exact (bI_t (by omega)).symm | exact (bI_f (by omega)).symm)) rfl
-- X10_findTitle
set_option maxHeartbeats 4000000 in
set_option maxRecDepth 100000 in
theorem m_X10_findTitle {E : EE} {K : Nat → Nat} {M : MM} {r : Nat} {T : Int} {S : MM}  (hM : ModelK K r) (hR : RS S (M (r + 1))) (hW : WFS T S) (hMd : Mdl M r S) (hw1 : M r 15 = wnd S 1) (hw0 : M r 16 = wnd S 0) : CnM E 4 yX10_findTitle cX10_findTitle 3 none [.ref r] K M (fun r9 M2 => r9 = none ∧ (∀ i, i ≠ r → M2 i = M i) ∧ (∀ j, j ≠ 17 → j ≠ 18 → j ≠ 19 → M2 r j = M r j) ∧ (M2 r 17 = 1 ∧ M2 r 18 = (ttl S).1 ∧ M2 r 19 = (ttl S).2 ∧ 0 ≤ (ttl S).1 ∨ M2 r 17 = 0 ∧ (ttl S).1 < 0)) := by
  obtain ⟨⟨rs0, rs1, rs2, rs3, rs4, rs5, rs6, rs7, rs8, rs9, rs10, rs13⟩, rst, rsn, rsc⟩ := id hR
  have hs9 := hW.2.1
  unfold WFSs at hs9
  refine Cn_of RX10 (plainFor_of_name (by decide)) rfl (Nat.le_of_ble_eq_true rfl) (fun X hX hQ => ?_)
  refine J_aload_n hX dX10_findTitle_0 rfl ?_
  refine J_iconst hX dX10_findTitle_1 ?_
  refine J_putA hX fw_RX10_196 dX10_findTitle_2 (show K (r) = 9 from hM 0 (by decide)) (by omega) (Or.inr ⟨rfl, by omega⟩) (fun m2 hm2 => ?_)
  have fm2 : ∀ i, i ≠ r → m2 i = M i := fun i h => by rw [hm2]; exact mset_ne h
  have gm2 : ∀ i j, j ≠ 17 → m2 i j = M i j := fun i j h => by rw [hm2]; exact mset_nj h
  have vm2 := (congrFun (congrFun hm2 (r)) 17).trans mset_eq
  refine J_aload_n hX dX10_findTitle_5 rfl ?_
  refine J_gr hX (r + 1) fr_RX10_7 dX10_findTitle_6 (show K (r) = 9 from hM 0 (by decide)) rfl ?_
  refine J_bipush hX dX10_findTitle_9 rfl ?_
  refine J_iald hX dX10_findTitle_11 (show K (r + 1) = 1000 + 198 from hM 1 (by decide)) ⟨by omega, by omega⟩ (by decide) (fun r11 => ?_)
  refine J_istore_n hX dX10_findTitle_12 (by decide) ?_
  have HL13 : ∀ k : Nat, k ≤ (S 0 6 + 1).toNat → ∀ (p f : Int) (M2 : MM), (((∀ i, i ≠ r → M2 i = M i) ∧ (∀ j, j ≠ 17 → j ≠ 18 → j ≠ 19 → M2 r j = M r j)) ∧ (i32 p ∧ (S 0 7 = 0 ∧ f = 0 ∨ S 0 7 ≠ 0 ∧ p = S 0 6 - k ∧ (f = 0 ∧ trw S (S 0 6 + 1 - k).toNat = ttl S ∨ f = 1 ∧ M2 r 18 = (ttl S).1 ∧ M2 r 19 = (ttl S).2 ∧ 0 ≤ (ttl S).1))) ∧ M2 r 17 = f) → J E X 13 [(0, .ref r), (1, vI p)] [] K M2 0 0 := by
    refine up_ind ((S 0 6 + 1).toNat) (fun k hk13 ih13 => ?_)
    intro p f  M2  hi13
    have h17 := hi13.2.2
    have hp32 := hi13.2.1.1
    have hi13 : _ ∧ _ := ⟨hi13.1, hi13.2.1.2⟩
    have hh : ∀ i, i ≠ r → M2 i = M i := hi13.1.1
    have w13 := congrFun (hh (r + 1) (by omega)) 13
    refine J_iload_n hX dX10_findTitle_13 rfl ?_
    refine J_if_lt hX 105 dX10_findTitle_14 (by omega) (by decide) (fun c14 => ?_) (fun c14 => ?_)
    · exact J_vret hX hQ dX10_findTitle_105 ⟨rfl, by exact ⟨rfl, hi13.1.1, hi13.1.2, by rcases hi13.2 with ⟨a, b⟩ | ⟨a, b, c | c⟩; (right; exact ⟨by omega, by unfold ttl; rw [if_pos a]; show (-1000 : Int) < 0; decide⟩); (right; exact ⟨by omega, by rw [← c.2, show (S 0 6 + 1 - k).toNat = 0 by omega]; show (-1000 : Int) < 0; decide⟩); (left; exact ⟨by omega, c.2⟩)⟩⟩ (Nat.zero_le _) (Nat.zero_le _)
    · have w13 : M2 (r + 1) 13 = S 0 7 := by rw [hi13.1.1 _ (by omega)]; exact rs13
      refine J_aload_n hX dX10_findTitle_17 rfl ?_
      refine J_gr hX (r + 1) fr_RX10_7 dX10_findTitle_18 (show K (r) = 9 from hM 0 (by decide)) rfl ?_
      refine J_bipush hX dX10_findTitle_21 rfl ?_
      refine J_iald hX dX10_findTitle_23 (show K (r + 1) = 1000 + 198 from hM 1 (by decide)) ⟨by omega, by omega⟩ (by decide) (fun r23 => ?_)
      refine J_if_le hX 105 dX10_findTitle_24 (by omega) (by decide) (fun c24 => ?_) (fun c24 => ?_)
      · exact J_vret hX hQ dX10_findTitle_105 ⟨rfl, by exact ⟨rfl, hi13.1.1, hi13.1.2, by rcases hi13.2 with ⟨a, b⟩ | ⟨a, b, c | c⟩; (right; exact ⟨by omega, by unfold ttl; rw [if_pos a]; show (-1000 : Int) < 0; decide⟩); (right; exact ⟨by omega, by rw [← c.2, show (S 0 6 + 1 - k).toNat = 0 by omega]; show (-1000 : Int) < 0; decide⟩); (left; exact ⟨by omega, c.2⟩)⟩⟩ (Nat.zero_le _) (Nat.zero_le _)
      · refine J_aload_n hX dX10_findTitle_27 rfl ?_
        refine J_geti hX fi_RX10_196 dX10_findTitle_28 (show K (r) = 9 from hM 0 (by decide)) (fun r28 => ?_)
        refine J_if_ne hX 105 dX10_findTitle_31 (by omega) (by decide) (fun c31 => ?_) (fun c31 => ?_)
        · exact J_vret hX hQ dX10_findTitle_105 ⟨rfl, by exact ⟨rfl, hi13.1.1, hi13.1.2, by rcases hi13.2 with ⟨a, b⟩ | ⟨a, b, c | c⟩; (right; exact ⟨by omega, by unfold ttl; rw [if_pos a]; show (-1000 : Int) < 0; decide⟩); (right; exact ⟨by omega, by rw [← c.2, show (S 0 6 + 1 - k).toNat = 0 by omega]; show (-1000 : Int) < 0; decide⟩); (left; exact ⟨by omega, c.2⟩)⟩⟩ (Nat.zero_le _) (Nat.zero_le _)
        · have h7 : S 0 7 ≠ 0 := by omega
          have hp0 : p = S 0 6 - k := by rcases hi13.2 with h | h; exact absurd h.1 h7; exact h.2.1
          have htw : trw S (p + 1).toNat = ttl S := by rcases hi13.2 with h | ⟨_, h1, h2 | h2⟩; exact absurd h.1 h7; (rw [← h2.2, show S 0 6 + 1 - (k : Int) = p + 1 by omega]); (exfalso; omega)
          have tr0 := tsr_rng (S := S) (r := p) (S 11 3 + 1).toNat 0
          refine J_iconst hX dX10_findTitle_34 ?_
          refine J_istore_n hX dX10_findTitle_35 (by decide) ?_
          have HL36 : ∀ q : Nat, q ≤ (S 11 3 + 1).toNat → ∀ (t : Int) (M3 : MM), (((∀ i, i ≠ r → M3 i = M i) ∧ (∀ j, j ≠ 17 → j ≠ 18 → j ≠ 19 → M3 r j = M r j)) ∧ t = (q : Int) ∧ (M3 r 17 = 0 ∧ tsr S p ((S 11 3 + 1).toNat - q) q = tsr S p (S 11 3 + 1).toNat 0 ∧ (q = (S 11 3 + 1).toNat → tsr S p (S 11 3 + 1).toNat 0 = -1) ∨ M3 r 17 = 1 ∧ M3 r 18 = p ∧ M3 r 19 = tsr S p (S 11 3 + 1).toNat 0 ∧ 0 ≤ tsr S p (S 11 3 + 1).toNat 0)) → J E X 36 [(0, .ref r), (1, vI p), (2, vI t)] [] K M3 0 0 := by
            refine up_ind ((S 11 3 + 1).toNat) (fun q hk36 ih36 => ?_)
            intro t  M3  hi36
            have hg := hi36.1.1
            have hgg := hi36.1.2
            have hRx : RS S (M3 (r + 1)) := by rw [hg _ (by omega)]; exact hR
            have hMx : Mdl M3 r S := hMd.fr (fun i i1 i2 => hg i (by omega)) (hgg 14 (by decide) (by decide) (by decide))
            have w15 : M3 r 15 = wnd S 1 := by rw [hgg 15 (by decide) (by decide) (by decide)]; exact hw1
            have w16 : M3 r 16 = wnd S 0 := by rw [hgg 16 (by decide) (by decide) (by decide)]; exact hw0
            have w6 := congrFun (hg (r + 1) (by omega)) 6
            refine J_iload_n hX dX10_findTitle_36 rfl ?_
            refine J_aload_n hX dX10_findTitle_37 rfl ?_
            refine J_gr hX (r + 1) fr_RX10_7 dX10_findTitle_38 (show K (r) = 9 from hM 0 (by decide)) rfl ?_
            refine J_bipush hX dX10_findTitle_41 rfl ?_
            refine J_iald hX dX10_findTitle_43 (show K (r + 1) = 1000 + 198 from hM 1 (by decide)) ⟨by omega, by omega⟩ (by decide) (fun r43 => ?_)
            refine J_icmp_gt hX 99 dX10_findTitle_44 (by omega) (by omega) (by decide) (fun c44 => ?_) (fun c44 => ?_)
            · refine J_iinc hX dX10_findTitle_99 rfl (by decide) ?_
              refine J_goto hX 13 dX10_findTitle_102 (by decide) ?_
              exact J_locI (ih13 (k + 1) (by omega) (by omega) _ (M3 r 17) _ ⟨hi36.1, ⟨by omega, Or.inr ⟨h7, by omega, by
                          rcases hi36.2.2 with h | h
                          · left
                            exact ⟨h.1, by rw [← htw, trw_f (r1 := (p + 1).toNat - 1) (r := (p + 1).toNat) (by omega) (by rw [show (((p + 1).toNat - 1 : Nat) : Int) = p by omega]; omega)]; congr 1; omega⟩
                          · right
                            have et := trw_t (S := S) (r1 := (p + 1).toNat - 1) (r := (p + 1).toNat) (by omega) (by rw [show (((p + 1).toNat - 1 : Nat) : Int) = p by omega]; omega)
                            rw [show (((p + 1).toNat - 1 : Nat) : Int) = p by omega, htw] at et
                            rw [et]
                            exact ⟨h.1, h.2.1, h.2.2.1, by show 0 ≤ p; omega⟩⟩⟩, rfl⟩) rfl
            · have w6 : M3 (r + 1) 6 = S 11 3 := by rw [hi36.1.1 _ (by omega)]; exact rs6
              refine J_aload_n hX dX10_findTitle_47 rfl ?_
              refine J_geti hX fi_RX10_196 dX10_findTitle_48 (show K (r) = 9 from hM 0 (by decide)) (fun r48 => ?_)
              refine J_if_ne hX 99 dX10_findTitle_51 (by omega) (by decide) (fun c51 => ?_) (fun c51 => ?_)
              · refine J_iinc hX dX10_findTitle_99 rfl (by decide) ?_
                refine J_goto hX 13 dX10_findTitle_102 (by decide) ?_
                exact J_locI (ih13 (k + 1) (by omega) (by omega) _ (M3 r 17) _ ⟨hi36.1, ⟨by omega, Or.inr ⟨h7, by omega, by
                            rcases hi36.2.2 with h | h
                            · left
                              exact ⟨h.1, by rw [← htw, trw_f (r1 := (p + 1).toNat - 1) (r := (p + 1).toNat) (by omega) (by rw [show (((p + 1).toNat - 1 : Nat) : Int) = p by omega]; omega)]; congr 1; omega⟩
                            · right
                              have et := trw_t (S := S) (r1 := (p + 1).toNat - 1) (r := (p + 1).toNat) (by omega) (by rw [show (((p + 1).toNat - 1 : Nat) : Int) = p by omega]; omega)
                              rw [show (((p + 1).toNat - 1 : Nat) : Int) = p by omega, htw] at et
                              rw [et]
                              exact ⟨h.1, h.2.1, h.2.2.1, by show 0 ≤ p; omega⟩⟩⟩, rfl⟩) rfl
              · refine J_aload_n hX dX10_findTitle_54 rfl ?_
                refine J_aload_n hX dX10_findTitle_55 rfl ?_
                refine J_iload_n hX dX10_findTitle_56 rfl ?_
                refine J_iload_n hX dX10_findTitle_57 rfl ?_
                refine J_iconst hX dX10_findTitle_58 ?_
                refine J_callVB hX _ dX10_findTitle_59 cw_RX10_200 (m_X10_isClear hM hRx hW hMx w15 w16 (by omega) (by omega) h7 (by decide)) ⟨(show K (r) = 9 from hM 0 (by decide)), by decide, by decide, rfl⟩ rfl (Nat.le_of_ble_eq_true rfl) (by decide) ⟨Nat.zero_le _, Nat.zero_le _⟩ ?_
                refine J_ifb_eq hX 79 dX10_findTitle_62 (by decide) (fun c62 => ?_) (fun c62 => ?_)
                · refine J_iconst hX dX10_findTitle_79 ?_
                  refine J_putA hX fw_RX10_196 dX10_findTitle_80 (show K (r) = 9 from hM 0 (by decide)) (by omega) (Or.inr ⟨rfl, by omega⟩) (fun m80 hm80 => ?_)
                  have fm80 : ∀ i, i ≠ r → m80 i = M3 i := fun i h => by rw [hm80]; exact mset_ne h
                  have gm80 : ∀ i j, j ≠ 17 → m80 i j = M3 i j := fun i j h => by rw [hm80]; exact mset_nj h
                  have vm80 := (congrFun (congrFun hm80 (r)) 17).trans mset_eq
                  refine J_aload_n hX dX10_findTitle_83 rfl ?_
                  refine J_iload_n hX dX10_findTitle_84 rfl ?_
                  refine J_putA hX fw_RX10_204 dX10_findTitle_85 (show K (r) = 9 from hM 0 (by decide)) (by omega) (Or.inl rfl) (fun m85 hm85 => ?_)
                  have fm85 : ∀ i, i ≠ r → m85 i = m80 i := fun i h => by rw [hm85]; exact mset_ne h
                  have gm85 : ∀ i j, j ≠ 18 → m85 i j = m80 i j := fun i j h => by rw [hm85]; exact mset_nj h
                  have vm85 := (congrFun (congrFun hm85 (r)) 18).trans mset_eq
                  refine J_aload_n hX dX10_findTitle_88 rfl ?_
                  refine J_iload_n hX dX10_findTitle_89 rfl ?_
                  refine J_putA hX fw_RX10_207 dX10_findTitle_90 (show K (r) = 9 from hM 0 (by decide)) (by omega) (Or.inl rfl) (fun m90 hm90 => ?_)
                  have fm90 : ∀ i, i ≠ r → m90 i = m85 i := fun i h => by rw [hm90]; exact mset_ne h
                  have gm90 : ∀ i j, j ≠ 19 → m90 i j = m85 i j := fun i j h => by rw [hm90]; exact mset_nj h
                  have vm90 := (congrFun (congrFun hm90 (r)) 19).trans mset_eq
                  refine J_iinc hX dX10_findTitle_93 rfl (by decide) ?_
                  refine J_goto hX 36 dX10_findTitle_96 (by decide) ?_
                  exact J_locI (ih36 (q + 1) (by omega) (by omega) _ _ ⟨⟨fun i hi => by rw [fm90 i hi, fm85 i hi, fm80 i hi]; exact hg i hi, fun j j1 j2 j3 => by rw [gm90 _ j j3, gm85 _ j j2, gm80 _ j j1]; exact hgg j j1 j2 j3⟩, by omega, by
                                have hts : tsr S p ((S 11 3 + 1).toNat - q) q = tsr S p (S 11 3 + 1).toNat 0 := by rcases hi36.2.2 with h | h; exact h.2.1; omega
                                have e17 : m90 r 17 = m80 r 17 := by rw [gm90 _ 17 (by decide), gm85 _ 17 (by decide)]
                                have e18 : m90 r 18 = m85 r 18 := gm90 _ 18 (by decide)
                                first
                                  | (left
                                     rw [tsr_f (m1 := (S 11 3 + 1).toNat - (q + 1)) (by omega) (by rw [← hi36.2.1]; first | exact fun h => c62 h.1 | exact fun h => c72 h.2)] at hts
                                     exact ⟨by omega, hts, fun e => by rw [← hts, e, Nat.sub_self]; rfl⟩)
                                  | (right
                                     rw [tsr_t (m1 := (S 11 3 + 1).toNat - (q + 1)) (by omega) (by rw [← hi36.2.1]; exact ⟨c62, c72⟩)] at hts
                                     exact ⟨by omega, by omega, by omega, by omega⟩)⟩) rfl
                · refine J_aload_n hX dX10_findTitle_65 rfl ?_
                  refine J_iload_n hX dX10_findTitle_66 rfl ?_
                  refine J_iload_n hX dX10_findTitle_67 rfl ?_
                  refine J_iconst hX dX10_findTitle_68 ?_
                  refine J_callVB hX _ dX10_findTitle_69 cw_RX10_200 (m_X10_isClear hM hRx hW hMx w15 w16 (by omega) (by omega) h7 (by decide)) ⟨(show K (r) = 9 from hM 0 (by decide)), by decide, by decide, rfl⟩ rfl (Nat.le_of_ble_eq_true rfl) (by decide) ⟨Nat.zero_le _, Nat.zero_le _⟩ ?_
                  refine J_ifb_eq hX 79 dX10_findTitle_72 (by decide) (fun c72 => ?_) (fun c72 => ?_)
                  · refine J_iconst hX dX10_findTitle_79 ?_
                    refine J_putA hX fw_RX10_196 dX10_findTitle_80 (show K (r) = 9 from hM 0 (by decide)) (by omega) (Or.inr ⟨rfl, by omega⟩) (fun m80 hm80 => ?_)
                    have fm80 : ∀ i, i ≠ r → m80 i = M3 i := fun i h => by rw [hm80]; exact mset_ne h
                    have gm80 : ∀ i j, j ≠ 17 → m80 i j = M3 i j := fun i j h => by rw [hm80]; exact mset_nj h
                    have vm80 := (congrFun (congrFun hm80 (r)) 17).trans mset_eq
                    refine J_aload_n hX dX10_findTitle_83 rfl ?_
                    refine J_iload_n hX dX10_findTitle_84 rfl ?_
                    refine J_putA hX fw_RX10_204 dX10_findTitle_85 (show K (r) = 9 from hM 0 (by decide)) (by omega) (Or.inl rfl) (fun m85 hm85 => ?_)
                    have fm85 : ∀ i, i ≠ r → m85 i = m80 i := fun i h => by rw [hm85]; exact mset_ne h
                    have gm85 : ∀ i j, j ≠ 18 → m85 i j = m80 i j := fun i j h => by rw [hm85]; exact mset_nj h
                    have vm85 := (congrFun (congrFun hm85 (r)) 18).trans mset_eq
                    refine J_aload_n hX dX10_findTitle_88 rfl ?_
                    refine J_iload_n hX dX10_findTitle_89 rfl ?_
                    refine J_putA hX fw_RX10_207 dX10_findTitle_90 (show K (r) = 9 from hM 0 (by decide)) (by omega) (Or.inl rfl) (fun m90 hm90 => ?_)
                    have fm90 : ∀ i, i ≠ r → m90 i = m85 i := fun i h => by rw [hm90]; exact mset_ne h
                    have gm90 : ∀ i j, j ≠ 19 → m90 i j = m85 i j := fun i j h => by rw [hm90]; exact mset_nj h
                    have vm90 := (congrFun (congrFun hm90 (r)) 19).trans mset_eq
                    refine J_iinc hX dX10_findTitle_93 rfl (by decide) ?_
                    refine J_goto hX 36 dX10_findTitle_96 (by decide) ?_
                    exact J_locI (ih36 (q + 1) (by omega) (by omega) _ _ ⟨⟨fun i hi => by rw [fm90 i hi, fm85 i hi, fm80 i hi]; exact hg i hi, fun j j1 j2 j3 => by rw [gm90 _ j j3, gm85 _ j j2, gm80 _ j j1]; exact hgg j j1 j2 j3⟩, by omega, by
                                  have hts : tsr S p ((S 11 3 + 1).toNat - q) q = tsr S p (S 11 3 + 1).toNat 0 := by rcases hi36.2.2 with h | h; exact h.2.1; omega
                                  have e17 : m90 r 17 = m80 r 17 := by rw [gm90 _ 17 (by decide), gm85 _ 17 (by decide)]
                                  have e18 : m90 r 18 = m85 r 18 := gm90 _ 18 (by decide)
                                  first
                                    | (left
                                       rw [tsr_f (m1 := (S 11 3 + 1).toNat - (q + 1)) (by omega) (by rw [← hi36.2.1]; first | exact fun h => c62 h.1 | exact fun h => c72 h.2)] at hts
                                       exact ⟨by omega, hts, fun e => by rw [← hts, e, Nat.sub_self]; rfl⟩)
                                    | (right
                                       rw [tsr_t (m1 := (S 11 3 + 1).toNat - (q + 1)) (by omega) (by rw [← hi36.2.1]; exact ⟨c62, c72⟩)] at hts
                                       exact ⟨by omega, by omega, by omega, by omega⟩)⟩) rfl
                  · refine J_iconst hX dX10_findTitle_75 ?_
                    refine J_goto hX 80 dX10_findTitle_76 (by decide) ?_
                    refine J_putA hX fw_RX10_196 dX10_findTitle_80 (show K (r) = 9 from hM 0 (by decide)) (by omega) (Or.inr ⟨rfl, by omega⟩) (fun m80 hm80 => ?_)
                    have fm80 : ∀ i, i ≠ r → m80 i = M3 i := fun i h => by rw [hm80]; exact mset_ne h
                    have gm80 : ∀ i j, j ≠ 17 → m80 i j = M3 i j := fun i j h => by rw [hm80]; exact mset_nj h
                    have vm80 := (congrFun (congrFun hm80 (r)) 17).trans mset_eq
                    refine J_aload_n hX dX10_findTitle_83 rfl ?_
                    refine J_iload_n hX dX10_findTitle_84 rfl ?_
                    refine J_putA hX fw_RX10_204 dX10_findTitle_85 (show K (r) = 9 from hM 0 (by decide)) (by omega) (Or.inl rfl) (fun m85 hm85 => ?_)
                    have fm85 : ∀ i, i ≠ r → m85 i = m80 i := fun i h => by rw [hm85]; exact mset_ne h
                    have gm85 : ∀ i j, j ≠ 18 → m85 i j = m80 i j := fun i j h => by rw [hm85]; exact mset_nj h
                    have vm85 := (congrFun (congrFun hm85 (r)) 18).trans mset_eq
                    refine J_aload_n hX dX10_findTitle_88 rfl ?_
                    refine J_iload_n hX dX10_findTitle_89 rfl ?_
                    refine J_putA hX fw_RX10_207 dX10_findTitle_90 (show K (r) = 9 from hM 0 (by decide)) (by omega) (Or.inl rfl) (fun m90 hm90 => ?_)
                    have fm90 : ∀ i, i ≠ r → m90 i = m85 i := fun i h => by rw [hm90]; exact mset_ne h
                    have gm90 : ∀ i j, j ≠ 19 → m90 i j = m85 i j := fun i j h => by rw [hm90]; exact mset_nj h
                    have vm90 := (congrFun (congrFun hm90 (r)) 19).trans mset_eq
                    refine J_iinc hX dX10_findTitle_93 rfl (by decide) ?_
                    refine J_goto hX 36 dX10_findTitle_96 (by decide) ?_
                    exact J_locI (ih36 (q + 1) (by omega) (by omega) _ _ ⟨⟨fun i hi => by rw [fm90 i hi, fm85 i hi, fm80 i hi]; exact hg i hi, fun j j1 j2 j3 => by rw [gm90 _ j j3, gm85 _ j j2, gm80 _ j j1]; exact hgg j j1 j2 j3⟩, by omega, by
                                  have hts : tsr S p ((S 11 3 + 1).toNat - q) q = tsr S p (S 11 3 + 1).toNat 0 := by rcases hi36.2.2 with h | h; exact h.2.1; omega
                                  have e17 : m90 r 17 = m80 r 17 := by rw [gm90 _ 17 (by decide), gm85 _ 17 (by decide)]
                                  have e18 : m90 r 18 = m85 r 18 := gm90 _ 18 (by decide)
                                  first
                                    | (left
                                       rw [tsr_f (m1 := (S 11 3 + 1).toNat - (q + 1)) (by omega) (by rw [← hi36.2.1]; first | exact fun h => c62 h.1 | exact fun h => c72 h.2)] at hts
                                       exact ⟨by omega, hts, fun e => by rw [← hts, e, Nat.sub_self]; rfl⟩)
                                    | (right
                                       rw [tsr_t (m1 := (S 11 3 + 1).toNat - (q + 1)) (by omega) (by rw [← hi36.2.1]; exact ⟨c62, c72⟩)] at hts
                                       exact ⟨by omega, by omega, by omega, by omega⟩)⟩) rfl
          exact J_locI (HL36 0 (Nat.zero_le _) _ _ ⟨hi13.1, rfl, Or.inl ⟨by omega, rfl, fun e => by rw [← e]; rfl⟩⟩) rfl
  exact J_locI (HL13 0 (Nat.zero_le _) _ 0 _ ⟨⟨fun i hi => fm2 i hi, fun j h1 h2 h3 => gm2 _ j h1⟩, ⟨r11, by rcases rst with h | h; (exact Or.inl ⟨h, rfl⟩); (by_cases h7 : S 0 7 = 0; exact Or.inl ⟨h7, rfl⟩; exact Or.inr ⟨h7, by rw [fm2 _ (by omega)]; omega, Or.inl ⟨rfl, by unfold ttl; rw [if_neg h7]; congr 1; omega⟩⟩)⟩, vm2⟩) rfl
/-- the model is surveyed -/
def Sur (M : MM) (r : Nat) (S : MM) : Prop := Mdl M r S ∧ M r 12 = pct S ∧ (M r 15 = wnd S 1 ∧ M r 16 = wnd S 0) ∧ (M r 17 = 1 ∧ M r 18 = (ttl S).1 ∧ M r 19 = (ttl S).2 ∧ 0 ≤ (ttl S).1 ∨ M r 17 = 0 ∧ (ttl S).1 < 0)
