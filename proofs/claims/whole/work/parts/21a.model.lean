/-! the reference: order, columns -/
def Plc (M : MM) (r : Nat) (S : MM) : Prop := ∀ n : Int, 0 ≤ n → n < S 1 0 → M (r + 6) n = pos S 4 n ∧ M (r + 7) n = pos S 5 n ∧ M (r + 8) n = pos S 6 n
def Shs (M : MM) (r : Nat) (S : MM) : Prop := ∀ n : Int, 0 ≤ n → n < S 1 0 → M (r + 9) n = shf S n
def Srd (M : MM) (r : Nat) (S : MM) : Prop := M r 14 = (nb S : Nat) ∧ ∀ j : Nat, j < nb S → M (r + 10) j = ord S j
def Mdl (M : MM) (r : Nat) (S : MM) : Prop := Plc M r S ∧ Shs M r S ∧ Srd M r S
theorem ins_row {arr f R R2 : Int → Int} {nb a : Nat} {n : Int} (ea : a = scn arr f (f n) nb) (h1 : ∀ j : Nat, j < a → R j = arr j) (h2 : ∀ j : Nat, a < j → j ≤ nb → R j = arr ((j : Int) - 1)) (v : R2 a = n) (g : ∀ j, j ≠ (a : Int) → R2 j = R j) (j : Nat) (hj : j ≤ nb) : R2 j = ins arr f nb n j := by
  unfold ins
  rw [← ea]
  by_cases e1 : (j : Int) < a
  · rw [if_pos e1, g _ (by omega), h1 j (by omega)]
  · rw [if_neg e1]
    by_cases e2 : (j : Int) = a
    · rw [if_pos e2, e2, v]
    · rw [if_neg e2, g _ e2, h2 j (by omega) hj]
theorem nbx_t {S : MM} {k : Nat} (h : bx S k) : nbx S (k + 1) = nbx S k + 1 := by simp only [nbx]; rw [if_pos h]
theorem nbx_f {S : MM} {k : Nat} (h : ¬ bx S k) : nbx S (k + 1) = nbx S k := by simp only [nbx]; rw [if_neg h]
theorem ordf_t {S : MM} {k : Nat} (h : bx S k) : ordf S (k + 1) = ins (ordf S k) (shf S) (nbx S k) k := by simp only [ordf]; rw [if_pos h]
theorem ordf_f {S : MM} {k : Nat} (h : ¬ bx S k) : ordf S (k + 1) = ordf S k := by simp only [ordf]; rw [if_neg h]
theorem shf_rng2 {T : Int} {S : MM} (hW : WFS T S) (n : Int) (h1 : n < S 1 0) : -1200 ≤ shf S n ∧ shf S n ≤ 1200 := by
  have hs := hW.2.1
  unfold WFSs at hs
  have hp : 0 ≤ pct S ∧ pct S ≤ 100 := pctW_rng _ _ _
  have := rawp_rng hW (g := S 15 0) (p := pct S) (by omega) hp n h1
  unfold shf
  omega
-- X10_sort
set_option maxHeartbeats 4000000 in
set_option maxRecDepth 100000 in
theorem m_X10_sort {E : EE} {K : Nat → Nat} {M : MM} {r : Nat} {T : Int} {S : MM}  (hM : ModelK K r) (hR : RS S (M (r + 1))) (hW : WFS T S) (hS : Shs M r S) : CnM E 2 yX10_sort cX10_sort 3 none [.ref r] K M (fun r9 M2 => r9 = none ∧ (∀ i, i ≠ r → i ≠ r + 10 → M2 i = M i) ∧ (∀ j, j ≠ 14 → M2 r j = M r j) ∧ Srd M2 r S) := by
  obtain ⟨⟨rs0, rs1, rs2, rs3, rs4, rs5, rs6, rs7, rs8, rs9, rs10, rs13⟩, rst, rsn, rsc⟩ := id hR
  have hs9 := hW.2.1
  unfold WFSs at hs9
  have nbl := nbx_le S
  refine Cn_of RX10 (plainFor_of_name (by decide)) rfl (Nat.le_of_ble_eq_true rfl) (fun X hX hQ => ?_)
  refine J_aload_n hX dX10_sort_0 rfl ?_
  refine J_iconst hX dX10_sort_1 ?_
  refine J_putA hX fw_RX10_163 dX10_sort_2 (show K (r) = 9 from hM 0 (by decide)) (by omega) (Or.inl rfl) (fun m2 hm2 => ?_)
  have fm2 : ∀ i, i ≠ r → m2 i = M i := fun i h => by rw [hm2]; exact mset_ne h
  have gm2 : ∀ i j, j ≠ 14 → m2 i j = M i j := fun i j h => by rw [hm2]; exact mset_nj h
  have vm2 := (congrFun (congrFun hm2 (r)) 14).trans mset_eq
  refine J_iconst hX dX10_sort_5 ?_
  refine J_istore_n hX dX10_sort_6 (by decide) ?_
  have HL7 : ∀ k : Nat, k ≤ (S 1 0).toNat → ∀ (M2 : MM), ((∀ i, i ≠ r → i ≠ r + 10 → M2 i = M i) ∧ (∀ j, j ≠ 14 → M2 r j = M r j) ∧ M2 r 14 = (nbx S k : Nat) ∧ ∀ j : Nat, j < nbx S k → M2 (r + 10) j = ordf S k j) → J E X 7 [(0, .ref r), (1, vI (k : Int))] [] K M2 0 0 := by
    refine up_ind ((S 1 0).toNat) (fun k hk7 ih7 => ?_)
    intro M2  hi7
    have hRa : RS S (M2 (r + 1)) := by rw [hi7.1 _ (by omega) (by omega)]; exact hR
    have w2 := congrFun (hi7.1 (r + 1) (by omega) (by omega)) 2
    refine J_iload_n hX dX10_sort_7 rfl ?_
    refine J_aload_n hX dX10_sort_8 rfl ?_
    refine J_gr hX (r + 1) fr_RX10_7 dX10_sort_9 (show K (r) = 9 from hM 0 (by decide)) rfl ?_
    refine J_iconst hX dX10_sort_12 ?_
    refine J_iald hX dX10_sort_13 (show K (r + 1) = 1000 + 198 from hM 1 (by decide)) ⟨by omega, by omega⟩ (by decide) (fun r13 => ?_)
    refine J_icmp_ge hX 111 dX10_sort_14 (by omega) (by omega) (by decide) (fun c14 => ?_) (fun c14 => ?_)
    · exact J_vret hX hQ dX10_sort_111 ⟨rfl, by exact ⟨rfl, hi7.1, hi7.2.1, by have e : cnt S = k := (by unfold cnt; omega); unfold Srd nb ord; rw [e]; exact ⟨hi7.2.2.1, hi7.2.2.2⟩⟩⟩ (Nat.zero_le _) (Nat.zero_le _)
    · have hwk := hW.2.2.1 (k : Int) (by omega) (by omega)
      have nk := nbl k
      refine J_aload_n hX dX10_sort_17 rfl ?_
      refine J_geti hX fi_RX10_163 dX10_sort_18 (show K (r) = 9 from hM 0 (by decide)) (fun r18 => ?_)
      refine J_istore_n hX dX10_sort_21 (by decide) ?_
      have JN76 : ∀ (a : Nat) (p : Int) (M4 : MM), (p = (a : Int) ∧ (∀ i, i ≠ r + 10 → M4 i = M2 i) ∧ a ≤ nbx S k ∧ (∀ j : Nat, j < a → M4 (r + 10) j = ordf S k j) ∧ (∀ j : Nat, a < j → j ≤ nbx S k → M4 (r + 10) j = ordf S k ((j : Int) - 1)) ∧ (bx S k → a = scn (ordf S k) (shf S) (shf S k) (nbx S k)) ∧ (¬ bx S k → a = nbx S k)) → J E X 76 [(0, .ref r), (1, vI (k : Int)), (2, vI p)] [] K M4 0 0 := by
        intro a  p  M4  hj76
        have hRj : RS S (M4 (r + 1)) := by rw [hj76.2.1 _ (by omega)]; exact hRa
        refine J_aload_n hX dX10_sort_76 rfl ?_
        refine J_gr hX (r + 10) fr_RX10_37 dX10_sort_77 (show K (r) = 9 from hM 0 (by decide)) rfl ?_
        refine J_iload_n hX dX10_sort_80 rfl ?_
        refine J_iload_n hX dX10_sort_81 rfl ?_
        refine J_istA hX dX10_sort_82 (show K (r + 10) = 1000 + 20 from hM 10 (by decide)) ⟨by omega, by omega⟩ (by decide) (by omega) (fun m82 hm82 => ?_)
        have fm82 : ∀ i, i ≠ r + 10 → m82 i = M4 i := fun i h => by rw [hm82]; exact mset_ne h
        have gm82 : ∀ i j, j ≠ p → m82 i j = M4 i j := fun i j h => by rw [hm82]; exact mset_nj h
        have vm82 := (congrFun (congrFun hm82 (r + 10)) (p)).trans mset_eq
        have hRd : RS S (m82 (r + 1)) := by rw [fm82 _ (by omega)]; exact hRj
        have e14 : m82 r 14 = (nbx S k : Nat) := by rw [fm82 _ (by omega), hj76.2.1 _ (by omega)]; exact hi7.2.2.1
        refine J_aload_n hX dX10_sort_83 rfl ?_
        refine J_dup hX dX10_sort_84 rfl ?_
        refine J_geti hX fi_RX10_163 dX10_sort_85 (show K (r) = 9 from hM 0 (by decide)) (fun r85 => ?_)
        refine J_aload_n hX dX10_sort_88 rfl ?_
        refine J_iload_n hX dX10_sort_89 rfl ?_
        refine J_callVB hX _ dX10_sort_90 cw_RX10_79 (m_X10_isBox hM hRd hW (show hs S (k : Int) by omega)) ⟨(show K (r) = 9 from hM 0 (by decide)), by decide, by decide, rfl⟩ rfl (Nat.le_of_ble_eq_true rfl) (by decide) ⟨Nat.zero_le _, Nat.zero_le _⟩ ?_
        refine J_ifb_eq hX 100 dX10_sort_93 (by decide) (fun c93 => ?_) (fun c93 => ?_)
        · refine J_iconst hX dX10_sort_100 ?_
          refine J_iadd hX dX10_sort_101 ?_
          refine J_putA hX fw_RX10_163 dX10_sort_102 (show K (r) = 9 from hM 0 (by decide)) (by omega) (Or.inl rfl) (fun m102 hm102 => ?_)
          have fm102 : ∀ i, i ≠ r → m102 i = m82 i := fun i h => by rw [hm102]; exact mset_ne h
          have gm102 : ∀ i j, j ≠ 14 → m102 i j = m82 i j := fun i j h => by rw [hm102]; exact mset_nj h
          have vm102 := (congrFun (congrFun hm102 (r)) 14).trans mset_eq
          refine J_iinc hX dX10_sort_105 rfl (by decide) ?_
          refine J_goto hX 7 dX10_sort_108 (by decide) ?_
          exact J_locI (ih7 (k + 1) (by omega) (by omega) _ (by
                    first
                      | exact ⟨fun i i1 i2 => by rw [fm102 i i1, fm82 i i2, hj76.2.1 i i2]; exact hi7.1 i i1 i2, fun j hj => by rw [gm102 _ j hj, fm82 _ (by omega), hj76.2.1 _ (by omega)]; exact hi7.2.1 j hj, by rw [vm102, e14, nbx_t c93]; omega, fun j hj => by rw [nbx_t c93] at hj; rw [ordf_t c93, fm102 _ (by omega)]; exact ins_row (hj76.2.2.2.2.2.1 c93) hj76.2.2.2.1 hj76.2.2.2.2.1 (by rw [← hj76.1]; exact vm82) (fun j2 h2 => gm82 _ j2 (by omega)) j (by omega)⟩
                      | exact ⟨fun i i1 i2 => by rw [fm102 i i1, fm82 i i2, hj76.2.1 i i2]; exact hi7.1 i i1 i2, fun j hj => by rw [gm102 _ j hj, fm82 _ (by omega), hj76.2.1 _ (by omega)]; exact hi7.2.1 j hj, by rw [vm102, e14, nbx_f c93]; omega, fun j hj => by rw [nbx_f c93] at hj; have ea := hj76.2.2.2.2.2.2 c93; rw [ordf_f c93, fm102 _ (by omega), gm82 _ _ (by omega)]; exact hj76.2.2.2.1 j (by omega)⟩)) rfl
        · refine J_iconst hX dX10_sort_96 ?_
          refine J_goto hX 101 dX10_sort_97 (by decide) ?_
          refine J_iadd hX dX10_sort_101 ?_
          refine J_putA hX fw_RX10_163 dX10_sort_102 (show K (r) = 9 from hM 0 (by decide)) (by omega) (Or.inl rfl) (fun m102 hm102 => ?_)
          have fm102 : ∀ i, i ≠ r → m102 i = m82 i := fun i h => by rw [hm102]; exact mset_ne h
          have gm102 : ∀ i j, j ≠ 14 → m102 i j = m82 i j := fun i j h => by rw [hm102]; exact mset_nj h
          have vm102 := (congrFun (congrFun hm102 (r)) 14).trans mset_eq
          refine J_iinc hX dX10_sort_105 rfl (by decide) ?_
          refine J_goto hX 7 dX10_sort_108 (by decide) ?_
          exact J_locI (ih7 (k + 1) (by omega) (by omega) _ (by
                    first
                      | exact ⟨fun i i1 i2 => by rw [fm102 i i1, fm82 i i2, hj76.2.1 i i2]; exact hi7.1 i i1 i2, fun j hj => by rw [gm102 _ j hj, fm82 _ (by omega), hj76.2.1 _ (by omega)]; exact hi7.2.1 j hj, by rw [vm102, e14, nbx_t c93]; omega, fun j hj => by rw [nbx_t c93] at hj; rw [ordf_t c93, fm102 _ (by omega)]; exact ins_row (hj76.2.2.2.2.2.1 c93) hj76.2.2.2.1 hj76.2.2.2.2.1 (by rw [← hj76.1]; exact vm82) (fun j2 h2 => gm82 _ j2 (by omega)) j (by omega)⟩
                      | exact ⟨fun i i1 i2 => by rw [fm102 i i1, fm82 i i2, hj76.2.1 i i2]; exact hi7.1 i i1 i2, fun j hj => by rw [gm102 _ j hj, fm82 _ (by omega), hj76.2.1 _ (by omega)]; exact hi7.2.1 j hj, by rw [vm102, e14, nbx_f c93]; omega, fun j hj => by rw [nbx_f c93] at hj; have ea := hj76.2.2.2.2.2.2 c93; rw [ordf_f c93, fm102 _ (by omega), gm82 _ _ (by omega)]; exact hj76.2.2.2.1 j (by omega)⟩)) rfl
      have HL22 : ∀ q : Nat, q ≤ (nbx S k) → ∀ (p : Int) (M3 : MM), (p = (nbx S k : Int) - q ∧ (∀ i, i ≠ r + 10 → M3 i = M2 i) ∧ (∀ j : Nat, j < (nbx S k - q) → M3 (r + 10) j = ordf S k j) ∧ (∀ j : Nat, (nbx S k - q) < j → j ≤ nbx S k → M3 (r + 10) j = ordf S k ((j : Int) - 1)) ∧ (bx S k → scn (ordf S k) (shf S) (shf S k) (nbx S k) = scn (ordf S k) (shf S) (shf S k) (nbx S k - q)) ∧ (¬ bx S k → q = 0)) → J E X 22 [(0, .ref r), (1, vI (k : Int)), (2, vI p)] [] K M3 0 0 := by
        refine up_ind ((nbx S k)) (fun q hk22 ih22 => ?_)
        intro p  M3  hi22
        have hRc : RS S (M3 (r + 1)) := by rw [hi22.2.1 _ (by omega)]; exact hRa
        refine J_aload_n hX dX10_sort_22 rfl ?_
        refine J_iload_n hX dX10_sort_23 rfl ?_
        refine J_callVB hX _ dX10_sort_24 cw_RX10_79 (m_X10_isBox hM hRc hW (show hs S (k : Int) by omega)) ⟨(show K (r) = 9 from hM 0 (by decide)), by decide, by decide, rfl⟩ rfl (Nat.le_of_ble_eq_true rfl) (by decide) ⟨Nat.zero_le _, Nat.zero_le _⟩ ?_
        refine J_ifb_eq hX 76 dX10_sort_27 (by decide) (fun c27 => ?_) (fun c27 => ?_)
        · exact J_locI (JN76 (nbx S k - q) _ _ ⟨by omega, hi22.2.1, by omega, hi22.2.2.1, hi22.2.2.2.1, fun hb => by first
                        | exact absurd hb c27
                        | (rw [hi22.2.2.2.2.1 hb, show nbx S k - q = 0 by omega]; rfl)
                        | (rw [hi22.2.2.2.2.1 hb, scn_f (q1 := nbx S k - q - 1) (by omega) (by rw [show ((nbx S k - q - 1 : Nat) : Int) = p - 1 by omega]; omega)]), fun hb => by first | (rw [hi22.2.2.2.2.2 hb]; rfl) | exact absurd c27 hb⟩) rfl
        · refine J_iload_n hX dX10_sort_30 rfl ?_
          refine J_if_le hX 76 dX10_sort_31 (by omega) (by decide) (fun c31 => ?_) (fun c31 => ?_)
          · exact J_locI (JN76 (nbx S k - q) _ _ ⟨by omega, hi22.2.1, by omega, hi22.2.2.1, hi22.2.2.2.1, fun hb => by first
                          | exact absurd hb c27
                          | (rw [hi22.2.2.2.2.1 hb, show nbx S k - q = 0 by omega]; rfl)
                          | (rw [hi22.2.2.2.2.1 hb, scn_f (q1 := nbx S k - q - 1) (by omega) (by rw [show ((nbx S k - q - 1 : Nat) : Int) = p - 1 by omega]; omega)]), fun hb => by first | (rw [hi22.2.2.2.2.2 hb]; rfl) | exact absurd c27 hb⟩) rfl
          · refine J_aload_n hX dX10_sort_34 rfl ?_
            refine J_gr hX (r + 9) fr_RX10_34 dX10_sort_35 (show K (r) = 9 from hM 0 (by decide)) rfl ?_
            refine J_aload_n hX dX10_sort_38 rfl ?_
            refine J_gr hX (r + 10) fr_RX10_37 dX10_sort_39 (show K (r) = 9 from hM 0 (by decide)) rfl ?_
            refine J_iload_n hX dX10_sort_42 rfl ?_
            refine J_iconst hX dX10_sort_43 ?_
            refine J_isub hX dX10_sort_44 ?_
            have eo := hi22.2.2.1 (nbx S k - q - 1) (by omega)
            have ob := ordf_box S k (nbx S k - q - 1) (by omega)
            rw [show ((nbx S k - q - 1 : Nat) : Int) = p - 1 by omega] at eo ob
            have sr := shf_rng2 hW (ordf S k (p - 1)) ob.1.1.2.1
            have sk := shf_rng2 hW (k : Int) (by omega)
            have e1 := (congrFun (hi22.2.1 (r + 9) (by omega)) (ordf S k (p - 1))).trans ((congrFun (hi7.1 (r + 9) (by omega) (by omega)) _).trans (hS _ ob.1.1.1 ob.1.1.2.1))
            have e2 := (congrFun (hi22.2.1 (r + 9) (by omega)) (k : Int)).trans ((congrFun (hi7.1 (r + 9) (by omega) (by omega)) _).trans (hS (k : Int) (by omega) (by omega)))
            refine J_iald hX dX10_sort_45 (show K (r + 10) = 1000 + 20 from hM 10 (by decide)) ⟨by omega, by omega⟩ (by decide) (fun r45 => ?_)
            rw [eo]
            refine J_iald hX dX10_sort_46 (show K (r + 9) = 1000 + 20 from hM 9 (by decide)) ⟨by omega, by omega⟩ (by decide) (fun r46 => ?_)
            refine J_aload_n hX dX10_sort_47 rfl ?_
            refine J_gr hX (r + 9) fr_RX10_34 dX10_sort_48 (show K (r) = 9 from hM 0 (by decide)) rfl ?_
            refine J_iload_n hX dX10_sort_51 rfl ?_
            refine J_iald hX dX10_sort_52 (show K (r + 9) = 1000 + 20 from hM 9 (by decide)) ⟨by omega, by omega⟩ (by decide) (fun r52 => ?_)
            rw [e1, e2]
            refine J_icmp_le hX 76 dX10_sort_53 (by omega) (by omega) (by decide) (fun c53 => ?_) (fun c53 => ?_)
            · exact J_locI (JN76 (nbx S k - q) _ _ ⟨by omega, hi22.2.1, by omega, hi22.2.2.1, hi22.2.2.2.1, fun hb => by first
                            | exact absurd hb c27
                            | (rw [hi22.2.2.2.2.1 hb, show nbx S k - q = 0 by omega]; rfl)
                            | (rw [hi22.2.2.2.2.1 hb, scn_f (q1 := nbx S k - q - 1) (by omega) (by rw [show ((nbx S k - q - 1 : Nat) : Int) = p - 1 by omega]; omega)]), fun hb => by first | (rw [hi22.2.2.2.2.2 hb]; rfl) | exact absurd c27 hb⟩) rfl
            · refine J_aload_n hX dX10_sort_56 rfl ?_
              refine J_gr hX (r + 10) fr_RX10_37 dX10_sort_57 (show K (r) = 9 from hM 0 (by decide)) rfl ?_
              refine J_iload_n hX dX10_sort_60 rfl ?_
              refine J_aload_n hX dX10_sort_61 rfl ?_
              refine J_gr hX (r + 10) fr_RX10_37 dX10_sort_62 (show K (r) = 9 from hM 0 (by decide)) rfl ?_
              refine J_iload_n hX dX10_sort_65 rfl ?_
              refine J_iconst hX dX10_sort_66 ?_
              refine J_isub hX dX10_sort_67 ?_
              refine J_iald hX dX10_sort_68 (show K (r + 10) = 1000 + 20 from hM 10 (by decide)) ⟨by omega, by omega⟩ (by decide) (fun r68 => ?_)
              refine J_istA hX dX10_sort_69 (show K (r + 10) = 1000 + 20 from hM 10 (by decide)) ⟨by omega, by omega⟩ (by decide) (by omega) (fun m69 hm69 => ?_)
              have fm69 : ∀ i, i ≠ r + 10 → m69 i = M3 i := fun i h => by rw [hm69]; exact mset_ne h
              have gm69 : ∀ i j, j ≠ p → m69 i j = M3 i j := fun i j h => by rw [hm69]; exact mset_nj h
              have vm69 := (congrFun (congrFun hm69 (r + 10)) (p)).trans mset_eq
              refine J_iinc hX dX10_sort_70 rfl (by decide) ?_
              refine J_goto hX 22 dX10_sort_73 (by decide) ?_
              exact J_locI (ih22 (q + 1) (by omega) (by omega) _ _ ⟨by omega, fun i hi => by rw [fm69 i hi]; exact hi22.2.1 i hi, fun j hj => by rw [gm69 _ _ (by omega)]; exact hi22.2.2.1 j (by omega), fun j h1 h2 => by
                          by_cases e : (j : Int) = p
                          · rw [e, vm69, eo, hi22.1]
                          · rw [gm69 _ _ e]; exact hi22.2.2.2.1 j (by omega) h2, fun hb => by rw [hi22.2.2.2.2.1 hb, scn_t (q1 := nbx S k - (q + 1)) (by omega) (by rw [show ((nbx S k - (q + 1) : Nat) : Int) = p - 1 by omega]; omega)], fun h => absurd c27 h⟩) rfl
      exact J_locI (HL22 0 (Nat.zero_le _) _ _ ⟨by omega, fun _ _ => rfl, fun j hj => hi7.2.2.2 j (by omega), fun j h1 h2 => absurd h2 (by omega), fun _ => rfl, fun _ => rfl⟩) rfl
  exact J_locI (HL7 0 (Nat.zero_le _) _ ⟨fun i i1 i2 => fm2 i i1, fun j hj => gm2 _ j hj, vm2, fun j hj => absurd hj (by simp [nbx])⟩) rfl
