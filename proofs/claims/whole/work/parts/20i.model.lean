theorem ftn_s {S : MM} {g p lo hi : Int} {k : Nat} : ftn S g p lo hi (k + 1) = true ↔ ftn S g p lo hi k = true ∧ (¬ bx S k ∨ (lo ≤ rawg S g k * p / 100 ∧ rawg S g k * p / 100 ≤ hi)) := by
  simp only [ftn, Bool.and_eq_true, decide_eq_true_eq]
-- X10_fits
set_option maxHeartbeats 4000000 in
set_option maxRecDepth 100000 in
theorem m_X10_fits {E : EE} {K : Nat → Nat} {M : MM} {r : Nat} {T : Int} {S : MM} {p lo hi : Int} (hM : ModelK K r) (hR : RS S (M (r + 1))) (hW : WFS T S) (hp : 0 ≤ p ∧ p ≤ 100) (hl : i32 lo) (hh : i32 hi) (hz : ∀ n : Int, hs S n → M (r + 8) n = pos S 6 n) : CnB E 2 yX10_fits cX10_fits 6 [.ref r, vI p, vI lo, vI hi] K M (fits1 S (S 15 0) p lo hi = true) := by
  obtain ⟨⟨rs0, rs1, rs2, rs3, rs4, rs5, rs6, rs7, rs8, rs9, rs10, rs13⟩, rst, rsn, rsc⟩ := id hR
  have hs9 := hW.2.1
  unfold WFSs at hs9
  refine Cn_of RX10 (plainFor_of_name (by decide)) rfl (Nat.le_of_ble_eq_true rfl) (fun X hX hQ => ?_)
  refine J_iconst hX dX10_fits_0 ?_
  refine J_istore hX dX10_fits_1 (by decide) ?_
  refine J_iconst hX dX10_fits_3 ?_
  refine J_istore hX dX10_fits_4 (by decide) ?_
  have HL6 : ∀ k : Nat, k ≤ (S 1 0).toNat → ∀ (q : Int), (q = bI (ftn S (S 15 0) p lo hi k = true)) → J E X 6 [(0, .ref r), (1, vI p), (2, vI lo), (3, vI hi), (4, vI q), (5, vI (k : Int))] [] K M 0 0 := by
    refine up_ind ((S 1 0).toNat) (fun k hk6 ih6 => ?_)
    intro q  hi6
    have q01 := bI_01 (ftn S (S 15 0) p lo hi k = true)
    refine J_iload hX dX10_fits_6 rfl ?_
    refine J_aload_n hX dX10_fits_8 rfl ?_
    refine J_gr hX (r + 1) fr_RX10_7 dX10_fits_9 (show K (r) = 9 from hM 0 (by decide)) rfl ?_
    refine J_iconst hX dX10_fits_12 ?_
    refine J_iald hX dX10_fits_13 (show K (r + 1) = 1000 + 198 from hM 1 (by decide)) ⟨by omega, by omega⟩ (by decide) (fun r13 => ?_)
    refine J_icmp_ge hX 65 dX10_fits_14 (by omega) (by omega) (by decide) (fun c14 => ?_) (fun c14 => ?_)
    · refine J_iload hX dX10_fits_65 rfl ?_
      rw [show q = bI (fits1 S (S 15 0) p lo hi = true) by rw [hi6]; unfold fits1 cnt; rw [show (S 1 0).toNat = k by omega]]
      exact J_retB hX hQ dX10_fits_67 Iff.rfl rfl rfl (Nat.zero_le _) (Nat.zero_le _)
    · refine J_iload hX dX10_fits_17 rfl ?_
      refine J_if_eq hX 56 dX10_fits_19 (by omega) (by decide) (fun c19 => ?_) (fun c19 => ?_)
      · refine J_iconst hX dX10_fits_56 ?_
        refine J_istore hX dX10_fits_57 (by decide) ?_
        refine J_iinc hX dX10_fits_59 rfl (by decide) ?_
        refine J_goto hX 6 dX10_fits_62 (by decide) ?_
        exact J_locI (ih6 (k + 1) (by omega) (by omega) _ (by first | exact (bI_f (fun q9 => bI_0.mp (hi6.symm.trans c19) (ftn_s.mp q9).1)).symm | exact (bI_t (ftn_s.mpr ⟨bI_1.mp (by omega), Or.inl c28⟩)).symm | exact (bI_t (ftn_s.mpr ⟨bI_1.mp (by omega), Or.inr c49⟩)).symm | exact (bI_f (fun q9 => (ftn_s.mp q9).2.elim (fun z => z c28) (fun z => c49 z))).symm)) rfl
      · refine J_aload_n hX dX10_fits_22 rfl ?_
        refine J_iload hX dX10_fits_23 rfl ?_
        refine J_callVB hX _ dX10_fits_25 cw_RX10_79 (m_X10_isBox hM hR hW (by omega)) ⟨(show K (r) = 9 from hM 0 (by decide)), by decide, by decide, rfl⟩ rfl (Nat.le_of_ble_eq_true rfl) (by decide) ⟨Nat.zero_le _, Nat.zero_le _⟩ ?_
        refine J_ifb_eq hX 52 dX10_fits_28 (by decide) (fun c28 => ?_) (fun c28 => ?_)
        · refine J_iconst hX dX10_fits_52 ?_
          refine J_goto hX 57 dX10_fits_53 (by decide) ?_
          refine J_istore hX dX10_fits_57 (by decide) ?_
          refine J_iinc hX dX10_fits_59 rfl (by decide) ?_
          refine J_goto hX 6 dX10_fits_62 (by decide) ?_
          exact J_locI (ih6 (k + 1) (by omega) (by omega) _ (by first | exact (bI_f (fun q9 => bI_0.mp (hi6.symm.trans c19) (ftn_s.mp q9).1)).symm | exact (bI_t (ftn_s.mpr ⟨bI_1.mp (by omega), Or.inl c28⟩)).symm | exact (bI_t (ftn_s.mpr ⟨bI_1.mp (by omega), Or.inr c49⟩)).symm | exact (bI_f (fun q9 => (ftn_s.mp q9).2.elim (fun z => z c28) (fun z => c49 z))).symm)) rfl
        · have rp := rawp_rng hW (g := S 15 0) (p := p) (by omega) hp (k : Int) (by omega)
          refine J_aload_n hX dX10_fits_31 rfl ?_
          refine J_iload hX dX10_fits_32 rfl ?_
          refine J_callVI hX _ dX10_fits_34 cw_RX10_154 (m_X10_raw hM hR hW (by omega) (hz _ (by omega))) ⟨(show K (r) = 9 from hM 0 (by decide)), by decide, by decide, rfl⟩ rfl (Nat.le_of_ble_eq_true rfl) (by decide) ⟨Nat.zero_le _, Nat.zero_le _⟩ (fun r34 => ?_)
          refine J_iload_n hX dX10_fits_37 rfl ?_
          refine J_imul hX dX10_fits_38 ?_
          refine J_bipush hX dX10_fits_39 rfl ?_
          refine J_callSI hX _ dX10_fits_41 cw_RX10_151 (m_X10_floor (by omega) (by omega)) rfl (Nat.le_of_ble_eq_true rfl) (by decide) ⟨Nat.zero_le _, Nat.zero_le _⟩ (fun r41 => ?_)
          refine J_iload_n hX dX10_fits_44 rfl ?_
          refine J_iload_n hX dX10_fits_45 rfl ?_
          refine J_callSB hX _ dX10_fits_46 cw_RX10_58 (m_X10_in (by omega) (by omega) (by omega)) rfl (Nat.le_of_ble_eq_true rfl) (by decide) ⟨Nat.zero_le _, Nat.zero_le _⟩ ?_
          refine J_ifb_eq hX 56 dX10_fits_49 (by decide) (fun c49 => ?_) (fun c49 => ?_)
          · refine J_iconst hX dX10_fits_56 ?_
            refine J_istore hX dX10_fits_57 (by decide) ?_
            refine J_iinc hX dX10_fits_59 rfl (by decide) ?_
            refine J_goto hX 6 dX10_fits_62 (by decide) ?_
            exact J_locI (ih6 (k + 1) (by omega) (by omega) _ (by first | exact (bI_f (fun q9 => bI_0.mp (hi6.symm.trans c19) (ftn_s.mp q9).1)).symm | exact (bI_t (ftn_s.mpr ⟨bI_1.mp (by omega), Or.inl c28⟩)).symm | exact (bI_t (ftn_s.mpr ⟨bI_1.mp (by omega), Or.inr c49⟩)).symm | exact (bI_f (fun q9 => (ftn_s.mp q9).2.elim (fun z => z c28) (fun z => c49 z))).symm)) rfl
          · refine J_iconst hX dX10_fits_52 ?_
            refine J_goto hX 57 dX10_fits_53 (by decide) ?_
            refine J_istore hX dX10_fits_57 (by decide) ?_
            refine J_iinc hX dX10_fits_59 rfl (by decide) ?_
            refine J_goto hX 6 dX10_fits_62 (by decide) ?_
            exact J_locI (ih6 (k + 1) (by omega) (by omega) _ (by first | exact (bI_f (fun q9 => bI_0.mp (hi6.symm.trans c19) (ftn_s.mp q9).1)).symm | exact (bI_t (ftn_s.mpr ⟨bI_1.mp (by omega), Or.inl c28⟩)).symm | exact (bI_t (ftn_s.mpr ⟨bI_1.mp (by omega), Or.inr c49⟩)).symm | exact (bI_f (fun q9 => (ftn_s.mp q9).2.elim (fun z => z c28) (fun z => c49 z))).symm)) rfl
  exact J_locI (HL6 0 (Nat.zero_le _) _ (bI_t rfl).symm) rfl
