theorem pcM_t {S : MM} {g lo hi : Int} : ∀ {p : Nat}, fits1 S g (p : Int) lo hi = true → pctF S g lo hi p = p
  | 0, _ => rfl
  | p + 1, h => if_pos h
theorem pcM_f {S : MM} {g lo hi : Int} : ∀ {p : Nat}, ¬ fits1 S g (p : Int) lo hi = true → 0 < p → pctF S g lo hi p = pctF S g lo hi (p - 1)
  | 0, _, h => absurd h (by decide)
  | p + 1, h, _ => if_neg h
theorem ftn_0 {S : MM} {g lo hi : Int} (hl : lo ≤ 0) (hh : 0 ≤ hi) : ∀ k, ftn S g 0 lo hi k = true
  | 0 => rfl
  | k + 1 => ftn_s.mpr ⟨ftn_0 hl hh k, Or.inr (by rw [Int.mul_zero]; omega)⟩
theorem pcM_le {S : MM} {g lo hi : Int} : ∀ p : Nat, pctF S g lo hi p ≤ p
  | 0 => Nat.le_refl 0
  | p + 1 => by
    have := pcM_le (S := S) (g := g) (lo := lo) (hi := hi) p
    show (if fits1 S g ((p + 1 : Nat) : Int) lo hi = true then p + 1 else pctF S g lo hi p) ≤ p + 1
    split <;> omega
-- X10_percentageBy
set_option maxHeartbeats 4000000 in
set_option maxRecDepth 100000 in
theorem m_X10_percentageBy {E : EE} {K : Nat → Nat} {M : MM} {r : Nat} {T : Int} {S : MM} {lo hi : Int} (hM : ModelK K r) (hR : RS S (M (r + 1))) (hW : WFS T S) (hl : -20 ≤ lo ∧ lo ≤ 0) (hh : 0 ≤ hi ∧ hi ≤ 20) (hz : ∀ n : Int, hs S n → M (r + 8) n = pos S 6 n) : CnI E 3 yX10_percentageBy cX10_percentageBy 4 (Option.some FieldType.int) [.ref r, vI lo, vI hi] K M (pctW S lo hi) := by
  obtain ⟨⟨rs0, rs1, rs2, rs3, rs4, rs5, rs6, rs7, rs8, rs9, rs10, rs13⟩, rst, rsn, rsc⟩ := id hR
  have hs9 := hW.2.1
  unfold WFSs at hs9
  refine ⟨Cn_of RX10 (plainFor_of_name (by decide)) rfl (Nat.le_of_ble_eq_true rfl) (fun X hX hQ => ?_), by have := pcM_le (S := S) (g := S 15 0) (lo := lo) (hi := hi) 100; unfold pctW; omega⟩
  refine J_bipush hX dX10_percentageBy_0 rfl ?_
  refine J_istore_n hX dX10_percentageBy_2 (by decide) ?_
  have HL3 : ∀ k : Nat, k ≤ 100 → ∀ (g : Int), (g = 100 - k ∧ pctF S (S 15 0) lo hi 100 = pctF S (S 15 0) lo hi (100 - k)) → J E X 3 [(0, .ref r), (1, vI lo), (2, vI hi), (3, vI g)] [] K M 0 0 := by
    refine up_ind (100) (fun k hk3 ih3 => ?_)
    intro g  hi3
    refine J_aload_n hX dX10_percentageBy_3 rfl ?_
    refine J_iload_n hX dX10_percentageBy_4 rfl ?_
    refine J_iload_n hX dX10_percentageBy_5 rfl ?_
    refine J_iload_n hX dX10_percentageBy_6 rfl ?_
    refine J_callVB hX _ dX10_percentageBy_7 cw_RX10_157 (m_X10_fits hM hR hW (by omega) (by omega) (by omega) hz) ⟨(show K (r) = 9 from hM 0 (by decide)), by decide, by decide, rfl⟩ rfl (Nat.le_of_ble_eq_true rfl) (by decide) ⟨Nat.zero_le _, Nat.zero_le _⟩ ?_
    refine J_ifb_ne hX 19 dX10_percentageBy_10 (by decide) (fun c10 => ?_) (fun c10 => ?_)
    · refine J_iload_n hX dX10_percentageBy_19 rfl ?_
      exact J_retI hX hQ dX10_percentageBy_20 (by unfold pctW; rw [hi3.2, pcM_t (by rw [show ((100 - k : Nat) : Int) = g by omega]; exact c10)]; omega) rfl rfl (Nat.zero_le _) (Nat.zero_le _)
    · have hk9 : k < 100 := by by_cases e : k = 100; exact absurd (show fits1 S (S 15 0) g lo hi = true by rw [show g = 0 by omega]; exact ftn_0 hl.2 hh.1 _) c10; omega
      refine J_iinc hX dX10_percentageBy_13 rfl (by decide) ?_
      refine J_goto hX 3 dX10_percentageBy_16 (by decide) ?_
      exact J_locI (ih3 (k + 1) (by omega) (by omega) _ ⟨by omega, by rw [hi3.2, pcM_f (by rw [show ((100 - k : Nat) : Int) = g by omega]; exact c10) (by omega)]; rfl⟩) rfl
  exact J_locI (HL3 0 (Nat.zero_le _) _ ⟨rfl, rfl⟩) rfl
