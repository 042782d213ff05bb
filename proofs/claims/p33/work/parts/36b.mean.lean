/-! means and digests -/
def mixG (f : Int → Int) : Nat → Int → Int := mixL f
theorem mixL_grid {f : Int → Int → Int} {w : Nat} (hw : 0 < w) (h : Int) : ∀ n c : Nat, c ≤ w → mixL (fun j => f (j / w) (j % w)) (w * n + c) h = mixL (f n) c (mixR f w n h)
  | 0, 0, _ => by simp [mixL, mixR]
  | n + 1, 0, _ => by
    rw [Nat.add_zero, Nat.mul_succ, mixL_grid hw h n w (Nat.le_refl _)]
    rfl
  | n, c + 1, hc => by
    have ih := mixL_grid (f := f) hw h n c (by omega)
    show 31 * mixL _ (w * n + c) h + f (((w * n + c : Nat) : Int) / w) (((w * n + c : Nat) : Int) % w) = 31 * mixL (f n) c (mixR f w n h) + f n c
    rw [ih]
    have e1 : ((w * n + c : Nat) : Int) % w = c := by
      rw [show ((w * n + c : Nat) : Int) = (w : Int) * n + c by simp, Int.add_comm, Int.add_mul_emod_self_left]
      exact Int.emod_eq_of_lt (by omega) (by omega)
    have e2 : ((w * n + c : Nat) : Int) / w = n := by
      rw [show ((w * n + c : Nat) : Int) = (w : Int) * n + c by simp, Int.add_comm, Int.add_mul_ediv_left _ _ (by omega), Int.ediv_eq_zero_of_lt (by omega) (by omega)]
      omega
    rw [e1, e2]
/-- the two images, cell by cell -/
def pxL (S : MM) (w : Int) : Nat → Int → Int
  | 0, h => h
  | k + 1, h => 31 * (31 * pxL S w k h + shd S 1 (k % w) (k / w)) + shd S 0 (k % w) (k / w)
theorem px_grid {S : MM} {w : Nat} (hw : 0 < w) (hS : (S 0 3).toNat = w) (h : Int) : ∀ n c : Nat, c ≤ w → pxL S w (w * n + c) h = hrw S n c (him S n h)
  | 0, 0, _ => by simp [pxL, him, hrw]
  | n + 1, 0, _ => by
    rw [Nat.add_zero, Nat.mul_succ, px_grid hw hS h n w (Nat.le_refl _)]
    show _ = him S (n + 1) h
    simp only [him]
    rw [hS]
  | n, c + 1, hc => by
    have ih := px_grid hw hS h n c (by omega)
    show 31 * (31 * pxL S w (w * n + c) h + shd S 1 (((w * n + c : Nat) : Int) % w) (((w * n + c : Nat) : Int) / w)) + shd S 0 (((w * n + c : Nat) : Int) % w) (((w * n + c : Nat) : Int) / w) = 31 * (31 * hrw S n c (him S n h) + shd S 1 c n) + shd S 0 c n
    rw [ih]
    have e1 : ((w * n + c : Nat) : Int) % w = c := by
      rw [show ((w * n + c : Nat) : Int) = (w : Int) * n + c by simp, Int.add_comm, Int.add_mul_emod_self_left]
      exact Int.emod_eq_of_lt (by omega) (by omega)
    have e2 : ((w * n + c : Nat) : Int) / w = n := by
      rw [show ((w * n + c : Nat) : Int) = (w : Int) * n + c by simp, Int.add_comm, Int.add_mul_ediv_left _ _ (by omega), Int.ediv_eq_zero_of_lt (by omega) (by omega)]
      omega
    rw [e1, e2]
theorem px_all {T : Int} {S : MM} (hW : WFS T S) (h : Int) : pxL S (S 0 3) (S 0 3 * S 0 4).toNat h = him S (S 0 4).toNat h := by
  have hs := hW.2.1
  unfold WFSs at hs
  have e := px_grid (S := S) (w := (S 0 3).toNat) (by omega) rfl h (S 0 4).toNat 0 (Nat.zero_le _)
  rw [Nat.add_zero, ← Int.toNat_mul (by omega) (by omega), show (((S 0 3).toNat : Nat) : Int) = S 0 3 by omega] at e
  exact e
theorem Sur_fr2 {M M2 : MM} {r : Nat} {S : MM} (h : Sur M r S) (h1 : ∀ i, i ≠ r → M2 i = M i) (h2 : ∀ j, j ≠ 23 → M2 r j = M r j) : Sur M2 r S := by
  obtain ⟨a, b, c, d⟩ := h
  refine ⟨a.fr (fun i i1 i2 => h1 i (by omega)) (h2 14 (by decide)), ?_, ?_, ?_⟩
  · rw [h2 12 (by decide)]; exact b
  · rw [h2 15 (by decide), h2 16 (by decide)]; exact c
  · rw [h2 17 (by decide), h2 18 (by decide), h2 19 (by decide)]; exact d
theorem gsum_rng {T : Int} {S : MM} (hW : WFS T S) (r : Int) : 0 ≤ gsum S r ∧ gsum S r ≤ 3000 := by
  have hs := hW.2.1
  unfold WFSs at hs
  exact sm_ghs hW r (S 0 3).toNat (by omega)
-- X9_meanGhost
set_option maxHeartbeats 4000000 in
set_option maxRecDepth 100000 in
theorem m_X9_meanGhost {E : EE} {K : Nat → Nat} {M : MM} {x : Nat} {T : Int} {row : Int} (hE : ∀ U, SF E U → ThF E U) (hX0 : EyeK K x) (hW : WF T M (x + 1 + 2)) (hF : Frs M x) (hrow : i32 row) : CnX E 8 yX9_meanGhost cX9_meanGhost 2 (Option.some FieldType.double) [.ref x, vI row] K M (fun r K' M' => fCe M (x + 1 + 2) 0 row = (0 : Int) ∧ K' = K ∧ r = some (.double (dd (gsum (stg M (x + 1 + 2)) row) ((stg M (x + 1 + 2)) 0 3))) ∧ Lkd M x M') (xpF (fCe M (x + 1 + 2) 0 row)) 1 6 := by
  have hXa := hX0.all
  refine CnX_of RX9 (by decide) rfl (Nat.le_of_ble_eq_true rfl) (fun X hX hQ hXK hT => ?_)
  refine J_aload_n hX dX9_meanGhost_0 rfl ?_
  refine J_gr hX (x + 1 + 2) fr_RX9_20 dX9_meanGhost_1 (show K (x) = 8 from hXa 0 (by decide)) rfl ?_
  refine J_iconst hX dX9_meanGhost_4 ?_
  refine J_iload_n hX dX9_meanGhost_5 rfl ?_
  refine J_callVI hX _ dX9_meanGhost_6 cw_RX9_161 (m_X5_faultOfCell ((hXa).view).stage hW (by omega) (by omega)) ⟨(show K (x + 1 + 2) = 5 from ((hXa).view).stage 0 (by decide)), by decide, by decide, rfl⟩ rfl (Nat.le_of_ble_eq_true rfl) (by decide) ⟨by decide, by decide⟩ (fun r6 => ?_)
  refine J_refuse hX hT hXK hQ rfl hE dX9_meanGhost_9 (by first | decide | exact fG_r _ _ _ _ _ _ | exact fB_r _ _ _ _ _ _ _ _ | exact fP_r _ _ _ _ _ _ | exact fCo_r _ _ _ _ | exact fS_r _ _ _ _ _ | exact fT_r _ _ _ _ _ | exact fCe_r _ _ _ _ | exact if_r (by decide) | exact fSt_r _ _) (by decide) (by decide) (by decide) (fun nm h => by first | exact h | exact xp_1 h | exact xp_2 (by assumption) h | (refine xp_e ?_ h; first | (rw [if_pos (by omega)]; done) | (rw [if_neg (by omega)]; done)) | (refine xp_1 (xp_e ?_ h); first | (rw [if_pos (by omega)]; done) | (rw [if_neg (by omega)]; done)) | (refine xp_2 (by assumption) (xp_e ?_ h); first | (rw [if_pos (by omega)]; done) | (rw [if_neg (by omega)]; done)) | (refine xp_2 ?_ h; first | (rw [if_pos (by omega)]; done) | (rw [if_neg (by omega)]; done))) (fun cF0 => ?_)
  refine J_vx hX hQ (fun X hX hQ hXK2 => ?_)
  have c5 := fCe_0 cF0
  have hws := hW.2.1
  unfold WFs at hws
  refine J_aload_n hX dX9_meanGhost_12 rfl ?_
  refine J_fresh hX hX0 hW hF dX9_meanGhost_13 (by decide) (by decide) (by decide) (fun M2 hL hW2 hV2 hH2 hS2 => ?_)
  have hP2 := hV2.1.1
  refine J_iload_n hX dX9_meanGhost_16 rfl ?_
  refine J_callVM hX _ dX9_meanGhost_17 cw_RX9_177 (m_X7_sumOfGhosts (hXa).view hW2 hV2 hH2 (by have z : M2 (x + 1 + 2) 4 = M (x + 1 + 2) 4 := congrFun (congrFun hS2 0) 4; omega)) ⟨(show K (x + 1) = 7 from (hXa).view 0 (by decide)), by decide, by decide, rfl⟩ rfl (Nat.le_of_ble_eq_true rfl) (by decide) ⟨by decide, by decide⟩ (fun r9 M17 q17 => ?_)
  obtain ⟨rfl, cg1, cg2, cg3⟩ := q17
  have hL3 := hL.step cg1 cg2 (by rw [hS2] at cg3; exact cg3)
  have e43 : M17 (x + 1 + 2) 3 = M (x + 1 + 2) 3 := (congrFun (cg1 (x + 1 + 2) (by omega) (by omega) (by omega)) 3).trans (congrFun (congrFun hS2 0) 3)
  rw [hS2]
  refine J_i2d hX dX9_meanGhost_20 ?_
  refine J_aload_n hX dX9_meanGhost_21 rfl ?_
  refine J_gr hX (x + 1 + 2) fr_RX9_20 dX9_meanGhost_22 (show K (x) = 8 from hXa 0 (by decide)) rfl ?_
  refine J_geti hX fi_RX9_180 dX9_meanGhost_25 (show K (x + 1 + 2) = 5 from ((hXa).view).stage 0 (by decide)) (fun r25 => ?_)
  rw [e43]
  refine J_i2d hX dX9_meanGhost_28 ?_
  refine J_ddiv hX dX9_meanGhost_29 (by exact dd_n (by have z := gsum_rng hW.S row; exact z) ⟨by omega, by omega⟩) ?_
  exact J_dret hX hQ dX9_meanGhost_30 (by exact ⟨cF0, rfl, rfl, hL3⟩) (by decide) (by decide)
