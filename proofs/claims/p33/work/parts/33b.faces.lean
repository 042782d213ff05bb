/-! faces: fullAfter -/
def SE (O S : MM) : Prop := (∀ j : Int, 0 ≤ j → j ≤ 3 → O 11 j = S 11 j) ∧ ∀ j : Int, 0 ≤ j → j < 8 → O 12 j = S 12 j ∧ O 13 j = S 13 j ∧ O 14 j = S 14 j
theorem prs_congr {f g : Int → Int} {t : Int} : ∀ {m n : Nat}, (∀ j : Nat, j < n + m → f j = g j) → prs f t m n = prs g t m n
  | 0, _, _ => rfl
  | m + 1, n, h => by
    simp only [prs]
    rw [sm_congr (k := n + 1) (fun j hj => h j (by omega)), prs_congr (m := m) (n := n + 1) (fun j hj => h j (by omega))]
theorem now_SE {M S : MM} {b : Nat} (h0 : M (b + 11) 0 = S 11 0) (h1 : M (b + 11) 1 = S 11 1) (h14 : ∀ j : Int, 0 ≤ j → j < 8 → M (b + 14) j = S 14 j) (hc : 0 ≤ S 11 0 ∧ S 11 0 ≤ 8) : now M b = nowS S := by
  unfold now nowS
  rw [h0, h1]
  by_cases e : S 11 0 = 0
  · rw [if_pos e, if_pos e]
  · rw [if_neg e, if_neg e, prs_congr (f := M (b + 14)) (g := S 14) (fun j hj => h14 j (by omega) (by omega))]
theorem tkM_row {M : MM} {b i : Nat} {r : Int} (h : i ≠ b + 11) : tkM M b r i = M i := by
  unfold tkM
  dsimp only
  split
  · rw [mset_ne h, mset_ne h, mset_ne h]
  · exact mset_ne h
theorem SE_tick {T T2 : Int} {M S : MM} {b : Nat} (hW : WF T M b) (hT : T < 1000000000) (hS : WFS T2 S) (hT2 : T2 < 1000000000) (h : SE (stg M b) S) : SE (stg (tkM M b (S 15 1)) b) (tkS S) := by
  obtain ⟨h1, h2⟩ := h
  have e0 : M (b + 11) 0 = S 11 0 := h1 0 (by decide) (by decide)
  have e1 : M (b + 11) 1 = S 11 1 := h1 1 (by decide) (by decide)
  have e2 : M (b + 11) 2 = S 11 2 := h1 2 (by decide) (by decide)
  have e3 : M (b + 11) 3 = S 11 3 := h1 3 (by decide) (by decide)
  have e12 : ∀ j : Int, 0 ≤ j → j < 8 → M (b + 12) j = S 12 j := fun j a c => (h2 j a c).1
  have e13 : ∀ j : Int, 0 ≤ j → j < 8 → M (b + 13) j = S 13 j := fun j a c => (h2 j a c).2.1
  have e14 : ∀ j : Int, 0 ≤ j → j < 8 → M (b + 14) j = S 14 j := fun j a c => (h2 j a c).2.2
  have hs := hS.2.1
  unfold WFSs at hs
  refine ⟨?_, fun j a c => ?_⟩
  · have hW1 := WF_time hW hT
    have nr := now_rng hW1
    have en : now (mset M (b + 11) 1 (M (b + 11) 1 + 1)) b = nowS (mset S 11 1 (S 11 1 + 1)) := by
      refine now_SE ?_ ?_ (fun j a c => ?_) ?_
      · rw [mset_nj (by decide), mset_nj (by decide)]; exact e0
      · rw [mset_eq, mset_eq, e1]
      · rw [mset_ne (by omega), mset_ne (by decide)]; exact e14 j a c
      · rw [mset_nj (by decide)]; omega
    have m0 : mset M (b + 11) 1 (M (b + 11) 1 + 1) (b + 11) 0 = M (b + 11) 0 := mset_nj (by decide)
    rw [m0] at nr
    intro j a c
    show tkM M b (S 15 1) (b + 11) j = tkS S 11 j
    unfold tkM tkS
    dsimp only
    rw [en] at nr ⊢
    by_cases z : M (b + 11) 0 = 0
    · have q := nr.2.2 z
      rw [if_neg (fun y => by have := y.1; omega), if_pos q]
      by_cases y : j = 1
      · subst y; rw [mset_eq, mset_eq, e1]
      · rw [mset_nj y, mset_nj y]; exact h1 j a c
    · have q := nr.2.1 z
      have q0 : 0 ≤ nowS (mset S 11 1 (S 11 1 + 1)) := q.1
      have q8 : nowS (mset S 11 1 (S 11 1 + 1)) < 8 := q.2.2
      rw [if_pos q, if_neg (by omega)]
      have a12 : mset M (b + 11) 1 (M (b + 11) 1 + 1) (b + 12) = M (b + 12) := mset_ne (by omega)
      have a13 : ∀ v, mset (mset M (b + 11) 1 (M (b + 11) 1 + 1)) (b + 11) 2 v (b + 13) = M (b + 13) := fun v => by rw [mset_ne (by omega), mset_ne (by omega)]
      have s12 : mset S 11 1 (S 11 1 + 1) 12 = S 12 := mset_ne (by decide)
      have s13 : mset S 11 1 (S 11 1 + 1) 13 = S 13 := mset_ne (by decide)
      have s15 : mset S 11 1 (S 11 1 + 1) 15 = S 15 := mset_ne (by decide)
      have b2 : mset M (b + 11) 1 (M (b + 11) 1 + 1) (b + 11) 2 = S 11 2 := by rw [mset_nj (by decide)]; exact e2
      have b3 : ∀ v, mset (mset M (b + 11) 1 (M (b + 11) 1 + 1)) (b + 11) 2 v (b + 11) 3 = S 11 3 := fun v => by rw [mset_nj (by decide), mset_nj (by decide)]; exact e3
      have t2 : mset S 11 1 (S 11 1 + 1) 11 2 = S 11 2 := mset_nj (by decide)
      have t3 : mset S 11 1 (S 11 1 + 1) 11 3 = S 11 3 := mset_nj (by decide)
      rw [a12, a13, s12, s13, s15, b2, b3, t2, t3, e12 _ q0 q8, e13 _ q0 q8]
      have jj : j = 0 ∨ j = 1 ∨ j = 2 ∨ j = 3 := by omega
      rcases jj with rfl | rfl | rfl | rfl
      · rw [mset_nj (by decide), mset_nj (by decide), mset_nj (by decide), mset_nj (by decide), mset_nj (by decide), mset_nj (by decide)]; exact e0
      · rw [mset_nj (by decide), mset_nj (by decide), mset_eq, mset_nj (by decide), mset_nj (by decide), mset_eq, e1]
      · rw [mset_nj (by decide), mset_eq, mset_nj (by decide), mset_eq]
      · rw [mset_eq, mset_eq]
  · show tkM M b (S 15 1) (b + 12) j = _ ∧ tkM M b (S 15 1) (b + 13) j = _ ∧ tkM M b (S 15 1) (b + 14) j = _
    rw [tkM_row (by omega), tkM_row (by omega), tkM_row (by omega), tkS_row (by decide), tkS_row (by decide), tkS_row (by decide)]
    exact ⟨e12 j a c, e13 j a c, e14 j a c⟩
def faF (S : MM) : Nat → Nat → Int
  | 0, _ => -1000
  | f + 1, k => if fits1 S (S 15 0) 100 (tkSn k S 11 2) (tkSn k S 11 3) = true then (k : Nat) else faF S f (k + 1)
theorem faF_t {S : MM} {f f1 k : Nat} (e : f = f1 + 1) (h : fits1 S (S 15 0) 100 (tkSn k S 11 2) (tkSn k S 11 3) = true) : faF S f k = (k : Nat) := by subst e; simp only [faF]; rw [if_pos h]
theorem faF_f {S : MM} {f f1 k : Nat} (e : f = f1 + 1) (h : ¬ fits1 S (S 15 0) 100 (tkSn k S 11 2) (tkSn k S 11 3) = true) : faF S f k = faF S f1 (k + 1) := by subst e; simp only [faF]; rw [if_neg h]
theorem faF_0 {S : MM} {f k : Nat} (e : f = 0) : faF S f k = -1000 := by subst e; rfl
theorem WF_mix {T To : Int} {M M2 : MM} {b b2 : Nat} (hW : WF T M b) (hWo : WF To M b2) (hf : ∀ i, i < b2 + 11 ∨ b2 + 14 < i → M2 i = M i) (hv : ∀ k, 11 ≤ k → k ≤ 14 → ∀ j, rel k j → M2 (b2 + k) j = M (b + k) j) : WF T M2 b2 ∧ SE (stg M2 b2) (stg M b) := by
  have h11 : ∀ j : Int, 0 ≤ j → j ≤ 3 → M2 (b2 + 11) j = M (b + 11) j := fun j a c => hv 11 (by decide) (by decide) j (by unfold rel; omega)
  have h12 : ∀ j : Int, 0 ≤ j → j < 8 → M2 (b2 + 12) j = M (b + 12) j := fun j a c => hv 12 (by decide) (by decide) j (by unfold rel; omega)
  have h13 : ∀ j : Int, 0 ≤ j → j < 8 → M2 (b2 + 13) j = M (b + 13) j := fun j a c => hv 13 (by decide) (by decide) j (by unfold rel; omega)
  have h14 : ∀ j : Int, 0 ≤ j → j < 8 → M2 (b2 + 14) j = M (b + 14) j := fun j a c => hv 14 (by decide) (by decide) j (by unfold rel; omega)
  refine ⟨?_, fun j a c => h11 j a c, fun j a c => ⟨h12 j a c, h13 j a c, h14 j a c⟩⟩
  obtain ⟨w0, w1, w2, w3⟩ := hW
  obtain ⟨o0, o1, o2, o3⟩ := hWo
  unfold WFs at w1 o1
  refine ⟨w0, ?_, ?_, fun n n0 n1 => ?_⟩
  · unfold WFs
    rw [h11 0 (by decide) (by decide), h11 1 (by decide) (by decide), h11 2 (by decide) (by decide), h11 3 (by decide) (by decide), hf b2 (by omega), hf (b2 + 1) (by omega), hf (b2 + 15) (by omega)]
    omega
  · unfold WFn
    rw [hf (b2 + 1) (by omega), hf (b2 + 2) (by omega), hf (b2 + 3) (by omega), hf (b2 + 4) (by omega), hf (b2 + 5) (by omega), hf (b2 + 6) (by omega), hf (b2 + 7) (by omega), hf (b2 + 8) (by omega), hf (b2 + 9) (by omega)]
    exact o2
  · rw [h11 0 (by decide) (by decide)] at n1
    rw [h12 n n0 (by omega), h13 n n0 (by omega), h14 n n0 (by omega)]
    exact w3 n n0 n1
-- X9_fullAfter
set_option maxHeartbeats 4000000 in
set_option maxRecDepth 100000 in
theorem m_X9_fullAfter {E : EE} {K : Nat → Nat} {M : MM} {x : Nat} {T : Int} {most To : Int} (hE : ∀ U, SF E U → ThF E U) (hX0 : EyeK K x) (hW : WF T M (x + 1 + 2)) (hF : Frs M x) (hmo : i32 most) (hT : T + 300 ≤ 1000000000) (hWo : WF To M (x + 28 + 2)) : CnX E 8 yX9_fullAfter cX9_fullAfter 6 (Option.some FieldType.int) [.ref x, vI most] K M (fun r K' M' => (if 0 ≤ most ∧ most ≤ 200 then 0 else 2) = (0 : Int) ∧ K' = K ∧ r = some (vI (faF (stg M (x + 1 + 2)) (most + 1).toNat 0)) ∧ (∃ M1, Lkd M x M1 ∧ ∀ i, i < x + 28 ∨ x + 54 < i → M' i = M1 i) ∧ ∃ T2, T2 ≤ T + 201 ∧ WF T2 M' (x + 28 + 2)) (xpF (if 0 ≤ most ∧ most ≤ 200 then 0 else 2)) 1 6 := by
  have hXa := hX0.all
  refine CnX_of RX9 (by decide) rfl (Nat.le_of_ble_eq_true rfl) (fun X hX hQ hXK hT => ?_)
  refine J_iload_n hX dX9_fullAfter_0 rfl ?_
  refine J_iconst hX dX9_fullAfter_1 ?_
  refine J_sipush hX dX9_fullAfter_2 rfl ?_
  refine J_callSI hX _ dX9_fullAfter_5 cw_RX9_131 (m_X9_faultOfRange (by omega) (by omega) (by omega)) rfl (Nat.le_of_ble_eq_true rfl) (by decide) ⟨by decide, by decide⟩ (fun r5 => ?_)
  refine J_refuse hX hT hXK hQ rfl hE dX9_fullAfter_8 (by first | decide | exact fG_r _ _ _ _ _ _ | exact fB_r _ _ _ _ _ _ _ _ | exact fP_r _ _ _ _ _ _ | exact fCo_r _ _ _ _ | exact fS_r _ _ _ _ _ | exact fT_r _ _ _ _ _ | exact fCe_r _ _ _ _ | exact if_r (by decide) | exact fSt_r _ _) (by decide) (by decide) (by decide) (fun nm h => by first | exact h | exact xp_1 h | exact xp_2 (by assumption) h | (refine xp_e ?_ h; first | (rw [if_pos (by omega)]; done) | (rw [if_neg (by omega)]; done)) | (refine xp_1 (xp_e ?_ h); first | (rw [if_pos (by omega)]; done) | (rw [if_neg (by omega)]; done)) | (refine xp_2 (by assumption) (xp_e ?_ h); first | (rw [if_pos (by omega)]; done) | (rw [if_neg (by omega)]; done)) | (refine xp_2 ?_ h; first | (rw [if_pos (by omega)]; done) | (rw [if_neg (by omega)]; done))) (fun cF0 => ?_)
  refine J_vx hX hQ (fun X hX hQ hXK2 => ?_)
  have c5 := if_0 (by decide) cF0
  refine J_aload_n hX dX9_fullAfter_11 rfl ?_
  refine J_fresh hX hX0 hW hF dX9_fullAfter_12 (by decide) (by decide) (by decide) (fun M2 hL hW2 hV2 hH2 hS2 => ?_)
  have hP2 := hV2.1.1
  refine J_gr hX (x + 1 + 1) fr_RX9_138 dX9_fullAfter_15 (show K (x + 1) = 7 from (hXa).view 0 (by decide)) rfl ?_
  refine J_astore_n hX dX9_fullAfter_18 (by decide) ?_
  have ws9 := hW.2.1
  unfold WFs at ws9
  have hWo2 : WF To M2 (x + 28 + 2) := WF_fr (stg_eq (fun k hk => hL.1 _ (by omega) (by omega) (by omega) (by omega))) hWo
  refine J_aload_n hX dX9_fullAfter_19 rfl ?_
  refine J_gr hX (x + 28 + 2) fr_RX9_24 dX9_fullAfter_20 (show K (x) = 8 from hXa 0 (by decide)) rfl ?_
  refine J_gr hX (x + 28 + 2 + 11) fr_RX9_100 dX9_fullAfter_23 (show K (x + 28 + 2) = 5 from ((hXa).other).stage 0 (by decide)) rfl ?_
  refine J_astore_n hX dX9_fullAfter_26 (by decide) ?_
  refine J_aload_n hX dX9_fullAfter_27 rfl ?_
  refine J_aload_n hX dX9_fullAfter_28 rfl ?_
  refine J_gr hX (x + 1 + 2) fr_RX9_20 dX9_fullAfter_29 (show K (x) = 8 from hXa 0 (by decide)) rfl ?_
  refine J_gr hX (x + 1 + 2 + 11) fr_RX9_100 dX9_fullAfter_32 (show K (x + 1 + 2) = 5 from ((hXa).view).stage 0 (by decide)) rfl ?_
  refine J_callVM hX _ dX9_fullAfter_35 cw_RX9_194 (m_X3_copyFrom (hXa).view.stage (hXa).other.stage (by omega)) ⟨(show K (x + 28 + 2 + 11) = 3 from ((hXa).other).stage 11 (by decide)), by decide, by decide, rfl⟩ rfl (Nat.le_of_ble_eq_true rfl) (by decide) ⟨by decide, by decide⟩ (fun r9 M35 q35 => ?_)
  obtain ⟨rfl, fM35, vM35⟩ := q35
  obtain ⟨hW35, hSE⟩ := WF_mix hW2 hWo2 fM35 vM35
  rw [hS2] at hSE
  have e15 : M35 (x + 1 + 2 + 15) = M (x + 1 + 2 + 15) := by rw [fM35 _ (by omega)]; exact congrFun hS2 15
  refine J_aload_n hX dX9_fullAfter_38 rfl ?_
  refine J_gr hX (x + 1 + 2) fr_RX9_20 dX9_fullAfter_39 (show K (x) = 8 from hXa 0 (by decide)) rfl ?_
  refine J_gr hX (x + 1 + 2 + 15) fr_RX9_198 dX9_fullAfter_42 (show K (x + 1 + 2) = 5 from ((hXa).view).stage 0 (by decide)) rfl ?_
  refine J_iconst hX dX9_fullAfter_45 ?_
  refine J_iald hX dX9_fullAfter_46 (show K (x + 1 + 2 + 15) = 1000 + 4 from ((hXa).view).stage 15 (by decide)) ⟨by omega, by omega⟩ (by decide) (fun r46 => ?_)
  refine J_istore hX dX9_fullAfter_47 (by decide) ?_
  refine J_iconst hX dX9_fullAfter_49 ?_
  refine J_istore hX dX9_fullAfter_50 (by decide) ?_
  have HL52 : ∀ k : Nat, k ≤ (most + 1).toNat → ∀ (g : Int) (M5 : MM), ((∀ i, i ≠ x + 28 + 2 + 11 → M5 i = M35 i) ∧ WF (T + k) M5 (x + 28 + 2) ∧ SE (stg M5 (x + 28 + 2)) (tkSn k (stg M (x + 1 + 2))) ∧ faF (stg M (x + 1 + 2)) ((most + 1).toNat - k) k = faF (stg M (x + 1 + 2)) (most + 1).toNat 0 ∧ g = (stg M (x + 1 + 2)) 15 0) → J E X 52 [(0, .ref x), (1, vI most), (2, .ref (x + 1 + 1)), (3, .ref (x + 28 + 2 + 11)), (4, vI g), (5, vI (k : Int))] [] K M5 (0 + 1) (0 + 6) := by
    refine up_ind ((most + 1).toNat) (fun k hk52 ih52 => ?_)
    intro g  M5  hi52
    have hg0 : 0 ≤ g ∧ g ≤ 100 := by have z : (stg M (x + 1 + 2)) 15 0 = M (x + 1 + 2 + 15) 0 := rfl; omega
    have lim := hi52.2.1.2.1
    unfold WFs at lim
    refine J_iload hX dX9_fullAfter_52 rfl ?_
    refine J_iload_n hX dX9_fullAfter_54 rfl ?_
    refine J_icmp_gt hX 99 dX9_fullAfter_55 (by omega) (by omega) (by decide) (fun c55 => ?_) (fun c55 => ?_)
    · refine J_sipush hX dX9_fullAfter_99 rfl ?_
      exact J_iret hX hQ dX9_fullAfter_102 (by refine ⟨cF0, rfl, by rw [← hi52.2.2.2.1]; first | (rw [faF_t (f := (most + 1).toNat - k) (f1 := (most + 1).toNat - (k + 1)) (by omega) (by assumption)]) | (rw [faF_0 (by omega)]), ⟨M2, hL, fun i hi => by rw [hi52.1 i (by omega)]; exact fM35 i (by omega)⟩, T + k, by omega, hi52.2.1⟩) (by decide) (by decide)
    · have l2 : M5 (x + 28 + 2 + 11) 2 = tkSn k (stg M (x + 1 + 2)) 11 2 := hi52.2.2.1.1 2 (by decide) (by decide)
      have l3 : M5 (x + 28 + 2 + 11) 3 = tkSn k (stg M (x + 1 + 2)) 11 3 := hi52.2.2.1.1 3 (by decide) (by decide)
      have s5 : stg M5 (x + 1 + 2) = (stg M (x + 1 + 2)) := (stg_eq (fun k2 hk2 => by rw [hi52.1 _ (by omega), fM35 _ (by omega)])).trans hS2
      have hWm : WF T M5 (x + 1 + 2) := WF_fr s5 hW
      have hz5 : ∀ n, box M5 (x + 1 + 2) n → M5 (x + 1 + 20) n = pos (stg M5 (x + 1 + 2)) 6 n := fun n hn => by
              have hn2 : hs (stg M (x + 1 + 2)) n := by rw [← s5]; exact hn.1
              rw [s5, hi52.1 _ (by omega), fM35 _ (by omega), ← hS2]
              exact (hP2.1 n hn2.1 (by rw [hS2]; exact hn2.2.1)).2.2
      refine J_aload_n hX dX9_fullAfter_58 rfl ?_
      refine J_iload hX dX9_fullAfter_59 rfl ?_
      refine J_bipush hX dX9_fullAfter_61 rfl ?_
      refine J_aload_n hX dX9_fullAfter_63 rfl ?_
      refine J_geti hX fi_RX9_202 dX9_fullAfter_64 (show K (x + 28 + 2 + 11) = 3 from ((hXa).other).stage 11 (by decide)) (fun r64 => ?_)
      refine J_aload_n hX dX9_fullAfter_67 rfl ?_
      refine J_geti hX fi_RX9_205 dX9_fullAfter_68 (show K (x + 28 + 2 + 11) = 3 from ((hXa).other).stage 11 (by decide)) (fun r68 => ?_)
      refine J_callVB hX _ dX9_fullAfter_71 cw_RX9_208 (m_X2_fits (hXa).view hWm hz5 hg0 (by decide) (by omega) (by omega)) ⟨(show K (x + 1 + 1) = 2 from (hXa).view 1 (by decide)), by decide, by decide, rfl⟩ rfl (Nat.le_of_ble_eq_true rfl) (by decide) ⟨by decide, by decide⟩ ?_
      rw [s5, l2, l3]
      rw [show fits1 (stg M (x + 1 + 2)) g 100 (tkSn k (stg M (x + 1 + 2)) 11 2) (tkSn k (stg M (x + 1 + 2)) 11 3) = fits1 (stg M (x + 1 + 2)) ((stg M (x + 1 + 2)) 15 0) 100 (tkSn k (stg M (x + 1 + 2)) 11 2) (tkSn k (stg M (x + 1 + 2)) 11 3) from by rw [hi52.2.2.2.2]]
      refine J_ifb_eq hX 80 dX9_fullAfter_74 (by decide) (fun c74 => ?_) (fun c74 => ?_)
      · refine J_aload_n hX dX9_fullAfter_80 rfl ?_
        refine J_aload_n hX dX9_fullAfter_81 rfl ?_
        refine J_gr hX (x + 1 + 2) fr_RX9_20 dX9_fullAfter_82 (show K (x) = 8 from hXa 0 (by decide)) rfl ?_
        refine J_gr hX (x + 1 + 2 + 15) fr_RX9_198 dX9_fullAfter_85 (show K (x + 1 + 2) = 5 from ((hXa).view).stage 0 (by decide)) rfl ?_
        refine J_iconst hX dX9_fullAfter_88 ?_
        refine J_iald hX dX9_fullAfter_89 (show K (x + 1 + 2 + 15) = 1000 + 4 from ((hXa).view).stage 15 (by decide)) ⟨by omega, by omega⟩ (by decide) (fun r89 => ?_)
        have e5 : M5 (x + 1 + 2 + 15) 1 = M (x + 1 + 2 + 15) 1 := by rw [hi52.1 _ (by omega), e15]
        refine J_callVM hX _ dX9_fullAfter_90 cw_RX9_212 (m_X3_passTick (hXa).other.stage hi52.2.1 (by omega) (by omega)) ⟨(show K (x + 28 + 2 + 11) = 3 from ((hXa).other).stage 11 (by decide)), by decide, by decide, rfl⟩ rfl (Nat.le_of_ble_eq_true rfl) (by decide) ⟨by decide, by decide⟩ (fun r9 M90 q90 => ?_)
        obtain ⟨rfl, pt⟩ := q90
        rw [e5] at pt
        refine J_iinc hX dX9_fullAfter_93 rfl (by decide) ?_
        refine J_goto hX 52 dX9_fullAfter_96 (by decide) ?_
        exact J_locI (ih52 (k + 1) (by omega) (by omega) _ _ ⟨fun i hi => by rw [pt, tkM_row hi]; exact hi52.1 i hi, by
                    rw [pt, show T + ((k + 1 : Nat) : Int) = T + k + 1 by omega]
                    exact WF_tk hi52.2.1 (by omega) (by omega), by
                    rw [pt]
                    have z := SE_tick hi52.2.1 (by omega) (WFS_tkSn hW.S (fun k2 h2 => stg_hi h2) k (by omega)) (by omega) hi52.2.2.1
                    rw [tkSn_row (by decide) k] at z
                    exact z, by rw [← hi52.2.2.2.1, faF_f (f := (most + 1).toNat - k) (f1 := (most + 1).toNat - (k + 1)) (by omega) c74], hi52.2.2.2.2⟩) rfl
      · refine J_iload hX dX9_fullAfter_77 rfl ?_
        exact J_iret hX hQ dX9_fullAfter_79 (by refine ⟨cF0, rfl, by rw [← hi52.2.2.2.1]; first | (rw [faF_t (f := (most + 1).toNat - k) (f1 := (most + 1).toNat - (k + 1)) (by omega) (by assumption)]) | (rw [faF_0 (by omega)]), ⟨M2, hL, fun i hi => by rw [hi52.1 i (by omega)]; exact fM35 i (by omega)⟩, T + k, by omega, hi52.2.1⟩) (by decide) (by decide)
  exact J_locI (HL52 0 (Nat.zero_le _) _ _ ⟨fun _ _ => rfl, by rw [show T + ((0 : Nat) : Int) = T by omega]; exact hW35, hSE, rfl, by rw [e15]; rfl⟩) rfl
