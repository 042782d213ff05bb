/-! the reference's faces: values -/
/-- of a question: the code, the answer, what stays -/
def VlM (M : MM) (r : Nat) (c v : Int) (r9 : Option Value) (M2 : MM) : Prop := M2 r 6 = c ∧ (c ≠ 0 ∧ r9 = some (vI 0) ∨ c = 0 ∧ r9 = some (vI v)) ∧ (∀ i, i = r + 3 ∨ i = r + 4 ∨ i < r ∨ r + 11 < i → M2 i = M i) ∧ (∀ j : Int, 0 ≤ j → j < 198 → M2 (r + 1) j = M (r + 1) j) ∧ ∀ j, j = 3 ∨ j = 5 → M2 r j = M r j
theorem RS_fr {T : Int} {S : MM} {m m2 : Int → Int} (hR : RS S m) (hW : WFS T S) (h : ∀ j : Int, 0 ≤ j → j < 198 → m2 j = m j) : RS S m2 := by
  obtain ⟨⟨rs0, rs1, rs2, rs3, rs4, rs5, rs6, rs7, rs8, rs9, rs10, rs13⟩, rst, rsn, rsc⟩ := hR
  have hs := hW.2.1
  unfold WFSs at hs
  unfold RS
  rw [h 0 (by decide) (by decide), h 1 (by decide) (by decide), h 2 (by decide) (by decide), h 3 (by decide) (by decide), h 4 (by decide) (by decide), h 5 (by decide) (by decide), h 6 (by decide) (by decide), h 7 (by decide) (by decide), h 8 (by decide) (by decide), h 9 (by decide) (by decide), h 10 (by decide) (by decide), h 11 (by decide) (by decide), h 12 (by decide) (by decide), h 13 (by decide) (by decide)]
  refine ⟨⟨rs0, rs1, rs2, rs3, rs4, rs5, rs6, rs7, rs8, rs9, rs10, rs13⟩, rst, fun n n0 n1 => ?_, fun s s0 s1 => ?_⟩
  · rw [h _ (by omega) (by omega), h _ (by omega) (by omega), h _ (by omega) (by omega), h _ (by omega) (by omega), h _ (by omega) (by omega), h _ (by omega) (by omega), h _ (by omega) (by omega)]
    exact rsn n n0 n1
  · rw [h _ (by omega) (by omega), h _ (by omega) (by omega), h _ (by omega) (by omega)]
    exact rsc s s0 s1
theorem sumd_congr {S S2 : MM} {k : Nat} (hk : S2 k = S k) (h2 : S2 2 = S 2) : ∀ (f : Nat) (n : Int), sumd S2 k f n = sumd S k f n
  | 0, _ => rfl
  | f + 1, n => by simp only [sumd]; rw [hk, h2, sumd_congr hk h2 f]
theorem ftn_congr {S S2 : MM} (h1 : S2 1 = S 1) (h2 : S2 2 = S 2) (h6 : S2 6 = S 6) (h7 : S2 7 = S 7) (g p lo hi : Int) : ∀ k : Nat, ftn S2 g p lo hi k = ftn S g p lo hi k
  | 0 => rfl
  | k + 1 => by
    simp only [ftn]
    rw [ftn_congr h1 h2 h6 h7 g p lo hi k]
    congr 1
    unfold rawg pos
    rw [sumd_congr h6 h2]
    have e : bx S2 k ↔ bx S k := by
      show ((0 ≤ (k : Int) ∧ (k : Int) < S2 1 0 ∧ (k : Int) < 20) ∧ 0 < S2 7 k) ↔ _
      rw [h1, h7]
    exact decide_eq_decide.mpr (or_congr (not_congr e) Iff.rfl)
theorem fits1_congr {S S2 : MM} (h1 : S2 1 = S 1) (h2 : S2 2 = S 2) (h6 : S2 6 = S 6) (h7 : S2 7 = S 7) (g p lo hi : Int) : fits1 S2 g p lo hi = fits1 S g p lo hi := by
  unfold fits1 cnt
  rw [h1]
  exact ftn_congr h1 h2 h6 h7 g p lo hi _
theorem fits1_tk {S : MM} (k : Nat) (g p lo hi : Int) : fits1 (tkSn k S) g p lo hi = fits1 S g p lo hi := fits1_congr (tkSn_row (by decide) k) (tkSn_row (by decide) k) (tkSn_row (by decide) k) (tkSn_row (by decide) k) g p lo hi
theorem pos_congr {S S2 : MM} {k : Nat} (hk : S2 k = S k) (h2 : S2 2 = S 2) (n : Int) : pos S2 k n = pos S k n := sumd_congr hk h2 21 n
theorem fits_00 {S : MM} {p lo hi : Int} (hl : lo ≤ 0) (hh : 0 ≤ hi) : fits1 S 0 p lo hi = true := by
  unfold fits1
  rw [ftn_all]
  intro j _
  right
  unfold rawg
  rw [Int.zero_mul, Int.zero_ediv, Int.zero_mul, Int.zero_ediv]
  exact ⟨hl, hh⟩
-- X10_node
set_option maxHeartbeats 4000000 in
set_option maxRecDepth 100000 in
theorem m_X10_node {E : EE} {K : Nat → Nat} {M : MM} {r : Nat} {T : Int} {S : MM} {n k : Int} (hM : ModelK K r) (hR : RS S (M (r + 1))) (hW : WFS T S) (hn : i32 n) (hk : i32 k) : CnM E 7 yX10_node cX10_node 3 (Option.some FieldType.int) [.ref r, vI n, vI k] K M (fun r9 M2 => VlM M r (if ¬ hs S n then 1 else if 0 ≤ k ∧ k ≤ 15 then 0 else 2) (nvl S n k) r9 M2) := by
  obtain ⟨⟨rs0, rs1, rs2, rs3, rs4, rs5, rs6, rs7, rs8, rs9, rs10, rs13⟩, rst, rsn, rsc⟩ := id hR
  have hs9 := hW.2.1
  unfold WFSs at hs9
  refine Cn_of RX10 (plainFor_of_name (by decide)) rfl (Nat.le_of_ble_eq_true rfl) (fun X hX hQ => ?_)
  refine J_aload_n hX dX10_node_0 rfl ?_
  refine J_aload_n hX dX10_node_1 rfl ?_
  refine J_iload_n hX dX10_node_2 rfl ?_
  refine J_callVB hX _ dX10_node_3 cw_RX10_75 (m_X10_isNode hM hR hW (by omega)) ⟨(show K (r) = 9 from hM 0 (by decide)), by decide, by decide, rfl⟩ rfl (Nat.le_of_ble_eq_true rfl) (by decide) ⟨Nat.zero_le _, Nat.zero_le _⟩ ?_
  refine J_ifb_ne hX 13 dX10_node_6 (by decide) (fun c6 => ?_) (fun c6 => ?_)
  · refine J_iload_n hX dX10_node_13 rfl ?_
    refine J_iconst hX dX10_node_14 ?_
    refine J_bipush hX dX10_node_15 rfl ?_
    refine J_callSB hX _ dX10_node_17 cw_RX10_58 (m_X10_in (by omega) (by omega) (by omega)) rfl (Nat.le_of_ble_eq_true rfl) (by decide) ⟨Nat.zero_le _, Nat.zero_le _⟩ ?_
    refine J_ifb_eq hX 27 dX10_node_20 (by decide) (fun c20 => ?_) (fun c20 => ?_)
    · refine J_iconst hX dX10_node_27 ?_
      refine J_putA hX fw_RX10_47 dX10_node_28 (show K (r) = 9 from hM 0 (by decide)) (by omega) (Or.inl rfl) (fun m28 hm28 => ?_)
      have fm28 : ∀ i, i ≠ r → m28 i = M i := fun i h => by rw [hm28]; exact mset_ne h
      have gm28 : ∀ i j, j ≠ 6 → m28 i j = M i j := fun i j h => by rw [hm28]; exact mset_nj h
      have vm28 := (congrFun (congrFun hm28 (r)) 6).trans mset_eq
      have hRm : RS S (m28 (r + 1)) := by rw [fm28 _ (by omega)]; exact hR
      have ec : m28 r 6 = (if ¬ hs S n then 1 else if 0 ≤ k ∧ k ≤ 15 then 0 else 2) := by first | exact vm28 | exact vm28.trans (by (repeat' split) <;> omega)
      refine J_aload_n hX dX10_node_31 rfl ?_
      refine J_geti hX fi_RX10_47 dX10_node_32 (show K (r) = 9 from hM 0 (by decide)) (fun r32 => ?_)
      refine J_if_eq hX 40 dX10_node_35 (by omega) (by decide) (fun c35 => ?_) (fun c35 => ?_)
      · have ez : (if ¬ hs S n then 1 else if 0 ≤ k ∧ k ≤ 15 then 0 else 2) = (0 : Int) := by rw [← ec]; first | assumption | exact vm28
        have g0 : hs S n := by by_cases q : hs S n; exact q; (rw [if_pos q] at ez; omega)
        have g1 : 0 ≤ k ∧ k ≤ 15 := by rw [if_neg (fun q => q g0)] at ez; exact if_0 (by decide) ez
        refine J_aload_n hX dX10_node_40 rfl ?_
        refine J_callVM hX _ dX10_node_41 cw_RX10_235 (m_X10_survey hM hRm hW) ⟨(show K (r) = 9 from hM 0 (by decide)), by decide, by decide, rfl⟩ rfl (Nat.le_of_ble_eq_true rfl) (by decide) ⟨Nat.zero_le _, Nat.zero_le _⟩ (fun r9 M41 q41 => ?_)
        obtain ⟨rfl, frM41, grM41, svM41⟩ := q41
        have hRs : RS S (M41 (r + 1)) := by rw [frM41 _ (by omega) (by omega)]; exact hRm
        refine J_aload_n hX dX10_node_44 rfl ?_
        refine J_iload_n hX dX10_node_45 rfl ?_
        refine J_iload_n hX dX10_node_46 rfl ?_
        refine J_callVI hX _ dX10_node_47 cw_RX10_238 (m_X10_nodeOf hM hRs hW g0 (by omega) svM41.1) ⟨(show K (r) = 9 from hM 0 (by decide)), by decide, by decide, rfl⟩ rfl (Nat.le_of_ble_eq_true rfl) (by decide) ⟨Nat.zero_le _, Nat.zero_le _⟩ (fun r47 => ?_)
        exact J_iret hX hQ dX10_node_50 ⟨rfl, by first | exact ⟨ec, Or.inl ⟨by rw [← ec]; assumption, rfl⟩, fun i hi => fm28 i (by omega), fun j _ _ => congrFun (fm28 (r + 1) (by omega)) j, fun j hj => gm28 _ j (by omega)⟩ | exact ⟨by rw [grM41 6 (by omega)]; exact ec, Or.inr ⟨ez, rfl⟩, fun i hi => by rw [frM41 i (by omega) (by omega)]; exact fm28 i (by omega), fun j _ _ => by rw [frM41 _ (by omega) (by omega), fm28 _ (by omega)], fun j hj => by rw [grM41 j (by omega)]; exact gm28 _ j (by omega)⟩⟩ (Nat.zero_le _) (Nat.zero_le _)
      · refine J_iconst hX dX10_node_38 ?_
        exact J_iret hX hQ dX10_node_39 ⟨rfl, by first | exact ⟨ec, Or.inl ⟨by rw [← ec]; assumption, rfl⟩, fun i hi => fm28 i (by omega), fun j _ _ => congrFun (fm28 (r + 1) (by omega)) j, fun j hj => gm28 _ j (by omega)⟩ | exact ⟨by rw [grM41 6 (by omega)]; exact ec, Or.inr ⟨ez, rfl⟩, fun i hi => by rw [frM41 i (by omega) (by omega)]; exact fm28 i (by omega), fun j _ _ => by rw [frM41 _ (by omega) (by omega), fm28 _ (by omega)], fun j hj => by rw [grM41 j (by omega)]; exact gm28 _ j (by omega)⟩⟩ (Nat.zero_le _) (Nat.zero_le _)
    · refine J_iconst hX dX10_node_23 ?_
      refine J_goto hX 28 dX10_node_24 (by decide) ?_
      refine J_putA hX fw_RX10_47 dX10_node_28 (show K (r) = 9 from hM 0 (by decide)) (by omega) (Or.inl rfl) (fun m28 hm28 => ?_)
      have fm28 : ∀ i, i ≠ r → m28 i = M i := fun i h => by rw [hm28]; exact mset_ne h
      have gm28 : ∀ i j, j ≠ 6 → m28 i j = M i j := fun i j h => by rw [hm28]; exact mset_nj h
      have vm28 := (congrFun (congrFun hm28 (r)) 6).trans mset_eq
      have hRm : RS S (m28 (r + 1)) := by rw [fm28 _ (by omega)]; exact hR
      have ec : m28 r 6 = (if ¬ hs S n then 1 else if 0 ≤ k ∧ k ≤ 15 then 0 else 2) := by first | exact vm28 | exact vm28.trans (by (repeat' split) <;> omega)
      refine J_aload_n hX dX10_node_31 rfl ?_
      refine J_geti hX fi_RX10_47 dX10_node_32 (show K (r) = 9 from hM 0 (by decide)) (fun r32 => ?_)
      refine J_if_eq hX 40 dX10_node_35 (by omega) (by decide) (fun c35 => ?_) (fun c35 => ?_)
      · have ez : (if ¬ hs S n then 1 else if 0 ≤ k ∧ k ≤ 15 then 0 else 2) = (0 : Int) := by rw [← ec]; first | assumption | exact vm28
        have g0 : hs S n := by by_cases q : hs S n; exact q; (rw [if_pos q] at ez; omega)
        have g1 : 0 ≤ k ∧ k ≤ 15 := by rw [if_neg (fun q => q g0)] at ez; exact if_0 (by decide) ez
        refine J_aload_n hX dX10_node_40 rfl ?_
        refine J_callVM hX _ dX10_node_41 cw_RX10_235 (m_X10_survey hM hRm hW) ⟨(show K (r) = 9 from hM 0 (by decide)), by decide, by decide, rfl⟩ rfl (Nat.le_of_ble_eq_true rfl) (by decide) ⟨Nat.zero_le _, Nat.zero_le _⟩ (fun r9 M41 q41 => ?_)
        obtain ⟨rfl, frM41, grM41, svM41⟩ := q41
        have hRs : RS S (M41 (r + 1)) := by rw [frM41 _ (by omega) (by omega)]; exact hRm
        refine J_aload_n hX dX10_node_44 rfl ?_
        refine J_iload_n hX dX10_node_45 rfl ?_
        refine J_iload_n hX dX10_node_46 rfl ?_
        refine J_callVI hX _ dX10_node_47 cw_RX10_238 (m_X10_nodeOf hM hRs hW g0 (by omega) svM41.1) ⟨(show K (r) = 9 from hM 0 (by decide)), by decide, by decide, rfl⟩ rfl (Nat.le_of_ble_eq_true rfl) (by decide) ⟨Nat.zero_le _, Nat.zero_le _⟩ (fun r47 => ?_)
        exact J_iret hX hQ dX10_node_50 ⟨rfl, by first | exact ⟨ec, Or.inl ⟨by rw [← ec]; assumption, rfl⟩, fun i hi => fm28 i (by omega), fun j _ _ => congrFun (fm28 (r + 1) (by omega)) j, fun j hj => gm28 _ j (by omega)⟩ | exact ⟨by rw [grM41 6 (by omega)]; exact ec, Or.inr ⟨ez, rfl⟩, fun i hi => by rw [frM41 i (by omega) (by omega)]; exact fm28 i (by omega), fun j _ _ => by rw [frM41 _ (by omega) (by omega), fm28 _ (by omega)], fun j hj => by rw [grM41 j (by omega)]; exact gm28 _ j (by omega)⟩⟩ (Nat.zero_le _) (Nat.zero_le _)
      · refine J_iconst hX dX10_node_38 ?_
        exact J_iret hX hQ dX10_node_39 ⟨rfl, by first | exact ⟨ec, Or.inl ⟨by rw [← ec]; assumption, rfl⟩, fun i hi => fm28 i (by omega), fun j _ _ => congrFun (fm28 (r + 1) (by omega)) j, fun j hj => gm28 _ j (by omega)⟩ | exact ⟨by rw [grM41 6 (by omega)]; exact ec, Or.inr ⟨ez, rfl⟩, fun i hi => by rw [frM41 i (by omega) (by omega)]; exact fm28 i (by omega), fun j _ _ => by rw [frM41 _ (by omega) (by omega), fm28 _ (by omega)], fun j hj => by rw [grM41 j (by omega)]; exact gm28 _ j (by omega)⟩⟩ (Nat.zero_le _) (Nat.zero_le _)
  · refine J_iconst hX dX10_node_9 ?_
    refine J_goto hX 28 dX10_node_10 (by decide) ?_
    refine J_putA hX fw_RX10_47 dX10_node_28 (show K (r) = 9 from hM 0 (by decide)) (by omega) (Or.inl rfl) (fun m28 hm28 => ?_)
    have fm28 : ∀ i, i ≠ r → m28 i = M i := fun i h => by rw [hm28]; exact mset_ne h
    have gm28 : ∀ i j, j ≠ 6 → m28 i j = M i j := fun i j h => by rw [hm28]; exact mset_nj h
    have vm28 := (congrFun (congrFun hm28 (r)) 6).trans mset_eq
    have hRm : RS S (m28 (r + 1)) := by rw [fm28 _ (by omega)]; exact hR
    have ec : m28 r 6 = (if ¬ hs S n then 1 else if 0 ≤ k ∧ k ≤ 15 then 0 else 2) := by first | exact vm28 | exact vm28.trans (by (repeat' split) <;> omega)
    refine J_aload_n hX dX10_node_31 rfl ?_
    refine J_geti hX fi_RX10_47 dX10_node_32 (show K (r) = 9 from hM 0 (by decide)) (fun r32 => ?_)
    refine J_if_eq hX 40 dX10_node_35 (by omega) (by decide) (fun c35 => ?_) (fun c35 => ?_)
    · have ez : (if ¬ hs S n then 1 else if 0 ≤ k ∧ k ≤ 15 then 0 else 2) = (0 : Int) := by rw [← ec]; first | assumption | exact vm28
      have g0 : hs S n := by by_cases q : hs S n; exact q; (rw [if_pos q] at ez; omega)
      have g1 : 0 ≤ k ∧ k ≤ 15 := by rw [if_neg (fun q => q g0)] at ez; exact if_0 (by decide) ez
      refine J_aload_n hX dX10_node_40 rfl ?_
      refine J_callVM hX _ dX10_node_41 cw_RX10_235 (m_X10_survey hM hRm hW) ⟨(show K (r) = 9 from hM 0 (by decide)), by decide, by decide, rfl⟩ rfl (Nat.le_of_ble_eq_true rfl) (by decide) ⟨Nat.zero_le _, Nat.zero_le _⟩ (fun r9 M41 q41 => ?_)
      obtain ⟨rfl, frM41, grM41, svM41⟩ := q41
      have hRs : RS S (M41 (r + 1)) := by rw [frM41 _ (by omega) (by omega)]; exact hRm
      refine J_aload_n hX dX10_node_44 rfl ?_
      refine J_iload_n hX dX10_node_45 rfl ?_
      refine J_iload_n hX dX10_node_46 rfl ?_
      refine J_callVI hX _ dX10_node_47 cw_RX10_238 (m_X10_nodeOf hM hRs hW g0 (by omega) svM41.1) ⟨(show K (r) = 9 from hM 0 (by decide)), by decide, by decide, rfl⟩ rfl (Nat.le_of_ble_eq_true rfl) (by decide) ⟨Nat.zero_le _, Nat.zero_le _⟩ (fun r47 => ?_)
      exact J_iret hX hQ dX10_node_50 ⟨rfl, by first | exact ⟨ec, Or.inl ⟨by rw [← ec]; assumption, rfl⟩, fun i hi => fm28 i (by omega), fun j _ _ => congrFun (fm28 (r + 1) (by omega)) j, fun j hj => gm28 _ j (by omega)⟩ | exact ⟨by rw [grM41 6 (by omega)]; exact ec, Or.inr ⟨ez, rfl⟩, fun i hi => by rw [frM41 i (by omega) (by omega)]; exact fm28 i (by omega), fun j _ _ => by rw [frM41 _ (by omega) (by omega), fm28 _ (by omega)], fun j hj => by rw [grM41 j (by omega)]; exact gm28 _ j (by omega)⟩⟩ (Nat.zero_le _) (Nat.zero_le _)
    · refine J_iconst hX dX10_node_38 ?_
      exact J_iret hX hQ dX10_node_39 ⟨rfl, by first | exact ⟨ec, Or.inl ⟨by rw [← ec]; assumption, rfl⟩, fun i hi => fm28 i (by omega), fun j _ _ => congrFun (fm28 (r + 1) (by omega)) j, fun j hj => gm28 _ j (by omega)⟩ | exact ⟨by rw [grM41 6 (by omega)]; exact ec, Or.inr ⟨ez, rfl⟩, fun i hi => by rw [frM41 i (by omega) (by omega)]; exact fm28 i (by omega), fun j _ _ => by rw [frM41 _ (by omega) (by omega), fm28 _ (by omega)], fun j hj => by rw [grM41 j (by omega)]; exact gm28 _ j (by omega)⟩⟩ (Nat.zero_le _) (Nat.zero_le _)
-- X10_painted
set_option maxHeartbeats 4000000 in
set_option maxRecDepth 100000 in
theorem m_X10_painted {E : EE} {K : Nat → Nat} {M : MM} {r : Nat} {T : Int} {S : MM} {p : Int} (hM : ModelK K r) (hR : RS S (M (r + 1))) (hW : WFS T S) (hp : i32 p) : CnM E 7 yX10_painted cX10_painted 2 (Option.some FieldType.int) [.ref r, vI p] K M (fun r9 M2 => VlM M r (if p < 0 then 1 else 0) (if 0 ≤ p ∧ p < (nb S : Nat) then ord S p else -1000) r9 M2) := by
  obtain ⟨⟨rs0, rs1, rs2, rs3, rs4, rs5, rs6, rs7, rs8, rs9, rs10, rs13⟩, rst, rsn, rsc⟩ := id hR
  have hs9 := hW.2.1
  unfold WFSs at hs9
  refine Cn_of RX10 (plainFor_of_name (by decide)) rfl (Nat.le_of_ble_eq_true rfl) (fun X hX hQ => ?_)
  refine J_aload_n hX dX10_painted_0 rfl ?_
  refine J_iload_n hX dX10_painted_1 rfl ?_
  refine J_if_ge hX 9 dX10_painted_2 (by omega) (by decide) (fun c2 => ?_) (fun c2 => ?_)
  · refine J_iconst hX dX10_painted_9 ?_
    refine J_putA hX fw_RX10_47 dX10_painted_10 (show K (r) = 9 from hM 0 (by decide)) (by omega) (Or.inl rfl) (fun m10 hm10 => ?_)
    have fm10 : ∀ i, i ≠ r → m10 i = M i := fun i h => by rw [hm10]; exact mset_ne h
    have gm10 : ∀ i j, j ≠ 6 → m10 i j = M i j := fun i j h => by rw [hm10]; exact mset_nj h
    have vm10 := (congrFun (congrFun hm10 (r)) 6).trans mset_eq
    have hRm : RS S (m10 (r + 1)) := by rw [fm10 _ (by omega)]; exact hR
    have ec : m10 r 6 = (if p < 0 then 1 else 0) := by first | exact vm10 | exact vm10.trans (by (repeat' split) <;> omega)
    refine J_aload_n hX dX10_painted_13 rfl ?_
    refine J_geti hX fi_RX10_47 dX10_painted_14 (show K (r) = 9 from hM 0 (by decide)) (fun r14 => ?_)
    refine J_if_eq hX 22 dX10_painted_17 (by omega) (by decide) (fun c17 => ?_) (fun c17 => ?_)
    · have ez : (if p < 0 then 1 else 0) = (0 : Int) := by rw [← ec]; first | assumption | exact vm10
      have g0 : 0 ≤ p := by by_cases q : p < 0; (rw [if_pos q] at ez; omega); omega
      refine J_aload_n hX dX10_painted_22 rfl ?_
      refine J_callVM hX _ dX10_painted_23 cw_RX10_235 (m_X10_survey hM hRm hW) ⟨(show K (r) = 9 from hM 0 (by decide)), by decide, by decide, rfl⟩ rfl (Nat.le_of_ble_eq_true rfl) (by decide) ⟨Nat.zero_le _, Nat.zero_le _⟩ (fun r9 M23 q23 => ?_)
      obtain ⟨rfl, frM23, grM23, svM23⟩ := q23
      have hRs : RS S (M23 (r + 1)) := by rw [frM23 _ (by omega) (by omega)]; exact hRm
      have e14 := svM23.1.2.2.1
      have nbl := nb_le hW
      refine J_iload_n hX dX10_painted_26 rfl ?_
      refine J_aload_n hX dX10_painted_27 rfl ?_
      refine J_geti hX fi_RX10_163 dX10_painted_28 (show K (r) = 9 from hM 0 (by decide)) (fun r28 => ?_)
      refine J_icmp_ge hX 43 dX10_painted_31 (by omega) (by omega) (by decide) (fun c31 => ?_) (fun c31 => ?_)
      · refine J_sipush hX dX10_painted_43 rfl ?_
        exact J_iret hX hQ dX10_painted_46 ⟨rfl, by first | exact ⟨ec, Or.inl ⟨by rw [← ec]; assumption, rfl⟩, fun i hi => fm10 i (by omega), fun j _ _ => congrFun (fm10 (r + 1) (by omega)) j, fun j hj => gm10 _ j (by omega)⟩ | exact ⟨by rw [grM23 6 (by omega)]; exact ec, Or.inr ⟨ez, by first | (rw [if_pos (by omega)]; rw [show p = ((p.toNat : Nat) : Int) by omega]; exact congrArg (fun z => some (vI z)) (svM23.1.2.2.2 p.toNat (by omega))) | (rw [if_neg (by omega)])⟩, fun i hi => by rw [frM23 i (by omega) (by omega)]; exact fm10 i (by omega), fun j _ _ => by rw [frM23 _ (by omega) (by omega), fm10 _ (by omega)], fun j hj => by rw [grM23 j (by omega)]; exact gm10 _ j (by omega)⟩⟩ (Nat.zero_le _) (Nat.zero_le _)
      · refine J_aload_n hX dX10_painted_34 rfl ?_
        refine J_gr hX (r + 10) fr_RX10_37 dX10_painted_35 (show K (r) = 9 from hM 0 (by decide)) rfl ?_
        refine J_iload_n hX dX10_painted_38 rfl ?_
        refine J_iald hX dX10_painted_39 (show K (r + 10) = 1000 + 20 from hM 10 (by decide)) ⟨by omega, by omega⟩ (by decide) (fun r39 => ?_)
        refine J_goto hX 46 dX10_painted_40 (by decide) ?_
        exact J_iret hX hQ dX10_painted_46 ⟨rfl, by first | exact ⟨ec, Or.inl ⟨by rw [← ec]; assumption, rfl⟩, fun i hi => fm10 i (by omega), fun j _ _ => congrFun (fm10 (r + 1) (by omega)) j, fun j hj => gm10 _ j (by omega)⟩ | exact ⟨by rw [grM23 6 (by omega)]; exact ec, Or.inr ⟨ez, by first | (rw [if_pos (by omega)]; rw [show p = ((p.toNat : Nat) : Int) by omega]; exact congrArg (fun z => some (vI z)) (svM23.1.2.2.2 p.toNat (by omega))) | (rw [if_neg (by omega)])⟩, fun i hi => by rw [frM23 i (by omega) (by omega)]; exact fm10 i (by omega), fun j _ _ => by rw [frM23 _ (by omega) (by omega), fm10 _ (by omega)], fun j hj => by rw [grM23 j (by omega)]; exact gm10 _ j (by omega)⟩⟩ (Nat.zero_le _) (Nat.zero_le _)
    · refine J_iconst hX dX10_painted_20 ?_
      exact J_iret hX hQ dX10_painted_21 ⟨rfl, by first | exact ⟨ec, Or.inl ⟨by rw [← ec]; assumption, rfl⟩, fun i hi => fm10 i (by omega), fun j _ _ => congrFun (fm10 (r + 1) (by omega)) j, fun j hj => gm10 _ j (by omega)⟩ | exact ⟨by rw [grM23 6 (by omega)]; exact ec, Or.inr ⟨ez, by first | (rw [if_pos (by omega)]; rw [show p = ((p.toNat : Nat) : Int) by omega]; exact congrArg (fun z => some (vI z)) (svM23.1.2.2.2 p.toNat (by omega))) | (rw [if_neg (by omega)])⟩, fun i hi => by rw [frM23 i (by omega) (by omega)]; exact fm10 i (by omega), fun j _ _ => by rw [frM23 _ (by omega) (by omega), fm10 _ (by omega)], fun j hj => by rw [grM23 j (by omega)]; exact gm10 _ j (by omega)⟩⟩ (Nat.zero_le _) (Nat.zero_le _)
  · refine J_iconst hX dX10_painted_5 ?_
    refine J_goto hX 10 dX10_painted_6 (by decide) ?_
    refine J_putA hX fw_RX10_47 dX10_painted_10 (show K (r) = 9 from hM 0 (by decide)) (by omega) (Or.inl rfl) (fun m10 hm10 => ?_)
    have fm10 : ∀ i, i ≠ r → m10 i = M i := fun i h => by rw [hm10]; exact mset_ne h
    have gm10 : ∀ i j, j ≠ 6 → m10 i j = M i j := fun i j h => by rw [hm10]; exact mset_nj h
    have vm10 := (congrFun (congrFun hm10 (r)) 6).trans mset_eq
    have hRm : RS S (m10 (r + 1)) := by rw [fm10 _ (by omega)]; exact hR
    have ec : m10 r 6 = (if p < 0 then 1 else 0) := by first | exact vm10 | exact vm10.trans (by (repeat' split) <;> omega)
    refine J_aload_n hX dX10_painted_13 rfl ?_
    refine J_geti hX fi_RX10_47 dX10_painted_14 (show K (r) = 9 from hM 0 (by decide)) (fun r14 => ?_)
    refine J_if_eq hX 22 dX10_painted_17 (by omega) (by decide) (fun c17 => ?_) (fun c17 => ?_)
    · have ez : (if p < 0 then 1 else 0) = (0 : Int) := by rw [← ec]; first | assumption | exact vm10
      have g0 : 0 ≤ p := by by_cases q : p < 0; (rw [if_pos q] at ez; omega); omega
      refine J_aload_n hX dX10_painted_22 rfl ?_
      refine J_callVM hX _ dX10_painted_23 cw_RX10_235 (m_X10_survey hM hRm hW) ⟨(show K (r) = 9 from hM 0 (by decide)), by decide, by decide, rfl⟩ rfl (Nat.le_of_ble_eq_true rfl) (by decide) ⟨Nat.zero_le _, Nat.zero_le _⟩ (fun r9 M23 q23 => ?_)
      obtain ⟨rfl, frM23, grM23, svM23⟩ := q23
      have hRs : RS S (M23 (r + 1)) := by rw [frM23 _ (by omega) (by omega)]; exact hRm
      have e14 := svM23.1.2.2.1
      have nbl := nb_le hW
      refine J_iload_n hX dX10_painted_26 rfl ?_
      refine J_aload_n hX dX10_painted_27 rfl ?_
      refine J_geti hX fi_RX10_163 dX10_painted_28 (show K (r) = 9 from hM 0 (by decide)) (fun r28 => ?_)
      refine J_icmp_ge hX 43 dX10_painted_31 (by omega) (by omega) (by decide) (fun c31 => ?_) (fun c31 => ?_)
      · refine J_sipush hX dX10_painted_43 rfl ?_
        exact J_iret hX hQ dX10_painted_46 ⟨rfl, by first | exact ⟨ec, Or.inl ⟨by rw [← ec]; assumption, rfl⟩, fun i hi => fm10 i (by omega), fun j _ _ => congrFun (fm10 (r + 1) (by omega)) j, fun j hj => gm10 _ j (by omega)⟩ | exact ⟨by rw [grM23 6 (by omega)]; exact ec, Or.inr ⟨ez, by first | (rw [if_pos (by omega)]; rw [show p = ((p.toNat : Nat) : Int) by omega]; exact congrArg (fun z => some (vI z)) (svM23.1.2.2.2 p.toNat (by omega))) | (rw [if_neg (by omega)])⟩, fun i hi => by rw [frM23 i (by omega) (by omega)]; exact fm10 i (by omega), fun j _ _ => by rw [frM23 _ (by omega) (by omega), fm10 _ (by omega)], fun j hj => by rw [grM23 j (by omega)]; exact gm10 _ j (by omega)⟩⟩ (Nat.zero_le _) (Nat.zero_le _)
      · refine J_aload_n hX dX10_painted_34 rfl ?_
        refine J_gr hX (r + 10) fr_RX10_37 dX10_painted_35 (show K (r) = 9 from hM 0 (by decide)) rfl ?_
        refine J_iload_n hX dX10_painted_38 rfl ?_
        refine J_iald hX dX10_painted_39 (show K (r + 10) = 1000 + 20 from hM 10 (by decide)) ⟨by omega, by omega⟩ (by decide) (fun r39 => ?_)
        refine J_goto hX 46 dX10_painted_40 (by decide) ?_
        exact J_iret hX hQ dX10_painted_46 ⟨rfl, by first | exact ⟨ec, Or.inl ⟨by rw [← ec]; assumption, rfl⟩, fun i hi => fm10 i (by omega), fun j _ _ => congrFun (fm10 (r + 1) (by omega)) j, fun j hj => gm10 _ j (by omega)⟩ | exact ⟨by rw [grM23 6 (by omega)]; exact ec, Or.inr ⟨ez, by first | (rw [if_pos (by omega)]; rw [show p = ((p.toNat : Nat) : Int) by omega]; exact congrArg (fun z => some (vI z)) (svM23.1.2.2.2 p.toNat (by omega))) | (rw [if_neg (by omega)])⟩, fun i hi => by rw [frM23 i (by omega) (by omega)]; exact fm10 i (by omega), fun j _ _ => by rw [frM23 _ (by omega) (by omega), fm10 _ (by omega)], fun j hj => by rw [grM23 j (by omega)]; exact gm10 _ j (by omega)⟩⟩ (Nat.zero_le _) (Nat.zero_le _)
    · refine J_iconst hX dX10_painted_20 ?_
      exact J_iret hX hQ dX10_painted_21 ⟨rfl, by first | exact ⟨ec, Or.inl ⟨by rw [← ec]; assumption, rfl⟩, fun i hi => fm10 i (by omega), fun j _ _ => congrFun (fm10 (r + 1) (by omega)) j, fun j hj => gm10 _ j (by omega)⟩ | exact ⟨by rw [grM23 6 (by omega)]; exact ec, Or.inr ⟨ez, by first | (rw [if_pos (by omega)]; rw [show p = ((p.toNat : Nat) : Int) by omega]; exact congrArg (fun z => some (vI z)) (svM23.1.2.2.2 p.toNat (by omega))) | (rw [if_neg (by omega)])⟩, fun i hi => by rw [frM23 i (by omega) (by omega)]; exact fm10 i (by omega), fun j _ _ => by rw [frM23 _ (by omega) (by omega), fm10 _ (by omega)], fun j hj => by rw [grM23 j (by omega)]; exact gm10 _ j (by omega)⟩⟩ (Nat.zero_le _) (Nat.zero_le _)
-- X10_title
set_option maxHeartbeats 4000000 in
set_option maxRecDepth 100000 in
theorem m_X10_title {E : EE} {K : Nat → Nat} {M : MM} {r : Nat} {T : Int} {S : MM} {k : Int} (hM : ModelK K r) (hR : RS S (M (r + 1))) (hW : WFS T S) (hk : i32 k) : CnM E 7 yX10_title cX10_title 2 (Option.some FieldType.int) [.ref r, vI k] K M (fun r9 M2 => VlM M r (if 0 ≤ k ∧ k ≤ 6 then 0 else 1) (tvl S k) r9 M2) := by
  obtain ⟨⟨rs0, rs1, rs2, rs3, rs4, rs5, rs6, rs7, rs8, rs9, rs10, rs13⟩, rst, rsn, rsc⟩ := id hR
  have hs9 := hW.2.1
  unfold WFSs at hs9
  refine Cn_of RX10 (plainFor_of_name (by decide)) rfl (Nat.le_of_ble_eq_true rfl) (fun X hX hQ => ?_)
  refine J_aload_n hX dX10_title_0 rfl ?_
  refine J_iload_n hX dX10_title_1 rfl ?_
  refine J_iconst hX dX10_title_2 ?_
  refine J_bipush hX dX10_title_3 rfl ?_
  refine J_callSB hX _ dX10_title_5 cw_RX10_58 (m_X10_in (by omega) (by omega) (by omega)) rfl (Nat.le_of_ble_eq_true rfl) (by decide) ⟨Nat.zero_le _, Nat.zero_le _⟩ ?_
  refine J_ifb_eq hX 15 dX10_title_8 (by decide) (fun c8 => ?_) (fun c8 => ?_)
  · refine J_iconst hX dX10_title_15 ?_
    refine J_putA hX fw_RX10_47 dX10_title_16 (show K (r) = 9 from hM 0 (by decide)) (by omega) (Or.inl rfl) (fun m16 hm16 => ?_)
    have fm16 : ∀ i, i ≠ r → m16 i = M i := fun i h => by rw [hm16]; exact mset_ne h
    have gm16 : ∀ i j, j ≠ 6 → m16 i j = M i j := fun i j h => by rw [hm16]; exact mset_nj h
    have vm16 := (congrFun (congrFun hm16 (r)) 6).trans mset_eq
    have hRm : RS S (m16 (r + 1)) := by rw [fm16 _ (by omega)]; exact hR
    have ec : m16 r 6 = (if 0 ≤ k ∧ k ≤ 6 then 0 else 1) := by first | exact vm16 | exact vm16.trans (by (repeat' split) <;> omega)
    refine J_aload_n hX dX10_title_19 rfl ?_
    refine J_geti hX fi_RX10_47 dX10_title_20 (show K (r) = 9 from hM 0 (by decide)) (fun r20 => ?_)
    refine J_if_eq hX 28 dX10_title_23 (by omega) (by decide) (fun c23 => ?_) (fun c23 => ?_)
    · have ez : (if 0 ≤ k ∧ k ≤ 6 then 0 else 1) = (0 : Int) := by rw [← ec]; first | assumption | exact vm16
      have g1 := if_0 (by decide) ez
      refine J_aload_n hX dX10_title_28 rfl ?_
      refine J_callVM hX _ dX10_title_29 cw_RX10_235 (m_X10_survey hM hRm hW) ⟨(show K (r) = 9 from hM 0 (by decide)), by decide, by decide, rfl⟩ rfl (Nat.le_of_ble_eq_true rfl) (by decide) ⟨Nat.zero_le _, Nat.zero_le _⟩ (fun r9 M29 q29 => ?_)
      obtain ⟨rfl, frM29, grM29, svM29⟩ := q29
      have hRs : RS S (M29 (r + 1)) := by rw [frM29 _ (by omega) (by omega)]; exact hRm
      refine J_aload_n hX dX10_title_32 rfl ?_
      refine J_iload_n hX dX10_title_33 rfl ?_
      refine J_callVI hX _ dX10_title_34 cw_RX10_244 (m_X10_titleOf hM hRs hW (by omega) svM29) ⟨(show K (r) = 9 from hM 0 (by decide)), by decide, by decide, rfl⟩ rfl (Nat.le_of_ble_eq_true rfl) (by decide) ⟨Nat.zero_le _, Nat.zero_le _⟩ (fun r34 => ?_)
      exact J_iret hX hQ dX10_title_37 ⟨rfl, by first | exact ⟨ec, Or.inl ⟨by rw [← ec]; assumption, rfl⟩, fun i hi => fm16 i (by omega), fun j _ _ => congrFun (fm16 (r + 1) (by omega)) j, fun j hj => gm16 _ j (by omega)⟩ | exact ⟨by rw [grM29 6 (by omega)]; exact ec, Or.inr ⟨ez, rfl⟩, fun i hi => by rw [frM29 i (by omega) (by omega)]; exact fm16 i (by omega), fun j _ _ => by rw [frM29 _ (by omega) (by omega), fm16 _ (by omega)], fun j hj => by rw [grM29 j (by omega)]; exact gm16 _ j (by omega)⟩⟩ (Nat.zero_le _) (Nat.zero_le _)
    · refine J_iconst hX dX10_title_26 ?_
      exact J_iret hX hQ dX10_title_27 ⟨rfl, by first | exact ⟨ec, Or.inl ⟨by rw [← ec]; assumption, rfl⟩, fun i hi => fm16 i (by omega), fun j _ _ => congrFun (fm16 (r + 1) (by omega)) j, fun j hj => gm16 _ j (by omega)⟩ | exact ⟨by rw [grM29 6 (by omega)]; exact ec, Or.inr ⟨ez, rfl⟩, fun i hi => by rw [frM29 i (by omega) (by omega)]; exact fm16 i (by omega), fun j _ _ => by rw [frM29 _ (by omega) (by omega), fm16 _ (by omega)], fun j hj => by rw [grM29 j (by omega)]; exact gm16 _ j (by omega)⟩⟩ (Nat.zero_le _) (Nat.zero_le _)
  · refine J_iconst hX dX10_title_11 ?_
    refine J_goto hX 16 dX10_title_12 (by decide) ?_
    refine J_putA hX fw_RX10_47 dX10_title_16 (show K (r) = 9 from hM 0 (by decide)) (by omega) (Or.inl rfl) (fun m16 hm16 => ?_)
    have fm16 : ∀ i, i ≠ r → m16 i = M i := fun i h => by rw [hm16]; exact mset_ne h
    have gm16 : ∀ i j, j ≠ 6 → m16 i j = M i j := fun i j h => by rw [hm16]; exact mset_nj h
    have vm16 := (congrFun (congrFun hm16 (r)) 6).trans mset_eq
    have hRm : RS S (m16 (r + 1)) := by rw [fm16 _ (by omega)]; exact hR
    have ec : m16 r 6 = (if 0 ≤ k ∧ k ≤ 6 then 0 else 1) := by first | exact vm16 | exact vm16.trans (by (repeat' split) <;> omega)
    refine J_aload_n hX dX10_title_19 rfl ?_
    refine J_geti hX fi_RX10_47 dX10_title_20 (show K (r) = 9 from hM 0 (by decide)) (fun r20 => ?_)
    refine J_if_eq hX 28 dX10_title_23 (by omega) (by decide) (fun c23 => ?_) (fun c23 => ?_)
    · have ez : (if 0 ≤ k ∧ k ≤ 6 then 0 else 1) = (0 : Int) := by rw [← ec]; first | assumption | exact vm16
      have g1 := if_0 (by decide) ez
      refine J_aload_n hX dX10_title_28 rfl ?_
      refine J_callVM hX _ dX10_title_29 cw_RX10_235 (m_X10_survey hM hRm hW) ⟨(show K (r) = 9 from hM 0 (by decide)), by decide, by decide, rfl⟩ rfl (Nat.le_of_ble_eq_true rfl) (by decide) ⟨Nat.zero_le _, Nat.zero_le _⟩ (fun r9 M29 q29 => ?_)
      obtain ⟨rfl, frM29, grM29, svM29⟩ := q29
      have hRs : RS S (M29 (r + 1)) := by rw [frM29 _ (by omega) (by omega)]; exact hRm
      refine J_aload_n hX dX10_title_32 rfl ?_
      refine J_iload_n hX dX10_title_33 rfl ?_
      refine J_callVI hX _ dX10_title_34 cw_RX10_244 (m_X10_titleOf hM hRs hW (by omega) svM29) ⟨(show K (r) = 9 from hM 0 (by decide)), by decide, by decide, rfl⟩ rfl (Nat.le_of_ble_eq_true rfl) (by decide) ⟨Nat.zero_le _, Nat.zero_le _⟩ (fun r34 => ?_)
      exact J_iret hX hQ dX10_title_37 ⟨rfl, by first | exact ⟨ec, Or.inl ⟨by rw [← ec]; assumption, rfl⟩, fun i hi => fm16 i (by omega), fun j _ _ => congrFun (fm16 (r + 1) (by omega)) j, fun j hj => gm16 _ j (by omega)⟩ | exact ⟨by rw [grM29 6 (by omega)]; exact ec, Or.inr ⟨ez, rfl⟩, fun i hi => by rw [frM29 i (by omega) (by omega)]; exact fm16 i (by omega), fun j _ _ => by rw [frM29 _ (by omega) (by omega), fm16 _ (by omega)], fun j hj => by rw [grM29 j (by omega)]; exact gm16 _ j (by omega)⟩⟩ (Nat.zero_le _) (Nat.zero_le _)
    · refine J_iconst hX dX10_title_26 ?_
      exact J_iret hX hQ dX10_title_27 ⟨rfl, by first | exact ⟨ec, Or.inl ⟨by rw [← ec]; assumption, rfl⟩, fun i hi => fm16 i (by omega), fun j _ _ => congrFun (fm16 (r + 1) (by omega)) j, fun j hj => gm16 _ j (by omega)⟩ | exact ⟨by rw [grM29 6 (by omega)]; exact ec, Or.inr ⟨ez, rfl⟩, fun i hi => by rw [frM29 i (by omega) (by omega)]; exact fm16 i (by omega), fun j _ _ => by rw [frM29 _ (by omega) (by omega), fm16 _ (by omega)], fun j hj => by rw [grM29 j (by omega)]; exact gm16 _ j (by omega)⟩⟩ (Nat.zero_le _) (Nat.zero_le _)
-- X10_whole
set_option maxHeartbeats 4000000 in
set_option maxRecDepth 100000 in
theorem m_X10_whole {E : EE} {K : Nat → Nat} {M : MM} {r : Nat} {T : Int} {S : MM} {k : Int} (hM : ModelK K r) (hR : RS S (M (r + 1))) (hW : WFS T S) (hk : i32 k) : CnM E 7 yX10_whole cX10_whole 2 (Option.some FieldType.int) [.ref r, vI k] K M (fun r9 M2 => VlM M r (if 0 ≤ k ∧ k ≤ 15 then 0 else 1) (wvl S k) r9 M2) := by
  obtain ⟨⟨rs0, rs1, rs2, rs3, rs4, rs5, rs6, rs7, rs8, rs9, rs10, rs13⟩, rst, rsn, rsc⟩ := id hR
  have hs9 := hW.2.1
  unfold WFSs at hs9
  refine Cn_of RX10 (plainFor_of_name (by decide)) rfl (Nat.le_of_ble_eq_true rfl) (fun X hX hQ => ?_)
  refine J_aload_n hX dX10_whole_0 rfl ?_
  refine J_iload_n hX dX10_whole_1 rfl ?_
  refine J_iconst hX dX10_whole_2 ?_
  refine J_bipush hX dX10_whole_3 rfl ?_
  refine J_callSB hX _ dX10_whole_5 cw_RX10_58 (m_X10_in (by omega) (by omega) (by omega)) rfl (Nat.le_of_ble_eq_true rfl) (by decide) ⟨Nat.zero_le _, Nat.zero_le _⟩ ?_
  refine J_ifb_eq hX 15 dX10_whole_8 (by decide) (fun c8 => ?_) (fun c8 => ?_)
  · refine J_iconst hX dX10_whole_15 ?_
    refine J_putA hX fw_RX10_47 dX10_whole_16 (show K (r) = 9 from hM 0 (by decide)) (by omega) (Or.inl rfl) (fun m16 hm16 => ?_)
    have fm16 : ∀ i, i ≠ r → m16 i = M i := fun i h => by rw [hm16]; exact mset_ne h
    have gm16 : ∀ i j, j ≠ 6 → m16 i j = M i j := fun i j h => by rw [hm16]; exact mset_nj h
    have vm16 := (congrFun (congrFun hm16 (r)) 6).trans mset_eq
    have hRm : RS S (m16 (r + 1)) := by rw [fm16 _ (by omega)]; exact hR
    have ec : m16 r 6 = (if 0 ≤ k ∧ k ≤ 15 then 0 else 1) := by first | exact vm16 | exact vm16.trans (by (repeat' split) <;> omega)
    refine J_aload_n hX dX10_whole_19 rfl ?_
    refine J_geti hX fi_RX10_47 dX10_whole_20 (show K (r) = 9 from hM 0 (by decide)) (fun r20 => ?_)
    refine J_if_eq hX 28 dX10_whole_23 (by omega) (by decide) (fun c23 => ?_) (fun c23 => ?_)
    · have ez : (if 0 ≤ k ∧ k ≤ 15 then 0 else 1) = (0 : Int) := by rw [← ec]; first | assumption | exact vm16
      have g1 := if_0 (by decide) ez
      refine J_aload_n hX dX10_whole_28 rfl ?_
      refine J_callVM hX _ dX10_whole_29 cw_RX10_235 (m_X10_survey hM hRm hW) ⟨(show K (r) = 9 from hM 0 (by decide)), by decide, by decide, rfl⟩ rfl (Nat.le_of_ble_eq_true rfl) (by decide) ⟨Nat.zero_le _, Nat.zero_le _⟩ (fun r9 M29 q29 => ?_)
      obtain ⟨rfl, frM29, grM29, svM29⟩ := q29
      have hRs : RS S (M29 (r + 1)) := by rw [frM29 _ (by omega) (by omega)]; exact hRm
      refine J_aload_n hX dX10_whole_32 rfl ?_
      refine J_iload_n hX dX10_whole_33 rfl ?_
      refine J_callVI hX _ dX10_whole_34 cw_RX10_247 (m_X10_wholeOf hM hRs hW (by omega) svM29) ⟨(show K (r) = 9 from hM 0 (by decide)), by decide, by decide, rfl⟩ rfl (Nat.le_of_ble_eq_true rfl) (by decide) ⟨Nat.zero_le _, Nat.zero_le _⟩ (fun r34 => ?_)
      exact J_iret hX hQ dX10_whole_37 ⟨rfl, by first | exact ⟨ec, Or.inl ⟨by rw [← ec]; assumption, rfl⟩, fun i hi => fm16 i (by omega), fun j _ _ => congrFun (fm16 (r + 1) (by omega)) j, fun j hj => gm16 _ j (by omega)⟩ | exact ⟨by rw [grM29 6 (by omega)]; exact ec, Or.inr ⟨ez, rfl⟩, fun i hi => by rw [frM29 i (by omega) (by omega)]; exact fm16 i (by omega), fun j _ _ => by rw [frM29 _ (by omega) (by omega), fm16 _ (by omega)], fun j hj => by rw [grM29 j (by omega)]; exact gm16 _ j (by omega)⟩⟩ (Nat.zero_le _) (Nat.zero_le _)
    · refine J_iconst hX dX10_whole_26 ?_
      exact J_iret hX hQ dX10_whole_27 ⟨rfl, by first | exact ⟨ec, Or.inl ⟨by rw [← ec]; assumption, rfl⟩, fun i hi => fm16 i (by omega), fun j _ _ => congrFun (fm16 (r + 1) (by omega)) j, fun j hj => gm16 _ j (by omega)⟩ | exact ⟨by rw [grM29 6 (by omega)]; exact ec, Or.inr ⟨ez, rfl⟩, fun i hi => by rw [frM29 i (by omega) (by omega)]; exact fm16 i (by omega), fun j _ _ => by rw [frM29 _ (by omega) (by omega), fm16 _ (by omega)], fun j hj => by rw [grM29 j (by omega)]; exact gm16 _ j (by omega)⟩⟩ (Nat.zero_le _) (Nat.zero_le _)
  · refine J_iconst hX dX10_whole_11 ?_
    refine J_goto hX 16 dX10_whole_12 (by decide) ?_
    refine J_putA hX fw_RX10_47 dX10_whole_16 (show K (r) = 9 from hM 0 (by decide)) (by omega) (Or.inl rfl) (fun m16 hm16 => ?_)
    have fm16 : ∀ i, i ≠ r → m16 i = M i := fun i h => by rw [hm16]; exact mset_ne h
    have gm16 : ∀ i j, j ≠ 6 → m16 i j = M i j := fun i j h => by rw [hm16]; exact mset_nj h
    have vm16 := (congrFun (congrFun hm16 (r)) 6).trans mset_eq
    have hRm : RS S (m16 (r + 1)) := by rw [fm16 _ (by omega)]; exact hR
    have ec : m16 r 6 = (if 0 ≤ k ∧ k ≤ 15 then 0 else 1) := by first | exact vm16 | exact vm16.trans (by (repeat' split) <;> omega)
    refine J_aload_n hX dX10_whole_19 rfl ?_
    refine J_geti hX fi_RX10_47 dX10_whole_20 (show K (r) = 9 from hM 0 (by decide)) (fun r20 => ?_)
    refine J_if_eq hX 28 dX10_whole_23 (by omega) (by decide) (fun c23 => ?_) (fun c23 => ?_)
    · have ez : (if 0 ≤ k ∧ k ≤ 15 then 0 else 1) = (0 : Int) := by rw [← ec]; first | assumption | exact vm16
      have g1 := if_0 (by decide) ez
      refine J_aload_n hX dX10_whole_28 rfl ?_
      refine J_callVM hX _ dX10_whole_29 cw_RX10_235 (m_X10_survey hM hRm hW) ⟨(show K (r) = 9 from hM 0 (by decide)), by decide, by decide, rfl⟩ rfl (Nat.le_of_ble_eq_true rfl) (by decide) ⟨Nat.zero_le _, Nat.zero_le _⟩ (fun r9 M29 q29 => ?_)
      obtain ⟨rfl, frM29, grM29, svM29⟩ := q29
      have hRs : RS S (M29 (r + 1)) := by rw [frM29 _ (by omega) (by omega)]; exact hRm
      refine J_aload_n hX dX10_whole_32 rfl ?_
      refine J_iload_n hX dX10_whole_33 rfl ?_
      refine J_callVI hX _ dX10_whole_34 cw_RX10_247 (m_X10_wholeOf hM hRs hW (by omega) svM29) ⟨(show K (r) = 9 from hM 0 (by decide)), by decide, by decide, rfl⟩ rfl (Nat.le_of_ble_eq_true rfl) (by decide) ⟨Nat.zero_le _, Nat.zero_le _⟩ (fun r34 => ?_)
      exact J_iret hX hQ dX10_whole_37 ⟨rfl, by first | exact ⟨ec, Or.inl ⟨by rw [← ec]; assumption, rfl⟩, fun i hi => fm16 i (by omega), fun j _ _ => congrFun (fm16 (r + 1) (by omega)) j, fun j hj => gm16 _ j (by omega)⟩ | exact ⟨by rw [grM29 6 (by omega)]; exact ec, Or.inr ⟨ez, rfl⟩, fun i hi => by rw [frM29 i (by omega) (by omega)]; exact fm16 i (by omega), fun j _ _ => by rw [frM29 _ (by omega) (by omega), fm16 _ (by omega)], fun j hj => by rw [grM29 j (by omega)]; exact gm16 _ j (by omega)⟩⟩ (Nat.zero_le _) (Nat.zero_le _)
    · refine J_iconst hX dX10_whole_26 ?_
      exact J_iret hX hQ dX10_whole_27 ⟨rfl, by first | exact ⟨ec, Or.inl ⟨by rw [← ec]; assumption, rfl⟩, fun i hi => fm16 i (by omega), fun j _ _ => congrFun (fm16 (r + 1) (by omega)) j, fun j hj => gm16 _ j (by omega)⟩ | exact ⟨by rw [grM29 6 (by omega)]; exact ec, Or.inr ⟨ez, rfl⟩, fun i hi => by rw [frM29 i (by omega) (by omega)]; exact fm16 i (by omega), fun j _ _ => by rw [frM29 _ (by omega) (by omega), fm16 _ (by omega)], fun j hj => by rw [grM29 j (by omega)]; exact gm16 _ j (by omega)⟩⟩ (Nat.zero_le _) (Nat.zero_le _)
-- X10_shade
set_option maxHeartbeats 4000000 in
set_option maxRecDepth 100000 in
theorem m_X10_shade {E : EE} {K : Nat → Nat} {M : MM} {r : Nat} {T : Int} {S : MM} {l c y : Int} (hM : ModelK K r) (hR : RS S (M (r + 1))) (hW : WFS T S) (hl : l = 0 ∨ l = 1) (hc : i32 c) (hy : i32 y) : CnM E 7 yX10_shade cX10_shade 4 (Option.some FieldType.int) [.ref r, vI l, vI c, vI y] K M (fun r9 M2 => VlM M r (if (0 ≤ c ∧ c ≤ S 0 3 - 1) ∧ (0 ≤ y ∧ y ≤ S 0 4 - 1) then 0 else 1) (shd S l c y) r9 M2) := by
  obtain ⟨⟨rs0, rs1, rs2, rs3, rs4, rs5, rs6, rs7, rs8, rs9, rs10, rs13⟩, rst, rsn, rsc⟩ := id hR
  have hs9 := hW.2.1
  unfold WFSs at hs9
  refine Cn_of RX10 (plainFor_of_name (by decide)) rfl (Nat.le_of_ble_eq_true rfl) (fun X hX hQ => ?_)
  refine J_aload_n hX dX10_shade_0 rfl ?_
  refine J_aload_n hX dX10_shade_1 rfl ?_
  refine J_iload_n hX dX10_shade_2 rfl ?_
  refine J_iload_n hX dX10_shade_3 rfl ?_
  refine J_callVB hX _ dX10_shade_4 cw_RX10_258 (m_X10_isCell hM hR hW (by omega) (by omega)) ⟨(show K (r) = 9 from hM 0 (by decide)), by decide, by decide, rfl⟩ rfl (Nat.le_of_ble_eq_true rfl) (by decide) ⟨Nat.zero_le _, Nat.zero_le _⟩ ?_
  refine J_ifb_eq hX 14 dX10_shade_7 (by decide) (fun c7 => ?_) (fun c7 => ?_)
  · refine J_iconst hX dX10_shade_14 ?_
    refine J_putA hX fw_RX10_47 dX10_shade_15 (show K (r) = 9 from hM 0 (by decide)) (by omega) (Or.inl rfl) (fun m15 hm15 => ?_)
    have fm15 : ∀ i, i ≠ r → m15 i = M i := fun i h => by rw [hm15]; exact mset_ne h
    have gm15 : ∀ i j, j ≠ 6 → m15 i j = M i j := fun i j h => by rw [hm15]; exact mset_nj h
    have vm15 := (congrFun (congrFun hm15 (r)) 6).trans mset_eq
    have hRm : RS S (m15 (r + 1)) := by rw [fm15 _ (by omega)]; exact hR
    have ec : m15 r 6 = (if (0 ≤ c ∧ c ≤ S 0 3 - 1) ∧ (0 ≤ y ∧ y ≤ S 0 4 - 1) then 0 else 1) := by first | exact vm15 | exact vm15.trans (by (repeat' split) <;> omega)
    refine J_aload_n hX dX10_shade_18 rfl ?_
    refine J_geti hX fi_RX10_47 dX10_shade_19 (show K (r) = 9 from hM 0 (by decide)) (fun r19 => ?_)
    refine J_if_eq hX 27 dX10_shade_22 (by omega) (by decide) (fun c22 => ?_) (fun c22 => ?_)
    · have ez : (if (0 ≤ c ∧ c ≤ S 0 3 - 1) ∧ (0 ≤ y ∧ y ≤ S 0 4 - 1) then 0 else 1) = (0 : Int) := by rw [← ec]; first | assumption | exact vm15
      have g1 := if_0 (by decide) ez
      refine J_aload_n hX dX10_shade_27 rfl ?_
      refine J_callVM hX _ dX10_shade_28 cw_RX10_235 (m_X10_survey hM hRm hW) ⟨(show K (r) = 9 from hM 0 (by decide)), by decide, by decide, rfl⟩ rfl (Nat.le_of_ble_eq_true rfl) (by decide) ⟨Nat.zero_le _, Nat.zero_le _⟩ (fun r9 M28 q28 => ?_)
      obtain ⟨rfl, frM28, grM28, svM28⟩ := q28
      have hRs : RS S (M28 (r + 1)) := by rw [frM28 _ (by omega) (by omega)]; exact hRm
      refine J_aload_n hX dX10_shade_31 rfl ?_
      refine J_iload_n hX dX10_shade_32 rfl ?_
      refine J_iload_n hX dX10_shade_33 rfl ?_
      refine J_iload_n hX dX10_shade_34 rfl ?_
      refine J_callVI hX _ dX10_shade_35 cw_RX10_261 (m_X10_shadeOf hM hRs hW svM28 hl (by omega) (by omega)) ⟨(show K (r) = 9 from hM 0 (by decide)), by decide, by decide, rfl⟩ rfl (Nat.le_of_ble_eq_true rfl) (by decide) ⟨Nat.zero_le _, Nat.zero_le _⟩ (fun r35 => ?_)
      exact J_iret hX hQ dX10_shade_38 ⟨rfl, by first | exact ⟨ec, Or.inl ⟨by rw [← ec]; assumption, rfl⟩, fun i hi => fm15 i (by omega), fun j _ _ => congrFun (fm15 (r + 1) (by omega)) j, fun j hj => gm15 _ j (by omega)⟩ | exact ⟨by rw [grM28 6 (by omega)]; exact ec, Or.inr ⟨ez, rfl⟩, fun i hi => by rw [frM28 i (by omega) (by omega)]; exact fm15 i (by omega), fun j _ _ => by rw [frM28 _ (by omega) (by omega), fm15 _ (by omega)], fun j hj => by rw [grM28 j (by omega)]; exact gm15 _ j (by omega)⟩⟩ (Nat.zero_le _) (Nat.zero_le _)
    · refine J_iconst hX dX10_shade_25 ?_
      exact J_iret hX hQ dX10_shade_26 ⟨rfl, by first | exact ⟨ec, Or.inl ⟨by rw [← ec]; assumption, rfl⟩, fun i hi => fm15 i (by omega), fun j _ _ => congrFun (fm15 (r + 1) (by omega)) j, fun j hj => gm15 _ j (by omega)⟩ | exact ⟨by rw [grM28 6 (by omega)]; exact ec, Or.inr ⟨ez, rfl⟩, fun i hi => by rw [frM28 i (by omega) (by omega)]; exact fm15 i (by omega), fun j _ _ => by rw [frM28 _ (by omega) (by omega), fm15 _ (by omega)], fun j hj => by rw [grM28 j (by omega)]; exact gm15 _ j (by omega)⟩⟩ (Nat.zero_le _) (Nat.zero_le _)
  · refine J_iconst hX dX10_shade_10 ?_
    refine J_goto hX 15 dX10_shade_11 (by decide) ?_
    refine J_putA hX fw_RX10_47 dX10_shade_15 (show K (r) = 9 from hM 0 (by decide)) (by omega) (Or.inl rfl) (fun m15 hm15 => ?_)
    have fm15 : ∀ i, i ≠ r → m15 i = M i := fun i h => by rw [hm15]; exact mset_ne h
    have gm15 : ∀ i j, j ≠ 6 → m15 i j = M i j := fun i j h => by rw [hm15]; exact mset_nj h
    have vm15 := (congrFun (congrFun hm15 (r)) 6).trans mset_eq
    have hRm : RS S (m15 (r + 1)) := by rw [fm15 _ (by omega)]; exact hR
    have ec : m15 r 6 = (if (0 ≤ c ∧ c ≤ S 0 3 - 1) ∧ (0 ≤ y ∧ y ≤ S 0 4 - 1) then 0 else 1) := by first | exact vm15 | exact vm15.trans (by (repeat' split) <;> omega)
    refine J_aload_n hX dX10_shade_18 rfl ?_
    refine J_geti hX fi_RX10_47 dX10_shade_19 (show K (r) = 9 from hM 0 (by decide)) (fun r19 => ?_)
    refine J_if_eq hX 27 dX10_shade_22 (by omega) (by decide) (fun c22 => ?_) (fun c22 => ?_)
    · have ez : (if (0 ≤ c ∧ c ≤ S 0 3 - 1) ∧ (0 ≤ y ∧ y ≤ S 0 4 - 1) then 0 else 1) = (0 : Int) := by rw [← ec]; first | assumption | exact vm15
      have g1 := if_0 (by decide) ez
      refine J_aload_n hX dX10_shade_27 rfl ?_
      refine J_callVM hX _ dX10_shade_28 cw_RX10_235 (m_X10_survey hM hRm hW) ⟨(show K (r) = 9 from hM 0 (by decide)), by decide, by decide, rfl⟩ rfl (Nat.le_of_ble_eq_true rfl) (by decide) ⟨Nat.zero_le _, Nat.zero_le _⟩ (fun r9 M28 q28 => ?_)
      obtain ⟨rfl, frM28, grM28, svM28⟩ := q28
      have hRs : RS S (M28 (r + 1)) := by rw [frM28 _ (by omega) (by omega)]; exact hRm
      refine J_aload_n hX dX10_shade_31 rfl ?_
      refine J_iload_n hX dX10_shade_32 rfl ?_
      refine J_iload_n hX dX10_shade_33 rfl ?_
      refine J_iload_n hX dX10_shade_34 rfl ?_
      refine J_callVI hX _ dX10_shade_35 cw_RX10_261 (m_X10_shadeOf hM hRs hW svM28 hl (by omega) (by omega)) ⟨(show K (r) = 9 from hM 0 (by decide)), by decide, by decide, rfl⟩ rfl (Nat.le_of_ble_eq_true rfl) (by decide) ⟨Nat.zero_le _, Nat.zero_le _⟩ (fun r35 => ?_)
      exact J_iret hX hQ dX10_shade_38 ⟨rfl, by first | exact ⟨ec, Or.inl ⟨by rw [← ec]; assumption, rfl⟩, fun i hi => fm15 i (by omega), fun j _ _ => congrFun (fm15 (r + 1) (by omega)) j, fun j hj => gm15 _ j (by omega)⟩ | exact ⟨by rw [grM28 6 (by omega)]; exact ec, Or.inr ⟨ez, rfl⟩, fun i hi => by rw [frM28 i (by omega) (by omega)]; exact fm15 i (by omega), fun j _ _ => by rw [frM28 _ (by omega) (by omega), fm15 _ (by omega)], fun j hj => by rw [grM28 j (by omega)]; exact gm15 _ j (by omega)⟩⟩ (Nat.zero_le _) (Nat.zero_le _)
    · refine J_iconst hX dX10_shade_25 ?_
      exact J_iret hX hQ dX10_shade_26 ⟨rfl, by first | exact ⟨ec, Or.inl ⟨by rw [← ec]; assumption, rfl⟩, fun i hi => fm15 i (by omega), fun j _ _ => congrFun (fm15 (r + 1) (by omega)) j, fun j hj => gm15 _ j (by omega)⟩ | exact ⟨by rw [grM28 6 (by omega)]; exact ec, Or.inr ⟨ez, rfl⟩, fun i hi => by rw [frM28 i (by omega) (by omega)]; exact fm15 i (by omega), fun j _ _ => by rw [frM28 _ (by omega) (by omega), fm15 _ (by omega)], fun j hj => by rw [grM28 j (by omega)]; exact gm15 _ j (by omega)⟩⟩ (Nat.zero_le _) (Nat.zero_le _)
-- X10_shown
set_option maxHeartbeats 4000000 in
set_option maxRecDepth 100000 in
theorem m_X10_shown {E : EE} {K : Nat → Nat} {M : MM} {r : Nat} {T : Int} {S : MM} {l c y : Int} (hM : ModelK K r) (hR : RS S (M (r + 1))) (hW : WFS T S) (hl : l = 0 ∨ l = 1) (hc : i32 c) (hy : i32 y) : CnM E 7 yX10_shown cX10_shown 4 (Option.some FieldType.int) [.ref r, vI l, vI c, vI y] K M (fun r9 M2 => VlM M r (if (0 ≤ c ∧ c ≤ S 0 3 - 1) ∧ (0 ≤ y ∧ y ≤ S 0 4 - 1) then 0 else 1) (front S l c y) r9 M2) := by
  obtain ⟨⟨rs0, rs1, rs2, rs3, rs4, rs5, rs6, rs7, rs8, rs9, rs10, rs13⟩, rst, rsn, rsc⟩ := id hR
  have hs9 := hW.2.1
  unfold WFSs at hs9
  refine Cn_of RX10 (plainFor_of_name (by decide)) rfl (Nat.le_of_ble_eq_true rfl) (fun X hX hQ => ?_)
  refine J_aload_n hX dX10_shown_0 rfl ?_
  refine J_aload_n hX dX10_shown_1 rfl ?_
  refine J_iload_n hX dX10_shown_2 rfl ?_
  refine J_iload_n hX dX10_shown_3 rfl ?_
  refine J_callVB hX _ dX10_shown_4 cw_RX10_258 (m_X10_isCell hM hR hW (by omega) (by omega)) ⟨(show K (r) = 9 from hM 0 (by decide)), by decide, by decide, rfl⟩ rfl (Nat.le_of_ble_eq_true rfl) (by decide) ⟨Nat.zero_le _, Nat.zero_le _⟩ ?_
  refine J_ifb_eq hX 14 dX10_shown_7 (by decide) (fun c7 => ?_) (fun c7 => ?_)
  · refine J_iconst hX dX10_shown_14 ?_
    refine J_putA hX fw_RX10_47 dX10_shown_15 (show K (r) = 9 from hM 0 (by decide)) (by omega) (Or.inl rfl) (fun m15 hm15 => ?_)
    have fm15 : ∀ i, i ≠ r → m15 i = M i := fun i h => by rw [hm15]; exact mset_ne h
    have gm15 : ∀ i j, j ≠ 6 → m15 i j = M i j := fun i j h => by rw [hm15]; exact mset_nj h
    have vm15 := (congrFun (congrFun hm15 (r)) 6).trans mset_eq
    have hRm : RS S (m15 (r + 1)) := by rw [fm15 _ (by omega)]; exact hR
    have ec : m15 r 6 = (if (0 ≤ c ∧ c ≤ S 0 3 - 1) ∧ (0 ≤ y ∧ y ≤ S 0 4 - 1) then 0 else 1) := by first | exact vm15 | exact vm15.trans (by (repeat' split) <;> omega)
    refine J_aload_n hX dX10_shown_18 rfl ?_
    refine J_geti hX fi_RX10_47 dX10_shown_19 (show K (r) = 9 from hM 0 (by decide)) (fun r19 => ?_)
    refine J_if_eq hX 27 dX10_shown_22 (by omega) (by decide) (fun c22 => ?_) (fun c22 => ?_)
    · have ez : (if (0 ≤ c ∧ c ≤ S 0 3 - 1) ∧ (0 ≤ y ∧ y ≤ S 0 4 - 1) then 0 else 1) = (0 : Int) := by rw [← ec]; first | assumption | exact vm15
      have g1 := if_0 (by decide) ez
      refine J_aload_n hX dX10_shown_27 rfl ?_
      refine J_callVM hX _ dX10_shown_28 cw_RX10_235 (m_X10_survey hM hRm hW) ⟨(show K (r) = 9 from hM 0 (by decide)), by decide, by decide, rfl⟩ rfl (Nat.le_of_ble_eq_true rfl) (by decide) ⟨Nat.zero_le _, Nat.zero_le _⟩ (fun r9 M28 q28 => ?_)
      obtain ⟨rfl, frM28, grM28, svM28⟩ := q28
      have hRs : RS S (M28 (r + 1)) := by rw [frM28 _ (by omega) (by omega)]; exact hRm
      refine J_aload_n hX dX10_shown_31 rfl ?_
      refine J_iload_n hX dX10_shown_32 rfl ?_
      refine J_iload_n hX dX10_shown_33 rfl ?_
      refine J_iload_n hX dX10_shown_34 rfl ?_
      refine J_callVI hX _ dX10_shown_35 cw_RX10_250 (m_X10_top hM hRs hW svM28.1 hl (by omega) (by omega)) ⟨(show K (r) = 9 from hM 0 (by decide)), by decide, by decide, rfl⟩ rfl (Nat.le_of_ble_eq_true rfl) (by decide) ⟨Nat.zero_le _, Nat.zero_le _⟩ (fun r35 => ?_)
      exact J_iret hX hQ dX10_shown_38 ⟨rfl, by first | exact ⟨ec, Or.inl ⟨by rw [← ec]; assumption, rfl⟩, fun i hi => fm15 i (by omega), fun j _ _ => congrFun (fm15 (r + 1) (by omega)) j, fun j hj => gm15 _ j (by omega)⟩ | exact ⟨by rw [grM28 6 (by omega)]; exact ec, Or.inr ⟨ez, rfl⟩, fun i hi => by rw [frM28 i (by omega) (by omega)]; exact fm15 i (by omega), fun j _ _ => by rw [frM28 _ (by omega) (by omega), fm15 _ (by omega)], fun j hj => by rw [grM28 j (by omega)]; exact gm15 _ j (by omega)⟩⟩ (Nat.zero_le _) (Nat.zero_le _)
    · refine J_iconst hX dX10_shown_25 ?_
      exact J_iret hX hQ dX10_shown_26 ⟨rfl, by first | exact ⟨ec, Or.inl ⟨by rw [← ec]; assumption, rfl⟩, fun i hi => fm15 i (by omega), fun j _ _ => congrFun (fm15 (r + 1) (by omega)) j, fun j hj => gm15 _ j (by omega)⟩ | exact ⟨by rw [grM28 6 (by omega)]; exact ec, Or.inr ⟨ez, rfl⟩, fun i hi => by rw [frM28 i (by omega) (by omega)]; exact fm15 i (by omega), fun j _ _ => by rw [frM28 _ (by omega) (by omega), fm15 _ (by omega)], fun j hj => by rw [grM28 j (by omega)]; exact gm15 _ j (by omega)⟩⟩ (Nat.zero_le _) (Nat.zero_le _)
  · refine J_iconst hX dX10_shown_10 ?_
    refine J_goto hX 15 dX10_shown_11 (by decide) ?_
    refine J_putA hX fw_RX10_47 dX10_shown_15 (show K (r) = 9 from hM 0 (by decide)) (by omega) (Or.inl rfl) (fun m15 hm15 => ?_)
    have fm15 : ∀ i, i ≠ r → m15 i = M i := fun i h => by rw [hm15]; exact mset_ne h
    have gm15 : ∀ i j, j ≠ 6 → m15 i j = M i j := fun i j h => by rw [hm15]; exact mset_nj h
    have vm15 := (congrFun (congrFun hm15 (r)) 6).trans mset_eq
    have hRm : RS S (m15 (r + 1)) := by rw [fm15 _ (by omega)]; exact hR
    have ec : m15 r 6 = (if (0 ≤ c ∧ c ≤ S 0 3 - 1) ∧ (0 ≤ y ∧ y ≤ S 0 4 - 1) then 0 else 1) := by first | exact vm15 | exact vm15.trans (by (repeat' split) <;> omega)
    refine J_aload_n hX dX10_shown_18 rfl ?_
    refine J_geti hX fi_RX10_47 dX10_shown_19 (show K (r) = 9 from hM 0 (by decide)) (fun r19 => ?_)
    refine J_if_eq hX 27 dX10_shown_22 (by omega) (by decide) (fun c22 => ?_) (fun c22 => ?_)
    · have ez : (if (0 ≤ c ∧ c ≤ S 0 3 - 1) ∧ (0 ≤ y ∧ y ≤ S 0 4 - 1) then 0 else 1) = (0 : Int) := by rw [← ec]; first | assumption | exact vm15
      have g1 := if_0 (by decide) ez
      refine J_aload_n hX dX10_shown_27 rfl ?_
      refine J_callVM hX _ dX10_shown_28 cw_RX10_235 (m_X10_survey hM hRm hW) ⟨(show K (r) = 9 from hM 0 (by decide)), by decide, by decide, rfl⟩ rfl (Nat.le_of_ble_eq_true rfl) (by decide) ⟨Nat.zero_le _, Nat.zero_le _⟩ (fun r9 M28 q28 => ?_)
      obtain ⟨rfl, frM28, grM28, svM28⟩ := q28
      have hRs : RS S (M28 (r + 1)) := by rw [frM28 _ (by omega) (by omega)]; exact hRm
      refine J_aload_n hX dX10_shown_31 rfl ?_
      refine J_iload_n hX dX10_shown_32 rfl ?_
      refine J_iload_n hX dX10_shown_33 rfl ?_
      refine J_iload_n hX dX10_shown_34 rfl ?_
      refine J_callVI hX _ dX10_shown_35 cw_RX10_250 (m_X10_top hM hRs hW svM28.1 hl (by omega) (by omega)) ⟨(show K (r) = 9 from hM 0 (by decide)), by decide, by decide, rfl⟩ rfl (Nat.le_of_ble_eq_true rfl) (by decide) ⟨Nat.zero_le _, Nat.zero_le _⟩ (fun r35 => ?_)
      exact J_iret hX hQ dX10_shown_38 ⟨rfl, by first | exact ⟨ec, Or.inl ⟨by rw [← ec]; assumption, rfl⟩, fun i hi => fm15 i (by omega), fun j _ _ => congrFun (fm15 (r + 1) (by omega)) j, fun j hj => gm15 _ j (by omega)⟩ | exact ⟨by rw [grM28 6 (by omega)]; exact ec, Or.inr ⟨ez, rfl⟩, fun i hi => by rw [frM28 i (by omega) (by omega)]; exact fm15 i (by omega), fun j _ _ => by rw [frM28 _ (by omega) (by omega), fm15 _ (by omega)], fun j hj => by rw [grM28 j (by omega)]; exact gm15 _ j (by omega)⟩⟩ (Nat.zero_le _) (Nat.zero_le _)
    · refine J_iconst hX dX10_shown_25 ?_
      exact J_iret hX hQ dX10_shown_26 ⟨rfl, by first | exact ⟨ec, Or.inl ⟨by rw [← ec]; assumption, rfl⟩, fun i hi => fm15 i (by omega), fun j _ _ => congrFun (fm15 (r + 1) (by omega)) j, fun j hj => gm15 _ j (by omega)⟩ | exact ⟨by rw [grM28 6 (by omega)]; exact ec, Or.inr ⟨ez, rfl⟩, fun i hi => by rw [frM28 i (by omega) (by omega)]; exact fm15 i (by omega), fun j _ _ => by rw [frM28 _ (by omega) (by omega), fm15 _ (by omega)], fun j hj => by rw [grM28 j (by omega)]; exact gm15 _ j (by omega)⟩⟩ (Nat.zero_le _) (Nat.zero_le _)
-- X10_ghost
set_option maxHeartbeats 4000000 in
set_option maxRecDepth 100000 in
theorem m_X10_ghost {E : EE} {K : Nat → Nat} {M : MM} {r : Nat} {T : Int} {S : MM} {c y : Int} (hM : ModelK K r) (hR : RS S (M (r + 1))) (hW : WFS T S) (hc : i32 c) (hy : i32 y) : CnM E 7 yX10_ghost cX10_ghost 3 (Option.some FieldType.int) [.ref r, vI c, vI y] K M (fun r9 M2 => VlM M r (if (0 ≤ c ∧ c ≤ S 0 3 - 1) ∧ (0 ≤ y ∧ y ≤ S 0 4 - 1) then 0 else 1) (ghs S c y) r9 M2) := by
  obtain ⟨⟨rs0, rs1, rs2, rs3, rs4, rs5, rs6, rs7, rs8, rs9, rs10, rs13⟩, rst, rsn, rsc⟩ := id hR
  have hs9 := hW.2.1
  unfold WFSs at hs9
  refine Cn_of RX10 (plainFor_of_name (by decide)) rfl (Nat.le_of_ble_eq_true rfl) (fun X hX hQ => ?_)
  refine J_aload_n hX dX10_ghost_0 rfl ?_
  refine J_aload_n hX dX10_ghost_1 rfl ?_
  refine J_iload_n hX dX10_ghost_2 rfl ?_
  refine J_iload_n hX dX10_ghost_3 rfl ?_
  refine J_callVB hX _ dX10_ghost_4 cw_RX10_258 (m_X10_isCell hM hR hW (by omega) (by omega)) ⟨(show K (r) = 9 from hM 0 (by decide)), by decide, by decide, rfl⟩ rfl (Nat.le_of_ble_eq_true rfl) (by decide) ⟨Nat.zero_le _, Nat.zero_le _⟩ ?_
  refine J_ifb_eq hX 14 dX10_ghost_7 (by decide) (fun c7 => ?_) (fun c7 => ?_)
  · refine J_iconst hX dX10_ghost_14 ?_
    refine J_putA hX fw_RX10_47 dX10_ghost_15 (show K (r) = 9 from hM 0 (by decide)) (by omega) (Or.inl rfl) (fun m15 hm15 => ?_)
    have fm15 : ∀ i, i ≠ r → m15 i = M i := fun i h => by rw [hm15]; exact mset_ne h
    have gm15 : ∀ i j, j ≠ 6 → m15 i j = M i j := fun i j h => by rw [hm15]; exact mset_nj h
    have vm15 := (congrFun (congrFun hm15 (r)) 6).trans mset_eq
    have hRm : RS S (m15 (r + 1)) := by rw [fm15 _ (by omega)]; exact hR
    have ec : m15 r 6 = (if (0 ≤ c ∧ c ≤ S 0 3 - 1) ∧ (0 ≤ y ∧ y ≤ S 0 4 - 1) then 0 else 1) := by first | exact vm15 | exact vm15.trans (by (repeat' split) <;> omega)
    refine J_aload_n hX dX10_ghost_18 rfl ?_
    refine J_geti hX fi_RX10_47 dX10_ghost_19 (show K (r) = 9 from hM 0 (by decide)) (fun r19 => ?_)
    refine J_if_eq hX 27 dX10_ghost_22 (by omega) (by decide) (fun c22 => ?_) (fun c22 => ?_)
    · have ez : (if (0 ≤ c ∧ c ≤ S 0 3 - 1) ∧ (0 ≤ y ∧ y ≤ S 0 4 - 1) then 0 else 1) = (0 : Int) := by rw [← ec]; first | assumption | exact vm15
      have g1 := if_0 (by decide) ez
      refine J_aload_n hX dX10_ghost_27 rfl ?_
      refine J_callVM hX _ dX10_ghost_28 cw_RX10_235 (m_X10_survey hM hRm hW) ⟨(show K (r) = 9 from hM 0 (by decide)), by decide, by decide, rfl⟩ rfl (Nat.le_of_ble_eq_true rfl) (by decide) ⟨Nat.zero_le _, Nat.zero_le _⟩ (fun r9 M28 q28 => ?_)
      obtain ⟨rfl, frM28, grM28, svM28⟩ := q28
      have hRs : RS S (M28 (r + 1)) := by rw [frM28 _ (by omega) (by omega)]; exact hRm
      refine J_aload_n hX dX10_ghost_31 rfl ?_
      refine J_iload_n hX dX10_ghost_32 rfl ?_
      refine J_iload_n hX dX10_ghost_33 rfl ?_
      refine J_callVI hX _ dX10_ghost_34 cw_RX10_264 (m_X10_ghostOf hM hRs hW svM28 (by omega) (by omega)) ⟨(show K (r) = 9 from hM 0 (by decide)), by decide, by decide, rfl⟩ rfl (Nat.le_of_ble_eq_true rfl) (by decide) ⟨Nat.zero_le _, Nat.zero_le _⟩ (fun r34 => ?_)
      exact J_iret hX hQ dX10_ghost_37 ⟨rfl, by first | exact ⟨ec, Or.inl ⟨by rw [← ec]; assumption, rfl⟩, fun i hi => fm15 i (by omega), fun j _ _ => congrFun (fm15 (r + 1) (by omega)) j, fun j hj => gm15 _ j (by omega)⟩ | exact ⟨by rw [grM28 6 (by omega)]; exact ec, Or.inr ⟨ez, rfl⟩, fun i hi => by rw [frM28 i (by omega) (by omega)]; exact fm15 i (by omega), fun j _ _ => by rw [frM28 _ (by omega) (by omega), fm15 _ (by omega)], fun j hj => by rw [grM28 j (by omega)]; exact gm15 _ j (by omega)⟩⟩ (Nat.zero_le _) (Nat.zero_le _)
    · refine J_iconst hX dX10_ghost_25 ?_
      exact J_iret hX hQ dX10_ghost_26 ⟨rfl, by first | exact ⟨ec, Or.inl ⟨by rw [← ec]; assumption, rfl⟩, fun i hi => fm15 i (by omega), fun j _ _ => congrFun (fm15 (r + 1) (by omega)) j, fun j hj => gm15 _ j (by omega)⟩ | exact ⟨by rw [grM28 6 (by omega)]; exact ec, Or.inr ⟨ez, rfl⟩, fun i hi => by rw [frM28 i (by omega) (by omega)]; exact fm15 i (by omega), fun j _ _ => by rw [frM28 _ (by omega) (by omega), fm15 _ (by omega)], fun j hj => by rw [grM28 j (by omega)]; exact gm15 _ j (by omega)⟩⟩ (Nat.zero_le _) (Nat.zero_le _)
  · refine J_iconst hX dX10_ghost_10 ?_
    refine J_goto hX 15 dX10_ghost_11 (by decide) ?_
    refine J_putA hX fw_RX10_47 dX10_ghost_15 (show K (r) = 9 from hM 0 (by decide)) (by omega) (Or.inl rfl) (fun m15 hm15 => ?_)
    have fm15 : ∀ i, i ≠ r → m15 i = M i := fun i h => by rw [hm15]; exact mset_ne h
    have gm15 : ∀ i j, j ≠ 6 → m15 i j = M i j := fun i j h => by rw [hm15]; exact mset_nj h
    have vm15 := (congrFun (congrFun hm15 (r)) 6).trans mset_eq
    have hRm : RS S (m15 (r + 1)) := by rw [fm15 _ (by omega)]; exact hR
    have ec : m15 r 6 = (if (0 ≤ c ∧ c ≤ S 0 3 - 1) ∧ (0 ≤ y ∧ y ≤ S 0 4 - 1) then 0 else 1) := by first | exact vm15 | exact vm15.trans (by (repeat' split) <;> omega)
    refine J_aload_n hX dX10_ghost_18 rfl ?_
    refine J_geti hX fi_RX10_47 dX10_ghost_19 (show K (r) = 9 from hM 0 (by decide)) (fun r19 => ?_)
    refine J_if_eq hX 27 dX10_ghost_22 (by omega) (by decide) (fun c22 => ?_) (fun c22 => ?_)
    · have ez : (if (0 ≤ c ∧ c ≤ S 0 3 - 1) ∧ (0 ≤ y ∧ y ≤ S 0 4 - 1) then 0 else 1) = (0 : Int) := by rw [← ec]; first | assumption | exact vm15
      have g1 := if_0 (by decide) ez
      refine J_aload_n hX dX10_ghost_27 rfl ?_
      refine J_callVM hX _ dX10_ghost_28 cw_RX10_235 (m_X10_survey hM hRm hW) ⟨(show K (r) = 9 from hM 0 (by decide)), by decide, by decide, rfl⟩ rfl (Nat.le_of_ble_eq_true rfl) (by decide) ⟨Nat.zero_le _, Nat.zero_le _⟩ (fun r9 M28 q28 => ?_)
      obtain ⟨rfl, frM28, grM28, svM28⟩ := q28
      have hRs : RS S (M28 (r + 1)) := by rw [frM28 _ (by omega) (by omega)]; exact hRm
      refine J_aload_n hX dX10_ghost_31 rfl ?_
      refine J_iload_n hX dX10_ghost_32 rfl ?_
      refine J_iload_n hX dX10_ghost_33 rfl ?_
      refine J_callVI hX _ dX10_ghost_34 cw_RX10_264 (m_X10_ghostOf hM hRs hW svM28 (by omega) (by omega)) ⟨(show K (r) = 9 from hM 0 (by decide)), by decide, by decide, rfl⟩ rfl (Nat.le_of_ble_eq_true rfl) (by decide) ⟨Nat.zero_le _, Nat.zero_le _⟩ (fun r34 => ?_)
      exact J_iret hX hQ dX10_ghost_37 ⟨rfl, by first | exact ⟨ec, Or.inl ⟨by rw [← ec]; assumption, rfl⟩, fun i hi => fm15 i (by omega), fun j _ _ => congrFun (fm15 (r + 1) (by omega)) j, fun j hj => gm15 _ j (by omega)⟩ | exact ⟨by rw [grM28 6 (by omega)]; exact ec, Or.inr ⟨ez, rfl⟩, fun i hi => by rw [frM28 i (by omega) (by omega)]; exact fm15 i (by omega), fun j _ _ => by rw [frM28 _ (by omega) (by omega), fm15 _ (by omega)], fun j hj => by rw [grM28 j (by omega)]; exact gm15 _ j (by omega)⟩⟩ (Nat.zero_le _) (Nat.zero_le _)
    · refine J_iconst hX dX10_ghost_25 ?_
      exact J_iret hX hQ dX10_ghost_26 ⟨rfl, by first | exact ⟨ec, Or.inl ⟨by rw [← ec]; assumption, rfl⟩, fun i hi => fm15 i (by omega), fun j _ _ => congrFun (fm15 (r + 1) (by omega)) j, fun j hj => gm15 _ j (by omega)⟩ | exact ⟨by rw [grM28 6 (by omega)]; exact ec, Or.inr ⟨ez, rfl⟩, fun i hi => by rw [frM28 i (by omega) (by omega)]; exact fm15 i (by omega), fun j _ _ => by rw [frM28 _ (by omega) (by omega), fm15 _ (by omega)], fun j hj => by rw [grM28 j (by omega)]; exact gm15 _ j (by omega)⟩⟩ (Nat.zero_le _) (Nat.zero_le _)
-- X10_ghosts
set_option maxHeartbeats 4000000 in
set_option maxRecDepth 100000 in
theorem m_X10_ghosts {E : EE} {K : Nat → Nat} {M : MM} {r : Nat} {T : Int} {S : MM} {k : Int} (hM : ModelK K r) (hR : RS S (M (r + 1))) (hW : WFS T S) (hk : i32 k) : CnM E 8 yX10_ghosts cX10_ghosts 2 (Option.some FieldType.int) [.ref r, vI k] K M (fun r9 M2 => VlM M r (if 1 ≤ k ∧ k ≤ 15 then 0 else 1) (gall S k) r9 M2) := by
  obtain ⟨⟨rs0, rs1, rs2, rs3, rs4, rs5, rs6, rs7, rs8, rs9, rs10, rs13⟩, rst, rsn, rsc⟩ := id hR
  have hs9 := hW.2.1
  unfold WFSs at hs9
  refine Cn_of RX10 (plainFor_of_name (by decide)) rfl (Nat.le_of_ble_eq_true rfl) (fun X hX hQ => ?_)
  refine J_aload_n hX dX10_ghosts_0 rfl ?_
  refine J_iload_n hX dX10_ghosts_1 rfl ?_
  refine J_iconst hX dX10_ghosts_2 ?_
  refine J_bipush hX dX10_ghosts_3 rfl ?_
  refine J_callSB hX _ dX10_ghosts_5 cw_RX10_58 (m_X10_in (by omega) (by omega) (by omega)) rfl (Nat.le_of_ble_eq_true rfl) (by decide) ⟨Nat.zero_le _, Nat.zero_le _⟩ ?_
  refine J_ifb_eq hX 15 dX10_ghosts_8 (by decide) (fun c8 => ?_) (fun c8 => ?_)
  · refine J_iconst hX dX10_ghosts_15 ?_
    refine J_putA hX fw_RX10_47 dX10_ghosts_16 (show K (r) = 9 from hM 0 (by decide)) (by omega) (Or.inl rfl) (fun m16 hm16 => ?_)
    have fm16 : ∀ i, i ≠ r → m16 i = M i := fun i h => by rw [hm16]; exact mset_ne h
    have gm16 : ∀ i j, j ≠ 6 → m16 i j = M i j := fun i j h => by rw [hm16]; exact mset_nj h
    have vm16 := (congrFun (congrFun hm16 (r)) 6).trans mset_eq
    have hRm : RS S (m16 (r + 1)) := by rw [fm16 _ (by omega)]; exact hR
    have ec : m16 r 6 = (if 1 ≤ k ∧ k ≤ 15 then 0 else 1) := by first | exact vm16 | exact vm16.trans (by (repeat' split) <;> omega)
    refine J_aload_n hX dX10_ghosts_19 rfl ?_
    refine J_geti hX fi_RX10_47 dX10_ghosts_20 (show K (r) = 9 from hM 0 (by decide)) (fun r20 => ?_)
    refine J_if_eq hX 30 dX10_ghosts_23 (by omega) (by decide) (fun c23 => ?_) (fun c23 => ?_)
    · refine J_aload_n hX dX10_ghosts_30 rfl ?_
      have ez : (if 1 ≤ k ∧ k ≤ 15 then 0 else 1) = (0 : Int) := by rw [← ec]; first | assumption | exact vm16
      have g1 := if_0 (by decide) ez
      refine J_iload_n hX dX10_ghosts_31 rfl ?_
      refine J_callVM hX _ dX10_ghosts_32 cw_RX10_267 (m_X10_ghostsNow hM hRm hW (by omega)) ⟨(show K (r) = 9 from hM 0 (by decide)), by decide, by decide, rfl⟩ rfl (Nat.le_of_ble_eq_true rfl) (by decide) ⟨Nat.zero_le _, Nat.zero_le _⟩ (fun r9 M32 q32 => ?_)
      obtain ⟨rfl, frM32, grM32, svM32⟩ := q32
      exact J_iret hX hQ dX10_ghosts_35 ⟨rfl, by first | exact ⟨ec, Or.inl ⟨by rw [← ec]; assumption, rfl⟩, fun i hi => fm16 i (by omega), fun j _ _ => congrFun (fm16 (r + 1) (by omega)) j, fun j hj => gm16 _ j (by omega)⟩ | exact ⟨by rw [grM32 6 (by omega)]; exact ec, Or.inr ⟨ez, rfl⟩, fun i hi => by rw [frM32 i (by omega) (by omega)]; exact fm16 i (by omega), fun j _ _ => by rw [frM32 _ (by omega) (by omega), fm16 _ (by omega)], fun j hj => by rw [grM32 j (by omega)]; exact gm16 _ j (by omega)⟩⟩ (Nat.zero_le _) (Nat.zero_le _)
    · refine J_iconst hX dX10_ghosts_26 ?_
      refine J_goto hX 35 dX10_ghosts_27 (by decide) ?_
      exact J_iret hX hQ dX10_ghosts_35 ⟨rfl, by first | exact ⟨ec, Or.inl ⟨by rw [← ec]; assumption, rfl⟩, fun i hi => fm16 i (by omega), fun j _ _ => congrFun (fm16 (r + 1) (by omega)) j, fun j hj => gm16 _ j (by omega)⟩ | exact ⟨by rw [grM32 6 (by omega)]; exact ec, Or.inr ⟨ez, rfl⟩, fun i hi => by rw [frM32 i (by omega) (by omega)]; exact fm16 i (by omega), fun j _ _ => by rw [frM32 _ (by omega) (by omega), fm16 _ (by omega)], fun j hj => by rw [grM32 j (by omega)]; exact gm16 _ j (by omega)⟩⟩ (Nat.zero_le _) (Nat.zero_le _)
  · refine J_iconst hX dX10_ghosts_11 ?_
    refine J_goto hX 16 dX10_ghosts_12 (by decide) ?_
    refine J_putA hX fw_RX10_47 dX10_ghosts_16 (show K (r) = 9 from hM 0 (by decide)) (by omega) (Or.inl rfl) (fun m16 hm16 => ?_)
    have fm16 : ∀ i, i ≠ r → m16 i = M i := fun i h => by rw [hm16]; exact mset_ne h
    have gm16 : ∀ i j, j ≠ 6 → m16 i j = M i j := fun i j h => by rw [hm16]; exact mset_nj h
    have vm16 := (congrFun (congrFun hm16 (r)) 6).trans mset_eq
    have hRm : RS S (m16 (r + 1)) := by rw [fm16 _ (by omega)]; exact hR
    have ec : m16 r 6 = (if 1 ≤ k ∧ k ≤ 15 then 0 else 1) := by first | exact vm16 | exact vm16.trans (by (repeat' split) <;> omega)
    refine J_aload_n hX dX10_ghosts_19 rfl ?_
    refine J_geti hX fi_RX10_47 dX10_ghosts_20 (show K (r) = 9 from hM 0 (by decide)) (fun r20 => ?_)
    refine J_if_eq hX 30 dX10_ghosts_23 (by omega) (by decide) (fun c23 => ?_) (fun c23 => ?_)
    · refine J_aload_n hX dX10_ghosts_30 rfl ?_
      have ez : (if 1 ≤ k ∧ k ≤ 15 then 0 else 1) = (0 : Int) := by rw [← ec]; first | assumption | exact vm16
      have g1 := if_0 (by decide) ez
      refine J_iload_n hX dX10_ghosts_31 rfl ?_
      refine J_callVM hX _ dX10_ghosts_32 cw_RX10_267 (m_X10_ghostsNow hM hRm hW (by omega)) ⟨(show K (r) = 9 from hM 0 (by decide)), by decide, by decide, rfl⟩ rfl (Nat.le_of_ble_eq_true rfl) (by decide) ⟨Nat.zero_le _, Nat.zero_le _⟩ (fun r9 M32 q32 => ?_)
      obtain ⟨rfl, frM32, grM32, svM32⟩ := q32
      exact J_iret hX hQ dX10_ghosts_35 ⟨rfl, by first | exact ⟨ec, Or.inl ⟨by rw [← ec]; assumption, rfl⟩, fun i hi => fm16 i (by omega), fun j _ _ => congrFun (fm16 (r + 1) (by omega)) j, fun j hj => gm16 _ j (by omega)⟩ | exact ⟨by rw [grM32 6 (by omega)]; exact ec, Or.inr ⟨ez, rfl⟩, fun i hi => by rw [frM32 i (by omega) (by omega)]; exact fm16 i (by omega), fun j _ _ => by rw [frM32 _ (by omega) (by omega), fm16 _ (by omega)], fun j hj => by rw [grM32 j (by omega)]; exact gm16 _ j (by omega)⟩⟩ (Nat.zero_le _) (Nat.zero_le _)
    · refine J_iconst hX dX10_ghosts_26 ?_
      refine J_goto hX 35 dX10_ghosts_27 (by decide) ?_
      exact J_iret hX hQ dX10_ghosts_35 ⟨rfl, by first | exact ⟨ec, Or.inl ⟨by rw [← ec]; assumption, rfl⟩, fun i hi => fm16 i (by omega), fun j _ _ => congrFun (fm16 (r + 1) (by omega)) j, fun j hj => gm16 _ j (by omega)⟩ | exact ⟨by rw [grM32 6 (by omega)]; exact ec, Or.inr ⟨ez, rfl⟩, fun i hi => by rw [frM32 i (by omega) (by omega)]; exact fm16 i (by omega), fun j _ _ => by rw [frM32 _ (by omega) (by omega), fm16 _ (by omega)], fun j hj => by rw [grM32 j (by omega)]; exact gm16 _ j (by omega)⟩⟩ (Nat.zero_le _) (Nat.zero_le _)
-- X10_percentageFor
set_option maxHeartbeats 4000000 in
set_option maxRecDepth 100000 in
theorem m_X10_percentageFor {E : EE} {K : Nat → Nat} {M : MM} {r : Nat} {T : Int} {S : MM} {lo hi : Int} (hM : ModelK K r) (hR : RS S (M (r + 1))) (hW : WFS T S) (hlo : i32 lo) (hhi : i32 hi) : CnM E 4 yX10_percentageFor cX10_percentageFor 3 (Option.some FieldType.int) [.ref r, vI lo, vI hi] K M (fun r9 M2 => VlM M r (if (-20 ≤ lo ∧ lo ≤ 0) ∧ (0 ≤ hi ∧ hi ≤ 20) then 0 else 1) (pctW S lo hi) r9 M2) := by
  obtain ⟨⟨rs0, rs1, rs2, rs3, rs4, rs5, rs6, rs7, rs8, rs9, rs10, rs13⟩, rst, rsn, rsc⟩ := id hR
  have hs9 := hW.2.1
  unfold WFSs at hs9
  refine Cn_of RX10 (plainFor_of_name (by decide)) rfl (Nat.le_of_ble_eq_true rfl) (fun X hX hQ => ?_)
  refine J_aload_n hX dX10_percentageFor_0 rfl ?_
  refine J_iload_n hX dX10_percentageFor_1 rfl ?_
  refine J_iload_n hX dX10_percentageFor_2 rfl ?_
  refine J_callSB hX _ dX10_percentageFor_3 cw_RX10_270 (m_X10_isBudget (by omega) (by omega)) rfl (Nat.le_of_ble_eq_true rfl) (by decide) ⟨Nat.zero_le _, Nat.zero_le _⟩ ?_
  refine J_ifb_eq hX 13 dX10_percentageFor_6 (by decide) (fun c6 => ?_) (fun c6 => ?_)
  · refine J_iconst hX dX10_percentageFor_13 ?_
    refine J_putA hX fw_RX10_47 dX10_percentageFor_14 (show K (r) = 9 from hM 0 (by decide)) (by omega) (Or.inl rfl) (fun m14 hm14 => ?_)
    have fm14 : ∀ i, i ≠ r → m14 i = M i := fun i h => by rw [hm14]; exact mset_ne h
    have gm14 : ∀ i j, j ≠ 6 → m14 i j = M i j := fun i j h => by rw [hm14]; exact mset_nj h
    have vm14 := (congrFun (congrFun hm14 (r)) 6).trans mset_eq
    have hRm : RS S (m14 (r + 1)) := by rw [fm14 _ (by omega)]; exact hR
    have ec : m14 r 6 = (if (-20 ≤ lo ∧ lo ≤ 0) ∧ (0 ≤ hi ∧ hi ≤ 20) then 0 else 1) := by first | exact vm14 | exact vm14.trans (by (repeat' split) <;> omega)
    refine J_aload_n hX dX10_percentageFor_17 rfl ?_
    refine J_geti hX fi_RX10_47 dX10_percentageFor_18 (show K (r) = 9 from hM 0 (by decide)) (fun r18 => ?_)
    refine J_if_eq hX 26 dX10_percentageFor_21 (by omega) (by decide) (fun c21 => ?_) (fun c21 => ?_)
    · have ez : (if (-20 ≤ lo ∧ lo ≤ 0) ∧ (0 ≤ hi ∧ hi ≤ 20) then 0 else 1) = (0 : Int) := by rw [← ec]; first | assumption | exact vm14
      have g1 := if_0 (by decide) ez
      refine J_aload_n hX dX10_percentageFor_26 rfl ?_
      refine J_callVM hX _ dX10_percentageFor_27 cw_RX10_210 (m_X10_places hM hRm hW) ⟨(show K (r) = 9 from hM 0 (by decide)), by decide, by decide, rfl⟩ rfl (Nat.le_of_ble_eq_true rfl) (by decide) ⟨Nat.zero_le _, Nat.zero_le _⟩ (fun r9 M27 q27 => ?_)
      obtain ⟨rfl, fM27, pM27⟩ := q27
      have hRs : RS S (M27 (r + 1)) := by rw [fM27 _ (by omega) (by omega) (by omega)]; exact hRm
      refine J_aload_n hX dX10_percentageFor_30 rfl ?_
      refine J_iload_n hX dX10_percentageFor_31 rfl ?_
      refine J_iload_n hX dX10_percentageFor_32 rfl ?_
      refine J_callVI hX _ dX10_percentageFor_33 cw_RX10_213 (m_X10_percentageBy hM hRs hW (by omega) (by omega) (fun n hn => (pM27 n hn.1 hn.2.1).2.2)) ⟨(show K (r) = 9 from hM 0 (by decide)), by decide, by decide, rfl⟩ rfl (Nat.le_of_ble_eq_true rfl) (by decide) ⟨Nat.zero_le _, Nat.zero_le _⟩ (fun r33 => ?_)
      exact J_iret hX hQ dX10_percentageFor_36 ⟨rfl, by first | exact ⟨ec, Or.inl ⟨by rw [← ec]; assumption, rfl⟩, fun i hi => fm14 i (by omega), fun j _ _ => congrFun (fm14 (r + 1) (by omega)) j, fun j hj => gm14 _ j (by omega)⟩ | exact ⟨by rw [fM27 _ (by omega) (by omega) (by omega)]; exact ec, Or.inr ⟨ez, rfl⟩, fun i hi => by rw [fM27 i (by omega) (by omega) (by omega)]; exact fm14 i (by omega), fun j _ _ => by rw [fM27 _ (by omega) (by omega) (by omega), fm14 _ (by omega)], fun j hj => by rw [fM27 _ (by omega) (by omega) (by omega)]; exact gm14 _ j (by omega)⟩⟩ (Nat.zero_le _) (Nat.zero_le _)
    · refine J_iconst hX dX10_percentageFor_24 ?_
      exact J_iret hX hQ dX10_percentageFor_25 ⟨rfl, by first | exact ⟨ec, Or.inl ⟨by rw [← ec]; assumption, rfl⟩, fun i hi => fm14 i (by omega), fun j _ _ => congrFun (fm14 (r + 1) (by omega)) j, fun j hj => gm14 _ j (by omega)⟩ | exact ⟨by rw [fM27 _ (by omega) (by omega) (by omega)]; exact ec, Or.inr ⟨ez, rfl⟩, fun i hi => by rw [fM27 i (by omega) (by omega) (by omega)]; exact fm14 i (by omega), fun j _ _ => by rw [fM27 _ (by omega) (by omega) (by omega), fm14 _ (by omega)], fun j hj => by rw [fM27 _ (by omega) (by omega) (by omega)]; exact gm14 _ j (by omega)⟩⟩ (Nat.zero_le _) (Nat.zero_le _)
  · refine J_iconst hX dX10_percentageFor_9 ?_
    refine J_goto hX 14 dX10_percentageFor_10 (by decide) ?_
    refine J_putA hX fw_RX10_47 dX10_percentageFor_14 (show K (r) = 9 from hM 0 (by decide)) (by omega) (Or.inl rfl) (fun m14 hm14 => ?_)
    have fm14 : ∀ i, i ≠ r → m14 i = M i := fun i h => by rw [hm14]; exact mset_ne h
    have gm14 : ∀ i j, j ≠ 6 → m14 i j = M i j := fun i j h => by rw [hm14]; exact mset_nj h
    have vm14 := (congrFun (congrFun hm14 (r)) 6).trans mset_eq
    have hRm : RS S (m14 (r + 1)) := by rw [fm14 _ (by omega)]; exact hR
    have ec : m14 r 6 = (if (-20 ≤ lo ∧ lo ≤ 0) ∧ (0 ≤ hi ∧ hi ≤ 20) then 0 else 1) := by first | exact vm14 | exact vm14.trans (by (repeat' split) <;> omega)
    refine J_aload_n hX dX10_percentageFor_17 rfl ?_
    refine J_geti hX fi_RX10_47 dX10_percentageFor_18 (show K (r) = 9 from hM 0 (by decide)) (fun r18 => ?_)
    refine J_if_eq hX 26 dX10_percentageFor_21 (by omega) (by decide) (fun c21 => ?_) (fun c21 => ?_)
    · have ez : (if (-20 ≤ lo ∧ lo ≤ 0) ∧ (0 ≤ hi ∧ hi ≤ 20) then 0 else 1) = (0 : Int) := by rw [← ec]; first | assumption | exact vm14
      have g1 := if_0 (by decide) ez
      refine J_aload_n hX dX10_percentageFor_26 rfl ?_
      refine J_callVM hX _ dX10_percentageFor_27 cw_RX10_210 (m_X10_places hM hRm hW) ⟨(show K (r) = 9 from hM 0 (by decide)), by decide, by decide, rfl⟩ rfl (Nat.le_of_ble_eq_true rfl) (by decide) ⟨Nat.zero_le _, Nat.zero_le _⟩ (fun r9 M27 q27 => ?_)
      obtain ⟨rfl, fM27, pM27⟩ := q27
      have hRs : RS S (M27 (r + 1)) := by rw [fM27 _ (by omega) (by omega) (by omega)]; exact hRm
      refine J_aload_n hX dX10_percentageFor_30 rfl ?_
      refine J_iload_n hX dX10_percentageFor_31 rfl ?_
      refine J_iload_n hX dX10_percentageFor_32 rfl ?_
      refine J_callVI hX _ dX10_percentageFor_33 cw_RX10_213 (m_X10_percentageBy hM hRs hW (by omega) (by omega) (fun n hn => (pM27 n hn.1 hn.2.1).2.2)) ⟨(show K (r) = 9 from hM 0 (by decide)), by decide, by decide, rfl⟩ rfl (Nat.le_of_ble_eq_true rfl) (by decide) ⟨Nat.zero_le _, Nat.zero_le _⟩ (fun r33 => ?_)
      exact J_iret hX hQ dX10_percentageFor_36 ⟨rfl, by first | exact ⟨ec, Or.inl ⟨by rw [← ec]; assumption, rfl⟩, fun i hi => fm14 i (by omega), fun j _ _ => congrFun (fm14 (r + 1) (by omega)) j, fun j hj => gm14 _ j (by omega)⟩ | exact ⟨by rw [fM27 _ (by omega) (by omega) (by omega)]; exact ec, Or.inr ⟨ez, rfl⟩, fun i hi => by rw [fM27 i (by omega) (by omega) (by omega)]; exact fm14 i (by omega), fun j _ _ => by rw [fM27 _ (by omega) (by omega) (by omega), fm14 _ (by omega)], fun j hj => by rw [fM27 _ (by omega) (by omega) (by omega)]; exact gm14 _ j (by omega)⟩⟩ (Nat.zero_le _) (Nat.zero_le _)
    · refine J_iconst hX dX10_percentageFor_24 ?_
      exact J_iret hX hQ dX10_percentageFor_25 ⟨rfl, by first | exact ⟨ec, Or.inl ⟨by rw [← ec]; assumption, rfl⟩, fun i hi => fm14 i (by omega), fun j _ _ => congrFun (fm14 (r + 1) (by omega)) j, fun j hj => gm14 _ j (by omega)⟩ | exact ⟨by rw [fM27 _ (by omega) (by omega) (by omega)]; exact ec, Or.inr ⟨ez, rfl⟩, fun i hi => by rw [fM27 i (by omega) (by omega) (by omega)]; exact fm14 i (by omega), fun j _ _ => by rw [fM27 _ (by omega) (by omega) (by omega), fm14 _ (by omega)], fun j hj => by rw [fM27 _ (by omega) (by omega) (by omega)]; exact gm14 _ j (by omega)⟩⟩ (Nat.zero_le _) (Nat.zero_le _)
-- X10_scene
set_option maxHeartbeats 4000000 in
set_option maxRecDepth 100000 in
theorem m_X10_scene {E : EE} {K : Nat → Nat} {M : MM} {r : Nat} {T : Int} {S : MM} {n k : Int} (hM : ModelK K r) (hR : RS S (M (r + 1))) (hW : WFS T S) (hn : i32 n) (hk : i32 k) : CnM E 2 yX10_scene cX10_scene 3 (Option.some FieldType.int) [.ref r, vI n, vI k] K M (fun r9 M2 => VlM M r (if ¬ (0 ≤ n ∧ n < S 11 0) then 1 else if 0 ≤ k ∧ k ≤ 3 then 0 else 2) (scv S n k) r9 M2) := by
  obtain ⟨⟨rs0, rs1, rs2, rs3, rs4, rs5, rs6, rs7, rs8, rs9, rs10, rs13⟩, rst, rsn, rsc⟩ := id hR
  have hs9 := hW.2.1
  unfold WFSs at hs9
  refine Cn_of RX10 (plainFor_of_name (by decide)) rfl (Nat.le_of_ble_eq_true rfl) (fun X hX hQ => ?_)
  refine J_aload_n hX dX10_scene_0 rfl ?_
  refine J_iload_n hX dX10_scene_1 rfl ?_
  refine J_iconst hX dX10_scene_2 ?_
  refine J_aload_n hX dX10_scene_3 rfl ?_
  refine J_gr hX (r + 1) fr_RX10_7 dX10_scene_4 (show K (r) = 9 from hM 0 (by decide)) rfl ?_
  refine J_iconst hX dX10_scene_7 ?_
  refine J_iald hX dX10_scene_8 (show K (r + 1) = 1000 + 198 from hM 1 (by decide)) ⟨by omega, by omega⟩ (by decide) (fun r8 => ?_)
  refine J_iconst hX dX10_scene_9 ?_
  refine J_isub hX dX10_scene_10 ?_
  refine J_callSB hX _ dX10_scene_11 cw_RX10_58 (m_X10_in (by omega) (by omega) (by omega)) rfl (Nat.le_of_ble_eq_true rfl) (by decide) ⟨Nat.zero_le _, Nat.zero_le _⟩ ?_
  refine J_ifb_ne hX 21 dX10_scene_14 (by decide) (fun c14 => ?_) (fun c14 => ?_)
  · refine J_iload_n hX dX10_scene_21 rfl ?_
    refine J_iconst hX dX10_scene_22 ?_
    refine J_iconst hX dX10_scene_23 ?_
    refine J_callSB hX _ dX10_scene_24 cw_RX10_58 (m_X10_in (by omega) (by omega) (by omega)) rfl (Nat.le_of_ble_eq_true rfl) (by decide) ⟨Nat.zero_le _, Nat.zero_le _⟩ ?_
    refine J_ifb_eq hX 34 dX10_scene_27 (by decide) (fun c27 => ?_) (fun c27 => ?_)
    · refine J_iconst hX dX10_scene_34 ?_
      refine J_putA hX fw_RX10_47 dX10_scene_35 (show K (r) = 9 from hM 0 (by decide)) (by omega) (Or.inl rfl) (fun m35 hm35 => ?_)
      have fm35 : ∀ i, i ≠ r → m35 i = M i := fun i h => by rw [hm35]; exact mset_ne h
      have gm35 : ∀ i j, j ≠ 6 → m35 i j = M i j := fun i j h => by rw [hm35]; exact mset_nj h
      have vm35 := (congrFun (congrFun hm35 (r)) 6).trans mset_eq
      have hRm : RS S (m35 (r + 1)) := by rw [fm35 _ (by omega)]; exact hR
      have ec : m35 r 6 = (if ¬ (0 ≤ n ∧ n < S 11 0) then 1 else if 0 ≤ k ∧ k ≤ 3 then 0 else 2) := by first | exact vm35 | exact vm35.trans (by (repeat' split) <;> omega)
      refine J_aload_n hX dX10_scene_38 rfl ?_
      refine J_geti hX fi_RX10_47 dX10_scene_39 (show K (r) = 9 from hM 0 (by decide)) (fun r39 => ?_)
      refine J_if_eq hX 49 dX10_scene_42 (by omega) (by decide) (fun c42 => ?_) (fun c42 => ?_)
      · have ez : (if ¬ (0 ≤ n ∧ n < S 11 0) then 1 else if 0 ≤ k ∧ k ≤ 3 then 0 else 2) = (0 : Int) := by rw [← ec]; assumption
        have g0 : 0 ≤ n ∧ n < S 11 0 := by by_cases q : 0 ≤ n ∧ n < S 11 0; exact q; (rw [if_pos q] at ez; omega)
        have g1 : 0 ≤ k ∧ k ≤ 3 := by rw [if_neg (fun q => q g0)] at ez; exact if_0 (by decide) ez
        refine J_aload_n hX dX10_scene_49 rfl ?_
        refine J_iload_n hX dX10_scene_50 rfl ?_
        refine J_iload_n hX dX10_scene_51 rfl ?_
        refine J_callVI hX _ dX10_scene_52 cw_RX10_241 (m_X10_sceneOf hM hRm hW (by omega) (by omega)) ⟨(show K (r) = 9 from hM 0 (by decide)), by decide, by decide, rfl⟩ rfl (Nat.le_of_ble_eq_true rfl) (by decide) ⟨Nat.zero_le _, Nat.zero_le _⟩ (fun r52 => ?_)
        exact J_iret hX hQ dX10_scene_55 ⟨rfl, by first | exact ⟨ec, Or.inl ⟨by rw [← ec]; assumption, rfl⟩, fun i hi => fm35 i (by omega), fun j _ _ => congrFun (fm35 (r + 1) (by omega)) j, fun j hj => gm35 _ j (by omega)⟩ | exact ⟨ec, Or.inr ⟨ez, rfl⟩, fun i hi => fm35 i (by omega), fun j _ _ => congrFun (fm35 (r + 1) (by omega)) j, fun j hj => gm35 _ j (by omega)⟩⟩ (Nat.zero_le _) (Nat.zero_le _)
      · refine J_iconst hX dX10_scene_45 ?_
        refine J_goto hX 55 dX10_scene_46 (by decide) ?_
        exact J_iret hX hQ dX10_scene_55 ⟨rfl, by first | exact ⟨ec, Or.inl ⟨by rw [← ec]; assumption, rfl⟩, fun i hi => fm35 i (by omega), fun j _ _ => congrFun (fm35 (r + 1) (by omega)) j, fun j hj => gm35 _ j (by omega)⟩ | exact ⟨ec, Or.inr ⟨ez, rfl⟩, fun i hi => fm35 i (by omega), fun j _ _ => congrFun (fm35 (r + 1) (by omega)) j, fun j hj => gm35 _ j (by omega)⟩⟩ (Nat.zero_le _) (Nat.zero_le _)
    · refine J_iconst hX dX10_scene_30 ?_
      refine J_goto hX 35 dX10_scene_31 (by decide) ?_
      refine J_putA hX fw_RX10_47 dX10_scene_35 (show K (r) = 9 from hM 0 (by decide)) (by omega) (Or.inl rfl) (fun m35 hm35 => ?_)
      have fm35 : ∀ i, i ≠ r → m35 i = M i := fun i h => by rw [hm35]; exact mset_ne h
      have gm35 : ∀ i j, j ≠ 6 → m35 i j = M i j := fun i j h => by rw [hm35]; exact mset_nj h
      have vm35 := (congrFun (congrFun hm35 (r)) 6).trans mset_eq
      have hRm : RS S (m35 (r + 1)) := by rw [fm35 _ (by omega)]; exact hR
      have ec : m35 r 6 = (if ¬ (0 ≤ n ∧ n < S 11 0) then 1 else if 0 ≤ k ∧ k ≤ 3 then 0 else 2) := by first | exact vm35 | exact vm35.trans (by (repeat' split) <;> omega)
      refine J_aload_n hX dX10_scene_38 rfl ?_
      refine J_geti hX fi_RX10_47 dX10_scene_39 (show K (r) = 9 from hM 0 (by decide)) (fun r39 => ?_)
      refine J_if_eq hX 49 dX10_scene_42 (by omega) (by decide) (fun c42 => ?_) (fun c42 => ?_)
      · have ez : (if ¬ (0 ≤ n ∧ n < S 11 0) then 1 else if 0 ≤ k ∧ k ≤ 3 then 0 else 2) = (0 : Int) := by rw [← ec]; assumption
        have g0 : 0 ≤ n ∧ n < S 11 0 := by by_cases q : 0 ≤ n ∧ n < S 11 0; exact q; (rw [if_pos q] at ez; omega)
        have g1 : 0 ≤ k ∧ k ≤ 3 := by rw [if_neg (fun q => q g0)] at ez; exact if_0 (by decide) ez
        refine J_aload_n hX dX10_scene_49 rfl ?_
        refine J_iload_n hX dX10_scene_50 rfl ?_
        refine J_iload_n hX dX10_scene_51 rfl ?_
        refine J_callVI hX _ dX10_scene_52 cw_RX10_241 (m_X10_sceneOf hM hRm hW (by omega) (by omega)) ⟨(show K (r) = 9 from hM 0 (by decide)), by decide, by decide, rfl⟩ rfl (Nat.le_of_ble_eq_true rfl) (by decide) ⟨Nat.zero_le _, Nat.zero_le _⟩ (fun r52 => ?_)
        exact J_iret hX hQ dX10_scene_55 ⟨rfl, by first | exact ⟨ec, Or.inl ⟨by rw [← ec]; assumption, rfl⟩, fun i hi => fm35 i (by omega), fun j _ _ => congrFun (fm35 (r + 1) (by omega)) j, fun j hj => gm35 _ j (by omega)⟩ | exact ⟨ec, Or.inr ⟨ez, rfl⟩, fun i hi => fm35 i (by omega), fun j _ _ => congrFun (fm35 (r + 1) (by omega)) j, fun j hj => gm35 _ j (by omega)⟩⟩ (Nat.zero_le _) (Nat.zero_le _)
      · refine J_iconst hX dX10_scene_45 ?_
        refine J_goto hX 55 dX10_scene_46 (by decide) ?_
        exact J_iret hX hQ dX10_scene_55 ⟨rfl, by first | exact ⟨ec, Or.inl ⟨by rw [← ec]; assumption, rfl⟩, fun i hi => fm35 i (by omega), fun j _ _ => congrFun (fm35 (r + 1) (by omega)) j, fun j hj => gm35 _ j (by omega)⟩ | exact ⟨ec, Or.inr ⟨ez, rfl⟩, fun i hi => fm35 i (by omega), fun j _ _ => congrFun (fm35 (r + 1) (by omega)) j, fun j hj => gm35 _ j (by omega)⟩⟩ (Nat.zero_le _) (Nat.zero_le _)
  · refine J_iconst hX dX10_scene_17 ?_
    refine J_goto hX 35 dX10_scene_18 (by decide) ?_
    refine J_putA hX fw_RX10_47 dX10_scene_35 (show K (r) = 9 from hM 0 (by decide)) (by omega) (Or.inl rfl) (fun m35 hm35 => ?_)
    have fm35 : ∀ i, i ≠ r → m35 i = M i := fun i h => by rw [hm35]; exact mset_ne h
    have gm35 : ∀ i j, j ≠ 6 → m35 i j = M i j := fun i j h => by rw [hm35]; exact mset_nj h
    have vm35 := (congrFun (congrFun hm35 (r)) 6).trans mset_eq
    have hRm : RS S (m35 (r + 1)) := by rw [fm35 _ (by omega)]; exact hR
    have ec : m35 r 6 = (if ¬ (0 ≤ n ∧ n < S 11 0) then 1 else if 0 ≤ k ∧ k ≤ 3 then 0 else 2) := by first | exact vm35 | exact vm35.trans (by (repeat' split) <;> omega)
    refine J_aload_n hX dX10_scene_38 rfl ?_
    refine J_geti hX fi_RX10_47 dX10_scene_39 (show K (r) = 9 from hM 0 (by decide)) (fun r39 => ?_)
    refine J_if_eq hX 49 dX10_scene_42 (by omega) (by decide) (fun c42 => ?_) (fun c42 => ?_)
    · have ez : (if ¬ (0 ≤ n ∧ n < S 11 0) then 1 else if 0 ≤ k ∧ k ≤ 3 then 0 else 2) = (0 : Int) := by rw [← ec]; assumption
      have g0 : 0 ≤ n ∧ n < S 11 0 := by by_cases q : 0 ≤ n ∧ n < S 11 0; exact q; (rw [if_pos q] at ez; omega)
      have g1 : 0 ≤ k ∧ k ≤ 3 := by rw [if_neg (fun q => q g0)] at ez; exact if_0 (by decide) ez
      refine J_aload_n hX dX10_scene_49 rfl ?_
      refine J_iload_n hX dX10_scene_50 rfl ?_
      refine J_iload_n hX dX10_scene_51 rfl ?_
      refine J_callVI hX _ dX10_scene_52 cw_RX10_241 (m_X10_sceneOf hM hRm hW (by omega) (by omega)) ⟨(show K (r) = 9 from hM 0 (by decide)), by decide, by decide, rfl⟩ rfl (Nat.le_of_ble_eq_true rfl) (by decide) ⟨Nat.zero_le _, Nat.zero_le _⟩ (fun r52 => ?_)
      exact J_iret hX hQ dX10_scene_55 ⟨rfl, by first | exact ⟨ec, Or.inl ⟨by rw [← ec]; assumption, rfl⟩, fun i hi => fm35 i (by omega), fun j _ _ => congrFun (fm35 (r + 1) (by omega)) j, fun j hj => gm35 _ j (by omega)⟩ | exact ⟨ec, Or.inr ⟨ez, rfl⟩, fun i hi => fm35 i (by omega), fun j _ _ => congrFun (fm35 (r + 1) (by omega)) j, fun j hj => gm35 _ j (by omega)⟩⟩ (Nat.zero_le _) (Nat.zero_le _)
    · refine J_iconst hX dX10_scene_45 ?_
      refine J_goto hX 55 dX10_scene_46 (by decide) ?_
      exact J_iret hX hQ dX10_scene_55 ⟨rfl, by first | exact ⟨ec, Or.inl ⟨by rw [← ec]; assumption, rfl⟩, fun i hi => fm35 i (by omega), fun j _ _ => congrFun (fm35 (r + 1) (by omega)) j, fun j hj => gm35 _ j (by omega)⟩ | exact ⟨ec, Or.inr ⟨ez, rfl⟩, fun i hi => fm35 i (by omega), fun j _ _ => congrFun (fm35 (r + 1) (by omega)) j, fun j hj => gm35 _ j (by omega)⟩⟩ (Nat.zero_le _) (Nat.zero_le _)
