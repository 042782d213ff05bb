/-! RS: a new frame, a scene, a node -/
theorem RS_beg {S : MM} {m : Int → Int} {w h : Int} (hR : RS S m) : RS (mset (mset (mset (mset (mset (mset (mset (mset (mset (mset S 0 3 w) 0 4 h) 1 0 0) 11 0 0) 11 1 0) 11 2 (-5)) 11 3 5) 0 5 0) 0 6 0) 0 7 0) (rset (rset (rset (rset (rset (rset (rset (rset m 0 w) 1 h) 2 0) 3 0) 4 0) 5 (-5)) 6 5) 13 0) := by
  obtain ⟨⟨rs0, rs1, rs2, rs3, rs4, rs5, rs6, rs7, rs8, rs9, rs10, rs13⟩, rst, rsn, rsc⟩ := hR
  refine ⟨⟨?_, ?_, ?_, ?_, ?_, ?_, ?_, ?_, ?_, ?_, ?_, ?_⟩, Or.inl ?_, fun n h0 h1 => ?_, fun s h0 h1 => ?_⟩
  all_goals first | (simp [mset, rset]; done) | (simp [mset, rset]; assumption) | (simp [mset] at h1; omega)
theorem RS_sc {S : MM} {m : Int → Int} {l g t : Int} (hR : RS S m) (hc : 0 ≤ S 11 0 ∧ S 11 0 < 8) (hn : S 1 0 ≤ 20) : RS (mset (mset (mset (mset S 12 (S 11 0) l) 13 (S 11 0) g) 14 (S 11 0) t) 11 0 (S 11 0 + 1)) (rset (rset (rset (rset m (174 + 3 * S 11 0) l) (174 + 3 * S 11 0 + 1) g) (174 + 3 * S 11 0 + 2) t) 3 (S 11 0 + 1)) := by
  obtain ⟨⟨rs0, rs1, rs2, rs3, rs4, rs5, rs6, rs7, rs8, rs9, rs10, rs13⟩, rst, rsn, rsc⟩ := hR
  generalize hk : S 11 0 = c at *
  have pg : ∀ k, k ≠ 11 → k ≠ 12 → k ≠ 13 → k ≠ 14 → mset (mset (mset (mset S 12 c l) 13 c g) 14 c t) 11 0 (c + 1) k = S k := fun k h1 h2 h3 h4 => by rw [mset_ne h1, mset_ne h4, mset_ne h3, mset_ne h2]
  have p11 : ∀ j : Int, j ≠ 0 → mset (mset (mset (mset S 12 c l) 13 c g) 14 c t) 11 0 (c + 1) 11 j = S 11 j := fun j hj => by rw [mset_nj hj, mset_ne (by decide), mset_ne (by decide), mset_ne (by decide)]
  have ot : ∀ j : Int, j ≠ 3 → j < 174 → rset (rset (rset (rset m (174 + 3 * c) l) (174 + 3 * c + 1) g) (174 + 3 * c + 2) t) 3 (c + 1) j = m j := fun j h1 h2 => by rw [rset_ne h1, rset_ne (by omega), rset_ne (by omega), rset_ne (by omega)]
  unfold RS
  rw [pg 0 (by decide) (by decide) (by decide) (by decide), pg 1 (by decide) (by decide) (by decide) (by decide), pg 15 (by decide) (by decide) (by decide) (by decide), pg 2 (by decide) (by decide) (by decide) (by decide), pg 4 (by decide) (by decide) (by decide) (by decide), pg 5 (by decide) (by decide) (by decide) (by decide), pg 6 (by decide) (by decide) (by decide) (by decide), pg 7 (by decide) (by decide) (by decide) (by decide), pg 8 (by decide) (by decide) (by decide) (by decide), pg 9 (by decide) (by decide) (by decide) (by decide), p11 1 (by decide), p11 2 (by decide), p11 3 (by decide)]
  rw [ot 0 (by decide) (by decide), ot 1 (by decide) (by decide), ot 2 (by decide) (by decide), ot 4 (by decide) (by decide), ot 5 (by decide) (by decide), ot 6 (by decide) (by decide), ot 7 (by decide) (by decide), ot 8 (by decide) (by decide), ot 9 (by decide) (by decide), ot 10 (by decide) (by decide), ot 11 (by decide) (by decide), ot 12 (by decide) (by decide), ot 13 (by decide) (by decide), mset_eq, rset_eq]
  refine ⟨⟨rs0, rs1, rs2, rfl, rs4, rs5, rs6, rs7, rs8, rs9, rs10, rs13⟩, rst, fun n h0 h1 => ?_, fun s h0 h1 => ?_⟩
  · rw [ot _ (by omega) (by omega), ot _ (by omega) (by omega), ot _ (by omega) (by omega), ot _ (by omega) (by omega), ot _ (by omega) (by omega), ot _ (by omega) (by omega), ot _ (by omega) (by omega)]; exact rsn n h0 h1
  · by_cases e : s = c
    · subst e
      refine ⟨?_, ?_, ?_⟩
      · rw [rset_ne (by omega), rset_ne (by omega), rset_ne (by omega), rset_eq, mset_ne (by decide), mset_ne (by decide), mset_ne (by decide), mset_eq]
      · rw [rset_ne (by omega), rset_ne (by omega), rset_eq, mset_ne (by decide), mset_ne (by decide), mset_eq]
      · rw [rset_ne (by omega), rset_eq, mset_ne (by decide), mset_eq]
    · have q := rsc s h0 (by omega)
      have os : ∀ i : Int, 0 ≤ i → i < 3 → rset (rset (rset (rset m (174 + 3 * c) l) (174 + 3 * c + 1) g) (174 + 3 * c + 2) t) 3 (c + 1) (174 + 3 * s + i) = m (174 + 3 * s + i) := fun i i0 i1 => by rw [rset_ne (by omega), rset_ne (by omega), rset_ne (by omega), rset_ne (by omega)]
      have os0 := os 0 (by decide) (by decide)
      rw [Int.add_zero] at os0
      have sx : ∀ k, mset (mset (mset (mset S 12 c l) 13 c g) 14 c t) 11 0 (c + 1) k s = S k s ∨ k = 11 := fun k => by
        by_cases q : k = 11
        · exact Or.inr q
        · left; rw [mset_ne q, mset_nj e, mset_nj e, mset_nj e]
      rw [os0, os 1 (by decide) (by decide), os 2 (by decide) (by decide), (sx 12).resolve_right (by decide), (sx 13).resolve_right (by decide), (sx 14).resolve_right (by decide)]
      exact q
theorem RS_add {S : MM} {m : Int → Int} {p u v w wd hg ar : Int} (hR : RS S m) (hc : 0 ≤ S 1 0 ∧ S 1 0 < 20) : RS (mset (mset (mset (mset (mset (mset (mset (mset (mset S 3 (S 1 0) ar) 2 (S 1 0) p) 4 (S 1 0) u) 5 (S 1 0) v) 6 (S 1 0) w) 7 (S 1 0) wd) 8 (S 1 0) hg) 9 (S 1 0) 8) 1 0 (S 1 0 + 1))
    (rset (rset (rset (rset (rset (rset (rset (rset m (14 + 8 * S 1 0) p) (14 + 8 * S 1 0 + 1) u) (14 + 8 * S 1 0 + 2) v) (14 + 8 * S 1 0 + 3) w) (14 + 8 * S 1 0 + 4) wd) (14 + 8 * S 1 0 + 5) hg) (14 + 8 * S 1 0 + 6) 8) 2 (S 1 0 + 1)) := by
  obtain ⟨⟨rs0, rs1, rs2, rs3, rs4, rs5, rs6, rs7, rs8, rs9, rs10, rs13⟩, rst, rsn, rsc⟩ := hR
  generalize hk : S 1 0 = c at *
  generalize hS2 : mset (mset (mset (mset (mset (mset (mset (mset (mset S 3 c ar) 2 c p) 4 c u) 5 c v) 6 c w) 7 c wd) 8 c hg) 9 c 8) 1 0 (c + 1) = S2
  generalize hm2 : rset (rset (rset (rset (rset (rset (rset (rset m (14 + 8 * c) p) (14 + 8 * c + 1) u) (14 + 8 * c + 2) v) (14 + 8 * c + 3) w) (14 + 8 * c + 4) wd) (14 + 8 * c + 5) hg) (14 + 8 * c + 6) 8) 2 (c + 1) = m2
  have pg : ∀ k : Nat, k = 0 ∨ 10 ≤ k → S2 k = S k := fun k h => by
    rw [← hS2, mset_ne (by omega), mset_ne (by omega), mset_ne (by omega), mset_ne (by omega), mset_ne (by omega), mset_ne (by omega), mset_ne (by omega), mset_ne (by omega), mset_ne (by omega)]
  have ot : ∀ j : Int, j ≠ 2 → (j < 14 + 8 * c ∨ 14 + 8 * c + 6 < j) → m2 j = m j := fun j h1 h2 => by
    rw [← hm2, rset_ne h1, rset_ne (by omega), rset_ne (by omega), rset_ne (by omega), rset_ne (by omega), rset_ne (by omega), rset_ne (by omega), rset_ne (by omega)]
  have e10 : S2 1 0 = c + 1 := by rw [← hS2, mset_eq]
  have e2 : m2 2 = c + 1 := by rw [← hm2, rset_eq]
  unfold RS
  rw [pg 0 (by decide), pg 11 (by decide), pg 15 (by decide), pg 12 (by decide), pg 13 (by decide), pg 14 (by decide), e10, e2]
  rw [ot 0 (by decide) (by omega), ot 1 (by decide) (by omega), ot 3 (by decide) (by omega), ot 4 (by decide) (by omega), ot 5 (by decide) (by omega), ot 6 (by decide) (by omega), ot 7 (by decide) (by omega), ot 8 (by decide) (by omega), ot 9 (by decide) (by omega), ot 10 (by decide) (by omega), ot 11 (by decide) (by omega), ot 12 (by decide) (by omega), ot 13 (by decide) (by omega)]
  refine ⟨⟨rs0, rs1, rfl, rs3, rs4, rs5, rs6, rs7, rs8, rs9, rs10, rs13⟩, rst, fun n h0 h1 => ?_, fun s h0 h1 => ?_⟩
  · by_cases e : n = c
    · subst e
      rw [← hS2, ← hm2]
      refine ⟨?_, ?_, ?_, ?_, ?_, ?_, ?_⟩
      · rw [rset_ne (by omega), rset_ne (by omega), rset_ne (by omega), rset_ne (by omega), rset_ne (by omega), rset_ne (by omega), rset_ne (by omega), rset_eq, mset_ne (by decide), mset_ne (by decide), mset_ne (by decide), mset_ne (by decide), mset_ne (by decide), mset_ne (by decide), mset_ne (by decide), mset_eq]
      · rw [rset_ne (by omega), rset_ne (by omega), rset_ne (by omega), rset_ne (by omega), rset_ne (by omega), rset_ne (by omega), rset_eq, mset_ne (by decide), mset_ne (by decide), mset_ne (by decide), mset_ne (by decide), mset_ne (by decide), mset_ne (by decide), mset_eq]
      · rw [rset_ne (by omega), rset_ne (by omega), rset_ne (by omega), rset_ne (by omega), rset_ne (by omega), rset_eq, mset_ne (by decide), mset_ne (by decide), mset_ne (by decide), mset_ne (by decide), mset_ne (by decide), mset_eq]
      · rw [rset_ne (by omega), rset_ne (by omega), rset_ne (by omega), rset_ne (by omega), rset_eq, mset_ne (by decide), mset_ne (by decide), mset_ne (by decide), mset_ne (by decide), mset_eq]
      · rw [rset_ne (by omega), rset_ne (by omega), rset_ne (by omega), rset_eq, mset_ne (by decide), mset_ne (by decide), mset_ne (by decide), mset_eq]
      · rw [rset_ne (by omega), rset_ne (by omega), rset_eq, mset_ne (by decide), mset_ne (by decide), mset_eq]
      · rw [rset_ne (by omega), rset_eq, mset_ne (by decide), mset_eq]
    · have q := rsn n h0 (by omega)
      have sx : ∀ k : Nat, k ≠ 1 → S2 k n = S k n := fun k hk1 => by
        rw [← hS2, mset_ne hk1, mset_nj e, mset_nj e, mset_nj e, mset_nj e, mset_nj e, mset_nj e, mset_nj e, mset_nj e]
      rw [sx 2 (by decide), sx 4 (by decide), sx 5 (by decide), sx 6 (by decide), sx 7 (by decide), sx 8 (by decide), sx 9 (by decide), ot _ (by omega) (by omega), ot _ (by omega) (by omega), ot _ (by omega) (by omega), ot _ (by omega) (by omega), ot _ (by omega) (by omega), ot _ (by omega) (by omega), ot _ (by omega) (by omega)]
      exact q
  · rw [ot _ (by omega) (by omega), ot _ (by omega) (by omega), ot _ (by omega) (by omega)]; exact rsc s h0 h1
