/-! the relation is kept -/
theorem stg_mset {M : MM} {b k : Nat} {j x : Int} (hk : k < 16) : stg (mset M (b + k) j x) b = mset (stg M b) k j x := by
  funext i j2
  unfold stg mset
  by_cases hi : i < 16
  · rw [if_pos hi]
    by_cases e : i = k ∧ j2 = j
    · rw [if_pos ⟨by omega, e.2⟩, if_pos e]
    · rw [if_neg (fun q => e ⟨by omega, q.2⟩), if_neg e]
      show _ = (if i < 16 then M (b + i) else fun _ => 0) j2
      rw [if_pos hi]
  · rw [if_neg hi, if_neg (fun q => hi (by omega))]
    show _ = (if i < 16 then M (b + i) else fun _ => 0) j2
    rw [if_neg hi]
theorem stg_mset0 {M : MM} {b : Nat} {j x : Int} : stg (mset M b j x) b = mset (stg M b) 0 j x := stg_mset (k := 0) (by decide)
def rset (m : Int → Int) (j x : Int) : Int → Int := fun j2 => if j2 = j then x else m j2
theorem mset_row {M : MM} {i : Nat} {j x : Int} : mset M i j x i = rset (M i) j x := by
  funext j2; unfold mset rset
  by_cases e : j2 = j
  · rw [if_pos ⟨rfl, e⟩, if_pos e]
  · rw [if_neg (fun q => e q.2), if_neg e]
theorem rset_eq {m : Int → Int} {j x : Int} : rset m j x j = x := if_pos rfl
theorem rset_ne {m : Int → Int} {j x j2 : Int} (h : j2 ≠ j) : rset m j x j2 = m j2 := if_neg h
/-- a node is moved -/
theorem RS_mov {S : MM} {m : Int → Int} {n u v w : Int} (h : RS S m) (hn : 0 ≤ n ∧ n < 20) : RS (mset (mset (mset S 4 n u) 5 n v) 6 n w) (rset (rset (rset m (14 + 8 * n + 1) u) (14 + 8 * n + 2) v) (14 + 8 * n + 3) w) := by
  obtain ⟨⟨rs0, rs1, rs2, rs3, rs4, rs5, rs6, rs7, rs8, rs9, rs10, rs13⟩, rst, rsn, rsc⟩ := h
  have lo : ∀ j : Int, j < 14 → rset (rset (rset m (14 + 8 * n + 1) u) (14 + 8 * n + 2) v) (14 + 8 * n + 3) w j = m j := fun j hj => by rw [rset_ne (by omega), rset_ne (by omega), rset_ne (by omega)]
  have pg : ∀ k, k ≠ 4 → k ≠ 5 → k ≠ 6 → mset (mset (mset S 4 n u) 5 n v) 6 n w k = S k := fun k h4 h5 h6 => by rw [mset_ne h6, mset_ne h5, mset_ne h4]
  unfold RS
  rw [pg 0 (by decide) (by decide) (by decide), pg 1 (by decide) (by decide) (by decide), pg 11 (by decide) (by decide) (by decide), pg 15 (by decide) (by decide) (by decide), pg 2 (by decide) (by decide) (by decide), pg 7 (by decide) (by decide) (by decide), pg 8 (by decide) (by decide) (by decide), pg 9 (by decide) (by decide) (by decide), pg 12 (by decide) (by decide) (by decide), pg 13 (by decide) (by decide) (by decide), pg 14 (by decide) (by decide) (by decide)]
  rw [lo 0 (by decide), lo 1 (by decide), lo 2 (by decide), lo 3 (by decide), lo 4 (by decide), lo 5 (by decide), lo 6 (by decide), lo 7 (by decide), lo 8 (by decide), lo 9 (by decide), lo 10 (by decide), lo 11 (by decide), lo 12 (by decide), lo 13 (by decide)]
  refine ⟨⟨rs0, rs1, rs2, rs3, rs4, rs5, rs6, rs7, rs8, rs9, rs10, rs13⟩, rst, fun n2 h0 h1 => ?_, fun s h0 h1 => ?_⟩
  · have q := rsn n2 h0 h1
    by_cases e : n2 = n
    · subst e
      refine ⟨?_, ?_, ?_, ?_, ?_, ?_, ?_⟩
      · rw [rset_ne (by omega), rset_ne (by omega), rset_ne (by omega)]; exact q.1
      · rw [rset_ne (by omega), rset_ne (by omega), rset_eq, mset_ne (by decide), mset_ne (by decide), mset_eq]
      · rw [rset_ne (by omega), rset_eq, mset_ne (by decide), mset_eq]
      · rw [rset_eq, mset_eq]
      · rw [rset_ne (by omega), rset_ne (by omega), rset_ne (by omega)]; exact q.2.2.2.2.1
      · rw [rset_ne (by omega), rset_ne (by omega), rset_ne (by omega)]; exact q.2.2.2.2.2.1
      · rw [rset_ne (by omega), rset_ne (by omega), rset_ne (by omega)]; exact q.2.2.2.2.2.2
    · have ot : ∀ i : Int, 0 ≤ i → i < 8 → rset (rset (rset m (14 + 8 * n + 1) u) (14 + 8 * n + 2) v) (14 + 8 * n + 3) w (14 + 8 * n2 + i) = m (14 + 8 * n2 + i) := fun i i0 i1 => by rw [rset_ne (by omega), rset_ne (by omega), rset_ne (by omega)]
      have ot0 := ot 0 (by decide) (by decide)
      rw [Int.add_zero] at ot0
      rw [ot0, ot 1 (by decide) (by decide), ot 2 (by decide) (by decide), ot 3 (by decide) (by decide), ot 4 (by decide) (by decide), ot 5 (by decide) (by decide), ot 6 (by decide) (by decide), mset_nj e, mset_nj e, mset_nj e, mset_nj e, mset_nj e, mset_nj e, mset_nj e, mset_nj e, mset_nj e]
      exact q
  · have q := rsc s h0 h1
    rw [rset_ne (by omega), rset_ne (by omega), rset_ne (by omega), rset_ne (by omega), rset_ne (by omega), rset_ne (by omega), rset_ne (by omega), rset_ne (by omega), rset_ne (by omega)]
    exact q
/-- a box is coloured -/
theorem RS_col {S : MM} {m : Int → Int} {n x : Int} (h : RS S m) (hn : 0 ≤ n ∧ n < 20) : RS (mset S 9 n x) (rset m (14 + 8 * n + 6) x) := by
  obtain ⟨⟨rs0, rs1, rs2, rs3, rs4, rs5, rs6, rs7, rs8, rs9, rs10, rs13⟩, rst, rsn, rsc⟩ := h
  have lo : ∀ j : Int, j < 14 → rset m (14 + 8 * n + 6) x j = m j := fun j hj => rset_ne (by omega)
  have pg : ∀ k, k ≠ 9 → mset S 9 n x k = S k := fun k h => mset_ne h
  unfold RS
  rw [pg 0 (by decide), pg 1 (by decide), pg 11 (by decide), pg 15 (by decide), pg 2 (by decide), pg 4 (by decide), pg 5 (by decide), pg 6 (by decide), pg 7 (by decide), pg 8 (by decide), pg 12 (by decide), pg 13 (by decide), pg 14 (by decide)]
  rw [lo 0 (by decide), lo 1 (by decide), lo 2 (by decide), lo 3 (by decide), lo 4 (by decide), lo 5 (by decide), lo 6 (by decide), lo 7 (by decide), lo 8 (by decide), lo 9 (by decide), lo 10 (by decide), lo 11 (by decide), lo 12 (by decide), lo 13 (by decide)]
  refine ⟨⟨rs0, rs1, rs2, rs3, rs4, rs5, rs6, rs7, rs8, rs9, rs10, rs13⟩, rst, fun n2 h0 h1 => ?_, fun s h0 h1 => ?_⟩
  · have q := rsn n2 h0 h1
    rw [rset_ne (by omega), rset_ne (by omega), rset_ne (by omega), rset_ne (by omega), rset_ne (by omega), rset_ne (by omega)]
    refine ⟨q.1, q.2.1, q.2.2.1, q.2.2.2.1, q.2.2.2.2.1, q.2.2.2.2.2.1, ?_⟩
    by_cases e : n2 = n
    · subst e; rw [rset_eq, mset_eq]
    · rw [rset_ne (by omega), mset_nj e]; exact q.2.2.2.2.2.2
  · have q := rsc s h0 h1
    rw [rset_ne (by omega), rset_ne (by omega), rset_ne (by omega)]
    exact q
/-- a setting -/
theorem RS_set {S : MM} {m : Int → Int} {w x : Int} (h : RS S m) (hw : 0 ≤ w ∧ w < 4) : RS (mset S 15 w x) (rset m (7 + w) x) := by
  obtain ⟨⟨rs0, rs1, rs2, rs3, rs4, rs5, rs6, rs7, rs8, rs9, rs10, rs13⟩, rst, rsn, rsc⟩ := h
  have pg : ∀ k, k ≠ 15 → mset S 15 w x k = S k := fun k h => mset_ne h
  have hi : ∀ j : Int, 14 ≤ j → rset m (7 + w) x j = m j := fun j hj => rset_ne (by omega)
  unfold RS
  rw [pg 0 (by decide), pg 1 (by decide), pg 11 (by decide), pg 2 (by decide), pg 4 (by decide), pg 5 (by decide), pg 6 (by decide), pg 7 (by decide), pg 8 (by decide), pg 9 (by decide), pg 12 (by decide), pg 13 (by decide), pg 14 (by decide)]
  have st : ∀ k : Int, 0 ≤ k → k < 4 → m (7 + k) = S 15 k → rset m (7 + w) x (7 + k) = mset S 15 w x 15 k := fun k k0 k1 e => by
    by_cases q : k = w
    · subst q; rw [rset_eq, mset_eq]
    · rw [rset_ne (by omega), mset_nj q]; exact e
  refine ⟨⟨?_, ?_, ?_, ?_, ?_, ?_, ?_, st 0 (by decide) (by decide) rs7, st 1 (by decide) (by decide) rs8, st 2 (by decide) (by decide) rs9, st 3 (by decide) (by decide) rs10, ?_⟩, ?_, fun n2 h0 h1 => ?_, fun s h0 h1 => ?_⟩
  · rw [rset_ne (by omega)]; exact rs0
  · rw [rset_ne (by omega)]; exact rs1
  · rw [rset_ne (by omega)]; exact rs2
  · rw [rset_ne (by omega)]; exact rs3
  · rw [rset_ne (by omega)]; exact rs4
  · rw [rset_ne (by omega)]; exact rs5
  · rw [rset_ne (by omega)]; exact rs6
  · rw [rset_ne (by omega)]; exact rs13
  · rw [rset_ne (by omega), rset_ne (by omega)]; exact rst
  · rw [hi _ (by omega), hi _ (by omega), hi _ (by omega), hi _ (by omega), hi _ (by omega), hi _ (by omega), hi _ (by omega)]; exact rsn n2 h0 h1
  · rw [hi _ (by omega), hi _ (by omega), hi _ (by omega)]; exact rsc s h0 h1
/-- the title -/
theorem RS_tit {S : MM} {m : Int → Int} {x y l : Int} (h : RS S m) : RS (mset (mset (mset S 0 5 x) 0 6 y) 0 7 l) (rset (rset (rset m 11 x) 12 y) 13 l) := by
  obtain ⟨⟨rs0, rs1, rs2, rs3, rs4, rs5, rs6, rs7, rs8, rs9, rs10, rs13⟩, rst, rsn, rsc⟩ := h
  have pg : ∀ k, k ≠ 0 → mset (mset (mset S 0 5 x) 0 6 y) 0 7 l k = S k := fun k h => by rw [mset_ne h, mset_ne h, mset_ne h]
  have p0 : ∀ j : Int, j < 5 → mset (mset (mset S 0 5 x) 0 6 y) 0 7 l 0 j = S 0 j := fun j hj => by rw [mset_nj (by omega), mset_nj (by omega), mset_nj (by omega)]
  have ot : ∀ j : Int, j < 11 ∨ 13 < j → rset (rset (rset m 11 x) 12 y) 13 l j = m j := fun j hj => by rw [rset_ne (by omega), rset_ne (by omega), rset_ne (by omega)]
  unfold RS
  rw [pg 1 (by decide), pg 11 (by decide), pg 15 (by decide), pg 2 (by decide), pg 4 (by decide), pg 5 (by decide), pg 6 (by decide), pg 7 (by decide), pg 8 (by decide), pg 9 (by decide), pg 12 (by decide), pg 13 (by decide), pg 14 (by decide), p0 3 (by decide), p0 4 (by decide)]
  rw [ot 0 (by decide), ot 1 (by decide), ot 2 (by decide), ot 3 (by decide), ot 4 (by decide), ot 5 (by decide), ot 6 (by decide), ot 7 (by decide), ot 8 (by decide), ot 9 (by decide), ot 10 (by decide)]
  refine ⟨⟨rs0, rs1, rs2, rs3, rs4, rs5, rs6, rs7, rs8, rs9, rs10, by rw [rset_eq, mset_eq]⟩, Or.inr ⟨?_, ?_⟩, fun n2 h0 h1 => ?_, fun s h0 h1 => ?_⟩
  · rw [rset_ne (by decide), rset_ne (by decide), rset_eq, mset_nj (by decide), mset_nj (by decide), mset_eq]
  · rw [rset_ne (by decide), rset_eq, mset_nj (by decide), mset_eq]
  · rw [ot _ (by omega), ot _ (by omega), ot _ (by omega), ot _ (by omega), ot _ (by omega), ot _ (by omega), ot _ (by omega)]; exact rsn n2 h0 h1
  · rw [ot _ (by omega), ot _ (by omega), ot _ (by omega)]; exact rsc s h0 h1
