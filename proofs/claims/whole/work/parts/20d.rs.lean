/-! the relation is kept -/
theorem stg_mset {M : MM} {b k : Nat} {j x : Int} (hk : k < 16) : stg (mset M (b + k) j x) b = mset (stg M b) k j x := by
  funext i j2
  unfold stg mset
  by_cases hi : i < 16
  · rw [if_pos hi]
    by_cases e : i = k ∧ j2 = j
    · rw [if_pos ⟨by omega, e.2⟩, if_pos e]
    · rw [if_neg (fun q => e ⟨by omega, q.2⟩), if_neg e]
      show _ = (if i < 16 then M (b + i) else fun _ => 0) j2
      rw [if_pos hi]
  · rw [if_neg hi, if_neg (fun q => hi (by omega))]
    show _ = (if i < 16 then M (b + i) else fun _ => 0) j2
    rw [if_neg hi]
theorem stg_mset0 {M : MM} {b : Nat} {j x : Int} : stg (mset M b j x) b = mset (stg M b) 0 j x := stg_mset (k := 0) (by decide)
def rset (m : Int → Int) (j x : Int) : Int → Int := fun j2 => if j2 = j then x else m j2
theorem mset_row {M : MM} {i : Nat} {j x : Int} : mset M i j x i = rset (M i) j x := by
  funext j2; unfold mset rset
  by_cases e : j2 = j
  · rw [if_pos ⟨rfl, e⟩, if_pos e]
  · rw [if_neg (fun q => e q.2), if_neg e]
theorem rset_eq {m : Int → Int} {j x : Int} : rset m j x j = x := if_pos rfl
theorem rset_ne {m : Int → Int} {j x j2 : Int} (h : j2 ≠ j) : rset m j x j2 = m j2 := if_neg h
/-- a node is moved -/
theorem RS_mov {S : MM} {m : Int → Int} {n u v w : Int} (h : RS S m) (hn : 0 ≤ n ∧ n < 20) : RS (mset (mset (mset S 4 n u) 5 n v) 6 n w) (rset (rset (rset m (14 + 8 * n + 1) u) (14 + 8 * n + 2) v) (14 + 8 * n + 3) w) := by
  obtain ⟨⟨rs0, rs1, rs2, rs3, rs4, rs5, rs6, rs7, rs8, rs9, rs10, rs13⟩, rst, rsn, rsc⟩ := h
  have lo : ∀ j : Int, j < 14 → rset (rset (rset m (14 + 8 * n + 1) u) (14 + 8 * n + 2) v) (14 + 8 * n + 3) w j = m j := fun j hj => by rw [rset_ne (by omega), rset_ne (by omega), rset_ne (by omega)]
  have pg : ∀ k, k ≠ 4 → k ≠ 5 → k ≠ 6 → mset (mset (mset S 4 n u) 5 n v) 6 n w k = S k := fun k h4 h5 h6 => by rw [mset_ne h6, mset_ne h5, mset_ne h4]
  unfold RS
  rw [pg 0 (by decide) (by decide) (by decide), pg 1 (by decide) (by decide) (by decide), pg 11 (by decide) (by decide) (by decide), pg 15 (by decide) (by decide) (by decide), pg 2 (by decide) (by decide) (by decide), pg 7 (by decide) (by decide) (by decide), pg 8 (by decide) (by decide) (by decide), pg 9 (by decide) (by decide) (by decide), pg 12 (by decide) (by decide) (by decide), pg 13 (by decide) (by decide) (by decide), pg 14 (by decide) (by decide) (by decide)]
  rw [lo 0 (by decide), lo 1 (by decide), lo 2 (by decide), lo 3 (by decide), lo 4 (by decide), lo 5 (by decide), lo 6 (by decide), lo 7 (by decide), lo 8 (by decide), lo 9 (by decide), lo 10 (by decide), lo 11 (by decide), lo 12 (by decide), lo 13 (by decide)]
  refine ⟨⟨rs0, rs1, rs2, rs3, rs4, rs5, rs6, rs7, rs8, rs9, rs10, rs13⟩, rst, fun n2 h0 h1 => ?_, fun s h0 h1 => ?_⟩
  · have q := rsn n2 h0 h1
    by_cases e : n2 = n
    · subst e
      refine ⟨?_, ?_, ?_, ?_, ?_, ?_, ?_⟩
      · rw [rset_ne (by omega), rset_ne (by omega), rset_ne (by omega)]; exact q.1
      · rw [rset_ne (by omega), rset_ne (by omega), rset_eq, mset_ne (by decide), mset_ne (by decide), mset_eq]
      · rw [rset_ne (by omega), rset_eq, mset_ne (by decide), mset_eq]
      · rw [rset_eq, mset_eq]
      · rw [rset_ne (by omega), rset_ne (by omega), rset_ne (by omega)]; exact q.2.2.2.2.1
      · rw [rset_ne (by omega), rset_ne (by omega), rset_ne (by omega)]; exact q.2.2.2.2.2.1
      · rw [rset_ne (by omega), rset_ne (by omega), rset_ne (by omega)]; exact q.2.2.2.2.2.2
    · have ot : ∀ i : Int, 0 ≤ i → i < 8 → rset (rset (rset m (14 + 8 * n + 1) u) (14 + 8 * n + 2) v) (14 + 8 * n + 3) w (14 + 8 * n2 + i) = m (14 + 8 * n2 + i) := fun i i0 i1 => by rw [rset_ne (by omega), rset_ne (by omega), rset_ne (by omega)]
      have ot0 := ot 0 (by decide) (by decide)
      rw [Int.add_zero] at ot0
      rw [ot0, ot 1 (by decide) (by decide), ot 2 (by decide) (by decide), ot 3 (by decide) (by decide), ot 4 (by decide) (by decide), ot 5 (by decide) (by decide), ot 6 (by decide) (by decide), mset_nj e, mset_nj e, mset_nj e, mset_nj e, mset_nj e, mset_nj e, mset_nj e, mset_nj e, mset_nj e]
      exact q
  · have q := rsc s h0 h1
    rw [rset_ne (by omega), rset_ne (by omega), rset_ne (by omega), rset_ne (by omega), rset_ne (by omega), rset_ne (by omega), rset_ne (by omega), rset_ne (by omega), rset_ne (by omega)]
    exact q
