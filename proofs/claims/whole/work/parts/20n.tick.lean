/-! RS: time and budget -/
theorem RS_11 {S : MM} {m : Int → Int} {w x : Int} (h : RS S m) (hw : 1 ≤ w ∧ w ≤ 3) : RS (mset S 11 w x) (rset m (3 + w) x) := by
  obtain ⟨⟨rs0, rs1, rs2, rs3, rs4, rs5, rs6, rs7, rs8, rs9, rs10, rs13⟩, rst, rsn, rsc⟩ := h
  have pg : ∀ k, k ≠ 11 → mset S 11 w x k = S k := fun k h => mset_ne h
  have hi : ∀ j : Int, 7 ≤ j ∨ j < 4 → rset m (3 + w) x j = m j := fun j hj => rset_ne (by omega)
  have p0 : mset S 11 w x 11 0 = S 11 0 := mset_nj (by omega)
  unfold RS
  rw [pg 0 (by decide), pg 1 (by decide), pg 15 (by decide), pg 2 (by decide), pg 4 (by decide), pg 5 (by decide), pg 6 (by decide), pg 7 (by decide), pg 8 (by decide), pg 9 (by decide), pg 12 (by decide), pg 13 (by decide), pg 14 (by decide), p0]
  have st : ∀ k : Int, 1 ≤ k → k ≤ 3 → m (3 + k) = S 11 k → rset m (3 + w) x (3 + k) = mset S 11 w x 11 k := fun k k0 k1 e => by
    by_cases q : k = w
    · subst q; rw [rset_eq, mset_eq]
    · rw [rset_ne (by omega), mset_nj q]; exact e
  rw [hi 0 (by decide), hi 1 (by decide), hi 2 (by decide), hi 3 (by decide), hi 7 (by decide), hi 8 (by decide), hi 9 (by decide), hi 10 (by decide), hi 11 (by decide), hi 12 (by decide), hi 13 (by decide)]
  refine ⟨⟨rs0, rs1, rs2, rs3, st 1 (by decide) (by decide) rs4, st 2 (by decide) (by decide) rs5, st 3 (by decide) (by decide) rs6, rs7, rs8, rs9, rs10, rs13⟩, rst, fun n2 h0 h1 => ?_, fun s h0 h1 => ?_⟩
  · rw [hi _ (by omega), hi _ (by omega), hi _ (by omega), hi _ (by omega), hi _ (by omega), hi _ (by omega), hi _ (by omega)]; exact rsn n2 h0 h1
  · rw [hi _ (by omega), hi _ (by omega), hi _ (by omega)]; exact rsc s h0 h1
/-- one tick on a page -/
def tkS (S : MM) : MM :=
  let S1 := mset S 11 1 (S 11 1 + 1)
  if nowS S1 = -1000 then S1 else mset (mset S1 11 2 (tow (S1 11 2) (S1 12 (nowS S1)) (S1 15 1))) 11 3 (tow (S1 11 3) (S1 13 (nowS S1)) (S1 15 1))
/-- the class's tick, on the page -/
theorem tkM_S {T : Int} {M : MM} {b : Nat} (hW : WF T M b) (hT : T < 1000000000) : stg (tkM M b (M (b + 15) 1)) b = tkS (stg M b) := by
  have e1 : stg (mset M (b + 11) 1 (M (b + 11) 1 + 1)) b = mset (stg M b) 11 1 (stg M b 11 1 + 1) := stg_mset (by decide)
  have hW1 := WF_time hW hT
  have nr := now_rng hW1
  unfold tkM tkS
  dsimp only
  rw [← e1]
  generalize hM1 : mset M (b + 11) 1 (M (b + 11) 1 + 1) = M1 at *
  have e15 : M (b + 15) 1 = stg M1 b 15 1 := by show _ = M1 (b + 15) 1; rw [← hM1, mset_ne (by omega)]
  have en : now M1 b = nowS (stg M1 b) := now_S
  by_cases h0 : M1 (b + 11) 0 = 0
  · have q := nr.2.2 h0
    rw [if_neg (fun z => by have := z.1; omega), if_pos (by rw [← en]; exact q)]
  · have q := nr.2.1 h0
    rw [if_pos q, if_neg (by rw [← en]; omega), stg_mset (by decide), stg_mset (by decide), ← en, e15]
    have x3 : mset M1 (b + 11) 2 (tow (M1 (b + 11) 2) (M1 (b + 12) (now M1 b)) (stg M1 b 15 1)) (b + 11) 3 = M1 (b + 11) 3 := mset_nj (by decide)
    have x13 : mset M1 (b + 11) 2 (tow (M1 (b + 11) 2) (M1 (b + 12) (now M1 b)) (stg M1 b 15 1)) (b + 13) = M1 (b + 13) := mset_ne (by omega)
    rw [x3, x13]
    rfl
