/-- one tick on a page -/
def tkS (S : MM) : MM :=
  let S1 := mset S 11 1 (S 11 1 + 1)
  if nowS S1 = -1000 then S1 else mset (mset S1 11 2 (tow (S1 11 2) (S1 12 (nowS S1)) (S1 15 1))) 11 3 (tow (S1 11 3) (S1 13 (nowS S1)) (S1 15 1))
/-- the class's tick, on the page -/
theorem tkM_S {T : Int} {M : MM} {b : Nat} (hW : WF T M b) (hT : T < 1000000000) : stg (tkM M b (M (b + 15) 1)) b = tkS (stg M b) := by
  have e1 : stg (mset M (b + 11) 1 (M (b + 11) 1 + 1)) b = mset (stg M b) 11 1 (stg M b 11 1 + 1) := stg_mset (by decide)
  have hW1 := WF_time hW hT
  have nr := now_rng hW1
  unfold tkM tkS
  dsimp only
  rw [← e1]
  generalize hM1 : mset M (b + 11) 1 (M (b + 11) 1 + 1) = M1 at *
  have e15 : M (b + 15) 1 = stg M1 b 15 1 := by show _ = M1 (b + 15) 1; rw [← hM1, mset_ne (by omega)]
  have en : now M1 b = nowS (stg M1 b) := now_S
  by_cases h0 : M1 (b + 11) 0 = 0
  · have q := nr.2.2 h0
    rw [if_neg (fun z => by have := z.1; omega), if_pos (by rw [← en]; exact q)]
  · have q := nr.2.1 h0
    rw [if_pos q, if_neg (by rw [← en]; omega), stg_mset (by decide), stg_mset (by decide), ← en, e15]
    have x3 : mset M1 (b + 11) 2 (tow (M1 (b + 11) 2) (M1 (b + 12) (now M1 b)) (stg M1 b 15 1)) (b + 11) 3 = M1 (b + 11) 3 := mset_nj (by decide)
    have x13 : mset M1 (b + 11) 2 (tow (M1 (b + 11) 2) (M1 (b + 12) (now M1 b)) (stg M1 b 15 1)) (b + 13) = M1 (b + 13) := mset_ne (by omega)
    rw [x3, x13]
    rfl
