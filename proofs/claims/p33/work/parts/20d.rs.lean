/-! the relation is kept -/
theorem stg_mset {M : MM} {b k : Nat} {j x : Int} (hk : k < 16) : stg (mset M (b + k) j x) b = mset (stg M b) k j x := by
  funext i j2
  unfold stg mset
  by_cases hi : i < 16
  · rw [if_pos hi]
    by_cases e : i = k ∧ j2 = j
    · rw [if_pos ⟨by omega, e.2⟩, if_pos e]
    · rw [if_neg (fun q => e ⟨by omega, q.2⟩), if_neg e]
      show _ = (if i < 16 then M (b + i) else fun _ => 0) j2
      rw [if_pos hi]
  · rw [if_neg hi, if_neg (fun q => hi (by omega))]
    show _ = (if i < 16 then M (b + i) else fun _ => 0) j2
    rw [if_neg hi]
theorem stg_mset0 {M : MM} {b : Nat} {j x : Int} : stg (mset M b j x) b = mset (stg M b) 0 j x := stg_mset (k := 0) (by decide)
def rset (m : Int → Int) (j x : Int) : Int → Int := fun j2 => if j2 = j then x else m j2
theorem mset_row {M : MM} {i : Nat} {j x : Int} : mset M i j x i = rset (M i) j x := by
  funext j2; unfold mset rset
  by_cases e : j2 = j
  · rw [if_pos ⟨rfl, e⟩, if_pos e]
  · rw [if_neg (fun q => e q.2), if_neg e]