theorem WF_fr {T : Int} {M M2 : MM} {b : Nat} (h : stg M2 b = stg M b) (hW : WF T M b) : WF T M2 b := by
  have h1 := hW.S
  rw [← h] at h1
  exact h1
theorem scn_t {arr f : Int → Int} {x : Int} {q q1 : Nat} (hq : q = q1 + 1) (h : x < f (arr q1)) : scn arr f x q = scn arr f x q1 := by
  subst hq; simp only [scn]; rw [if_pos h]
theorem scn_f {arr f : Int → Int} {x : Int} {q q1 : Nat} (hq : q = q1 + 1) (h : ¬ x < f (arr q1)) : scn arr f x q = q := by
  subst hq; simp only [scn]; rw [if_neg h]
theorem po_fin {M M2 m68 m76 : MM} {v B : Nat} {n p : Int} (hB : M (v + 1) 9 = B) (hp : 0 ≤ p ∧ p ≤ B) (h1 : ∀ i, i ≠ v + 24 → M2 i = M i) (h2 : ∀ j, j ≤ p → M2 (v + 24) j = M (v + 24) j) (h3 : ∀ j, p < j → j ≤ B → M2 (v + 24) j = M (v + 24) (j - 1))
    (hs : scn (M (v + 24)) (M (v + 21)) (M (v + 21) n) B = p.toNat) (h68 : m68 = mset M2 (v + 24) p n) (h76 : m76 = mset m68 (v + 1) 9 (m68 (v + 1) 9 + 1)) :
    (∀ i, i ≠ v + 24 → i ≠ v + 1 → m76 i = M i) ∧ (∀ j, j ≠ 9 → m76 (v + 1) j = M (v + 1) j) ∧ m76 (v + 1) 9 = B + 1 ∧ ∀ j : Nat, j ≤ B → m76 (v + 24) j = ins (M (v + 24)) (M (v + 21)) B n j := by
  subst h76; subst h68
  have e1 : ∀ j, mset M2 (v + 24) p n (v + 1) j = M (v + 1) j := fun j => by rw [mset_ne (by omega), h1 _ (by omega)]
  refine ⟨fun i i1 i2 => by rw [mset_ne i2, mset_ne i1, h1 i i1], fun j hj => by rw [mset_nj hj, e1], by rw [mset_eq, e1, hB], fun j hj => ?_⟩
  rw [mset_ne (by omega)]
  unfold ins
  rw [hs]
  by_cases a1 : (j : Int) < p
  · rw [mset_nj (by omega), h2 _ (by omega), if_pos (by omega)]
  · rw [if_neg (by omega)]
    by_cases a2 : (j : Int) = p
    · rw [if_pos (by omega), a2, mset_eq]
    · rw [if_neg (by omega), mset_nj a2, h3 _ (by omega) (by omega)]
