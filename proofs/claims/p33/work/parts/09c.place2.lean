theorem WF_fr {T : Int} {M M2 : MM} {b : Nat} (h : stg M2 b = stg M b) (hW : WF T M b) : WF T M2 b := by
  have h1 := hW.S
  rw [← h] at h1
  exact h1
theorem scn_t {arr f : Int → Int} {x : Int} {q q1 : Nat} (hq : q = q1 + 1) (h : x < f (arr q1)) : scn arr f x q = scn arr f x q1 := by
  subst hq; simp only [scn]; rw [if_pos h]
theorem scn_f {arr f : Int → Int} {x : Int} {q q1 : Nat} (hq : q = q1 + 1) (h : ¬ x < f (arr q1)) : scn arr f x q = q := by
  subst hq; simp only [scn]; rw [if_neg h]
theorem po_fin {M M2 m68 m76 : MM} {v B : Nat} {n p : Int} (hB : M (v + 1) 9 = B) (hp : 0 ≤ p ∧ p ≤ B) (h1 : ∀ i, i ≠ v + 24 → M2 i = M i) (h2 : ∀ j, j ≤ p → M2 (v + 24) j = M (v + 24) j) (h3 : ∀ j, p < j → j ≤ B → M2 (v + 24) j = M (v + 24) (j - 1))
    (hs : scn (M (v + 24)) (M (v + 21)) (M (v + 21) n) B = p.toNat) (h68 : m68 = mset M2 (v + 24) p n) (h76 : m76 = mset m68 (v + 1) 9 (m68 (v + 1) 9 + 1)) :
    (∀ i, i ≠ v + 24 → i ≠ v + 1 → m76 i = M i) ∧ (∀ j, j ≠ 9 → m76 (v + 1) j = M (v + 1) j) ∧ m76 (v + 1) 9 = B + 1 ∧ ∀ j : Nat, j ≤ B → m76 (v + 24) j = ins (M (v + 24)) (M (v + 21)) B n j := by
  subst h76; subst h68
  have e1 : ∀ j, mset M2 (v + 24) p n (v + 1) j = M (v + 1) j := fun j => by rw [mset_ne (by omega), h1 _ (by omega)]
  refine ⟨fun i i1 i2 => by rw [mset_ne i2, mset_ne i1, h1 i i1], fun j hj => by rw [mset_nj hj, e1], by rw [mset_eq, e1, hB], fun j hj => ?_⟩
  rw [mset_ne (by omega)]
  unfold ins
  rw [hs]
  by_cases a1 : (j : Int) < p
  · rw [mset_nj (by omega), h2 _ (by omega), if_pos (by omega)]
  · rw [if_neg (by omega)]
    by_cases a2 : (j : Int) = p
    · rw [if_pos (by omega), a2, mset_eq]
    · rw [if_neg (by omega), mset_nj a2, h3 _ (by omega) (by omega)]
/-- a view's placing is of the page S -/
def Pld (M : MM) (v : Nat) (S : MM) : Prop :=
  (∀ n : Int, 0 ≤ n → n < S 1 0 → M (v + 18) n = pos S 4 n ∧ M (v + 19) n = pos S 5 n ∧ M (v + 20) n = pos S 6 n) ∧ (∀ n : Int, bx S n → M (v + 21) n = shf S n ∧ M (v + 22) n = col S 1 n ∧ M (v + 23) n = col S 0 n) ∧
  M (v + 1) 9 = nb S ∧ M (v + 1) 10 = pct S ∧ ∀ j : Nat, j < nb S → M (v + 24) j = ord S j
theorem ins_congr {arr arr2 f f2 : Int → Int} {n : Int} {B : Nat} (hf : f n = f2 n) (ha : ∀ j : Nat, j < B → arr j = arr2 j) (hb : ∀ j : Nat, j < B → f (arr2 j) = f2 (arr2 j)) (j : Nat) (hj : j ≤ B) : ins arr f B n j = ins arr2 f2 B n j := by
  unfold ins
  have e : scn arr f (f n) B = scn arr2 f2 (f2 n) B := scn_congr hf (fun j hj => by rw [ha j hj, hb j hj])
  rw [e]
  have h := scn_le arr2 f2 (f2 n) B
  by_cases h1 : (j : Int) < (scn arr2 f2 (f2 n) B : Nat)
  · rw [if_pos h1, if_pos h1, ha j (by omega)]
  · rw [if_neg h1, if_neg h1]
    by_cases h2 : (j : Int) = (scn arr2 f2 (f2 n) B : Nat)
    · rw [if_pos h2, if_pos h2]
    · rw [if_neg h2, if_neg h2, show (j : Int) - 1 = ((j - 1 : Nat) : Int) by omega, ha (j - 1) (by omega)]
/-- the loop of measure, its invariant: Ma the memory with places and percentage -/
def MeI (Ma M2 : MM) (v : Nat) (S : MM) (k : Nat) : Prop :=
  (∀ i, i ≠ v + 1 → i ≠ v + 21 → i ≠ v + 22 → i ≠ v + 23 → i ≠ v + 24 → M2 i = Ma i) ∧ M2 (v + 1) 10 = pct S ∧ M2 (v + 1) 9 = nbx S k ∧ (∀ n : Int, n < k → bx S n → M2 (v + 21) n = shf S n ∧ M2 (v + 22) n = col S 1 n ∧ M2 (v + 23) n = col S 0 n) ∧ ∀ j : Nat, j < nbx S k → M2 (v + 24) j = ordf S k j
theorem me_skip {Ma M2 : MM} {v : Nat} {S : MM} {k : Nat} (h : MeI Ma M2 v S k) (hb : ¬ bx S k) : MeI Ma M2 v S (k + 1) := by
  obtain ⟨h1, h2, h3, h4, h5⟩ := h
  refine ⟨h1, h2, ?_, fun n hn hx => h4 n ?_ hx, ?_⟩
  · simp only [nbx]; rw [if_neg hb]; exact h3
  · have : n ≠ (k : Int) := fun e => hb (e ▸ hx)
    omega
  · simp only [nbx, ordf]; rw [if_neg hb, if_neg hb]; exact h5
theorem me_step {Ma M2 m100 m122 m144 M3 : MM} {v : Nat} {S : MM} {k : Nat} {y1 y2 y3 : Int} (h : MeI Ma M2 v S k) (hb : bx S k)
    (e1 : m100 = mset M2 (v + 21) k y1) (e2 : m122 = mset m100 (v + 22) k y2) (e3 : m144 = mset m122 (v + 23) k y3) (d1 : y1 = shf S k) (d2 : y2 = col S 1 k) (d3 : y3 = col S 0 k)
    (f1 : ∀ i, i ≠ v + 24 → i ≠ v + 1 → M3 i = m144 i) (f2 : ∀ j, j ≠ 9 → M3 (v + 1) j = m144 (v + 1) j) (f3 : M3 (v + 1) 9 = nbx S k + 1) (f4 : ∀ j : Nat, j ≤ nbx S k → M3 (v + 24) j = ins (m144 (v + 24)) (m144 (v + 21)) (nbx S k) k j) : MeI Ma M3 v S (k + 1) := by
  obtain ⟨h1, h2, h3, h4, h5⟩ := h
  subst e3; subst e2; subst e1
  have g21 : ∀ j, mset (mset (mset M2 (v + 21) k y1) (v + 22) k y2) (v + 23) k y3 (v + 21) j = if j = k then shf S k else M2 (v + 21) j := fun j => by
    rw [mset_ne (by omega), mset_ne (by omega)]
    by_cases e : j = k
    · subst e; rw [mset_eq, if_pos rfl, d1]
    · rw [mset_nj e, if_neg e]
  refine ⟨fun i i1 i2 i3 i4 i5 => by rw [f1 i i5 i1, mset_ne i4, mset_ne i3, mset_ne i2]; exact h1 i i1 i2 i3 i4 i5, ?_, ?_, fun n hn hx => ?_, ?_⟩
  · rw [f2 10 (by decide), mset_ne (by omega), mset_ne (by omega), mset_ne (by omega)]; exact h2
  · simp only [nbx]; rw [if_pos hb, f3]; omega
  · have g22 : mset (mset (mset M2 (v + 21) k y1) (v + 22) k y2) (v + 23) k y3 (v + 22) n = if n = k then y2 else M2 (v + 22) n := by
      rw [mset_ne (by omega)]
      by_cases e : n = k
      · subst e; rw [mset_eq, if_pos rfl]
      · rw [mset_nj e, if_neg e, mset_ne (by omega)]
    have g23 : mset (mset (mset M2 (v + 21) k y1) (v + 22) k y2) (v + 23) k y3 (v + 23) n = if n = k then y3 else M2 (v + 23) n := by
      by_cases e : n = k
      · subst e; rw [mset_eq, if_pos rfl]
      · rw [mset_nj e, if_neg e, mset_ne (by omega), mset_ne (by omega)]
    rw [f1 _ (by omega) (by omega), f1 _ (by omega) (by omega), f1 _ (by omega) (by omega), g21, g22, g23]
    by_cases e : n = k
    · rw [if_pos e, if_pos e, if_pos e, e]
      exact ⟨rfl, d2, d3⟩
    · rw [if_neg e, if_neg e, if_neg e]
      exact h4 n (by omega) hx
  · simp only [nbx, ordf]
    rw [if_pos hb, if_pos hb]
    intro j hj
    rw [f4 j (by omega)]
    have o := ordf_box S k
    refine ins_congr ?_ (fun j hj => ?_) (fun j hj => ?_) j (by omega)
    · rw [g21, if_pos rfl]
    · rw [mset_ne (by omega), mset_ne (by omega), mset_ne (by omega), h5 j hj]
    · have q := o j hj
      rw [g21, if_neg (by omega), (h4 _ q.2 q.1).1]
theorem me_fin {T : Int} {M M1 m34 M2 : MM} {v k : Nat} (hW : WF T M (v + 2)) (fp1 : ∀ i, i ≠ v + 18 → i ≠ v + 19 → i ≠ v + 20 → M1 i = M i) (fp2 : ∀ n : Int, 0 ≤ n → n < M (v + 2 + 1) 0 → M1 (v + 18) n = pos (stg M (v + 2)) 4 n ∧ M1 (v + 19) n = pos (stg M (v + 2)) 5 n ∧ M1 (v + 20) n = pos (stg M (v + 2)) 6 n)
    (fr34 : ∀ i, i ≠ v + 1 → m34 i = M1 i) (hI : MeI m34 M2 v (stg M (v + 2)) k) (hk : k = cnt (stg M (v + 2))) : (∀ i, i ≠ v + 1 → (i < v + 18 ∨ v + 24 < i) → M2 i = M i) ∧ Pld M2 v (stg M (v + 2)) := by
  subst hk
  obtain ⟨h1, h2, h3, h4, h5⟩ := hI
  have hs := hW.S.2.1
  unfold WFSs at hs
  refine ⟨fun i i1 i2 => by rw [h1 i i1 (by omega) (by omega) (by omega) (by omega), fr34 i i1, fp1 i (by omega) (by omega) (by omega)], fun n n0 n1 => ?_, fun n hb => h4 n (by unfold cnt; have := hb.1; omega) hb, h3, h2, h5⟩
  rw [h1 _ (by omega) (by omega) (by omega) (by omega) (by omega), h1 _ (by omega) (by omega) (by omega) (by omega) (by omega), h1 _ (by omega) (by omega) (by omega) (by omega) (by omega), fr34 _ (by omega), fr34 _ (by omega), fr34 _ (by omega)]
  exact fp2 n n0 n1
