section RULES
variable {E : EE} {X : JX} {cc : ByteArray} {own : String} {nl d c0 s0 : Nat} {pc : Nat} {L : List (Nat × Value)} {st : List Value} {K : Nat → Nat} {M : MM} {a b : Nat}
theorem J_icmpb_eq (hX : XO E X cc own nl d c0 s0) {P Q : Prop} [Decidable P] [Decidable Q] {off : Int} (t : Nat) (hd : decode cc pc = .ok (.if_icmp .eq off, 3)) (ht : (pc : Int) + off = (t : Int)) (kt : (P ↔ Q) → J E X t L st K M a b) (kf : ¬ (P ↔ Q) → J E X (pc + 3) L st K M a b) : J E X pc L (vI (bI Q) :: vI (bI P) :: st) K M a b := by
  have hP := bI_01 P
  have hQ := bI_01 Q
  refine J_icmp_eq hX t hd (by omega) (by omega) ht (fun h => kt ?_) (fun h => kf ?_)
  · by_cases p : P
    · rw [bI_t p] at h; exact ⟨fun _ => bI_1.mp h.symm, fun _ => p⟩
    · rw [bI_f p] at h; exact ⟨fun q => absurd q p, fun q => absurd q (bI_0.mp h.symm)⟩
  · intro e; exact h (bI_c e)
end RULES
/-- a row is like the one above it -/
def lkn (S : MM) (r : Int) : Nat → Bool
  | 0 => true
  | k + 1 => lkn S r k && decide (inRw S k r ↔ inRw S k (r - 1))
abbrev lka (S : MM) (r : Int) : Prop := r ≠ (ttl S).1 ∧ r - 1 ≠ (ttl S).1 ∧ lkn S r (cnt S) = true
theorem lkn_t {S : MM} {r : Int} {k : Nat} : lkn S r (k + 1) = true ↔ lkn S r k = true ∧ (inRw S k r ↔ inRw S k (r - 1)) := by
  simp only [lkn, Bool.and_eq_true, decide_eq_true_eq]
theorem lkn_all {S : MM} {r : Int} : ∀ {k : Nat}, lkn S r k = true → ∀ j : Nat, j < k → (inRw S j r ↔ inRw S j (r - 1))
  | 0, _, j, h => absurd h (by omega)
  | k + 1, hh, j, h => by
    rw [lkn_t] at hh
    by_cases e : j = k
    · subst e; exact hh.2
    · exact lkn_all hh.1 j (by omega)
theorem shd_like {S : MM} {r : Int} (h : lka S r) (l c : Int) : shd S l c r = shd S l c (r - 1) := by
  have hf : ∀ k, k ≤ nb S → frt S l c r k = frt S l c (r - 1) k := by
    intro k
    induction k with
    | zero => intro _; rfl
    | succ k ih =>
      intro hk
      have ob := ord_box (S := S) (j := k) (by omega)
      have e : inRw S (ord S k) r ↔ inRw S (ord S k) (r - 1) := by
        have z := lkn_all h.2.2 (ord S k).toNat (by have := ob.1.1; omega)
        rw [show (((ord S k).toNat : Nat) : Int) = ord S k by have := ob.1.1; omega] at z
        exact z
      by_cases hc : cov S l c r (ord S k)
      · rw [frt_t rfl hc, frt_t rfl ⟨e.mp hc.1, hc.2⟩]
      · rw [frt_f rfl hc, frt_f rfl (fun q => hc ⟨e.mpr q.1, q.2⟩), ih (by omega)]
  have e1 : front S l c r = front S l c (r - 1) := hf (nb S) (Nat.le_refl _)
  unfold shd
  rw [e1]
  have a1 : ¬ (r = (ttl S).1 ∧ tco S l ≤ c ∧ c < tco S l + S 0 7) := fun q => h.1 q.1
  have a2 : ¬ (r - 1 = (ttl S).1 ∧ tco S l ≤ c ∧ c < tco S l + S 0 7) := fun q => h.2.1 q.1
  by_cases h1 : c < opn S l ∨ cls S l ≤ c
  · rw [if_pos h1, if_pos h1]
  · rw [if_neg h1, if_neg h1, if_neg a1, if_neg a2]
/-- what the rows of cells hold -/
def Cel (M : MM) (v : Nat) (S : MM) (r : Int) : Prop := ∀ c : Int, 0 ≤ c → c < S 0 3 → M (v + 25) c = shd S 1 c r ∧ M (v + 26) c = shd S 0 c r
def HOK (M : MM) (v : Nat) (S : MM) : Prop := M v 9 = -1000 ∨ (0 ≤ M v 9 ∧ M v 9 < S 0 4 ∧ Cel M v S (M v 9))
/-- painted so far: the first k of the order -/
def pnt (S : MM) (l r : Int) (k : Nat) (c : Int) : Int := if hs S (frt S l c r k) then S 9 (frt S l c r k) else S 15 2
def gcnt (S : MM) (least r : Int) : Int := ct (fun c => least ≤ ghs S c r) (S 0 3).toNat
def gall (S : MM) (least : Int) : Int := sm (gcnt S least) (S 0 4).toNat
def gsum (S : MM) (r : Int) : Int := sm (fun c => ghs S c r) (S 0 3).toNat
theorem Vwt.fr {M M2 : MM} {v : Nat} {S : MM} (h : Vwt M v S) (h1 : ∀ i, i ≠ v → (i = v + 1 ∨ (v + 18 ≤ i ∧ i ≤ v + 24)) → M2 i = M i) (h3 : ∀ j, j ≠ 9 → M2 v j = M v j) : Vwt M2 v S :=
  ⟨⟨h.1.1.fr (fun i hi => h1 i (by omega) hi), (h3 3 (by decide)).trans h.1.2.1, (h3 4 (by decide)).trans h.1.2.2⟩, (h3 5 (by decide)).trans h.2.1, (h3 6 (by decide)).trans h.2.2⟩
theorem pnt_0 (S : MM) (l r c : Int) : pnt S l r 0 c = S 15 2 := by
  unfold pnt
  rw [if_neg]
  intro h
  have : (0 : Int) ≤ -1000 := h.1
  omega
theorem pnt_skip {S : MM} {l r c : Int} {k : Nat} (h : ¬ inRw S (ord S k) r) : pnt S l r k c = pnt S l r (k + 1) c := by
  unfold pnt
  rw [frt_f (k := k + 1) rfl (fun q => h q.1)]
theorem pnt_step {M M2 : MM} {v a k : Nat} {l r c W cc : Int} {S : MM} (hp : M2 a c = pnt S l r k c) (c0 : 0 ≤ c) (c1 : c < W) (hin : inRw (stg M2 (v + 2)) (ord S k) r) (hst : stg M2 (v + 2) = S) (zc : cc = col S l (ord S k)) (z7 : M2 (v + 2 + 7) (ord S k) = M (v + 2 + 7) (ord S k)) (z9 : M2 (v + 2 + 9) (ord S k) = M (v + 2 + 9) (ord S k)) (hb : bx S (ord S k)) :
    (if (cc ≤ c ∧ 0 ≤ c) ∧ (c < cc + M2 (v + 2 + 7) (ord S k) ∧ c < W) then M2 (v + 2 + 9) (ord S k) else M2 a c) = pnt S l r (k + 1) c := by
  rw [hst] at hin
  have e7 : S 7 (ord S k) = M2 (v + 2 + 7) (ord S k) := by rw [← hst]; rfl
  have e9 : S 9 (ord S k) = M2 (v + 2 + 9) (ord S k) := by rw [← hst]; rfl
  subst zc
  by_cases h : cov S l c r (ord S k)
  · have h2 := h.2
    rw [e7] at h2
    rw [if_pos ⟨⟨h2.1, c0⟩, h2.2, c1⟩]
    unfold pnt
    rw [frt_t (k := k + 1) rfl h, if_pos hb.1, e9]
  · have h2 : ¬ ((col S l (ord S k) ≤ c ∧ 0 ≤ c) ∧ (c < col S l (ord S k) + M2 (v + 2 + 7) (ord S k) ∧ c < W)) := fun q => h ⟨hin, q.1.1, by rw [e7]; exact q.2.1⟩
    rw [if_neg h2, hp]
    unfold pnt
    rw [frt_f (k := k + 1) rfl h]
theorem pr_fin {M : MM} {v : Nat} {l r c o cl : Int} (c0 : 0 ≤ c) (c1 : c < M (v + 2) 3) (eO : o = opn (stg M (v + 2)) l) (eC : cl = cls (stg M (v + 2)) l) :
    (if (cls (stg M (v + 2)) l ≤ c ∧ 0 ≤ c) ∧ (c < M (v + 2) 3 ∧ c < M (v + 2) 3) then 0 else if ((0 : Int) ≤ c ∧ 0 ≤ c) ∧ (c < o ∧ c < M (v + 2) 3) then 0 else
      if r = (ttl (stg M (v + 2))).1 ∧ tco (stg M (v + 2)) l ≤ c ∧ c < tco (stg M (v + 2)) l + M (v + 2) 7 then 15 else pnt (stg M (v + 2)) l r (nb (stg M (v + 2))) c) = shd (stg M (v + 2)) l c r := by
  subst eO
  have s7 : stg M (v + 2) 0 7 = M (v + 2) 7 := rfl
  unfold shd
  by_cases h1 : c < opn (stg M (v + 2)) l ∨ cls (stg M (v + 2)) l ≤ c
  · rw [if_pos h1]
    rcases h1 with h1 | h1
    · by_cases h2 : (cls (stg M (v + 2)) l ≤ c ∧ 0 ≤ c) ∧ (c < M (v + 2) 3 ∧ c < M (v + 2) 3)
      · rw [if_pos h2]
      · rw [if_neg h2, if_pos ⟨⟨c0, c0⟩, h1, c1⟩]
    · rw [if_pos ⟨⟨h1, c0⟩, c1, c1⟩]
  · rw [if_neg h1, if_neg (fun q => h1 (Or.inr q.1.1)), if_neg (fun q => h1 (Or.inl q.2.1)), s7]
    rfl
theorem ho_same {M M2 : MM} {v : Nat} {S : MM} {r : Int} (hH : HOK M v S) (h25 : M2 (v + 25) = M (v + 25)) (h26 : M2 (v + 26) = M (v + 26)) (hr : 0 ≤ r) (h : r = M v 9 ∨ (r = M v 9 + 1 ∧ lka S r)) : Cel M2 v S r := by
  intro c c0 c1
  rw [h25, h26]
  rcases hH with q | ⟨q0, q1, q2⟩
  · rcases h with h | h
    · omega
    · omega
  · have q3 := q2 c c0 c1
    rcases h with h | ⟨h, hl⟩
    · rw [h]; exact q3
    · rw [shd_like hl, shd_like hl, show r - 1 = M v 9 by omega]; exact q3
theorem ghs_rng {T : Int} {S : MM} (hW : WFS T S) (c r : Int) : 0 ≤ ghs S c r ∧ ghs S c r ≤ 15 := gst_rng hW (shd_rng hW 1 c r) (shd_rng hW 0 c r)
theorem gcnt_rng {T : Int} {S : MM} (hW : WFS T S) (least r : Int) : 0 ≤ gcnt S least r ∧ gcnt S least r ≤ 200 := by
  have hs := hW.2.1
  unfold WFSs at hs
  have h := ct_rng (fun c => least ≤ ghs S c r) (S 0 3).toNat
  unfold gcnt; omega
theorem gcnt_like {S : MM} {least r : Int} (h : lka S r) : gcnt S least r = gcnt S least (r - 1) := by
  unfold gcnt
  refine ct_congr (fun j _ => ?_)
  unfold ghs
  rw [shd_like h, shd_like h]
theorem sm_gcnt {T : Int} {S : MM} (hW : WFS T S) (least : Int) (k : Nat) (hk : (k : Int) ≤ 120) : 0 ≤ sm (gcnt S least) k ∧ sm (gcnt S least) k ≤ 24000 := by
  have h := sm_rng (f := gcnt S least) (A := 200) (k := k) (fun j _ => gcnt_rng hW least j)
  omega
theorem sm_ghs {T : Int} {S : MM} (hW : WFS T S) (r : Int) (k : Nat) (hk : (k : Int) ≤ 200) : 0 ≤ sm (fun c => ghs S c r) k ∧ sm (fun c => ghs S c r) k ≤ 3000 := by
  have h := sm_rng (f := fun c => ghs S c r) (A := 15) (k := k) (fun j _ => ghs_rng hW j r)
  omega
theorem Cel.fr {M M2 : MM} {v : Nat} {S : MM} {r : Int} (h : Cel M v S r) (h25 : M2 (v + 25) = M (v + 25)) (h26 : M2 (v + 26) = M (v + 26)) : Cel M2 v S r := by
  intro c c0 c1; rw [h25, h26]; exact h c c0 c1
