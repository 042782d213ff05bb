/-! the images: facts -/
theorem ord_box {S : MM} {j : Nat} (h : j < nb S) : bx S (ord S j) ∧ ord S j < cnt S := ordf_box S (cnt S) j h
theorem nb_le {T : Int} {S : MM} (hW : WFS T S) : nb S ≤ 20 := by
  have hs := hW.2.1
  unfold WFSs at hs
  have := nbx_le S (cnt S)
  unfold nb; unfold cnt at *; omega
theorem frt_t {S : MM} {l c r : Int} {k k1 : Nat} (hk : k = k1 + 1) (h : cov S l c r (ord S k1)) : frt S l c r k = ord S k1 := by subst hk; simp only [frt]; rw [if_pos h]
theorem frt_f {S : MM} {l c r : Int} {k k1 : Nat} (hk : k = k1 + 1) (h : ¬ cov S l c r (ord S k1)) : frt S l c r k = frt S l c r k1 := by subst hk; simp only [frt]; rw [if_neg h]
theorem frt_rng {S : MM} {l c r : Int} : ∀ {k : Nat}, k ≤ nb S → frt S l c r k = -1000 ∨ (bx S (frt S l c r k) ∧ cov S l c r (frt S l c r k))
  | 0, _ => Or.inl rfl
  | k + 1, h => by
    by_cases hc : cov S l c r (ord S k)
    · rw [frt_t rfl hc]; exact Or.inr ⟨(ord_box (by omega)).1, hc⟩
    · rw [frt_f rfl hc]; exact frt_rng (by omega)
theorem front_rng (S : MM) (l c r : Int) : front S l c r = -1000 ∨ (bx S (front S l c r) ∧ cov S l c r (front S l c r)) := frt_rng (Nat.le_refl _)
theorem tco_rng {T : Int} {S : MM} (hW : WFS T S) (l : Int) : -1000 ≤ tco S l ∧ tco S l ≤ 300 := by
  have h := ttl_rng hW
  have hs := hW.2.1
  unfold WFSs at hs
  unfold tco co
  (repeat' split) <;> omega
theorem shd_rng {T : Int} {S : MM} (hW : WFS T S) (l c r : Int) : 0 ≤ shd S l c r ∧ shd S l c r ≤ 15 := by
  have hs := hW.2.1
  unfold WFSs at hs
  unfold shd
  split
  · omega
  · split
    · omega
    · split
      · rename_i h
        have := hW.2.2.1 _ h.1 h.2.1
        omega
      · omega
theorem gst_rng {T : Int} {S : MM} (hW : WFS T S) {x y : Int} (hx : 0 ≤ x ∧ x ≤ 15) (hy : 0 ≤ y ∧ y ≤ 15) : 0 ≤ gst S x y ∧ gst S x y ≤ 15 := by
  have hs := hW.2.1
  unfold WFSs at hs
  unfold gst
  have h : ∀ d : Int, 0 ≤ d → d ≤ 15 → 0 ≤ S 15 3 * d ∧ S 15 3 * d ≤ 1500 := fun d h0 h1 => by
    have a := mul_bd (x := S 15 3) (y := d) (A := 100) (B := 15) (by omega) (by omega) (by omega) h1
    exact ⟨Int.mul_nonneg (by omega) h0, by omega⟩
  have h2 := h (if x - y < 0 then -(x - y) else x - y) (by split <;> omega) (by split <;> omega)
  omega
/- values that are asked -/
def tvl (S : MM) (w : Int) : Int := if S 0 7 = 0 then -1000 else if w = 0 then S 0 5 else if w = 1 then S 0 6 else if w = 2 then S 0 7 else if w = 3 then (ttl S).1 else if w = 4 then (ttl S).2 else if w = 5 then tco S 1 else tco S 0
def wvl (S : MM) (w : Int) : Int := if w = 0 then S 0 3 else if w = 1 then S 0 4 else if w = 2 then S 1 0 else if w = 3 then ct (bx S) (cnt S) else if w = 4 then S 11 0 else if w = 5 then S 11 1 else if w = 6 then now S 0 else if w = 7 then S 11 2 else if w = 8 then S 11 3 else if w = 9 then pct S else if w = 10 then wnd S 1 else if w = 11 then wnd S 0 else if w = 12 then S 15 0 else if w = 13 then S 15 1 else if w = 14 then S 15 2 else S 15 3
def nvl (S : MM) (n w : Int) : Int := if ¬ hs S n ∨ (9 ≤ w ∧ ¬ bx S n) then -1000 else if w = 0 then S 2 n else if w = 1 then S 4 n else if w = 2 then S 5 n else if w = 3 then S 6 n else if w = 4 then pos S 4 n else if w = 5 then pos S 5 n else if w = 6 then pos S 6 n else if w = 7 then S 3 n else if w = 8 then ct (fun k => S 2 k = n) (cnt S) else if w = 9 then S 7 n else if w = 10 then S 8 n else if w = 11 then S 9 n else if w = 12 then rawg S (S 15 0) n else if w = 13 then shf S n else if w = 14 then col S 1 n else col S 0 n
