/-! the images: facts -/
theorem ord_box {S : MM} {j : Nat} (h : j < nb S) : bx S (ord S j) ∧ ord S j < cnt S := ordf_box S (cnt S) j h
theorem nb_le {T : Int} {S : MM} (hW : WFS T S) : nb S ≤ 20 := by
  have hs := hW.2.1
  unfold WFSs at hs
  have := nbx_le S (cnt S)
  unfold nb; unfold cnt at *; omega
theorem frt_t {S : MM} {l c r : Int} {k k1 : Nat} (hk : k = k1 + 1) (h : cov S l c r (ord S k1)) : frt S l c r k = ord S k1 := by subst hk; simp only [frt]; rw [if_pos h]
theorem frt_f {S : MM} {l c r : Int} {k k1 : Nat} (hk : k = k1 + 1) (h : ¬ cov S l c r (ord S k1)) : frt S l c r k = frt S l c r k1 := by subst hk; simp only [frt]; rw [if_neg h]
theorem frt_rng {S : MM} {l c r : Int} : ∀ {k : Nat}, k ≤ nb S → frt S l c r k = -1000 ∨ (bx S (frt S l c r k) ∧ cov S l c r (frt S l c r k))
  | 0, _ => Or.inl rfl
  | k + 1, h => by
    by_cases hc : cov S l c r (ord S k)
    · rw [frt_t rfl hc]; exact Or.inr ⟨(ord_box (by omega)).1, hc⟩
    · rw [frt_f rfl hc]; exact frt_rng (by omega)
theorem front_rng (S : MM) (l c r : Int) : front S l c r = -1000 ∨ (bx S (front S l c r) ∧ cov S l c r (front S l c r)) := frt_rng (Nat.le_refl _)
theorem tco_rng {T : Int} {S : MM} (hW : WFS T S) (l : Int) : -1000 ≤ tco S l ∧ tco S l ≤ 300 := by
  have h := ttl_rng hW
  have hs := hW.2.1
  unfold WFSs at hs
  unfold tco co
  (repeat' split) <;> omega
theorem shd_rng {T : Int} {S : MM} (hW : WFS T S) (l c r : Int) : 0 ≤ shd S l c r ∧ shd S l c r ≤ 15 := by
  have hs := hW.2.1
  unfold WFSs at hs
  unfold shd
  split
  · omega
  · split
    · omega
    · split
      · rename_i h
        have := hW.2.2.1 _ h.1 h.2.1
        omega
      · omega
theorem gst_rng {T : Int} {S : MM} (hW : WFS T S) {x y : Int} (hx : 0 ≤ x ∧ x ≤ 15) (hy : 0 ≤ y ∧ y ≤ 15) : 0 ≤ gst S x y ∧ gst S x y ≤ 15 := by
  have hs := hW.2.1
  unfold WFSs at hs
  unfold gst
  have h : ∀ d : Int, 0 ≤ d → d ≤ 15 → 0 ≤ S 15 3 * d ∧ S 15 3 * d ≤ 1500 := fun d h0 h1 => by
    have a := mul_bd (x := S 15 3) (y := d) (A := 100) (B := 15) (by omega) (by omega) (by omega) h1
    exact ⟨Int.mul_nonneg (by omega) h0, by omega⟩
  have h2 := h (if x - y < 0 then -(x - y) else x - y) (by split <;> omega) (by split <;> omega)
  omega
/- values that are asked -/
def pick (l : List Int) (w : Int) : Int := l.getD w.toNat 0
theorem pick_rng {l : List Int} {w : Int} (h : ∀ x ∈ l, i32 x) : i32 (pick l w) := by
  unfold pick
  rw [List.getD_eq_getElem?_getD]
  cases e : l[w.toNat]? with
  | none => show i32 0; omega
  | some x => exact h x (List.mem_of_getElem? e)
def tvl (S : MM) (w : Int) : Int := if S 0 7 = 0 then -1000 else pick [S 0 5, S 0 6, S 0 7, (ttl S).1, (ttl S).2, tco S 1, tco S 0] w
def wvl (S : MM) (w : Int) : Int := pick [S 0 3, S 0 4, S 1 0, ct (bx S) (cnt S), S 11 0, S 11 1, now S 0, S 11 2, S 11 3, pct S, wnd S 1, wnd S 0, S 15 0, S 15 1, S 15 2, S 15 3] w
def nvl (S : MM) (n w : Int) : Int := if ¬ hs S n ∨ (9 ≤ w ∧ ¬ bx S n) then -1000 else pick [S 2 n, S 4 n, S 5 n, S 6 n, pos S 4 n, pos S 5 n, pos S 6 n, S 3 n, ct (fun k => S 2 k = n) (cnt S), S 7 n, S 8 n, S 9 n, rawg S (S 15 0) n, shf S n, col S 1 n, col S 0 n] w
theorem tvl_rng {T : Int} {S : MM} (hW : WFS T S) (w : Int) : i32 (tvl S w) := by
  have h1 := tco_rng hW 1
  have h0 := tco_rng hW 0
  have hs := hW.2.1
  unfold WFSs at hs
  have tr := ttl_rng hW
  unfold tvl
  split
  · omega
  · apply pick_rng
    simp only [List.mem_cons, List.not_mem_nil, or_false]
    rintro x (rfl | rfl | rfl | rfl | rfl | rfl | rfl) <;> omega
theorem wvl_rng {T : Int} {S : MM} (hW : WFS T S) (w : Int) : i32 (wvl S w) := by
  have hw0 := wnd_rng hW 0
  have hw1 := wnd_rng hW 1
  have hn := (now_rng (T := T) (M := S) (b := 0) (by
    have h := hW
    unfold WFS WFSs WFSn WFSc at h
    unfold WF WFs WFn WFc
    simp only [Nat.zero_add]
    exact h)).1
  have hs := hW.2.1
  unfold WFSs at hs
  have hp : 0 ≤ pct S ∧ pct S ≤ 100 := pctW_rng _ _ _
  have hT := hW.1
  have hc := ct_rng (bx S) (cnt S)
  have hcc : (cnt S : Int) ≤ 20 := by unfold cnt; omega
  apply pick_rng
  simp only [List.mem_cons, List.not_mem_nil, or_false]
  rintro x (rfl | rfl | rfl | rfl | rfl | rfl | rfl | rfl | rfl | rfl | rfl | rfl | rfl | rfl | rfl | rfl) <;> omega
theorem nvl_rng {T : Int} {S : MM} (hW : WFS T S) (n w : Int) (hw : 0 ≤ w ∧ w ≤ 15) : i32 (nvl S n w) := by
  have hs0 := hW.2.1
  unfold WFSs at hs0
  unfold nvl
  by_cases h : ¬ hs S n ∨ (9 ≤ w ∧ ¬ bx S n)
  · rw [if_pos h]; omega
  · rw [if_neg h]
    have hn : 0 ≤ n ∧ n < S 1 0 ∧ n < 20 := Decidable.byContradiction (fun q => h (Or.inl q))
    have hq := hW.2.2.1 n hn.1 hn.2.1
    have p4 := pos_rng hW (k := 4) (by omega) n hn.2.1
    have p5 := pos_rng hW (k := 5) (by omega) n hn.2.1
    have p6 := pos_rng hW (k := 6) (by omega) n hn.2.1
    have r1 := raw_rng hW (g := S 15 0) (by omega) n hn.2.1
    have hc := ct_rng (fun k => S 2 k = n) (cnt S)
    have hcc : (cnt S : Int) ≤ 20 := by unfold cnt; omega
    by_cases hb : bx S n
    · have a1 := shf_rng hW hb
      have a2 := col_rng hW hb 1
      have a3 := col_rng hW hb 0
      apply pick_rng
      simp only [List.mem_cons, List.not_mem_nil, or_false]
      rintro x (rfl | rfl | rfl | rfl | rfl | rfl | rfl | rfl | rfl | rfl | rfl | rfl | rfl | rfl | rfl | rfl) <;> omega
    · have hw9 : ¬ 9 ≤ w := fun q => h (Or.inr ⟨q, hb⟩)
      have e : ∀ l2 : List Int, pick ([S 2 n, S 4 n, S 5 n, S 6 n, pos S 4 n, pos S 5 n, pos S 6 n, S 3 n, ct (fun k => S 2 k = n) (cnt S)] ++ l2) w = pick [S 2 n, S 4 n, S 5 n, S 6 n, pos S 4 n, pos S 5 n, pos S 6 n, S 3 n, ct (fun k => S 2 k = n) (cnt S)] w := fun l2 => by
        unfold pick
        rw [List.getD_eq_getElem?_getD, List.getD_eq_getElem?_getD, List.getElem?_append_left (by simp; omega)]
      have e2 := e [S 7 n, S 8 n, S 9 n, rawg S (S 15 0) n, shf S n, col S 1 n, col S 0 n]
      rw [show pick [S 2 n, S 4 n, S 5 n, S 6 n, pos S 4 n, pos S 5 n, pos S 6 n, S 3 n, ct (fun k => S 2 k = n) (cnt S), S 7 n, S 8 n, S 9 n, rawg S (S 15 0) n, shf S n, col S 1 n, col S 0 n] w = _ from e2]
      apply pick_rng
      simp only [List.mem_cons, List.not_mem_nil, or_false]
      rintro x (rfl | rfl | rfl | rfl | rfl | rfl | rfl | rfl | rfl) <;> omega
