/-! what the class's words say of each other -/
theorem nodeOK {S : MM} {n k : Int} (hn : hs S n) (hk : 0 ≤ k ∧ k ≤ 15) : f2l (if hs S n then 0 else 1) (if 0 ≤ k ∧ k ≤ 15 then 0 else 2) = 0 := by
  rw [if_pos hn, if_pos hk]; rfl
theorem nv_n {S : MM} {n w : Int} (hn : hs S n) (hw : w < 9 ∨ 0 < S 7 n) : nvl S n w = pick [S 2 n, S 4 n, S 5 n, S 6 n, pos S 4 n, pos S 5 n, pos S 6 n, S 3 n, ct (fun k => S 2 k = n) (cnt S), S 7 n, S 8 n, S 9 n, rawg S (S 15 0) n, shf S n, col S 1 n, col S 0 n] w := by
  unfold nvl
  refine if_neg (fun h => ?_)
  rcases h with h | ⟨h1, h2⟩
  · exact h hn
  · rcases hw with h3 | h3
    · omega
    · exact h2 ⟨hn, h3⟩
theorem nv_g {S : MM} {n w : Int} (hg : ¬ 0 < S 7 n) (hw : 9 ≤ w) : nvl S n w = -1000 := by
  unfold nvl
  exact if_pos (Or.inr ⟨hw, fun h => hg h.2⟩)
theorem nv_0 {S : MM} {n w : Int} (hw : w = 0) (hn : hs S n) : nvl S n w = S 2 n := by
  subst hw
  exact nv_n hn (Or.inl (by decide))
theorem nv_1 {S : MM} {n w : Int} (hw : w = 1) (hn : hs S n) : nvl S n w = S 4 n := by
  subst hw
  exact nv_n hn (Or.inl (by decide))
theorem nv_2 {S : MM} {n w : Int} (hw : w = 2) (hn : hs S n) : nvl S n w = S 5 n := by
  subst hw
  exact nv_n hn (Or.inl (by decide))
theorem nv_3 {S : MM} {n w : Int} (hw : w = 3) (hn : hs S n) : nvl S n w = S 6 n := by
  subst hw
  exact nv_n hn (Or.inl (by decide))
theorem nv_4 {S : MM} {n w : Int} (hw : w = 4) (hn : hs S n) : nvl S n w = pos S 4 n := by
  subst hw
  exact nv_n hn (Or.inl (by decide))
theorem nv_5 {S : MM} {n w : Int} (hw : w = 5) (hn : hs S n) : nvl S n w = pos S 5 n := by
  subst hw
  exact nv_n hn (Or.inl (by decide))
theorem nv_6 {S : MM} {n w : Int} (hw : w = 6) (hn : hs S n) : nvl S n w = pos S 6 n := by
  subst hw
  exact nv_n hn (Or.inl (by decide))
theorem nv_7 {S : MM} {n w : Int} (hw : w = 7) (hn : hs S n) : nvl S n w = S 3 n := by
  subst hw
  exact nv_n hn (Or.inl (by decide))
theorem nv_8 {S : MM} {n w : Int} (hw : w = 8) (hn : hs S n) : nvl S n w = ct (fun k => S 2 k = n) (cnt S) := by
  subst hw
  exact nv_n hn (Or.inl (by decide))
theorem nv_9 {S : MM} {n w : Int} (hw : w = 9) (hn : hs S n) (hb : 0 < S 7 n) : nvl S n w = S 7 n := by
  subst hw
  exact nv_n hn (Or.inr hb)
theorem nv_10 {S : MM} {n w : Int} (hw : w = 10) (hn : hs S n) (hb : 0 < S 7 n) : nvl S n w = S 8 n := by
  subst hw
  exact nv_n hn (Or.inr hb)
theorem nv_11 {S : MM} {n w : Int} (hw : w = 11) (hn : hs S n) (hb : 0 < S 7 n) : nvl S n w = S 9 n := by
  subst hw
  exact nv_n hn (Or.inr hb)
theorem nv_12 {S : MM} {n w : Int} (hw : w = 12) (hn : hs S n) (hb : 0 < S 7 n) : nvl S n w = rawg S (S 15 0) n := by
  subst hw
  exact nv_n hn (Or.inr hb)
theorem nv_13 {S : MM} {n w : Int} (hw : w = 13) (hn : hs S n) (hb : 0 < S 7 n) : nvl S n w = shf S n := by
  subst hw
  exact nv_n hn (Or.inr hb)
theorem nv_14 {S : MM} {n w : Int} (hw : w = 14) (hn : hs S n) (hb : 0 < S 7 n) : nvl S n w = col S 1 n := by
  subst hw
  exact nv_n hn (Or.inr hb)
theorem nv_15 {S : MM} {n w : Int} (hw : w = 15) (hn : hs S n) (hb : 0 < S 7 n) : nvl S n w = col S 0 n := by
  subst hw
  exact nv_n hn (Or.inr hb)
theorem wv_0 {S : MM} {w : Int} (hw : w = 0) : wvl S w = S 0 3 := by
  subst hw
  rfl
theorem wv_1 {S : MM} {w : Int} (hw : w = 1) : wvl S w = S 0 4 := by
  subst hw
  rfl
theorem wv_2 {S : MM} {w : Int} (hw : w = 2) : wvl S w = S 1 0 := by
  subst hw
  rfl
theorem wv_3 {S : MM} {w : Int} (hw : w = 3) : wvl S w = ct (bx S) (cnt S) := by
  subst hw
  rfl
theorem wv_4 {S : MM} {w : Int} (hw : w = 4) : wvl S w = S 11 0 := by
  subst hw
  rfl
theorem wv_5 {S : MM} {w : Int} (hw : w = 5) : wvl S w = S 11 1 := by
  subst hw
  rfl
theorem wv_6 {S : MM} {w : Int} (hw : w = 6) : wvl S w = now S 0 := by
  subst hw
  rfl
theorem wv_7 {S : MM} {w : Int} (hw : w = 7) : wvl S w = S 11 2 := by
  subst hw
  rfl
theorem wv_8 {S : MM} {w : Int} (hw : w = 8) : wvl S w = S 11 3 := by
  subst hw
  rfl
theorem wv_9 {S : MM} {w : Int} (hw : w = 9) : wvl S w = pct S := by
  subst hw
  rfl
theorem wv_10 {S : MM} {w : Int} (hw : w = 10) : wvl S w = wnd S 1 := by
  subst hw
  rfl
theorem wv_11 {S : MM} {w : Int} (hw : w = 11) : wvl S w = wnd S 0 := by
  subst hw
  rfl
theorem wv_12 {S : MM} {w : Int} (hw : w = 12) : wvl S w = S 15 0 := by
  subst hw
  rfl
theorem wv_13 {S : MM} {w : Int} (hw : w = 13) : wvl S w = S 15 1 := by
  subst hw
  rfl
theorem wv_14 {S : MM} {w : Int} (hw : w = 14) : wvl S w = S 15 2 := by
  subst hw
  rfl
theorem wv_15 {S : MM} {w : Int} (hw : w = 15) : wvl S w = S 15 3 := by
  subst hw
  rfl
theorem tv_0 {S : MM} {w : Int} (hw : w = 0) (h : S 0 7 ≠ 0) : tvl S w = S 0 5 := by
  subst hw
  exact if_neg h
theorem tv_1 {S : MM} {w : Int} (hw : w = 1) (h : S 0 7 ≠ 0) : tvl S w = S 0 6 := by
  subst hw
  exact if_neg h
theorem tv_2 {S : MM} {w : Int} (hw : w = 2) (h : S 0 7 ≠ 0) : tvl S w = S 0 7 := by
  subst hw
  exact if_neg h
theorem tv_3 {S : MM} {w : Int} (hw : w = 3) (h : S 0 7 ≠ 0) : tvl S w = (ttl S).1 := by
  subst hw
  exact if_neg h
theorem tv_4 {S : MM} {w : Int} (hw : w = 4) (h : S 0 7 ≠ 0) : tvl S w = (ttl S).2 := by
  subst hw
  exact if_neg h
theorem tv_5 {S : MM} {w : Int} (hw : w = 5) (h : S 0 7 ≠ 0) : tvl S w = tco S 1 := by
  subst hw
  exact if_neg h
theorem tv_6 {S : MM} {w : Int} (hw : w = 6) (h : S 0 7 ≠ 0) : tvl S w = tco S 0 := by
  subst hw
  exact if_neg h
/- the places -/
theorem posF {T : Int} {S : MM} (hW : WFS T S) {n : Int} (hn : hs S n) : (-1200 ≤ pos S 4 n ∧ pos S 4 n ≤ 1200) ∧ (-1200 ≤ pos S 5 n ∧ pos S 5 n ≤ 1200) ∧ (-1200 ≤ pos S 6 n ∧ pos S 6 n ≤ 1200) :=
  ⟨pos_rng hW (Or.inl rfl) n hn.2.1, pos_rng hW (Or.inr (Or.inl rfl)) n hn.2.1, pos_rng hW (Or.inr (Or.inr rfl)) n hn.2.1⟩
theorem pos_top {T : Int} {S : MM} (hW : WFS T S) (k : Nat) {n : Int} (hn : hs S n) (hu : S 2 n = -1000) : pos S k n = S k n := by
  rw [pos_eq hW k hn.1 hn.2.1, hu, pos_neg (by decide)]; omega
/- the percentage -/
theorem pctF_max {S : MM} {g lo hi : Int} : ∀ (N p : Nat), pctF S g lo hi N < p → p ≤ N → fits1 S g (p : Nat) lo hi ≠ true
  | 0, p, h1, h2 => by omega
  | N + 1, p, h1, h2 => by
    by_cases h : fits1 S g ((N + 1 : Nat) : Int) lo hi = true
    · rw [pctF_t rfl h] at h1; omega
    · rw [pctF_f rfl h] at h1
      by_cases e : p = N + 1
      · rw [e]; exact h
      · exact pctF_max N p h1 (by omega)
theorem pct_max {S : MM} (h : pct S < 100) : fits1 S (S 15 0) (pct S + 1) (S 11 2) (S 11 3) ≠ true := by
  have e : pct S = (pctF S (S 15 0) (S 11 2) (S 11 3) 100 : Nat) := rfl
  have h2 := pctF_max (S := S) (g := S 15 0) (lo := S 11 2) (hi := S 11 3) 100 (pctF S (S 15 0) (S 11 2) (S 11 3) 100 + 1) (by omega) (by omega)
  rw [e]
  exact_mod_cast h2
theorem pctW_100 {S : MM} {lo hi : Int} : fits1 S (S 15 0) 100 lo hi = true ↔ pctW S lo hi = 100 := by
  unfold pctW
  constructor
  · intro h
    rw [pctF_t (p := 100) (p1 := 99) rfl h]; rfl
  · intro h
    by_cases q : fits1 S (S 15 0) 100 lo hi = true
    · exact q
    · rw [pctF_f (p := 100) (p1 := 99) rfl q] at h
      have := pctF_rng S (S 15 0) lo hi 99
      omega
/- a box's shift -/
theorem boxF {T : Int} {S : MM} (hW : WFS T S) {n : Int} (hb : bx S n) : (-1200 ≤ rawg S (S 15 0) n ∧ rawg S (S 15 0) n ≤ 1200) ∧ (-20 ≤ shf S n ∧ shf S n ≤ 20 ∧ S 11 2 ≤ shf S n ∧ shf S n ≤ S 11 3) ∧ (pct S = 100 → shf S n = rawg S (S 15 0) n) ∧ (0 ≤ rawg S (S 15 0) n → 0 ≤ shf S n ∧ shf S n ≤ rawg S (S 15 0) n) ∧ (rawg S (S 15 0) n < 0 → shf S n ≤ 0 ∧ rawg S (S 15 0) n ≤ shf S n) ∧ col S 1 n - col S 0 n = shf S n ∧ (pos S 4 n - 20 ≤ col S 1 n ∧ col S 1 n ≤ pos S 4 n + 20) ∧ (-1300 ≤ col S 1 n ∧ col S 1 n ≤ 1300) ∧ (-1300 ≤ col S 0 n ∧ col S 0 n ≤ 1300) := by
  have hw := hW.2.1
  unfold WFSs at hw
  have h1 := raw_rng hW (g := S 15 0) (by omega) n hb.1.2.1
  have h2 := shf_rng hW hb
  have hp := pctW_rng S (S 11 2) (S 11 3)
  have hp' : 0 ≤ pct S ∧ pct S ≤ 100 := hp
  have e1 : col S 1 n = pos S 4 n + (shf S n + 1) / 2 := by unfold col co; rw [if_neg (by decide)]
  have e0 : col S 0 n = pos S 4 n - shf S n / 2 := by unfold col co; rw [if_pos rfl]
  have es : shf S n = rawg S (S 15 0) n * pct S / 100 := rfl
  generalize hr : rawg S (S 15 0) n = r at *
  generalize hd : shf S n = d at *
  generalize hg : pct S = g at *
  refine ⟨h1, h2, fun h => ?_, fun h => ?_, fun h => ?_, by omega, by omega, ?_, ?_⟩
  · rw [es, h]; omega
  · have m1 : 0 ≤ r * g := Int.mul_nonneg h hp'.1
    have m2 : r * g ≤ r * 100 := Int.mul_le_mul_of_nonneg_left hp'.2 h
    omega
  · have m1 : 0 ≤ (-r) * g := Int.mul_nonneg (by omega) hp'.1
    have m2 : (-r) * g ≤ (-r) * 100 := Int.mul_le_mul_of_nonneg_left hp'.2 (by omega)
    rw [Int.neg_mul] at m1 m2
    omega
  · exact col_rng hW hb 1
  · exact col_rng hW hb 0
/- the order of painting -/
def lxl (f : Int → Int) (a b : Int) : Prop := f a < f b ∨ f a = f b ∧ a < b
theorem scn_spec (arr f : Int → Int) (x : Int) : ∀ Q : Nat, (∀ i : Nat, scn arr f x Q ≤ i → i < Q → x < f (arr i)) ∧ (0 < scn arr f x Q → ¬ x < f (arr ((scn arr f x Q - 1 : Nat) : Int)))
  | 0 => ⟨fun i _ h => by omega, fun h => absurd h (by simp [scn])⟩
  | Q + 1 => by
    by_cases h : x < f (arr (Q : Nat))
    · rw [scn_t rfl h]
      obtain ⟨h1, h2⟩ := scn_spec arr f x Q
      refine ⟨fun i h3 h4 => ?_, h2⟩
      by_cases e : i = Q
      · rw [e]; exact h
      · exact h1 i h3 (by omega)
    · rw [scn_f rfl h]
      exact ⟨fun i h3 h4 => by omega, fun _ => h⟩
theorem ordf_srt (S : MM) : ∀ (k i j : Nat), i < j → j < nbx S k → lxl (shf S) (ordf S k i) (ordf S k j)
  | 0, i, j, _, h => by simp [nbx] at h
  | k + 1, i, j, hij, hj => by
    by_cases hb : bx S k
    · have en : nbx S (k + 1) = nbx S k + 1 := by simp only [nbx]; rw [if_pos hb]
      have eo : ordf S (k + 1) = ins (ordf S k) (shf S) (nbx S k) k := by simp only [ordf]; rw [if_pos hb]
      rw [en] at hj
      rw [eo]
      have hq := scn_le (ordf S k) (shf S) (shf S k) (nbx S k)
      obtain ⟨s1, s2⟩ := scn_spec (ordf S k) (shf S) (shf S k) (nbx S k)
      generalize hQ : scn (ordf S k) (shf S) (shf S k) (nbx S k) = Q at *
      have v : ∀ m : Nat, ins (ordf S k) (shf S) (nbx S k) k (m : Int) = if m < Q then ordf S k m else if m = Q then (k : Int) else ordf S k ((m - 1 : Nat) : Int) := by
        intro m
        unfold ins
        rw [hQ]
        by_cases c1 : m < Q
        · rw [if_pos (by omega), if_pos c1]
        · rw [if_neg (by omega), if_neg c1]
          by_cases c2 : m = Q
          · rw [if_pos (by omega), if_pos c2]
          · rw [if_neg (by omega), if_neg c2, show (m : Int) - 1 = ((m - 1 : Nat) : Int) by omega]
      have lo : ∀ m : Nat, m < Q → lxl (shf S) (ordf S k m) k := by
        intro m hm
        have h9 := s2 (by omega)
        have hk := (ordf_box S k m (by omega)).2
        by_cases e : m = Q - 1
        · rw [← e] at h9
          unfold lxl
          omega
        · have h8 := ordf_srt S k m (Q - 1) (by omega) (by omega)
          unfold lxl at h8 ⊢
          omega
      have up : ∀ m : Nat, Q ≤ m → m < nbx S k → lxl (shf S) k (ordf S k m) := fun m h1 h2 => Or.inl (s1 m h1 h2)
      rw [v i, v j]
      by_cases c1 : j < Q
      · rw [if_pos (by omega), if_pos c1]; exact ordf_srt S k i j hij (by omega)
      · rw [if_neg c1]
        by_cases c2 : j = Q
        · rw [if_pos c2, if_pos (by omega)]; exact lo i (by omega)
        · rw [if_neg c2]
          by_cases c3 : i < Q
          · rw [if_pos c3]
            have a1 := lo i c3
            have a2 := up (j - 1) (by omega) (by omega)
            unfold lxl at a1 a2 ⊢
            omega
          · rw [if_neg c3]
            by_cases c4 : i = Q
            · rw [if_pos c4]; exact up (j - 1) (by omega) (by omega)
            · rw [if_neg c4]; exact ordf_srt S k (i - 1) (j - 1) (by omega) (by omega)
    · have en : nbx S (k + 1) = nbx S k := by simp only [nbx]; rw [if_neg hb]
      have eo : ordf S (k + 1) = ordf S k := by simp only [ordf]; rw [if_neg hb]
      rw [en] at hj
      rw [eo]
      exact ordf_srt S k i j hij hj
theorem ord_srt {S : MM} {i j : Nat} (h : i < j) (hj : j < nb S) : lxl (shf S) (ord S i) (ord S j) := ordf_srt S (cnt S) i j h hj
/- the window -/
theorem gcut_ge {S : MM} {l e : Int} : ∀ k : Nat, e ≤ gcut S l e k
  | 0 => Int.le_refl _
  | k + 1 => by
    have ih := gcut_ge (S := S) (l := l) (e := e) k
    by_cases h : gcut S l e k < shf S k ∧ cut S l e k
    · rw [gcut_t h]; omega
    · rw [gcut_f h]; exact ih
theorem gcut_up {S : MM} {l e : Int} : ∀ (k j : Nat), gcut S l e k ≤ gcut S l e (k + j)
  | k, 0 => Int.le_refl _
  | k, j + 1 => by
    have ih := gcut_up (S := S) (l := l) (e := e) k j
    by_cases h : gcut S l e (k + j) < shf S (k + j : Nat) ∧ cut S l e (k + j : Nat)
    · rw [show k + (j + 1) = (k + j) + 1 from rfl, gcut_t h]; omega
    · rw [show k + (j + 1) = (k + j) + 1 from rfl, gcut_f h]; exact ih
theorem gct_fix {S : MM} {l e : Int} (h : gct S l e = e) {n : Int} (hn : 0 ≤ n) (hc : n < cnt S) : ¬ (e < shf S n ∧ cut S l e n) := by
  intro q
  obtain ⟨k, rfl⟩ : ∃ k : Nat, n = k := ⟨n.toNat, by omega⟩
  have h1 := gcut_ge (S := S) (l := l) (e := e) k
  have h2 := gcut_up (S := S) (l := l) (e := e) (k + 1) (cnt S - (k + 1))
  have h4 := gcut_up (S := S) (l := l) (e := e) k 1
  rw [show k + 1 + (cnt S - (k + 1)) = cnt S by omega] at h2
  have h3 : gcut S l e (cnt S) = e := h
  have h5 : gcut S l e k = e := by omega
  rw [gcut_t (by rw [h5]; exact q)] at h2
  omega
theorem wndF_fix {T : Int} {S : MM} (hW : WFS T S) {l : Int} : ∀ (r : Nat) (e : Int), 0 ≤ e ∧ e ≤ 20 → 21 ≤ e + r → gct S l (wndF S l r e) = wndF S l r e
  | 0, e, h, h2 => by omega
  | r + 1, e, h, h2 => by
    have hr := gct_rng hW (l := l) h
    by_cases q : gct S l e = e
    · rw [wndF_t rfl q]; exact q
    · rw [wndF_f rfl q]; exact wndF_fix hW r _ ⟨hr.1, hr.2.1⟩ (by omega)
theorem wnd_fix {T : Int} {S : MM} (hW : WFS T S) (l : Int) {n : Int} (hn : hs S n) : ¬ (wnd S l < shf S n ∧ cut S l (wnd S l) n) := by
  have hw := hW.2.1
  unfold WFSs at hw
  exact gct_fix (wndF_fix hW 21 0 (by decide) (by decide)) hn.1 (by unfold cnt; have := hn.2.1; omega)
theorem gcut_hi {T : Int} {S : MM} (hW : WFS T S) {l e : Int} (he : e ≤ S 11 3) : ∀ k, gcut S l e k ≤ S 11 3
  | 0 => he
  | k + 1 => by
    have ih := gcut_hi hW (l := l) he k
    by_cases h : gcut S l e k < shf S k ∧ cut S l e k
    · rw [gcut_t h]; exact (shf_rng hW h.2.1.1).2.2.2
    · rw [gcut_f h]; exact ih
theorem wndF_hi {T : Int} {S : MM} (hW : WFS T S) {l : Int} : ∀ (r : Nat) (e : Int), e ≤ S 11 3 → wndF S l r e ≤ S 11 3
  | 0, e, h => h
  | r + 1, e, h => by
    by_cases q : gct S l e = e
    · rw [wndF_t rfl q]; exact h
    · rw [wndF_f rfl q]; exact wndF_hi hW r _ (gcut_hi hW h _)
theorem wnd_hi {T : Int} {S : MM} (hW : WFS T S) (l : Int) : wnd S l ≤ S 11 3 := by
  have hw := hW.2.1
  unfold WFSs at hw
  exact wndF_hi hW 21 0 (by omega)
/- the title -/
theorem tsr_ok {S : MM} {r : Int} : ∀ m t : Nat, 0 ≤ tsr S r m t → ∃ u : Nat, tsr S r m t = u ∧ t ≤ u ∧ u < t + m ∧ cst S 1 r u = true ∧ cst S 0 r u = true
  | 0, t, h => by rw [tsr_0 rfl] at h; omega
  | m + 1, t, h => by
    by_cases q : cst S 1 r t = true ∧ cst S 0 r t = true
    · exact ⟨t, tsr_t rfl q, by omega, by omega, q.1, q.2⟩
    · rw [tsr_f rfl q] at h ⊢
      obtain ⟨u, u1, u2, u3, u4⟩ := tsr_ok m (t + 1) h
      exact ⟨u, u1, by omega, by omega, u4⟩
theorem trw_ok {T : Int} {S : MM} (hW : WFS T S) : ∀ r : Nat, ((trw S r).1 = -1000 ∧ (trw S r).2 = -1000) ∨ (0 ≤ (trw S r).1 ∧ (trw S r).1 < r ∧ 0 ≤ (trw S r).2 ∧ (trw S r).2 ≤ S 11 3 ∧ cst S 1 (trw S r).1 (trw S r).2 = true ∧ cst S 0 (trw S r).1 (trw S r).2 = true)
  | 0 => Or.inl ⟨rfl, rfl⟩
  | r + 1 => by
    have hw := hW.2.1
    unfold WFSs at hw
    by_cases q : 0 ≤ tsr S r (S 11 3 + 1).toNat 0
    · rw [trw_t rfl q]
      obtain ⟨u, u1, u2, u3, u4, u5⟩ := tsr_ok _ _ q
      refine Or.inr ⟨by show (0 : Int) ≤ (r : Nat); omega, by show ((r : Nat) : Int) < ((r + 1 : Nat) : Int); omega, q, by show tsr S r _ 0 ≤ _; omega, ?_, ?_⟩
      · show cst S 1 (r : Nat) (tsr S r _ 0) = true
        rw [u1]; exact u4
      · show cst S 0 (r : Nat) (tsr S r _ 0) = true
        rw [u1]; exact u5
    · rw [trw_f rfl q]
      rcases trw_ok hW r with h | ⟨h1, h2, h3⟩
      · exact Or.inl h
      · exact Or.inr ⟨h1, by omega, h3⟩
theorem ttl_ok {T : Int} {S : MM} (hW : WFS T S) : ((ttl S).1 = -1000 ∧ (ttl S).2 = -1000) ∨ (S 0 7 ≠ 0 ∧ 0 ≤ (ttl S).1 ∧ (ttl S).1 ≤ S 0 6 ∧ 0 ≤ (ttl S).2 ∧ (ttl S).2 ≤ S 11 3 ∧ cst S 1 (ttl S).1 (ttl S).2 = true ∧ cst S 0 (ttl S).1 (ttl S).2 = true) := by
  have hw := hW.2.1
  unfold WFSs at hw
  unfold ttl
  by_cases q : S 0 7 = 0
  · rw [if_pos q]; exact Or.inl ⟨rfl, rfl⟩
  · rw [if_neg q]
    rcases trw_ok hW (S 0 6 + 1).toNat with h | ⟨h1, h2, h3⟩
    · exact Or.inl h
    · exact Or.inr ⟨q, h1, by omega, h3⟩

