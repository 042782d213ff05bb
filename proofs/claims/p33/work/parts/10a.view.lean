/-! the window, the title: words and facts -/
abbrev cutM (M : MM) (v : Nat) (l e n : Int) : Prop := (box M (v + 2) n ∧ M (v + 19) n < M (v + 2) 4 ∧ 0 < M (v + 19) n + M (v + 2 + 8) n) ∧
  (if l = 0 then crs (M (v + 22) n) (M (v + 2 + 7) n) (M (v + 2) 3) ∨ crs (M (v + 23) n) (M (v + 2 + 7) n) (M (v + 2) 3 - e) else crs (M (v + 22) n) (M (v + 2 + 7) n) e ∨ crs (M (v + 23) n) (M (v + 2 + 7) n) 0)
theorem Pld.y {M : MM} {v : Nat} (h : Pld M v (stg M (v + 2))) {n : Int} (hb : box M (v + 2) n) : M (v + 19) n = pos (stg M (v + 2)) 5 n := (h.1 n hb.1.1 hb.1.2.1).2.1
theorem Pld.yr {T : Int} {M : MM} {v : Nat} (hW : WF T M (v + 2)) (h : Pld M v (stg M (v + 2))) (n : Int) (hb : box M (v + 2) n) : -1300 ≤ M (v + 19) n ∧ M (v + 19) n ≤ 1300 := by
  rw [h.y hb]
  have := pos_rng hW.S (k := 5) (by omega) n hb.1.2.1
  omega
theorem Pld.sh {M : MM} {v : Nat} (h : Pld M v (stg M (v + 2))) {n : Int} (hb : box M (v + 2) n) : M (v + 21) n = shf (stg M (v + 2)) n := (h.2.1 n hb).1
theorem Pld.cl {M : MM} {v : Nat} (h : Pld M v (stg M (v + 2))) {n : Int} (hb : box M (v + 2) n) : M (v + 22) n = col (stg M (v + 2)) 1 n := (h.2.1 n hb).2.1
theorem Pld.cr {M : MM} {v : Nat} (h : Pld M v (stg M (v + 2))) {n : Int} (hb : box M (v + 2) n) : M (v + 23) n = col (stg M (v + 2)) 0 n := (h.2.1 n hb).2.2
theorem cutM_iff {M : MM} {v : Nat} (h : Pld M v (stg M (v + 2))) {l e n : Int} : cutM M v l e n ↔ cut (stg M (v + 2)) l e n := by
  constructor
  · rintro ⟨⟨hb, h1, h2⟩, h3⟩
    rw [h.y hb] at h1 h2
    rw [h.cl hb, h.cr hb] at h3
    exact ⟨⟨hb, h1, h2⟩, h3⟩
  · rintro ⟨⟨hb, h1, h2⟩, h3⟩
    rw [← h.y hb] at h1 h2
    rw [← h.cl hb, ← h.cr hb] at h3
    exact ⟨⟨hb, h1, h2⟩, h3⟩
theorem gcut_rng {T : Int} {S : MM} (hW : WFS T S) {l e : Int} (he : 0 ≤ e ∧ e ≤ 20) : ∀ k, e ≤ gcut S l e k ∧ gcut S l e k ≤ 20
  | 0 => ⟨Int.le_refl _, he.2⟩
  | k + 1 => by
    have ih := gcut_rng hW (l := l) he k
    simp only [gcut]
    split
    · rename_i h
      have := shf_rng hW h.2.1.1
      omega
    · exact ih
theorem gct_rng {T : Int} {S : MM} (hW : WFS T S) {l e : Int} (he : 0 ≤ e ∧ e ≤ 20) : 0 ≤ gct S l e ∧ gct S l e ≤ 20 ∧ e ≤ gct S l e := by
  have := gcut_rng hW (l := l) he (cnt S)
  unfold gct; omega
theorem wndF_rng {T : Int} {S : MM} (hW : WFS T S) {l : Int} : ∀ (r : Nat) {e : Int}, 0 ≤ e ∧ e ≤ 20 → 0 ≤ wndF S l r e ∧ wndF S l r e ≤ 20
  | 0, e, he => he
  | r + 1, e, he => by
    have h := gct_rng hW (l := l) he
    simp only [wndF]
    split
    · exact he
    · exact wndF_rng hW r ⟨h.1, h.2.1⟩
theorem wnd_rng {T : Int} {S : MM} (hW : WFS T S) (l : Int) : 0 ≤ wnd S l ∧ wnd S l ≤ 20 := wndF_rng hW 21 ⟨by omega, by omega⟩
theorem gcut_t {S : MM} {l e : Int} {k : Nat} (h : gcut S l e k < shf S k ∧ cut S l e k) : gcut S l e (k + 1) = shf S k := by simp only [gcut]; rw [if_pos h]
theorem gcut_f {S : MM} {l e : Int} {k : Nat} (h : ¬ (gcut S l e k < shf S k ∧ cut S l e k)) : gcut S l e (k + 1) = gcut S l e k := by simp only [gcut]; rw [if_neg h]
theorem wndF_t {S : MM} {l e : Int} {r r1 : Nat} (hr : r = r1 + 1) (h : gct S l e = e) : wndF S l r e = e := by subst hr; simp only [wndF]; rw [if_pos h]
theorem wndF_f {S : MM} {l e : Int} {r r1 : Nat} (hr : r = r1 + 1) (h : ¬ gct S l e = e) : wndF S l r e = wndF S l r1 (gct S l e) := by subst hr; simp only [wndF]; rw [if_neg h]
abbrev inRM (M : MM) (v : Nat) (n r : Int) : Prop := box M (v + 2) n ∧ M (v + 19) n ≤ r ∧ r < M (v + 19) n + M (v + 2 + 8) n
theorem inRM_iff {M : MM} {v : Nat} (h : Pld M v (stg M (v + 2))) {n r : Int} : inRM M v n r ↔ inRw (stg M (v + 2)) n r := by
  constructor
  · rintro ⟨hb, h1⟩; rw [h.y hb] at h1; exact ⟨hb, h1⟩
  · rintro ⟨hb, h1⟩; rw [← h.y hb] at h1; exact ⟨hb, h1⟩
def coM (M : MM) (v : Nat) (l n : Int) : Int := if l = 0 then M (v + 23) n else M (v + 22) n
theorem coM_eq {M : MM} {v : Nat} (h : Pld M v (stg M (v + 2))) {l n : Int} (hl : l = 0 ∨ l = 1) (hb : box M (v + 2) n) : coM M v l n = col (stg M (v + 2)) l n := by
  unfold coM
  rcases hl with rfl | rfl
  · rw [if_pos rfl, h.cr hb]
  · rw [if_neg (by decide), h.cl hb]
/-- a view's numbers are of the page S -/
def Vwd (M : MM) (v : Nat) (S : MM) : Prop := Pld M v S ∧ M v 3 = wnd S 1 ∧ M v 4 = wnd S 0
def Vwt (M : MM) (v : Nat) (S : MM) : Prop := Vwd M v S ∧ M v 5 = (ttl S).1 ∧ M v 6 = (ttl S).2
theorem csn_t {S : MM} {l r t : Int} {k : Nat} : csn S l r t (k + 1) = true ↔ csn S l r t k = true ∧ ¬ (t ≤ shf S k ∧ inRw S k r ∧ col S l k < co l (S 0 5) t + S 0 7 ∧ co l (S 0 5) t < col S l k + S 7 k) := by
  simp only [csn, Bool.and_eq_true, decide_eq_true_eq]
theorem csn_all {S : MM} {l r t : Int} : ∀ {k : Nat}, csn S l r t k = true ↔ ∀ j : Nat, j < k → ¬ (t ≤ shf S j ∧ inRw S j r ∧ col S l j < co l (S 0 5) t + S 0 7 ∧ co l (S 0 5) t < col S l j + S 7 j)
  | 0 => ⟨fun _ j h => absurd h (by omega), fun _ => rfl⟩
  | k + 1 => by
    rw [csn_t, csn_all]
    constructor
    · rintro ⟨h1, h2⟩ j hj
      by_cases e : j = k
      · subst e; exact h2
      · exact h1 j (by omega)
    · intro h
      exact ⟨fun j hj => h j (by omega), h k (by omega)⟩
theorem cst_iff {S : MM} {l r t : Int} : cst S l r t = true ↔ (opn S l ≤ co l (S 0 5) t ∧ co l (S 0 5) t + S 0 7 ≤ cls S l) ∧ csn S l r t (cnt S) = true := by
  simp only [cst, Bool.and_eq_true, decide_eq_true_eq]
theorem tsr_t {S : MM} {r : Int} {m m1 t : Nat} (hm : m = m1 + 1) (h : cst S 1 r t = true ∧ cst S 0 r t = true) : tsr S r m t = (t : Nat) := by subst hm; simp only [tsr]; rw [if_pos h]
theorem tsr_f {S : MM} {r : Int} {m m1 t : Nat} (hm : m = m1 + 1) (h : ¬ (cst S 1 r t = true ∧ cst S 0 r t = true)) : tsr S r m t = tsr S r m1 (t + 1) := by subst hm; simp only [tsr]; rw [if_neg h]
theorem tsr_0 {S : MM} {r : Int} {m t : Nat} (hm : m = 0) : tsr S r m t = -1 := by subst hm; rfl
theorem tsr_rng {S : MM} {r : Int} : ∀ m t : Nat, tsr S r m t = -1 ∨ (t ≤ tsr S r m t ∧ tsr S r m t < t + m)
  | 0, t => Or.inl rfl
  | m + 1, t => by
    simp only [tsr]
    split
    · right; omega
    · have := tsr_rng (S := S) (r := r) m (t + 1); omega
theorem trw_t {S : MM} {r r1 : Nat} (hr : r = r1 + 1) (h : 0 ≤ tsr S r1 (S 11 3 + 1).toNat 0) : trw S r = (((r1 : Nat) : Int), tsr S r1 (S 11 3 + 1).toNat 0) := by subst hr; simp only [trw]; rw [if_pos h]
theorem trw_f {S : MM} {r r1 : Nat} (hr : r = r1 + 1) (h : ¬ 0 ≤ tsr S r1 (S 11 3 + 1).toNat 0) : trw S r = trw S r1 := by subst hr; simp only [trw]; rw [if_neg h]
theorem trw_rng {T : Int} {S : MM} (hW : WFS T S) : ∀ r : Nat, ((trw S r).1 = -1000 ∧ (trw S r).2 = -1000) ∨ (0 ≤ (trw S r).1 ∧ (trw S r).1 < r ∧ 0 ≤ (trw S r).2 ∧ (trw S r).2 ≤ 20)
  | 0 => Or.inl ⟨rfl, rfl⟩
  | r + 1 => by
    have hs := hW.2.1
    unfold WFSs at hs
    by_cases h : 0 ≤ tsr S r (S 11 3 + 1).toNat 0
    · rw [trw_t rfl h]
      have := tsr_rng (S := S) (r := r) (S 11 3 + 1).toNat 0
      right
      dsimp only
      omega
    · rw [trw_f rfl h]
      have := trw_rng hW r
      omega
theorem ttl_rng {T : Int} {S : MM} (hW : WFS T S) : ((ttl S).1 = -1000 ∧ (ttl S).2 = -1000) ∨ (0 ≤ (ttl S).1 ∧ (ttl S).1 < S 0 4 ∧ 0 ≤ (ttl S).2 ∧ (ttl S).2 ≤ 20) := by
  have hs := hW.2.1
  unfold WFSs at hs
  unfold ttl
  split
  · left; exact ⟨rfl, rfl⟩
  · have := trw_rng hW (S 0 6 + 1).toNat
    omega
theorem Pld.fr {M M2 : MM} {v : Nat} {S : MM} (h : Pld M v S) (h1 : ∀ i, i = v + 1 ∨ (v + 18 ≤ i ∧ i ≤ v + 24) → M2 i = M i) : Pld M2 v S := by
  unfold Pld
  rw [h1 (v + 18) (by omega), h1 (v + 19) (by omega), h1 (v + 20) (by omega), h1 (v + 21) (by omega), h1 (v + 22) (by omega), h1 (v + 23) (by omega), h1 (v + 24) (by omega), h1 (v + 1) (by omega)]
  exact h
theorem Vwd.fr {M M2 : MM} {v : Nat} {S : MM} (h : Vwd M v S) (h1 : ∀ i, i ≠ v → M2 i = M i) (h3 : M2 v 3 = M v 3) (h4 : M2 v 4 = M v 4) : Vwd M2 v S :=
  ⟨h.1.fr (fun i hi => h1 i (by omega)), h3.trans h.2.1, h4.trans h.2.2⟩
