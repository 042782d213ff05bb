/-! WHAT IS DRAWN: words over a page S (a stage's rows alone) -/
def stg (M : MM) (b : Nat) : MM := fun k => if k < 16 then M (b + k) else fun _ => 0
theorem stg_eq {M M2 : MM} {b b2 : Nat} (h : ∀ k, k < 16 → M (b + k) = M2 (b2 + k)) : stg M b = stg M2 b2 := by
  funext k
  unfold stg
  by_cases q : k < 16
  · rw [if_pos q, if_pos q, h k q]
  · rw [if_neg q, if_neg q]
abbrev hs (S : MM) (n : Int) : Prop := 0 ≤ n ∧ n < S 1 0 ∧ n < 20
abbrev bx (S : MM) (n : Int) : Prop := hs S n ∧ 0 < S 7 n
/-- the sum of component k (4 dx, 5 dy, 6 dz) of a node and the groups around it -/
def sumd (S : MM) (k : Nat) : Nat → Int → Int
  | 0, _ => 0
  | f + 1, n => if n < 0 then 0 else S k n + sumd S k f (S 2 n)
def pos (S : MM) (k : Nat) (n : Int) : Int := sumd S k 21 n
def rawg (S : MM) (g n : Int) : Int := g * pos S 6 n / 100
def ftn (S : MM) (g p lo hi : Int) : Nat → Bool
  | 0 => true
  | k + 1 => ftn S g p lo hi k && decide (¬ bx S k ∨ (lo ≤ rawg S g k * p / 100 ∧ rawg S g k * p / 100 ≤ hi))
def cnt (S : MM) : Nat := (S 1 0).toNat
def fits1 (S : MM) (g p lo hi : Int) : Bool := ftn S g p lo hi (cnt S)
def pctF (S : MM) (g lo hi : Int) : Nat → Nat
  | 0 => 0
  | p + 1 => if fits1 S g ((p + 1 : Nat) : Int) lo hi = true then p + 1 else pctF S g lo hi p
def pctW (S : MM) (lo hi : Int) : Int := (pctF S (S 15 0) lo hi 100 : Nat)
def pct (S : MM) : Int := pctW S (S 11 2) (S 11 3)
def gainF (S : MM) : Nat → Nat
  | 0 => 0
  | g + 1 => if fits1 S ((g + 1 : Nat) : Int) 100 (S 11 2) (S 11 3) = true then g + 1 else gainF S g
def shf (S : MM) (n : Int) : Int := rawg S (S 15 0) n * pct S / 100
def col (S : MM) (l n : Int) : Int := co l (pos S 4 n) (shf S n)
/- the order of painting -/
def scn (arr f : Int → Int) (x : Int) : Nat → Nat
  | 0 => 0
  | q + 1 => if x < f (arr q) then scn arr f x q else q + 1
def ins (arr f : Int → Int) (nb : Nat) (n : Int) : Int → Int := fun j =>
  if j < (scn arr f (f n) nb : Nat) then arr j else if j = (scn arr f (f n) nb : Nat) then n else arr (j - 1)
def nbx (S : MM) : Nat → Nat
  | 0 => 0
  | k + 1 => if bx S k then nbx S k + 1 else nbx S k
def ordf (S : MM) : Nat → Int → Int
  | 0 => fun _ => 0
  | k + 1 => if bx S k then ins (ordf S k) (shf S) (nbx S k) k else ordf S k
def nb (S : MM) : Nat := nbx S (cnt S)
def ord (S : MM) : Int → Int := ordf S (cnt S)
/- the window -/
abbrev inFr (S : MM) (n : Int) : Prop := bx S n ∧ pos S 5 n < S 0 4 ∧ 0 < pos S 5 n + S 8 n
abbrev crs (f w e : Int) : Prop := f < e ∧ e < f + w
abbrev cut (S : MM) (l e n : Int) : Prop := inFr S n ∧ (if l = 0 then crs (col S 1 n) (S 7 n) (S 0 3) ∨ crs (col S 0 n) (S 7 n) (S 0 3 - e) else crs (col S 1 n) (S 7 n) e ∨ crs (col S 0 n) (S 7 n) 0)
def gcut (S : MM) (l e : Int) : Nat → Int
  | 0 => e
  | k + 1 => if gcut S l e k < shf S k ∧ cut S l e k then shf S k else gcut S l e k
def gct (S : MM) (l e : Int) : Int := gcut S l e (cnt S)
def wndF (S : MM) (l : Int) : Nat → Int → Int
  | 0, e => e
  | r + 1, e => if gct S l e = e then e else wndF S l r (gct S l e)
def wnd (S : MM) (l : Int) : Int := wndF S l 21 0
/- the title -/
abbrev inRw (S : MM) (n r : Int) : Prop := bx S n ∧ pos S 5 n ≤ r ∧ r < pos S 5 n + S 8 n
def opn (S : MM) (l : Int) : Int := if l = 0 then 0 else wnd S 1
def cls (S : MM) (l : Int) : Int := if l = 0 then S 0 3 - wnd S 0 else S 0 3
def csn (S : MM) (l r t : Int) : Nat → Bool
  | 0 => true
  | k + 1 => csn S l r t k && decide (¬ (t ≤ shf S k ∧ inRw S k r ∧ col S l k < co l (S 0 5) t + S 0 7 ∧ co l (S 0 5) t < col S l k + S 7 k))
def cst (S : MM) (l r t : Int) : Bool := decide (opn S l ≤ co l (S 0 5) t ∧ co l (S 0 5) t + S 0 7 ≤ cls S l) && csn S l r t (cnt S)
def tsr (S : MM) (r : Int) : Nat → Nat → Int
  | 0, _ => -1
  | m + 1, t => if cst S 1 r t = true ∧ cst S 0 r t = true then (t : Nat) else tsr S r m (t + 1)
def trw (S : MM) : Nat → Int × Int
  | 0 => (-1000, -1000)
  | r + 1 => if 0 ≤ tsr S r (S 11 3 + 1).toNat 0 then ((r : Nat), tsr S r (S 11 3 + 1).toNat 0) else trw S r
def ttl (S : MM) : Int × Int := if S 0 7 = 0 then (-1000, -1000) else trw S (S 0 6 + 1).toNat
/- images -/
abbrev cov (S : MM) (l c r n : Int) : Prop := inRw S n r ∧ col S l n ≤ c ∧ c < col S l n + S 7 n
def frt (S : MM) (l c r : Int) : Nat → Int
  | 0 => -1000
  | k + 1 => if cov S l c r (ord S k) then ord S k else frt S l c r k
def front (S : MM) (l c r : Int) : Int := frt S l c r (nb S)
def tco (S : MM) (l : Int) : Int := if (ttl S).1 < 0 then -1000 else co l (S 0 5) (ttl S).2
def shd (S : MM) (l c r : Int) : Int :=
  if c < opn S l ∨ cls S l ≤ c then 0
  else if r = (ttl S).1 ∧ tco S l ≤ c ∧ c < tco S l + S 0 7 then 15
  else if hs S (front S l c r) then S 9 (front S l c r) else S 15 2
def gst (S : MM) (x y : Int) : Int := S 15 3 * (if x - y < 0 then -(x - y) else x - y) / 100
def ghs (S : MM) (c r : Int) : Int := gst S (shd S 1 c r) (shd S 0 c r)
/- ranges, in the page's own words -/
def WFSs (T : Int) (S : MM) : Prop :=
  (20 ≤ S 0 3 ∧ S 0 3 ≤ 200) ∧ (10 ≤ S 0 4 ∧ S 0 4 ≤ 120) ∧ (0 ≤ S 1 0 ∧ S 1 0 ≤ 20) ∧ (0 ≤ S 11 0 ∧ S 11 0 ≤ 8) ∧ (0 ≤ S 11 1 ∧ S 11 1 ≤ T) ∧
  (-20 ≤ S 11 2 ∧ S 11 2 ≤ 0) ∧ (0 ≤ S 11 3 ∧ S 11 3 ≤ 20) ∧ (0 ≤ S 15 0 ∧ S 15 0 ≤ 100) ∧ (1 ≤ S 15 1 ∧ S 15 1 ≤ 5) ∧ (0 ≤ S 15 2 ∧ S 15 2 ≤ 15) ∧ (0 ≤ S 15 3 ∧ S 15 3 ≤ 100) ∧
  (0 ≤ S 0 7 ∧ S 0 7 ≤ 40) ∧ (0 ≤ S 0 5 ∧ S 0 5 < S 0 3) ∧ (0 ≤ S 0 6 ∧ S 0 6 < S 0 4)
def WFSn (S : MM) : Prop := ∀ n : Int, 0 ≤ n → n < S 1 0 →
  ((S 2 n = -1000 ∧ S 3 n = 0) ∨ (0 ≤ S 2 n ∧ S 2 n < n ∧ S 7 (S 2 n) = 0 ∧ S 3 n = S 3 (S 2 n) + 1)) ∧ (0 ≤ S 3 n ∧ S 3 n ≤ 5) ∧
  (-200 ≤ S 4 n ∧ S 4 n ≤ 200) ∧ (-200 ≤ S 5 n ∧ S 5 n ≤ 200) ∧ (-200 ≤ S 6 n ∧ S 6 n ≤ 200) ∧ (0 ≤ S 7 n ∧ S 7 n ≤ 100) ∧ (0 ≤ S 8 n ∧ S 8 n ≤ 100) ∧ (S 7 n = 0 ∨ 1 ≤ S 8 n) ∧ (0 ≤ S 9 n ∧ S 9 n ≤ 15)
def WFSc (S : MM) : Prop := ∀ n : Int, 0 ≤ n → n < S 11 0 → (-20 ≤ S 12 n ∧ S 12 n ≤ 0) ∧ (0 ≤ S 13 n ∧ S 13 n ≤ 20) ∧ (1 ≤ S 14 n ∧ S 14 n ≤ 50)
def WFS (T : Int) (S : MM) : Prop := T ≤ 1000000000 ∧ WFSs T S ∧ WFSn S ∧ WFSc S
theorem WF.S {T : Int} {M : MM} {b : Nat} (h : WF T M b) : WFS T (stg M b) := h
theorem sumd_neg {S : MM} {k : Nat} {n : Int} (h : n < 0) : ∀ f, sumd S k f n = 0
  | 0 => rfl
  | f + 1 => by simp only [sumd]; rw [if_pos h]
theorem sumd_st {T : Int} {S : MM} (hW : WFS T S) (k : Nat) : ∀ (m : Nat) (n : Int), n < m → n < S 1 0 → ∀ f g : Nat, n < f → n < g → sumd S k f n = sumd S k g n
  | 0, n, h, _, f, g, _, _ => by rw [sumd_neg (by omega), sumd_neg (by omega)]
  | m + 1, n, h, hc, f, g, hf, hg => by
    by_cases h0 : n < 0
    · rw [sumd_neg h0, sumd_neg h0]
    · obtain ⟨f1, rfl⟩ : ∃ f1, f = f1 + 1 := ⟨f - 1, by omega⟩
      obtain ⟨g1, rfl⟩ : ∃ g1, g = g1 + 1 := ⟨g - 1, by omega⟩
      have hn := (hW.2.2.1 n (by omega) hc).1
      simp only [sumd]
      rw [if_neg h0, if_neg h0, sumd_st hW k m (S 2 n) (by omega) (by omega) f1 g1 (by omega) (by omega)]
theorem pos_neg {S : MM} {k : Nat} {n : Int} (h : n < 0) : pos S k n = 0 := sumd_neg h 21
theorem pos_eq {T : Int} {S : MM} (hW : WFS T S) (k : Nat) {n : Int} (h0 : 0 ≤ n) (h1 : n < S 1 0) : pos S k n = S k n + pos S k (S 2 n) := by
  have hs := hW.2.1
  unfold WFSs at hs
  have hn := (hW.2.2.1 n h0 h1).1
  show sumd S k (20 + 1) n = _
  simp only [sumd]
  rw [if_neg (by omega)]
  congr 1
  exact sumd_st hW k 20 (S 2 n) (by omega) (by omega) 20 21 (by omega) (by omega)
theorem pos_rng0 {T : Int} {S : MM} (hW : WFS T S) {k : Nat} (hk : k = 4 ∨ k = 5 ∨ k = 6) : ∀ (m : Nat) (n : Int), n < m → 0 ≤ n → n < S 1 0 → -(200 * (S 3 n + 1)) ≤ pos S k n ∧ pos S k n ≤ 200 * (S 3 n + 1)
  | 0, n, h, h0, _ => absurd h (by omega)
  | m + 1, n, h, h0, h1 => by
    have hn := hW.2.2.1 n h0 h1
    have e := pos_eq hW k h0 h1
    have e1 : -200 ≤ S k n ∧ S k n ≤ 200 := by rcases hk with rfl | rfl | rfl <;> omega
    by_cases h2 : S 2 n < 0
    · rw [pos_neg h2] at e; omega
    · have ih := pos_rng0 hW hk m (S 2 n) (by omega) (by omega) (by omega)
      omega
theorem pos_rng {T : Int} {S : MM} (hW : WFS T S) {k : Nat} (hk : k = 4 ∨ k = 5 ∨ k = 6) (n : Int) (h1 : n < S 1 0) : -1200 ≤ pos S k n ∧ pos S k n ≤ 1200 := by
  by_cases h0 : 0 ≤ n
  · have h := pos_rng0 hW hk 20 n (by have := hW.2.1; unfold WFSs at this; omega) h0 h1
    have hn := hW.2.2.1 n h0 h1
    omega
  · rw [pos_neg (by omega)]; omega
theorem mul_bd2 {x y A B : Int} (h0 : 0 ≤ x) (h1 : x ≤ A) (h2 : -B ≤ y) (h3 : y ≤ B) : -(A * B) ≤ y * x ∧ y * x ≤ A * B := by
  rw [Int.mul_comm y x]; exact mul_bd h0 h1 h2 h3
theorem raw_rng {T : Int} {S : MM} (hW : WFS T S) {g : Int} (hg : 0 ≤ g ∧ g ≤ 100) (n : Int) (h1 : n < S 1 0) : -1200 ≤ rawg S g n ∧ rawg S g n ≤ 1200 := by
  have h := pos_rng hW (k := 6) (by omega) n h1
  have m := mul_bd hg.1 hg.2 h.1 h.2
  unfold rawg
  omega
theorem rawp_rng {T : Int} {S : MM} (hW : WFS T S) {g p : Int} (hg : 0 ≤ g ∧ g ≤ 100) (hp : 0 ≤ p ∧ p ≤ 100) (n : Int) (h1 : n < S 1 0) : -120000 ≤ rawg S g n * p ∧ rawg S g n * p ≤ 120000 := by
  have h := raw_rng hW hg n h1
  have m := mul_bd2 hp.1 hp.2 h.1 h.2
  omega
theorem pctF_rng (S : MM) (g lo hi : Int) : ∀ p, pctF S g lo hi p ≤ p
  | 0 => Nat.le_refl 0
  | p + 1 => by
    simp only [pctF]
    split
    · omega
    · have := pctF_rng S g lo hi p; omega
theorem pctW_rng (S : MM) (lo hi : Int) : 0 ≤ pctW S lo hi ∧ pctW S lo hi ≤ 100 := by
  have := pctF_rng S (S 15 0) lo hi 100
  unfold pctW; omega
theorem gainF_rng (S : MM) : ∀ p, gainF S p ≤ p
  | 0 => Nat.le_refl 0
  | p + 1 => by
    simp only [gainF]
    split
    · omega
    · have := gainF_rng S p; omega
theorem ftn_t {S : MM} {g p lo hi : Int} {k : Nat} : ftn S g p lo hi (k + 1) = true ↔ ftn S g p lo hi k = true ∧ (¬ bx S k ∨ (lo ≤ rawg S g k * p / 100 ∧ rawg S g k * p / 100 ≤ hi)) := by
  simp only [ftn, Bool.and_eq_true, decide_eq_true_eq]
theorem ftn_all {S : MM} {g p lo hi : Int} : ∀ {k : Nat}, ftn S g p lo hi k = true ↔ ∀ j : Nat, j < k → (¬ bx S j ∨ (lo ≤ rawg S g j * p / 100 ∧ rawg S g j * p / 100 ≤ hi))
  | 0 => ⟨fun _ j h => absurd h (by omega), fun _ => rfl⟩
  | k + 1 => by
    rw [ftn_t, ftn_all]
    constructor
    · rintro ⟨h1, h2⟩ j hj
      by_cases e : j = k
      · subst e; exact h2
      · exact h1 j (by omega)
    · intro h
      exact ⟨fun j hj => h j (by omega), h k (by omega)⟩
theorem shf_rng {T : Int} {S : MM} (hW : WFS T S) {n : Int} (hb : bx S n) : -20 ≤ shf S n ∧ shf S n ≤ 20 ∧ S 11 2 ≤ shf S n ∧ shf S n ≤ S 11 3 := by
  have hs := hW.2.1
  unfold WFSs at hs
  have key : S 11 2 ≤ shf S n ∧ shf S n ≤ S 11 3 := by
    unfold shf pct pctW
    have h : ∀ p : Nat, S 11 2 ≤ rawg S (S 15 0) n * (pctF S (S 15 0) (S 11 2) (S 11 3) p : Nat) / 100 ∧ rawg S (S 15 0) n * (pctF S (S 15 0) (S 11 2) (S 11 3) p : Nat) / 100 ≤ S 11 3 := by
      intro p
      induction p with
      | zero =>
        simp only [pctF]
        rw [show ((0 : Nat) : Int) = 0 from rfl, Int.mul_zero]
        omega
      | succ p ih =>
        simp only [pctF]
        by_cases hf : fits1 S (S 15 0) ((p + 1 : Nat) : Int) (S 11 2) (S 11 3) = true
        · rw [if_pos hf]
          unfold fits1 at hf
          have h1 := ftn_all.mp hf n.toNat (by unfold cnt; omega)
          rw [show ((n.toNat : Nat) : Int) = n by omega] at h1
          rcases h1 with h1 | h1
          · exact absurd hb h1
          · exact h1
        · rw [if_neg hf]; exact ih
    exact h 100
  omega
theorem col_rng {T : Int} {S : MM} (hW : WFS T S) {n : Int} (hb : bx S n) (l : Int) : -1300 ≤ col S l n ∧ col S l n ≤ 1300 := by
  have h1 := shf_rng hW hb
  have h2 := pos_rng hW (k := 4) (by omega) n hb.1.2.1
  unfold col co
  split <;> omega
/- insertion -/
theorem scn_le (arr f : Int → Int) (x : Int) : ∀ q, scn arr f x q ≤ q
  | 0 => Nat.le_refl 0
  | q + 1 => by
    simp only [scn]
    split
    · have := scn_le arr f x q; omega
    · exact Nat.le_refl _
theorem scn_congr {arr arr2 f f2 : Int → Int} {x x2 : Int} (hx : x = x2) : ∀ {q : Nat}, (∀ j : Nat, j < q → f (arr j) = f2 (arr2 j)) → scn arr f x q = scn arr2 f2 x2 q
  | 0, _ => rfl
  | q + 1, h => by
    simp only [scn]
    rw [h q (by omega), hx]
    rw [scn_congr rfl (fun j hj => h j (by omega))]
theorem nbx_ct (S : MM) : ∀ k, (nbx S k : Int) = ct (bx S) k
  | 0 => rfl
  | k + 1 => by
    simp only [nbx]
    split
    · rename_i h; rw [ct_t h, ← nbx_ct S k]; omega
    · rename_i h; rw [ct_f h, ← nbx_ct S k]
theorem nbx_le (S : MM) (k : Nat) : nbx S k ≤ k := by
  have := ct_rng (bx S) k
  have := nbx_ct S k
  omega
/-- the order lists boxes, and all of them -/
theorem ordf_box (S : MM) : ∀ (k : Nat) (j : Nat), j < nbx S k → bx S (ordf S k j) ∧ ordf S k j < k
  | 0, j, h => absurd h (by simp [nbx])
  | k + 1, j, h => by
    simp only [nbx] at h
    simp only [ordf]
    by_cases hb : bx S k
    · rw [if_pos hb] at h ⊢
      unfold ins
      by_cases h1 : (j : Int) < (scn (ordf S k) (shf S) (shf S k) (nbx S k) : Nat)
      · rw [if_pos h1]
        have h3 := scn_le (ordf S k) (shf S) (shf S k) (nbx S k)
        have h2 := ordf_box S k j (by omega)
        exact ⟨h2.1, by omega⟩
      · rw [if_neg h1]
        by_cases h2 : (j : Int) = (scn (ordf S k) (shf S) (shf S k) (nbx S k) : Nat)
        · rw [if_pos h2]; exact ⟨hb, by omega⟩
        · rw [if_neg h2]
          have h4 := ordf_box S k (j - 1) (by omega)
          rw [show ((j - 1 : Nat) : Int) = (j : Int) - 1 by omega] at h4
          exact ⟨h4.1, by omega⟩
    · rw [if_neg hb] at h ⊢
      have h2 := ordf_box S k j h
      exact ⟨h2.1, by omega⟩
theorem ordf_onto (S : MM) : ∀ (k : Nat) (n : Int), bx S n → n < k → ∃ j : Nat, j < nbx S k ∧ ordf S k j = n
  | 0, n, h, h1 => absurd h1 (by have := h.1.1; omega)
  | k + 1, n, h, h1 => by
    simp only [nbx, ordf]
    by_cases hb : bx S k
    · rw [if_pos hb, if_pos hb]
      have h3 := scn_le (ordf S k) (shf S) (shf S k) (nbx S k)
      by_cases hn : n = k
      · refine ⟨scn (ordf S k) (shf S) (shf S k) (nbx S k), by omega, ?_⟩
        unfold ins
        rw [if_neg (by omega), if_pos rfl, hn]
      · obtain ⟨j, hj, e⟩ := ordf_onto S k n h (by omega)
        by_cases h4 : j < scn (ordf S k) (shf S) (shf S k) (nbx S k)
        · refine ⟨j, by omega, ?_⟩
          unfold ins
          rw [if_pos (by omega), e]
        · refine ⟨j + 1, by omega, ?_⟩
          unfold ins
          rw [if_neg (by omega), if_neg (by omega), show ((j + 1 : Nat) : Int) - 1 = j by omega, e]
    · rw [if_neg hb, if_neg hb]
      have hne : n ≠ (k : Int) := fun e => hb (e ▸ h)
      exact ordf_onto S k n h (by omega)

theorem pctF_t {S : MM} {g lo hi : Int} {p p1 : Nat} (hp : p = p1 + 1) (h : fits1 S g ((p1 + 1 : Nat) : Int) lo hi = true) : pctF S g lo hi p = p := by
  subst hp; simp only [pctF]; rw [if_pos h]
theorem pctF_f {S : MM} {g lo hi : Int} {p p1 : Nat} (hp : p = p1 + 1) (h : ¬ fits1 S g ((p1 + 1 : Nat) : Int) lo hi = true) : pctF S g lo hi p = pctF S g lo hi p1 := by
  subst hp; simp only [pctF]; rw [if_neg h]
theorem gainF_t {S : MM} {p p1 : Nat} (hp : p = p1 + 1) (h : fits1 S ((p1 + 1 : Nat) : Int) 100 (S 11 2) (S 11 3) = true) : gainF S p = p := by
  subst hp; simp only [gainF]; rw [if_pos h]
theorem gainF_f {S : MM} {p p1 : Nat} (hp : p = p1 + 1) (h : ¬ fits1 S ((p1 + 1 : Nat) : Int) 100 (S 11 2) (S 11 3) = true) : gainF S p = gainF S p1 := by
  subst hp; simp only [gainF]; rw [if_neg h]
