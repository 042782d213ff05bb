/-! pages that are kept well formed, and what the class's changes are on the page -/
theorem mset_if {S : MM} {k : Nat} {n x j : Int} : mset S k n x k j = if j = n then x else S k j := by
  by_cases e : j = n
  · rw [if_pos e, e]; exact mset_eq
  · rw [if_neg e]; exact mset_nj e
theorem WFS_mov {T : Int} {S : MM} {n u v w : Int} (h : WFS T S) (hp : plc u v w) : WFS T (mset (mset (mset S 4 n u) 5 n v) 6 n w) := by
  obtain ⟨h0, h1, h2, h3⟩ := h
  have pg : ∀ k, k ≠ 4 → k ≠ 5 → k ≠ 6 → mset (mset (mset S 4 n u) 5 n v) 6 n w k = S k := fun k a b c => by rw [mset_ne c, mset_ne b, mset_ne a]
  have e4 : ∀ j, mset (mset (mset S 4 n u) 5 n v) 6 n w 4 j = if j = n then u else S 4 j := fun j => by rw [mset_ne (by decide), mset_ne (by decide)]; exact mset_if
  have e5 : ∀ j, mset (mset (mset S 4 n u) 5 n v) 6 n w 5 j = if j = n then v else S 5 j := fun j => by rw [mset_ne (by decide), mset_if, mset_ne (by decide)]
  have e6 : ∀ j, mset (mset (mset S 4 n u) 5 n v) 6 n w 6 j = if j = n then w else S 6 j := fun j => by rw [mset_if, mset_ne (by decide), mset_ne (by decide)]
  generalize mset (mset (mset S 4 n u) 5 n v) 6 n w = S2 at *
  have p := fun k a b c => pg k a b c
  refine ⟨h0, ?_, fun m m0 m1 => ?_, fun m m0 m1 => ?_⟩
  · unfold WFSs
    rw [p 0 (by decide) (by decide) (by decide), p 1 (by decide) (by decide) (by decide), p 11 (by decide) (by decide) (by decide), p 15 (by decide) (by decide) (by decide)]
    exact h1
  · rw [p 1 (by decide) (by decide) (by decide)] at m1
    have q := h2 m m0 m1
    rw [p 2 (by decide) (by decide) (by decide), p 3 (by decide) (by decide) (by decide), p 7 (by decide) (by decide) (by decide), p 8 (by decide) (by decide) (by decide), p 9 (by decide) (by decide) (by decide), e4, e5, e6]
    refine ⟨q.1, q.2.1, ?_, ?_, ?_, q.2.2.2.2.2⟩ <;> split <;> omega
  · rw [p 11 (by decide) (by decide) (by decide)] at m1
    rw [p 12 (by decide) (by decide) (by decide), p 13 (by decide) (by decide) (by decide), p 14 (by decide) (by decide) (by decide)]
    exact h3 m m0 m1
theorem WFS_col {T : Int} {S : MM} {n x : Int} (h : WFS T S) (hx : 0 ≤ x ∧ x ≤ 15) : WFS T (mset S 9 n x) := by
  obtain ⟨h0, h1, h2, h3⟩ := h
  have p : ∀ k, k ≠ 9 → mset S 9 n x k = S k := fun k a => mset_ne a
  have e9 : ∀ j, mset S 9 n x 9 j = if j = n then x else S 9 j := fun j => mset_if
  generalize mset S 9 n x = S2 at *
  refine ⟨h0, ?_, fun m m0 m1 => ?_, fun m m0 m1 => ?_⟩
  · unfold WFSs
    rw [p 0 (by decide), p 1 (by decide), p 11 (by decide), p 15 (by decide)]
    exact h1
  · rw [p 1 (by decide)] at m1
    have q := h2 m m0 m1
    rw [p 2 (by decide), p 3 (by decide), p 4 (by decide), p 5 (by decide), p 6 (by decide), p 7 (by decide), p 8 (by decide), e9]
    refine ⟨q.1, q.2.1, q.2.2.1, q.2.2.2.1, q.2.2.2.2.1, q.2.2.2.2.2.1, q.2.2.2.2.2.2.1, q.2.2.2.2.2.2.2.1, ?_⟩
    split <;> omega
  · rw [p 11 (by decide)] at m1
    rw [p 12 (by decide), p 13 (by decide), p 14 (by decide)]
    exact h3 m m0 m1
theorem WFS_set {T : Int} {S : MM} {w v : Int} (h : WFS T S) (hs : fSe w v) : WFS T (mset S 15 w v) := by
  obtain ⟨h0, h1, h2, h3⟩ := h
  have p : ∀ k, k ≠ 15 → mset S 15 w v k = S k := fun k a => mset_ne a
  have e9 : ∀ j, mset S 15 w v 15 j = if j = w then v else S 15 j := fun j => mset_if
  generalize mset S 15 w v = S2 at *
  refine ⟨h0, ?_, fun m m0 m1 => ?_, fun m m0 m1 => ?_⟩
  · unfold WFSs at *
    rw [p 0 (by decide), p 1 (by decide), p 11 (by decide), e9, e9, e9, e9]
    unfold fSe at hs
    refine ⟨h1.1, h1.2.1, h1.2.2.1, h1.2.2.2.1, h1.2.2.2.2.1, h1.2.2.2.2.2.1, h1.2.2.2.2.2.2.1, ?_, ?_, ?_, ?_, h1.2.2.2.2.2.2.2.2.2.2.2⟩ <;> split <;> omega
  · rw [p 1 (by decide)] at m1
    rw [p 2 (by decide), p 3 (by decide), p 4 (by decide), p 5 (by decide), p 6 (by decide), p 7 (by decide), p 8 (by decide), p 9 (by decide)]
    exact h2 m m0 m1
  · rw [p 11 (by decide)] at m1
    rw [p 12 (by decide), p 13 (by decide), p 14 (by decide)]
    exact h3 m m0 m1
theorem WFS_tit {T : Int} {S : MM} {x y l : Int} (h : WFS T S) (hx : 0 ≤ x ∧ x < S 0 3) (hy : 0 ≤ y ∧ y < S 0 4) (hl : 0 ≤ l ∧ l ≤ 40) : WFS T (mset (mset (mset S 0 5 x) 0 6 y) 0 7 l) := by
  obtain ⟨h0, h1, h2, h3⟩ := h
  have p : ∀ k, k ≠ 0 → mset (mset (mset S 0 5 x) 0 6 y) 0 7 l k = S k := fun k a => by rw [mset_ne a, mset_ne a, mset_ne a]
  have e3 : mset (mset (mset S 0 5 x) 0 6 y) 0 7 l 0 3 = S 0 3 := by rw [mset_nj (by decide), mset_nj (by decide), mset_nj (by decide)]
  have e4 : mset (mset (mset S 0 5 x) 0 6 y) 0 7 l 0 4 = S 0 4 := by rw [mset_nj (by decide), mset_nj (by decide), mset_nj (by decide)]
  have e5 : mset (mset (mset S 0 5 x) 0 6 y) 0 7 l 0 5 = x := by rw [mset_nj (by decide), mset_nj (by decide), mset_eq]
  have e6 : mset (mset (mset S 0 5 x) 0 6 y) 0 7 l 0 6 = y := by rw [mset_nj (by decide), mset_eq]
  have e7 : mset (mset (mset S 0 5 x) 0 6 y) 0 7 l 0 7 = l := mset_eq
  generalize mset (mset (mset S 0 5 x) 0 6 y) 0 7 l = S2 at *
  refine ⟨h0, ?_, fun m m0 m1 => ?_, fun m m0 m1 => ?_⟩
  · unfold WFSs at *
    rw [p 1 (by decide), p 11 (by decide), p 15 (by decide), e3, e4, e5, e6, e7]
    exact ⟨h1.1, h1.2.1, h1.2.2.1, h1.2.2.2.1, h1.2.2.2.2.1, h1.2.2.2.2.2.1, h1.2.2.2.2.2.2.1, h1.2.2.2.2.2.2.2.1, h1.2.2.2.2.2.2.2.2.1, h1.2.2.2.2.2.2.2.2.2.1, h1.2.2.2.2.2.2.2.2.2.2.1, hl, hx, hy⟩
  · rw [p 1 (by decide)] at m1
    rw [p 2 (by decide), p 3 (by decide), p 4 (by decide), p 5 (by decide), p 6 (by decide), p 7 (by decide), p 8 (by decide), p 9 (by decide)]
    exact h2 m m0 m1
  · rw [p 11 (by decide)] at m1
    rw [p 12 (by decide), p 13 (by decide), p 14 (by decide)]
    exact h3 m m0 m1
abbrev begS (S : MM) (w h : Int) : MM := mset (mset (mset (mset (mset (mset (mset (mset (mset (mset S 0 3 w) 0 4 h) 1 0 0) 11 0 0) 11 1 0) 11 2 (-5)) 11 3 5) 0 5 0) 0 6 0) 0 7 0
theorem WFS_beg {T : Int} {S : MM} {w h : Int} (hW : WFS T S) (hw : 20 ≤ w ∧ w ≤ 200) (hh : 10 ≤ h ∧ h ≤ 120) : WFS T (begS S w h) := by
  obtain ⟨h0, h1, h2, h3⟩ := hW
  have hT : 0 ≤ T := by unfold WFSs at h1; omega
  have p15 : begS S w h 15 = S 15 := by unfold begS; rw [mset_ne (by decide), mset_ne (by decide), mset_ne (by decide), mset_ne (by decide), mset_ne (by decide), mset_ne (by decide), mset_ne (by decide), mset_ne (by decide), mset_ne (by decide), mset_ne (by decide)]
  have a1 : begS S w h 1 0 = 0 := by unfold begS; rw [mset_ne (by decide), mset_ne (by decide), mset_ne (by decide), mset_ne (by decide), mset_ne (by decide), mset_ne (by decide), mset_ne (by decide), mset_eq]
  have c0 : begS S w h 11 0 = 0 := by unfold begS; rw [mset_ne (by decide), mset_ne (by decide), mset_ne (by decide), mset_nj (by decide), mset_nj (by decide), mset_nj (by decide), mset_eq]
  have c1 : begS S w h 11 1 = 0 := by unfold begS; rw [mset_ne (by decide), mset_ne (by decide), mset_ne (by decide), mset_nj (by decide), mset_nj (by decide), mset_eq]
  have c2 : begS S w h 11 2 = -5 := by unfold begS; rw [mset_ne (by decide), mset_ne (by decide), mset_ne (by decide), mset_nj (by decide), mset_eq]
  have c3 : begS S w h 11 3 = 5 := by unfold begS; rw [mset_ne (by decide), mset_ne (by decide), mset_ne (by decide), mset_eq]
  have g : ∀ j, begS S w h 0 j = mset (mset (mset (mset (mset S 0 3 w) 0 4 h) 0 5 0) 0 6 0) 0 7 0 0 j := fun j => by
    have u : ∀ (X Y : MM) (q z : Int), X 0 = Y 0 → mset X 0 q z 0 = mset Y 0 q z 0 := fun X Y q z e => by rw [mset_row, mset_row, e]
    refine congrFun (u _ _ _ _ (u _ _ _ _ (u _ _ _ _ ?_))) j
    rw [mset_ne (by decide), mset_ne (by decide), mset_ne (by decide), mset_ne (by decide), mset_ne (by decide)]
  refine ⟨h0, ?_, fun m m0 m1 => by rw [a1] at m1; omega, fun m m0 m1 => by rw [c0] at m1; omega⟩
  unfold WFSs at *
  rw [p15, a1, c0, c1, c2, c3, g 3, g 4, g 5, g 6, g 7]
  rw [mset_nj (by decide), mset_nj (by decide), mset_nj (by decide), mset_nj (by decide), mset_eq, mset_nj (by decide), mset_nj (by decide), mset_nj (by decide), mset_eq, mset_eq, mset_nj (by decide), mset_nj (by decide), mset_eq, mset_nj (by decide), mset_eq]
  omega
abbrev scS (S : MM) (l g t : Int) : MM := mset (mset (mset (mset S 12 (S 11 0) l) 13 (S 11 0) g) 14 (S 11 0) t) 11 0 (S 11 0 + 1)
theorem WFS_sc {T : Int} {S : MM} {l g t : Int} (h : WFS T S) (hc : S 11 0 < 8) (hl : (-20 ≤ l ∧ l ≤ 0) ∧ (0 ≤ g ∧ g ≤ 20)) (ht : 1 ≤ t ∧ t ≤ 50) : WFS T (scS S l g t) := by
  obtain ⟨h0, h1, h2, h3⟩ := h
  have p : ∀ k, k ≠ 11 → k ≠ 12 → k ≠ 13 → k ≠ 14 → scS S l g t k = S k := fun k a b c d => by unfold scS; rw [mset_ne a, mset_ne d, mset_ne c, mset_ne b]
  have c0 : scS S l g t 11 0 = S 11 0 + 1 := mset_eq
  have cj : ∀ j, j ≠ 0 → scS S l g t 11 j = S 11 j := fun j hj => by unfold scS; rw [mset_nj hj, mset_ne (by decide), mset_ne (by decide), mset_ne (by decide)]
  have e12 : ∀ j, scS S l g t 12 j = if j = S 11 0 then l else S 12 j := fun j => by unfold scS; rw [mset_ne (by decide), mset_ne (by decide), mset_ne (by decide)]; exact mset_if
  have e13 : ∀ j, scS S l g t 13 j = if j = S 11 0 then g else S 13 j := fun j => by unfold scS; rw [mset_ne (by decide), mset_ne (by decide), mset_if, mset_ne (by decide)]
  have e14 : ∀ j, scS S l g t 14 j = if j = S 11 0 then t else S 14 j := fun j => by unfold scS; rw [mset_ne (by decide), mset_if, mset_ne (by decide), mset_ne (by decide)]
  refine ⟨h0, ?_, fun m m0 m1 => ?_, fun m m0 m1 => ?_⟩
  · unfold WFSs at *
    rw [p 0 (by decide) (by decide) (by decide) (by decide), p 1 (by decide) (by decide) (by decide) (by decide), p 15 (by decide) (by decide) (by decide) (by decide), c0, cj 1 (by decide), cj 2 (by decide), cj 3 (by decide)]
    omega
  · rw [p 1 (by decide) (by decide) (by decide) (by decide)] at m1
    rw [p 2 (by decide) (by decide) (by decide) (by decide), p 3 (by decide) (by decide) (by decide) (by decide), p 4 (by decide) (by decide) (by decide) (by decide), p 5 (by decide) (by decide) (by decide) (by decide), p 6 (by decide) (by decide) (by decide) (by decide), p 7 (by decide) (by decide) (by decide) (by decide), p 8 (by decide) (by decide) (by decide) (by decide), p 9 (by decide) (by decide) (by decide) (by decide)]
    exact h2 m m0 m1
  · rw [c0] at m1
    rw [e12, e13, e14]
    by_cases e : m = S 11 0
    · rw [if_pos e, if_pos e, if_pos e]; exact ⟨hl.1, hl.2, ht⟩
    · rw [if_neg e, if_neg e, if_neg e]; exact h3 m m0 (by omega)
abbrev adS (S : MM) (ar p u v w wd hg : Int) : MM := mset (mset (mset (mset (mset (mset (mset (mset (mset S 3 (S 1 0) ar) 2 (S 1 0) p) 4 (S 1 0) u) 5 (S 1 0) v) 6 (S 1 0) w) 7 (S 1 0) wd) 8 (S 1 0) hg) 9 (S 1 0) 8) 1 0 (S 1 0 + 1)
theorem WFS_add {T : Int} {S : MM} {ar p u v w wd hg : Int} (h : WFS T S) (hc : S 1 0 < 20) (har : p = -1000 ∧ ar = 0 ∨ hs S p ∧ S 7 p = 0 ∧ ar = S 3 p + 1) (h5 : ar ≤ 5) (hp : plc u v w) (hwd : 0 ≤ wd ∧ wd ≤ 100) (hhg : 0 ≤ hg ∧ hg ≤ 100) (hb : wd = 0 ∨ 1 ≤ hg) : WFS T (adS S ar p u v w wd hg) := by
  obtain ⟨h0, h1, h2, h3⟩ := h
  have hc0 : 0 ≤ S 1 0 := by unfold WFSs at h1; omega
  have pg : ∀ k, k = 0 ∨ 11 ≤ k → adS S ar p u v w wd hg k = S k := fun k a => by unfold adS; rw [mset_ne (by omega), mset_ne (by omega), mset_ne (by omega), mset_ne (by omega), mset_ne (by omega), mset_ne (by omega), mset_ne (by omega), mset_ne (by omega), mset_ne (by omega)]
  have c1 : adS S ar p u v w wd hg 1 0 = S 1 0 + 1 := mset_eq
  have e3 : ∀ j, adS S ar p u v w wd hg 3 j = if j = S 1 0 then ar else S 3 j := fun j => by unfold adS; rw [mset_ne (by decide), mset_ne (by decide), mset_ne (by decide), mset_ne (by decide), mset_ne (by decide), mset_ne (by decide), mset_ne (by decide), mset_ne (by decide)]; exact mset_if
  have e2 : ∀ j, adS S ar p u v w wd hg 2 j = if j = S 1 0 then p else S 2 j := fun j => by unfold adS; rw [mset_ne (by decide), mset_ne (by decide), mset_ne (by decide), mset_ne (by decide), mset_ne (by decide), mset_ne (by decide), mset_ne (by decide), mset_if, mset_ne (by decide)]
  have e4 : ∀ j, adS S ar p u v w wd hg 4 j = if j = S 1 0 then u else S 4 j := fun j => by unfold adS; rw [mset_ne (by decide), mset_ne (by decide), mset_ne (by decide), mset_ne (by decide), mset_ne (by decide), mset_ne (by decide), mset_if, mset_ne (by decide), mset_ne (by decide)]
  have e5 : ∀ j, adS S ar p u v w wd hg 5 j = if j = S 1 0 then v else S 5 j := fun j => by unfold adS; rw [mset_ne (by decide), mset_ne (by decide), mset_ne (by decide), mset_ne (by decide), mset_ne (by decide), mset_if, mset_ne (by decide), mset_ne (by decide), mset_ne (by decide)]
  have e6 : ∀ j, adS S ar p u v w wd hg 6 j = if j = S 1 0 then w else S 6 j := fun j => by unfold adS; rw [mset_ne (by decide), mset_ne (by decide), mset_ne (by decide), mset_ne (by decide), mset_if, mset_ne (by decide), mset_ne (by decide), mset_ne (by decide), mset_ne (by decide)]
  have e7 : ∀ j, adS S ar p u v w wd hg 7 j = if j = S 1 0 then wd else S 7 j := fun j => by unfold adS; rw [mset_ne (by decide), mset_ne (by decide), mset_ne (by decide), mset_if, mset_ne (by decide), mset_ne (by decide), mset_ne (by decide), mset_ne (by decide), mset_ne (by decide)]
  have e8 : ∀ j, adS S ar p u v w wd hg 8 j = if j = S 1 0 then hg else S 8 j := fun j => by unfold adS; rw [mset_ne (by decide), mset_ne (by decide), mset_if, mset_ne (by decide), mset_ne (by decide), mset_ne (by decide), mset_ne (by decide), mset_ne (by decide), mset_ne (by decide)]
  have e9 : ∀ j, adS S ar p u v w wd hg 9 j = if j = S 1 0 then 8 else S 9 j := fun j => by unfold adS; rw [mset_ne (by decide), mset_if, mset_ne (by decide), mset_ne (by decide), mset_ne (by decide), mset_ne (by decide), mset_ne (by decide), mset_ne (by decide), mset_ne (by decide)]
  generalize adS S ar p u v w wd hg = S2 at *
  refine ⟨h0, ?_, fun m m0 m1 => ?_, fun m m0 m1 => ?_⟩
  · unfold WFSs at *
    rw [pg 0 (by decide), pg 11 (by decide), pg 15 (by decide), c1]
    omega
  · rw [c1] at m1
    by_cases e : m = S 1 0
    · rw [e2 m, e3 m, e4 m, e5 m, e6 m, e7 m, e8 m, e9 m, if_pos e, if_pos e, if_pos e, if_pos e, if_pos e, if_pos e, if_pos e, if_pos e]
      refine ⟨?_, ?_, hp.1, hp.2.1, hp.2.2, hwd, hhg, hb, by decide⟩
      · rcases har with ⟨a, b⟩ | ⟨a, b, c⟩
        · exact Or.inl ⟨a, b⟩
        · right
          rw [e7 p, if_neg (by omega), e3 p, if_neg (by omega)]
          exact ⟨a.1, by omega, b, c⟩
      · rcases har with ⟨a, b⟩ | ⟨a, b, c⟩
        · omega
        · have := h2 p a.1 a.2.1; omega
    · have q := h2 m m0 (by omega)
      rw [e2 m, e3 m, e4 m, e5 m, e6 m, e7 m, e8 m, e9 m, if_neg e, if_neg e, if_neg e, if_neg e, if_neg e, if_neg e, if_neg e, if_neg e]
      refine ⟨?_, q.2⟩
      rcases q.1 with a | a
      · exact Or.inl a
      · right
        rw [e7 (S 2 m), if_neg (by omega), e3 (S 2 m), if_neg (by omega)]
        exact a
  · rw [pg 11 (by decide)] at m1
    rw [pg 12 (by decide), pg 13 (by decide), pg 14 (by decide)]
    exact h3 m m0 m1
theorem WFS_drop {T : Int} {S S2 : MM} {d : Int} (h : WFS T S) (hD : Drd S S2 d) : WFS T S2 := by
  obtain ⟨h0, h1, h2, h3⟩ := id h
  obtain ⟨d1, d2, d3, d4⟩ := hD
  have hs1 := h1
  unfold WFSs at hs1
  have nr := nwn_rng (S := S) (d := d) (n := S 1 0) (by omega)
  refine ⟨h0, ?_, fun m m0 m1 => ?_, fun m m0 m1 => ?_⟩
  · unfold WFSs
    rw [d1, d3, d4 11 (by decide), d4 15 (by decide)]
    omega
  · rw [d1] at m1
    obtain ⟨a, a0, a1, a2, rfl⟩ := nwn_on (S := S) (d := d) (S 1 0).toNat m m0 (by rw [show (((S 1 0).toNat : Nat) : Int) = S 1 0 by omega]; exact m1)
    have a1' : a < S 1 0 := by omega
    have e := d2 a a0 a1' a2
    have q := h2 a a0 a1'
    have gi := gne_iff h (d := d) a0 a1'
    rw [e.2, e.1 3 (by decide) (by decide), e.1 4 (by decide) (by decide), e.1 5 (by decide) (by decide), e.1 6 (by decide) (by decide), e.1 7 (by decide) (by decide), e.1 8 (by decide) (by decide), e.1 9 (by decide) (by decide)]
    refine ⟨?_, q.2⟩
    rcases q.1 with b | b
    · left; rw [if_neg (by omega)]; exact ⟨rfl, b.2⟩
    · right
      have ngp : ¬ gne S d (S 2 a) := fun g => a2 (gi.mpr (Or.inr ⟨b.1, g⟩))
      have e2 := d2 (S 2 a) b.1 (by omega) ngp
      have lt := nwn_lt (S := S) (d := d) a.toNat (S 2 a) b.1 (by omega) ngp
      rw [show ((a.toNat : Nat) : Int) = a by omega] at lt
      have nr2 := nwn_rng (S := S) (d := d) (n := S 2 a) b.1
      rw [if_pos b.1, e2.1 7 (by decide) (by decide), e2.1 3 (by decide) (by decide)]
      exact ⟨nr2.1, lt, b.2.2.1, b.2.2.2⟩
  · rw [d4 11 (by decide)] at m1
    rw [d4 12 (by decide), d4 13 (by decide), d4 14 (by decide)]
    exact h3 m m0 m1
/- on the page -/
theorem stg_hi {M : MM} {b k : Nat} (h : 16 ≤ k) : stg M b k = fun _ => 0 := by unfold stg; rw [if_neg (by omega)]
theorem stg_mov {M : MM} {b : Nat} {n u v w : Int} : stg (movM M b n u v w) b = mset (mset (mset (stg M b) 4 n u) 5 n v) 6 n w := by
  unfold movM; rw [stg_mset (by decide), stg_mset (by decide), stg_mset (by decide)]
theorem stg_ent {M : MM} {b : Nat} {x y l : Int} : stg (entM M b x y l) b = mset (mset (mset (stg M b) 0 5 x) 0 6 y) 0 7 l := by
  unfold entM; rw [stg_mset0, stg_mset0, stg_mset0]
theorem stg_sc {M : MM} {b : Nat} {l g t : Int} : stg (scM M b l g t) b = scS (stg M b) l g t := by
  unfold scM; rw [stg_mset (by decide), stg_mset (by decide), stg_mset (by decide), stg_mset (by decide)]; rfl
theorem stg_beg {M : MM} {b : Nat} {w h : Int} : stg (begM M b w h) b = begS (stg M b) w h := by
  unfold begM clM; rw [stg_mset0, stg_mset0, stg_mset0, stg_mset (by decide), stg_mset (by decide), stg_mset (by decide), stg_mset (by decide), stg_mset (by decide), stg_mset0, stg_mset0]
theorem stg_add {M : MM} {b : Nat} {p u v w wd hg : Int} : stg (addM M b p u v w wd hg) b = adS (stg M b) (arC M b p) p u v w wd hg := by
  unfold addM; rw [stg_mset (by decide), stg_mset (by decide), stg_mset (by decide), stg_mset (by decide), stg_mset (by decide), stg_mset (by decide), stg_mset (by decide), stg_mset (by decide), stg_mset (by decide)]; rfl
