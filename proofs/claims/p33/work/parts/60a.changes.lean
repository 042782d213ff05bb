/-! what the law's changes do to the page -/
theorem adF (S : MM) (ar p u v w wd hg : Int) : adS S ar p u v w wd hg 1 0 = S 1 0 + 1 ∧ adS S ar p u v w wd hg 2 (S 1 0) = p ∧ adS S ar p u v w wd hg 4 (S 1 0) = u ∧ adS S ar p u v w wd hg 6 (S 1 0) = w ∧ adS S ar p u v w wd hg 7 (S 1 0) = wd ∧ adS S ar p u v w wd hg 9 (S 1 0) = 8 ∧ adS S ar p u v w wd hg 0 3 = S 0 3 := by
  simp [mset]
theorem mvF (S : MM) (n u v w : Int) : mset (mset (mset S 4 n u) 5 n v) 6 n w 6 n = w ∧ mset (mset (mset S 4 n u) 5 n v) 6 n w 1 0 = S 1 0 ∧ mset (mset (mset S 4 n u) 5 n v) 6 n w 0 3 = S 0 3 := by
  simp [mset]
theorem shF (S : MM) (n s : Int) : mset S 9 n s 9 n = s ∧ mset S 9 n s 1 0 = S 1 0 ∧ mset S 9 n s 7 n = S 7 n ∧ mset S 9 n s 0 3 = S 0 3 := by
  simp [mset]
theorem scF (S : MM) (l g t : Int) : scS S l g t 11 0 = S 11 0 + 1 ∧ scS S l g t 12 (S 11 0) = l ∧ scS S l g t 0 3 = S 0 3 := by
  simp [mset]
theorem seF (S : MM) (w v : Int) : mset S 15 w v 15 w = v ∧ mset S 15 w v 0 3 = S 0 3 := by
  simp [mset]
theorem tiF (S : MM) (u v l : Int) : mset (mset (mset S 0 5 u) 0 6 v) 0 7 l 0 5 = u ∧ mset (mset (mset S 0 5 u) 0 6 v) 0 7 l 0 7 = l ∧ mset (mset (mset S 0 5 u) 0 6 v) 0 7 l 0 3 = S 0 3 ∧ mset (mset (mset S 0 5 u) 0 6 v) 0 7 l 15 0 = S 15 0 := by
  simp [mset]
theorem bgF (S : MM) (w h : Int) : begS S w h 0 3 = w := by
  simp [mset]
/- nodes that go -/
theorem gne_self {T : Int} {S : MM} (hW : WFS T S) {d : Int} (h : hs S d) : gne S d d := (gne_iff hW h.1 h.2.1).mpr (Or.inl rfl)
theorem rm_ct {T : Int} {S : MM} (hW : WFS T S) {d : Int} (h : hs S d) : ∀ m : Nat, (m : Int) ≤ S 1 0 → ct (fun j => ¬ gne S d j) m + ct (fun k => S 2 k = d) m + (if d < m then 1 else 0) ≤ m
  | 0, _ => by
    rw [if_neg (by have := h.1; omega)]
    exact Int.le_refl _
  | m + 1, hm => by
    have ih := rm_ct hW h m (by omega)
    have hn := (hW.2.2.1 m (by omega) (by omega)).1
    have gi := gne_iff hW (d := d) (n := m) (by omega) (by omega)
    by_cases e : (m : Int) = d
    · have g : gne S d m := gi.mpr (Or.inl e)
      rw [ct_f (fun z => z g), ct_f (show ¬ S 2 m = d by omega), if_pos (by omega)]
      rw [if_neg (by omega)] at ih
      omega
    · have ei : (if d < ((m + 1 : Nat) : Int) then (1 : Int) else 0) = if d < (m : Int) then 1 else 0 := by
        by_cases q : d < (m : Int)
        · rw [if_pos q, if_pos (by omega)]
        · rw [if_neg q, if_neg (by omega)]
      rw [ei]
      by_cases q : S 2 m = d
      · have g : gne S d m := gi.mpr (Or.inr ⟨by have := h.1; omega, by rw [q]; exact gne_self hW h⟩)
        rw [ct_f (fun z => z g), ct_t q]
        omega
      · rw [ct_f (p := fun k => S 2 k = d) q]
        have := (ct_rng (fun j => ¬ gne S d j) m)
        by_cases g : gne S d m
        · rw [ct_f (fun z => z g)]; omega
        · rw [ct_t g]; omega
theorem rmF {T : Int} {S : MM} (hW : WFS T S) {d : Int} (h : hs S d) : 0 ≤ nwn S d (S 1 0) ∧ nwn S d (S 1 0) ≤ S 1 0 - 1 - ct (fun k => S 2 k = d) (cnt S) := by
  have hw := hW.2.1
  unfold WFSs at hw
  have h1 := rm_ct hW h (S 1 0).toNat (by omega)
  have h2 := ct_rng (fun j => ¬ gne S d j) (S 1 0).toNat
  rw [if_pos (by have := h.2.1; omega)] at h1
  have e : nwn S d (S 1 0) = ct (fun j => ¬ gne S d j) (S 1 0).toNat := rfl
  have e2 : cnt S = (S 1 0).toNat := rfl
  rw [e, e2]
  omega
/- ticks -/
theorem tow_by {f t s : Int} (h : 0 ≤ s) : f - s ≤ tow f t s ∧ tow f t s ≤ f + s := by
  unfold tow
  split
  · split <;> omega
  · split <;> omega
theorem tk1F (S : MM) (h : 0 ≤ S 15 1) : tkS S 11 0 = S 11 0 ∧ tkS S 11 1 = S 11 1 + 1 ∧ (S 11 2 - S 15 1 ≤ tkS S 11 2 ∧ tkS S 11 2 ≤ S 11 2 + S 15 1) ∧ (S 11 3 - S 15 1 ≤ tkS S 11 3 ∧ tkS S 11 3 ≤ S 11 3 + S 15 1) ∧ (S 11 0 = 0 → tkS S 11 2 = S 11 2 ∧ tkS S 11 3 = S 11 3) := by
  have e : tkS S = if nowS (mset S 11 1 (S 11 1 + 1)) = -1000 then mset S 11 1 (S 11 1 + 1) else mset (mset (mset S 11 1 (S 11 1 + 1)) 11 2 (tow (mset S 11 1 (S 11 1 + 1) 11 2) (mset S 11 1 (S 11 1 + 1) 12 (nowS (mset S 11 1 (S 11 1 + 1)))) (mset S 11 1 (S 11 1 + 1) 15 1))) 11 3 (tow (mset S 11 1 (S 11 1 + 1) 11 3) (mset S 11 1 (S 11 1 + 1) 13 (nowS (mset S 11 1 (S 11 1 + 1)))) (mset S 11 1 (S 11 1 + 1) 15 1)) := rfl
  rw [e]
  by_cases q : nowS (mset S 11 1 (S 11 1 + 1)) = -1000
  · rw [if_pos q]
    simp [mset]
    omega
  · rw [if_neg q]
    have e2 : mset S 11 1 (S 11 1 + 1) 11 2 = S 11 2 := by simp [mset]
    have e3 : mset S 11 1 (S 11 1 + 1) 11 3 = S 11 3 := by simp [mset]
    have e15 : mset S 11 1 (S 11 1 + 1) 15 1 = S 15 1 := by simp [mset]
    have e0 : mset S 11 1 (S 11 1 + 1) 11 0 = S 11 0 := by simp [mset]
    rw [e2, e3, e15]
    have t2 := tow_by (f := S 11 2) (t := mset S 11 1 (S 11 1 + 1) 12 (nowS (mset S 11 1 (S 11 1 + 1)))) h
    have t3 := tow_by (f := S 11 3) (t := mset S 11 1 (S 11 1 + 1) 13 (nowS (mset S 11 1 (S 11 1 + 1)))) h
    generalize tow (S 11 2) _ (S 15 1) = a at *
    generalize tow (S 11 3) _ (S 15 1) = b at *
    have hz : S 11 0 ≠ 0 := fun z => q (by unfold nowS; rw [e0, if_pos z])
    have r0 : mset (mset (mset S 11 1 (S 11 1 + 1)) 11 2 a) 11 3 b 11 0 = S 11 0 := by simp [mset]
    have r1 : mset (mset (mset S 11 1 (S 11 1 + 1)) 11 2 a) 11 3 b 11 1 = S 11 1 + 1 := by simp [mset]
    have r2 : mset (mset (mset S 11 1 (S 11 1 + 1)) 11 2 a) 11 3 b 11 2 = a := by simp [mset]
    have r3 : mset (mset (mset S 11 1 (S 11 1 + 1)) 11 2 a) 11 3 b 11 3 = b := by simp [mset]
    rw [r0, r1, r2, r3]
    exact ⟨rfl, rfl, t2, t3, fun z => absurd z hz⟩
theorem tknF {S : MM} (h : 0 ≤ S 15 1) : ∀ k : Nat, tkSn k S 11 0 = S 11 0 ∧ tkSn k S 11 1 = S 11 1 + k ∧ (S 11 2 - k * S 15 1 ≤ tkSn k S 11 2 ∧ tkSn k S 11 2 ≤ S 11 2 + k * S 15 1) ∧ (S 11 3 - k * S 15 1 ≤ tkSn k S 11 3 ∧ tkSn k S 11 3 ≤ S 11 3 + k * S 15 1) ∧ (S 11 0 = 0 → tkSn k S 11 2 = S 11 2 ∧ tkSn k S 11 3 = S 11 3)
  | 0 => by simp [tkSn]
  | k + 1 => by
    have ih := tknF h k
    have e15 : tkSn k S 15 = S 15 := tkSn_row (by decide) k
    have h1 := tk1F (tkSn k S) (by rw [e15]; exact h)
    rw [e15] at h1
    have e : tkSn (k + 1) S = tkS (tkSn k S) := rfl
    rw [e]
    have em : ((k + 1 : Nat) : Int) * S 15 1 = k * S 15 1 + S 15 1 := by rw [Int.natCast_add, Int.add_mul]; omega
    rw [em]
    generalize (k : Int) * S 15 1 = m at *
    omega
theorem fit_cg {S S2 : MM} (h : ∀ k, k ≠ 11 → S2 k = S k) (g p lo hi : Int) : fits1 S2 g p lo hi = fits1 S g p lo hi := by
  have hsum : ∀ (f : Nat) (n : Int), sumd S2 6 f n = sumd S 6 f n := by
    intro f
    induction f with
    | zero => intro n; rfl
    | succ f ih =>
      intro n
      simp only [sumd]
      rw [h 6 (by decide), h 2 (by decide), ih]
  have hr : ∀ n : Int, rawg S2 g n = rawg S g n := fun n => by
    unfold rawg pos
    rw [hsum]
  have hb : ∀ n : Int, bx S2 n ↔ bx S n := fun n => by
    show (0 ≤ n ∧ n < S2 1 0 ∧ n < 20) ∧ 0 < S2 7 n ↔ (0 ≤ n ∧ n < S 1 0 ∧ n < 20) ∧ 0 < S 7 n
    rw [h 1 (by decide), h 7 (by decide)]
  have hf : ∀ k : Nat, ftn S2 g p lo hi k = ftn S g p lo hi k := by
    intro k
    rw [Bool.eq_iff_iff, ftn_all, ftn_all]
    exact ⟨fun q j hj => by have := q j hj; rwa [hb, hr] at this, fun q j hj => by have := q j hj; rwa [← hb, ← hr] at this⟩
  unfold fits1 cnt
  rw [h 1 (by decide), hf]
theorem faF_ok {S : MM} : ∀ (f k : Nat), faF S f k = -1000 ∨ ∃ u : Nat, faF S f k = u ∧ k ≤ u ∧ u < k + f ∧ fits1 S (S 15 0) 100 (tkSn u S 11 2) (tkSn u S 11 3) = true
  | 0, k => Or.inl rfl
  | f + 1, k => by
    by_cases h : fits1 S (S 15 0) 100 (tkSn k S 11 2) (tkSn k S 11 3) = true
    · exact Or.inr ⟨k, faF_t rfl h, by omega, by omega, h⟩
    · rw [faF_f rfl h]
      rcases faF_ok f (k + 1) with q | ⟨u, u1, u2, u3, u4⟩
      · exact Or.inl q
      · exact Or.inr ⟨u, u1, by omega, by omega, u4⟩
theorem fuF {S : MM} {t : Int} (ht : 1 ≤ t) : -1000 ≤ faF S (t + 1).toNat 0 ∧ faF S (t + 1).toNat 0 ≤ t ∧ (faF S (t + 1).toNat 0 = t → pct (tkSn t.toNat S) = 100) := by
  rcases faF_ok (S := S) (t + 1).toNat 0 with q | ⟨u, u1, u2, u3, u4⟩
  · rw [q]
    exact ⟨by decide, by omega, fun z => by omega⟩
  · rw [u1]
    refine ⟨by omega, by omega, fun z => ?_⟩
    have eu : u = t.toNat := by omega
    subst eu
    have hrow : ∀ k, k ≠ 11 → tkSn t.toNat S k = S k := fun k hk => tkSn_row hk _
    refine pctW_100.mp ?_
    rw [fit_cg hrow, hrow 15 (by decide)]
    exact u4
/- the end: no gain, no title -/
theorem finF {T : Int} {S : MM} (hW : WFS T S) (h0 : S 15 0 = 0) (h7 : S 0 7 = 0) : pct S = 100 ∧ wnd S 1 = 0 ∧ gall S 1 = 0 := by
  have hw := hW.2.1
  unfold WFSs at hw
  have hr : ∀ n, rawg S (S 15 0) n = 0 := fun n => by unfold rawg; rw [h0, Int.zero_mul]; rfl
  have hsh : ∀ n, shf S n = 0 := fun n => by unfold shf; rw [hr, Int.zero_mul]; rfl
  have hwn : ∀ l, wnd S l = 0 := fun l => by
    have hg : ∀ k, gcut S l 0 k = 0 := by
      intro k
      induction k with
      | zero => rfl
      | succ k ih => rw [gcut_f (by rw [ih, hsh]; exact fun z => absurd z.1 (by decide)), ih]
    exact wndF_t (r1 := 20) rfl (hg _)
  have hcol : ∀ n, col S 1 n = col S 0 n := fun n => by
    unfold col
    rw [hsh, (coF _ _).1, (coF _ _).2]
    omega
  have hfr : ∀ (c r : Int) (k : Nat), frt S 1 c r k = frt S 0 c r k := by
    intro c r k
    induction k with
    | zero => rfl
    | succ k ih =>
      simp only [frt]
      rw [ih]
      by_cases q : cov S 0 c r (ord S k)
      · rw [if_pos q, if_pos ⟨q.1, by rw [hcol]; exact q.2⟩]
      · rw [if_neg q, if_neg (fun z => q ⟨z.1, by rw [← hcol]; exact z.2⟩)]
  have htt : (ttl S).1 = -1000 := by unfold ttl; rw [if_pos h7]
  have hsd : ∀ c r : Int, 0 ≤ c → c < S 0 3 → 0 ≤ r → shd S 1 c r = shd S 0 c r := by
    intro c r c0 c1 r0
    have e := shdF hW c r ⟨c0, c1⟩
    rw [e.1, e.2, hwn, hwn, htt]
    have ef : front S 1 c r = front S 0 c r := hfr c r _
    have n1 : ¬ c < 0 := by omega
    have n2 : ¬ S 0 3 - 0 ≤ c := by omega
    have n3 : ¬ (r = -1000 ∧ tco S 1 ≤ c ∧ c < tco S 1 + S 0 7) := fun z => by omega
    have n4 : ¬ (r = -1000 ∧ tco S 0 ≤ c ∧ c < tco S 0 + S 0 7) := fun z => by omega
    rw [ef, if_neg n1, if_neg n2, if_neg n3, if_neg n4]
  refine ⟨pctW_100.mp ?_, hwn 1, ?_⟩
  · exact ftn_all.mpr (fun j _ => Or.inr (by rw [hr]; omega))
  · have hg : ∀ r : Nat, gcnt S 1 r = 0 := fun r => ct_no (fun c hc => by
      have hc2 : (c : Int) < S 0 3 := by omega
      rw [ghs_eq, hsd c r (by omega) hc2 (by omega), Int.sub_self]
      simp)
    have hs : ∀ k : Nat, sm (gcnt S 1) k = 0 := by
      intro k
      induction k with
      | zero => rfl
      | succ k ih => simp only [sm]; rw [ih, hg]; rfl
    exact hs _
theorem sceneOK {S : MM} {n k : Int} (hn : hscS S n) (hk : 0 ≤ k ∧ k ≤ 3) : f2l (if hscS S n then 0 else 1) (if 0 ≤ k ∧ k ≤ 3 then 0 else 2) = 0 := by
  rw [if_pos hn, if_pos hk]; rfl
theorem scv_3 {S : MM} {n : Int} (h : 0 < n) : sm (S 14) n.toNat = sm (S 14) (n - 1).toNat + S 14 (n - 1) := by
  obtain ⟨m, rfl⟩ : ∃ m : Nat, n = ((m + 1 : Nat) : Int) := ⟨n.toNat - 1, by omega⟩
  have e1 : (((m + 1 : Nat) : Int)).toNat = m + 1 := by omega
  have e2 : (((m + 1 : Nat) : Int) - 1).toNat = m := by omega
  have e3 : (((m + 1 : Nat) : Int) - 1) = (m : Int) := by omega
  rw [e1, e2, e3]; rfl

