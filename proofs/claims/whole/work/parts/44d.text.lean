/-! a text's commands are read from its bytes alone -/
abbrev Sme (t u : Int → Int) (n : Int) : Prop := ∀ j : Int, 0 ≤ j → j < n → t j = u j
theorem spF_cg {P P2 : Int → Bool} {n : Int} (h : ∀ j : Int, 0 ≤ j → j < n → P j = P2 j) : ∀ (k : Nat) (p : Int), 0 ≤ p → spF P n k p = spF P2 n k p := by
  intro k
  induction k with
  | zero => intro p _; rfl
  | succ k ih =>
    intro p hp
    show (if p < n ∧ P p = true then spF P n k (p + 1) else p) = (if p < n ∧ P2 p = true then spF P2 n k (p + 1) else p)
    rw [ih (p + 1) (by omega)]
    by_cases c : p < n
    · rw [h p hp c]
    · rw [if_neg (fun q => c q.1), if_neg (fun q => c q.1)]
theorem sk_cg {t u : Int → Int} {n p : Int} (h : Sme t u n) (hp : 0 ≤ p) : sk t n p = sk u n p := spF_cg (fun j h0 h1 => by unfold isSp; rw [h j h0 h1]) _ p hp
theorem we_cg {t u : Int → Int} {n p : Int} (h : Sme t u n) (hp : 0 ≤ p) : we t n p = we u n p := spF_cg (fun j h0 h1 => by unfold isLt; rw [h j h0 h1]) _ p hp
theorem nmF_cg {t u : Int → Int} {n : Int} (h : Sme t u n) : ∀ (k : Nat) (p v : Int), 0 ≤ p → nmF t n k p v = nmF u n k p v := by
  intro k
  induction k with
  | zero => intro p v _; rfl
  | succ k ih =>
    intro p v hp
    show (if p < n ∧ isDg t p then nmF t n k (p + 1) (10 * v + t p - 48) else (p, v)) = (if p < n ∧ isDg u p then nmF u n k (p + 1) (10 * v + u p - 48) else (p, v))
    by_cases c : p < n
    · rw [ih (p + 1) _ (by omega)]
      unfold isDg
      rw [h p hp c]
    · rw [if_neg (fun q => c q.1), if_neg (fun q => c q.1)]
theorem rnO_cg {t u : Int → Int} {n a : Int} (h : Sme t u n) (ha : 0 ≤ a) : rnO t n a ↔ rnO u n a := by
  have e := sk_cg h ha
  have g := sk_ge (t := u) (n := n) (p := a)
  unfold rnO isDg
  rw [e]
  constructor
  · rintro ⟨⟨a1, a2⟩, a3, a4⟩
    rw [h _ ha a1] at a2
    rw [h _ (by omega) a3] at a4
    exact ⟨⟨a1, a2⟩, a3, a4⟩
  · rintro ⟨⟨a1, a2⟩, a3, a4⟩
    rw [← h _ ha a1] at a2
    rw [← h _ (by omega) a3] at a4
    exact ⟨⟨a1, a2⟩, a3, a4⟩
theorem rnE_cg {t u : Int → Int} {n a : Int} (h : Sme t u n) (ha : 0 ≤ a) : rnE t n a = rnE u n a := by
  have g := sk_ge (t := u) (n := n) (p := a)
  unfold rnE numE
  by_cases c : rnO t n a
  · rw [if_pos c, if_pos ((rnO_cg h ha).mp c), sk_cg h ha, nmF_cg h _ _ _ (by omega)]
  · rw [if_neg c, if_neg (fun q => c ((rnO_cg h ha).mpr q)), sk_cg h ha]
theorem rnV_cg {t u : Int → Int} {n a : Int} (h : Sme t u n) (ha : 0 ≤ a) : rnV t n a = rnV u n a := by
  have g := sk_ge (t := u) (n := n) (p := a)
  unfold rnV numV
  rw [sk_cg h ha, nmF_cg h _ _ _ (by omega)]
theorem plj_cg {t u : Int → Int} {n a : Int} (h : Sme t u n) (ha : 0 ≤ a) : ∀ j, plj t n a j = plj u n a j ∧ 0 ≤ plj t n a j := by
  intro j
  induction j with
  | zero => exact ⟨rfl, ha⟩
  | succ j ih =>
    show rnE t n (plj t n a j) = rnE u n (plj u n a j) ∧ 0 ≤ rnE t n (plj t n a j)
    have := rnE_ge (t := t) (n := n) (a := plj t n a j)
    rw [← ih.1]
    exact ⟨rnE_cg h ih.2, by omega⟩
theorem nsR_cg {t u : Int → Int} {n : Int} (h : Sme t u n) : ∀ (k : Nat) (a : Int), 0 ≤ a → nsR t n k a = nsR u n k a := by
  intro k
  induction k with
  | zero => intro a _; rfl
  | succ k ih =>
    intro a ha
    have g := rnE_ge (t := t) (n := n) (a := a)
    by_cases c : rnO t n a
    · rw [nsR_go c, nsR_go ((rnO_cg h ha).mp c), ih _ (by omega), rnE_cg h ha]
    · rw [nsR_no c, nsR_no (fun q => c ((rnO_cg h ha).mpr q)), rnE_cg h ha]
theorem wok_cg {t u : Int → Int} {n p q : Int} {i : Nat} (h : Sme t u n) (hp : 0 ≤ p) (hq : q ≤ n) : wok t p q i ↔ wok u p q i := by
  constructor
  · rintro ⟨a1, a2⟩
    exact ⟨a1, fun j hj => by rw [← h _ (by omega) (by omega)]; exact a2 j hj⟩
  · rintro ⟨a1, a2⟩
    exact ⟨a1, fun j hj => by rw [h _ (by omega) (by omega)]; exact a2 j hj⟩
theorem wxF_cg {t u : Int → Int} {n p q : Int} (h : Sme t u n) (hp : 0 ≤ p) (hq : q ≤ n) : ∀ k i, wxF t p q k i = wxF u p q k i := by
  intro k
  induction k with
  | zero => intro i; rfl
  | succ k ih =>
    intro i
    show (if wok t p q i then (i : Int) else wxF t p q k (i + 1)) = (if wok u p q i then (i : Int) else wxF u p q k (i + 1))
    rw [ih]
    by_cases c : wok t p q i
    · rw [if_pos c, if_pos ((wok_cg h hp hq).mp c)]
    · rw [if_neg c, if_neg (fun z => c ((wok_cg h hp hq).mpr z))]
theorem wix_cg {t u : Int → Int} {n p : Int} (h : Sme t u n) (hp : 0 ≤ p) (hn : p ≤ n) : wix t p (we t n p) = wix u p (we u n p) := by
  rw [we_cg h hp]
  exact wxF_cg h hp (we_le hn) 9 0
theorem RC_cg {t u : Int → Int} {n p : Int} (h : Sme t u n) (hp : 0 ≤ p) (hn : p ≤ n) : RC t n p = RC u n p := by
  have g1 := we_ge (t := t) (n := n) (p := p)
  unfold RC
  rw [← wix_cg h hp hn, ← we_cg h hp]
  generalize (wnm (wix t p (we t n p)).toNat).toNat = k
  rw [← nsR_cg h k _ (by omega)]
  have g2 := (nsR_bd (t := t) (n := n) k (we t n p)).1
  rw [← sk_cg h (p := (nsR t n k (we t n p)).2) (by omega)]
  have g3 := sk_ge (t := t) (n := n) (p := (nsR t n k (we t n p)).2)
  generalize sk t n (nsR t n k (we t n p)).2 = s at g3 ⊢
  by_cases c : s < n
  · rw [h s (by omega) c]
  · rw [if_neg (c := s < n ∧ t s = 59) (fun q => c q.1), if_neg (c := s < n ∧ u s = 59) (fun q => c q.1)]
theorem ffF_cg {t u : Int → Int} {n : Int} (h : Sme t u n) : ∀ (k : Nat) (p : Int), 0 ≤ p → p ≤ n → ffF t n k p = ffF u n k p := by
  intro k
  induction k with
  | zero => intro p _ _; rfl
  | succ k ih =>
    intro p hp hn
    show (if p < n then (if (RC t n p).1 = true then ffF t n k (sk t n (RC t n p).2) else (RC t n p).2) else -1) = (if p < n then (if (RC u n p).1 = true then ffF u n k (sk u n (RC u n p).2) else (RC u n p).2) else -1)
    rw [← RC_cg h hp hn]
    obtain ⟨b1, b2, -⟩ := RC_bd (t := t) (n := n) hn
    rw [← sk_cg h (p := (RC t n p).2) (by omega)]
    have g := sk_ge (t := t) (n := n) (p := (RC t n p).2)
    rw [ih _ (by omega) (sk_le b2)]
theorem ff_cg {t u : Int → Int} {n : Int} (h : Sme t u n) (hn : 0 ≤ n) : ff t n = ff u n := by
  unfold ff
  rw [← sk_cg h (p := 0) (by omega)]
  exact ffF_cg h _ _ (sk_ge (t := t)) (sk_le hn)
theorem vlA_cg {t u : Int → Int} {n p : Int} (h : Sme t u n) (hp : 0 ≤ p) : vlA t n p = vlA u n p := by
  funext j
  have g := we_ge (t := t) (n := n) (p := p)
  obtain ⟨e1, e2⟩ := plj_cg h (a := we t n p) (by omega) j
  show rnV t n (plj t n (we t n p) j) = rnV u n (plj u n (we u n p) j)
  rw [← we_cg h hp, ← e1]
  exact rnV_cg h e2
theorem rnR_cg {t u : Int → Int} {n : Int} (h : Sme t u n) : ∀ (k : Nat) (p : Int) (S : MM) (d : Int) (S2 : MM) (d2 : Int), 0 ≤ p → p ≤ n → rnR t n k p S d S2 d2 → rnR u n k p S d S2 d2 := by
  intro k
  induction k with
  | zero => intro p S d S2 d2 _ _ q; exact q
  | succ k ih =>
    intro p S d S2 d2 hp hn q
    have e1 : RC t n p = RC u n p := RC_cg h hp hn
    have e2 : wiA t n p = wiA u n p := congrArg Int.toNat (wix_cg h hp hn)
    have e3 : vlA t n p = vlA u n p := vlA_cg h hp
    obtain ⟨b1, b2, -⟩ := RC_bd (t := t) (n := n) hn
    have e4 := sk_cg h (p := (RC t n p).2) (by omega)
    have g := sk_ge (t := t) (n := n) (p := (RC t n p).2)
    have ec : cmOK t n p S ↔ cmOK u n p S := by unfold cmOK; rw [e1, e2, e3]
    refine ⟨fun c => ?_, fun c => q.2 (fun z => c (ec.mp z))⟩
    obtain ⟨S1, a1, a2, a3⟩ := q.1 (ec.mpr c)
    refine ⟨S1, by rw [← e2, ← e3]; exact a1, a2, ?_⟩
    rw [← e1, ← e4]
    exact ih _ _ _ _ _ (by omega) (sk_le b2) a3

