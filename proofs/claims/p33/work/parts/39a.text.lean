/-! the command text: what is read -/
/-- the end of a run of bytes of a kind -/
def spF (P : Int → Bool) (n : Int) : Nat → Int → Int
  | 0, p => p
  | k + 1, p => if p < n ∧ P p = true then spF P n k (p + 1) else p
def spn (P : Int → Bool) (n p : Int) : Int := spF P n (n - p).toNat p
theorem spn_go {P : Int → Bool} {n p : Int} (h : p < n) (hp : P p = true) : spn P n p = spn P n (p + 1) := by
  unfold spn
  obtain ⟨k, hk⟩ : ∃ k, (n - p).toNat = k + 1 := ⟨(n - p).toNat - 1, by omega⟩
  rw [hk, show (n - (p + 1)).toNat = k by omega]
  show (if p < n ∧ P p = true then spF P n k (p + 1) else p) = _
  rw [if_pos ⟨h, hp⟩]
theorem spn_stop {P : Int → Bool} {n p : Int} (h : ¬ (p < n ∧ P p = true)) : spn P n p = p := by
  unfold spn
  cases (n - p).toNat with
  | zero => rfl
  | succ k => exact if_neg h
theorem spF_ge {P : Int → Bool} {n : Int} : ∀ (k : Nat) (p : Int), p ≤ spF P n k p ∧ (p ≤ n → spF P n k p ≤ n) := by
  intro k
  induction k with
  | zero => intro p; exact ⟨Int.le_refl _, fun h => h⟩
  | succ k ih =>
    intro p
    show p ≤ (if p < n ∧ P p = true then spF P n k (p + 1) else p) ∧ (p ≤ n → (if p < n ∧ P p = true then spF P n k (p + 1) else p) ≤ n)
    have := ih (p + 1)
    split
    · omega
    · exact ⟨Int.le_refl _, fun h => h⟩
theorem spn_ge {P : Int → Bool} {n p : Int} : p ≤ spn P n p := (spF_ge _ _).1
theorem spn_le {P : Int → Bool} {n p : Int} (h : p ≤ n) : spn P n p ≤ n := (spF_ge _ _).2 h
theorem spF_in {P : Int → Bool} {n : Int} : ∀ (k : Nat) (p q : Int), p ≤ q → q < spF P n k p → q < n ∧ P q = true := by
  intro k
  induction k with
  | zero =>
    intro p q h1 h2
    have : q < p := h2
    omega
  | succ k ih =>
    intro p q h1 h2
    have h3 : q < (if p < n ∧ P p = true then spF P n k (p + 1) else p) := h2
    split at h3
    · rename_i c
      by_cases e : q = p
      · subst e; exact c
      · exact ih (p + 1) q (by omega) h3
    · omega
theorem spn_in {P : Int → Bool} {n p q : Int} (h : p ≤ q) (h2 : q < spn P n p) : q < n ∧ P q = true := spF_in _ _ _ h h2
def isSp (t : Int → Int) (p : Int) : Bool := decide (t p = 32)
def isLt (t : Int → Int) (p : Int) : Bool := decide (97 ≤ t p ∧ t p ≤ 122)
abbrev isDg (t : Int → Int) (p : Int) : Prop := 48 ≤ t p ∧ t p ≤ 57
def sk (t : Int → Int) (n p : Int) : Int := spn (isSp t) n p
def we (t : Int → Int) (n p : Int) : Int := spn (isLt t) n p
theorem sk_go {t : Int → Int} {n p : Int} (h : p < n) (hp : t p = 32) : sk t n p = sk t n (p + 1) := spn_go h (decide_eq_true hp)
theorem sk_stop {t : Int → Int} {n p : Int} (h : ¬ (p < n ∧ t p = 32)) : sk t n p = p := spn_stop (fun q => h ⟨q.1, of_decide_eq_true q.2⟩)
theorem sk_ge {t : Int → Int} {n p : Int} : p ≤ sk t n p := spn_ge
theorem sk_le {t : Int → Int} {n p : Int} (h : p ≤ n) : sk t n p ≤ n := spn_le h
theorem we_go {t : Int → Int} {n p : Int} (h : p < n) (hp : 97 ≤ t p ∧ t p ≤ 122) : we t n p = we t n (p + 1) := spn_go h (decide_eq_true hp)
theorem we_stop {t : Int → Int} {n p : Int} (h : ¬ (p < n ∧ (97 ≤ t p ∧ t p ≤ 122))) : we t n p = p := spn_stop (fun q => h ⟨q.1, of_decide_eq_true q.2⟩)
theorem we_ge {t : Int → Int} {n p : Int} : p ≤ we t n p := spn_ge
theorem we_le {t : Int → Int} {n p : Int} (h : p ≤ n) : we t n p ≤ n := spn_le h
theorem we_in {t : Int → Int} {n p q : Int} (h : p ≤ q) (h2 : q < we t n p) : q < n ∧ (97 ≤ t q ∧ t q ≤ 122) := by
  have := spn_in h h2
  exact ⟨this.1, of_decide_eq_true this.2⟩
/-- a number's end and value: at most k digits from p on, v so far -/
def nmF (t : Int → Int) (n : Int) : Nat → Int → Int → Int × Int
  | 0, p, v => (p, v)
  | k + 1, p, v => if p < n ∧ isDg t p then nmF t n k (p + 1) (10 * v + t p - 48) else (p, v)
theorem nmF_go {t : Int → Int} {n p v : Int} {k : Nat} (h : p < n ∧ isDg t p) : nmF t n (k + 1) p v = nmF t n k (p + 1) (10 * v + t p - 48) := if_pos h
theorem nmF_stop {t : Int → Int} {n p v : Int} {k : Nat} (h : ¬ (p < n ∧ isDg t p)) : nmF t n k p v = (p, v) := by
  cases k with
  | zero => rfl
  | succ k => exact if_neg h
theorem nmF_bd {t : Int → Int} {n : Int} : ∀ (k : Nat) (p v : Int), 0 ≤ v → p ≤ (nmF t n k p v).1 ∧ (p ≤ n → (nmF t n k p v).1 ≤ n) ∧ 0 ≤ (nmF t n k p v).2 ∧ (nmF t n k p v).2 < (v + 1) * 10 ^ k := by
  intro k
  induction k with
  | zero =>
    intro p v hv
    exact ⟨Int.le_refl _, fun h => h, hv, by show v < (v + 1) * 10 ^ 0; omega⟩
  | succ k ih =>
    intro p v hv
    by_cases c : p < n ∧ isDg t p
    · rw [nmF_go c]
      obtain ⟨c1, c2, c3⟩ := c
      obtain ⟨h1, h2, h3, h4⟩ := ih (p + 1) (10 * v + t p - 48) (by omega)
      refine ⟨by omega, fun _ => h2 (by omega), h3, ?_⟩
      have hp : (0 : Int) < 10 ^ k := Int.pow_pos (by decide)
      have := Int.mul_le_mul_of_nonneg_right (a := 10 * v + t p - 48 + 1) (b := (v + 1) * 10) (c := 10 ^ k) (by omega) (by omega)
      rw [Int.pow_succ, Int.mul_comm (10 ^ k) 10, ← Int.mul_assoc]
      omega
    · rw [nmF_stop c]
      refine ⟨Int.le_refl _, fun h => h, hv, ?_⟩
      have hp : (0 : Int) < 10 ^ (k + 1) := Int.pow_pos (by decide)
      have h5 : (1 : Int) ≤ 10 ^ (k + 1) := hp
      have := Int.mul_le_mul_of_nonneg_left (c := v + 1) h5 (by omega)
      show v < _
      omega
def numE (t : Int → Int) (n p : Int) : Int := (nmF t n 3 p 0).1
def numV (t : Int → Int) (n p : Int) : Int := (nmF t n 3 p 0).2
theorem numV_bd {t : Int → Int} {n p : Int} : 0 ≤ numV t n p ∧ numV t n p < 1000 := by
  have := nmF_bd (t := t) (n := n) 3 p 0 (by omega)
  unfold numV
  omega
theorem numE_bd {t : Int → Int} {n p : Int} : p ≤ numE t n p ∧ (p ≤ n → numE t n p ≤ n) := by
  have := nmF_bd (t := t) (n := n) 3 p 0 (by omega)
  exact ⟨this.1, this.2.1⟩
/-- a number at a place: whether one is read, where reading stands then -/
abbrev rnO (t : Int → Int) (n a : Int) : Prop := (a < n ∧ t a = 32) ∧ (sk t n a < n ∧ isDg t (sk t n a))
def rnE (t : Int → Int) (n a : Int) : Int := if rnO t n a then numE t n (sk t n a) else sk t n a
def rnV (t : Int → Int) (n a : Int) : Int := numV t n (sk t n a)
theorem rnE_ge {t : Int → Int} {n a : Int} : a ≤ rnE t n a := by
  have h1 := sk_ge (t := t) (n := n) (p := a)
  have h2 := (numE_bd (t := t) (n := n) (p := sk t n a)).1
  unfold rnE; split <;> omega
theorem rnE_le {t : Int → Int} {n a : Int} (h : a ≤ n) : rnE t n a ≤ n := by
  have h1 := sk_le (t := t) h
  have h2 := (numE_bd (t := t) (n := n) (p := sk t n a)).2 h1
  unfold rnE; split <;> omega
/-- the place of the j-th number -/
def plj (t : Int → Int) (n a : Int) : Nat → Int
  | 0 => a
  | j + 1 => rnE t n (plj t n a j)
theorem plj_le {t : Int → Int} {n a : Int} (h : a ≤ n) : ∀ j, a ≤ plj t n a j ∧ plj t n a j ≤ n := by
  intro j
  induction j with
  | zero => exact ⟨Int.le_refl _, h⟩
  | succ j ih => exact ⟨Int.le_trans ih.1 rnE_ge, rnE_le ih.2⟩
/-- k numbers from a on -/
def nsR (t : Int → Int) (n : Int) : Nat → Int → Bool × Int
  | 0, a => (true, a)
  | k + 1, a => if rnO t n a then nsR t n k (rnE t n a) else (false, rnE t n a)
theorem nsR_go {t : Int → Int} {n a : Int} {k : Nat} (h : rnO t n a) : nsR t n (k + 1) a = nsR t n k (rnE t n a) := if_pos h
theorem nsR_no {t : Int → Int} {n a : Int} {k : Nat} (h : ¬ rnO t n a) : nsR t n (k + 1) a = (false, rnE t n a) := if_neg h
theorem nsR_bd {t : Int → Int} {n : Int} : ∀ (k : Nat) (a : Int), a ≤ (nsR t n k a).2 ∧ (a ≤ n → (nsR t n k a).2 ≤ n) := by
  intro k
  induction k with
  | zero => intro a; exact ⟨Int.le_refl _, fun h => h⟩
  | succ k ih =>
    intro a
    have h1 := rnE_ge (t := t) (n := n) (a := a)
    by_cases c : rnO t n a
    · rw [nsR_go c]
      have := ih (rnE t n a)
      exact ⟨by omega, fun h => this.2 (rnE_le h)⟩
    · rw [nsR_no c]
      exact ⟨h1, fun h => rnE_le h⟩
/-- whether word i stands on [p, q) -/
abbrev wok (t : Int → Int) (p q : Int) (i : Nat) : Prop := ((wtx i).length : Int) = q - p ∧ ∀ j, j < (wtx i).length → t (p + (j : Int)) = (wtx i).getD j 0
def wxF (t : Int → Int) (p q : Int) : Nat → Nat → Int
  | 0, _ => -1
  | k + 1, i => if wok t p q i then i else wxF t p q k (i + 1)
def wix (t : Int → Int) (p q : Int) : Int := wxF t p q 9 0
theorem wxF_rg {t : Int → Int} {p q : Int} : ∀ (k i : Nat), wxF t p q k i = -1 ∨ ((i : Int) ≤ wxF t p q k i ∧ wxF t p q k i < i + k) := by
  intro k
  induction k with
  | zero => intro i; exact Or.inl rfl
  | succ k ih =>
    intro i
    show (if wok t p q i then (i : Int) else wxF t p q k (i + 1)) = -1 ∨ _ ≤ (if wok t p q i then (i : Int) else wxF t p q k (i + 1)) ∧ (if wok t p q i then (i : Int) else wxF t p q k (i + 1)) < _
    have := ih (i + 1)
    split <;> omega
theorem wix_rg (t : Int → Int) (p q : Int) : -1 ≤ wix t p q ∧ wix t p q < 9 := by
  have := wxF_rg (t := t) (p := p) (q := q) 9 0
  unfold wix; omega
/-- a command at p: whether one is read, and where reading stands then -/
def RC (t : Int → Int) (n p : Int) : Bool × Int :=
  if wix t p (we t n p) < 0 then (false, p)
  else if (nsR t n (wnm (wix t p (we t n p)).toNat).toNat (we t n p)).1 = true then
    (if sk t n (nsR t n (wnm (wix t p (we t n p)).toNat).toNat (we t n p)).2 < n ∧ t (sk t n (nsR t n (wnm (wix t p (we t n p)).toNat).toNat (we t n p)).2) = 59 then (true, sk t n (nsR t n (wnm (wix t p (we t n p)).toNat).toNat (we t n p)).2 + 1)
     else (false, sk t n (nsR t n (wnm (wix t p (we t n p)).toNat).toNat (we t n p)).2))
  else (false, (nsR t n (wnm (wix t p (we t n p)).toNat).toNat (we t n p)).2)
theorem RC_w {t : Int → Int} {n p : Int} (h : wix t p (we t n p) < 0) : RC t n p = (false, p) := by unfold RC; rw [if_pos h]
theorem RC_n {t : Int → Int} {n p : Int} (h : ¬ wix t p (we t n p) < 0) (h2 : ¬ (nsR t n (wnm (wix t p (we t n p)).toNat).toNat (we t n p)).1 = true) : RC t n p = (false, (nsR t n (wnm (wix t p (we t n p)).toNat).toNat (we t n p)).2) := by
  unfold RC; rw [if_neg h, if_neg h2]
theorem RC_s {t : Int → Int} {n p : Int} (h : ¬ wix t p (we t n p) < 0) (h2 : (nsR t n (wnm (wix t p (we t n p)).toNat).toNat (we t n p)).1 = true) {a : Int} (ha : sk t n (nsR t n (wnm (wix t p (we t n p)).toNat).toNat (we t n p)).2 = a) (h3 : ¬ (a < n ∧ t a = 59)) : RC t n p = (false, a) := by
  unfold RC; rw [if_neg h, if_pos h2, ha, if_neg h3]
theorem RC_y {t : Int → Int} {n p : Int} (h : ¬ wix t p (we t n p) < 0) (h2 : (nsR t n (wnm (wix t p (we t n p)).toNat).toNat (we t n p)).1 = true) {a : Int} (ha : sk t n (nsR t n (wnm (wix t p (we t n p)).toNat).toNat (we t n p)).2 = a) (h3 : a < n ∧ t a = 59) : RC t n p = (true, a + 1) := by
  unfold RC; rw [if_neg h, if_pos h2, ha, if_pos h3]
theorem RC_bd {t : Int → Int} {n p : Int} (h0 : p ≤ n) : p ≤ (RC t n p).2 ∧ (RC t n p).2 ≤ n ∧ ((RC t n p).1 = true → p < (RC t n p).2) := by
  have b1 := we_ge (t := t) (n := n) (p := p)
  have b2 := we_le (t := t) h0
  by_cases h : wix t p (we t n p) < 0
  · rw [RC_w h]; exact ⟨Int.le_refl _, h0, fun q => Bool.noConfusion q⟩
  have b3 := nsR_bd (t := t) (n := n) (wnm (wix t p (we t n p)).toNat).toNat (we t n p)
  by_cases h2 : (nsR t n (wnm (wix t p (we t n p)).toNat).toNat (we t n p)).1 = true
  · have b4 := sk_ge (t := t) (n := n) (p := (nsR t n (wnm (wix t p (we t n p)).toNat).toNat (we t n p)).2)
    have b5 := sk_le (t := t) (b3.2 b2)
    by_cases h3 : sk t n (nsR t n (wnm (wix t p (we t n p)).toNat).toNat (we t n p)).2 < n ∧ t (sk t n (nsR t n (wnm (wix t p (we t n p)).toNat).toNat (we t n p)).2) = 59
    · rw [RC_y h h2 rfl h3]
      refine ⟨by show p ≤ _ + 1; omega, by show _ + 1 ≤ n; omega, fun _ => by show p < _ + 1; omega⟩
    · rw [RC_s h h2 rfl h3]
      exact ⟨by show p ≤ sk _ _ _; omega, b5, fun q => Bool.noConfusion q⟩
  · rw [RC_n h h2]
    exact ⟨by show p ≤ (nsR _ _ _ _).2; omega, b3.2 b2, fun q => Bool.noConfusion q⟩
/-- the place of the first fault; -1 -/
def ffF (t : Int → Int) (n : Int) : Nat → Int → Int
  | 0, _ => -1
  | k + 1, p => if p < n then (if (RC t n p).1 = true then ffF t n k (sk t n (RC t n p).2) else (RC t n p).2) else -1
theorem ffF_end {t : Int → Int} {n p : Int} {k : Nat} (h : ¬ p < n) : ffF t n k p = -1 := by
  cases k with
  | zero => rfl
  | succ k => exact if_neg h
theorem ffF_go {t : Int → Int} {n p : Int} {k : Nat} (h : p < n) (h2 : (RC t n p).1 = true) : ffF t n (k + 1) p = ffF t n k (sk t n (RC t n p).2) := by
  show (if p < n then _ else _) = _
  rw [if_pos h, if_pos h2]
theorem ffF_no {t : Int → Int} {n p : Int} {k : Nat} (h : p < n) (h2 : ¬ (RC t n p).1 = true) : ffF t n (k + 1) p = (RC t n p).2 := by
  show (if p < n then _ else _) = _
  rw [if_pos h, if_neg h2]
def ff (t : Int → Int) (n : Int) : Int := ffF t n 150 (sk t n 0)

