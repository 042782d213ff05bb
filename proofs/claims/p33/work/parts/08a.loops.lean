/-! loops -/
theorem up_ind {P : Nat → Prop} (N : Nat) (h : ∀ k, k ≤ N → (∀ k2, k < k2 → k2 ≤ N → P k2) → P k) : ∀ k, k ≤ N → P k := by
  have key : ∀ d k, k ≤ N → N - k ≤ d → P k := by
    intro d
    induction d with
    | zero => intro k hk hd; exact h k hk (fun k2 h1 h2 => absurd h1 (by omega))
    | succ d ih => intro k hk hd; exact h k hk (fun k2 h1 h2 => ih k2 h2 (by omega))
  exact fun k hk => key N k hk (by omega)
theorem J_locI {E : EE} {X : JX} {pc : Nat} {L L2 : List (Nat × Value)} {st : List Value} {K : Nat → Nat} {M : MM} {a b : Nat} (k1 : J E X pc L2 st K M a b) (hs2 : L2.map (fun q => lget L q.1) = L2.map (fun q => some q.2)) : J E X pc L st K M a b := J_loc L2 hs2 k1
/-- how many of the first k -/
def ct (p : Int → Prop) [DecidablePred p] : Nat → Int
  | 0 => 0
  | k + 1 => ct p k + bI (p k)
theorem ct_rng (p : Int → Prop) [DecidablePred p] : ∀ k : Nat, 0 ≤ ct p k ∧ ct p k ≤ k
  | 0 => ⟨Int.le_refl 0, Int.le_refl 0⟩
  | k + 1 => by
    have h := ct_rng p k
    have h1 := bI_01 (p k)
    simp only [ct]
    rcases h1 with h1 | h1 <;> rw [h1] <;> omega
theorem ct_t {p : Int → Prop} [DecidablePred p] {k : Nat} (h : p k) : ct p (k + 1) = ct p k + 1 := by simp only [ct]; rw [bI_t h]
theorem ct_f {p : Int → Prop} [DecidablePred p] {k : Nat} (h : ¬ p k) : ct p (k + 1) = ct p k := by simp only [ct]; rw [bI_f h]; omega
theorem ct_congr {p q : Int → Prop} [DecidablePred p] [DecidablePred q] : ∀ {k : Nat}, (∀ j : Nat, j < k → (p j ↔ q j)) → ct p k = ct q k
  | 0, _ => rfl
  | k + 1, h => by simp only [ct]; rw [ct_congr (fun j hj => h j (by omega)), bI_c (h k (by omega))]
/-- the sum of the first k -/
def sm (f : Int → Int) : Nat → Int
  | 0 => 0
  | k + 1 => sm f k + f k
theorem sm_rng {f : Int → Int} {A : Int} : ∀ {k : Nat}, (∀ j : Nat, j < k → 0 ≤ f j ∧ f j ≤ A) → 0 ≤ sm f k ∧ sm f k ≤ k * A
  | 0, _ => by simp [sm]
  | k + 1, h => by
    have h1 := sm_rng (k := k) (fun j hj => h j (by omega))
    have h2 := h k (by omega)
    simp only [sm]
    have : ((k + 1 : Nat) : Int) * A = k * A + A := by rw [Int.natCast_succ, Int.add_mul, Int.one_mul]
    omega
theorem sm_congr {f g : Int → Int} : ∀ {k : Nat}, (∀ j : Nat, j < k → f j = g j) → sm f k = sm g k
  | 0, _ => rfl
  | k + 1, h => by simp only [sm]; rw [sm_congr (fun j hj => h j (by omega)), h k (by omega)]
/-- the present scene: from n on, m before the last -/
def prs (tk : Int → Int) (t : Int) : Nat → Nat → Nat
  | 0, n => n
  | m + 1, n => if t < sm tk (n + 1) then n else prs tk t m (n + 1)
theorem prs_rng (tk : Int → Int) (t : Int) : ∀ m n : Nat, n ≤ prs tk t m n ∧ prs tk t m n ≤ n + m
  | 0, n => by simp [prs]
  | m + 1, n => by
    have h := prs_rng tk t m (n + 1)
    simp only [prs]
    split <;> omega
theorem prs_t {tk : Int → Int} {t : Int} {m m1 n : Nat} (hm : m = m1 + 1) (h : t < sm tk n + tk n) : prs tk t m n = n := by
  subst hm
  show (if t < sm tk (n + 1) then n else prs tk t m1 (n + 1)) = n
  exact if_pos h
theorem prs_f {tk : Int → Int} {t : Int} {m m1 n : Nat} (hm : m = m1 + 1) (h : ¬ t < sm tk n + tk n) : prs tk t m n = prs tk t m1 (n + 1) := by
  subst hm
  show (if t < sm tk (n + 1) then n else prs tk t m1 (n + 1)) = _
  exact if_neg h
theorem prs_0 {tk : Int → Int} {t : Int} {m n : Nat} (hm : m = 0) : prs tk t m n = n := by subst hm; rfl
def now (M : MM) (b : Nat) : Int := if M (b + 11) 0 = 0 then -1000 else (prs (M (b + 14)) (M (b + 11) 1) ((M (b + 11) 0).toNat - 1) 0 : Nat)
/-- one tick, several -/
def tkM (M : MM) (b : Nat) (r : Int) : MM :=
  let M1 := mset M (b + 11) 1 (M (b + 11) 1 + 1)
  if hsc M1 b (now M1 b) then
    (let M2 := mset M1 (b + 11) 2 (tow (M1 (b + 11) 2) (M1 (b + 12) (now M1 b)) r)
     mset M2 (b + 11) 3 (tow (M2 (b + 11) 3) (M2 (b + 13) (now M1 b)) r))
  else M1
def tkN (b : Nat) (r : Int) : Nat → MM → MM
  | 0, M => M
  | k + 1, M => tkM (tkN b r k M) b r
theorem now_rng {T : Int} {M : MM} {b : Nat} (hW : WF T M b) : i32 (now M b) ∧ (M (b + 11) 0 ≠ 0 → hsc M b (now M b)) ∧ (M (b + 11) 0 = 0 → now M b = -1000) := by
  have hW0 := hW
  obtain ⟨hT0, ⟨ws1, ws2, ws3, ws4, ws5, ws6, ws7, ws8, ws9, ws10, ws11, ws12, ws13, ws14⟩, hWn, hWc⟩ := hW0
  have h := prs_rng (M (b + 14)) (M (b + 11) 1) ((M (b + 11) 0).toNat - 1) 0
  unfold now
  refine ⟨by split <;> omega, fun q => ?_, fun q => if_pos q⟩
  rw [if_neg q]; omega
theorem sm_tk {T : Int} {M : MM} {b : Nat} (hW : WF T M b) : ∀ k : Nat, (k : Int) ≤ M (b + 11) 0 → 0 ≤ sm (M (b + 14)) k ∧ sm (M (b + 14)) k ≤ 400 := by
  intro k hk
  have hW0 := hW
  obtain ⟨hT0, ⟨ws1, ws2, ws3, ws4, ws5, ws6, ws7, ws8, ws9, ws10, ws11, ws12, ws13, ws14⟩, hWn, hWc⟩ := hW0
  have h := sm_rng (f := M (b + 14)) (A := 50) (k := k) (fun j hj => by have := hWc (j : Int) (by omega) (by omega); omega)
  omega
theorem WF_sch {T T2 : Int} {M M2 : MM} {b : Nat} (hW : WF T M b) (hT2 : T2 ≤ 1000000000) (h : ∀ k, k ≠ 11 → M2 (b + k) = M (b + k)) (h0 : M2 (b + 11) 0 = M (b + 11) 0) (h1 : 0 ≤ M2 (b + 11) 1 ∧ M2 (b + 11) 1 ≤ T2) (h2 : -20 ≤ M2 (b + 11) 2 ∧ M2 (b + 11) 2 ≤ 0) (h3 : 0 ≤ M2 (b + 11) 3 ∧ M2 (b + 11) 3 ≤ 20) : WF T2 M2 b := by
  obtain ⟨hT0, ⟨ws1, ws2, ws3, ws4, ws5, ws6, ws7, ws8, ws9, ws10, ws11, ws12, ws13, ws14⟩, hWn, hWc⟩ := hW
  have e0 : M2 b = M b := h 0 (by decide)
  unfold WF WFs WFn WFc
  simp only [e0, h0, h 1 (by decide), h 2 (by decide), h 3 (by decide), h 4 (by decide), h 5 (by decide), h 6 (by decide), h 7 (by decide), h 8 (by decide), h 9 (by decide), h 12 (by decide), h 13 (by decide), h 14 (by decide), h 15 (by decide)]
  exact ⟨hT2, ⟨ws1, ws2, ws3, ws4, h1, h2, h3, ws8, ws9, ws10, ws11, ws12, ws13, ws14⟩, hWn, hWc⟩
theorem WF_time {T : Int} {M : MM} {b : Nat} (hW : WF T M b) (hT : T < 1000000000) : WF (T + 1) (mset M (b + 11) 1 (M (b + 11) 1 + 1)) b := by
  have hW0 := hW
  obtain ⟨hT0, ⟨ws1, ws2, ws3, ws4, ws5, ws6, ws7, ws8, ws9, ws10, ws11, ws12, ws13, ws14⟩, hWn, hWc⟩ := hW0
  refine WF_sch hW (by omega) (fun k hk => mset_ne (by omega)) (mset_nj (by decide)) ?_ ?_ ?_
  · rw [mset_eq]; omega
  · rw [mset_nj (by decide)]; exact ws6
  · rw [mset_nj (by decide)]; exact ws7
theorem tow_rng {f t s A B : Int} (hf : A ≤ f ∧ f ≤ B) (ht : A ≤ t ∧ t ≤ B) (hs : 0 ≤ s) : A ≤ tow f t s ∧ tow f t s ≤ B := by
  unfold tow
  (repeat' split) <;> omega
theorem WF_tk {T r : Int} {M : MM} {b : Nat} (hW : WF T M b) (hT : T < 1000000000) (hr : 0 ≤ r) : WF (T + 1) (tkM M b r) b := by
  have h1 := WF_time hW hT
  unfold tkM
  dsimp only
  have hW0 := h1
  obtain ⟨hT0, ⟨ws1, ws2, ws3, ws4, ws5, ws6, ws7, ws8, ws9, ws10, ws11, ws12, ws13, ws14⟩, hWn, hWc⟩ := hW0
  generalize mset M (b + 11) 1 (M (b + 11) 1 + 1) = M1 at *
  by_cases hc : hsc M1 b (now M1 b)
  · rw [if_pos hc]
    have q := hWc (now M1 b) hc.1 hc.2.1
    refine WF_sch h1 hT0 (fun k hk => by rw [mset_ne (by omega), mset_ne (by omega)]) (by rw [mset_nj (by decide), mset_nj (by decide)]) ?_ ?_ ?_
    · rw [mset_nj (by decide), mset_nj (by decide)]; exact ws5
    · rw [mset_nj (by decide), mset_eq]; exact tow_rng ws6 q.1 hr
    · rw [mset_eq]
      refine tow_rng ?_ ?_ hr
      · rw [mset_nj (by decide)]; exact ws7
      · rw [mset_ne (by omega)]; exact q.2.1
  · rw [if_neg hc]; exact h1
theorem tk_rate {M : MM} {b : Nat} {r : Int} : ∀ k, k ≠ 11 → tkM M b r (b + k) = M (b + k) := by
  intro k hk
  unfold tkM
  dsimp only
  split
  · rw [mset_ne (by omega), mset_ne (by omega), mset_ne (by omega)]
  · rw [mset_ne (by omega)]
theorem WF_tkN {T r : Int} {M : MM} {b : Nat} (hW : WF T M b) (hr : 0 ≤ r) : ∀ k : Nat, T + k ≤ 1000000000 → WF (T + k) (tkN b r k M) b
  | 0, h => by
    rw [show T + ((0 : Nat) : Int) = T by omega]; exact hW
  | k + 1, h => by
    have h1 := WF_tk (WF_tkN hW hr k (by omega)) (by omega) hr
    rw [show T + ((k + 1 : Nat) : Int) = T + (k : Int) + 1 by omega]
    exact h1
theorem tkN_rate {M : MM} {b : Nat} {r : Int} : ∀ (j k : Nat), k ≠ 11 → tkN b r j M (b + k) = M (b + k)
  | 0, _, _ => rfl
  | j + 1, k, hk => by
    show tkM (tkN b r j M) b r (b + k) = _
    rw [tk_rate k hk, tkN_rate j k hk]
