/-! bits (the first rows are the kit's own, pasted) -/
def bt (x : Int32) (i : Nat) : Bool := x.toBitVec.getLsbD i
theorem b_ext {x y : Int32} (h : ∀ i, i < 32 → bt x i = bt y i) : x = y := Int32.toBitVec_inj.mp (BitVec.eq_of_getLsbD_eq (fun i hi => h i hi))
theorem b_or (x y : Int32) (i : Nat) : bt (x ||| y) i = (bt x i || bt y i) := by unfold bt; rw [Int32.toBitVec_or, BitVec.getLsbD_or]
theorem b_and (x y : Int32) (i : Nat) : bt (x &&& y) i = (bt x i && bt y i) := by unfold bt; rw [Int32.toBitVec_and, BitVec.getLsbD_and]
theorem b_big {x : Int32} {i : Nat} (h : 32 ≤ i) : bt x i = false := BitVec.getLsbD_of_ge _ _ h
theorem b_0 (i : Nat) : bt 0 i = false := BitVec.getLsbD_zero
theorem s_l : ∀ n, n < 32 → ((nI n &&& 31).toBitVec.smod 32).toNat = n := by decide +kernel
theorem b_shl (n : Nat) (hn : n < 32) (x : Int32) {i : Nat} (hi : i < 32) : bt (x <<< (nI n &&& 31)) i = (decide (n ≤ i) && bt x (i - n)) := by
  unfold bt
  rw [Int32.toBitVec_shiftLeft]
  show (x.toBitVec <<< ((nI n &&& 31).toBitVec.smod 32).toNat).getLsbD i = _
  rw [s_l n hn, BitVec.getLsbD_shiftLeft]
  rcases Nat.lt_or_ge i n with h | h
  · simp [h, Nat.not_le.mpr h]
  · simp [hi, h, Nat.not_lt.mpr h]
theorem b_sshr (n : Nat) (hn : n < 32) (x : Int32) {i : Nat} (hi : i < 32) : bt (x >>> (nI n &&& 31)) i = if n + i < 32 then bt x (n + i) else bt x 31 := by
  unfold bt
  rw [Int32.toBitVec_shiftRight]
  show (x.toBitVec.sshiftRight ((nI n &&& 31).toBitVec.smod 32).toNat).getLsbD i = _
  rw [s_l n hn, BitVec.getLsbD_sshiftRight, BitVec.msb_eq_getLsbD_last]
  simp [hi]
/-- a fact that is to be looked at where it is wanted alone -/
def Hid (p : Prop) : Prop := p
theorem Hid.out {p : Prop} (h : Hid p) : p := h
theorem Hid.mk {p : Prop} (h : p) : Hid p := h
theorem b_1 : ∀ i, i < 32 → bt 1 i = decide (i = 0) := by decide +kernel
theorem bt_0 (i : Nat) : bt (Int32.ofInt 0) i = false := b_0 i
theorem oi_nI {o : Int} (h : 0 ≤ o) : Int32.ofInt o = nI o.toNat := by
  have e : o = ((o.toNat : Nat) : Int) := by omega
  rw [e]
  exact Int32.ofInt_eq_ofNat
theorem and_1 (y : Int32) : (y &&& 1).toInt = 1 ↔ bt y 0 = true := by
  by_cases h : bt y 0 = true
  · have e : y &&& 1 = 1 := b_ext (fun i hi => by
      rw [b_and, b_1 i hi]
      by_cases q : i = 0
      · rw [q, h]; rfl
      · simp [q])
    rw [e]
    exact ⟨fun _ => h, fun _ => rfl⟩
  · have e : y &&& 1 = 0 := b_ext (fun i hi => by
      rw [b_and, b_1 i hi, b_0]
      by_cases q : i = 0
      · rw [q]; simp [h]
      · simp [q])
    rw [e]
    exact ⟨fun z => absurd z (by decide), fun z => absurd z h⟩
theorem bit_at {s o : Int} (h : 0 ≤ o ∧ o < 20) : andI (shrI s o) 1 = 1 ↔ bt (Int32.ofInt s) o.toNat = true := by
  unfold andI shrI
  rw [Int32.ofInt_toInt, oi_nI h.1]
  show (_ &&& (1 : Int32)).toInt = 1 ↔ _
  rw [and_1, b_sshr o.toNat (by omega) _ (by decide), if_pos (by omega)]
  rfl
theorem bit_set {s o : Int} (h : 0 ≤ o ∧ o < 20) {i : Nat} (hi : i < 20) : bt (Int32.ofInt (orI s (shlI 1 o))) i = true ↔ bt (Int32.ofInt s) i = true ∨ o = i := by
  unfold orI shlI
  rw [Int32.ofInt_toInt, Int32.ofInt_toInt, oi_nI h.1, b_or, Bool.or_eq_true]
  have e : bt (Int32.ofInt 1 <<< (nI o.toNat &&& 31)) i = true ↔ o = i := by
    rw [b_shl o.toNat (by omega) _ (by omega)]
    show (decide (o.toNat ≤ i) && bt 1 (i - o.toNat)) = true ↔ _
    rw [b_1 _ (by omega), Bool.and_eq_true, decide_eq_true_eq, decide_eq_true_eq]
    omega
  rw [e]
theorem ct_no {p : Int → Prop} [DecidablePred p] : ∀ {k : Nat}, (∀ j : Nat, j < k → ¬ p j) → ct p k = 0
  | 0, _ => rfl
  | k + 1, h => by rw [ct_f (h k (by omega)), ct_no (fun j hj => h j (by omega))]
theorem no_child {T : Int} {S : MM} (hW : WFS T S) {n : Int} (hb : bx S n) : ct (fun k => S 2 k = n) (cnt S) = 0 := ct_no (fun j hj hp => by
  have hj2 : (j : Int) < S 1 0 := by unfold cnt at hj; omega
  have h := (hW.2.2.1 j (by omega) hj2).1
  have h1 := hb.1.1
  have h2 := hb.2
  have hp : S 2 j = n := hp
  rw [hp] at h
  omega)
theorem fa_0 (S : MM) : ∃ z0 : Int, faF S (0 + 1 : Int).toNat 0 = z0 ∧ (z0 = 0 ∧ pct S = 100 ∨ z0 = -1000 ∧ pct S ≠ 100) := by
  by_cases h : fits1 S (S 15 0) 100 (S 11 2) (S 11 3) = true
  · exact ⟨0, faF_t (f1 := 0) rfl h, Or.inl ⟨rfl, pctW_100.mp h⟩⟩
  · exact ⟨-1000, (faF_f (f1 := 0) rfl h).trans (faF_0 rfl), Or.inr ⟨rfl, fun z => h (pctW_100.mpr z)⟩⟩
