/-! WHAT A STAGE IS: the words for it. b: the id of a Stage; its tree b + 1 (count 0), rows: parent b + 2, around b + 3, dx b + 4, dy b + 5, dz b + 6, width b + 7, height b + 8, shades b + 9; its schedule b + 11 (count 0, time 1, low 2, high 3), rows least b + 12, greatest b + 13, ticks b + 14; settings b + 15; width 3, height 4, titleX 5, titleY 6, titleLength 7 -/
def pg (M : MM) (b : Nat) : MM := fun k => M (b + k)
theorem pg_at (M : MM) (b k : Nat) : pg M b k = M (b + k) := rfl
abbrev has (M : MM) (b : Nat) (n : Int) : Prop := 0 ≤ n ∧ n < M (b + 1) 0 ∧ n < 20
abbrev box (M : MM) (b : Nat) (n : Int) : Prop := has M b n ∧ 0 < M (b + 7) n
abbrev plc (u v w : Int) : Prop := (-200 ≤ u ∧ u ≤ 200) ∧ (-200 ≤ v ∧ v ≤ 200) ∧ (-200 ≤ w ∧ w ≤ 200)
/-- the numbers of a stage stand in their ranges -/
def WFs (T : Int) (M : MM) (b : Nat) : Prop :=
  (20 ≤ M b 3 ∧ M b 3 ≤ 200) ∧ (10 ≤ M b 4 ∧ M b 4 ≤ 120) ∧ (0 ≤ M (b + 1) 0 ∧ M (b + 1) 0 ≤ 20) ∧ (0 ≤ M (b + 11) 0 ∧ M (b + 11) 0 ≤ 8) ∧ (0 ≤ M (b + 11) 1 ∧ M (b + 11) 1 ≤ T) ∧
  (-20 ≤ M (b + 11) 2 ∧ M (b + 11) 2 ≤ 0) ∧ (0 ≤ M (b + 11) 3 ∧ M (b + 11) 3 ≤ 20) ∧ (0 ≤ M (b + 15) 0 ∧ M (b + 15) 0 ≤ 100) ∧ (1 ≤ M (b + 15) 1 ∧ M (b + 15) 1 ≤ 5) ∧ (0 ≤ M (b + 15) 2 ∧ M (b + 15) 2 ≤ 15) ∧ (0 ≤ M (b + 15) 3 ∧ M (b + 15) 3 ≤ 100) ∧
  (0 ≤ M b 7 ∧ M b 7 ≤ 40) ∧ (0 ≤ M b 5 ∧ M b 5 < M b 3) ∧ (0 ≤ M b 6 ∧ M b 6 < M b 4)
/-- a node's -/
def WFn (M : MM) (b : Nat) : Prop := ∀ n : Int, 0 ≤ n → n < M (b + 1) 0 →
  ((M (b + 2) n = -1000 ∧ M (b + 3) n = 0) ∨ (0 ≤ M (b + 2) n ∧ M (b + 2) n < n ∧ M (b + 7) (M (b + 2) n) = 0 ∧ M (b + 3) n = M (b + 3) (M (b + 2) n) + 1)) ∧ (0 ≤ M (b + 3) n ∧ M (b + 3) n ≤ 5) ∧
  (-200 ≤ M (b + 4) n ∧ M (b + 4) n ≤ 200) ∧ (-200 ≤ M (b + 5) n ∧ M (b + 5) n ≤ 200) ∧ (-200 ≤ M (b + 6) n ∧ M (b + 6) n ≤ 200) ∧ (0 ≤ M (b + 7) n ∧ M (b + 7) n ≤ 100) ∧ (0 ≤ M (b + 8) n ∧ M (b + 8) n ≤ 100) ∧ (M (b + 7) n = 0 ∨ 1 ≤ M (b + 8) n) ∧ (0 ≤ M (b + 9) n ∧ M (b + 9) n ≤ 15)
/-- a scene's -/
def WFc (M : MM) (b : Nat) : Prop := ∀ n : Int, 0 ≤ n → n < M (b + 11) 0 → (-20 ≤ M (b + 12) n ∧ M (b + 12) n ≤ 0) ∧ (0 ≤ M (b + 13) n ∧ M (b + 13) n ≤ 20) ∧ (1 ≤ M (b + 14) n ∧ M (b + 14) n ≤ 50)
def WF (T : Int) (M : MM) (b : Nat) : Prop := T ≤ 1000000000 ∧ WFs T M b ∧ WFn M b ∧ WFc M b
theorem mul_bd {x y A B : Int} (h0 : 0 ≤ x) (h1 : x ≤ A) (h2 : -B ≤ y) (h3 : y ≤ B) : -(A * B) ≤ x * y ∧ x * y ≤ A * B := by
  have hB : 0 ≤ B := by omega
  have hA : 0 ≤ A := by omega
  have e1 : x * y ≤ x * B := Int.mul_le_mul_of_nonneg_left h3 h0
  have e2 : x * B ≤ A * B := Int.mul_le_mul_of_nonneg_right h1 hB
  have e3 : x * -B ≤ x * y := Int.mul_le_mul_of_nonneg_left h2 h0
  rw [Int.mul_neg] at e3
  omega
/- the tree -/
def arC (M : MM) (b : Nat) (p : Int) : Int := if has M b p then M (b + 3) p + 1 else 0
def fG (M : MM) (b : Nat) (p u v w : Int) : Int := if p ≠ -1000 ∧ ¬ has M b p then 1 else if box M b p ∨ ¬ plc u v w then 2 else if 20 ≤ M (b + 1) 0 ∨ 5 < arC M b p then 3 else 0
def fB (M : MM) (b : Nat) (p u v w wd hg : Int) : Int := if fG M b p u v w ≠ 1 ∧ ¬ ((1 ≤ wd ∧ wd ≤ 100) ∧ (1 ≤ hg ∧ hg ≤ 100)) then 2 else fG M b p u v w
def fP (M : MM) (b : Nat) (n u v w : Int) : Int := if ¬ has M b n then 1 else if plc u v w then 0 else 2
def fCo (M : MM) (b : Nat) (n s : Int) : Int := if ¬ has M b n then 1 else if box M b n ∧ (0 ≤ s ∧ s ≤ 15) then 0 else 2
def addM (M : MM) (b : Nat) (p u v w wd hg : Int) : MM :=
  mset (mset (mset (mset (mset (mset (mset (mset (mset M (b + 3) (M (b + 1) 0) (arC M b p)) (b + 2) (M (b + 1) 0) p) (b + 4) (M (b + 1) 0) u) (b + 5) (M (b + 1) 0) v) (b + 6) (M (b + 1) 0) w) (b + 7) (M (b + 1) 0) wd) (b + 8) (M (b + 1) 0) hg) (b + 9) (M (b + 1) 0) 8) (b + 1) 0 (M (b + 1) 0 + 1)
def movM (M : MM) (b : Nat) (n u v w : Int) : MM := mset (mset (mset M (b + 4) n u) (b + 5) n v) (b + 6) n w
/- scenes -/
abbrev hsc (M : MM) (b : Nat) (n : Int) : Prop := 0 ≤ n ∧ n < M (b + 11) 0 ∧ n < 8
def fS (M : MM) (b : Nat) (l g t : Int) : Int := if ((-20 ≤ l ∧ l ≤ 0) ∧ (0 ≤ g ∧ g ≤ 20)) ∧ (1 ≤ t ∧ t ≤ 50) then (if 8 ≤ M (b + 11) 0 then 3 else 0) else 2
def scM (M : MM) (b : Nat) (l g t : Int) : MM := mset (mset (mset (mset M (b + 12) (M (b + 11) 0) l) (b + 13) (M (b + 11) 0) g) (b + 14) (M (b + 11) 0) t) (b + 11) 0 (M (b + 11) 0 + 1)
def tow (f t s : Int) : Int := if f < t then (if f + s < t then f + s else t) else (if t < f - s then f - s else t)
def clM (M : MM) (b : Nat) : MM := mset (mset (mset (mset M (b + 11) 0 0) (b + 11) 1 0) (b + 11) 2 (-5)) (b + 11) 3 5
def begM (M : MM) (b : Nat) (w h : Int) : MM := mset (mset (mset (clM (mset (mset (mset M b 3 w) b 4 h) (b + 1) 0 0) b) b 5 0) b 6 0) b 7 0
def entM (M : MM) (b : Nat) (x y l : Int) : MM := mset (mset (mset M b 5 x) b 6 y) b 7 l
def fT (M : MM) (b : Nat) (x y l : Int) : Int := if ((0 ≤ x ∧ x ≤ M b 3 - 1) ∧ (0 ≤ y ∧ y ≤ M b 4 - 1)) ∧ (1 ≤ l ∧ l ≤ 40) then 0 else 2
def fCe (M : MM) (b : Nat) (c r : Int) : Int := if (0 ≤ c ∧ c ≤ M b 3 - 1) ∧ (0 ≤ r ∧ r ≤ M b 4 - 1) then 0 else 1
/-- a column: left (l not 0) or right -/
def co (l p s : Int) : Int := if l = 0 then p - s / 2 else p + (s + 1) / 2

theorem fd_rng {x y : Int} (hx : i32 x) (hy : 0 < y) : i32 (x / y) := by
  have h1 : -2147483648 ≤ x / y := (Int.le_ediv_iff_mul_le hy).mpr (by have : -2147483648 * y ≤ -2147483648 * 1 := Int.mul_le_mul_of_nonpos_left (by omega) (by omega); omega)
  have h2 : x / y ≤ 2147483647 := by
    have := Int.ediv_le_ediv hy hx.2
    have h3 := Int.ediv_le_self (a := 2147483647) y (by omega)
    omega
  omega
theorem td_rng {x y : Int} (hx : i32 x) (hy : y = 2 ∨ y = 100) : i32 (x.tdiv y - 1) ∧ i32 (x.tdiv y) ∧ i32 (x.tdiv y * y) := by
  have e := fd_pos (x := x) (y := y) (by omega)
  have e4 := Int.tmod_def x y
  have e2 : (x.tmod y).natAbs ≤ x.natAbs := by
    rw [Int.natAbs_tmod]; exact Nat.mod_le _ _
  have e5 : 0 ≤ x → 0 ≤ x.tmod y := fun h => Int.tmod_nonneg y h
  have e7 : x ≤ 0 → x.tmod y ≤ 0 := fun h => by
    have := Int.tmod_nonneg y (a := -x) (by omega)
    rw [Int.neg_tmod] at this; omega
  rcases hy with rfl | rfl
  · refine ⟨?_, ?_, by omega⟩ <;> split at e <;> omega
  · refine ⟨?_, ?_, by omega⟩ <;> split at e <;> omega
section ABS
variable {E : EE} {X : JX} {cc : ByteArray} {own : String} {nl d c0 s0 : Nat} {pc : Nat} {L : List (Nat × Value)} {st : List Value} {K : Nat → Nat} {M : MM} {a b : Nat}
theorem J_putA (hX : XO E X cc own nl d c0 s0) {idx k f i : Nat} {j x : Int} {ty : FieldType} (hF : FW own idx k f j ty) (hd : decode cc pc = .ok (.putfield idx, 3)) (hK : K i = k) (hx : i32 x) (hty : ty = .int ∨ ty = .boolean ∧ (x = 0 ∨ x = 1)) (k1 : ∀ M2, M2 = mset M i j x → J E X (pc + 3) L st K M2 a b) : J E X pc L (vI x :: .ref i :: st) K M a b := J_puti hX hF hd hK hx hty (k1 _ rfl)
theorem J_istA (hX : XO E X cc own nl d c0 s0) {n i : Nat} {j x : Int} (hd : decode cc pc = .ok (.iastore, 1)) (hK : K i = 1000 + n) (hj : 0 ≤ j ∧ j < n) (hn : n < 1000000) (hx : i32 x) (k1 : ∀ M2, M2 = mset M i j x → J E X (pc + 1) L st K M2 a b) : J E X pc L (vI x :: vI j :: .ref i :: st) K M a b := J_iast hX hd hK hj hn hx (k1 _ rfl)
end ABS
