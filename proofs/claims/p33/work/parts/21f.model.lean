/-- ticks on a page -/
def tkSn : Nat → MM → MM
  | 0, S => S
  | k + 1, S => tkS (tkSn k S)
theorem tkS_row {S : MM} {k : Nat} (h : k ≠ 11) : tkS S k = S k := by
  unfold tkS
  split
  · exact mset_ne h
  · rw [mset_ne h, mset_ne h, mset_ne h]
theorem tkSn_row {S : MM} {k : Nat} (h : k ≠ 11) : ∀ j : Nat, tkSn j S k = S k
  | 0 => rfl
  | j + 1 => (tkS_row h).trans (tkSn_row h j)
/-- .. of the class are those of the page -/
theorem tkN_S {T : Int} {M : MM} {b : Nat} (hW : WF T M b) : ∀ k : Nat, T + k ≤ 1000000000 → stg (tkN b (M (b + 15) 1) k M) b = tkSn k (stg M b)
  | 0, _ => rfl
  | k + 1, h => by
    have hs := hW.2.1
    unfold WFs at hs
    have h1 := WF_tkN hW (r := M (b + 15) 1) (by omega) k (by omega)
    have e : tkN b (M (b + 15) 1) k M (b + 15) 1 = M (b + 15) 1 := by rw [tkN_rate k 15 (by decide)]
    have h2 := tkM_S h1 (by omega)
    rw [e, tkN_S hW k (by omega)] at h2
    exact h2
theorem WF_S {T : Int} {M : MM} {b : Nat} (h : WFS T (stg M b)) : WF T M b := h
theorem WFS_tkSn {T : Int} {S : MM} (hW : WFS T S) (hz : ∀ k, 16 ≤ k → S k = fun _ => 0) (k : Nat) (h : T + k ≤ 1000000000) : WFS (T + k) (tkSn k S) := by
  have e0 : stg S 0 = S := by
    funext i
    unfold stg
    by_cases q : i < 16
    · rw [if_pos q, Nat.zero_add]
    · rw [if_neg q, hz i (by omega)]
  have hW0 : WF T S 0 := WF_S (by rw [e0]; exact hW)
  have hs := hW.2.1
  unfold WFSs at hs
  have h1 := (WF_tkN hW0 (r := S 15 1) (by omega) k h).S
  rw [show S 15 1 = S (0 + 15) 1 from rfl, tkN_S hW0 k h, e0] at h1
  exact h1
/-- what keep does -/
def KpM (M : MM) (r : Nat) (M2 : MM) : Prop := ∃ z c : Int, (z = 0 ∧ c = M r 3 ∧ c < 4 ∨ z = 1 ∧ M r 3 = 4 ∧ c = 3) ∧ M2 r 3 = c + 1 ∧ (∀ j i : Int, 0 ≤ j → j < c → 0 ≤ i → i < 198 → M2 (r + 3) (198 * j + i) = M (r + 3) (198 * (j + z) + i)) ∧ (∀ i : Int, 0 ≤ i → i < 198 → M2 (r + 3) (198 * c + i) = M (r + 1) i) ∧ (∀ i, i ≠ r → i ≠ r + 3 → M2 i = M i) ∧ (∀ j, j ≠ 3 → M2 r j = M r j)