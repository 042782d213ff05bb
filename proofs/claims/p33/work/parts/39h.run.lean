/-! a run of the text's commands -/
theorem WFS_mono {T T2 : Int} {S : MM} (h : WFS T S) (h1 : T ≤ T2) (h2 : T2 ≤ 1000000000) : WFS T2 S := by
  obtain ⟨a, b, c⟩ := h
  refine ⟨h2, ?_, c⟩
  unfold WFSs at b ⊢
  omega
theorem gA_ar {T : Int} {S : MM} {p : Int} (hW : WFS T S) (h1 : p = -1000 ∨ hs S p) (h2 : ¬ bx S p) : p = -1000 ∧ arS S p = 0 ∨ hs S p ∧ S 7 p = 0 ∧ arS S p = S 3 p + 1 := by
  by_cases q : hs S p
  · exact Or.inr ⟨q, by have := hW.2.2.1 p q.1 q.2.1; have h3 : ¬ (hs S p ∧ 0 < S 7 p) := h2; omega, if_pos q⟩
  · exact Or.inl ⟨by omega, if_neg q⟩
theorem cmA_wf {T : Int} {i : Nat} {v : Nat → Int} {S S1 : MM} (hi : i < 9) (hW : WFS T S) (hf : cmF i v S) (hA : cmA i v S S1) (hz : ∀ k, 16 ≤ k → S k = fun _ => 0) (hT : T + 200 ≤ 1000000000) : WFS (T + 200) S1 := by
  refine (fun h : WFS T S1 ∨ WFS (T + 200) S1 => h.elim (fun q => WFS_mono q (by omega) hT) id) ?_
  rcases (show i = 0 ∨ i = 1 ∨ i = 2 ∨ i = 3 ∨ i = 4 ∨ i = 5 ∨ i = 6 ∨ i = 7 ∨ i = 8 by omega) with rfl | rfl | rfl | rfl | rfl | rfl | rfl | rfl | rfl
  · left; rw [show S1 = _ from hA]; exact WFS_beg hW hf.1 hf.2
  · left; rw [show S1 = _ from hA]
    obtain ⟨g1, g2, g3, g4, g5⟩ := gA_0 hf
    exact WFS_add hW g4 (gA_ar hW g1 g2) g5 g3 (by decide) (by decide) (Or.inl rfl)
  · left; rw [show S1 = _ from hA]
    obtain ⟨h0, h1, h2⟩ := gB_0 hf
    obtain ⟨g1, g2, g3, g4, g5⟩ := gA_0 h0
    exact WFS_add hW g4 (gA_ar hW g1 g2) g5 g3 (by omega) (by omega) (Or.inr h2.1)
  · left; rw [show S1 = _ from hA]; exact WFS_mov hW hf.2
  · left; rw [show S1 = _ from hA]; exact WFS_sc hW hf.2.2 hf.1 hf.2.1
  · left; rw [show S1 = _ from hA]; exact WFS_set hW hf
  · left; rw [show S1 = _ from hA]
    obtain ⟨⟨h1, h2⟩, h3⟩ := hf
    exact WFS_tit hW (by omega) (by omega) (by omega)
  · left; exact WFS_drop hW hA
  · right; rw [show S1 = _ from hA]
    have h8 : 1 ≤ v 0 ∧ v 0 ≤ 200 := hf
    exact WFS_mono (WFS_tkSn hW hz (v 0).toNat (by omega)) (by omega) hT
/-- the commands that a text runs from p on, d of them done: page and number behind them -/
def wiA (t : Int → Int) (n p : Int) : Nat := (wix t p (we t n p)).toNat
def vlA (t : Int → Int) (n p : Int) : Nat → Int := fun j => rnV t n (plj t n (we t n p) j)
def cmOK (t : Int → Int) (n p : Int) (S : MM) : Prop := p < n ∧ (RC t n p).1 = true ∧ cmF (wiA t n p) (vlA t n p) S
def rnR (t : Int → Int) (n : Int) : Nat → Int → MM → Int → MM → Int → Prop
  | 0, _, S, d, S2, d2 => S2 = S ∧ d2 = d
  | k + 1, p, S, d, S2, d2 => (cmOK t n p S → ∃ S1, cmA (wiA t n p) (vlA t n p) S S1 ∧ (∀ j, 16 ≤ j → S1 j = fun _ => 0) ∧ rnR t n k (sk t n (RC t n p).2) S1 (d + 1) S2 d2) ∧ (¬ cmOK t n p S → S2 = S ∧ d2 = d)
theorem rnR_stop {t : Int → Int} {n p d : Int} {k : Nat} {S : MM} (h : k = 0 ∨ ¬ cmOK t n p S) : rnR t n k p S d S d := by
  cases k with
  | zero => exact ⟨rfl, rfl⟩
  | succ k => exact ⟨fun q => absurd q (h.elim (fun z => by omega) id), fun _ => ⟨rfl, rfl⟩⟩
theorem rnR_go {t : Int → Int} {n p d d2 : Int} {k : Nat} {S S1 S2 : MM} (h : cmOK t n p S) (hA : cmA (wiA t n p) (vlA t n p) S S1) (hz : ∀ j, 16 ≤ j → S1 j = fun _ => 0) (hR : rnR t n k (sk t n (RC t n p).2) S1 (d + 1) S2 d2) : rnR t n (k + 1) p S d S2 d2 :=
  ⟨fun _ => ⟨S1, hA, hz, hR⟩, fun q => absurd h q⟩
theorem rnR_end {t : Int → Int} {n p d d2 : Int} {k : Nat} {S S2 : MM} (hR : rnR t n k p S d S2 d2) (h : k = 0 ∨ ¬ cmOK t n p S) : S2 = S ∧ d2 = d := by
  cases k with
  | zero => exact hR
  | succ k => exact hR.2 (h.elim (fun z => by omega) id)
theorem cm_congr {i : Nat} {v v2 : Nat → Int} (hi : i < 9) (h : ∀ j : Nat, (j : Int) < wnm i → v j = v2 j) (S S1 : MM) : (cmF i v S ↔ cmF i v2 S) ∧ (cmA i v S S1 ↔ cmA i v2 S S1) := by
  rcases (show i = 0 ∨ i = 1 ∨ i = 2 ∨ i = 3 ∨ i = 4 ∨ i = 5 ∨ i = 6 ∨ i = 7 ∨ i = 8 by omega) with rfl | rfl | rfl | rfl | rfl | rfl | rfl | rfl | rfl
  · unfold cmF cmA; rw [h 0 (by decide), h 1 (by decide)]; exact ⟨Iff.rfl, Iff.rfl⟩
  · unfold cmF cmA; rw [h 0 (by decide), h 1 (by decide), h 2 (by decide)]; exact ⟨Iff.rfl, Iff.rfl⟩
  · unfold cmF cmA; rw [h 0 (by decide), h 1 (by decide), h 2 (by decide), h 3 (by decide), h 4 (by decide), h 5 (by decide)]; exact ⟨Iff.rfl, Iff.rfl⟩
  · unfold cmF cmA; rw [h 0 (by decide), h 1 (by decide), h 2 (by decide), h 3 (by decide)]; exact ⟨Iff.rfl, Iff.rfl⟩
  · unfold cmF cmA; rw [h 0 (by decide), h 1 (by decide), h 2 (by decide)]; exact ⟨Iff.rfl, Iff.rfl⟩
  · unfold cmF cmA; rw [h 0 (by decide), h 1 (by decide)]; exact ⟨Iff.rfl, Iff.rfl⟩
  · unfold cmF cmA; rw [h 0 (by decide), h 1 (by decide), h 2 (by decide)]; exact ⟨Iff.rfl, Iff.rfl⟩
  · unfold cmF cmA; rw [h 0 (by decide)]; exact ⟨Iff.rfl, Iff.rfl⟩
  · unfold cmF cmA; rw [h 0 (by decide)]; exact ⟨Iff.rfl, Iff.rfl⟩

