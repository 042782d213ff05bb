/-! the law's other cases -/
/-- the texts changed, nothing else but what is not looked at -/
theorem inv_text {n : Nat} {T : Int} {K : Nat → Nat} {M M2 : MM} {x r o : Nat} (hI : Inv n T K M x r o) (hS : Sep x r o) (h : ∀ i, i < o → i ≠ x + 57 → i ≠ x + 58 → i ≠ x + 59 → i ≠ r → i ≠ r + 4 → i ≠ r + 11 → M2 i = M i) (h3 : M2 r 3 = M r 3) (ht : TxE M2 x r) (h6 : i32 (M2 r 6)) : Inv n T K M2 x r o := by
  obtain ⟨i1, i2, i3, w1, ⟨To, w2⟩, w3, w4, w5, w6, w7, w8⟩ := hI
  obtain ⟨e1, e2, e3⟩ := id hS
  have f : ∀ i, i < x + 57 ∨ (x + 60 ≤ i ∧ i < r) ∨ i = r + 1 ∨ i = r + 3 → M2 i = M i := fun i hi => h i (by omega) (by omega) (by omega) (by omega) (by omega) (by omega) (by omega)
  have hp : stg M2 (x + 3) = stg M (x + 3) := stg_of (fun i a1 a2 => f i (by omega))
  have hst : ∀ c : Int, 0 ≤ c → c < M (x + 55) 0 → stg M2 (M (x + 56) c).toNat = stg M (M (x + 56) c).toNat := fun c c0 c1 => by
    obtain ⟨q, q1, q2⟩ := i2.at c0 c1
    rw [q2]
    exact stg_of (fun i a1 a2 => f i (by omega))
  have h55 := f (x + 55) (by omega)
  have h56 := f (x + 56) (by omega)
  have hr3 := f (r + 3) (by omega)
  refine ⟨i1, i2.fr h55 h56, Cl_inv hS i1 i3 (fun i hi => f i (by omega)), WF_fr hp w1, ⟨To, WF_fr (stg_of (fun i a1 a2 => f i (by omega))) w2⟩, Frs_fr (fun i a1 a2 => f i (by omega)) w3, by rw [hp, f (r + 1) (by omega)]; exact w4, ⟨by rw [h55, h3]; exact w5.1, fun c c0 c1 => ?_⟩, fun c c0 c1 => ?_, ht, h6⟩
  · rw [h3] at c1
    rw [h56, hst c c0 (by rw [w5.1]; exact c1), hr3]
    exact w5.2 c c0 c1
  · rw [h55] at c1
    rw [h56]
    exact WF_fr (hst c c0 c1) (w6 c c0 c1)
/-- a state is taken back -/
theorem inv_undo {n : Nat} {T : Int} {K : Nat → Nat} {M Mc M2 : MM} {x r o : Nat} (hI : Inv n T K M x r o) (hS : Sep x r o) (hu : UndX M x Mc) (hpos : M (x + 55) 0 ≠ 0) (hf : ∀ i, i < o → i ≠ r → i ≠ r + 1 → M2 i = Mc i) (hj : ∀ j, j ≠ 3 → j ≠ 6 → M2 r j = Mc r j)
    (hrow : ∀ j : Int, 0 ≤ j → j < 198 → M2 (r + 1) j = Mc (r + 3) (198 * (Mc r 3 - 1) + j)) (h3 : M2 r 3 = Mc r 3 - 1) (h6 : i32 (M2 r 6)) : Inv n T K M2 x r o := by
  obtain ⟨i1, i2, i3, w1, ⟨To, w2⟩, w3, w4, w5, w6, w7, w8⟩ := hI
  obtain ⟨e1, e2, e3⟩ := id hS
  obtain ⟨u1, u2, u3, u4, u5, u6⟩ := hu
  have g : ∀ i, i ≠ x → i ≠ x + 55 → (i < x + 3 ∨ x + 19 ≤ i) → i < r + 12 → i ≠ r → i ≠ r + 1 → M2 i = M i := fun i a1 a2 a3 a4 a5 a6 => by rw [hf i (by omega) a5 a6, u2 i a1 a2 a3]
  have hcr : Mc r = M r := u2 r (by omega) (by omega) (by omega)
  have hc3 : Mc (r + 3) = M (r + 3) := u2 (r + 3) (by omega) (by omega) (by omega)
  have hn := i2.2.1
  have hcnt := w5.1
  have hx55 : M2 (x + 55) 0 = M (x + 55) 0 - 1 := by rw [hf _ (by omega) (by omega) (by omega)]; exact u1
  have h56 := g (x + 56) (by omega) (by omega) (by omega) (by omega) (by omega) (by omega)
  have hr3 := g (r + 3) (by omega) (by omega) (by omega) (by omega) (by omega) (by omega)
  have h3' : M2 r 3 = M r 3 - 1 := by rw [h3, hcr]
  have hal : ∀ k, k ≠ 10 → stg M2 (x + 3) k = stg M (M (x + 56) (M (x + 55) 0 - 1)).toNat k := fun k hk => by
    rw [stg_of (M := Mc) (M2 := M2) (b := x + 3) (fun i a1 a2 => hf i (by omega) (by omega) (by omega))]
    exact Alk.stg u6 k hk
  have hst : ∀ c : Int, 0 ≤ c → c < M (x + 55) 0 → stg M2 (M (x + 56) c).toNat = stg M (M (x + 56) c).toNat := fun c c0 c1 => by
    obtain ⟨q, q1, q2⟩ := i2.at c0 c1
    rw [q2]
    exact stg_of (fun i a1 a2 => g i (by omega) (by omega) (by omega) (by omega) (by omega) (by omega))
  have hw9 := w6 (M (x + 55) 0 - 1) (by omega) (by omega)
  refine ⟨i1, ?_, Cl_inv hS i1 i3 (fun i hi => g i (by omega) (by omega) (by omega) (by omega) (by omega) (by omega)), WF_iS.mpr (WFS_alk hal (WF_iS.mp hw9)), ⟨To, WF_fr (stg_of (fun i a1 a2 => g i (by omega) (by omega) (by omega) (by omega) (by omega) (by omega))) w2⟩, Or.inl (by rw [hf x (by omega) (by omega) (by omega)]; exact u4), RS_alk hal (RS_fr (w5.2 (M (x + 55) 0 - 1) (by omega) (by omega)) (WF_iS.mp hw9) (fun j j0 j1 => ?_)), ⟨by omega, fun c c0 c1 => ?_⟩, fun c c0 c1 => ?_, ?_, h6⟩
  · obtain ⟨a1, a2, a3, a4⟩ := i2
    refine ⟨a1, by omega, ?_, a4⟩
    have e : M2 (x + 55 + 1) = M (x + 55 + 1) := h56
    unfold SL at a3 ⊢
    rw [e]
    exact a3
  · rw [hrow j j0 j1, hcr, hc3, hcnt]
  · rw [h56, hst c c0 (by omega), hr3]
    exact w5.2 c c0 (by omega)
  · rw [hx55] at c1
    rw [h56]
    exact WF_fr (hst c c0 (by omega)) (w6 c c0 (by omega))
  · unfold TxE
    rw [g (x + 57) (by omega) (by omega) (by omega) (by omega) (by omega) (by omega), g (x + 58) (by omega) (by omega) (by omega) (by omega) (by omega) (by omega), hj 5 (by decide) (by decide), hcr, g (r + 4) (by omega) (by omega) (by omega) (by omega) (by omega) (by omega)]
    exact w7
/-- a run of commands -/
theorem inv_run {n : Nat} {T : Int} {K K1 : Nat → Nat} {M M0 M1 Mc M2 : MM} {x r o : Nat} {r9 : Option Value} (hI : Inv n T K M x r o) (hS : Sep x r o) (hT : T + 30200 ≤ 1000000000) (hsc : ScF M M0 (x + 57)) (hk : KeptX n K M0 x K1 M1) (hrn : RnP M1 Mc (x + 57) (x + 1 + 2) T r9)
    (hm : RS (stg Mc (x + 3)) (M2 (r + 1)) ∧ ∃ M0m Mk, (∀ i, i ≠ r → i ≠ r + 11 → M0m i = Mc i) ∧ (∀ j, j ≠ 6 → j ≠ 20 → j ≠ 21 → M0m r j = Mc r j) ∧ M0m r 6 = 0 ∧ KpM M0m r Mk ∧ (∀ i, i ≠ r → i ≠ r + 1 → i ≠ r + 5 → i ≠ r + 11 → M2 i = Mk i) ∧ ∀ j, j ≠ 20 → j ≠ 21 → M2 r j = Mk r j) : ∃ n2, Inv n2 (T + 30200) K1 M2 x r o := by
  obtain ⟨e1, e2, e3⟩ := id hS
  obtain ⟨hR, M0m, Mk, m1, m2, m3, ⟨z, cc, kz, k3, kj, kk, kf, kg⟩, m5, m6⟩ := hm
  obtain ⟨d, -, -, -, hWc, rf, rj⟩ := hrn
  have hKK := kept_K hI.1 hS hk
  obtain ⟨j1, j2, j3, ⟨n2, j4, j5⟩, j6, j7, j8, j9, j10⟩ := hk
  have f1 : ∀ i, i < r → M2 i = Mc i := fun i hi => by rw [m5 i (by omega) (by omega) (by omega) (by omega), kf i (by omega) (by omega), m1 i (by omega) (by omega)]
  have f2 : ∀ i, i < x + 3 ∨ (x + 19 ≤ i ∧ i < r) → i ≠ x + 57 → i ≠ x + 59 → M2 i = M1 i := fun i hi h7 h9 => by rw [f1 i (by omega), rf i (by omega) (by omega) (by omega)]
  have g0 : ∀ i, i ≠ x → i ≠ x + 55 → i ≠ x + 56 → i ≠ x + 57 → i ≠ x + 59 → (i < x + 60 ∨ r ≤ i) → M1 i = M i := fun i a1 a2 a3 a4 a5 a6 => by rw [j6 i a1 a2 a3 (by omega), hsc.1 i (by omega) (by omega)]
  have g1 : ∀ i, r ≤ i → i < r + 12 → Mc i = M i := fun i a1 a2 => by rw [rf i (by omega) (by omega) (by omega), g0 i (by omega) (by omega) (by omega) (by omega) (by omega) (by omega)]
  have g2 : ∀ i, r < i → i < r + 11 → M0m i = M i := fun i a1 a2 => by rw [m1 i (by omega) (by omega), g1 i (by omega) (by omega)]
  have g3 : ∀ j, j ≠ 6 → j ≠ 20 → j ≠ 21 → M0m r j = M r j := fun j a1 a2 a3 => by rw [m2 j a1 a2 a3, g1 r (by omega) (by omega)]
  have h57 : M1 (x + 57) 0 = M (x + 57) 0 := by rw [j6 _ (by omega) (by omega) (by omega) (by omega), hsc.2 0 (by decide) (by decide)]
  have hst : stg M2 (x + 3) = stg Mc (x + 3) := stg_of (fun i a1 a2 => f1 i (by omega))
  refine ⟨n2, inv_save hI hS (by omega) hT j2 (j5.fr (f2 _ (by omega) (by omega) (by omega)) (f2 _ (by omega) (by omega) (by omega))) (Cl_inv hS hKK j3 (fun i hi => f2 i (by omega) (by omega) (by omega))) (Svd_fr hI.2.1.2.1.1 j5 j10 (fun i hi => hsc.1 i (by omega) (by omega)) (fun i hi => f2 i (by omega) (by omega) (by omega))) (WF_mo (WF_fr hst hWc) (by omega) hT) ?_ ?_ ⟨z, cc, ?_, ?_, ?_, ?_⟩ (by rw [hst]; exact hR) ?_ ?_ ?_ ?_ (by rw [m6 6 (by decide) (by decide), kg 6 (by decide), m3]; decide)⟩
  · obtain ⟨To, hTo⟩ := hI.2.2.2.2.1
    exact ⟨To, WF_fr (stg_of (fun i a1 a2 => by rw [f2 i (by omega) (by omega) (by omega), g0 i (by omega) (by omega) (by omega) (by omega) (by omega) (by omega)])) hTo⟩
  · rw [f2 x (by omega) (by omega) (by omega)]; exact j8
  · rw [g3 3 (by decide) (by decide) (by decide)] at kz; exact kz
  · rw [m6 3 (by decide) (by decide)]; exact k3
  · intro j i j0 j1 i0 i1
    rw [m5 (r + 3) (by omega) (by omega) (by omega) (by omega), kj j i j0 j1 i0 i1, g2 (r + 3) (by omega) (by omega)]
  · intro i i0 i1
    rw [m5 (r + 3) (by omega) (by omega) (by omega) (by omega), kk i i0 i1, g2 (r + 1) (by omega) (by omega)]
  · rw [f1 _ (by omega), rj 0 (by decide) (by decide), h57]
  · rw [f2 _ (by omega) (by omega) (by omega), g0 _ (by omega) (by omega) (by omega) (by omega) (by omega) (by omega)]
  · rw [m6 5 (by decide) (by decide), kg 5 (by decide), g3 5 (by decide) (by decide) (by decide)]
  · rw [m5 (r + 4) (by omega) (by omega) (by omega) (by omega), kf (r + 4) (by omega) (by omega), g2 (r + 4) (by omega) (by omega)]
section RULES
variable {E : EE} {X : JX} {cc : ByteArray} {own : String} {nl d c0 s0 : Nat} {pc : Nat} {L : List (Nat × Value)} {st : List Value} {K : Nat → Nat} {M : MM} {a b : Nat}
theorem J_icmpS (hX : XO E X cc own nl d c0 s0) {y off : Int} (t : Nat) (hd : decode cc pc = .ok (.if_icmp .eq off, 3)) (ht : (pc : Int) + off = (t : Int)) (k1 : J E X t L st K M a b) : J E X pc L (vI y :: vI y :: st) K M a b := by
  obtain ⟨p, l, e, R, s, m, args, below, meth, c, Q, nL, K0, ad0⟩ := X
  intro ad H locs ls hR he hs hv
  exact lv_icmp_eq hX.1 hX.2.1 hd ht (fun _ => k1 ad H locs ls hR he hs hv) (fun h => absurd rfl h)
end RULES

