/-! what holds of the class and of its reference at every call -/
def SvR (M : MM) (x r : Nat) : Prop := M (x + 55) 0 = M r 3 ∧ ∀ c : Int, 0 ≤ c → c < M r 3 → RS (stg M (M (x + 56) c).toNat) (fun j => M (r + 3) (198 * c + j))
def SvW (T : Int) (M : MM) (x : Nat) : Prop := ∀ c : Int, 0 ≤ c → c < M (x + 55) 0 → WF T M (M (x + 56) c).toNat
def TxE (M : MM) (x r : Nat) : Prop := M (x + 57) 0 = M r 5 ∧ (0 ≤ M r 5 ∧ M r 5 ≤ 150) ∧ ∀ j : Int, 0 ≤ j → j < M r 5 → M (x + 58) j = M (r + 4) j ∧ 0 ≤ M (r + 4) j ∧ M (r + 4) j ≤ 127
def InvK (K : Nat → Nat) (x r o : Nat) : Prop := EyeK K x ∧ ModelK K r ∧ (K o = 11 ∧ K (o + 1) = 12) ∧ ∀ i, o + 2 ≤ i → K i = 0
def InvM (T : Int) (M : MM) (x r : Nat) : Prop := WF T M (x + 3) ∧ (∃ To, WF To M (x + 30)) ∧ Frs M x ∧ RS (stg M (x + 3)) (M (r + 1)) ∧ SvR M x r ∧ SvW T M x ∧ TxE M x r ∧ i32 (M r 6)
def Inv (n : Nat) (T : Int) (K : Nat → Nat) (M : MM) (x r o : Nat) : Prop := InvK K x r o ∧ HV n K M (x + 55) (x + 60) ∧ Cl K M ∧ InvM T M x r
def Sep (x r o : Nat) : Prop := r = x + 124 ∧ o = r + 12 ∧ o + 2 ≤ 1000000
theorem RS_alk {S S2 : MM} {m : Int → Int} (h : ∀ k, k ≠ 10 → S2 k = S k) (hR : RS S m) : RS S2 m := by
  unfold RS at *
  rw [h 0 (by decide), h 1 (by decide), h 2 (by decide), h 4 (by decide), h 5 (by decide), h 6 (by decide), h 7 (by decide), h 8 (by decide), h 9 (by decide), h 11 (by decide), h 12 (by decide), h 13 (by decide), h 14 (by decide), h 15 (by decide)]
  exact hR
theorem WF_mo {T T2 : Int} {M : MM} {b : Nat} (h : WF T M b) (h1 : T ≤ T2) (h2 : T2 ≤ 1000000000) : WF T2 M b := WF_iS.mpr (WFS_mono (WF_iS.mp h) h1 h2)
theorem HV.at {n : Nat} {K : Nat → Nat} {M : MM} {x : Nat} (hV : HV n K M (x + 55) (x + 60)) {c : Int} (h0 : 0 ≤ c) (h1 : c < M (x + 55) 0) : ∃ q : Nat, q < 4 ∧ (M (x + 56) c).toNat = x + 60 + 16 * q := by
  obtain ⟨h4, ⟨a1, a2⟩, ⟨s1, -, -⟩, -⟩ := hV
  obtain ⟨q, q1, q2⟩ := s1 c h0 (by omega)
  have q3 : M (x + 56) c = ((x + 60 + 16 * q : Nat) : Int) := q2
  exact ⟨q, by omega, by rw [q3]; exact Int.toNat_natCast _⟩
theorem Cl_11 {K : Nat → Nat} {M M2 : MM} (h : Cl K M) (hM : ∀ i, K i ≠ 0 → K i < 10 ∨ 1000 ≤ K i ∨ K i = 11 ∨ K i = 12 ∨ M2 i = M i) : Cl K M2 := by
  intro i hi
  obtain ⟨c1, c2, c3⟩ := h i hi
  refine ⟨c1, fun h1 j h2 => ?_, fun f o h1 h2 h3 h4 h5 => ?_⟩
  · rcases hM i hi with q | q | q | q | q
    · omega
    · omega
    · omega
    · omega
    · rw [q] at h2 ⊢; exact c2 h1 j h2
  · rcases hM i hi with q | q | q | q | q
    · omega
    · omega
    · omega
    · omega
    · rw [q] at h5; exact c3 f o h1 h2 h3 h4 h5
theorem kXa_ok : ∀ j, j < 60 → j ≠ 56 → kXa j < 10 ∨ 1000 ≤ kXa j := by decide
theorem kM_ok : ∀ j, j < 12 → kM j < 10 ∨ 1000 ≤ kM j := by decide
theorem Cl_inv {K : Nat → Nat} {M M2 : MM} {x r o : Nat} (hS : Sep x r o) (hK : InvK K x r o) (hC : Cl K M) (h : ∀ i, i < x ∨ i = x + 56 ∨ (x + 60 ≤ i ∧ i < r) → M2 i = M i) : Cl K M2 := by
  obtain ⟨e1, e2, -⟩ := hS
  obtain ⟨k1, k2, ⟨k3, k4⟩, k5⟩ := hK
  refine Cl_11 hC (fun i hi => ?_)
  by_cases c1 : i < x ∨ i = x + 56 ∨ (x + 60 ≤ i ∧ i < r)
  · exact Or.inr (Or.inr (Or.inr (Or.inr (h i c1))))
  by_cases c2 : i < x + 60
  · have := k1.all (i - x) (by omega)
    rw [show x + (i - x) = i by omega] at this
    rw [this]
    rcases kXa_ok (i - x) (by omega) (by omega) with q | q
    · exact Or.inl q
    · exact Or.inr (Or.inl q)
  by_cases c3 : i < r + 12
  · have := k2 (i - r) (by omega)
    rw [show r + (i - r) = i by omega] at this
    rw [this]
    rcases kM_ok (i - r) (by omega) with q | q
    · exact Or.inl q
    · exact Or.inr (Or.inl q)
  by_cases c4 : i = o
  · rw [c4, k3]; exact Or.inr (Or.inr (Or.inl rfl))
  by_cases c5 : i = o + 1
  · rw [c5, k4]; exact Or.inr (Or.inr (Or.inr (Or.inl rfl)))
  exact absurd (k5 i (by omega)) hi
theorem stg_of {M M2 : MM} {b : Nat} (h : ∀ i, b ≤ i → i < b + 16 → M2 i = M i) : stg M2 b = stg M b := stg_eq (fun k hk => h (b + k) (by omega) (by omega))
theorem InvM_mo {T T2 : Int} {M : MM} {x r : Nat} (h : InvM T M x r) (h1 : T ≤ T2) (h2 : T2 ≤ 1000000000) : InvM T2 M x r := by
  obtain ⟨a1, a2, a3, a4, a5, a6, a7⟩ := h
  exact ⟨WF_mo a1 h1 h2, a2, a3, a4, a5, fun c c0 c1 => WF_mo (a6 c c0 c1) h1 h2, a7⟩
theorem Inv_mo {n : Nat} {T T2 : Int} {K : Nat → Nat} {M : MM} {x r o : Nat} (h : Inv n T K M x r o) (h1 : T ≤ T2) (h2 : T2 ≤ 1000000000) : Inv n T2 K M x r o := ⟨h.1, h.2.1, h.2.2.1, InvM_mo h.2.2.2 h1 h2⟩
theorem Vwt_fr {M M2 : MM} {v : Nat} {S : MM} (h : ∀ i, v ≤ i → i < v + 27 → M2 i = M i) (hV : Vwt M v S) : Vwt M2 v S := hV.fr (fun i _ a => h i (by omega) (by omega)) (fun j _ => by rw [h v (by omega) (by omega)])
theorem HOK_fr {M M2 : MM} {v : Nat} {S : MM} (h : ∀ i, v ≤ i → i < v + 27 → M2 i = M i) (hH : HOK M v S) : HOK M2 v S := by
  have e := h v (by omega) (by omega)
  have h1 := hH
  unfold HOK at h1 ⊢
  rw [e]
  rcases h1 with h1 | ⟨a1, a2, a3⟩
  · exact Or.inl h1
  · exact Or.inr ⟨a1, a2, ho_same hH (h _ (by omega) (by omega)) (h _ (by omega) (by omega)) a1 (Or.inl rfl)⟩
/-- a call that only looks -/
theorem inv_look {n : Nat} {T : Int} {K : Nat → Nat} {M M2 : MM} {x r o : Nat} (hI : Inv n T K M x r o) (hS : Sep x r o) (hF : Frs M2 x) (hp : stg M2 (x + 3) = stg M (x + 3)) (ho : ∃ To, WF To M2 (x + 30)) (hc : ∀ i, i < x ∨ (x + 55 ≤ i ∧ i < r) ∨ i = r + 3 ∨ i = r + 4 → M2 i = M i)
    (hm : ∀ j : Int, 0 ≤ j → j < 198 → M2 (r + 1) j = M (r + 1) j) (hr : ∀ j, j = 3 ∨ j = 5 → M2 r j = M r j) (h6 : i32 (M2 r 6)) : Inv n T K M2 x r o := by
  obtain ⟨i1, i2, i3, w1, w2, w3, w4, w5, w6, w7, w8⟩ := hI
  obtain ⟨e1, e2, e3⟩ := id hS
  have h55 := hc (x + 55) (by omega)
  have h56 := hc (x + 56) (by omega)
  have h57 := hc (x + 57) (by omega)
  have h58 := hc (x + 58) (by omega)
  have hr3 := hc (r + 3) (by omega)
  have hr4 := hc (r + 4) (by omega)
  have h3 := hr 3 (Or.inl rfl)
  have h5 := hr 5 (Or.inr rfl)
  have hst : ∀ c : Int, 0 ≤ c → c < M (x + 55) 0 → stg M2 (M (x + 56) c).toNat = stg M (M (x + 56) c).toNat := fun c c0 c1 => by
    obtain ⟨q, q1, q2⟩ := i2.at c0 c1
    rw [q2]
    exact stg_of (fun i a1 a2 => hc i (by omega))
  refine ⟨i1, i2.fr h55 h56, Cl_inv hS i1 i3 (fun i hi => hc i (by omega)), WF_fr hp w1, ho, hF, by rw [hp]; exact RS_fr w4 (WF_iS.mp w1) hm, ⟨by rw [h55, h3]; exact w5.1, fun c c0 c1 => ?_⟩, fun c c0 c1 => ?_, ?_, h6⟩
  · rw [h3] at c1
    rw [h56, hst c c0 (by rw [w5.1]; exact c1), hr3]
    exact w5.2 c c0 c1
  · rw [h55] at c1
    rw [h56]
    exact WF_fr (hst c c0 c1) (w6 c c0 c1)
  · unfold TxE
    rw [h57, h58, h5, hr4]
    exact w7
/-- a call that is refused on both sides -/
theorem inv_no {n : Nat} {T : Int} {K : Nat → Nat} {M M2 : MM} {x r o : Nat} (hI : Inv n T K M x r o) (hS : Sep x r o) (h1 : ∀ i, i ≠ r → M2 i = M i) (h2 : ∀ j, j ≠ 6 → M2 r j = M r j) (h6 : i32 (M2 r 6)) : Inv n T K M2 x r o := by
  obtain ⟨e1, e2, e3⟩ := id hS
  refine inv_look hI hS ?_ (stg_of (fun i a1 a2 => h1 i (by omega))) ?_ (fun i hi => h1 i (by omega)) (fun j _ _ => by rw [h1 (r + 1) (by omega)]) (fun j hj => h2 j (by omega)) h6
  · have w3 := hI.2.2.2.2.2.1
    have f1 : ∀ i, x ≤ i → i < r → M2 i = M i := fun i a1 a2 => h1 i (by omega)
    unfold Frs at w3 ⊢
    rw [f1 x (by omega) (by omega), stg_of (M := M) (M2 := M2) (b := x + 3) (fun i a1 a2 => f1 i (by omega) (by omega))]
    rcases w3 with w3 | ⟨w3, w4, w5⟩
    · exact Or.inl w3
    · exact Or.inr ⟨w3, Vwt_fr (fun i a1 a2 => f1 i (by omega) (by omega)) w4, HOK_fr (fun i a1 a2 => f1 i (by omega) (by omega)) w5⟩
  · obtain ⟨To, hTo⟩ := hI.2.2.2.2.1
    exact ⟨To, WF_fr (stg_of (fun i a1 a2 => h1 i (by omega))) hTo⟩
theorem Svd_fr {n2 : Nat} {K1 : Nat → Nat} {M Ma M1 M2 : MM} {x : Nat} (h00 : 0 ≤ M (x + 55) 0) (hV : HV n2 K1 M1 (x + 55) (x + 60)) (h : Svd Ma M1 (x + 55) (x + 3)) (hA : ∀ i, (x + 3 ≤ i ∧ i < x + 19) ∨ i = x + 55 ∨ i = x + 56 ∨ (x + 60 ≤ i ∧ i < x + 124) → Ma i = M i)
    (h2 : ∀ i, i = x + 55 ∨ i = x + 56 ∨ (x + 60 ≤ i ∧ i < x + 124) → M2 i = M1 i) : Svd M M2 (x + 55) (x + 3) := by
  have a55 := hA (x + 55) (by omega)
  have a56 := hA (x + 56) (by omega)
  have b55 := h2 (x + 55) (by omega)
  have b56 := h2 (x + 56) (by omega)
  obtain ⟨z, c, hz, h0, hj, hk⟩ := h
  rw [a55] at hz
  have hc0 : 0 ≤ c := by
    rcases hz with ⟨-, q, -⟩ | ⟨-, -, q⟩
    · omega
    · omega
  refine ⟨z, c, hz, by rw [b55]; exact h0, fun j j0 j1 => ?_, fun k k1 k2 => ?_⟩
  · obtain ⟨q1, q2⟩ := hj j j0 j1
    have e1 : M2 (x + 55 + 1) j = M1 (x + 55 + 1) j := congrFun b56 j
    have e2 : Ma (x + 55 + 1) (j + z) = M (x + 55 + 1) (j + z) := congrFun a56 (j + z)
    refine ⟨by rw [e1, ← e2]; exact q1, fun k hk => ?_⟩
    obtain ⟨q, q3, q4⟩ := hV.at (c := j) j0 (by omega)
    have q4' : (M1 (x + 55 + 1) j).toNat = x + 60 + 16 * q := q4
    have := q2 k hk
    rw [e1]
    rw [q4'] at this ⊢
    rw [h2 _ (by omega), this, hA _ (by omega)]
  · have e1 : M2 (x + 55 + 1) c = M1 (x + 55 + 1) c := congrFun b56 c
    obtain ⟨q, q3, q4⟩ := hV.at (c := c) hc0 (by omega)
    have q4' : (M1 (x + 55 + 1) c).toNat = x + 60 + 16 * q := q4
    have := hk k k1 k2
    rw [e1]
    rw [q4'] at this ⊢
    rw [h2 _ (by omega), this, hA _ (by omega)]
/-- a call that saves the state and changes the page -/
theorem inv_save {n n2 : Nat} {T T2 : Int} {K K1 : Nat → Nat} {M M2 : MM} {x r o : Nat} (hI : Inv n T K M x r o) (hS : Sep x r o) (hTT : T ≤ T2) (hT2 : T2 ≤ 1000000000)
    (hK : ∀ i, i < x + 60 ∨ x + 124 ≤ i → K1 i = K i) (hV : HV n2 K1 M2 (x + 55) (x + 60)) (hC : Cl K1 M2) (hsv : Svd M M2 (x + 55) (x + 3)) (hW : WF T2 M2 (x + 3)) (ho : ∃ To, WF To M2 (x + 30)) (hx6 : M2 x 6 = 1)
    (hsm : ∃ z c : Int, (z = 0 ∧ c = M r 3 ∧ c < 4 ∨ z = 1 ∧ M r 3 = 4 ∧ c = 3) ∧ M2 r 3 = c + 1 ∧ (∀ j i : Int, 0 ≤ j → j < c → 0 ≤ i → i < 198 → M2 (r + 3) (198 * j + i) = M (r + 3) (198 * (j + z) + i)) ∧ (∀ i : Int, 0 ≤ i → i < 198 → M2 (r + 3) (198 * c + i) = M (r + 1) i))
    (hR : RS (stg M2 (x + 3)) (M2 (r + 1))) (h57 : M2 (x + 57) 0 = M (x + 57) 0) (h58 : M2 (x + 58) = M (x + 58)) (h5 : M2 r 5 = M r 5) (h4 : M2 (r + 4) = M (r + 4)) (h6 : i32 (M2 r 6)) : Inv n2 T2 K1 M2 x r o := by
  obtain ⟨⟨k1, k2, ⟨k3, k4⟩, k5⟩, i2, i3, w1, w2, w3, w4, w5, w6, w7, w8⟩ := hI
  obtain ⟨e1, e2, e3⟩ := id hS
  obtain ⟨z, c, hz, g0, gj, gk⟩ := hsv
  obtain ⟨z', c', hz', m0, mj, mk⟩ := hsm
  have hcnt := w5.1
  have hzz : z' = z ∧ c' = c := by
    rcases hz with ⟨a1, a2, a3⟩ | ⟨a1, a2, a3⟩ <;> rcases hz' with ⟨b1, b2, b3⟩ | ⟨b1, b2, b3⟩ <;> omega
  obtain ⟨rfl, rfl⟩ := hzz
  have hc0 : 0 ≤ c' := by
    have := i2.2.1
    rcases hz with ⟨-, q, -⟩ | ⟨-, -, q⟩ <;> omega
  have hold : ∀ j : Int, 0 ≤ j → j < c' → M2 (x + 56) j = M (x + 56) (j + z') ∧ stg M2 (M2 (x + 56) j).toNat = stg M (M2 (x + 56) j).toNat ∧ 0 ≤ j + z' ∧ j + z' < M (x + 55) 0 := fun j j0 j1 => by
    obtain ⟨q1, q2⟩ := gj j j0 j1
    refine ⟨q1, stg_eq (fun k hk => q2 k hk), ?_⟩
    rcases hz with ⟨-, q, -⟩ | ⟨-, -, q⟩ <;> omega
  have hnew : ∀ k, k ≠ 10 → stg M2 (M2 (x + 56) c').toNat k = stg M (x + 3) k := Alk.stg gk
  refine ⟨⟨?_, fun j hj => by rw [hK _ (by omega)]; exact k2 j hj, ⟨by rw [hK _ (by omega)]; exact k3, by rw [hK _ (by omega)]; exact k4⟩, fun i hi => by rw [hK _ (by omega)]; exact k5 i hi⟩, hV, hC, hW, ho, Or.inl hx6, hR, ⟨by rw [m0]; exact g0, fun j j0 j1 => ?_⟩, fun j j0 j1 => ?_, ?_, h6⟩
  · have e : ∀ i, i < x + 60 → K1 i = K i := fun i hi => hK i (by omega)
    obtain ⟨a1, a2, a3, a4, a5⟩ := k1
    exact ⟨by rw [e _ (by omega)]; exact a1, fun j hj => by rw [e _ (by omega)]; exact a2 j hj, fun j hj => by rw [e _ (by omega)]; exact a3 j hj, ⟨by rw [e _ (by omega)]; exact a4.1, by rw [e _ (by omega)]; exact a4.2⟩, by rw [e _ (by omega)]; exact a5.1, by rw [e _ (by omega)]; exact a5.2.1, by rw [e _ (by omega)]; exact a5.2.2⟩
  · rw [m0] at j1
    by_cases q : j < c'
    · obtain ⟨q1, q2, q3, q4⟩ := hold j j0 q
      rw [q2, q1]
      refine RS_fr (w5.2 _ q3 (by omega)) (WF_iS.mp (w6 _ q3 q4)) (fun i i0 i1 => mj j i j0 q i0 i1)
    · obtain rfl : j = c' := by omega
      refine RS_alk hnew (RS_fr w4 (WF_iS.mp w1) (fun i i0 i1 => mk i i0 i1))
  · have g0' : M2 (x + 55) 0 = c' + 1 := g0
    rw [g0'] at j1
    by_cases q : j < c'
    · obtain ⟨q1, q2, q3, q4⟩ := hold j j0 q
      refine WF_fr q2 ?_
      rw [q1]
      exact WF_mo (w6 _ q3 q4) hTT hT2
    · obtain rfl : j = c' := by omega
      exact WF_iS.mpr (WFS_alk hnew (WFS_mono (WF_iS.mp w1) hTT hT2))
  · unfold TxE
    rw [h57, h58, h5, h4]
    exact w7
/-- .. by the class's faces and the reference's -/
theorem inv_ch {n : Nat} {T T2 : Int} {K K1 : Nat → Nat} {M M1 Mc M2 : MM} {x r o : Nat} {v c w : Int} {S2 : MM} {r9 : Option Value} (hI : Inv n T K M x r o) (hS : Sep x r o) (hTT : T ≤ T2) (hk : KeptX n K M x K1 M1) (hp : ∀ i, i < x + 3 ∨ x + 18 < i → Mc i = M1 i) (hW2 : WF T2 Mc (x + 3)) (hSS : stg Mc (x + 3) = S2)
    (hm : ChM (mset Mc o 0 v) r c w S2 r9 M2) (hc : c = 0) : (∃ n2, Inv n2 T2 K1 M2 x r o) ∧ M2 o 0 = v ∧ M2 r 6 = 0 ∧ r9 = some (vI w) := by
  obtain ⟨e1, e2, e3⟩ := id hS
  obtain ⟨M0, ⟨c6, cf, cj⟩, hm⟩ := hm
  rcases hm with ⟨h, -⟩ | ⟨-, h9, Mk, ⟨z, cc, kz, k3, kj, kk, kf, kg⟩, kfin, hR⟩
  · exact absurd hc h
  have hMk6 : M2 r 6 = 0 := by rw [kfin r (by omega) (by omega), kg 6 (by decide), c6, hc]
  obtain ⟨j1, j2, j3, ⟨n2, j4, j5⟩, j6, j7, j8, j9, j10⟩ := hk
  have f0 : ∀ i, i ≠ r → i ≠ r + 1 → i ≠ r + 3 → i ≠ r + 5 → M2 i = mset Mc o 0 v i := fun i a1 a2 a3 a4 => by rw [kfin i a2 a4, kf i a1 a3, cf i a1]
  have f1 : ∀ i, i < r → M2 i = Mc i := fun i hi => by rw [f0 i (by omega) (by omega) (by omega) (by omega), mset_ne (by omega)]
  have f2 : ∀ i, i < x + 3 ∨ (x + 18 < i ∧ i < r) → M2 i = M1 i := fun i hi => by rw [f1 i (by omega), hp i (by omega)]
  have hst : stg M2 (x + 3) = S2 := by rw [stg_of (fun i a1 a2 => f1 i (by omega))]; exact hSS
  have g0 : ∀ i, r ≤ i → i < r + 12 → Mc i = M i := fun i a1 a2 => by rw [hp i (by omega), j6 i (by omega) (by omega) (by omega) (by omega)]
  have g1 : ∀ i, i ≠ r → r ≤ i → i < r + 12 → M0 i = M i := fun i a0 a1 a2 => by rw [cf i a0, mset_ne (by omega), g0 i a1 a2]
  have g2 : ∀ j, j ≠ 6 → M0 r j = M r j := fun j hj => by rw [cj j hj, mset_ne (by omega), g0 r (by omega) (by omega)]
  refine ⟨⟨n2, inv_save hI hS hTT hW2.1 j2 (j5.fr (f2 _ (by omega)) (f2 _ (by omega))) ?_ (Svd_fr hI.2.1.2.1.1 j5 j10 (fun i _ => rfl) (fun i hi => f2 i (by omega))) (WF_fr (stg_of (fun i a1 a2 => f1 i (by omega))) hW2) ?_ ?_ ⟨z, cc, ?_, ?_, ?_, ?_⟩ (by rw [hst]; exact hR) ?_ ?_ ?_ ?_ (by rw [hMk6]; decide)⟩, ?_, hMk6, h9⟩
  · have hKK : InvK K1 x r o := by
      obtain ⟨⟨k1, k2, ⟨k3, k4⟩, k5⟩, -⟩ := hI
      exact ⟨KeptX.eye ⟨j1, j2, j3, ⟨n2, j4, j5⟩, j6, j7, j8, j9, j10⟩ k1, fun j hj => by rw [j2 _ (by omega)]; exact k2 j hj, ⟨by rw [j2 _ (by omega)]; exact k3, by rw [j2 _ (by omega)]; exact k4⟩, fun i hi => by rw [j2 _ (by omega)]; exact k5 i hi⟩
    exact Cl_inv hS hKK j3 (fun i hi => f2 i (by omega))
  · obtain ⟨To, hTo⟩ := hI.2.2.2.2.1
    exact ⟨To, WF_fr (stg_of (fun i a1 a2 => by rw [f2 i (by omega), j6 i (by omega) (by omega) (by omega) (by omega)])) hTo⟩
  · rw [f2 x (by omega)]; exact j8
  · rw [g2 3 (by decide)] at kz; exact kz
  · rw [kfin r (by omega) (by omega)]; exact k3
  · intro j i j0 j1 i0 i1
    rw [kfin (r + 3) (by omega) (by omega), kj j i j0 j1 i0 i1, g1 (r + 3) (by omega) (by omega) (by omega)]
  · intro i i0 i1
    rw [kfin (r + 3) (by omega) (by omega), kk i i0 i1, g1 (r + 1) (by omega) (by omega) (by omega)]
  · rw [f2 _ (by omega), j6 _ (by omega) (by omega) (by omega) (by omega)]
  · rw [f2 _ (by omega), j6 _ (by omega) (by omega) (by omega) (by omega)]
  · rw [kfin r (by omega) (by omega), kg 5 (by decide), g2 5 (by decide)]
  · rw [kfin (r + 4) (by omega) (by omega), kf (r + 4) (by omega) (by omega), g1 (r + 4) (by omega) (by omega) (by omega)]
  · rw [f0 o (by omega) (by omega) (by omega) (by omega)]; exact mset_eq
/-- a change that both sides refuse -/
theorem inv_chno {n : Nat} {T : Int} {K : Nat → Nat} {M M2 : MM} {x r o : Nat} {c w : Int} {S2 : MM} {r9 : Option Value} (hI : Inv n T K M x r o) (hS : Sep x r o) (hm : ChM M r c w S2 r9 M2) (hc : c ≠ 0) (hc3 : i32 c) : Inv n T K M2 x r o ∧ M2 r 6 = c ∧ r9 = some (vI 0) := by
  obtain ⟨M0, ⟨c6, cf, cj⟩, hm⟩ := hm
  rcases hm with ⟨-, h9, rfl⟩ | ⟨h, -⟩
  · exact ⟨inv_no hI hS cf cj (by rw [c6]; exact hc3), c6, h9⟩
  · exact absurd h hc
/-- a question: the class has looked (or not), the reference answers -/
theorem inv_q {n : Nat} {T : Int} {K : Nat → Nat} {M Mc M2 : MM} {x r o o2 : Nat} {v c w : Int} {r9 : Option Value} (hI : Inv n T K M x r o) (hS : Sep x r o) (ho2 : o2 = o ∨ o2 = o + 1) (hL : Frs Mc x ∧ stg Mc (x + 3) = stg M (x + 3) ∧ (∃ To, WF To Mc (x + 30)) ∧ ∀ i, i < x ∨ x + 55 ≤ i → Mc i = M i) (hm : VlM (mset Mc o2 0 v) r c w r9 M2) (hc3 : i32 c) :
    Inv n T K M2 x r o ∧ M2 o2 0 = v ∧ M2 r 6 = c ∧ (c = 0 → r9 = some (vI w)) ∧ (c ≠ 0 → r9 = some (vI 0)) := by
  obtain ⟨e1, e2, e3⟩ := id hS
  obtain ⟨l1, l2, ⟨To, l3⟩, l4⟩ := hL
  obtain ⟨v6, v9, vf, vm, vj⟩ := hm
  have f0 : ∀ i, i < r → M2 i = Mc i := fun i hi => by rw [vf i (by omega), mset_ne (by omega)]
  have f1 : ∀ i, i < x ∨ (x + 55 ≤ i ∧ i < r) → M2 i = M i := fun i hi => by rw [f0 i (by omega), l4 i (by omega)]
  have hsx : stg M2 (x + 3) = stg Mc (x + 3) := stg_of (fun i a1 a2 => f0 i (by omega))
  refine ⟨inv_look hI hS ?_ (hsx.trans l2) ⟨To, WF_fr (stg_of (fun i a1 a2 => f0 i (by omega))) l3⟩ (fun i hi => ?_) (fun j j0 j1 => ?_) (fun j hj => ?_) (by rw [v6]; exact hc3), ?_, v6, fun h => ?_, fun h => ?_⟩
  · unfold Frs at l1 ⊢
    rw [f0 x (by omega), hsx]
    rcases l1 with w3 | ⟨w3, w4, w5⟩
    · exact Or.inl w3
    · exact Or.inr ⟨w3, Vwt_fr (fun i a1 a2 => f0 i (by omega)) w4, HOK_fr (fun i a1 a2 => f0 i (by omega)) w5⟩
  · rcases hi with h | h | h | h
    · exact f1 i (Or.inl h)
    · exact f1 i (Or.inr h)
    · rw [vf i (by omega), mset_ne (by omega), l4 i (by omega)]
    · rw [vf i (by omega), mset_ne (by omega), l4 i (by omega)]
  · rw [vm j j0 j1, mset_ne (by omega), l4 _ (by omega)]
  · rw [vj j hj, mset_ne (by omega), l4 _ (by omega)]
  · rw [vf o2 (by omega)]; exact mset_eq
  · rcases v9 with ⟨h2, -⟩ | ⟨-, h2⟩
    · exact absurd h h2
    · exact h2
  · rcases v9 with ⟨-, h2⟩ | ⟨h2, -⟩
    · exact h2
    · exact absurd h2 h

