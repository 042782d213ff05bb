/-! heap rules, calls, entry -/
theorem ce_congr {E : EE} {ad : Nat → Nat} {k i : Nat} {M M2 : MM} (h : M i = M2 i) : ce E ad k i M = ce E ad k i M2 := by
  unfold ce fvr fv
  rw [h]
theorem Rep_set {E : EE} {ad K : Nat → Nat} {M M2 : MM} {H H2 : Heap} {i : Nat} (hR : Rep E ad K M H) (hK : K i ≠ 0) (hat : va_at E.1 vwCl (ad i, ce E ad (K i) i M2) H2) (hz : H2.size = H.size) (ho : ∀ q : Nat, q ≠ ad i → H2[q]? = H[q]?) (hM : ∀ i2, i2 ≠ i → M2 i2 = M i2) (hr : ∀ j, rg (K i) j (M2 i j)) : Rep E ad K M2 H2 := by
  obtain ⟨h1, h2, h3, ⟨h4, h5⟩, h6⟩ := hR
  refine ⟨fun i2 hk => ?_, h2, h3, ⟨by rw [hz]; exact h4, fun q hq => ?_⟩, fun i2 j hk => ?_⟩
  · by_cases e : i2 = i
    · subst e; exact hat
    · rw [ce_congr (hM i2 e)]
      exact (h1 i2 hk).kept (ho _ (fun q => e (h2 i2 i hk hK q)))
  · rw [ho q (fun e => by have := h3 i hK; omega)]
    exact h5 q hq
  · by_cases e : i2 = i
    · subst e; exact hr j
    · rw [hM i2 e]; exact h6 i2 j hk
theorem mset_ne {M : MM} {i : Nat} {j x : Int} {i2 : Nat} (h : i2 ≠ i) : mset M i j x i2 = M i2 := by
  funext j2; unfold mset; rw [if_neg (fun q => h q.1)]
theorem mset_eq {M : MM} {i : Nat} {j x : Int} : mset M i j x i j = x := by unfold mset; rw [if_pos ⟨rfl, rfl⟩]
theorem mset_nj {M : MM} {i i2 : Nat} {j x : Int} {j2 : Int} (h : j2 ≠ j) : mset M i j x i2 j2 = M i2 j2 := by unfold mset; rw [if_neg (fun q => h q.2)]
theorem mset_rg {k : Nat} {M : MM} {i : Nat} {j x : Int} (h : ∀ j, rg k j (M i j)) (hx : rg k j x) : ∀ j2, rg k j2 (mset M i j x i j2) := by
  intro j2
  by_cases e : j2 = j
  · subst e; rw [mset_eq]; exact hx
  · rw [mset_nj e]; exact h j2
/-- a field of the class of kind k is linked at idx of own -/
def FL (own : String) (idx k f : Nat) : Prop := ∃ (C : String) (T : u_T) (N : Nat) (ty0 : Nat → FieldType), vwCl[k - 1]? = some (C, T, N) ∧ (0 < k ∧ k < 10) ∧ f < N ∧ nf k = N ∧ (∀ w ∈ u_ws C T N, w ∈ tb) ∧ Cond.fieldLink own idx (T f).1 (T f).2.1 (T f).2.2.1 ∈ tb ∧
  (∀ k, k < N → parseFieldDescriptor (T k).2.2.1 = some (ty0 k)) ∧ (∀ a, a < N → ∀ b, b < N → a ≠ b → (T a).2.1 ≠ (T b).2.1)
def FR (own : String) (idx k f o : Nat) : Prop := FL own idx k f ∧ ro k f = some o
def FI (own : String) (idx k f : Nat) (j : Int) : Prop := FL own idx k f ∧ ro k f = none ∧ ¬ (k = 9 ∧ f = 23) ∧ ¬ (k = 4 ∧ f = 4) ∧ (f : Int) = j
/-- .. and it is an int or a boolean that may be written -/
def FW (own : String) (idx k f : Nat) (j : Int) (ty : FieldType) : Prop := FI own idx k f j ∧ ∀ (C : String) (T : u_T) (N : Nat), vwCl[k - 1]? = some (C, T, N) → (T f).2.2.2 = false ∧ parseFieldDescriptor (T f).2.2.1 = some ty
theorem ce_obj {E : EE} {ad : Nat → Nat} {k i : Nat} {M : MM} (hk : k < 10) : ce E ad k i M = .inr (k - 1, (List.range (nf k)).map (fun f => fv E ad k i f M)) := by
  unfold ce; rw [if_pos hk]
theorem ce_arr {E : EE} {ad : Nat → Nat} {n i : Nat} {M : MM} : ce E ad (1000 + n) i M = .inl (E.2.1.1, n, .inl (fun j => Int32.ofInt (M i j))) := by
  unfold ce; rw [if_neg (by omega), if_neg (by omega), if_neg (by omega), if_neg (by omega), if_neg (by omega), show 1000 + n - 1000 = n by omega]
theorem rg_i {k : Nat} {j x : Int} (h : rg k j x) (hk : ¬ (k = 9 ∧ j = 23)) (h1 : k ≠ 11) (h2 : k ≠ 12) : i32 x := by
  rcases h with h | h
  · rcases h with h | h | h
    · exact absurd h h1
    · exact absurd h h2
    · exact absurd h hk
  · exact h
theorem FI_rg {own : String} {idx k f : Nat} {j x : Int} (h : FI own idx k f j) (hr : rg k j x) : i32 x := by
  obtain ⟨⟨_, _, _, _, _, h0, _⟩, _, h1, _, h2⟩ := h
  exact rg_i hr (fun q => h1 ⟨q.1, by omega⟩) (by omega) (by omega)
section RULES
variable {E : EE} {X : JX} {cc : ByteArray} {own : String} {nl d c0 s0 : Nat} {pc : Nat} {L : List (Nat × Value)} {st : List Value} {K : Nat → Nat} {M : MM} {a b : Nat}
theorem J_getv (hX : XO E X cc own nl d c0 s0) {idx k f i : Nat} (hF : FL own idx k f) (hd : decode cc pc = .ok (.getfield idx, 3)) (hK : K i = k) (k1 : ∀ (ad : Nat → Nat) (H : Heap) (locs : List Loc) (ls : Array Slot), match X with | (p, l, e, R, s, m, args, below, meth, c, Q, nL, K0, ad0) => Rep E ad K M H → adE K0 ad0 K ad → (∀ z ∈ locs, sz0 E ≤ z.base) → lv_has ls nL (mlv ad L) → W p l e R s m args below meth c H locs a b Q (F0 m (pc + 3) ls (fv E ad k i f M :: st.map (cv ad)))) : J E X pc L (.ref i :: st) K M a b := by
  obtain ⟨p, l, e, R, s, m, args, below, meth, c, Q, nL, K0, ad0⟩ := X
  intro ad H locs ls hR he hs hv
  obtain ⟨C, T, N, ty0, h1, hk, hf, hN, hin, hlink, -, -⟩ := hF
  have hat := hR.1 i (by omega)
  rw [hK, ce_obj hk.2] at hat
  have hP : va_P E.1 vwCl [(ad i, .inr (k - 1, (List.range (nf k)).map (fun f => fv E ad k i f M)))] H := fun j q hq => by
    cases j with
    | zero => cases hq; exact hat
    | succ j => cases hq
  exact va_get (ws := [(ad i, .inr (k - 1, (List.range (nf k)).map (fun f => fv E ad k i f M)))]) hX.1 hX.2.1 hX.2.2.2.2.1 hin hX.2.2.2.1 hX.2.2.2.2.2.2.1 hP 0 rfl h1 f hf (hX.2.2.2.2.1 _ hlink) (fun _ h => h) (v := fv E ad k i f M) (by rw [List.getElem?_map, List.getElem?_range (by omega)]; rfl) hd (k1 ad H locs ls hR he hs hv)
theorem J_getr (hX : XO E X cc own nl d c0 s0) {idx k f o i : Nat} (hF : FR own idx k f o) (hd : decode cc pc = .ok (.getfield idx, 3)) (hK : K i = k) (k1 : J E X (pc + 3) L (.ref (i + o) :: st) K M a b) : J E X pc L (.ref i :: st) K M a b := by
  obtain ⟨p, l, e, R, s, m, args, below, meth, c, Q, nL, K0, ad0⟩ := X
  refine J_getv hX hF.1 hd hK (fun ad H locs ls hR he hs hv => ?_)
  have e1 : fv E ad k i f M = .ref (ad (i + o)) := by unfold fv; rw [hF.2]
  rw [e1]
  exact k1 ad H locs ls hR he hs hv
theorem J_geti (hX : XO E X cc own nl d c0 s0) {idx k f i : Nat} {j : Int} (hF : FI own idx k f j) (hd : decode cc pc = .ok (.getfield idx, 3)) (hK : K i = k) (k1 : i32 (M i j) → J E X (pc + 3) L (vI (M i j) :: st) K M a b) : J E X pc L (.ref i :: st) K M a b := by
  obtain ⟨p, l, e, R, s, m, args, below, meth, c, Q, nL, K0, ad0⟩ := X
  refine J_getv hX hF.1 hd hK (fun ad H locs ls hR he hs hv => ?_)
  have hk0 : K i ≠ 0 := by obtain ⟨_, _, _, _, _, h0, _⟩ := hF.1; omega
  have hr : i32 (M i j) := FI_rg hF (by have := hR.2.2.2.2 i j hk0; rwa [hK] at this)
  have e1 : fv E ad k i f M = vI (M i j) := by
    obtain ⟨_, h1, h2, h3, h4⟩ := hF
    unfold fv; rw [h1]; simp only
    rw [if_neg h2, if_neg h3, h4]
  rw [e1]
  exact k1 hr ad H locs ls hR he hs hv
theorem List_map_set {α : Type} {N f : Nat} {g g2 : Nat → α} (h : ∀ j, j < N → j ≠ f → g2 j = g j) (hf : f < N) : ((List.range N).map g).set f (g2 f) = (List.range N).map g2 := by
  apply List.ext_getElem?
  intro j
  by_cases e : f = j
  · subst e
    rw [List.getElem?_set_self (by simpa using hf), List.getElem?_map, List.getElem?_range hf]; rfl
  · rw [List.getElem?_set_ne e, List.getElem?_map, List.getElem?_map]
    by_cases hj : j < N
    · rw [List.getElem?_range hj]; simp only [Option.map_some]; rw [h j hj (fun q => e q.symm)]
    · rw [List.getElem?_eq_none (by simp; omega)]; rfl
theorem J_puti (hX : XO E X cc own nl d c0 s0) {idx k f i : Nat} {j x : Int} {ty : FieldType} (hF : FW own idx k f j ty) (hd : decode cc pc = .ok (.putfield idx, 3)) (hK : K i = k) (hx : i32 x) (hty : ty = .int ∨ ty = .boolean ∧ (x = 0 ∨ x = 1)) (k1 : J E X (pc + 3) L st K (mset M i j x) a b) : J E X pc L (vI x :: .ref i :: st) K M a b := by
  obtain ⟨p, l, e, R, s, m, args, below, meth, c, Q, nL, K0, ad0⟩ := X
  intro ad H locs ls hR he hs hv
  obtain ⟨hx0, hb, hml, hown, hts, hroom, hKK, -⟩ := hX
  have hFI := hF.1
  obtain ⟨⟨⟨C, T, N, ty0, h1, hk, hf, hN, hin, hlink, hty0, hnm⟩, hro, hn9, hn4, hj⟩, hw⟩ := hF
  obtain ⟨hfin, hpd⟩ := hw C T N h1
  have hk0 : K i ≠ 0 := by omega
  have hat := hR.1 i hk0
  rw [hK, ce_obj hk.2] at hat
  obtain ⟨r, g1, cell, q1, q2, q3, q4⟩ := hat
  have hr : r = (C, T, N) := Option.some.inj (g1.symm.trans h1)
  subst hr
  have hap := va_apart (own := own) hts hin ty0 hty0 hnm hKK h1
  obtain ⟨hS, hfc, kC, hkC, hkind⟩ := hKK.1 (k - 1) _ h1
  obtain ⟨cf, kf, fi, fd, hi, hsl⟩ := hS f hf
  have hlay := hts _ (hin _ (u_in_lay hf))
  unfold u_lay at hlay
  rw [if_neg (by rw [hfin]; decide)] at hlay
  have hst := (u_facts hfc hkC (u_lays hts hin hf) hi).1
  have hnar : narrow ty (vI x) = vI x ∧ fits ty (vI x) = true := by
    rcases hty with rfl | ⟨rfl, rfl | rfl⟩
    · exact ⟨rfl, rfl⟩
    · exact ⟨rfl, rfl⟩
    · exact ⟨rfl, rfl⟩
  have h6 := u_store hfc hkC hkind hlay hi hpd hnar.1 hnar.2
  refine W.putK hx0 hb (f := fd) (v := vI x) ⟨hown, hts _ hlink, ⟨_, _, _, hi⟩, hst⟩ (by rw [q2]; exact h6) q1 q3 (by rw [hsl]; exact k2_hasslot (q4 f hf)) rfl rfl hd fun H2 e1 e2 e3 => ?_
  rw [hsl] at e1 ⊢
  refine k1 ad H2 _ ls (Rep_set hR hk0 ?_ e2 e3 (fun i2 h => mset_ne h) ?_) he ?_ hv
  · rw [hK, ce_obj hk.2]
    refine ⟨_, h1, t_OB.to (V := updV (vp_V ((List.range (nf k)).map (fun f => fv E ad k i f M))) f (vI x)) ⟨_, e1, q2, q3, t_set q4 hap hf (vI x)⟩ (fun j2 _ => ?_)⟩
    have hl : f < ((List.range (nf k)).map (fun f => fv E ad k i f M)).length := by simp; omega
    rw [vp_updV_set hl (vI x) j2]
    have e5 : fv E ad k i f (mset M i j x) = vI x := by
      unfold fv; rw [hro]; simp only
      rw [if_neg hn9, if_neg hn4, hj, mset_eq]
    have e6 := List_map_set (N := nf k) (f := f) (g := fun f => fv E ad k i f M) (g2 := fun f => fv E ad k i f (mset M i j x)) (fun j3 hj3 hne => ?_) (by omega)
    · simp only [e5] at e6
      rw [e6]
    · show fv E ad k i j3 (mset M i j x) = fv E ad k i j3 M
      unfold fv
      rw [mset_nj (by omega)]
      by_cases h44 : k = 4 ∧ j3 = 4
      · rw [mset_nj (j2 := 4) (by omega)]
      · rw [if_neg h44, if_neg h44]
  · refine mset_rg (fun j2 => hR.2.2.2.2 i j2 hk0) (Or.inr hx)
  · intro z hz
    rcases List.mem_append.mp hz with h | h
    · exact hs z h
    · rw [List.mem_singleton.mp h]; exact hR.2.2.1 i hk0
theorem tys_0 {E : EE} : (tys E)[0]? = some (E.2.1.1, .int) := rfl
theorem J_iald (hX : XO E X cc own nl d c0 s0) {n i : Nat} {j : Int} (hd : decode cc pc = .ok (.iaload, 1)) (hK : K i = 1000 + n) (hj : 0 ≤ j ∧ j < n) (hn : n < 1000000) (k1 : i32 (M i j) → J E X (pc + 1) L (vI (M i j) :: st) K M a b) : J E X pc L (vI j :: .ref i :: st) K M a b := by
  obtain ⟨p, l, e, R, s, m, args, below, meth, c, Q, nL, K0, ad0⟩ := X
  intro ad H locs ls hR he hs hv
  have hk0 : K i ≠ 0 := by omega
  have hr : i32 (M i j) := rg_i (by have := hR.2.2.2.2 i j hk0; rwa [hK] at this) (by omega) (by omega) (by omega)
  have hat := hR.1 i hk0
  rw [hK, ce_arr] at hat
  have hP : va_P E.1 vwCl [(ad i, .inl (E.2.1.1, n, .inl (fun j => Int32.ofInt (M i j))))] H := fun j q hq => by
    cases j with
    | zero => cases hq; exact hat
    | succ j => cases hq
  refine va_iald hX.1 hX.2.1 hX.2.2.2.2.2.2.1 hP 0 0 rfl tys_0 (oi_in hj.1 hj.2 (by omega)) hd ?_
  rw [oi_cl (by omega), oi_cast hj.1]
  exact k1 hr ad H locs ls hR he hs hv
theorem J_iast (hX : XO E X cc own nl d c0 s0) {n i : Nat} {j x : Int} (hd : decode cc pc = .ok (.iastore, 1)) (hK : K i = 1000 + n) (hj : 0 ≤ j ∧ j < n) (hn : n < 1000000) (hx : i32 x) (k1 : J E X (pc + 1) L st K (mset M i j x) a b) : J E X pc L (vI x :: vI j :: .ref i :: st) K M a b := by
  obtain ⟨p, l, e, R, s, m, args, below, meth, c, Q, nL, K0, ad0⟩ := X
  intro ad H locs ls hR he hs hv
  have hk0 : K i ≠ 0 := by omega
  have hat := hR.1 i hk0
  rw [hK, ce_arr] at hat
  have hin := oi_in (n := n) hj.1 hj.2 (by omega)
  refine W.iast hX.1 hX.2.1 (a := ad i) (cell := arrV E.2.1.1 n (fun j => .int (Int32.ofInt (M i j)))) (x := Int32.ofInt x) (j := Int32.ofInt j) hat ((hX.2.2.2.2.2.2.1.2 0 _ tys_0).1 n _) (fun q => by cases q) (by rw [arrV_size]; exact hin) rfl rfl hd fun H2 e1 z oq => ?_
  refine k1 ad H2 _ ls (Rep_set hR hk0 ?_ z oq (fun i2 h => mset_ne h) (mset_rg (fun j2 => hR.2.2.2.2 i j2 hk0) (Or.inr hx))) he ?_ hv
  · rw [hK, ce_arr]
    show H2[ad i]? = some (vp_cell _ _)
    rw [e1, vp_cell_i, arrV_store, oi_cl (by omega)]
    congr 2
    funext q
    unfold updV mset
    by_cases hq : q = j.toNat
    · rw [if_pos hq, if_pos ⟨rfl, by omega⟩]
    · rw [if_neg hq, if_neg (by omega)]
  · intro z hz
    rcases List.mem_append.mp hz with h | h
    · exact hs z h
    · rw [List.mem_singleton.mp h]; exact hR.2.2.1 i hk0
theorem J_alen (hX : XO E X cc own nl d c0 s0) {n i : Nat} (hd : decode cc pc = .ok (.arraylength, 1)) (hK : K i = 1000 + n) (k1 : J E X (pc + 1) L (vI n :: st) K M a b) : J E X pc L (.ref i :: st) K M a b := by
  obtain ⟨p, l, e, R, s, m, args, below, meth, c, Q, nL, K0, ad0⟩ := X
  intro ad H locs ls hR he hs hv
  have hk0 : K i ≠ 0 := by omega
  have hat := hR.1 i hk0
  rw [hK, ce_arr] at hat
  have hP : va_P E.1 vwCl [(ad i, .inl (E.2.1.1, n, .inl (fun j => Int32.ofInt (M i j))))] H := fun j q hq => by
    cases j with
    | zero => cases hq; exact hat
    | succ j => cases hq
  exact va_alen hX.1 hX.2.1 hX.2.2.2.2.2.2.1 hP 0 0 rfl tys_0 (v := Int32.ofInt n) Int32.ofInt_eq_ofNat.symm hd (k1 ad H locs ls hR he hs hv)
end RULES
