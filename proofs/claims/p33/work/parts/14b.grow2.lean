/-! objects in the making, calls that make ids -/
def XN (X : JX) : String := match X with | (_, _, _, _, _, _, _, _, meth, _, _, _, _, _) => meth.name
/-- a final field of the class of kind k that its constructor sets -/
def FP (own : String) (idx k f o : Nat) : Prop := FR own idx k f o ∧ ∀ (C : String) (T : u_T) (N : Nat), vwCl[k - 1]? = some (C, T, N) → (T f).2.2.2 = true ∧ (T f).1 = own ∧ ∃ ty, parseFieldDescriptor (T f).2.2.1 = some ty ∧ ∀ a : Nat, narrow ty (.ref a) = .ref a ∧ fits ty (.ref a) = true
theorem ce_raw {E : EE} {ad : Nat → Nat} {k i : Nat} {M : MM} (hk : 0 < k ∧ k < 10) : ce E ad (100 + k) i M = .inr (k - 1, (List.range (nf k)).map (fun f => fvr E ad k i f M)) := by
  unfold ce
  rw [if_neg (by omega), if_neg (by omega), if_neg (by omega), if_neg (by omega), if_pos (by omega), show 100 + k - 101 = k - 1 by omega, show 100 + k - 100 = k by omega]
theorem Cl_same {K : Nat → Nat} {M M2 : MM} (h : Cl K M) (hM : ∀ i, K i ≠ 0 → K i < 10 ∨ 1000 ≤ K i ∨ M2 i = M i) : Cl K M2 := by
  intro i hi
  obtain ⟨c1, c2, c3⟩ := h i hi
  refine ⟨c1, fun h1 j h2 => ?_, fun f o h1 h2 h3 h4 h5 => ?_⟩
  · rcases hM i hi with q | q | q
    · omega
    · omega
    · rw [q] at h2 ⊢; exact c2 h1 j h2
  · rcases hM i hi with q | q | q
    · omega
    · omega
    · rw [q] at h5; exact c3 f o h1 h2 h3 h4 h5
theorem Cl_put {K : Nat → Nat} {M : MM} {i f o k : Nat} {x : Int} (h : Cl K M) (hK : K i = 100 + k) (hk : 0 < k ∧ k < 10) (hr : ro k f = some o) (hl : K (i + o) ≠ 0) : Cl K (mset M i (100 + (f : Int)) x) := by
  intro j hj
  obtain ⟨c1, c2, c3⟩ := h j hj
  by_cases e : j = i
  · subst e
    refine ⟨c1, fun h1 => by omega, fun f2 o2 h1 h2 h3 h4 h5 => ?_⟩
    by_cases e2 : f2 = f
    · subst e2
      rw [hK, show 100 + k - 100 = k by omega, hr] at h4
      cases h4; exact hl
    · rw [mset_nj (by omega)] at h5
      exact c3 f2 o2 h1 h2 h3 h4 h5
  · rw [mset_ne e]; exact ⟨c1, c2, c3⟩
theorem Cl_puti {K : Nat → Nat} {M : MM} {i : Nat} {j x : Int} (h : Cl K M) (hK : K i ≠ 10) (hj : j < 100) : Cl K (mset M i j x) := by
  intro n hn
  obtain ⟨c1, c2, c3⟩ := h n hn
  by_cases e : n = i
  · subst e
    exact ⟨c1, fun q => absurd q hK, fun f o h1 h2 h3 h4 h5 => c3 f o h1 h2 h3 h4 (by rwa [mset_nj (by omega)] at h5)⟩
  · rw [mset_ne e]; exact ⟨c1, c2, c3⟩
theorem Cl_seal {K : Nat → Nat} {M : MM} {i k : Nat} (h : Cl K M) (hK : K i = 100 + k) (hk : 0 < k ∧ k < 10) (hf : ∀ f o, f < nf k → ro k f = some o → M i (100 + (f : Int)) ≠ 0) : Cl (upK K i k) M := by
  have up : ∀ n, K n ≠ 0 → upK K i k n ≠ 0 := fun n hn => by
    by_cases e : n = i
    · rw [e, upK_eq]; omega
    · rw [upK_ne e]; exact hn
  intro j hj
  by_cases e : j = i
  · subst e
    rw [upK_eq]
    obtain ⟨c1, c2, c3⟩ := h j (by omega)
    refine ⟨fun f o h1 h2 h3 => up _ (c3 f o (by omega) (by omega) (by rw [hK, show 100 + k - 100 = k by omega]; exact h2) (by rw [hK, show 100 + k - 100 = k by omega]; exact h3) (hf f o h2 h3)), fun q => by omega, fun f o h1 => by omega⟩
  · rw [upK_ne e] at hj ⊢
    obtain ⟨c1, c2, c3⟩ := h j hj
    exact ⟨fun f o h1 h2 h3 => up _ (c1 f o h1 h2 h3), fun h1 j2 h2 => up _ (c2 h1 j2 h2), fun f o h1 h2 h3 h4 h5 => up _ (c3 f o h1 h2 h3 h4 h5)⟩
section RULES
variable {E : EE} {X : JX} {cc : ByteArray} {own : String} {nl d c0 s0 : Nat} {pc : Nat} {L : List (Nat × Value)} {st : List Value} {K : Nat → Nat} {M : MM} {a b : Nat}
theorem raw_list {ad : Nat → Nat} {k i f : Nat} {j x : Int} (hf : f < nf k) (v : Value) (h1 : fvr E ad k i f (mset M i j x) = v) (h2 : ∀ f2, f2 < nf k → f2 ≠ f → fvr E ad k i f2 (mset M i j x) = fvr E ad k i f2 M) : ((List.range (nf k)).map (fun f => fvr E ad k i f M)).set f v = (List.range (nf k)).map (fun f => fvr E ad k i f (mset M i j x)) := by
  have e6 := List_map_set (N := nf k) (f := f) (g := fun f => fvr E ad k i f M) (g2 := fun f => fvr E ad k i f (mset M i j x)) (fun j3 hj3 hne => h2 j3 hj3 hne) hf
  simp only [h1] at e6
  exact e6
/-- a constructor sets a structural field -/
theorem J_putR (hX : XO E X cc own nl d c0 s0) {idx k f o i : Nat} (i2 : Nat) (hF : FP own idx k f o) (hd : decode cc pc = .ok (.putfield idx, 3)) (hN : XN X = "<init>") (hK : K i = 100 + k) (hi2 : i + o = i2) (hl : K i2 ≠ 0) (hC : Cl K M)
    (k1 : ∀ M2, M2 = mset M i (100 + (f : Int)) 1 → Cl K M2 → J E X (pc + 3) L st K M2 a b) : J E X pc L (.ref i2 :: .ref i :: st) K M a b := by
  subst hi2
  obtain ⟨p, l, e, R, s, m, args, below, meth, c, Q, nL, K0, ad0⟩ := X
  intro ad H locs ls hR he hs hv
  obtain ⟨hx0, hb, hml, hown, hts, hroom, hKK, -⟩ := hX
  obtain ⟨⟨⟨C, T, N, ty0, h1, hk, hf, hNf, hin, hlink, hty0, hnm⟩, hro⟩, hw⟩ := hF
  obtain ⟨hfin, hdecl, ty, hpd, hnf⟩ := hw C T N h1
  have hk0 : K i ≠ 0 := by omega
  have hat := hR.1 i hk0
  rw [hK, ce_raw hk] at hat
  obtain ⟨r, g1, cell, q1, q2, q3, q4⟩ := hat
  have hr : r = (C, T, N) := Option.some.inj (g1.symm.trans h1)
  subst hr
  have hap := va_apart (own := own) hts hin ty0 hty0 hnm hKK h1
  obtain ⟨hS, hfc, kC, hkC, hkind⟩ := hKK.1 (k - 1) _ h1
  obtain ⟨cf, kf, fi, fd, hi, hsl⟩ := hS f hf
  have hlay := hts _ (hin _ (u_in_lay hf))
  unfold u_lay at hlay
  rw [if_pos hfin] at hlay
  have hst := (u_facts hfc hkC (u_lays hts hin hf) hi).1
  have hcf : m.cls = cf := by
    obtain ⟨_, _, c', _, _, _, -, -, hf', -, -, -, hown2, -⟩ := Cond.laysFinal_spec hlay
    have e1 : c' = cf := by have := hi.symm.trans hf'; simp at this; exact this.1.symm
    rw [hdecl] at hown2
    rw [← e1]; exact Option.some.inj (hown.symm.trans hown2)
  have h24 : nf k ≤ 24 := by
    have : ∀ k : Nat, k < 10 → nf k ≤ 24 := by decide
    exact this k hk.2
  have h6 := u_fits hfc hkC hkind (Or.inr hlay) hi hpd (hnf (ad (i + o))).1 (hnf (ad (i + o))).2
  refine W.putFinK hx0 hb hown (hts _ hlink) hi hst hcf hN (by rw [q2]; exact h6) q1 q3 (by rw [hsl]; exact k2_hasslot (q4 f hf)) rfl rfl hd fun H2 e1 e2 e3 => ?_
  rw [hsl] at e1 ⊢
  refine k1 _ rfl (Cl_put hC hK hk hro hl) ad H2 _ ls (Rep_set hR hk0 ?_ e2 e3 (fun i2 h => mset_ne h) ?_) he ?_ hv
  · rw [hK, ce_raw hk]
    refine ⟨_, h1, t_OB.to (V := updV (vp_V ((List.range (nf k)).map (fun f => fvr E ad k i f M))) f (.ref (ad (i + o)))) ⟨_, e1, q2, q3, t_set q4 hap hf (.ref (ad (i + o)))⟩ (fun j2 _ => ?_)⟩
    have hlen : f < ((List.range (nf k)).map (fun f => fvr E ad k i f M)).length := by simp; omega
    rw [vp_updV_set hlen _ j2, raw_list (by omega) (.ref (ad (i + o))) ?_ ?_]
    · unfold fvr; rw [hro]; simp only; rw [mset_eq, if_neg (by decide)]
    · intro f2 hf2 hne
      unfold fvr fv
      cases ro k f2 with
      | some o2 => dsimp only; rw [mset_nj (by omega)]
      | none =>
        dsimp only
        rw [mset_nj (j2 := (f2 : Int)) (by omega)]
        by_cases h44 : k = 4 ∧ f2 = 4
        · rw [mset_nj (j2 := 4) (by omega)]
        · rw [if_neg h44, if_neg h44]
  · exact mset_rg (fun j2 => hR.2.2.2.2 i j2 hk0) (Or.inr (by omega))
  · intro z hz
    rcases List.mem_append.mp hz with h | h
    · exact hs z h
    · rw [List.mem_singleton.mp h]; exact hR.2.2.1 i hk0
/-- .. or sets a number -/
theorem J_putq (hX : XO E X cc own nl d c0 s0) {idx k f i : Nat} {j x : Int} {ty : FieldType} (hF : FW own idx k f j ty) (hd : decode cc pc = .ok (.putfield idx, 3)) (hK : K i = 100 + k) (hx : i32 x) (hty : ty = .int ∨ ty = .boolean ∧ (x = 0 ∨ x = 1)) (hC : Cl K M)
    (k1 : ∀ M2, M2 = mset M i j x → Cl K M2 → J E X (pc + 3) L st K M2 a b) : J E X pc L (vI x :: .ref i :: st) K M a b := by
  obtain ⟨p, l, e, R, s, m, args, below, meth, c, Q, nL, K0, ad0⟩ := X
  intro ad H locs ls hR he hs hv
  obtain ⟨hx0, hb, hml, hown, hts, hroom, hKK, -⟩ := hX
  obtain ⟨⟨⟨C, T, N, ty0, h1, hk, hf, hN, hin, hlink, hty0, hnm⟩, hro, hn9, hn4, hj⟩, hw⟩ := hF
  obtain ⟨hfin, hpd⟩ := hw C T N h1
  have hk0 : K i ≠ 0 := by omega
  have hat := hR.1 i hk0
  rw [hK, ce_raw hk] at hat
  obtain ⟨r, g1, cell, q1, q2, q3, q4⟩ := hat
  have hr : r = (C, T, N) := Option.some.inj (g1.symm.trans h1)
  subst hr
  have hap := va_apart (own := own) hts hin ty0 hty0 hnm hKK h1
  obtain ⟨hS, hfc, kC, hkC, hkind⟩ := hKK.1 (k - 1) _ h1
  obtain ⟨cf, kf, fi, fd, hi, hsl⟩ := hS f hf
  have hlay := hts _ (hin _ (u_in_lay hf))
  unfold u_lay at hlay
  rw [if_neg (by rw [hfin]; decide)] at hlay
  have hst := (u_facts hfc hkC (u_lays hts hin hf) hi).1
  have hnar : narrow ty (vI x) = vI x ∧ fits ty (vI x) = true := by
    rcases hty with rfl | ⟨rfl, rfl | rfl⟩
    · exact ⟨rfl, rfl⟩
    · exact ⟨rfl, rfl⟩
    · exact ⟨rfl, rfl⟩
  have h6 := u_store hfc hkC hkind hlay hi hpd hnar.1 hnar.2
  have h24 : nf k ≤ 24 := by
    have : ∀ k : Nat, k < 10 → nf k ≤ 24 := by decide
    exact this k hk.2
  refine W.putK hx0 hb (f := fd) (v := vI x) ⟨hown, hts _ hlink, ⟨_, _, _, hi⟩, hst⟩ (by rw [q2]; exact h6) q1 q3 (by rw [hsl]; exact k2_hasslot (q4 f hf)) rfl rfl hd fun H2 e1 e2 e3 => ?_
  rw [hsl] at e1 ⊢
  refine k1 _ rfl (Cl_puti hC (by omega) (by omega)) ad H2 _ ls (Rep_set hR hk0 ?_ e2 e3 (fun i2 h => mset_ne h) ?_) he ?_ hv
  · rw [hK, ce_raw hk]
    refine ⟨_, h1, t_OB.to (V := updV (vp_V ((List.range (nf k)).map (fun f => fvr E ad k i f M))) f (vI x)) ⟨_, e1, q2, q3, t_set q4 hap hf (vI x)⟩ (fun j2 _ => ?_)⟩
    have hl : f < ((List.range (nf k)).map (fun f => fvr E ad k i f M)).length := by simp; omega
    rw [vp_updV_set hl (vI x) j2, raw_list (by omega) (vI x) ?_ ?_]
    · unfold fvr fv; rw [hro]; simp only
      rw [if_neg hn9, if_neg hn4, hj, mset_eq]
    · intro f2 hf2 hne
      unfold fvr fv
      cases ro k f2 with
      | some o2 => dsimp only; rw [mset_nj (by omega)]
      | none =>
        dsimp only
        rw [mset_nj (j2 := (f2 : Int)) (by omega)]
        by_cases h44 : k = 4 ∧ f2 = 4
        · rw [mset_nj (j2 := 4) (by omega)]
        · rw [if_neg h44, if_neg h44]
  · refine mset_rg (fun j2 => hR.2.2.2.2 i j2 hk0) (Or.inr hx)
  · intro z hz
    rcases List.mem_append.mp hz with h | h
    · exact hs z h
    · rw [List.mem_singleton.mp h]; exact hR.2.2.1 i hk0
/-- .. or looks at one that it has set -/
theorem J_getq (hX : XO E X cc own nl d c0 s0) {idx k f o i : Nat} (i2 : Nat) (hF : FR own idx k f o) (hd : decode cc pc = .ok (.getfield idx, 3)) (hK : K i = 100 + k) (hi : i + o = i2) (hfl : M i (100 + (f : Int)) ≠ 0) (k1 : J E X (pc + 3) L (.ref i2 :: st) K M a b) : J E X pc L (.ref i :: st) K M a b := by
  subst hi
  obtain ⟨p, l, e, R, s, m, args, below, meth, c, Q, nL, K0, ad0⟩ := X
  intro ad H locs ls hR he hs hv
  obtain ⟨⟨C, T, N, ty0, h1, hk, hf, hN, hin, hlink, -, -⟩, hro⟩ := hF
  have hat := hR.1 i (by omega)
  rw [hK, ce_raw hk] at hat
  have hP : va_P E.1 vwCl [(ad i, .inr (k - 1, (List.range (nf k)).map (fun f => fvr E ad k i f M)))] H := fun j q hq => by
    cases j with
    | zero => cases hq; exact hat
    | succ j => cases hq
  have e1 : fvr E ad k i f M = .ref (ad (i + o)) := by unfold fvr; rw [hro]; simp only; rw [if_neg hfl]
  exact va_get (ws := [(ad i, .inr (k - 1, (List.range (nf k)).map (fun f => fvr E ad k i f M)))]) hX.1 hX.2.1 hX.2.2.2.2.1 hin hX.2.2.2.1 hX.2.2.2.2.2.2.1 hP 0 rfl h1 f hf (hX.2.2.2.2.1 _ hlink) (fun _ h => h) (v := .ref (ad (i + o))) (by rw [List.getElem?_map, List.getElem?_range (by omega)]; exact congrArg some e1) hd (k1 ad H locs ls hR he hs hv)
/-- an object is made -/
theorem J_seal {i k : Nat} (hK : K i = 100 + k) (hk : 0 < k ∧ k < 10) (h0 : XK X i ≠ k) (hC : Cl K M) (hf : ∀ f o, f < nf k → ro k f = some o → M i (100 + (f : Int)) ≠ 0) (k1 : ∀ K2, K2 = upK K i k → Cl K2 M → J E X pc L st K2 M a b) : J E X pc L st K M a b := by
  obtain ⟨p, l, e, R, s, m, args, below, meth, c, Q, nL, K0, ad0⟩ := X
  intro ad H locs ls hR he hs hv
  obtain ⟨r1, r2, r3, r4, r6⟩ := hR
  have h0 : K0 i ≠ k := h0
  have dn : ∀ n, upK K i k n ≠ 0 → K n ≠ 0 := fun n hn => by
    by_cases e : n = i
    · rw [e]; omega
    · rwa [upK_ne e] at hn
  refine k1 _ rfl (Cl_seal hC hK hk hf) ad H locs ls ⟨fun j hj => ?_, fun j j2 hj hj2 e => r2 j j2 (dn j hj) (dn j2 hj2) e, fun j hj => r3 j (dn j hj), r4, fun j x hj => ?_⟩ ⟨he.1, fun e => ?_⟩ hs hv
  · by_cases e : j = i
    · subst e
      have q := r1 j (by omega)
      rw [hK, ce_raw hk] at q
      rw [upK_eq, ce_obj hk.2]
      have : (List.range (nf k)).map (fun f => fv E ad k j f M) = (List.range (nf k)).map (fun f => fvr E ad k j f M) := by
        apply List.map_congr_left
        intro f hm
        unfold fvr
        cases hr : ro k f with
        | some o => dsimp only; rw [if_neg (hf f o (List.mem_range.mp hm) hr)]; unfold fv; rw [hr]
        | none => rfl
      rw [this]; exact q
    · rw [upK_ne e] at hj ⊢; exact r1 j hj
  · by_cases e : j = i
    · subst e
      have q := r6 j x (by omega)
      rw [hK] at q
      exact Or.inr (rg_i q (by omega) (by omega) (by omega))
    · rw [upK_ne e] at hj ⊢; exact r6 j x hj
  · have := congrFun e i
    rw [upK_eq] at this; exact absurd this.symm h0
theorem J_init0 (hX : XO E X cc own nl d c0 s0) {idx i : Nat} (hd : decode cc pc = .ok (.invokespecial idx, 3)) (hw : Cond.methodLink own idx objectInit ∈ tb) (hdp : 1 ≤ d) (hst : (st.map fun v => v.category).sum ≤ 8) (k1 : J E X (pc + 3) L st K M a b) : J E X pc L (.ref i :: st) K M a b := by
  obtain ⟨p, l, e, R, s, m, args, below, meth, c, Q, nL, K0, ad0⟩ := X
  intro ad H locs ls hR he hs hv
  obtain ⟨hx, hb, ⟨hml, hnl⟩, hown, hts, hroom, hKF⟩ := hX
  exact W.objInit hx hb hown (hts _ hw) (hts _ im_obj) (hts _ co_obj) rfl (hv.1.trans hml.symm) rfl hd (by omega) (by
    show 2 * 0 + ((st.map (cv ad)).map fun v => v.category).sum + 12 ≤ _
    rw [cv_cats]; omega) (k1 ad H locs ls hR he hs hv)
theorem J_runK {rest : List Value} {post : Option Value → (Nat → Nat) → MM → Prop} {mc ms : Nat} {x : List Value}
    (hr : ∀ (ad : Nat → Nat) (H : Heap) (locs : List Loc) (ls : Array Slot), match X with | (p, l, e, R, s, m, args, below, meth, c, Q, nL, K0, ad0) => Rep E ad K M H → ls.size = nL → va_Run p l e R s m args below meth c H locs a b mc ms (F0 m pc ls (st.map (cv ad))) (rest.map (cv ad)) (CQ E ad K post (x.map (cv ad)).toArray) (fun q => sz0 E ≤ q))
    (hg : XK X = K ∨ ((∀ i, XK X i ≠ 0 → K i ≠ 0) ∧ ∃ i, K i ≠ 0 ∧ XK X i = 0)) (hL : lvs K (L.map (fun q => q.2))) (hrest : lvs K rest)
    (hpost : ∀ r K' M', post r K' M' → ∀ i, K i ≠ 0 → K' i ≠ 0) (k1 : ∀ r K' M', post r K' M' → J E X (pc + 3) L (r.toList ++ rest) K' M' (a + mc) (b + ms)) : J E X pc L st K M a b := by
  obtain ⟨p, l, e, R, s, m, args, below, meth, c, Q, nL, K0, ad0⟩ := X
  intro ad H locs ls hR he hs hv T hT S
  obtain ⟨v, st₀, t, T', L', h0, S', hL', e1, e2, ⟨r, K', M', ad', g1, g2, g3, g4⟩, go⟩ := hr ad H locs ls hR hv.1 T hT S
  cases g1
  have hg' : K0 = K ∨ ((∀ i, K0 i ≠ 0 → K i ≠ 0) ∧ ∃ i, K i ≠ 0 ∧ K0 i = 0) := hg
  have he' : adE K0 ad0 K' ad' := by
    refine ⟨fun i hi => ?_, fun e => ?_⟩
    · have hi' : K i ≠ 0 := by
        rcases hg' with q | q
        · rw [← q]; exact hi
        · exact q.1 i hi
      rw [g4.1 i hi', he.1 i hi]
    · rcases hg' with q | ⟨-, i, q1, q2⟩
      · rw [g4.2 (by rw [e, q]), he.2 q.symm]
      · have := hpost _ _ _ g2 i q1
        rw [e] at this; exact absurd q2 this
  obtain ⟨t2, a1, b1⟩ := k1 r K' M' g2 ad' T'.heap (locs ++ L') ls (by rw [e1]; exact g3) he' (fun z hz => by
    rcases List.mem_append.mp hz with h | h
    · exact hs z h
    · exact hL' z h) (by rw [mlv_keep g4.1 L hL]; exact hv) T' rfl S'
  refine ⟨t2, go t2 ?_, b1⟩
  have e5 : (r.map (cv ad')).toList ++ rest.map (cv ad) = (r.toList ++ rest).map (cv ad') := by
    rw [← cv_keep g4.1 rest hrest]; cases r <;> simp
  show Steps _ _ _ (T'.setTop { F0 m pc ls (st.map (cv ad)) with pc := pc + 3, stack := (r.map (cv ad')).toList ++ rest.map (cv ad) }) t2
  rw [e5]
  exact a1
end RULES
