/-! the law's own walk: judged with the reserved ids alone -/
def JP (E : EE) (X : JX) (pc : Nat) (L : List (Nat × Value)) (st : List Value) (K : Nat → Nat) (M : MM) (a b : Nat) : Prop := match X with
  | (p, l, e, R, s, m, args, below, meth, c, Q, nL, K0, ad0) => ∀ (ad : Nat → Nat) (H : Heap) (locs : List Loc) (ls : Array Slot), PN E ad → Rep E ad K M H → (∀ z ∈ locs, sz0 E ≤ z.base) → lv_has ls nL (mlv ad L) →
    W p l e R s m args below meth c H locs a b Q (F0 m pc ls (st.map (cv ad)))
def rbX (X : JX) (K ad : Nat → Nat) : JX := match X with
  | (p, l, e, R, s, m, args, below, meth, c, Q, nL, K0, ad0) => (p, l, e, R, s, m, args, below, meth, c, Q, nL, K, ad)
def XL (X : JX) : Prop := match X with
  | (p, l, e, R, s, m, args, below, meth, c, Q, nL, K0, ad0) => l.stackTraces = false
/-- whatever is judged of X is judged of X2 -/
def SmX (E : EE) (X X2 : JX) : Prop := ∀ pc L st K M a b, JP E X pc L st K M a b → JP E X2 pc L st K M a b
def pinK (K : Nat → Nat) : Nat → Nat := fun i => if 1000000 ≤ i then 1 else K i
def CWH (own : String) (idx : Nat) (y : MethodName) (cy : ByteArray) (ny : Nat) (rety : Option FieldType) (hh : List (Nat × Nat × Nat × Nat)) (n : Nat) : Prop := Cond.methodLink own idx y ∈ tb ∧ Cond.static y ∈ tb ∧ Cond.initialized y.cls ∈ tb ∧ Cond.codeWith y cy ny rety hh ∈ tb ∧
  (y.cls ≠ "java/lang/invoke/MethodHandle" ∧ y.cls ≠ "java/lang/invoke/VarHandle" ∧ (parseMethodDescriptor y.desc).map (fun d => d.parameters.length) = some n)
section RULES
variable {E : EE} {X : JX} {cc : ByteArray} {own : String} {nl d c0 s0 : Nat} {pc : Nat} {L : List (Nat × Value)} {st : List Value} {K : Nat → Nat} {M : MM} {a b : Nat}
theorem J_JP (hP : XP E X) (hXK : XK X = K) (k : JP E X pc L st K M a b) : J E X pc L st K M a b := by
  obtain ⟨p, l, e, R, s, m, args, below, meth, c, Q, nL, K0, ad0⟩ := X
  intro ad H locs ls hR he hs hv
  have hKe : K0 = K := hXK
  obtain rfl : ad = ad0 := he.2 hKe.symm
  exact k ad H locs ls hP hR hs hv
/-- from a point of the law: in, with the ids as they now are -/
theorem JP_in (hX : XO E X cc own nl d c0 s0) (hl : XL X) (k : ∀ X2, XO E X2 cc own nl d c0 s0 → XL X2 → XP E X2 → XK X2 = K → SmX E X X2 → J E X2 pc L st K M a b) : JP E X pc L st K M a b := by
  obtain ⟨p, l, e, R, s, m, args, below, meth, c, Q, nL, K0, ad0⟩ := X
  intro ad H locs ls hp hR hs hv
  exact k (p, l, e, R, s, m, args, below, meth, c, Q, nL, K, ad) hX hl hp rfl (fun _ _ _ _ _ _ _ h => h) ad H locs ls hR ⟨fun _ _ => rfl, fun _ => rfl⟩ hs hv
theorem J_runP (hP : XP E X) (hXK : XK X = K) {rest : List Value} {post : Option Value → (Nat → Nat) → MM → Prop} {mc ms : Nat} {x : List Value}
    (hr : ∀ (ad : Nat → Nat) (H : Heap) (locs : List Loc) (ls : Array Slot), match X with | (p, l, e, R, s, m, args, below, meth, c, Q, nL, K0, ad0) => Rep E ad K M H → ls.size = nL → va_Run p l e R s m args below meth c H locs a b mc ms (F0 m pc ls (st.map (cv ad))) (rest.map (cv ad)) (CQ E ad K post (x.map (cv ad)).toArray) (fun q => sz0 E ≤ q))
    (hL : lvs (pinK K) (L.map (fun q => q.2))) (hrest : lvs (pinK K) rest)
    (hpost : ∀ r K' M', post r K' M' → Cl K' M' ∧ (∀ i, 1000000 ≤ i → K' i = 0) ∧ ∀ v ∈ r.toList, ∀ ad1 ad2 : Nat → Nat, cv ad1 v = cv ad2 v) (k1 : ∀ r K' M', post r K' M' → JP E X (pc + 3) L (r.toList ++ rest) K' M' (a + mc) (b + ms)) : J E X pc L st K M a b := by
  obtain ⟨p, l, e, R, s, m, args, below, meth, c, Q, nL, K0, ad0⟩ := X
  intro ad H locs ls hR he hs hv T hT S
  have hKe : K0 = K := hXK
  obtain rfl : ad = ad0 := he.2 hKe.symm
  obtain ⟨v, st₀, t, T', L', h0, S', hL', e1, e2, ⟨r, K', M', ad', g1, g2, g3, g4⟩, go⟩ := hr ad H locs ls hR hv.1 T hT S
  cases g1
  obtain ⟨q1, q2, q3⟩ := hpost r K' M' g2
  have hPN : PN E ad := hP
  let ad2 : Nat → Nat := fun i => if 1000000 ≤ i then ad i else ad' i
  have k2 : ∀ i, pinK K i ≠ 0 → ad2 i = ad i := fun i hi => by
    show (if 1000000 ≤ i then ad i else ad' i) = _
    by_cases e : 1000000 ≤ i
    · rw [if_pos e]
    · rw [if_neg e]; unfold pinK at hi; rw [if_neg e] at hi; exact g4.1 i hi
  have k3 : ∀ i, K' i ≠ 0 → ad2 i = ad' i := fun i hi => if_neg (fun e => hi (q2 i e))
  have k4 : PN E ad2 := fun k => (if_pos (by omega)).trans (hPN k)
  obtain ⟨t2, a1, b1⟩ := k1 r K' M' g2 ad2 T'.heap (locs ++ L') ls k4 (Rep_ad q1 k3 (by rw [e1]; exact g3)) (fun z hz => by
    rcases List.mem_append.mp hz with h | h
    · exact hs z h
    · exact hL' z h) (by rw [mlv_keep k2 L hL]; exact hv) T' rfl S'
  refine ⟨t2, go t2 ?_, b1⟩
  have e5 : (r.map (cv ad')).toList ++ rest.map (cv ad) = (r.toList ++ rest).map (cv ad2) := by
    rw [List.map_append, cv_keep k2 rest hrest]
    congr 1
    cases r with
    | none => rfl
    | some v =>
      show [cv ad' v] = [cv ad2 v]
      rw [q3 v (by simp) ad' ad2]
  show Steps _ _ _ (T'.setTop { F0 m pc ls (st.map (cv ad)) with pc := pc + 3, stack := (r.map (cv ad')).toList ++ rest.map (cv ad) }) t2
  rw [e5]
  exact a1
/-- a call of one of the law's methods with a table -/
theorem J_callHP (hX : XO E X cc own nl d c0 s0) (hl0 : XL X) (hP : XP E X) (hXK : XK X = K) {idx dy ny mc ms : Nat} {y : MethodName} {cy : ByteArray} {rety : Option FieldType} {hh : List (Nat × Nat × Nat × Nat)} {As : List Value} (rest : List Value) {post : Option Value → (Nat → Nat) → MM → Prop} (hd : decode cc pc = .ok (.invokestatic idx, 3)) (hw : CWH own idx y cy ny rety hh As.length) (hc : CnH E dy y cy ny rety hh As K M post mc ms)
    (hst : st = As.reverse ++ rest) (hcat : (rest.map fun v => v.category).sum ≤ 8) (hdp : dy + 1 ≤ d ∧ ny ≤ 18) (hcs : a + mc ≤ c0 ∧ b + ms ≤ s0) (hL : lvs (pinK K) (L.map (fun q => q.2))) (hrest : lvs (pinK K) rest)
    (hpost : ∀ r K' M', post r K' M' → Cl K' M' ∧ (∀ i, 1000000 ≤ i → K' i = 0) ∧ ∀ v ∈ r.toList, ∀ ad1 ad2 : Nat → Nat, cv ad1 v = cv ad2 v) (k1 : ∀ r K' M', post r K' M' → JP E X (pc + 3) L (r.toList ++ rest) K' M' (a + mc) (b + ms)) : J E X pc L st K M a b := by
  obtain ⟨p, l, e, R, s, m, args, below, meth, c, Q, nL, K0, ad0⟩ := X
  refine J_runP hP hXK (x := As) (rest := rest) (fun ad H locs ls hR hsz => ?_) hL hrest hpost k1
  obtain ⟨hx, hb, ⟨hml, hnl⟩, hown, hts, hroom, hKF⟩ := hX
  obtain ⟨w1, w2, w4, w5, w6⟩ := hw
  have hT : GoodIn tb (va_wsS own idx y (Cond.codeWith y cy ny rety hh :: tb)) := by
    refine goodIn_tb fun w h => ?_
    rcases List.mem_append.mp h with h | h
    · simp only [List.mem_cons, List.not_mem_nil, or_false] at h
      rcases h with rfl | rfl | rfl <;> assumption
    · rcases List.mem_cons.mp h with rfl | h
      · exact w5
      · exact h
  have hl := hc l ad hl0
  have hrun := vx_runSW (hh := hh) (R := R) (H := H) (locs := locs) (cells := a) (slots := b) (meth := meth) (below := below) (e := e) (rest := rest.map (cv ad)) (g := F0 m pc ls (st.map (cv ad))) (As := As.map (cv ad)) (Ts := tb) (nL := nL) ⟨hx, hb, hml, hown, hts⟩ hl
    (vx_cwSW (ws' := tb) As.length hts hT rfl rfl rfl w6 ⟨by show dy + 1 ≤ R.frames; omega, by show 8 + (ny + 11) + 37 * dy ≤ R.locals; omega⟩)
    ⟨blindC, fun U hU hW => ⟨rfl, by rw [hU]; exact hR, KF_warm hW hKF⟩⟩ rfl (by simp) hsz (by rw [hst]; simp [List.map_reverse]) (lv_room (by rw [cv_cats]; exact hcat)) hd ⟨by omega, by omega⟩
  exact hrun
/-- .. of a method that may make ids -/
theorem J_callVKP (hX : XO E X cc own nl d c0 s0) (hP : XP E X) (hXK : XK X = K) {idx i k dy ny mc ms : Nat} {y : MethodName} {cy : ByteArray} {rety : Option FieldType} {As : List Value} (rest : List Value) {post : Option Value → (Nat → Nat) → MM → Prop} (hd : decode cc pc = .ok (.invokevirtual idx, 3)) (hw : CWV own idx y cy ny rety As.length) (hc : Cn E dy y cy ny rety (.ref i :: As) K M post mc ms)
    (hk : K i = k ∧ 0 < k ∧ k < 10 ∧ (vwCl[k - 1]?).map (fun q => q.1) = some y.cls) (hst : st = As.reverse ++ .ref i :: rest) (hcat : (rest.map fun v => v.category).sum ≤ 8) (hdp : dy + 1 ≤ d ∧ ny ≤ 18) (hcs : a + mc ≤ c0 ∧ b + ms ≤ s0)
    (hL : lvs (pinK K) (L.map (fun q => q.2))) (hrest : lvs (pinK K) rest)
    (hpost : ∀ r K' M', post r K' M' → Cl K' M' ∧ (∀ i, 1000000 ≤ i → K' i = 0) ∧ ∀ v ∈ r.toList, ∀ ad1 ad2 : Nat → Nat, cv ad1 v = cv ad2 v) (k1 : ∀ r K' M', post r K' M' → JP E X (pc + 3) L (r.toList ++ rest) K' M' (a + mc) (b + ms)) : J E X pc L st K M a b := by
  obtain ⟨p, l, e, R, s, m, args, below, meth, c, Q, nL, K0, ad0⟩ := X
  refine J_runP hP hXK (x := .ref i :: As) (rest := rest) (fun ad H locs ls hR hsz => ?_) hL hrest hpost k1
  obtain ⟨hx, hb, ⟨hml, hnl⟩, hown, hts, hroom, hKF⟩ := hX
  obtain ⟨w1, w2, w3, w4, w5, w6⟩ := hw
  obtain ⟨hk1, hk2, hk3, hk4⟩ := hk
  have hat := hR.1 i (by omega)
  rw [hk1, ce_obj hk3] at hat
  have hP : va_P E.1 vwCl [(ad i, .inr (k - 1, (List.range (nf k)).map (fun f => fv E ad k i f M)))] H := fun j q hq => by
    cases j with
    | zero => cases hq; exact hat
    | succ j => cases hq
  obtain ⟨⟨C, T, N⟩, hq, hqc⟩ : ∃ q, vwCl[k - 1]? = some q ∧ q.1 = y.cls := by
    cases hv : vwCl[k - 1]? with
    | none => rw [hv] at hk4; cases hk4
    | some q => rw [hv] at hk4; exact ⟨q, rfl, Option.some.inj hk4⟩
  dsimp only at hqc
  subst hqc
  have hT : GoodIn tb (wsV own idx y.cls y (ww y cy ny rety)) := by
    refine goodIn_tb fun w h => ?_
    rcases List.mem_append.mp h with h | h
    · simp only [List.mem_cons, List.not_mem_nil, or_false] at h
      rcases h with rfl | rfl | rfl | rfl <;> assumption
    · exact (ww_good w5 w h).1
  have hl := hc l ad
  have hrun := va_runV (R := R) (H := H) (locs := locs) (cells := a) (slots := b) (meth := meth) (below := below) (e := e) (rest := rest.map (cv ad)) (g := F0 m pc ls (st.map (cv ad))) (As := As.map (cv ad)) (b := ad i) (Ts := tb) (nL := nL) ⟨hx, hb, hml, hown, hts⟩ hl
    (cwV As.length hts hT rfl rfl rfl ⟨rfl, w6⟩ ⟨by show dy + 1 ≤ R.frames; omega, by show 8 + (ny + 11) + 37 * dy ≤ R.locals; omega⟩)
    ⟨blindC, va_recv hKF.1 hP (ci := k - 1) (q0 := 0) hq rfl, fun U hU hW => ⟨rfl, by rw [hU]; exact hR, KF_warm hW hKF⟩⟩ rfl (by simp) hsz (by rw [hst]; simp [cv, List.map_reverse]) (lv_room (by rw [cv_cats]; exact hcat)) hd ⟨by omega, by omega⟩
  exact hrun
theorem J_callIKP (hX : XO E X cc own nl d c0 s0) (hP : XP E X) (hXK : XK X = K) {idx i dy ny mc ms : Nat} {y : MethodName} {cy : ByteArray} {As : List Value} (rest : List Value) {post : Option Value → (Nat → Nat) → MM → Prop} (hd : decode cc pc = .ok (.invokespecial idx, 3)) (hw : CWI own idx y cy ny As.length) (hc : Cn E dy y cy ny none (.ref i :: As) K M post mc ms)
    (hst : st = As.reverse ++ .ref i :: rest) (hcat : (rest.map fun v => v.category).sum ≤ 8) (hdp : dy + 1 ≤ d ∧ ny ≤ 18) (hcs : a + mc ≤ c0 ∧ b + ms ≤ s0)
    (hL : lvs (pinK K) (L.map (fun q => q.2))) (hrest : lvs (pinK K) rest)
    (hpost : ∀ r K' M', post r K' M' → Cl K' M' ∧ (∀ i, 1000000 ≤ i → K' i = 0) ∧ ∀ v ∈ r.toList, ∀ ad1 ad2 : Nat → Nat, cv ad1 v = cv ad2 v) (k1 : ∀ r K' M', post r K' M' → JP E X (pc + 3) L (r.toList ++ rest) K' M' (a + mc) (b + ms)) : J E X pc L st K M a b := by
  obtain ⟨p, l, e, R, s, m, args, below, meth, c, Q, nL, K0, ad0⟩ := X
  refine J_runP hP hXK (x := .ref i :: As) (rest := rest) (fun ad H locs ls hR hsz => ?_) hL hrest hpost k1
  obtain ⟨hx, hb, ⟨hml, hnl⟩, hown, hts, hroom, hKF⟩ := hX
  obtain ⟨w1, ⟨w2, w3⟩, w4, w5, w6⟩ := hw
  have hl := hc l ad
  have hrun := va_runI (R := R) (H := H) (locs := locs) (cells := a) (slots := b) (meth := meth) (below := below) (e := e) (rest := rest.map (cv ad)) (g := F0 m pc ls (st.map (cv ad))) (As := As.map (cv ad)) (b := ad i) (Ts := tb) (nL := nL) ⟨hx, hb, hml, hown, hts⟩ hl
    (cwI As.length hts (ww_good w5) rfl rfl rfl (hts _ w4) (hts _ w1) (hts _ w2) w3 w6 ⟨by show dy + 1 ≤ R.frames; omega, by show 8 + (ny + 11) + 37 * dy ≤ R.locals; omega⟩)
    ⟨blindC, fun U hU hW => ⟨rfl, by rw [hU]; exact hR, KF_warm hW hKF⟩⟩ rfl (by simp) hsz (by rw [hst]; simp [cv, List.map_reverse]) (lv_room (by rw [cv_cats]; exact hcat)) hd ⟨by omega, by omega⟩
  exact hrun
/-- a step that reads and writes no ids: the same outside -/
theorem JP_step (hX : XO E X cc own nl d c0 s0) (hl : XL X) {pc2 : Nat} {L2 : List (Nat × Value)} {st2 : List Value} {M2 : MM} {a2 b2 : Nat} (h : ∀ X2, XO E X2 cc own nl d c0 s0 → J E X2 pc2 L2 st2 K M2 a2 b2 → J E X2 pc L st K M a b) (k1 : JP E X pc2 L2 st2 K M2 a2 b2) : JP E X pc L st K M a b :=
  JP_in hX hl (fun X2 hX2 _ hP hK hsm => h X2 hX2 (J_JP hP hK (hsm _ _ _ _ _ _ _ k1)))
theorem pin_up {i : Nat} {ad : Nat → Nat} {q : Nat} (hi : i < 1000000) (hi0 : K i = 0) : ∀ j, pinK K j ≠ 0 → upK ad i q j = ad j := fun j hj => upK_ne (fun e => by
  rw [e] at hj
  unfold pinK at hj
  rw [if_neg (by omega)] at hj
  exact hj hi0)
theorem PN_up {i : Nat} {ad : Nat → Nat} {q : Nat} (hi : i < 1000000) (h : PN E ad) : PN E (upK ad i q) := fun k => (upK_ne (by omega)).trans (h k)

theorem JP_new (hX : XO E X cc own nl d c0 s0) {idx k : Nat} (i : Nat) (hF : FN own idx k) (hd : decode cc pc = .ok (.new idx, 3)) (hi : K i = 0) (hi6 : i < 1000000) (hC : Cl K M) (hL : lvs (pinK K) (L.map (fun q => q.2))) (hst : lvs (pinK K) st) (hcs : a + 1 ≤ c0 ∧ b + nf k ≤ s0)
    (k1 : ∀ K2 M2, K2 = upK K i (100 + k) → M2 = upM M i (df k) → Cl K2 M2 → JP E X (pc + 3) L (.ref i :: st) K2 M2 (a + 1) (b + nf k)) : JP E X pc L st K M a b := by
  obtain ⟨p, l, e, R, s, m, args, below, meth, c, Q, nL, K0, ad0⟩ := X
  intro ad H locs ls hp hR hs hv
  obtain ⟨hx, hb, ⟨hml, hnl⟩, hown, hts, hroom, hKF⟩ := hX
  obtain ⟨C, T, N, ty0, h1, hk, hN, hin, hty, w1, w2, w3, hdf⟩ := hF
  have hKn := hKF.1.1 _ _ h1
  have hkeep : ∀ j, pinK K j ≠ 0 → upK ad i H.size j = ad j := pin_up hi6 hi
  refine W.newcK (n := N) hx hb hown (hts _ w1) (hts _ w2) (hts _ w3) rfl hd (by omega) (by omega) hKn.2.1 rfl fun H1 kC hkC e1 z1 o1 => ?_
  have hat : va_at E.1 vwCl (H.size, ce E (upK ad i H.size) (100 + k) i (upM M i (df k))) H1 := by
    unfold ce
    rw [if_neg (by omega), if_neg (by omega), if_neg (by omega), if_neg (by omega), if_pos (by omega), show 100 + k - 101 = k - 1 by omega, show 100 + k - 100 = k by omega]
    refine ⟨_, h1, (u_born ty0 hts hin hKn hkC e1 hty).to (fun j hj => ?_)⟩
    show defaultValue (ty0 j) = ((List.range (nf k)).map (fun f => fvr E (upK ad i H.size) k i f (upM M i (df k)))).getD j .null
    have e2 : ((List.range (nf k)).map (fun f => fvr E (upK ad i H.size) k i f (upM M i (df k)))).getD j .null = fvr E (upK ad i H.size) k i j (upM M i (df k)) := by
      rw [List.getD_eq_getElem?_getD, List.getElem?_map, List.getElem?_range (by omega)]; rfl
    rw [e2, hdf j hj]
    unfold fvr fv
    rw [upM_eq]
    unfold df
    cases hr : ro k j with
    | some o => dsimp only; rw [if_pos (if_neg (by omega))]
    | none =>
      dsimp only
      by_cases h9 : k = 9 ∧ j = 23
      · rw [if_pos h9, if_pos h9, if_neg (by omega)]; rfl
      · rw [if_neg h9, if_neg h9]
        by_cases h4 : k = 4 ∧ j = 4
        · rw [if_pos h4, if_pos h4, if_pos (by rw [if_pos ⟨h4.1, rfl⟩]; decide)]
        · rw [if_neg h4, if_neg h4, if_neg (by omega)]; rfl
  have hR2 := Rep_ext hR hC hi z1 o1 hat (fun j => Or.inr (by unfold df; split <;> omega))
  have hfin := k1 _ _ rfl rfl (Cl_ext hC hi (by omega) (Or.inr (Or.inr (Or.inr ⟨by omega, by omega, fun g => by unfold df; rw [if_neg (by omega)]⟩)))) _ H1 locs ls (PN_up hi6 hp) hR2 hs (by rw [mlv_keep hkeep L hL]; exact hv)
  rw [hN] at hfin
  have e3 : (Value.ref i :: st).map (cv (upK ad i H.size)) = .ref H.size :: st.map (cv ad) := by
    rw [List.map_cons, cv_keep hkeep st hst]
    show Value.ref (upK ad i H.size i) :: _ = _
    rw [upK_eq]
  rw [e3] at hfin
  exact hfin
theorem J_lcmpeq (hX : XO E X cc own nl d c0 s0) {x off : Int} (t : Nat) (hd1 : decode cc pc = .ok (.lcmp, 1)) (hd2 : decode cc (pc + 1) = .ok (.ifCond .eq off, 3)) (ht : ((pc + 1 : Nat) : Int) + off = (t : Int)) (kt : J E X t L st K M a b) : J E X pc L (vL x :: vL x :: st) K M a b := by
  have k0 : J E X (pc + 1) L (vI 0 :: st) K M a b := J_if_eq hX t hd2 (by decide) ht (fun _ => kt) (fun h => absurd rfl h)
  obtain ⟨p, l, e, R, s, m, args, below, meth, c, Q, nL, K0, ad0⟩ := X
  intro ad H locs ls hR he hs hv
  refine W.lcmp hX.1 hX.2.1 hd1 ?_
  unfold lg_cmp
  rw [if_neg Int64.lt_irrefl, if_pos rfl]
  exact k0 ad H locs ls hR he hs hv
theorem J_dcmps (hX : XO E X cc own nl d c0 s0) {x y : UInt64} {op : CmpOp} (hd : decode cc pc = .ok (.dcmp op, 1)) (k1 : J E X (pc + 1) L (vI (Op.cmpValue (FP.dcmp x y) op).toInt :: st) K M a b) : J E X pc L (.double y :: .double x :: st) K M a b := by
  obtain ⟨p, l, e, R, s, m, args, below, meth, c, Q, nL, K0, ad0⟩ := X
  intro ad H locs ls hR he hs hv
  refine lv_dcmp hX.1 hX.2.1 hd ?_
  have kk := k1 ad H locs ls hR he hs hv
  rw [List.map_cons, show cv ad (vI (Op.cmpValue (FP.dcmp x y) op).toInt) = .int (Op.cmpValue (FP.dcmp x y) op) from congrArg Value.int (Int32.ofInt_toInt _)] at kk
  exact kk
theorem J_dstore (hX : XO E X cc own nl d c0 s0) {i : Nat} {v : UInt64} (hd : decode cc pc = .ok (.dstore i, 2)) (hi : i + 1 < nl) (k1 : J E X (pc + 2) (lset2 L i (.double v)) st K M a b) : J E X pc L (.double v :: st) K M a b := by
  obtain ⟨p, l, e, R, s, m, args, below, meth, c, Q, nL, K0, ad0⟩ := X
  intro ad H locs ls hR he hs hv
  exact lv_dstore hX.1 hX.2.1 hd hv (by rw [hX.2.2.1.2]; exact hi) (mlv_lset2 ad L i (.double v)) (fun ls2 h2 => k1 ad H locs ls2 hR he hs h2)
theorem J_dload (hX : XO E X cc own nl d c0 s0) {i : Nat} {v : UInt64} (hd : decode cc pc = .ok (.dload i, 2)) (hl : lget L i = some (.double v)) (k1 : J E X (pc + 2) L (.double v :: st) K M a b) : J E X pc L st K M a b := by
  obtain ⟨p, l, e, R, s, m, args, below, meth, c, Q, nL, K0, ad0⟩ := X
  intro ad H locs ls hR he hs hv
  exact lv_dload hX.1 hX.2.1 hd (lget_at hv hl) (k1 ad H locs ls hR he hs hv)
/-- a cell of the script -/
theorem J_cell (hX : XO E X cc own nl d c0 s0) (hP : XP E X) (hXK : XK X = K) {N : Nat} {sc : Int → Int} (hT : ∀ U, SF E U → va_T .int (E.2.2.2.1 50) N (fun j => vI (sc (j : Int))) (AS E) U E.2.2.1) {i : Int} (j : Int) (hl0 : lget L 0 = some (.ref (1000000 + 50))) (hl5 : lget L 5 = some (vI i)) (h : 0 ≤ i + j ∧ i + j < N) (hN : N < 1000000)
    (d0 : decode cc pc = .ok (.aload_n 0, 1)) (d1 : decode cc (pc + 1) = .ok (.iload 5, 2)) (d3 : decode cc (pc + 3) = .ok (.iconst j, 1)) (d4 : decode cc (pc + 4) = .ok (.iadd, 1)) (d5 : decode cc (pc + 5) = .ok (.iaload, 1))
    (k1 : J E X (pc + 6) L (vI (sc (i + j)) :: st) K M a b) : J E X pc L st K M a b := by
  refine J_aload_n hX d0 hl0 ?_
  refine J_iload hX d1 hl5 ?_
  refine J_iconst hX d3 ?_
  refine J_iadd hX d4 ?_
  exact J_cti hX hP hXK hT h hN (fun ad _ => by show vI (sc (i + j)) = vI (sc (((i + j).toNat : Nat) : Int)); rw [Int.toNat_of_nonneg h.1]) d5 k1
theorem J_cellB (hX : XO E X cc own nl d c0 s0) (hP : XP E X) (hXK : XK X = K) {N : Nat} {sc : Int → Int} (hT : ∀ U, SF E U → va_T .int (E.2.2.2.1 50) N (fun j => vI (sc (j : Int))) (AS E) U E.2.2.1) {i : Int} (j : Int) (hj : (Int8.ofInt j).toInt32 = Int32.ofInt j) (hl0 : lget L 0 = some (.ref (1000000 + 50))) (hl5 : lget L 5 = some (vI i)) (h : 0 ≤ i + j ∧ i + j < N) (hN : N < 1000000)
    (d0 : decode cc pc = .ok (.aload_n 0, 1)) (d1 : decode cc (pc + 1) = .ok (.iload 5, 2)) (d3 : decode cc (pc + 3) = .ok (.bipush j, 2)) (d4 : decode cc (pc + 5) = .ok (.iadd, 1)) (d5 : decode cc (pc + 6) = .ok (.iaload, 1))
    (k1 : J E X (pc + 7) L (vI (sc (i + j)) :: st) K M a b) : J E X pc L st K M a b := by
  refine J_aload_n hX d0 hl0 ?_
  refine J_iload hX d1 hl5 ?_
  refine J_bipush hX d3 hj ?_
  refine J_iadd hX d4 ?_
  exact J_cti hX hP hXK hT h hN (fun ad _ => by show vI (sc (i + j)) = vI (sc (((i + j).toNat : Nat) : Int)); rw [Int.toNat_of_nonneg h.1]) d5 k1
end RULES
/-- the law's locals at its loop -/
abbrev LL (x r o : Nat) (i : Int) : List (Nat × Value) := [(0, .ref (1000000 + 50)), (1, .ref x), (2, .ref r), (3, .ref o), (4, .ref (o + 1)), (5, vI i)]
abbrev LLk (x r o : Nat) (i k : Int) : List (Nat × Value) := [(0, .ref (1000000 + 50)), (1, .ref x), (2, .ref r), (3, .ref o), (4, .ref (o + 1)), (5, vI i), (6, vI k)]
abbrev LLv (x r o : Nat) (i k v : Int) : List (Nat × Value) := [(0, .ref (1000000 + 50)), (1, .ref x), (2, .ref r), (3, .ref o), (4, .ref (o + 1)), (5, vI i), (6, vI k), (7, vI v)]
def TL (pc : Nat) (off : Int) : Prop := (decode cL_law pc = .ok (.istore 7, 2) ∧ decode cL_law (pc + 2) = .ok (.aload_n 2, 1) ∧ decode cL_law (pc + 3) = .ok (.invokevirtual 108, 3) ∧ decode cL_law (pc + 6) = .ok (.iload 6, 2) ∧ decode cL_law (pc + 8) = .ok (.if_icmp .eq 5, 3)) ∧
  (decode cL_law (pc + 13) = .ok (.iload 6, 2) ∧ decode cL_law (pc + 15) = .ok (.ifCond .ne 15, 3) ∧ decode cL_law (pc + 18) = .ok (.aload_n 3, 1) ∧ decode cL_law (pc + 19) = .ok (.iconst 0, 1) ∧ decode cL_law (pc + 20) = .ok (.laload, 1)) ∧
  decode cL_law (pc + 21) = .ok (.iload 7, 2) ∧ decode cL_law (pc + 23) = .ok (.i2l, 1) ∧ decode cL_law (pc + 24) = .ok (.lcmp, 1) ∧ decode cL_law (pc + 25) = .ok (.ifCond .eq 5, 3) ∧ decode cL_law (pc + 30) = .ok (.goto off, 3) ∧ ((pc + 30 : Nat) : Int) + off = 2013