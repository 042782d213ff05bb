/-! methods with a table of their own: a throw is caught and answered by a number -/
def XTH (hh : List (Nat × Nat × Nat × Nat)) (X : JX) : Prop := match X with
  | (p, l, e, R, s, m, args, below, meth, c, Q, nL, K0, ad0) => c.exceptionTable.toList = tableOf hh ∧ l.stackTraces = false
def CnH (E : EE) (d : Nat) (y : MethodName) (cc : ByteArray) (n : Nat) (ret : Option FieldType) (hh : List (Nat × Nat × Nat × Nat)) (av : List Value) (K : Nat → Nat) (M : MM) (post : Option Value → (Nat → Nat) → MM → Prop) (mc ms : Nat) : Prop :=
  ∀ (l : Launch) (ad : Nat → Nat), l.stackTraces = false → Met l y (Cond.codeWith y cc n ret hh :: tb) (rmD d mc ms) (va_Pc (av.map (cv ad)) (fun U => Rep E ad K M U.heap ∧ KF E U)) (CQ E ad K post) mc ms (fun q => sz0 E ≤ q)
theorem MetH {l : Launch} {y : MethodName} {ws ws' : List Cond} {rm : Room} {Pc : Array Value → State → Prop} {Qc : Array Value → State → Outcome → State → Prop} {mc ms : Nat} {free : Addr → Prop} {cc : ByteArray} {maxL : Nat} {ret : Option FieldType} {hh : List (Nat × Nat × Nat × Nat)}
    (hy : plainName y.cls = true) (hw : ws = Cond.codeWith y cc maxL ret hh :: ws')
    (body : ∀ p e s m args below meth c s₁, BodyLoose p l y (headSpec ws rm) cc maxL ret e s m args below meth c s₁ → c.maxLocals = maxL → c.exceptionTable.toList = tableOf hh → Pc args s →
      W p l e (headSpec ws rm).room s m args below meth c s.heap [] 0 0 (MQ below Qc args s mc ms free) (entryFrame m args maxL)) : Met l y ws rm Pc Qc mc ms free := by
  refine MetFree.of_bodyS (code := cc) (maxLocals := maxL) (ret := ret) hy ?_ ?_
  · intro args s m h hn
    obtain ⟨m9, meth, c, hn9, h1, h2, h3, h4, -, h5, h6, -⟩ := Cond.codeWith_spec (atoms_spec (ws := ws) h _ (by rw [hw]; exact List.mem_cons_self))
    cases hn.symm.trans hn9
    exact ⟨meth, c, h1, h2, h3, h4, h5, h6⟩
  · intro p e s m args below meth c s₁ B hml hP _
    have hh0 : s₁.heap = s.heap := by rw [B.state]; rfl
    have ht := vx_table (x := y) B (atoms_spec (ws := ws) B.pre _ (by rw [hw]; exact List.mem_cons_self))
    obtain ⟨t, a1, o, b1, b2, b3⟩ := body p e s m args below meth c s₁ B hml ht hP s₁ hh0 (Stand.of_body B)
    exact ⟨t, o, a1, b1, b2, ⟨b3.1, b3.2⟩⟩
theorem CnH_of {E : EE} {d : Nat} {y : MethodName} {cc : ByteArray} {n : Nat} {ret : Option FieldType} {hh : List (Nat × Nat × Nat × Nat)} {av : List Value} {K : Nat → Nat} {M : MM} {post : Option Value → (Nat → Nat) → MM → Prop} {mc ms : Nat} (own : String) (hy : plainName y.cls = true) (hown : y.cls = own) (hlen : (lg_sl av).length ≤ n)
    (body : ∀ X : JX, XO E X cc own n d mc ms → XQ E X ret post mc ms → XK X = K → XTH hh X → J E X 0 (lv_args 0 av) [] K M 0 0) : CnH E d y cc n ret hh av K M post mc ms := by
  intro l ad hl0
  refine MetH (cc := cc) (maxL := n) (ret := ret) (hh := hh) (ws' := tb) hy rfl ?_
  intro p e s m args below meth c s₁ B hml htab hv
  obtain ⟨rfl, hR, hKF⟩ := hv
  have hx := B.exec
  have hb := B.bytes
  have hr := B.returns
  have hts := atoms_spec (ws := Cond.codeWith y cc n ret hh :: tb) B.pre
  have hown' : s.vm.findClass own = some m.cls := hown ▸ findClass_of_methodNamed B.named
  have hlocks := B.notSynchronized
  have hl := lv_entry (av.map (cv ad)) (n := n) (by rw [lg_sl_len]; exact hlen)
  rw [lg_entry_eq]
  generalize (lg_sl (av.map (cv ad)) ++ List.replicate (n - (lg_sl (av.map (cv ad))).length) Slot.unset).toArray = ls at hl ⊢
  rw [lv_args_map] at hl
  exact body (p, l, e, (headSpec (Cond.codeWith y cc n ret hh :: tb) (rmD d mc ms)).room, s, m, (av.map (cv ad)).toArray, below, meth, c, MQ below (CQ E ad K post) (av.map (cv ad)).toArray s mc ms (fun q => sz0 E ≤ q), n, K, ad)
    ⟨hx, hb, ⟨hml, rfl⟩, hown', fun w hw => hts w (List.mem_cons_of_mem _ hw), ⟨Nat.le_refl _, Nat.le_refl _, Nat.le_refl _, Nat.le_refl _⟩, hKF⟩ ⟨hr, hlocks, rfl⟩ rfl ⟨htab, hl0⟩ ad s.heap [] ls hR ⟨fun _ _ => rfl, fun _ => rfl⟩ (fun z hz => by cases hz) hl
/-- which of the three classes of throws are not which -/
def ncq (C D : String) : Prop := (C = xIO ∨ C = xIA ∨ C = xIS) ∧ (D = xIO ∨ D = xIA ∨ D = xIS) ∧ C ≠ D
def NcF (U : State) : Prop := ∀ C D, ncq C D → va_Nc C D U
def HdS (own : String) (hh : List (Nat × Nat × Nat × Nat)) (pc : Nat) (nm : String) (hpc : Nat) : Prop := (nm = xIO ∨ nm = xIA ∨ nm = xIS) ∧
  ∃ pre x suf, tableOf hh = pre ++ x :: suf ∧ (∀ z ∈ pre, z.catchType ≠ 0 ∧ ∃ nm2, Cond.classLink own z.catchType nm2 ∈ tb ∧ ncq nm nm2) ∧ covers x pc = true ∧ x.catchType ≠ 0 ∧ Cond.classLink own x.catchType nm ∈ tb ∧ x.handlerPc = hpc
section RULES
variable {E : EE} {X : JX} {cc : ByteArray} {own : String} {nl d c0 s0 : Nat} {pc : Nat} {L : List (Nat × Value)} {st : List Value} {K : Nat → Nat} {M : MM} {a b : Nat}
/-- a call of a face in a method with a table -/
theorem J_callVH (hX : XO E X cc own nl d c0 s0) {hh : List (Nat × Nat × Nat × Nat)} (hH : XTH hh X) (hXK : XK X = K) (hE : ∀ U, SF E U → ThF E U ∧ NcF U) {idx i k dy ny mc ms : Nat} {y : MethodName} {cy : ByteArray} {rety : Option FieldType} {As : List Value} (rest : List Value) {post : Option Value → (Nat → Nat) → MM → Prop} {xp : String → Prop} (hd : decode cc pc = .ok (.invokevirtual idx, 3)) (hw : CWV own idx y cy ny rety As.length) (hc : CnX E dy y cy ny rety (.ref i :: As) K M post xp mc ms)
    (hk : K i = k ∧ 0 < k ∧ k < 10 ∧ (vwCl[k - 1]?).map (fun q => q.1) = some y.cls) (hst : st = As.reverse ++ .ref i :: rest) (hcat : (rest.map fun v => v.category).sum ≤ 8) (hdp : dy + 1 ≤ d ∧ ny ≤ 18) (hcs : a + mc ≤ c0 ∧ b + ms ≤ s0)
    (hL : lvs K (L.map (fun q => q.2))) (hrest : lvs K rest) (hpost : ∀ r K' M', post r K' M' → ∀ i, K i ≠ 0 → K' i ≠ 0)
    (kx : ∀ nm, xp nm → ∃ hpc iv len, HdS own hh pc nm hpc ∧ ((decode cc hpc = .ok (.astore iv, 2) ∧ len = 2 ∨ ∃ kf : Fin 4, decode cc hpc = .ok (.astore_n kf, 1) ∧ kf.val = iv ∧ len = 1) ∧ iv < nl) ∧ J E X (hpc + len) [] [] K M (a + mc) (b + ms))
    (k1 : ∀ r K' M', post r K' M' → J E X (pc + 3) L (r.toList ++ rest) K' M' (a + mc) (b + ms)) : J E X pc L st K M a b := by
  obtain ⟨p, l, e, R, s, m, args, below, meth, c, Q, nL, K0, ad0⟩ := X
  obtain ⟨hx, hb, ⟨hml, hnl⟩, hown, hts, hroom, hKF⟩ := hX
  obtain ⟨ht1, ht2⟩ := hH
  obtain ⟨w1, w2, w3, w4, w5, w6⟩ := hw
  obtain ⟨hk1, hk2, hk3, hk4⟩ := hk
  have hXK' : K0 = K := hXK
  subst hXK'
  intro ad H locs ls hR he hs hv T hT' S
  obtain rfl : ad = ad0 := he.2 rfl
  have hat := hR.1 i (by omega)
  rw [hk1, ce_obj hk3] at hat
  have hP : va_P E.1 vwCl [(ad i, .inr (k - 1, (List.range (nf k)).map (fun f => fv E ad k i f M)))] H := fun j q hq => by
    cases j with
    | zero => cases hq; exact hat
    | succ j => cases hq
  obtain ⟨⟨C, T9, N⟩, hq, hqc⟩ : ∃ q, vwCl[k - 1]? = some q ∧ q.1 = y.cls := by
    cases hv : vwCl[k - 1]? with
    | none => rw [hv] at hk4; cases hk4
    | some q => rw [hv] at hk4; exact ⟨q, rfl, Option.some.inj hk4⟩
  dsimp only at hqc
  subst hqc
  have hTg : GoodIn tb (wsV own idx y.cls y (ww y cy ny rety)) := by
    refine goodIn_tb fun w h => ?_
    rcases List.mem_append.mp h with h | h
    · simp only [List.mem_cons, List.not_mem_nil, or_false] at h
      rcases h with rfl | rfl | rfl | rfl <;> assumption
    · exact (ww_good w5 w h).1
  have hl := hc l ad ht2
  have hrun := vx_runV (R := R) (H := H) (locs := locs) (cells := a) (slots := b) (meth := meth) (below := below) (e := e) (rest := rest.map (cv ad)) (g := F0 m pc ls (st.map (cv ad))) (As := As.map (cv ad)) (b := ad i) (Ts := tb) (nL := nL) ⟨hx, hb, hml, hown, hts⟩ hl
    (cwV As.length hts hTg rfl rfl rfl ⟨rfl, w6⟩ ⟨by show dy + 1 ≤ R.frames; omega, by show 8 + (ny + 11) + 37 * dy ≤ R.locals; omega⟩)
    ⟨blindC, va_recv hKF.1 hP (ci := k - 1) (q0 := 0) hq rfl, fun U hU hW => ⟨rfl, by rw [hU]; exact hR, KF_warm hW hKF⟩⟩ rfl (by simp) hv.1 (by rw [hst]; simp [cv, List.map_reverse]) (lv_room (by rw [cv_cats]; exact hcat)) hd ⟨by omega, by omega⟩
  rcases hrun T hT' S with ⟨v, st₀, t, T', L', h0, S', hL', e1, e2, ⟨r, K', M', ad', g1, g2, g3, g4⟩, go⟩ | ⟨q, st₀, t, T', L', Ex, ce, h0, S', hL', e1, e2, ⟨hxp1, hRx⟩, hce, hcv, hcl, go⟩
  · cases g1
    obtain ⟨t2, a1, b1⟩ := k1 r K' M' g2 ad' T'.heap (locs ++ L') ls (by rw [e1]; exact g3) g4 (fun z hz => by
      rcases List.mem_append.mp hz with h | h
      · exact hs z h
      · exact hL' z h) (by rw [mlv_keep g4.1 L hL]; exact hv) T' rfl S'
    refine ⟨t2, go t2 ?_, b1⟩
    have e5 : (r.map (cv ad')).toList ++ rest.map (cv ad) = (r.toList ++ rest).map (cv ad') := by
      rw [← cv_keep g4.1 rest hrest]; cases r <;> simp
    show Steps _ _ _ (T'.setTop { F0 m pc ls (st.map (cv ad)) with pc := pc + 3, stack := (r.map (cv ad')).toList ++ rest.map (cv ad) }) t2
    rw [e5]
    exact a1
  · obtain ⟨hpc, iv, len, ⟨hnm, pre, x9, suf, hsp, hpre, hcov, hct, hlk, hhp⟩, ⟨hast, hiv⟩, kk⟩ := kx _ hxp1
    obtain ⟨hTh, hNc⟩ := hE s hKF.2.2
    have hs2 : ∀ z ∈ locs ++ L', sz0 E ≤ z.base := fun z hz => by
      rcases List.mem_append.mp hz with h | h
      · exact hs z h
      · exact hL' z h
    have hcast : (Cond.castable Ex Ex).before args s = true := by
      have hm : Cond.castable Ex Ex ∈ exW := by
        rcases hnm with rfl | rfl | rfl <;> simp [exW]
      exact va_Nw.use (A := args) (exW_ot _ hm) (hTh.1 _ hm)
    have hempty : lv_has ls nL (mlv ad []) := ⟨hv.1, hv.2.1, fun q hq => by cases hq⟩
    have hhand : W p l e R s m args below meth c T'.heap (locs ++ L') (a + mc) (b + ms) Q (F0 m x9.handlerPc ls [.ref q]) := by
      rw [hhp]
      rcases hast with ⟨hd9, rfl⟩ | ⟨kf, hd9, hkf, rfl⟩
      · exact lv_astore hx hb hd9 hempty (by omega) rfl (fun ls2 h2 => kk ad T'.heap (locs ++ L') ls2 (by rw [e1]; exact hRx) he hs2 ⟨h2.1, h2.2.1, fun q hq => by cases hq⟩)
      · exact lv_astore_n hx hb hd9 hkf hempty (by omega) rfl (fun ls2 h2 => kk ad T'.heap (locs ++ L') ls2 (by rw [e1]; exact hRx) he hs2 ⟨h2.1, h2.2.1, fun q hq => by cases hq⟩)
    obtain ⟨t2, a1, b1⟩ := vx_catch (name := Ex) (E := Ex) (ce := ce) (q := q) (rest := rest.map (cv ad)) hown pre x9 suf (ht1.trans hsp) (fun z hz => Or.inr (by
      obtain ⟨z0, nm2, z1, z2⟩ := hpre z hz
      exact ⟨z0, nm2, hts _ z1, hNc _ _ z2⟩)) hcov hct (hts _ hlk) hcast (by rw [e1]; exact hce) hcv hcl hhand T' rfl S'
    exact ⟨t2, go.trans a1, b1⟩
end RULES

