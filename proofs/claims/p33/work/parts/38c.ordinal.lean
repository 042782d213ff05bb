/-! the ordinal of a word: walked where it is called (nothing is told of the class that declares it but its code) -/
theorem ml_RX4_93 : Cond.methodLink RX4 93 ⟨RX8, "ordinal", "()I"⟩ ∈ tb := inT 488 (by decide +kernel)
theorem sm_ord : Cond.sameMethod RX8 RJx29ce0 "ordinal" "()I" ∈ tb := inT 489 (by decide +kernel)
theorem se_ord : Cond.selects RX8 ⟨RX8, "ordinal", "()I"⟩ yJx29ce0_ordinal_8abf5 ∈ tb := inT 491 (by decide +kernel)
theorem back_ord {p : Program} {l : Launch} {e : Env} {R : Room} {below : List Frame} {s : State} {args : Array Value} {A9 : Nat → Prop} {H9 : Heap} {z : Nat} {x : Int32} (hexec : p.tables.exec = Jvm.exec)
    (hcode : (Cond.code yJx29ce0_ordinal_8abf5 cJx29ce0_ordinal_8abf5 1 (some .int)).before args s = true) (hlink : (Cond.fieldLink RJx29ce0 7 RJx29ce0 "ordinal" "I").before args s = true) (hOF : va_OF RJx29ce0 "ordinal" "I" (.int x) z A9 s H9) (hfr : 1 ≤ R.frames) (hlo : 20 ≤ R.locals) :
    Back l R p e below s args yJx29ce0_ordinal_8abf5 3 8 (fun A a => a = #[.ref z] ∧ A.U.heap[z]? = H9[z]?) (fun A a v B => v = some (.int x) ∧ B.U.heap = A.U.heap ∧ B.locs = A.locs ∧ B.cells = A.cells ∧ B.slots = A.slots) := by
  intro m meth c A g ig mk a X hg hsize hdg hW hn hp
  obtain ⟨U, Ls, c0, s0⟩ := A
  dsimp only [Pt.U, Pt.locs, Pt.cells, Pt.slots] at X hn hp ⊢
  obtain ⟨rfl, hH⟩ := hp
  subst hg
  have hcU : (Cond.code yJx29ce0_ordinal_8abf5 cJx29ce0_ordinal_8abf5 1 (some .int)).before #[.ref z] U = true := word_at X.warmed (Or.inl (by first | rfl | simp [Cond.onTables, Cond.keeps, Cond.steady])) hcode
  have hlU : (Cond.fieldLink RJx29ce0 7 RJx29ce0 "ordinal" "I").before #[.ref z] U = true := word_at X.warmed (Or.inl (by first | rfl | simp [Cond.onTables, Cond.keeps, Cond.steady])) hlink
  obtain ⟨methY, cY, hmY, hcY, hbY, hlY, hrY, hlkY, -⟩ := Cond.code_spec hn hcU
  obtain ⟨cf, k, i0, f, cell, h1, h2, h3, h4, h5, h6⟩ := hOF.moved X.warmed.alike
  have hpl : e.platform.magicAccessors = ({} : Platform).magicAccessors := by rw [X.admits.platform]
  obtain ⟨ci', cfl, k', i', f', hi', hlinks, hright⟩ := Cond.fieldLink_spec (findClass_of_methodNamed hn) hlU e.platform hpl
  cases h1.symm.trans hi'
  obtain ⟨hk, hf⟩ := State.fieldFound?_spec h1
  have hplain : U.plainMethod mk := by
    refine State.plainMethod.of_name ?_
    intro k hk
    obtain ⟨k', hk', hnm⟩ := className_of_methodNamed hn
    cases (show U.vm.classes[mk.cls]? = some k from hk).symm.trans hk'
    rw [hnm]; decide
  have hT := At.enter (g := g) X.here #[.ref z] hmY hcY hplain
  have hfrm := frames_entered (g := g) X.here.top (.java (entryFrame mk #[.ref z] cY.maxLocals))
  have hroom := X.notFull (g := g) (vars := cY.maxLocals) hsize hfr (by rw [hlY]; omega)
  have henter := doInvoke_enter (e := e) (g := g) (args := #[.ref z]) X.here.top [] hmY hcY hlkY hroom
  rw [hlY] at hT hfrm henter
  generalize hV : (U.setTop g).pushFrame (.java (entryFrame mk #[.ref z] 1)) = V at hT hfrm henter
  have hVv : V.vm = U.vm := by rw [← hV]; rfl
  have hVh : V.heap = U.heap := by rw [← hV]; rfl
  obtain ⟨vm', hgives, hW', hready, hfi⟩ := State.fieldEntry (e := e) (s := U) (vm₀ := V.vm) (by rw [hVv]; exact State.WarmedH.refl U) hlinks hright hk hf
  have hsz : vm'.classes.size ≤ V.vm.classes.size := by rw [hVv]; exact hW'.alike.size_le
  refine ⟨some (.int x), ⟨U.setVm vm', Ls, c0, s0⟩, X.noted (State.WarmedH.trans X.warmed hW'), ⟨rfl, rfl, rfl, rfl, rfl⟩, ?_⟩
  rw [henter]
  have hT2 : At (V.setVm vm') mk cY below := hT.setVm (by rw [hVv]; exact hW'.alike)
  have d0 : decode cY.code 0 = .ok (.aload_n 0, 1) := by rw [hbY]; exact dJx29ce0_ordinal_8abf5_0
  have d1 : decode cY.code 1 = .ok (.getfield 7, 3) := by rw [hbY]; exact dJx29ce0_ordinal_8abf5_1
  have d4 : decode cY.code 4 = .ok (.ireturn, 1) := by rw [hbY]; exact dJx29ce0_ordinal_8abf5_4
  have hcell : (V.setVm vm').heap[z]? = some cell := by
    show V.heap[z]? = _
    rw [hVh, hH]; exact h3
  show Steps p.tables e below (V.setTop { method := mk, pc := 0, locals := #[.val (.ref z)], stack := [], locked := none }) _
  jvm_step hT [hexec, d0, Value.isRef]
  jvm_step hT [hexec, d1, getfield.wp_cold (e := e) (s := V) (f := { method := mk, pc := 1, locals := #[.val (.ref z)], stack := [.ref z], locked := none }) hT.top hgives hready hfi,
    getfield.wp_ready (e := e) (s := V.setVm vm') (f := { method := mk, pc := 1, locals := #[.val (.ref z)], stack := [.ref z], locked := none }) (rest := []) hT2.top hready h2 rfl hcell h4 h5]
  have hmV : (V.setVm vm').vm.method? mk = some methY := by
    show vm'.method? mk = _
    first
      | rw [hW'.alike.method?]; exact hmY
      | rw [← hW'.alike.method?]; exact hmY
  have hmV2 : vm'.method? mk = some methY := hmV
  have htt : ∀ f : JFrame, ((V.setVm vm').setTop f).topJava? = some f := fun f => State.topJava?_of_frames (State.frames_setTop' f hT2.top)
  jvm_step hT2 [hexec, d4, htt, hmV, hmV2, hrY, narrow]
  intro acts'
  rw [doReturn_leave (u := V.setVm vm') (g := g) (meth := methY) (cg := c) (ig := ig) (len := 3) (f := { method := mk, pc := 4, locals := #[.val (.ref z)], stack := [], locked := none }) acts' hfrm hmV hlkY rfl rfl
      (by
        have := X.here.code
        rw [State.code?_eq] at this ⊢
        have e2 : (V.setVm vm').vm.method? g.method = U.vm.method? g.method := by
          show vm'.method? g.method = _
          first
            | rw [hW'.alike.method?]
            | rw [← hW'.alike.method?]
        rw [e2]; exact this) hdg]
  have e3 : (V.setVm vm').setFrames (.java g :: U.frames.tail) = (U.setTop g).setVm vm' := by
    show (V.setFrames (.java g :: U.frames.tail)).setVm vm' = _
    rw [← hV, setFrames_entered X.here.top]
  rw [e3]
  have e4 : ((U.setTop g).setVm vm').setTop { g with pc := g.pc + 3, stack := (some (Value.int x)).toList ++ g.stack } = (U.setVm vm').setTop { g with pc := g.pc + 3, stack := (some (Value.int x)).toList ++ g.stack } := by
    show ((U.setTop g).setTop _).setVm vm' = (U.setTop _).setVm vm'
    rw [State.setTop_setTop]
  rw [e4]
  exact Steps.refl _
theorem J_ordinal {E : EE} {X : JX} {cc : ByteArray} {nl d c0 s0 : Nat} {pc : Nat} {L : List (Nat × Value)} {K : Nat → Nat} {M : MM} {a b : Nat} (hX : XO E X cc RX4 nl d c0 s0) (hP : XP E X) (hXK : XK X = K) (hE : ∀ U, SF E U → CF E U) {i : Nat} (rest : List Value) (hi : i < 9) (hd : decode cc pc = .ok (.invokevirtual 93, 3)) (hcat : (rest.map fun v => v.category).sum ≤ 8) (hdp : 1 ≤ d)
    (k1 : J E X (pc + 3) L (vI i :: rest) K M a b) : J E X pc L (.ref (1000000 + i) :: rest) K M a b := by
  obtain ⟨p, l, e, R, s, m, args, below, meth, c, Q, nL, K0, ad0⟩ := X
  intro ad H locs ls hR he hs hv T hT S
  have hKe : K0 = K := hXK
  have hpn : PN E ad := by rw [he.2 hKe.symm]; exact hP
  have hkk := k1 ad H locs ls hR he hs hv
  obtain ⟨hx, hb, ⟨hml, hnl⟩, hown, hts, hroom, hKF⟩ := hX
  have hcf := hE s hKF.2.2
  obtain ⟨cell, g1, g2, g3, g4⟩ := hcf.wcls i hi
  have hlt := (Array.getElem?_eq_some_iff.mp g1).1
  have hH : ∀ q : Nat, q < sz0 E → H[q]? = E.2.2.1[q]? := hR.2.2.2.1.2
  have hbk := back_ord (l := l) (e := e) (R := R) (below := below) (args := args) (p := p) hx (hts _ co_Jx29ce0_ordinal_8abf5) (hts _ fl_RJx29ce0_7) (hcf.word i hi) (by omega) (by omega)
  obtain ⟨v, vm1, ⟨U2, l2, c2, s2⟩, hW1, X2, hpost, st⟩ := va_callVU S hx (own := RX4) (index := 93) (C := RX8) (owner := RJx29ce0) (x := ⟨RX8, "ordinal", "()I"⟩) (y := yJx29ce0_ordinal_8abf5) (bytes := cJx29ce0_ordinal_8abf5) (maxL := 1) (ret := some .int) hown (hts _ ml_RX4_93) (hts _ sm_ord)
    (va_Decl.of (hts _ im_Jx29ce0_ordinal_8abf5) (hts _ co_Jx29ce0_ordinal_8abf5)) ⟨by decide, by decide⟩ (hts _ se_ord) (hts _ im_Jx29ce0_ordinal_8abf5) (hts _ co_Jx29ce0_ordinal_8abf5) hbk (b := E.2.2.2.1 i) (cellB := cell) (by rw [hT, hH _ hlt]; exact g1) g2 g3
    (g := F0 m pc ls ((.ref (1000000 + i) :: rest).map (cv ad))) rfl (hv.1.trans hml.symm) (argsL := []) (rest := rest.map (cv ad)) (fun sig h => by
      have h0 : (parseMethodDescriptor "()I").map (fun d => d.parameters.length) = some 0 := by decide +kernel
      rw [show parseMethodDescriptor "()I" = some sig from h] at h0
      exact (Option.some.inj h0).symm) (by rw [List.map_cons, PN.ref hpn i]; rfl) (lv_room (by rw [cv_cats]; exact hcat)) (by rw [hb]; exact hd)
    (fun vm1 hW1 => ⟨rfl, by show T.heap[_]? = _; rw [hT, hH _ hlt]⟩)
  obtain ⟨rfl, e1, rfl, rfl, rfl⟩ := hpost
  obtain ⟨t2, a1, b1⟩ := hkk U2 (e1.trans hT) X2
  exact ⟨t2, st t2 a1, b1⟩

