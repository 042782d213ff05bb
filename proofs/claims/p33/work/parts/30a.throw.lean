/-! contracts that return or throw; refuse -/
abbrev NSx : List String := ["java/lang/RuntimeException", "java/lang/Exception"]
abbrev xIO : String := "java/lang/IndexOutOfBoundsException"
abbrev xIA : String := "java/lang/IllegalArgumentException"
abbrev xIS : String := "java/lang/IllegalStateException"
def exW : List Cond := [.castable xIO xIO, .castable xIA xIA, .castable xIS xIS, .declares ⟨"java/lang/RuntimeException", "<init>", "(Ljava/lang/String;)V"⟩, .declares ⟨"java/lang/Exception", "<init>", "(Ljava/lang/String;)V"⟩, .declares ⟨"java/lang/Throwable", "<init>", "(Ljava/lang/String;)V"⟩]
theorem exW_ot : ∀ w ∈ exW, w.onTables = true := by decide +kernel
theorem at_of {own X : String} {ic : Nat} (ix : List Nat) (e : vx_atS own ic X NSx = ix.map (fun i => (lw_tbl[i]?).getD .tt)) (h : ∀ i ∈ ix, i < lw_tbl.length ∧ (goodWord ((lw_tbl[i]?).getD .tt) = true ∨ (lw_tbl[i]?).getD .tt ∈ exW)) : ∀ w ∈ vx_atS own ic X NSx, w ∈ tb ∨ w ∈ exW := by
  intro w hw
  rw [e] at hw
  obtain ⟨i, hi, rfl⟩ := List.mem_map.mp hw
  obtain ⟨h1, h2⟩ := h i hi
  rcases h2 with h2 | h2
  · left
    exact inT i ⟨by rw [List.getElem?_eq_getElem h1]; rfl, h2⟩
  · right; exact h2
theorem ax_IOOB : vx_atS RX9 256 xIO NSx = [41, 673, 682, 686, 689, 691, 674, 675, 60, 61, 676, 681, 687, 707, 663, 708, 665, 709, 667, 677, 679, 669, 703, 704, 706, 669, 694, 695, 696, 697, 655, 697, 698, 699, 700, 657, 700, 701, 702, 703, 659, 693, 652, 653, 660, 661, 662, 664, 666, 668, 672, 671, 670].map (fun i => (lw_tbl[i]?).getD .tt) := by decide +kernel
theorem ag_IOOB : ∀ w ∈ vx_atS RX9 256 xIO NSx, w ∈ tb ∨ w ∈ exW := at_of [41, 673, 682, 686, 689, 691, 674, 675, 60, 61, 676, 681, 687, 707, 663, 708, 665, 709, 667, 677, 679, 669, 703, 704, 706, 669, 694, 695, 696, 697, 655, 697, 698, 699, 700, 657, 700, 701, 702, 703, 659, 693, 652, 653, 660, 661, 662, 664, 666, 668, 672, 671, 670] ax_IOOB (by decide +kernel)
theorem ck_IOOB : Cond.classLink RX9 252 xIO ∈ tb := inT 651 (by decide +kernel)
theorem ci_IOOB : Cond.initialized xIO ∈ tb := inT 44 (by decide +kernel)
theorem fit_IOOB : Bundle.fit xIO = true := by decide +kernel
theorem ax_IAE : vx_atS RX9 263 xIA NSx = [41, 673, 682, 686, 689, 691, 674, 675, 60, 61, 676, 681, 687, 707, 663, 708, 665, 709, 667, 677, 679, 669, 703, 704, 706, 669, 730, 731, 732, 697, 655, 697, 698, 699, 700, 657, 700, 701, 702, 703, 659, 729, 720, 721, 722, 684, 723, 724, 725, 726, 672, 671, 727].map (fun i => (lw_tbl[i]?).getD .tt) := by decide +kernel
theorem ag_IAE : ∀ w ∈ vx_atS RX9 263 xIA NSx, w ∈ tb ∨ w ∈ exW := at_of [41, 673, 682, 686, 689, 691, 674, 675, 60, 61, 676, 681, 687, 707, 663, 708, 665, 709, 667, 677, 679, 669, 703, 704, 706, 669, 730, 731, 732, 697, 655, 697, 698, 699, 700, 657, 700, 701, 702, 703, 659, 729, 720, 721, 722, 684, 723, 724, 725, 726, 672, 671, 727] ax_IAE (by decide +kernel)
theorem ck_IAE : Cond.classLink RX9 259 xIA ∈ tb := inT 719 (by decide +kernel)
theorem ci_IAE : Cond.initialized xIA ∈ tb := inT 45 (by decide +kernel)
theorem fit_IAE : Bundle.fit xIA = true := by decide +kernel
theorem ax_ISE : vx_atS RX9 268 xIS NSx = [41, 673, 682, 686, 689, 691, 674, 675, 60, 61, 676, 681, 687, 707, 663, 708, 665, 709, 667, 677, 679, 669, 703, 704, 706, 669, 746, 747, 748, 697, 655, 697, 698, 699, 700, 657, 700, 701, 702, 703, 659, 745, 736, 737, 738, 685, 739, 740, 741, 742, 672, 671, 743].map (fun i => (lw_tbl[i]?).getD .tt) := by decide +kernel
theorem ag_ISE : ∀ w ∈ vx_atS RX9 268 xIS NSx, w ∈ tb ∨ w ∈ exW := at_of [41, 673, 682, 686, 689, 691, 674, 675, 60, 61, 676, 681, 687, 707, 663, 708, 665, 709, 667, 677, 679, 669, 703, 704, 706, 669, 746, 747, 748, 697, 655, 697, 698, 699, 700, 657, 700, 701, 702, 703, 659, 745, 736, 737, 738, 685, 739, 740, 741, 742, 672, 671, 743] ax_ISE (by decide +kernel)
theorem ck_ISE : Cond.classLink RX9 264 xIS ∈ tb := inT 735 (by decide +kernel)
theorem ci_ISE : Cond.initialized xIS ∈ tb := inT 46 (by decide +kernel)
theorem fit_ISE : Bundle.fit xIS = true := by decide +kernel
theorem fit_NS : ∀ n ∈ NSx, Bundle.fit n = true := by decide +kernel
def XTp (E : EE) (ad K : Nat → Nat) (M : MM) (xp : String → Prop) : String → State → State → Prop := fun nm _ t => xp nm ∧ Rep E ad K M t.heap
def CnX (E : EE) (d : Nat) (y : MethodName) (cc : ByteArray) (n : Nat) (ret : Option FieldType) (av : List Value) (K : Nat → Nat) (M : MM) (post : Option Value → (Nat → Nat) → MM → Prop) (xp : String → Prop) (mc ms : Nat) : Prop :=
  ∀ (l : Launch) (ad : Nat → Nat), l.stackTraces = false → vx_Met l y (ww y cc n ret) (rmD d mc ms) (va_Pc (av.map (cv ad)) (fun U => Rep E ad K M U.heap ∧ KF E U)) (CQ E ad K post) (XTp E ad K M xp) mc ms (fun q => sz0 E ≤ q)
def XQX (E : EE) (X : JX) (rt : Option FieldType) (post : Option Value → (Nat → Nat) → MM → Prop) (M : MM) (xp : String → Prop) (c0 s0 : Nat) : Prop :=
  match X with
  | (p, l, e, R, s, m, args, below, meth, c, Q, nL, K0, ad0) => meth.sig.returnType = rt ∧ meth.locks = false ∧ Q = vx_MQ below (CQ E ad0 K0 post) (XTp E ad0 K0 M xp) args s c0 s0 (fun q => sz0 E ≤ q)
/-- no handlers, no traces, the heap at the method's start -/
def XT0 (E : EE) (X : JX) : Prop := match X with
  | (p, l, e, R, s, m, args, below, meth, c, Q, nL, K0, ad0) => (∀ x ∈ c.exceptionTable.toList, False) ∧ l.stackTraces = false ∧ sz0 E ≤ s.heap.size ∧ ∀ q : Nat, q < sz0 E → s.heap[q]? = E.2.2.1[q]?
theorem CnX_of {E : EE} {d : Nat} {y : MethodName} {cc : ByteArray} {n : Nat} {ret : Option FieldType} {av : List Value} {K : Nat → Nat} {M : MM} {post : Option Value → (Nat → Nat) → MM → Prop} {xp : String → Prop} {mc ms : Nat} (own : String) (hy : plainName y.cls = true) (hown : y.cls = own) (hlen : (lg_sl av).length ≤ n)
    (body : ∀ X : JX, XO E X cc own n d mc ms → XQX E X ret post M xp mc ms → XK X = K → XT0 E X → J E X 0 (lv_args 0 av) [] K M 0 0) : CnX E d y cc n ret av K M post xp mc ms := by
  intro l ad hl0
  refine vx_ofW (cc := cc) (maxL := n) (ret := ret) (ws' := tb) hy rfl ?_
  intro p e s m args below meth c s₁ B hml htab hv
  obtain ⟨rfl, hR, hKF⟩ := hv
  have hx := B.exec
  have hb := B.bytes
  have hr := B.returns
  have hts := atoms_spec (ws := ww y cc n ret) B.pre
  have hown' : s.vm.findClass own = some m.cls := hown ▸ findClass_of_methodNamed B.named
  have hlocks := B.notSynchronized
  have hl := lv_entry (av.map (cv ad)) (n := n) (by rw [lg_sl_len]; exact hlen)
  rw [lg_entry_eq]
  generalize (lg_sl (av.map (cv ad)) ++ List.replicate (n - (lg_sl (av.map (cv ad))).length) Slot.unset).toArray = ls at hl ⊢
  rw [lv_args_map] at hl
  exact body (p, l, e, (headSpec (ww y cc n ret) (rmD d mc ms)).room, s, m, (av.map (cv ad)).toArray, below, meth, c, vx_MQ below (CQ E ad K post) (XTp E ad K M xp) (av.map (cv ad)).toArray s mc ms (fun q => sz0 E ≤ q), n, K, ad)
    ⟨hx, hb, ⟨hml, rfl⟩, hown', fun w hw => hts w (List.mem_cons_of_mem _ hw), ⟨Nat.le_refl _, Nat.le_refl _, Nat.le_refl _, Nat.le_refl _⟩, hKF⟩ ⟨hr, hlocks, rfl⟩ rfl ⟨htab, hl0, hR.2.2.2.1.1, hR.2.2.2.1.2⟩ ad s.heap [] ls hR ⟨fun _ _ => rfl, fun _ => rfl⟩ (fun z hz => by cases hz) hl
theorem Rep_grow {E : EE} {ad K : Nat → Nat} {M : MM} {H H2 : Heap} (hR : Rep E ad K M H) (hz : H.size ≤ H2.size) (ho : ∀ q : Nat, q < H.size → H2[q]? = H[q]?) : Rep E ad K M H2 := by
  obtain ⟨r1, r2, r3, ⟨r4, r5⟩, r6⟩ := hR
  exact ⟨fun i hi => (r1 i hi).kept (ho _ (r1 i hi).lt), r2, r3, ⟨Nat.le_trans r4 hz, fun q hq => by rw [ho q (Nat.lt_of_lt_of_le hq r4)]; exact r5 q hq⟩, r6⟩
/-- what is known of the throws -/
def ThF (E : EE) (U : State) : Prop := (∀ w ∈ exW, va_Nw w U) ∧
  (vx_Zq Bundle.tN "UNASSIGNED_STACK" Bundle.steD (fun q => sz0 E ≤ q) U E.2.2.1 ∧ vx_Zq Bundle.tN "SUPPRESSED_SENTINEL" Bundle.listD (fun q => sz0 E ≤ q) U E.2.2.1) ∧
  ((∃ a, vk_R RX9 254 "there is no such thing" a U) ∧ (∃ a, vk_R RX9 261 "an argument is out of range" a U) ∧ ∃ a, vk_R RX9 266 "the state does not allow it" a U)
section RULES
variable {E : EE} {X : JX} {cc : ByteArray} {own : String} {nl d c0 s0 : Nat} {pc : Nat} {L : List (Nat × Value)} {st : List Value} {K : Nat → Nat} {M : MM} {a b : Nat}
/-- from here on the method only returns -/
theorem J_vx (hX : XO E X cc own nl d c0 s0) {rt : Option FieldType} {post : Option Value → (Nat → Nat) → MM → Prop} {M0 : MM} {xp : String → Prop} (hQ : XQX E X rt post M0 xp c0 s0) (k : ∀ X2, XO E X2 cc own nl d c0 s0 → XQ E X2 rt post c0 s0 → XK X2 = XK X → J E X2 pc L st K M a b) : J E X pc L st K M a b := by
  obtain ⟨p, l, e, R, s, m, args, below, meth, c, Q, nL, K0, ad0⟩ := X
  obtain ⟨hr, hlocks, rfl⟩ := hQ
  intro ad H locs ls hR he hs hv
  exact vx_ret (k (p, l, e, R, s, m, args, below, meth, c, MQ below (CQ E ad0 K0 post) args s c0 s0 (fun q => sz0 E ≤ q), nL, K0, ad0) hX ⟨hr, hlocks, rfl⟩ rfl ad H locs ls hR he hs hv)
theorem thr_S {p : Program} {l : Launch} {e : Env} {R : Room} {s : State} {m : MethodId} {args : Array Value} {below : List Frame} {meth : Method} {c : Code} {T : State} {locs : List Loc} {H : Heap} (S : Stand p l e R s m args below meth c T locs a b) (hT : T.heap = H) (hs : ∀ z ∈ locs, sz0 E ≤ z.base) : va_S (fun q => sz0 E ≤ q) s.heap H locs := by
  have hfr := vx_frame (U := T.setFrames []) (S.ends []).2
  refine ⟨by rw [← hT]; exact hfr.1, fun q hq hA => ?_, hs⟩
  rw [← hT]
  exact hfr.2 q hq (fun z hz e => hA (e ▸ hs z hz))
theorem thr_good {own2 cls : String} {ic ik : Nat} (hk : Cond.classLink own2 ik cls ∈ tb) (hini : Cond.initialized cls ∈ tb) (hat : ∀ w ∈ vx_atS own2 ic cls NSx, w ∈ tb ∨ w ∈ exW) : ∀ w ∈ Cond.classLink own2 ik cls :: Cond.initialized cls :: vx_atS own2 ic cls NSx, vx_ot w = true := by
  have g : ∀ w, w ∈ tb → vx_ot w = true := fun w h => by unfold vx_ot; rw [(List.mem_filter.mp h).2, Bool.or_true]
  intro w hw
  rcases List.mem_cons.mp hw with rfl | hw
  · exact g _ hk
  rcases List.mem_cons.mp hw with rfl | hw
  · exact g _ hini
  rcases hat w hw with h | h
  · exact g _ h
  · unfold vx_ot; rw [exW_ot w h, Bool.true_or]
theorem J_thrS (hX : XO E X cc own nl d c0 s0) (hT : XT0 E X) (hXK : XK X = K) {rt : Option FieldType} {post : Option Value → (Nat → Nat) → MM → Prop} {M0 : MM} {xp : String → Prop} (hQ : XQX E X rt post M0 xp c0 s0) (hM : M = M0) {cls text : String} {ik is ic : Nat} (hcls : Bundle.fit cls = true) (hk : Cond.classLink own ik cls ∈ tb) (hini : Cond.initialized cls ∈ tb) (hat : ∀ w ∈ vx_atS own ic cls NSx, w ∈ tb ∨ w ∈ exW)
    (hE : ∀ U, SF E U → (∀ w ∈ exW, va_Nw w U) ∧ (vx_Zq Bundle.tN "UNASSIGNED_STACK" Bundle.steD (fun q => sz0 E ≤ q) U E.2.2.1 ∧ vx_Zq Bundle.tN "SUPPRESSED_SENTINEL" Bundle.listD (fun q => sz0 E ≤ q) U E.2.2.1) ∧ ∃ a, vk_R own is text a U)
    (d0 : decode cc pc = .ok (.new ik, 3)) (d3 : decode cc (pc + 3) = .ok (.dup, 1)) (d4 : decode cc (pc + 4) = .ok (.ldc is, 2)) (d6 : decode cc (pc + 6) = .ok (.invokespecial ic, 3)) (d9 : decode cc (pc + 9) = .ok (.athrow, 1)) (hd6 : 6 ≤ d) (hst : st = []) (hab : a + 1 ≤ c0 ∧ b + 6 ≤ s0) (hxp : xp cls) : J E X pc L st K M a b := by
  obtain ⟨p, l, e, R, s, m, args, below, meth, c, Q, nL, K0, ad0⟩ := X
  obtain ⟨hr, hlocks, rfl⟩ := hQ
  obtain ⟨hx, hb, ⟨hml, hnl⟩, hown, hts, ⟨r1, r2, r3, r4⟩, hKF⟩ := hX
  obtain ⟨ht1, ht2, ht3, ht4⟩ := hT
  obtain ⟨f1, ⟨f2, f3⟩, sa, f4⟩ := hE s hKF.2.2
  subst hst
  subst hM
  intro ad H locs ls hR he hs hv
  have hXK' : K0 = K := hXK
  obtain rfl : ad = ad0 := he.2 hXK'.symm
  have hh : ∀ a : Nat, a < E.2.2.1.size → ¬ sz0 E ≤ a → s.heap[a]? = E.2.2.1[a]? := fun a h _ => ht4 a h
  intro T hT' S
  exact vx_throwS (A := fun q => sz0 E ≤ q) hx hb ht2 hown hcls fit_NS (hts _ hk) (hts _ hini) f4 (fun w hw => by
    rcases hat w hw with h | h
    · exact hts w h
    · exact va_Nw.use (A := args) (exW_ot w h) (f1 w h)) (thr_good hk hini hat) (f2.kept hh) (f3.kept hh) (thr_S S hT' hs) (hv.1.trans hml.symm) d0 d3 d4 d6 d9 (fun x hx => (ht1 x hx).elim)
    (by show 2 + 3 < R.frames; omega) (by show 0 + (13 * (2 + 1) + 43) ≤ R.locals; omega) (by omega) (by omega) hlocks (fun t _ z o => ⟨hxp, by subst hXK'; exact Rep_grow hR z o⟩) hs hab.1 hab.2 T hT' S
theorem J_thrSW (hX : XO E X cc own nl d c0 s0) (hT : XT0 E X) (hXK : XK X = K) {rt : Option FieldType} {post : Option Value → (Nat → Nat) → MM → Prop} {M0 : MM} {xp : String → Prop} (hQ : XQX E X rt post M0 xp c0 s0) (hM : M = M0) {cls text : String} {ik is ic : Nat} (hcls : Bundle.fit cls = true) (hk : Cond.classLink own ik cls ∈ tb) (hini : Cond.initialized cls ∈ tb) (hat : ∀ w ∈ vx_atS own ic cls NSx, w ∈ tb ∨ w ∈ exW)
    (hE : ∀ U, SF E U → (∀ w ∈ exW, va_Nw w U) ∧ (vx_Zq Bundle.tN "UNASSIGNED_STACK" Bundle.steD (fun q => sz0 E ≤ q) U E.2.2.1 ∧ vx_Zq Bundle.tN "SUPPRESSED_SENTINEL" Bundle.listD (fun q => sz0 E ≤ q) U E.2.2.1) ∧ ∃ a, vk_R own is text a U)
    (d0 : decode cc pc = .ok (.new ik, 3)) (d3 : decode cc (pc + 3) = .ok (.dup, 1)) (d4 : decode cc (pc + 4) = .ok (.ldc_w is, 3)) (d6 : decode cc (pc + 7) = .ok (.invokespecial ic, 3)) (d9 : decode cc (pc + 10) = .ok (.athrow, 1)) (hd6 : 6 ≤ d) (hst : st = []) (hab : a + 1 ≤ c0 ∧ b + 6 ≤ s0) (hxp : xp cls) : J E X pc L st K M a b := by
  obtain ⟨p, l, e, R, s, m, args, below, meth, c, Q, nL, K0, ad0⟩ := X
  obtain ⟨hr, hlocks, rfl⟩ := hQ
  obtain ⟨hx, hb, ⟨hml, hnl⟩, hown, hts, ⟨r1, r2, r3, r4⟩, hKF⟩ := hX
  obtain ⟨ht1, ht2, ht3, ht4⟩ := hT
  obtain ⟨f1, ⟨f2, f3⟩, sa, f4⟩ := hE s hKF.2.2
  subst hst
  subst hM
  intro ad H locs ls hR he hs hv
  have hXK' : K0 = K := hXK
  obtain rfl : ad = ad0 := he.2 hXK'.symm
  have hh : ∀ a : Nat, a < E.2.2.1.size → ¬ sz0 E ≤ a → s.heap[a]? = E.2.2.1[a]? := fun a h _ => ht4 a h
  intro T hT' S
  exact vx_throwSW (A := fun q => sz0 E ≤ q) hx hb ht2 hown hcls fit_NS (hts _ hk) (hts _ hini) f4 (fun w hw => by
    rcases hat w hw with h | h
    · exact hts w h
    · exact va_Nw.use (A := args) (exW_ot w h) (f1 w h)) (thr_good hk hini hat) (f2.kept hh) (f3.kept hh) (thr_S S hT' hs) (hv.1.trans hml.symm) d0 d3 d4 d6 d9 (fun x hx => (ht1 x hx).elim)
    (by show 2 + 3 < R.frames; omega) (by show 0 + (13 * (2 + 1) + 43) ≤ R.locals; omega) (by omega) (by omega) hlocks (fun t _ z o => ⟨hxp, by subst hXK'; exact Rep_grow hR z o⟩) hs hab.1 hab.2 T hT' S
/-- a call of a method that may throw: out with it -/
theorem J_callSX (hX : XO E X cc own nl d c0 s0) (hT : XT0 E X) (hXK : XK X = K) {rt : Option FieldType} {post0 : Option Value → (Nat → Nat) → MM → Prop} {M0 : MM} {xp0 : String → Prop} (hQ : XQX E X rt post0 M0 xp0 c0 s0) (hM : M = M0) {idx dy ny mc ms : Nat} {y : MethodName} {cy : ByteArray} {rety : Option FieldType} {As : List Value} (rest : List Value) {post : Option Value → (Nat → Nat) → MM → Prop} {xp : String → Prop} (hd : decode cc pc = .ok (.invokestatic idx, 3)) (hw : CWS own idx y cy ny rety As.length) (hc : CnX E dy y cy ny rety As K M post xp mc ms)
    (hst : st = As.reverse ++ rest) (hcat : (rest.map fun v => v.category).sum ≤ 8) (hdp : dy + 1 ≤ d ∧ ny ≤ 18) (hcs : a + mc ≤ c0 ∧ b + ms ≤ s0)
    (hpost : ∀ r K' M', post r K' M' → K' = K) (hxp : ∀ nm, xp nm → xp0 nm) (k1 : ∀ r M', post r K M' → J E X (pc + 3) L (r.toList ++ rest) K M' (a + mc) (b + ms)) : J E X pc L st K M a b := by
  obtain ⟨p, l, e, R, s, m, args, below, meth, c, Q, nL, K0, ad0⟩ := X
  obtain ⟨hr, hlocks, rfl⟩ := hQ
  obtain ⟨hx, hb, ⟨hml, hnl⟩, hown, hts, hroom, hKF⟩ := hX
  obtain ⟨ht1, ht2, ht3, ht4⟩ := hT
  obtain ⟨w1, w2, w4, w5, w6⟩ := hw
  subst hM
  have hXK' : K0 = K := hXK
  subst hXK'
  intro ad H locs ls hR he hs hv T hT' S
  obtain rfl : ad = ad0 := he.2 rfl
  have hTg : GoodIn tb (va_wsS own idx y (ww y cy ny rety)) := by
    refine goodIn_tb fun w h => ?_
    rcases List.mem_append.mp h with h | h
    · simp only [List.mem_cons, List.not_mem_nil, or_false] at h
      rcases h with rfl | rfl | rfl <;> assumption
    · exact (ww_good w5 w h).1
  have hl := hc l ad ht2
  have hrun := vx_runS (R := R) (H := H) (locs := locs) (cells := a) (slots := b) (meth := meth) (below := below) (e := e) (rest := rest.map (cv ad)) (g := F0 m pc ls (st.map (cv ad))) (As := As.map (cv ad)) (Ts := tb) (nL := nL) ⟨hx, hb, hml, hown, hts⟩ hl
    (va_cwS As.length hts hTg rfl rfl rfl w6 ⟨by show dy + 1 ≤ R.frames; omega, by show 8 + (ny + 11) + 37 * dy ≤ R.locals; omega⟩)
    ⟨blindC, fun U hU hW => ⟨rfl, by rw [hU]; exact hR, KF_warm hW hKF⟩⟩ rfl (by simp) hv.1 (by rw [hst]; simp [List.map_reverse]) (lv_room (by rw [cv_cats]; exact hcat)) hd ⟨by omega, by omega⟩
  rcases hrun T hT' S with ⟨v, st₀, t, T', L', h0, S', hL, e1, e2, ⟨r, K', M', ad', g1, g2, g3, g4⟩, go⟩ | ⟨q, st₀, t, T', L', Ex, ce, h0, S', hL, e1, e2, ⟨hxp1, hRx⟩, hce, hcv, hcl, go⟩
  · have hK' := hpost r K' M' g2
    subst hK'
    have had := g4.2 rfl
    subst had
    cases g1
    obtain ⟨t2, a1, b1⟩ := k1 r M' g2 ad' T'.heap (locs ++ L') ls (by rw [e1]; exact g3) he (fun z hz => by
      rcases List.mem_append.mp hz with h | h
      · exact hs z h
      · exact hL z h) hv T' rfl S'
    refine ⟨t2, go t2 ?_, b1⟩
    have e5 : (r.map (cv ad')).toList ++ rest.map (cv ad') = (r.toList ++ rest).map (cv ad') := by cases r <;> simp
    show Steps _ _ _ (T'.setTop { F0 m pc ls (st.map (cv ad')) with pc := pc + 3, stack := (r.map (cv ad')).toList ++ rest.map (cv ad') }) t2
    rw [e5]
    exact a1
  · obtain ⟨t2, a1, b1⟩ := vx_out (l := l) (R := R) (H := T'.heap) (locs := locs ++ L') (cells := a + mc) (slots := b + ms) (ls := ls) (rest := rest.map (cv ad)) (pc := pc) (Qc := CQ E ad K0 post0) (XC := XTp E ad K0 M xp0) (free := fun q => sz0 E ≤ q) (mc := c0) (ms := s0) (fun x hx => (ht1 x hx).elim) hlocks (by rw [e1]; exact hce) hcv hcl (fun t2 ht2 _ => ⟨hxp _ hxp1, by rw [ht2, e1]; exact hRx⟩) (fun z hz => by
      rcases List.mem_append.mp hz with h | h
      · exact hs z h
      · exact hL z h) hcs.1 hcs.2 T' rfl S'
    exact ⟨t2, go.trans a1, b1⟩
end RULES
def xpF (f : Int) (nm : String) : Prop := f = 1 ∧ nm = xIO ∨ f = 2 ∧ nm = xIA ∨ f = 3 ∧ nm = xIS
set_option maxHeartbeats 4000000 in
set_option maxRecDepth 100000 in
theorem m_X9_refuse {E : EE} {K : Nat → Nat} {M : MM} {f : Int} (hE : ∀ U, SF E U → ThF E U) (hf : i32 f) : CnX E 6 yX9_refuse cX9_refuse 1 none [vI f] K M (fun r K' M' => r = none ∧ K' = K ∧ M' = M ∧ ¬ (1 ≤ f ∧ f ≤ 3)) (xpF f) 1 6 := by
  refine CnX_of RX9 (by decide) rfl (Nat.le_of_ble_eq_true rfl) (fun X hX hQ hXK hT => ?_)
  refine J_iload_n hX dX9_refuse_0 rfl ?_
  refine J_iconst hX dX9_refuse_1 ?_
  refine J_icmp_ne hX 15 dX9_refuse_2 (by omega) (by decide) (by decide) (fun c2 => ?_) (fun c2 => ?_)
  · refine J_iload_n hX dX9_refuse_15 rfl ?_
    refine J_iconst hX dX9_refuse_16 ?_
    refine J_icmp_ne hX 31 dX9_refuse_17 (by omega) (by decide) (by decide) (fun c17 => ?_) (fun c17 => ?_)
    · refine J_iload_n hX dX9_refuse_31 rfl ?_
      refine J_iconst hX dX9_refuse_32 ?_
      refine J_icmp_ne hX 47 dX9_refuse_33 (by omega) (by decide) (by decide) (fun c33 => ?_) (fun c33 => ?_)
      · exact J_vx hX hQ (fun X2 hX2 hQ2 _ => J_vret hX2 hQ2 dX9_refuse_47 ⟨rfl, rfl, rfl, by omega⟩ (by decide) (by decide))
      · exact J_thrSW hX hT hXK hQ rfl fit_ISE ck_ISE ci_ISE ag_ISE (fun U h => ⟨(hE U h).1, (hE U h).2.1, (hE U h).2.2.2.2⟩) dX9_refuse_36 dX9_refuse_39 dX9_refuse_40 dX9_refuse_43 dX9_refuse_46 (by decide) rfl (by decide) (Or.inr (Or.inr ⟨c33, rfl⟩))
    · exact J_thrSW hX hT hXK hQ rfl fit_IAE ck_IAE ci_IAE ag_IAE (fun U h => ⟨(hE U h).1, (hE U h).2.1, (hE U h).2.2.2.1⟩) dX9_refuse_20 dX9_refuse_23 dX9_refuse_24 dX9_refuse_27 dX9_refuse_30 (by decide) rfl (by decide) (Or.inr (Or.inl ⟨c17, rfl⟩))
  · exact J_thrS hX hT hXK hQ rfl fit_IOOB ck_IOOB ci_IOOB ag_IOOB (fun U h => ⟨(hE U h).1, (hE U h).2.1, (hE U h).2.2.1⟩) dX9_refuse_5 dX9_refuse_8 dX9_refuse_9 dX9_refuse_11 dX9_refuse_14 (by decide) rfl (by decide) (Or.inl ⟨c2, rfl⟩)
