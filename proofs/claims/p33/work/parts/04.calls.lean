/-! entry and calls -/
theorem lg_sl_len (ad : Nat → Nat) (av : List Value) : (lg_sl (av.map (cv ad))).length = (lg_sl av).length := by
  induction av with
  | nil => rfl
  | cons v t ih =>
    have h := cv_cat ad v
    unfold lg_sl at ih ⊢
    rw [List.map_cons, List.flatMap_cons, List.flatMap_cons, List.length_append, List.length_append, ih, h]
    by_cases q : v.category = 2 <;> simp [q]
theorem lv_args_map (ad : Nat → Nat) (av : List Value) : ∀ i, lv_args i (av.map (cv ad)) = mlv ad (lv_args i av) := by
  induction av with
  | nil => intro i; rfl
  | cons v t ih =>
    intro i
    show (i, cv ad v) :: lv_args (if (cv ad v).category = 2 then i + 2 else i + 1) (t.map (cv ad)) = (i, cv ad v) :: mlv ad (lv_args (if v.category = 2 then i + 2 else i + 1) t)
    rw [ih, cv_cat]
theorem Cn_of {E : EE} {d : Nat} {y : MethodName} {cc : ByteArray} {n : Nat} {ret : Option FieldType} {av : List Value} {K : Nat → Nat} {M : MM} {post : Option Value → (Nat → Nat) → MM → Prop} {mc ms : Nat} (own : String) (hy : plainFor y = true) (hown : y.cls = own) (hlen : (lg_sl av).length ≤ n)
    (body : ∀ X : JX, XO E X cc own n d mc ms → XQ E X ret post mc ms → J E X 0 (lv_args 0 av) [] K M 0 0) : Cn E d y cc n ret av K M post mc ms := by
  intro l ad
  refine va_MetF (cc := cc) (maxL := n) (ret := ret) (ws' := tb) hy rfl ?_
  intro p e s m args below meth c s₁ B hml hv
  obtain ⟨rfl, hR, hKF⟩ := hv
  have hx := B.exec
  have hb := B.bytes
  have hr := B.returns
  have hts := atoms_spec (ws := ww y cc n ret) B.pre
  have hown' : s.vm.findClass own = some m.cls := hown ▸ findClass_of_methodNamed B.named
  have hlocks := B.notSynchronized
  have hl := lv_entry (av.map (cv ad)) (n := n) (by rw [lg_sl_len]; exact hlen)
  rw [lg_entry_eq]
  generalize (lg_sl (av.map (cv ad)) ++ List.replicate (n - (lg_sl (av.map (cv ad))).length) Slot.unset).toArray = ls at hl ⊢
  rw [lv_args_map] at hl
  exact body (p, l, e, (headSpec (ww y cc n ret) (rmD d mc ms)).room, s, m, (av.map (cv ad)).toArray, below, meth, c, MQ below (CQ E ad K post) (av.map (cv ad)).toArray s mc ms (fun q => sz0 E ≤ q), n, K, ad)
    ⟨hx, hb, ⟨hml, rfl⟩, hown', fun w hw => hts w (List.mem_cons_of_mem _ hw), ⟨Nat.le_refl _, Nat.le_refl _, Nat.le_refl _, Nat.le_refl _⟩, hKF⟩ ⟨hr, hlocks, rfl⟩ ad s.heap [] ls hR ⟨fun _ _ => rfl, fun _ => rfl⟩ (fun z hz => by cases hz) hl
def CWb (y : MethodName) (cy : ByteArray) (ny : Nat) (rety : Option FieldType) (n : Nat) : Prop := Cond.initialized y.cls ∈ tb ∧ Cond.code y cy ny rety ∈ tb ∧ (y.cls ≠ "java/lang/invoke/MethodHandle" ∧ y.cls ≠ "java/lang/invoke/VarHandle" ∧ (parseMethodDescriptor y.desc).map (fun d => d.parameters.length) = some n)
def CWV (own : String) (idx : Nat) (y : MethodName) (cy : ByteArray) (ny : Nat) (rety : Option FieldType) (n : Nat) : Prop := Cond.methodLink own idx y ∈ tb ∧ Cond.instanceMethod y ∈ tb ∧ Cond.selects y.cls y y ∈ tb ∧ CWb y cy ny rety n
def CWS (own : String) (idx : Nat) (y : MethodName) (cy : ByteArray) (ny : Nat) (rety : Option FieldType) (n : Nat) : Prop := Cond.methodLink own idx y ∈ tb ∧ Cond.static y ∈ tb ∧ CWb y cy ny rety n
def CWN (own : String) (idx : Nat) (y : MethodName) (cy : ByteArray) (ny : Nat) (rety : Option FieldType) (n : Nat) (host : String) : Prop := (own, idx, y, host) ∈ nwM ∧ Cond.static y ∈ tb ∧ CWb y cy ny rety n
theorem ww_good {y : MethodName} {cy : ByteArray} {ny : Nat} {rety : Option FieldType} (h : Cond.code y cy ny rety ∈ tb) : GoodIn tb (ww y cy ny rety) := goodIn_tb fun w hw => by
  rcases List.mem_cons.mp hw with rfl | h1
  · exact h
  · exact h1
/-- a reading method with an int's answer -/
def CnI (E : EE) (d : Nat) (y : MethodName) (cc : ByteArray) (n : Nat) (ret : Option FieldType) (av : List Value) (K : Nat → Nat) (M : MM) (x : Int) : Prop :=
  Cn E d y cc n ret av K M (fun r K' M' => r = some (vI x) ∧ K' = K ∧ M' = M) 0 0 ∧ i32 x
/-- .. with a boolean's -/
def CnB (E : EE) (d : Nat) (y : MethodName) (cc : ByteArray) (n : Nat) (av : List Value) (K : Nat → Nat) (M : MM) (P : Prop) [Decidable P] : Prop :=
  Cn E d y cc n (some .boolean) av K M (fun r K' M' => r = some (vI (bI P)) ∧ K' = K ∧ M' = M) 0 0
/-- a method that changes the memory, no ids -/
def CnM (E : EE) (d : Nat) (y : MethodName) (cc : ByteArray) (n : Nat) (ret : Option FieldType) (av : List Value) (K : Nat → Nat) (M : MM) (post : Option Value → MM → Prop) : Prop :=
  Cn E d y cc n ret av K M (fun r K' M' => K' = K ∧ post r M') 0 0
section RULES
variable {E : EE} {X : JX} {cc : ByteArray} {own : String} {nl d c0 s0 : Nat} {pc : Nat} {L : List (Nat × Value)} {st : List Value} {K : Nat → Nat} {M : MM} {a b : Nat}
theorem blindC {E : EE} {ad K : Nat → Nat} {M : MM} {av : List Value} : FrameBlind (va_Pc av (fun U => Rep E ad K M U.heap ∧ KF E U)) := fun _ U g mk h => ⟨h.1, h.2.1, KF_same (u := U) rfl h.2.2⟩
theorem J_run {rest : List Value} {post : Option Value → (Nat → Nat) → MM → Prop} {mc ms : Nat} {x : List Value}
    (hr : ∀ (ad : Nat → Nat) (H : Heap) (locs : List Loc) (ls : Array Slot), match X with | (p, l, e, R, s, m, args, below, meth, c, Q, nL, K0, ad0) => Rep E ad K M H → ls.size = nL → va_Run p l e R s m args below meth c H locs a b mc ms (F0 m pc ls (st.map (cv ad))) (rest.map (cv ad)) (CQ E ad K post (x.map (cv ad)).toArray) (fun q => sz0 E ≤ q))
    (hpost : ∀ r K' M', post r K' M' → K' = K) (k1 : ∀ r M', post r K M' → J E X (pc + 3) L (r.toList ++ rest) K M' (a + mc) (b + ms)) : J E X pc L st K M a b := by
  obtain ⟨p, l, e, R, s, m, args, below, meth, c, Q, nL, K0, ad0⟩ := X
  intro ad H locs ls hR he hs hv T hT S
  obtain ⟨v, st₀, t, T', L', h0, S', hL, e1, e2, ⟨r, K', M', ad', g1, g2, g3, g4⟩, go⟩ := hr ad H locs ls hR hv.1 T hT S
  have hK' := hpost r K' M' g2
  subst hK'
  have had := g4.2 rfl
  subst had
  cases g1
  obtain ⟨t2, a1, b1⟩ := k1 r M' g2 ad' T'.heap (locs ++ L') ls (by rw [e1]; exact g3) he (fun z hz => by
    rcases List.mem_append.mp hz with h | h
    · exact hs z h
    · exact hL z h) hv T' rfl S'
  refine ⟨t2, go t2 ?_, b1⟩
  have e5 : (r.map (cv ad')).toList ++ rest.map (cv ad') = (r.toList ++ rest).map (cv ad') := by cases r <;> simp
  show Steps _ _ _ (T'.setTop { F0 m pc ls (st.map (cv ad')) with pc := pc + 3, stack := (r.map (cv ad')).toList ++ rest.map (cv ad') }) t2
  rw [e5]
  exact a1
theorem J_callV (hX : XO E X cc own nl d c0 s0) {idx i k dy ny mc ms : Nat} {y : MethodName} {cy : ByteArray} {rety : Option FieldType} {As : List Value} (rest : List Value) {post : Option Value → (Nat → Nat) → MM → Prop} (hd : decode cc pc = .ok (.invokevirtual idx, 3)) (hw : CWV own idx y cy ny rety As.length) (hc : Cn E dy y cy ny rety (.ref i :: As) K M post mc ms)
    (hk : K i = k ∧ 0 < k ∧ k < 10 ∧ (vwCl[k - 1]?).map (fun q => q.1) = some y.cls) (hst : st = As.reverse ++ .ref i :: rest) (hcat : (rest.map fun v => v.category).sum ≤ 8) (hdp : dy + 1 ≤ d ∧ ny ≤ 18) (hcs : a + mc ≤ c0 ∧ b + ms ≤ s0)
    (hpost : ∀ r K' M', post r K' M' → K' = K) (k1 : ∀ r M', post r K M' → J E X (pc + 3) L (r.toList ++ rest) K M' (a + mc) (b + ms)) : J E X pc L st K M a b := by
  obtain ⟨p, l, e, R, s, m, args, below, meth, c, Q, nL, K0, ad0⟩ := X
  refine J_run (x := .ref i :: As) (rest := rest) (fun ad H locs ls hR hsz => ?_) hpost k1
  obtain ⟨hx, hb, ⟨hml, hnl⟩, hown, hts, hroom, hKF⟩ := hX
  obtain ⟨w1, w2, w3, w4, w5, w6⟩ := hw
  obtain ⟨hk1, hk2, hk3, hk4⟩ := hk
  have hat := hR.1 i (by omega)
  rw [hk1, ce_obj hk3] at hat
  have hP : va_P E.1 vwCl [(ad i, .inr (k - 1, (List.range (nf k)).map (fun f => fv E ad k i f M)))] H := fun j q hq => by
    cases j with
    | zero => cases hq; exact hat
    | succ j => cases hq
  obtain ⟨⟨C, T, N⟩, hq, hqc⟩ : ∃ q, vwCl[k - 1]? = some q ∧ q.1 = y.cls := by
    cases hv : vwCl[k - 1]? with
    | none => rw [hv] at hk4; cases hk4
    | some q => rw [hv] at hk4; exact ⟨q, rfl, Option.some.inj hk4⟩
  dsimp only at hqc
  subst hqc
  have hT : GoodIn tb (wsV own idx y.cls y (ww y cy ny rety)) := by
    refine goodIn_tb fun w h => ?_
    rcases List.mem_append.mp h with h | h
    · simp only [List.mem_cons, List.not_mem_nil, or_false] at h
      rcases h with rfl | rfl | rfl | rfl <;> assumption
    · exact (ww_good w5 w h).1
  have hl := hc l ad
  have hrun := va_runV (R := R) (H := H) (locs := locs) (cells := a) (slots := b) (meth := meth) (below := below) (e := e) (rest := rest.map (cv ad)) (g := F0 m pc ls (st.map (cv ad))) (As := As.map (cv ad)) (b := ad i) (Ts := tb) (nL := nL) ⟨hx, hb, hml, hown, hts⟩ hl
    (cwV As.length hts hT rfl rfl rfl ⟨rfl, w6⟩ ⟨by show dy + 1 ≤ R.frames; omega, by show 8 + (ny + 11) + 37 * dy ≤ R.locals; omega⟩)
    ⟨blindC, va_recv hKF.1 hP (ci := k - 1) (q0 := 0) hq rfl, fun U hU hW => ⟨rfl, by rw [hU]; exact hR, KF_warm hW hKF⟩⟩ rfl (by simp) hsz (by rw [hst]; simp [cv, List.map_reverse]) (lv_room (by rw [cv_cats]; exact hcat)) hd ⟨by omega, by omega⟩
  exact hrun
theorem J_callS (hX : XO E X cc own nl d c0 s0) {idx dy ny mc ms : Nat} {y : MethodName} {cy : ByteArray} {rety : Option FieldType} {As : List Value} (rest : List Value) {post : Option Value → (Nat → Nat) → MM → Prop} (hd : decode cc pc = .ok (.invokestatic idx, 3)) (hw : CWS own idx y cy ny rety As.length) (hc : Cn E dy y cy ny rety As K M post mc ms)
    (hst : st = As.reverse ++ rest) (hcat : (rest.map fun v => v.category).sum ≤ 8) (hdp : dy + 1 ≤ d ∧ ny ≤ 18) (hcs : a + mc ≤ c0 ∧ b + ms ≤ s0)
    (hpost : ∀ r K' M', post r K' M' → K' = K) (k1 : ∀ r M', post r K M' → J E X (pc + 3) L (r.toList ++ rest) K M' (a + mc) (b + ms)) : J E X pc L st K M a b := by
  obtain ⟨p, l, e, R, s, m, args, below, meth, c, Q, nL, K0, ad0⟩ := X
  refine J_run (x := As) (rest := rest) (fun ad H locs ls hR hsz => ?_) hpost k1
  obtain ⟨hx, hb, ⟨hml, hnl⟩, hown, hts, hroom, hKF⟩ := hX
  obtain ⟨w1, w2, w4, w5, w6⟩ := hw
  have hT : GoodIn tb (va_wsS own idx y (ww y cy ny rety)) := by
    refine goodIn_tb fun w h => ?_
    rcases List.mem_append.mp h with h | h
    · simp only [List.mem_cons, List.not_mem_nil, or_false] at h
      rcases h with rfl | rfl | rfl <;> assumption
    · exact (ww_good w5 w h).1
  have hl := hc l ad
  have hrun := va_runS (R := R) (H := H) (locs := locs) (cells := a) (slots := b) (meth := meth) (below := below) (e := e) (rest := rest.map (cv ad)) (g := F0 m pc ls (st.map (cv ad))) (As := As.map (cv ad)) (Ts := tb) (nL := nL) ⟨hx, hb, hml, hown, hts⟩ hl
    (va_cwS As.length hts hT rfl rfl rfl w6 ⟨by show dy + 1 ≤ R.frames; omega, by show 8 + (ny + 11) + 37 * dy ≤ R.locals; omega⟩)
    ⟨blindC, fun U hU hW => ⟨rfl, by rw [hU]; exact hR, KF_warm hW hKF⟩⟩ rfl (by simp) hsz (by rw [hst]; simp [List.map_reverse]) (lv_room (by rw [cv_cats]; exact hcat)) hd ⟨by omega, by omega⟩
  exact hrun
theorem J_callSN (hX : XO E X cc own nl d c0 s0) {idx dy ny mc ms : Nat} {y : MethodName} {cy : ByteArray} {rety : Option FieldType} {host : String} {As : List Value} (rest : List Value) {post : Option Value → (Nat → Nat) → MM → Prop} (hd : decode cc pc = .ok (.invokestatic idx, 3)) (hw : CWN own idx y cy ny rety As.length host) (hc : Cn E dy y cy ny rety As K M post mc ms)
    (hst : st = As.reverse ++ rest) (hcat : (rest.map fun v => v.category).sum ≤ 8) (hdp : dy + 1 ≤ d ∧ ny ≤ 18) (hcs : a + mc ≤ c0 ∧ b + ms ≤ s0)
    (hpost : ∀ r K' M', post r K' M' → K' = K) (k1 : ∀ r M', post r K M' → J E X (pc + 3) L (r.toList ++ rest) K M' (a + mc) (b + ms)) : J E X pc L st K M a b := by
  obtain ⟨p, l, e, R, s, m, args, below, meth, c, Q, nL, K0, ad0⟩ := X
  refine J_run (x := As) (rest := rest) (fun ad H locs ls hR hsz => ?_) hpost k1
  obtain ⟨hx, hb, ⟨hml, hnl⟩, hown, hts, hroom, hKF⟩ := hX
  obtain ⟨w1, w2, w4, w5, w6⟩ := hw
  have hl := hc l ad
  have hrun := va_runSN (R := R) (H := H) (locs := locs) (cells := a) (slots := b) (meth := meth) (below := below) (e := e) (rest := rest.map (cv ad)) (g := F0 m pc ls (st.map (cv ad))) (As := As.map (cv ad)) (Ts := tb) (nL := nL) ⟨hx, hb, hml, hown, hts⟩ hl
    ⟨va_cnB As.length hts (ww_good w5) rfl rfl rfl (hKF.2.1.1 _ w1) (hts _ w4) w6 ⟨by show dy + 1 ≤ R.frames; omega, by show 8 + (ny + 11) + 37 * dy ≤ R.locals; omega⟩, hts _ w2, trivial⟩
    ⟨blindC, fun U hU hW => ⟨rfl, by rw [hU]; exact hR, KF_warm hW hKF⟩⟩ rfl (by simp) hsz (by rw [hst]; simp [List.map_reverse]) (lv_room (by rw [cv_cats]; exact hcat)) hd ⟨by omega, by omega⟩
  exact hrun
theorem J_callVI (hX : XO E X cc own nl d c0 s0) {idx i k dy ny : Nat} {y : MethodName} {cy : ByteArray} {rety : Option FieldType} {As : List Value} (rest : List Value) {x : Int} (hd : decode cc pc = .ok (.invokevirtual idx, 3)) (hw : CWV own idx y cy ny rety As.length) (hc : CnI E dy y cy ny rety (.ref i :: As) K M x) (hk : K i = k ∧ 0 < k ∧ k < 10 ∧ (vwCl[k - 1]?).map (fun q => q.1) = some y.cls)  (hst : st = As.reverse ++ .ref i :: rest) (hcat : (rest.map fun v => v.category).sum ≤ 8) (hdp : dy + 1 ≤ d ∧ ny ≤ 18) (hab : a ≤ c0 ∧ b ≤ s0) (k1 : i32 x → J E X (pc + 3) L (vI x :: rest) K M a b) : J E X pc L st K M a b :=
  J_callV hX rest hd hw hc.1 hk hst hcat hdp hab (fun _ _ _ h => h.2.1) (fun r M' h => by obtain ⟨rfl, -, rfl⟩ := h; exact k1 hc.2)
theorem J_callVB (hX : XO E X cc own nl d c0 s0) {idx i k dy ny : Nat} {y : MethodName} {cy : ByteArray} {As : List Value} (rest : List Value) {P : Prop} [Decidable P] (hd : decode cc pc = .ok (.invokevirtual idx, 3)) (hw : CWV own idx y cy ny (some .boolean) As.length) (hc : CnB E dy y cy ny (.ref i :: As) K M P) (hk : K i = k ∧ 0 < k ∧ k < 10 ∧ (vwCl[k - 1]?).map (fun q => q.1) = some y.cls)  (hst : st = As.reverse ++ .ref i :: rest) (hcat : (rest.map fun v => v.category).sum ≤ 8) (hdp : dy + 1 ≤ d ∧ ny ≤ 18) (hab : a ≤ c0 ∧ b ≤ s0) (k1 : J E X (pc + 3) L (vI (bI P) :: rest) K M a b) : J E X pc L st K M a b :=
  J_callV hX rest hd hw hc hk hst hcat hdp hab (fun _ _ _ h => h.2.1) (fun r M' h => by obtain ⟨rfl, -, rfl⟩ := h; exact k1)
theorem J_callVM (hX : XO E X cc own nl d c0 s0) {idx i k dy ny : Nat} {y : MethodName} {cy : ByteArray} {rety : Option FieldType} {As : List Value} (rest : List Value) {post : Option Value → MM → Prop} (hd : decode cc pc = .ok (.invokevirtual idx, 3)) (hw : CWV own idx y cy ny rety As.length) (hc : CnM E dy y cy ny rety (.ref i :: As) K M post) (hk : K i = k ∧ 0 < k ∧ k < 10 ∧ (vwCl[k - 1]?).map (fun q => q.1) = some y.cls)  (hst : st = As.reverse ++ .ref i :: rest) (hcat : (rest.map fun v => v.category).sum ≤ 8) (hdp : dy + 1 ≤ d ∧ ny ≤ 18) (hab : a ≤ c0 ∧ b ≤ s0) (k1 : ∀ r M', post r M' → J E X (pc + 3) L (r.toList ++ rest) K M' a b) : J E X pc L st K M a b :=
  J_callV hX rest hd hw hc hk hst hcat hdp hab (fun _ _ _ h => h.1) (fun r M' h => k1 r M' h.2)
theorem J_callSI (hX : XO E X cc own nl d c0 s0) {idx dy ny : Nat} {y : MethodName} {cy : ByteArray} {rety : Option FieldType} {As : List Value} (rest : List Value) {x : Int} (hd : decode cc pc = .ok (.invokestatic idx, 3)) (hw : CWS own idx y cy ny rety As.length) (hc : CnI E dy y cy ny rety As K M x)  (hst : st = As.reverse ++ rest) (hcat : (rest.map fun v => v.category).sum ≤ 8) (hdp : dy + 1 ≤ d ∧ ny ≤ 18) (hab : a ≤ c0 ∧ b ≤ s0) (k1 : i32 x → J E X (pc + 3) L (vI x :: rest) K M a b) : J E X pc L st K M a b :=
  J_callS hX rest hd hw hc.1 hst hcat hdp hab (fun _ _ _ h => h.2.1) (fun r M' h => by obtain ⟨rfl, -, rfl⟩ := h; exact k1 hc.2)
theorem J_callSB (hX : XO E X cc own nl d c0 s0) {idx dy ny : Nat} {y : MethodName} {cy : ByteArray} {As : List Value} (rest : List Value) {P : Prop} [Decidable P] (hd : decode cc pc = .ok (.invokestatic idx, 3)) (hw : CWS own idx y cy ny (some .boolean) As.length) (hc : CnB E dy y cy ny As K M P)  (hst : st = As.reverse ++ rest) (hcat : (rest.map fun v => v.category).sum ≤ 8) (hdp : dy + 1 ≤ d ∧ ny ≤ 18) (hab : a ≤ c0 ∧ b ≤ s0) (k1 : J E X (pc + 3) L (vI (bI P) :: rest) K M a b) : J E X pc L st K M a b :=
  J_callS hX rest hd hw hc hst hcat hdp hab (fun _ _ _ h => h.2.1) (fun r M' h => by obtain ⟨rfl, -, rfl⟩ := h; exact k1)
theorem J_callSM (hX : XO E X cc own nl d c0 s0) {idx dy ny : Nat} {y : MethodName} {cy : ByteArray} {rety : Option FieldType} {As : List Value} (rest : List Value) {post : Option Value → MM → Prop} (hd : decode cc pc = .ok (.invokestatic idx, 3)) (hw : CWS own idx y cy ny rety As.length) (hc : CnM E dy y cy ny rety As K M post)  (hst : st = As.reverse ++ rest) (hcat : (rest.map fun v => v.category).sum ≤ 8) (hdp : dy + 1 ≤ d ∧ ny ≤ 18) (hab : a ≤ c0 ∧ b ≤ s0) (k1 : ∀ r M', post r M' → J E X (pc + 3) L (r.toList ++ rest) K M' a b) : J E X pc L st K M a b :=
  J_callS hX rest hd hw hc hst hcat hdp hab (fun _ _ _ h => h.1) (fun r M' h => k1 r M' h.2)
theorem J_callNI (hX : XO E X cc own nl d c0 s0) {idx dy ny : Nat} {y : MethodName} {cy : ByteArray} {rety : Option FieldType} {host : String} {As : List Value} (rest : List Value) {x : Int} (hd : decode cc pc = .ok (.invokestatic idx, 3)) (hw : CWN own idx y cy ny rety As.length host) (hc : CnI E dy y cy ny rety As K M x)  (hst : st = As.reverse ++ rest) (hcat : (rest.map fun v => v.category).sum ≤ 8) (hdp : dy + 1 ≤ d ∧ ny ≤ 18) (hab : a ≤ c0 ∧ b ≤ s0) (k1 : i32 x → J E X (pc + 3) L (vI x :: rest) K M a b) : J E X pc L st K M a b :=
  J_callSN hX rest hd hw hc.1 hst hcat hdp hab (fun _ _ _ h => h.2.1) (fun r M' h => by obtain ⟨rfl, -, rfl⟩ := h; exact k1 hc.2)
theorem J_callNB (hX : XO E X cc own nl d c0 s0) {idx dy ny : Nat} {y : MethodName} {cy : ByteArray} {host : String} {As : List Value} (rest : List Value) {P : Prop} [Decidable P] (hd : decode cc pc = .ok (.invokestatic idx, 3)) (hw : CWN own idx y cy ny (some .boolean) As.length host) (hc : CnB E dy y cy ny As K M P)  (hst : st = As.reverse ++ rest) (hcat : (rest.map fun v => v.category).sum ≤ 8) (hdp : dy + 1 ≤ d ∧ ny ≤ 18) (hab : a ≤ c0 ∧ b ≤ s0) (k1 : J E X (pc + 3) L (vI (bI P) :: rest) K M a b) : J E X pc L st K M a b :=
  J_callSN hX rest hd hw hc hst hcat hdp hab (fun _ _ _ h => h.2.1) (fun r M' h => by obtain ⟨rfl, -, rfl⟩ := h; exact k1)
theorem J_callNM (hX : XO E X cc own nl d c0 s0) {idx dy ny : Nat} {y : MethodName} {cy : ByteArray} {rety : Option FieldType} {host : String} {As : List Value} (rest : List Value) {post : Option Value → MM → Prop} (hd : decode cc pc = .ok (.invokestatic idx, 3)) (hw : CWN own idx y cy ny rety As.length host) (hc : CnM E dy y cy ny rety As K M post)  (hst : st = As.reverse ++ rest) (hcat : (rest.map fun v => v.category).sum ≤ 8) (hdp : dy + 1 ≤ d ∧ ny ≤ 18) (hab : a ≤ c0 ∧ b ≤ s0) (k1 : ∀ r M', post r M' → J E X (pc + 3) L (r.toList ++ rest) K M' a b) : J E X pc L st K M a b :=
  J_callSN hX rest hd hw hc hst hcat hdp hab (fun _ _ _ h => h.1) (fun r M' h => k1 r M' h.2)
theorem J_ifb_ne (hX : XO E X cc own nl d c0 s0) {P : Prop} [Decidable P] {off : Int} (t : Nat) (hd : decode cc pc = .ok (.ifCond .ne off, 3)) (ht : (pc : Int) + off = (t : Int)) (kt : P → J E X t L st K M a b) (kf : ¬ P → J E X (pc + 3) L st K M a b) : J E X pc L (vI (bI P) :: st) K M a b :=
  J_if_ne hX t hd (by rcases bI_01 P with h | h <;> omega) ht (fun h => kt (by rcases bI_01 P with q | q; exact absurd q h; exact bI_1.mp q)) (fun h => kf (bI_0.mp h))
theorem J_ifb_eq (hX : XO E X cc own nl d c0 s0) {P : Prop} [Decidable P] {off : Int} (t : Nat) (hd : decode cc pc = .ok (.ifCond .eq off, 3)) (ht : (pc : Int) + off = (t : Int)) (kt : ¬ P → J E X t L st K M a b) (kf : P → J E X (pc + 3) L st K M a b) : J E X pc L (vI (bI P) :: st) K M a b :=
  J_if_eq hX t hd (by rcases bI_01 P with h | h <;> omega) ht (fun h => kt (bI_0.mp h)) (fun h => kf (by rcases bI_01 P with q | q; exact absurd q h; exact bI_1.mp q))
theorem J_retI (hX : XO E X cc own nl d c0 s0) {K0 : Nat → Nat} {M0 : MM} {x y : Int} (hQ : XQ E X (some .int) (fun r K' M' => r = some (vI y) ∧ K' = K0 ∧ M' = M0) c0 s0) (hd : decode cc pc = .ok (.ireturn, 1)) (hp : x = y) (hK : K = K0) (hM : M = M0) (ha : a ≤ c0) (hb : b ≤ s0) : J E X pc L [vI x] K M a b :=
  J_iret hX hQ hd ⟨by rw [hp], hK, hM⟩ ha hb
theorem J_retT (hX : XO E X cc own nl d c0 s0) {K0 : Nat → Nat} {M0 : MM} {P : Prop} [Decidable P] (hQ : XQ E X (some .boolean) (fun r K' M' => r = some (vI (bI P)) ∧ K' = K0 ∧ M' = M0) c0 s0) (hd : decode cc pc = .ok (.ireturn, 1)) (hp : P) (hK : K = K0) (hM : M = M0) (ha : a ≤ c0) (hb : b ≤ s0) : J E X pc L [vI 1] K M a b :=
  J_zret hX hQ hd (Or.inr rfl) ⟨by rw [bI_t hp], hK, hM⟩ ha hb
theorem J_retF (hX : XO E X cc own nl d c0 s0) {K0 : Nat → Nat} {M0 : MM} {P : Prop} [Decidable P] (hQ : XQ E X (some .boolean) (fun r K' M' => r = some (vI (bI P)) ∧ K' = K0 ∧ M' = M0) c0 s0) (hd : decode cc pc = .ok (.ireturn, 1)) (hp : ¬ P) (hK : K = K0) (hM : M = M0) (ha : a ≤ c0) (hb : b ≤ s0) : J E X pc L [vI 0] K M a b :=
  J_zret hX hQ hd (Or.inl rfl) ⟨by rw [bI_f hp], hK, hM⟩ ha hb
theorem J_retB (hX : XO E X cc own nl d c0 s0) {K0 : Nat → Nat} {M0 : MM} {P P2 : Prop} [Decidable P] [Decidable P2] (hQ : XQ E X (some .boolean) (fun r K' M' => r = some (vI (bI P)) ∧ K' = K0 ∧ M' = M0) c0 s0) (hd : decode cc pc = .ok (.ireturn, 1)) (hp : P2 ↔ P) (hK : K = K0) (hM : M = M0) (ha : a ≤ c0) (hb : b ≤ s0) : J E X pc L [vI (bI P2)] K M a b :=
  J_zret hX hQ hd (bI_01 P2) ⟨by rw [bI_c hp], hK, hM⟩ ha hb
/- kinds by regions -/
def kT (j : Nat) : Nat := if j = 0 then 6 else 1020
def kC (j : Nat) : Nat := if j = 0 then 3 else 1008
def kS (j : Nat) : Nat := if j = 0 then 5 else if j < 11 then kT (j - 1) else if j < 15 then kC (j - 11) else 1004
def kP (j : Nat) : Nat := if j = 0 then 2 else if j < 17 then kS (j - 1) else 1020
def kV (j : Nat) : Nat := if j = 0 then 7 else if j < 25 then kP (j - 1) else 1200
def StageK (K : Nat → Nat) (b : Nat) : Prop := ∀ j, j < 16 → K (b + j) = kS j
def ViewK (K : Nat → Nat) (v : Nat) : Prop := ∀ j, j < 27 → K (v + j) = kV j
theorem ViewK.stage {K : Nat → Nat} {v : Nat} (h : ViewK K v) : StageK K (v + 2) := fun j hj => by
  have h1 := h (2 + j) (by omega)
  rw [← Nat.add_assoc] at h1
  rw [h1]
  have : ∀ j, j < 16 → kV (2 + j) = kS j := by decide
  exact this j hj
end RULES
