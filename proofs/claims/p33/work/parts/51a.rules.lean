/-! more rules: constants, bits; contracts without traces; calls from the law's methods -/
def andI (x y : Int) : Int := (Int32.ofInt x &&& Int32.ofInt y).toInt
def orI (x y : Int) : Int := (Int32.ofInt x ||| Int32.ofInt y).toInt
def shrI (x y : Int) : Int := (Int32.ofInt x >>> (Int32.ofInt y &&& 31)).toInt
def shlI (x y : Int) : Int := (Int32.ofInt x <<< (Int32.ofInt y &&& 31)).toInt
theorem vI_t (z : Int32) : vI z.toInt = .int z := congrArg Value.int (Int32.ofInt_toInt z)
theorem i32_z (z : Int32) : i32 z.toInt := ⟨Int32.le_toInt z, Int32.toInt_le z⟩
theorem andI_r (x y : Int) : i32 (andI x y) := i32_z _
theorem orI_r (x y : Int) : i32 (orI x y) := i32_z _
theorem shrI_r (x y : Int) : i32 (shrI x y) := i32_z _
theorem shlI_r (x y : Int) : i32 (shlI x y) := i32_z _
theorem andI_max (x : Int) : 0 ≤ andI x 2147483647 ∧ andI x 2147483647 ≤ 2147483647 := by
  obtain ⟨j, hj, e⟩ := pk_andE (Int32.ofInt x) (m := 2147483647) 31 (by decide)
  have e2 : Int32.ofInt x &&& Int32.ofInt 2147483647 = Int32.ofInt (j : Int) := e.trans Int32.ofInt_eq_ofNat.symm
  unfold andI
  rw [e2, oi_t (by omega)]
  omega
/-- the law's low -/
def low (v n : Int) : Int := (andI v 2147483647).tmod n
theorem low_r {v n : Int} (h : 0 < n) : 0 ≤ low v n ∧ low v n < n := ⟨Int.tmod_nonneg _ (andI_max v).1, Int.tmod_lt_of_pos _ h⟩
section RULES
variable {E : EE} {X : JX} {cc : ByteArray} {own : String} {nl d c0 s0 : Nat} {pc : Nat} {L : List (Nat × Value)} {st : List Value} {K : Nat → Nat} {M : MM} {a b : Nat}
theorem J_iand (hX : XO E X cc own nl d c0 s0) {x y : Int} (hd : decode cc pc = .ok (.iand, 1)) (k1 : J E X (pc + 1) L (vI (andI x y) :: st) K M a b) : J E X pc L (vI y :: vI x :: st) K M a b := by
  unfold andI at k1
  rw [vI_t] at k1
  obtain ⟨p, l, e, R, s, m, args, below, meth, c, Q, nL, K0, ad0⟩ := X
  intro ad H locs ls hR he hs hv
  exact lv_iand hX.1 hX.2.1 hd (k1 ad H locs ls hR he hs hv)
theorem J_ior (hX : XO E X cc own nl d c0 s0) {x y : Int} (hd : decode cc pc = .ok (.ior, 1)) (k1 : J E X (pc + 1) L (vI (orI x y) :: st) K M a b) : J E X pc L (vI y :: vI x :: st) K M a b := by
  unfold orI at k1
  rw [vI_t] at k1
  obtain ⟨p, l, e, R, s, m, args, below, meth, c, Q, nL, K0, ad0⟩ := X
  intro ad H locs ls hR he hs hv
  exact lv_ior hX.1 hX.2.1 hd (k1 ad H locs ls hR he hs hv)
theorem J_ishr (hX : XO E X cc own nl d c0 s0) {x y : Int} (hd : decode cc pc = .ok (.ishr, 1)) (k1 : J E X (pc + 1) L (vI (shrI x y) :: st) K M a b) : J E X pc L (vI y :: vI x :: st) K M a b := by
  unfold shrI at k1
  rw [vI_t] at k1
  obtain ⟨p, l, e, R, s, m, args, below, meth, c, Q, nL, K0, ad0⟩ := X
  intro ad H locs ls hR he hs hv
  exact lv_ishr hX.1 hX.2.1 hd (k1 ad H locs ls hR he hs hv)
theorem J_ishl (hX : XO E X cc own nl d c0 s0) {x y : Int} (hd : decode cc pc = .ok (.ishl, 1)) (k1 : J E X (pc + 1) L (vI (shlI x y) :: st) K M a b) : J E X pc L (vI y :: vI x :: st) K M a b := by
  unfold shlI at k1
  rw [vI_t] at k1
  obtain ⟨p, l, e, R, s, m, args, below, meth, c, Q, nL, K0, ad0⟩ := X
  intro ad H locs ls hR he hs hv
  exact lv_ishl hX.1 hX.2.1 hd (k1 ad H locs ls hR he hs hv)
theorem J_ldcI (hX : XO E X cc own nl d c0 s0) {i : Nat} {x : Int} (hw : Cond.constant own i (Int32.ofInt x) ∈ tb) (hd : decode cc pc = .ok (.ldc i, 2)) (k1 : J E X (pc + 2) L (vI x :: st) K M a b) : J E X pc L st K M a b := by
  obtain ⟨p, l, e, R, s, m, args, below, meth, c, Q, nL, K0, ad0⟩ := X
  intro ad H locs ls hR he hs hv
  exact lv_ldc hX.1 hX.2.1 hX.2.2.2.1 (hX.2.2.2.2.1 _ hw) hd (k1 ad H locs ls hR he hs hv)
theorem J_ldcD (hX : XO E X cc own nl d c0 s0) {i : Nat} {x : UInt64} (hw : Cond.constantDouble own i x ∈ tb) (hd : decode cc pc = .ok (.ldc2_w i, 3)) (k1 : J E X (pc + 3) L (.double x :: st) K M a b) : J E X pc L st K M a b := by
  obtain ⟨p, l, e, R, s, m, args, below, meth, c, Q, nL, K0, ad0⟩ := X
  intro ad H locs ls hR he hs hv
  exact lv_ldc2d hX.1 hX.2.1 hX.2.2.2.1 (hX.2.2.2.2.1 _ hw) hd (k1 ad H locs ls hR he hs hv)
/-- a call of a method with a table that makes no ids -/
theorem J_callHS (hX : XO E X cc own nl d c0 s0) (hl0 : XL X) {idx dy ny mc ms : Nat} {y : MethodName} {cy : ByteArray} {rety : Option FieldType} {hh : List (Nat × Nat × Nat × Nat)} {As : List Value} (rest : List Value) {post : Option Value → (Nat → Nat) → MM → Prop} (hd : decode cc pc = .ok (.invokestatic idx, 3)) (hw : CWH own idx y cy ny rety hh As.length) (hc : CnH E dy y cy ny rety hh As K M post mc ms)
    (hst : st = As.reverse ++ rest) (hcat : (rest.map fun v => v.category).sum ≤ 8) (hdp : dy + 1 ≤ d ∧ ny ≤ 18) (hcs : a + mc ≤ c0 ∧ b + ms ≤ s0)
    (hpost : ∀ r K' M', post r K' M' → K' = K) (k1 : ∀ r M', post r K M' → J E X (pc + 3) L (r.toList ++ rest) K M' (a + mc) (b + ms)) : J E X pc L st K M a b := by
  obtain ⟨p, l, e, R, s, m, args, below, meth, c, Q, nL, K0, ad0⟩ := X
  refine J_run (x := As) (rest := rest) (fun ad H locs ls hR hsz => ?_) hpost k1
  obtain ⟨hx, hb, ⟨hml, hnl⟩, hown, hts, hroom, hKF⟩ := hX
  obtain ⟨w1, w2, w4, w5, w6⟩ := hw
  have hT : GoodIn tb (va_wsS own idx y (Cond.codeWith y cy ny rety hh :: tb)) := by
    refine goodIn_tb fun w h => ?_
    rcases List.mem_append.mp h with h | h
    · simp only [List.mem_cons, List.not_mem_nil, or_false] at h
      rcases h with rfl | rfl | rfl <;> assumption
    · rcases List.mem_cons.mp h with rfl | h
      · exact w5
      · exact h
  have hl := hc l ad hl0
  have hrun := vx_runSW (hh := hh) (R := R) (H := H) (locs := locs) (cells := a) (slots := b) (meth := meth) (below := below) (e := e) (rest := rest.map (cv ad)) (g := F0 m pc ls (st.map (cv ad))) (As := As.map (cv ad)) (Ts := tb) (nL := nL) ⟨hx, hb, hml, hown, hts⟩ hl
    (vx_cwSW (ws' := tb) As.length hts hT rfl rfl rfl w6 ⟨by show dy + 1 ≤ R.frames; omega, by show 8 + (ny + 11) + 37 * dy ≤ R.locals; omega⟩)
    ⟨blindC, fun U hU hW => ⟨rfl, by rw [hU]; exact hR, KF_warm hW hKF⟩⟩ rfl (by simp) hsz (by rw [hst]; simp [List.map_reverse]) (lv_room (by rw [cv_cats]; exact hcat)) hd ⟨by omega, by omega⟩
  exact hrun
end RULES
/-- a contract at launches without traces -/
def CnL (E : EE) (d : Nat) (y : MethodName) (cc : ByteArray) (n : Nat) (ret : Option FieldType) (av : List Value) (K : Nat → Nat) (M : MM) (post : Option Value → (Nat → Nat) → MM → Prop) (mc ms : Nat) : Prop :=
  ∀ (l : Launch) (ad : Nat → Nat), l.stackTraces = false → PN E ad → Met l y (ww y cc n ret) (rmD d mc ms) (va_Pc (av.map (cv ad)) (fun U => Rep E ad K M U.heap ∧ KF E U)) (CQ E ad K post) mc ms (fun q => sz0 E ≤ q)
theorem CnW.toL {E : EE} {d : Nat} {y : MethodName} {cc : ByteArray} {n : Nat} {ret : Option FieldType} {av : List Value} {K : Nat → Nat} {M : MM} {post : Option Value → (Nat → Nat) → MM → Prop} {mc ms : Nat} (h : CnW E d y cc n ret av K M post mc ms) : CnL E d y cc n ret av K M post mc ms := fun l ad _ hp => h l ad hp
theorem Cn.toL {E : EE} {d : Nat} {y : MethodName} {cc : ByteArray} {n : Nat} {ret : Option FieldType} {av : List Value} {K : Nat → Nat} {M : MM} {post : Option Value → (Nat → Nat) → MM → Prop} {mc ms : Nat} (h : Cn E d y cc n ret av K M post mc ms) : CnL E d y cc n ret av K M post mc ms := fun l ad _ _ => h l ad

theorem CnL_of {E : EE} {d : Nat} {y : MethodName} {cc : ByteArray} {n : Nat} {ret : Option FieldType} {av : List Value} {K : Nat → Nat} {M : MM} {post : Option Value → (Nat → Nat) → MM → Prop} {mc ms : Nat} (own : String) (hy : plainFor y = true) (hown : y.cls = own) (hlen : (lg_sl av).length ≤ n)
    (body : ∀ X : JX, XO E X cc own n d mc ms → XQ E X ret post mc ms → XK X = K → XP E X → XL X → J E X 0 (lv_args 0 av) [] K M 0 0) : CnL E d y cc n ret av K M post mc ms := by
  intro l ad hl0 hpn
  refine va_MetF (cc := cc) (maxL := n) (ret := ret) (ws' := tb) hy rfl ?_
  intro p e s m args below meth c s₁ B hml hv
  obtain ⟨rfl, hR, hKF⟩ := hv
  have hx := B.exec
  have hb := B.bytes
  have hr := B.returns
  have hts := atoms_spec (ws := ww y cc n ret) B.pre
  have hown' : s.vm.findClass own = some m.cls := hown ▸ findClass_of_methodNamed B.named
  have hlocks := B.notSynchronized
  have hl := lv_entry (av.map (cv ad)) (n := n) (by rw [lg_sl_len]; exact hlen)
  rw [lg_entry_eq]
  generalize (lg_sl (av.map (cv ad)) ++ List.replicate (n - (lg_sl (av.map (cv ad))).length) Slot.unset).toArray = ls at hl ⊢
  rw [lv_args_map] at hl
  exact body (p, l, e, (headSpec (ww y cc n ret) (rmD d mc ms)).room, s, m, (av.map (cv ad)).toArray, below, meth, c, MQ below (CQ E ad K post) (av.map (cv ad)).toArray s mc ms (fun q => sz0 E ≤ q), n, K, ad)
    ⟨hx, hb, ⟨hml, rfl⟩, hown', fun w hw => hts w (List.mem_cons_of_mem _ hw), ⟨Nat.le_refl _, Nat.le_refl _, Nat.le_refl _, Nat.le_refl _⟩, hKF⟩ ⟨hr, hlocks, rfl⟩ rfl hpn hl0 ad s.heap [] ls hR ⟨fun _ _ => rfl, fun _ => rfl⟩ (fun z hz => by cases hz) hl
section RULES
variable {E : EE} {X : JX} {cc : ByteArray} {own : String} {nl d c0 s0 : Nat} {pc : Nat} {L : List (Nat × Value)} {st : List Value} {K : Nat → Nat} {M : MM} {a b : Nat}
theorem J_runPW (hP : XP E X) (hXK : XK X = K) {rest : List Value} {post : Option Value → (Nat → Nat) → MM → Prop} {mc ms : Nat} {x : List Value}
    (hr : ∀ (ad : Nat → Nat) (H : Heap) (locs : List Loc) (ls : Array Slot), PN E ad → match X with | (p, l, e, R, s, m, args, below, meth, c, Q, nL, K0, ad0) => Rep E ad K M H → ls.size = nL → va_Run p l e R s m args below meth c H locs a b mc ms (F0 m pc ls (st.map (cv ad))) (rest.map (cv ad)) (CQ E ad K post (x.map (cv ad)).toArray) (fun q => sz0 E ≤ q))
    (hL : lvs (pinK K) (L.map (fun q => q.2))) (hrest : lvs (pinK K) rest)
    (hpost : ∀ r K' M', post r K' M' → Cl K' M' ∧ (∀ i, 1000000 ≤ i → K' i = 0) ∧ ∀ v ∈ r.toList, ∀ ad1 ad2 : Nat → Nat, cv ad1 v = cv ad2 v) (k1 : ∀ r K' M', post r K' M' → JP E X (pc + 3) L (r.toList ++ rest) K' M' (a + mc) (b + ms)) : J E X pc L st K M a b := by
  obtain ⟨p, l, e, R, s, m, args, below, meth, c, Q, nL, K0, ad0⟩ := X
  intro ad H locs ls hR he hs hv T hT S
  have hKe : K0 = K := hXK
  obtain rfl : ad = ad0 := he.2 hKe.symm
  obtain ⟨v, st₀, t, T', L', h0, S', hL', e1, e2, ⟨r, K', M', ad', g1, g2, g3, g4⟩, go⟩ := hr ad H locs ls hP hR hv.1 T hT S
  cases g1
  obtain ⟨q1, q2, q3⟩ := hpost r K' M' g2
  have hPN : PN E ad := hP
  let ad2 : Nat → Nat := fun i => if 1000000 ≤ i then ad i else ad' i
  have k2 : ∀ i, pinK K i ≠ 0 → ad2 i = ad i := fun i hi => by
    show (if 1000000 ≤ i then ad i else ad' i) = _
    by_cases e : 1000000 ≤ i
    · rw [if_pos e]
    · rw [if_neg e]; unfold pinK at hi; rw [if_neg e] at hi; exact g4.1 i hi
  have k3 : ∀ i, K' i ≠ 0 → ad2 i = ad' i := fun i hi => if_neg (fun e => hi (q2 i e))
  have k4 : PN E ad2 := fun k => (if_pos (by omega)).trans (hPN k)
  obtain ⟨t2, a1, b1⟩ := k1 r K' M' g2 ad2 T'.heap (locs ++ L') ls k4 (Rep_ad q1 k3 (by rw [e1]; exact g3)) (fun z hz => by
    rcases List.mem_append.mp hz with h | h
    · exact hs z h
    · exact hL' z h) (by rw [mlv_keep k2 L hL]; exact hv) T' rfl S'
  refine ⟨t2, go t2 ?_, b1⟩
  have e5 : (r.map (cv ad')).toList ++ rest.map (cv ad) = (r.toList ++ rest).map (cv ad2) := by
    rw [List.map_append, cv_keep k2 rest hrest]
    congr 1
    cases r with
    | none => rfl
    | some v =>
      show [cv ad' v] = [cv ad2 v]
      rw [q3 v (by simp) ad' ad2]
  show Steps _ _ _ (T'.setTop { F0 m pc ls (st.map (cv ad)) with pc := pc + 3, stack := (r.map (cv ad')).toList ++ rest.map (cv ad) }) t2
  rw [e5]
  exact a1
/-- the law calls a method of its own -/
theorem J_callSLP (hX : XO E X cc own nl d c0 s0) (hl0 : XL X) (hP : XP E X) (hXK : XK X = K) {idx dy ny mc ms : Nat} {y : MethodName} {cy : ByteArray} {rety : Option FieldType} {As : List Value} (rest : List Value) {post : Option Value → (Nat → Nat) → MM → Prop} (hd : decode cc pc = .ok (.invokestatic idx, 3)) (hw : CWS own idx y cy ny rety As.length) (hc : CnL E dy y cy ny rety As K M post mc ms)
    (hst : st = As.reverse ++ rest) (hcat : (rest.map fun v => v.category).sum ≤ 8) (hdp : dy + 1 ≤ d ∧ ny ≤ 18) (hcs : a + mc ≤ c0 ∧ b + ms ≤ s0) (hL : lvs (pinK K) (L.map (fun q => q.2))) (hrest : lvs (pinK K) rest)
    (hpost : ∀ r K' M', post r K' M' → Cl K' M' ∧ (∀ i, 1000000 ≤ i → K' i = 0) ∧ ∀ v ∈ r.toList, ∀ ad1 ad2 : Nat → Nat, cv ad1 v = cv ad2 v) (k1 : ∀ r K' M', post r K' M' → JP E X (pc + 3) L (r.toList ++ rest) K' M' (a + mc) (b + ms)) : J E X pc L st K M a b := by
  obtain ⟨p, l, e, R, s, m, args, below, meth, c, Q, nL, K0, ad0⟩ := X
  refine J_runPW hP hXK (x := As) (rest := rest) (fun ad H locs ls hpn hR hsz => ?_) hL hrest hpost k1
  obtain ⟨hx, hb, ⟨hml, hnl⟩, hown, hts, hroom, hKF⟩ := hX
  obtain ⟨w1, w2, w4, w5, w6⟩ := hw
  have hT : GoodIn tb (va_wsS own idx y (ww y cy ny rety)) := by
    refine goodIn_tb fun w h => ?_
    rcases List.mem_append.mp h with h | h
    · simp only [List.mem_cons, List.not_mem_nil, or_false] at h
      rcases h with rfl | rfl | rfl <;> assumption
    · exact (ww_good w5 w h).1
  have hl := hc l ad hl0 hpn
  have hrun := va_runS (R := R) (H := H) (locs := locs) (cells := a) (slots := b) (meth := meth) (below := below) (e := e) (rest := rest.map (cv ad)) (g := F0 m pc ls (st.map (cv ad))) (As := As.map (cv ad)) (Ts := tb) (nL := nL) ⟨hx, hb, hml, hown, hts⟩ hl
    (va_cwS As.length hts hT rfl rfl rfl w6 ⟨by show dy + 1 ≤ R.frames; omega, by show 8 + (ny + 11) + 37 * dy ≤ R.locals; omega⟩)
    ⟨blindC, fun U hU hW => ⟨rfl, by rw [hU]; exact hR, KF_warm hW hKF⟩⟩ rfl (by simp) hsz (by rw [hst]; simp [List.map_reverse]) (lv_room (by rw [cv_cats]; exact hcat)) hd ⟨by omega, by omega⟩
  exact hrun
end RULES
/-! the walks of the law's methods, judged over the class's page: Z = (x, T, S, c, P, cells, slots); q: how many calls there is room for -/
abbrev QZ : Type := Nat × Int × MM × Int × MM × Nat × Nat
abbrev QZ.x (Z : QZ) : Nat := Z.1
abbrev QZ.T (Z : QZ) : Int := Z.2.1
abbrev QZ.S (Z : QZ) : MM := Z.2.2.1
abbrev QZ.c (Z : QZ) : Int := Z.2.2.2.1
abbrev QZ.P (Z : QZ) : MM := Z.2.2.2.2.1
abbrev QZ.c0 (Z : QZ) : Nat := Z.2.2.2.2.2.1
abbrev QZ.s0 (Z : QZ) : Nat := Z.2.2.2.2.2.2
/-- a method that asks: the ids stay as they are -/
def QJ (E : EE) (X : JX) (Z : QZ) (K : Nat → Nat) (q pc : Nat) (L : List (Nat × Value)) (st : List Value) : Prop := ∀ n M a b, IV n Z.T K M Z.x Z.S Z.c Z.P → a + 2 * q ≤ Z.c0 → b + 12 * q ≤ Z.s0 → J E X pc L st K M a b
/-- the law itself -/
def LJ (E : EE) (X : JX) (Z : QZ) (q pc : Nat) (L : List (Nat × Value)) (st : List Value) : Prop := ∀ n K M a b, IV n Z.T K M Z.x Z.S Z.c Z.P → a + 2 * q ≤ Z.c0 → b + 12 * q ≤ Z.s0 → JP E X pc L st K M a b
section WALK
variable {E : EE} {X : JX} {Z : QZ} {cc : ByteArray} {own : String} {nl d : Nat} {K : Nat → Nat} {q pc : Nat} {L : List (Nat × Value)} {st : List Value}
theorem Q_loc (L2 : List (Nat × Value)) (hs2 : L2.map (fun q => lget L q.1) = L2.map (fun q => some q.2)) (k1 : QJ E X Z K q pc L2 st) : QJ E X Z K q pc L st := fun n M a b hI ha hb => J_loc L2 hs2 (k1 n M a b hI ha hb)
theorem L_loc (hX : XO E X cc own nl d Z.c0 Z.s0) (hl : XL X) (L2 : List (Nat × Value)) (hs2 : L2.map (fun q => lget L q.1) = L2.map (fun q => some q.2)) (k1 : LJ E X Z q pc L2 st) : LJ E X Z q pc L st := fun n K M a b hI ha hb => JP_in hX hl (fun X2 hX2 hl2 hP hK hsm => J_loc L2 hs2 (J_JP hP hK (hsm _ _ _ _ _ _ _ (k1 n K M a b hI ha hb))))
theorem Q_st {st2 : List Value} (h : st = st2) (k1 : QJ E X Z K q pc L st2) : QJ E X Z K q pc L st := h ▸ k1
theorem L_st {st2 : List Value} (h : st = st2) (k1 : LJ E X Z q pc L st2) : LJ E X Z q pc L st := h ▸ k1
theorem Q_le {q2 : Nat} (h : q2 ≤ q) (k1 : QJ E X Z K q2 pc L st) : QJ E X Z K q pc L st := fun n M a b hI ha hb => k1 n M a b hI (by omega) (by omega)
theorem L_le {q2 : Nat} (h : q2 ≤ q) (k1 : LJ E X Z q2 pc L st) : LJ E X Z q pc L st := fun n K M a b hI ha hb => k1 n K M a b hI (by omega) (by omega)
/-- a place that several ways come to -/
theorem Q_to {q2 : Nat} {L2 : List (Nat × Value)} {st2 : List Value} (k1 : QJ E X Z K q2 pc L2 st2) (hs2 : L2.map (fun q => lget L q.1) = L2.map (fun q => some q.2)) (h : q2 ≤ q) (hst : st = st2) : QJ E X Z K q pc L st := Q_st hst (Q_loc L2 hs2 (Q_le h k1))
theorem L_to (hX : XO E X cc own nl d Z.c0 Z.s0) (hl : XL X) {q2 : Nat} {L2 : List (Nat × Value)} {st2 : List Value} (k1 : LJ E X Z q2 pc L2 st2) (hs2 : L2.map (fun q => lget L q.1) = L2.map (fun q => some q.2)) (h : q2 ≤ q) (hst : st = st2) : LJ E X Z q pc L st := L_st hst (L_loc hX hl L2 hs2 (L_le h k1))
theorem L_Z {Z2 : QZ} (h : Z = Z2) (k1 : LJ E X Z2 q pc L st) : LJ E X Z q pc L st := h ▸ k1

theorem Q_iload_n (hX : XO E X cc own nl d Z.c0 Z.s0) {k : Fin 4} {v : Int} (hd : decode cc pc = .ok (.iload_n k, 1)) (hl : lget L k.val = some (vI v)) (k1 : QJ E X Z K q (pc + 1) L ((vI v) :: st)) : QJ E X Z K q pc L st := fun n M a b hI ha hb => J_iload_n hX hd hl (k1 n M a b hI ha hb)
theorem L_iload_n (hX : XO E X cc own nl d Z.c0 Z.s0) (hl9 : XL X) {k : Fin 4} {v : Int} (hd : decode cc pc = .ok (.iload_n k, 1)) (hl : lget L k.val = some (vI v)) (k1 : LJ E X Z q (pc + 1) L ((vI v) :: st)) : LJ E X Z q pc L st := fun n K M a b hI ha hb => JP_in hX hl9 (fun X2 hX2 hl2 hP hK hsm => J_iload_n hX2 hd hl (J_JP hP hK (hsm _ _ _ _ _ _ _ (k1 n K M a b hI ha hb))))
theorem Q_iload (hX : XO E X cc own nl d Z.c0 Z.s0) {i : Nat} {v : Int} (hd : decode cc pc = .ok (.iload i, 2)) (hl : lget L i = some (vI v)) (k1 : QJ E X Z K q (pc + 2) L ((vI v) :: st)) : QJ E X Z K q pc L st := fun n M a b hI ha hb => J_iload hX hd hl (k1 n M a b hI ha hb)
theorem L_iload (hX : XO E X cc own nl d Z.c0 Z.s0) (hl9 : XL X) {i : Nat} {v : Int} (hd : decode cc pc = .ok (.iload i, 2)) (hl : lget L i = some (vI v)) (k1 : LJ E X Z q (pc + 2) L ((vI v) :: st)) : LJ E X Z q pc L st := fun n K M a b hI ha hb => JP_in hX hl9 (fun X2 hX2 hl2 hP hK hsm => J_iload hX2 hd hl (J_JP hP hK (hsm _ _ _ _ _ _ _ (k1 n K M a b hI ha hb))))
theorem Q_aload_n (hX : XO E X cc own nl d Z.c0 Z.s0) {k : Fin 4} {v : Nat} (hd : decode cc pc = .ok (.aload_n k, 1)) (hl : lget L k.val = some (.ref v)) (k1 : QJ E X Z K q (pc + 1) L ((.ref v) :: st)) : QJ E X Z K q pc L st := fun n M a b hI ha hb => J_aload_n hX hd hl (k1 n M a b hI ha hb)
theorem L_aload_n (hX : XO E X cc own nl d Z.c0 Z.s0) (hl9 : XL X) {k : Fin 4} {v : Nat} (hd : decode cc pc = .ok (.aload_n k, 1)) (hl : lget L k.val = some (.ref v)) (k1 : LJ E X Z q (pc + 1) L ((.ref v) :: st)) : LJ E X Z q pc L st := fun n K M a b hI ha hb => JP_in hX hl9 (fun X2 hX2 hl2 hP hK hsm => J_aload_n hX2 hd hl (J_JP hP hK (hsm _ _ _ _ _ _ _ (k1 n K M a b hI ha hb))))
theorem Q_aload (hX : XO E X cc own nl d Z.c0 Z.s0) {i : Nat} {v : Nat} (hd : decode cc pc = .ok (.aload i, 2)) (hl : lget L i = some (.ref v)) (k1 : QJ E X Z K q (pc + 2) L ((.ref v) :: st)) : QJ E X Z K q pc L st := fun n M a b hI ha hb => J_aload hX hd hl (k1 n M a b hI ha hb)
theorem L_aload (hX : XO E X cc own nl d Z.c0 Z.s0) (hl9 : XL X) {i : Nat} {v : Nat} (hd : decode cc pc = .ok (.aload i, 2)) (hl : lget L i = some (.ref v)) (k1 : LJ E X Z q (pc + 2) L ((.ref v) :: st)) : LJ E X Z q pc L st := fun n K M a b hI ha hb => JP_in hX hl9 (fun X2 hX2 hl2 hP hK hsm => J_aload hX2 hd hl (J_JP hP hK (hsm _ _ _ _ _ _ _ (k1 n K M a b hI ha hb))))
theorem Q_iconst (hX : XO E X cc own nl d Z.c0 Z.s0) {n : Int} (hd : decode cc pc = .ok (.iconst n, 1)) (k1 : QJ E X Z K q (pc + 1) L (vI n :: st)) : QJ E X Z K q pc L st := fun n M a b hI ha hb => J_iconst hX hd (k1 n M a b hI ha hb)
theorem L_iconst (hX : XO E X cc own nl d Z.c0 Z.s0) (hl9 : XL X) {n : Int} (hd : decode cc pc = .ok (.iconst n, 1)) (k1 : LJ E X Z q (pc + 1) L (vI n :: st)) : LJ E X Z q pc L st := fun n K M a b hI ha hb => JP_in hX hl9 (fun X2 hX2 hl2 hP hK hsm => J_iconst hX2 hd (J_JP hP hK (hsm _ _ _ _ _ _ _ (k1 n K M a b hI ha hb))))
theorem Q_bipush (hX : XO E X cc own nl d Z.c0 Z.s0) {n : Int} (hd : decode cc pc = .ok (.bipush n, 2)) (hn : (Int8.ofInt n).toInt32 = Int32.ofInt n) (k1 : QJ E X Z K q (pc + 2) L (vI n :: st)) : QJ E X Z K q pc L st := fun n M a b hI ha hb => J_bipush hX hd hn (k1 n M a b hI ha hb)
theorem L_bipush (hX : XO E X cc own nl d Z.c0 Z.s0) (hl9 : XL X) {n : Int} (hd : decode cc pc = .ok (.bipush n, 2)) (hn : (Int8.ofInt n).toInt32 = Int32.ofInt n) (k1 : LJ E X Z q (pc + 2) L (vI n :: st)) : LJ E X Z q pc L st := fun n K M a b hI ha hb => JP_in hX hl9 (fun X2 hX2 hl2 hP hK hsm => J_bipush hX2 hd hn (J_JP hP hK (hsm _ _ _ _ _ _ _ (k1 n K M a b hI ha hb))))
theorem Q_sipush (hX : XO E X cc own nl d Z.c0 Z.s0) {n : Int} (hd : decode cc pc = .ok (.sipush n, 3)) (hn : (Int16.ofInt n).toInt32 = Int32.ofInt n) (k1 : QJ E X Z K q (pc + 3) L (vI n :: st)) : QJ E X Z K q pc L st := fun n M a b hI ha hb => J_sipush hX hd hn (k1 n M a b hI ha hb)
theorem L_sipush (hX : XO E X cc own nl d Z.c0 Z.s0) (hl9 : XL X) {n : Int} (hd : decode cc pc = .ok (.sipush n, 3)) (hn : (Int16.ofInt n).toInt32 = Int32.ofInt n) (k1 : LJ E X Z q (pc + 3) L (vI n :: st)) : LJ E X Z q pc L st := fun n K M a b hI ha hb => JP_in hX hl9 (fun X2 hX2 hl2 hP hK hsm => J_sipush hX2 hd hn (J_JP hP hK (hsm _ _ _ _ _ _ _ (k1 n K M a b hI ha hb))))
theorem Q_istore_n (hX : XO E X cc own nl d Z.c0 Z.s0) {k : Fin 4} {v : Int} (hd : decode cc pc = .ok (.istore_n k, 1)) (hi : k.val < nl) (k1 : QJ E X Z K q (pc + 1) (lset L k.val (vI v)) st) : QJ E X Z K q pc L ((vI v) :: st) := fun n M a b hI ha hb => J_istore_n hX hd hi (k1 n M a b hI ha hb)
theorem L_istore_n (hX : XO E X cc own nl d Z.c0 Z.s0) (hl9 : XL X) {k : Fin 4} {v : Int} (hd : decode cc pc = .ok (.istore_n k, 1)) (hi : k.val < nl) (k1 : LJ E X Z q (pc + 1) (lset L k.val (vI v)) st) : LJ E X Z q pc L ((vI v) :: st) := fun n K M a b hI ha hb => JP_in hX hl9 (fun X2 hX2 hl2 hP hK hsm => J_istore_n hX2 hd hi (J_JP hP hK (hsm _ _ _ _ _ _ _ (k1 n K M a b hI ha hb))))
theorem Q_istore (hX : XO E X cc own nl d Z.c0 Z.s0) {i : Nat} {v : Int} (hd : decode cc pc = .ok (.istore i, 2)) (hi : i < nl) (k1 : QJ E X Z K q (pc + 2) (lset L i (vI v)) st) : QJ E X Z K q pc L ((vI v) :: st) := fun n M a b hI ha hb => J_istore hX hd hi (k1 n M a b hI ha hb)
theorem L_istore (hX : XO E X cc own nl d Z.c0 Z.s0) (hl9 : XL X) {i : Nat} {v : Int} (hd : decode cc pc = .ok (.istore i, 2)) (hi : i < nl) (k1 : LJ E X Z q (pc + 2) (lset L i (vI v)) st) : LJ E X Z q pc L ((vI v) :: st) := fun n K M a b hI ha hb => JP_in hX hl9 (fun X2 hX2 hl2 hP hK hsm => J_istore hX2 hd hi (J_JP hP hK (hsm _ _ _ _ _ _ _ (k1 n K M a b hI ha hb))))
theorem Q_astore_n (hX : XO E X cc own nl d Z.c0 Z.s0) {k : Fin 4} {v : Nat} (hd : decode cc pc = .ok (.astore_n k, 1)) (hi : k.val < nl) (k1 : QJ E X Z K q (pc + 1) (lset L k.val (.ref v)) st) : QJ E X Z K q pc L ((.ref v) :: st) := fun n M a b hI ha hb => J_astore_n hX hd hi (k1 n M a b hI ha hb)
theorem L_astore_n (hX : XO E X cc own nl d Z.c0 Z.s0) (hl9 : XL X) {k : Fin 4} {v : Nat} (hd : decode cc pc = .ok (.astore_n k, 1)) (hi : k.val < nl) (k1 : LJ E X Z q (pc + 1) (lset L k.val (.ref v)) st) : LJ E X Z q pc L ((.ref v) :: st) := fun n K M a b hI ha hb => JP_in hX hl9 (fun X2 hX2 hl2 hP hK hsm => J_astore_n hX2 hd hi (J_JP hP hK (hsm _ _ _ _ _ _ _ (k1 n K M a b hI ha hb))))
theorem Q_astore (hX : XO E X cc own nl d Z.c0 Z.s0) {i : Nat} {v : Nat} (hd : decode cc pc = .ok (.astore i, 2)) (hi : i < nl) (k1 : QJ E X Z K q (pc + 2) (lset L i (.ref v)) st) : QJ E X Z K q pc L ((.ref v) :: st) := fun n M a b hI ha hb => J_astore hX hd hi (k1 n M a b hI ha hb)
theorem L_astore (hX : XO E X cc own nl d Z.c0 Z.s0) (hl9 : XL X) {i : Nat} {v : Nat} (hd : decode cc pc = .ok (.astore i, 2)) (hi : i < nl) (k1 : LJ E X Z q (pc + 2) (lset L i (.ref v)) st) : LJ E X Z q pc L ((.ref v) :: st) := fun n K M a b hI ha hb => JP_in hX hl9 (fun X2 hX2 hl2 hP hK hsm => J_astore hX2 hd hi (J_JP hP hK (hsm _ _ _ _ _ _ _ (k1 n K M a b hI ha hb))))
theorem Q_iinc (hX : XO E X cc own nl d Z.c0 Z.s0) {i : Nat} {n v : Int} (hd : decode cc pc = .ok (.iinc i n, 3)) (hl : lget L i = some (vI v)) (hi : i < nl) (k1 : QJ E X Z K q (pc + 3) (lset L i (vI (v + n))) st) : QJ E X Z K q pc L st := fun n M a b hI ha hb => J_iinc hX hd hl hi (k1 n M a b hI ha hb)
theorem L_iinc (hX : XO E X cc own nl d Z.c0 Z.s0) (hl9 : XL X) {i : Nat} {n v : Int} (hd : decode cc pc = .ok (.iinc i n, 3)) (hl : lget L i = some (vI v)) (hi : i < nl) (k1 : LJ E X Z q (pc + 3) (lset L i (vI (v + n))) st) : LJ E X Z q pc L st := fun n K M a b hI ha hb => JP_in hX hl9 (fun X2 hX2 hl2 hP hK hsm => J_iinc hX2 hd hl hi (J_JP hP hK (hsm _ _ _ _ _ _ _ (k1 n K M a b hI ha hb))))
theorem Q_iadd (hX : XO E X cc own nl d Z.c0 Z.s0) {x y : Int} (hd : decode cc pc = .ok (.iadd, 1)) (k1 : QJ E X Z K q (pc + 1) L (vI (x + y) :: st)) : QJ E X Z K q pc L (vI y :: vI x :: st) := fun n M a b hI ha hb => J_iadd hX hd (k1 n M a b hI ha hb)
theorem L_iadd (hX : XO E X cc own nl d Z.c0 Z.s0) (hl9 : XL X) {x y : Int} (hd : decode cc pc = .ok (.iadd, 1)) (k1 : LJ E X Z q (pc + 1) L (vI (x + y) :: st)) : LJ E X Z q pc L (vI y :: vI x :: st) := fun n K M a b hI ha hb => JP_in hX hl9 (fun X2 hX2 hl2 hP hK hsm => J_iadd hX2 hd (J_JP hP hK (hsm _ _ _ _ _ _ _ (k1 n K M a b hI ha hb))))
theorem Q_isub (hX : XO E X cc own nl d Z.c0 Z.s0) {x y : Int} (hd : decode cc pc = .ok (.isub, 1)) (k1 : QJ E X Z K q (pc + 1) L (vI (x - y) :: st)) : QJ E X Z K q pc L (vI y :: vI x :: st) := fun n M a b hI ha hb => J_isub hX hd (k1 n M a b hI ha hb)
theorem L_isub (hX : XO E X cc own nl d Z.c0 Z.s0) (hl9 : XL X) {x y : Int} (hd : decode cc pc = .ok (.isub, 1)) (k1 : LJ E X Z q (pc + 1) L (vI (x - y) :: st)) : LJ E X Z q pc L (vI y :: vI x :: st) := fun n K M a b hI ha hb => JP_in hX hl9 (fun X2 hX2 hl2 hP hK hsm => J_isub hX2 hd (J_JP hP hK (hsm _ _ _ _ _ _ _ (k1 n K M a b hI ha hb))))
theorem Q_imul (hX : XO E X cc own nl d Z.c0 Z.s0) {x y : Int} (hd : decode cc pc = .ok (.imul, 1)) (k1 : QJ E X Z K q (pc + 1) L (vI (x * y) :: st)) : QJ E X Z K q pc L (vI y :: vI x :: st) := fun n M a b hI ha hb => J_imul hX hd (k1 n M a b hI ha hb)
theorem L_imul (hX : XO E X cc own nl d Z.c0 Z.s0) (hl9 : XL X) {x y : Int} (hd : decode cc pc = .ok (.imul, 1)) (k1 : LJ E X Z q (pc + 1) L (vI (x * y) :: st)) : LJ E X Z q pc L (vI y :: vI x :: st) := fun n K M a b hI ha hb => JP_in hX hl9 (fun X2 hX2 hl2 hP hK hsm => J_imul hX2 hd (J_JP hP hK (hsm _ _ _ _ _ _ _ (k1 n K M a b hI ha hb))))
theorem Q_ineg (hX : XO E X cc own nl d Z.c0 Z.s0) {x : Int} (hd : decode cc pc = .ok (.ineg, 1)) (k1 : QJ E X Z K q (pc + 1) L (vI (-x) :: st)) : QJ E X Z K q pc L (vI x :: st) := fun n M a b hI ha hb => J_ineg hX hd (k1 n M a b hI ha hb)
theorem L_ineg (hX : XO E X cc own nl d Z.c0 Z.s0) (hl9 : XL X) {x : Int} (hd : decode cc pc = .ok (.ineg, 1)) (k1 : LJ E X Z q (pc + 1) L (vI (-x) :: st)) : LJ E X Z q pc L (vI x :: st) := fun n K M a b hI ha hb => JP_in hX hl9 (fun X2 hX2 hl2 hP hK hsm => J_ineg hX2 hd (J_JP hP hK (hsm _ _ _ _ _ _ _ (k1 n K M a b hI ha hb))))
theorem Q_idiv (hX : XO E X cc own nl d Z.c0 Z.s0) {x y : Int} (hd : decode cc pc = .ok (.idiv, 1)) (hx : i32 x) (hy : 0 < y ∧ y ≤ 2147483647) (k1 : QJ E X Z K q (pc + 1) L (vI (x.tdiv y) :: st)) : QJ E X Z K q pc L (vI y :: vI x :: st) := fun n M a b hI ha hb => J_idiv hX hd hx hy (k1 n M a b hI ha hb)
theorem L_idiv (hX : XO E X cc own nl d Z.c0 Z.s0) (hl9 : XL X) {x y : Int} (hd : decode cc pc = .ok (.idiv, 1)) (hx : i32 x) (hy : 0 < y ∧ y ≤ 2147483647) (k1 : LJ E X Z q (pc + 1) L (vI (x.tdiv y) :: st)) : LJ E X Z q pc L (vI y :: vI x :: st) := fun n K M a b hI ha hb => JP_in hX hl9 (fun X2 hX2 hl2 hP hK hsm => J_idiv hX2 hd hx hy (J_JP hP hK (hsm _ _ _ _ _ _ _ (k1 n K M a b hI ha hb))))
theorem Q_irem (hX : XO E X cc own nl d Z.c0 Z.s0) {x y : Int} (hd : decode cc pc = .ok (.irem, 1)) (hx : i32 x) (hy : 0 < y ∧ y ≤ 2147483647) (k1 : QJ E X Z K q (pc + 1) L (vI (x.tmod y) :: st)) : QJ E X Z K q pc L (vI y :: vI x :: st) := fun n M a b hI ha hb => J_irem hX hd hx hy (k1 n M a b hI ha hb)
theorem L_irem (hX : XO E X cc own nl d Z.c0 Z.s0) (hl9 : XL X) {x y : Int} (hd : decode cc pc = .ok (.irem, 1)) (hx : i32 x) (hy : 0 < y ∧ y ≤ 2147483647) (k1 : LJ E X Z q (pc + 1) L (vI (x.tmod y) :: st)) : LJ E X Z q pc L (vI y :: vI x :: st) := fun n K M a b hI ha hb => JP_in hX hl9 (fun X2 hX2 hl2 hP hK hsm => J_irem hX2 hd hx hy (J_JP hP hK (hsm _ _ _ _ _ _ _ (k1 n K M a b hI ha hb))))
theorem Q_dup (hX : XO E X cc own nl d Z.c0 Z.s0) {v : Value} (hd : decode cc pc = .ok (.dup, 1)) (hc : v.category = 1) (k1 : QJ E X Z K q (pc + 1) L (v :: v :: st)) : QJ E X Z K q pc L (v :: st) := fun n M a b hI ha hb => J_dup hX hd hc (k1 n M a b hI ha hb)
theorem L_dup (hX : XO E X cc own nl d Z.c0 Z.s0) (hl9 : XL X) {v : Value} (hd : decode cc pc = .ok (.dup, 1)) (hc : v.category = 1) (k1 : LJ E X Z q (pc + 1) L (v :: v :: st)) : LJ E X Z q pc L (v :: st) := fun n K M a b hI ha hb => JP_in hX hl9 (fun X2 hX2 hl2 hP hK hsm => J_dup hX2 hd hc (J_JP hP hK (hsm _ _ _ _ _ _ _ (k1 n K M a b hI ha hb))))
theorem Q_pop (hX : XO E X cc own nl d Z.c0 Z.s0) {v : Value} (hd : decode cc pc = .ok (.pop, 1)) (hc : v.category = 1) (k1 : QJ E X Z K q (pc + 1) L st) : QJ E X Z K q pc L (v :: st) := fun n M a b hI ha hb => J_pop hX hd hc (k1 n M a b hI ha hb)
theorem L_pop (hX : XO E X cc own nl d Z.c0 Z.s0) (hl9 : XL X) {v : Value} (hd : decode cc pc = .ok (.pop, 1)) (hc : v.category = 1) (k1 : LJ E X Z q (pc + 1) L st) : LJ E X Z q pc L (v :: st) := fun n K M a b hI ha hb => JP_in hX hl9 (fun X2 hX2 hl2 hP hK hsm => J_pop hX2 hd hc (J_JP hP hK (hsm _ _ _ _ _ _ _ (k1 n K M a b hI ha hb))))
theorem Q_goto (hX : XO E X cc own nl d Z.c0 Z.s0) {off : Int} (t : Nat) (hd : decode cc pc = .ok (.goto off, 3)) (ht : (pc : Int) + off = (t : Int)) (k1 : QJ E X Z K q t L st) : QJ E X Z K q pc L st := fun n M a b hI ha hb => J_goto hX t hd ht (k1 n M a b hI ha hb)
theorem L_goto (hX : XO E X cc own nl d Z.c0 Z.s0) (hl9 : XL X) {off : Int} (t : Nat) (hd : decode cc pc = .ok (.goto off, 3)) (ht : (pc : Int) + off = (t : Int)) (k1 : LJ E X Z q t L st) : LJ E X Z q pc L st := fun n K M a b hI ha hb => JP_in hX hl9 (fun X2 hX2 hl2 hP hK hsm => J_goto hX2 t hd ht (J_JP hP hK (hsm _ _ _ _ _ _ _ (k1 n K M a b hI ha hb))))
theorem Q_if_eq (hX : XO E X cc own nl d Z.c0 Z.s0) {x : Int} {off : Int} (t : Nat) (hd : decode cc pc = .ok (.ifCond .eq off, 3)) (hx : i32 x) (ht : (pc : Int) + off = (t : Int)) (kt : x = 0 → QJ E X Z K q t L st) (kf : ¬ x = 0 → QJ E X Z K q (pc + 3) L st) : QJ E X Z K q pc L (vI x :: st) := fun n M a b hI ha hb => J_if_eq hX t hd hx ht (fun h => kt h n M a b hI ha hb) (fun h => kf h n M a b hI ha hb)
theorem L_if_eq (hX : XO E X cc own nl d Z.c0 Z.s0) (hl9 : XL X) {x : Int} {off : Int} (t : Nat) (hd : decode cc pc = .ok (.ifCond .eq off, 3)) (hx : i32 x) (ht : (pc : Int) + off = (t : Int)) (kt : x = 0 → LJ E X Z q t L st) (kf : ¬ x = 0 → LJ E X Z q (pc + 3) L st) : LJ E X Z q pc L (vI x :: st) := fun n K M a b hI ha hb => JP_in hX hl9 (fun X2 hX2 hl2 hP hK hsm => J_if_eq hX2 t hd hx ht (fun h => J_JP hP hK (hsm _ _ _ _ _ _ _ (kt h n K M a b hI ha hb))) (fun h => J_JP hP hK (hsm _ _ _ _ _ _ _ (kf h n K M a b hI ha hb))))
theorem Q_if_ne (hX : XO E X cc own nl d Z.c0 Z.s0) {x : Int} {off : Int} (t : Nat) (hd : decode cc pc = .ok (.ifCond .ne off, 3)) (hx : i32 x) (ht : (pc : Int) + off = (t : Int)) (kt : ¬ x = 0 → QJ E X Z K q t L st) (kf : x = 0 → QJ E X Z K q (pc + 3) L st) : QJ E X Z K q pc L (vI x :: st) := fun n M a b hI ha hb => J_if_ne hX t hd hx ht (fun h => kt h n M a b hI ha hb) (fun h => kf h n M a b hI ha hb)
theorem L_if_ne (hX : XO E X cc own nl d Z.c0 Z.s0) (hl9 : XL X) {x : Int} {off : Int} (t : Nat) (hd : decode cc pc = .ok (.ifCond .ne off, 3)) (hx : i32 x) (ht : (pc : Int) + off = (t : Int)) (kt : ¬ x = 0 → LJ E X Z q t L st) (kf : x = 0 → LJ E X Z q (pc + 3) L st) : LJ E X Z q pc L (vI x :: st) := fun n K M a b hI ha hb => JP_in hX hl9 (fun X2 hX2 hl2 hP hK hsm => J_if_ne hX2 t hd hx ht (fun h => J_JP hP hK (hsm _ _ _ _ _ _ _ (kt h n K M a b hI ha hb))) (fun h => J_JP hP hK (hsm _ _ _ _ _ _ _ (kf h n K M a b hI ha hb))))
theorem Q_if_lt (hX : XO E X cc own nl d Z.c0 Z.s0) {x : Int} {off : Int} (t : Nat) (hd : decode cc pc = .ok (.ifCond .lt off, 3)) (hx : i32 x) (ht : (pc : Int) + off = (t : Int)) (kt : x < 0 → QJ E X Z K q t L st) (kf : ¬ x < 0 → QJ E X Z K q (pc + 3) L st) : QJ E X Z K q pc L (vI x :: st) := fun n M a b hI ha hb => J_if_lt hX t hd hx ht (fun h => kt h n M a b hI ha hb) (fun h => kf h n M a b hI ha hb)
theorem L_if_lt (hX : XO E X cc own nl d Z.c0 Z.s0) (hl9 : XL X) {x : Int} {off : Int} (t : Nat) (hd : decode cc pc = .ok (.ifCond .lt off, 3)) (hx : i32 x) (ht : (pc : Int) + off = (t : Int)) (kt : x < 0 → LJ E X Z q t L st) (kf : ¬ x < 0 → LJ E X Z q (pc + 3) L st) : LJ E X Z q pc L (vI x :: st) := fun n K M a b hI ha hb => JP_in hX hl9 (fun X2 hX2 hl2 hP hK hsm => J_if_lt hX2 t hd hx ht (fun h => J_JP hP hK (hsm _ _ _ _ _ _ _ (kt h n K M a b hI ha hb))) (fun h => J_JP hP hK (hsm _ _ _ _ _ _ _ (kf h n K M a b hI ha hb))))
theorem Q_if_ge (hX : XO E X cc own nl d Z.c0 Z.s0) {x : Int} {off : Int} (t : Nat) (hd : decode cc pc = .ok (.ifCond .ge off, 3)) (hx : i32 x) (ht : (pc : Int) + off = (t : Int)) (kt : 0 ≤ x → QJ E X Z K q t L st) (kf : ¬ 0 ≤ x → QJ E X Z K q (pc + 3) L st) : QJ E X Z K q pc L (vI x :: st) := fun n M a b hI ha hb => J_if_ge hX t hd hx ht (fun h => kt h n M a b hI ha hb) (fun h => kf h n M a b hI ha hb)
theorem L_if_ge (hX : XO E X cc own nl d Z.c0 Z.s0) (hl9 : XL X) {x : Int} {off : Int} (t : Nat) (hd : decode cc pc = .ok (.ifCond .ge off, 3)) (hx : i32 x) (ht : (pc : Int) + off = (t : Int)) (kt : 0 ≤ x → LJ E X Z q t L st) (kf : ¬ 0 ≤ x → LJ E X Z q (pc + 3) L st) : LJ E X Z q pc L (vI x :: st) := fun n K M a b hI ha hb => JP_in hX hl9 (fun X2 hX2 hl2 hP hK hsm => J_if_ge hX2 t hd hx ht (fun h => J_JP hP hK (hsm _ _ _ _ _ _ _ (kt h n K M a b hI ha hb))) (fun h => J_JP hP hK (hsm _ _ _ _ _ _ _ (kf h n K M a b hI ha hb))))
theorem Q_if_gt (hX : XO E X cc own nl d Z.c0 Z.s0) {x : Int} {off : Int} (t : Nat) (hd : decode cc pc = .ok (.ifCond .gt off, 3)) (hx : i32 x) (ht : (pc : Int) + off = (t : Int)) (kt : 0 < x → QJ E X Z K q t L st) (kf : ¬ 0 < x → QJ E X Z K q (pc + 3) L st) : QJ E X Z K q pc L (vI x :: st) := fun n M a b hI ha hb => J_if_gt hX t hd hx ht (fun h => kt h n M a b hI ha hb) (fun h => kf h n M a b hI ha hb)
theorem L_if_gt (hX : XO E X cc own nl d Z.c0 Z.s0) (hl9 : XL X) {x : Int} {off : Int} (t : Nat) (hd : decode cc pc = .ok (.ifCond .gt off, 3)) (hx : i32 x) (ht : (pc : Int) + off = (t : Int)) (kt : 0 < x → LJ E X Z q t L st) (kf : ¬ 0 < x → LJ E X Z q (pc + 3) L st) : LJ E X Z q pc L (vI x :: st) := fun n K M a b hI ha hb => JP_in hX hl9 (fun X2 hX2 hl2 hP hK hsm => J_if_gt hX2 t hd hx ht (fun h => J_JP hP hK (hsm _ _ _ _ _ _ _ (kt h n K M a b hI ha hb))) (fun h => J_JP hP hK (hsm _ _ _ _ _ _ _ (kf h n K M a b hI ha hb))))
theorem Q_if_le (hX : XO E X cc own nl d Z.c0 Z.s0) {x : Int} {off : Int} (t : Nat) (hd : decode cc pc = .ok (.ifCond .le off, 3)) (hx : i32 x) (ht : (pc : Int) + off = (t : Int)) (kt : x ≤ 0 → QJ E X Z K q t L st) (kf : ¬ x ≤ 0 → QJ E X Z K q (pc + 3) L st) : QJ E X Z K q pc L (vI x :: st) := fun n M a b hI ha hb => J_if_le hX t hd hx ht (fun h => kt h n M a b hI ha hb) (fun h => kf h n M a b hI ha hb)
theorem L_if_le (hX : XO E X cc own nl d Z.c0 Z.s0) (hl9 : XL X) {x : Int} {off : Int} (t : Nat) (hd : decode cc pc = .ok (.ifCond .le off, 3)) (hx : i32 x) (ht : (pc : Int) + off = (t : Int)) (kt : x ≤ 0 → LJ E X Z q t L st) (kf : ¬ x ≤ 0 → LJ E X Z q (pc + 3) L st) : LJ E X Z q pc L (vI x :: st) := fun n K M a b hI ha hb => JP_in hX hl9 (fun X2 hX2 hl2 hP hK hsm => J_if_le hX2 t hd hx ht (fun h => J_JP hP hK (hsm _ _ _ _ _ _ _ (kt h n K M a b hI ha hb))) (fun h => J_JP hP hK (hsm _ _ _ _ _ _ _ (kf h n K M a b hI ha hb))))
theorem Q_icmp_eq (hX : XO E X cc own nl d Z.c0 Z.s0) {x y : Int} {off : Int} (t : Nat) (hd : decode cc pc = .ok (.if_icmp .eq off, 3)) (hx : i32 x) (hy : i32 y) (ht : (pc : Int) + off = (t : Int)) (kt : x = y → QJ E X Z K q t L st) (kf : ¬ x = y → QJ E X Z K q (pc + 3) L st) : QJ E X Z K q pc L (vI y :: vI x :: st) := fun n M a b hI ha hb => J_icmp_eq hX t hd hx hy ht (fun h => kt h n M a b hI ha hb) (fun h => kf h n M a b hI ha hb)
theorem L_icmp_eq (hX : XO E X cc own nl d Z.c0 Z.s0) (hl9 : XL X) {x y : Int} {off : Int} (t : Nat) (hd : decode cc pc = .ok (.if_icmp .eq off, 3)) (hx : i32 x) (hy : i32 y) (ht : (pc : Int) + off = (t : Int)) (kt : x = y → LJ E X Z q t L st) (kf : ¬ x = y → LJ E X Z q (pc + 3) L st) : LJ E X Z q pc L (vI y :: vI x :: st) := fun n K M a b hI ha hb => JP_in hX hl9 (fun X2 hX2 hl2 hP hK hsm => J_icmp_eq hX2 t hd hx hy ht (fun h => J_JP hP hK (hsm _ _ _ _ _ _ _ (kt h n K M a b hI ha hb))) (fun h => J_JP hP hK (hsm _ _ _ _ _ _ _ (kf h n K M a b hI ha hb))))
theorem Q_icmp_ne (hX : XO E X cc own nl d Z.c0 Z.s0) {x y : Int} {off : Int} (t : Nat) (hd : decode cc pc = .ok (.if_icmp .ne off, 3)) (hx : i32 x) (hy : i32 y) (ht : (pc : Int) + off = (t : Int)) (kt : ¬ x = y → QJ E X Z K q t L st) (kf : x = y → QJ E X Z K q (pc + 3) L st) : QJ E X Z K q pc L (vI y :: vI x :: st) := fun n M a b hI ha hb => J_icmp_ne hX t hd hx hy ht (fun h => kt h n M a b hI ha hb) (fun h => kf h n M a b hI ha hb)
theorem L_icmp_ne (hX : XO E X cc own nl d Z.c0 Z.s0) (hl9 : XL X) {x y : Int} {off : Int} (t : Nat) (hd : decode cc pc = .ok (.if_icmp .ne off, 3)) (hx : i32 x) (hy : i32 y) (ht : (pc : Int) + off = (t : Int)) (kt : ¬ x = y → LJ E X Z q t L st) (kf : x = y → LJ E X Z q (pc + 3) L st) : LJ E X Z q pc L (vI y :: vI x :: st) := fun n K M a b hI ha hb => JP_in hX hl9 (fun X2 hX2 hl2 hP hK hsm => J_icmp_ne hX2 t hd hx hy ht (fun h => J_JP hP hK (hsm _ _ _ _ _ _ _ (kt h n K M a b hI ha hb))) (fun h => J_JP hP hK (hsm _ _ _ _ _ _ _ (kf h n K M a b hI ha hb))))
theorem Q_icmp_lt (hX : XO E X cc own nl d Z.c0 Z.s0) {x y : Int} {off : Int} (t : Nat) (hd : decode cc pc = .ok (.if_icmp .lt off, 3)) (hx : i32 x) (hy : i32 y) (ht : (pc : Int) + off = (t : Int)) (kt : x < y → QJ E X Z K q t L st) (kf : ¬ x < y → QJ E X Z K q (pc + 3) L st) : QJ E X Z K q pc L (vI y :: vI x :: st) := fun n M a b hI ha hb => J_icmp_lt hX t hd hx hy ht (fun h => kt h n M a b hI ha hb) (fun h => kf h n M a b hI ha hb)
theorem L_icmp_lt (hX : XO E X cc own nl d Z.c0 Z.s0) (hl9 : XL X) {x y : Int} {off : Int} (t : Nat) (hd : decode cc pc = .ok (.if_icmp .lt off, 3)) (hx : i32 x) (hy : i32 y) (ht : (pc : Int) + off = (t : Int)) (kt : x < y → LJ E X Z q t L st) (kf : ¬ x < y → LJ E X Z q (pc + 3) L st) : LJ E X Z q pc L (vI y :: vI x :: st) := fun n K M a b hI ha hb => JP_in hX hl9 (fun X2 hX2 hl2 hP hK hsm => J_icmp_lt hX2 t hd hx hy ht (fun h => J_JP hP hK (hsm _ _ _ _ _ _ _ (kt h n K M a b hI ha hb))) (fun h => J_JP hP hK (hsm _ _ _ _ _ _ _ (kf h n K M a b hI ha hb))))
theorem Q_icmp_ge (hX : XO E X cc own nl d Z.c0 Z.s0) {x y : Int} {off : Int} (t : Nat) (hd : decode cc pc = .ok (.if_icmp .ge off, 3)) (hx : i32 x) (hy : i32 y) (ht : (pc : Int) + off = (t : Int)) (kt : y ≤ x → QJ E X Z K q t L st) (kf : ¬ y ≤ x → QJ E X Z K q (pc + 3) L st) : QJ E X Z K q pc L (vI y :: vI x :: st) := fun n M a b hI ha hb => J_icmp_ge hX t hd hx hy ht (fun h => kt h n M a b hI ha hb) (fun h => kf h n M a b hI ha hb)
theorem L_icmp_ge (hX : XO E X cc own nl d Z.c0 Z.s0) (hl9 : XL X) {x y : Int} {off : Int} (t : Nat) (hd : decode cc pc = .ok (.if_icmp .ge off, 3)) (hx : i32 x) (hy : i32 y) (ht : (pc : Int) + off = (t : Int)) (kt : y ≤ x → LJ E X Z q t L st) (kf : ¬ y ≤ x → LJ E X Z q (pc + 3) L st) : LJ E X Z q pc L (vI y :: vI x :: st) := fun n K M a b hI ha hb => JP_in hX hl9 (fun X2 hX2 hl2 hP hK hsm => J_icmp_ge hX2 t hd hx hy ht (fun h => J_JP hP hK (hsm _ _ _ _ _ _ _ (kt h n K M a b hI ha hb))) (fun h => J_JP hP hK (hsm _ _ _ _ _ _ _ (kf h n K M a b hI ha hb))))
theorem Q_icmp_gt (hX : XO E X cc own nl d Z.c0 Z.s0) {x y : Int} {off : Int} (t : Nat) (hd : decode cc pc = .ok (.if_icmp .gt off, 3)) (hx : i32 x) (hy : i32 y) (ht : (pc : Int) + off = (t : Int)) (kt : y < x → QJ E X Z K q t L st) (kf : ¬ y < x → QJ E X Z K q (pc + 3) L st) : QJ E X Z K q pc L (vI y :: vI x :: st) := fun n M a b hI ha hb => J_icmp_gt hX t hd hx hy ht (fun h => kt h n M a b hI ha hb) (fun h => kf h n M a b hI ha hb)
theorem L_icmp_gt (hX : XO E X cc own nl d Z.c0 Z.s0) (hl9 : XL X) {x y : Int} {off : Int} (t : Nat) (hd : decode cc pc = .ok (.if_icmp .gt off, 3)) (hx : i32 x) (hy : i32 y) (ht : (pc : Int) + off = (t : Int)) (kt : y < x → LJ E X Z q t L st) (kf : ¬ y < x → LJ E X Z q (pc + 3) L st) : LJ E X Z q pc L (vI y :: vI x :: st) := fun n K M a b hI ha hb => JP_in hX hl9 (fun X2 hX2 hl2 hP hK hsm => J_icmp_gt hX2 t hd hx hy ht (fun h => J_JP hP hK (hsm _ _ _ _ _ _ _ (kt h n K M a b hI ha hb))) (fun h => J_JP hP hK (hsm _ _ _ _ _ _ _ (kf h n K M a b hI ha hb))))
theorem Q_icmp_le (hX : XO E X cc own nl d Z.c0 Z.s0) {x y : Int} {off : Int} (t : Nat) (hd : decode cc pc = .ok (.if_icmp .le off, 3)) (hx : i32 x) (hy : i32 y) (ht : (pc : Int) + off = (t : Int)) (kt : x ≤ y → QJ E X Z K q t L st) (kf : ¬ x ≤ y → QJ E X Z K q (pc + 3) L st) : QJ E X Z K q pc L (vI y :: vI x :: st) := fun n M a b hI ha hb => J_icmp_le hX t hd hx hy ht (fun h => kt h n M a b hI ha hb) (fun h => kf h n M a b hI ha hb)
theorem L_icmp_le (hX : XO E X cc own nl d Z.c0 Z.s0) (hl9 : XL X) {x y : Int} {off : Int} (t : Nat) (hd : decode cc pc = .ok (.if_icmp .le off, 3)) (hx : i32 x) (hy : i32 y) (ht : (pc : Int) + off = (t : Int)) (kt : x ≤ y → LJ E X Z q t L st) (kf : ¬ x ≤ y → LJ E X Z q (pc + 3) L st) : LJ E X Z q pc L (vI y :: vI x :: st) := fun n K M a b hI ha hb => JP_in hX hl9 (fun X2 hX2 hl2 hP hK hsm => J_icmp_le hX2 t hd hx hy ht (fun h => J_JP hP hK (hsm _ _ _ _ _ _ _ (kt h n K M a b hI ha hb))) (fun h => J_JP hP hK (hsm _ _ _ _ _ _ _ (kf h n K M a b hI ha hb))))
theorem Q_i2d (hX : XO E X cc own nl d Z.c0 Z.s0) {x : Int} (hd : decode cc pc = .ok (.i2d, 1)) (k1 : QJ E X Z K q (pc + 1) L (.double (FP.i2d (Int32.ofInt x)) :: st)) : QJ E X Z K q pc L (vI x :: st) := fun n M a b hI ha hb => J_i2d hX hd (k1 n M a b hI ha hb)
theorem L_i2d (hX : XO E X cc own nl d Z.c0 Z.s0) (hl9 : XL X) {x : Int} (hd : decode cc pc = .ok (.i2d, 1)) (k1 : LJ E X Z q (pc + 1) L (.double (FP.i2d (Int32.ofInt x)) :: st)) : LJ E X Z q pc L (vI x :: st) := fun n K M a b hI ha hb => JP_in hX hl9 (fun X2 hX2 hl2 hP hK hsm => J_i2d hX2 hd (J_JP hP hK (hsm _ _ _ _ _ _ _ (k1 n K M a b hI ha hb))))
theorem Q_ddiv (hX : XO E X cc own nl d Z.c0 Z.s0) {x y : UInt64} (hd : decode cc pc = .ok (.ddiv, 1)) (hn : vf_n64 (FP.ddiv x y)) (k1 : QJ E X Z K q (pc + 1) L (.double (FP.ddiv x y) :: st)) : QJ E X Z K q pc L (.double y :: .double x :: st) := fun n M a b hI ha hb => J_ddiv hX hd hn (k1 n M a b hI ha hb)
theorem L_ddiv (hX : XO E X cc own nl d Z.c0 Z.s0) (hl9 : XL X) {x y : UInt64} (hd : decode cc pc = .ok (.ddiv, 1)) (hn : vf_n64 (FP.ddiv x y)) (k1 : LJ E X Z q (pc + 1) L (.double (FP.ddiv x y) :: st)) : LJ E X Z q pc L (.double y :: .double x :: st) := fun n K M a b hI ha hb => JP_in hX hl9 (fun X2 hX2 hl2 hP hK hsm => J_ddiv hX2 hd hn (J_JP hP hK (hsm _ _ _ _ _ _ _ (k1 n K M a b hI ha hb))))
theorem Q_dcmps (hX : XO E X cc own nl d Z.c0 Z.s0) {x y : UInt64} {op : CmpOp} (hd : decode cc pc = .ok (.dcmp op, 1)) (k1 : QJ E X Z K q (pc + 1) L (vI (Op.cmpValue (FP.dcmp x y) op).toInt :: st)) : QJ E X Z K q pc L (.double y :: .double x :: st) := fun n M a b hI ha hb => J_dcmps hX hd (k1 n M a b hI ha hb)
theorem L_dcmps (hX : XO E X cc own nl d Z.c0 Z.s0) (hl9 : XL X) {x y : UInt64} {op : CmpOp} (hd : decode cc pc = .ok (.dcmp op, 1)) (k1 : LJ E X Z q (pc + 1) L (vI (Op.cmpValue (FP.dcmp x y) op).toInt :: st)) : LJ E X Z q pc L (.double y :: .double x :: st) := fun n K M a b hI ha hb => JP_in hX hl9 (fun X2 hX2 hl2 hP hK hsm => J_dcmps hX2 hd (J_JP hP hK (hsm _ _ _ _ _ _ _ (k1 n K M a b hI ha hb))))
theorem Q_iand (hX : XO E X cc own nl d Z.c0 Z.s0) {x y : Int} (hd : decode cc pc = .ok (.iand, 1)) (k1 : QJ E X Z K q (pc + 1) L (vI (andI x y) :: st)) : QJ E X Z K q pc L (vI y :: vI x :: st) := fun n M a b hI ha hb => J_iand hX hd (k1 n M a b hI ha hb)
theorem L_iand (hX : XO E X cc own nl d Z.c0 Z.s0) (hl9 : XL X) {x y : Int} (hd : decode cc pc = .ok (.iand, 1)) (k1 : LJ E X Z q (pc + 1) L (vI (andI x y) :: st)) : LJ E X Z q pc L (vI y :: vI x :: st) := fun n K M a b hI ha hb => JP_in hX hl9 (fun X2 hX2 hl2 hP hK hsm => J_iand hX2 hd (J_JP hP hK (hsm _ _ _ _ _ _ _ (k1 n K M a b hI ha hb))))
theorem Q_ior (hX : XO E X cc own nl d Z.c0 Z.s0) {x y : Int} (hd : decode cc pc = .ok (.ior, 1)) (k1 : QJ E X Z K q (pc + 1) L (vI (orI x y) :: st)) : QJ E X Z K q pc L (vI y :: vI x :: st) := fun n M a b hI ha hb => J_ior hX hd (k1 n M a b hI ha hb)
theorem L_ior (hX : XO E X cc own nl d Z.c0 Z.s0) (hl9 : XL X) {x y : Int} (hd : decode cc pc = .ok (.ior, 1)) (k1 : LJ E X Z q (pc + 1) L (vI (orI x y) :: st)) : LJ E X Z q pc L (vI y :: vI x :: st) := fun n K M a b hI ha hb => JP_in hX hl9 (fun X2 hX2 hl2 hP hK hsm => J_ior hX2 hd (J_JP hP hK (hsm _ _ _ _ _ _ _ (k1 n K M a b hI ha hb))))
theorem Q_ishr (hX : XO E X cc own nl d Z.c0 Z.s0) {x y : Int} (hd : decode cc pc = .ok (.ishr, 1)) (k1 : QJ E X Z K q (pc + 1) L (vI (shrI x y) :: st)) : QJ E X Z K q pc L (vI y :: vI x :: st) := fun n M a b hI ha hb => J_ishr hX hd (k1 n M a b hI ha hb)
theorem L_ishr (hX : XO E X cc own nl d Z.c0 Z.s0) (hl9 : XL X) {x y : Int} (hd : decode cc pc = .ok (.ishr, 1)) (k1 : LJ E X Z q (pc + 1) L (vI (shrI x y) :: st)) : LJ E X Z q pc L (vI y :: vI x :: st) := fun n K M a b hI ha hb => JP_in hX hl9 (fun X2 hX2 hl2 hP hK hsm => J_ishr hX2 hd (J_JP hP hK (hsm _ _ _ _ _ _ _ (k1 n K M a b hI ha hb))))
theorem Q_ishl (hX : XO E X cc own nl d Z.c0 Z.s0) {x y : Int} (hd : decode cc pc = .ok (.ishl, 1)) (k1 : QJ E X Z K q (pc + 1) L (vI (shlI x y) :: st)) : QJ E X Z K q pc L (vI y :: vI x :: st) := fun n M a b hI ha hb => J_ishl hX hd (k1 n M a b hI ha hb)
theorem L_ishl (hX : XO E X cc own nl d Z.c0 Z.s0) (hl9 : XL X) {x y : Int} (hd : decode cc pc = .ok (.ishl, 1)) (k1 : LJ E X Z q (pc + 1) L (vI (shlI x y) :: st)) : LJ E X Z q pc L (vI y :: vI x :: st) := fun n K M a b hI ha hb => JP_in hX hl9 (fun X2 hX2 hl2 hP hK hsm => J_ishl hX2 hd (J_JP hP hK (hsm _ _ _ _ _ _ _ (k1 n K M a b hI ha hb))))
theorem Q_ldcI (hX : XO E X cc own nl d Z.c0 Z.s0) {i : Nat} {x : Int} (hw : Cond.constant own i (Int32.ofInt x) ∈ tb) (hd : decode cc pc = .ok (.ldc i, 2)) (k1 : QJ E X Z K q (pc + 2) L (vI x :: st)) : QJ E X Z K q pc L st := fun n M a b hI ha hb => J_ldcI hX hw hd (k1 n M a b hI ha hb)
theorem L_ldcI (hX : XO E X cc own nl d Z.c0 Z.s0) (hl9 : XL X) {i : Nat} {x : Int} (hw : Cond.constant own i (Int32.ofInt x) ∈ tb) (hd : decode cc pc = .ok (.ldc i, 2)) (k1 : LJ E X Z q (pc + 2) L (vI x :: st)) : LJ E X Z q pc L st := fun n K M a b hI ha hb => JP_in hX hl9 (fun X2 hX2 hl2 hP hK hsm => J_ldcI hX2 hw hd (J_JP hP hK (hsm _ _ _ _ _ _ _ (k1 n K M a b hI ha hb))))
theorem Q_ldcD (hX : XO E X cc own nl d Z.c0 Z.s0) {i : Nat} {x : UInt64} (hw : Cond.constantDouble own i x ∈ tb) (hd : decode cc pc = .ok (.ldc2_w i, 3)) (k1 : QJ E X Z K q (pc + 3) L (.double x :: st)) : QJ E X Z K q pc L st := fun n M a b hI ha hb => J_ldcD hX hw hd (k1 n M a b hI ha hb)
theorem L_ldcD (hX : XO E X cc own nl d Z.c0 Z.s0) (hl9 : XL X) {i : Nat} {x : UInt64} (hw : Cond.constantDouble own i x ∈ tb) (hd : decode cc pc = .ok (.ldc2_w i, 3)) (k1 : LJ E X Z q (pc + 3) L (.double x :: st)) : LJ E X Z q pc L st := fun n K M a b hI ha hb => JP_in hX hl9 (fun X2 hX2 hl2 hP hK hsm => J_ldcD hX2 hw hd (J_JP hP hK (hsm _ _ _ _ _ _ _ (k1 n K M a b hI ha hb))))
end WALK
