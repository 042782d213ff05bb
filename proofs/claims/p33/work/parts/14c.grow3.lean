/-! calls that make ids; heads of constructors -/
theorem upK_up {K : Nat → Nat} {i k j : Nat} (h : K j ≠ 0) (hk : k ≠ 0) : upK K i k j ≠ 0 := by
  unfold upK; split
  · exact hk
  · exact h
def regK (K : Nat → Nat) (lo n : Nat) (kf : Nat → Nat) : Nat → Nat := fun i => if lo ≤ i ∧ i < lo + n then kf (i - lo) else K i
def CWI (own : String) (idx : Nat) (y : MethodName) (cy : ByteArray) (ny n : Nat) : Prop := Cond.methodLink own idx y ∈ tb ∧ (Cond.instanceMethod y ∈ tb ∧ y.name = "<init>") ∧ CWb y cy ny none n
def CWIN (own : String) (idx : Nat) (y : MethodName) (cy : ByteArray) (ny n : Nat) (host : String) : Prop := (own, idx, y, host) ∈ nwM ∧ (Cond.instanceMethod y ∈ tb ∧ y.name = "<init>") ∧ CWb y cy ny none n
/-- the head of a method that makes ids -/
theorem Cn_ofC {E : EE} {d : Nat} {y : MethodName} {cc : ByteArray} {n : Nat} {ret : Option FieldType} {av : List Value} {K : Nat → Nat} {M : MM} {post : Option Value → (Nat → Nat) → MM → Prop} {mc ms : Nat} (own : String) (hy : plainFor y = true) (hown : y.cls = own) (hlen : (lg_sl av).length ≤ n)
    (body : ∀ X : JX, XO E X cc own n d mc ms → XQ E X ret post mc ms → XK X = K → XN X = y.name → J E X 0 (lv_args 0 av) [] K M 0 0) : Cn E d y cc n ret av K M post mc ms := by
  intro l ad
  refine va_MetF (cc := cc) (maxL := n) (ret := ret) (ws' := tb) hy rfl ?_
  intro p e s m args below meth c s₁ B hml hv
  obtain ⟨rfl, hR, hKF⟩ := hv
  have hx := B.exec
  have hb := B.bytes
  have hr := B.returns
  have hts := atoms_spec (ws := ww y cc n ret) B.pre
  have hown' : s.vm.findClass own = some m.cls := hown ▸ findClass_of_methodNamed B.named
  have hlocks := B.notSynchronized
  have hnm := (name_of_methodNamed B.named B.method).1
  have hl := lv_entry (av.map (cv ad)) (n := n) (by rw [lg_sl_len]; exact hlen)
  rw [lg_entry_eq]
  generalize (lg_sl (av.map (cv ad)) ++ List.replicate (n - (lg_sl (av.map (cv ad))).length) Slot.unset).toArray = ls at hl ⊢
  rw [lv_args_map] at hl
  exact body (p, l, e, (headSpec (ww y cc n ret) (rmD d mc ms)).room, s, m, (av.map (cv ad)).toArray, below, meth, c, MQ below (CQ E ad K post) (av.map (cv ad)).toArray s mc ms (fun q => sz0 E ≤ q), n, K, ad)
    ⟨hx, hb, ⟨hml, rfl⟩, hown', fun w hw => hts w (List.mem_cons_of_mem _ hw), ⟨Nat.le_refl _, Nat.le_refl _, Nat.le_refl _, Nat.le_refl _⟩, hKF⟩ ⟨hr, hlocks, rfl⟩ rfl hnm ad s.heap [] ls hR ⟨fun _ _ => rfl, fun _ => rfl⟩ (fun z hz => by cases hz) hl
section RULES
variable {E : EE} {X : JX} {cc : ByteArray} {own : String} {nl d c0 s0 : Nat} {pc : Nat} {L : List (Nat × Value)} {st : List Value} {K : Nat → Nat} {M : MM} {a b : Nat}
theorem J_callVK (hX : XO E X cc own nl d c0 s0) {idx i k dy ny mc ms : Nat} {y : MethodName} {cy : ByteArray} {rety : Option FieldType} {As : List Value} (rest : List Value) {post : Option Value → (Nat → Nat) → MM → Prop} (hd : decode cc pc = .ok (.invokevirtual idx, 3)) (hw : CWV own idx y cy ny rety As.length) (hc : Cn E dy y cy ny rety (.ref i :: As) K M post mc ms)
    (hk : K i = k ∧ 0 < k ∧ k < 10 ∧ (vwCl[k - 1]?).map (fun q => q.1) = some y.cls) (hst : st = As.reverse ++ .ref i :: rest) (hcat : (rest.map fun v => v.category).sum ≤ 8) (hdp : dy + 1 ≤ d ∧ ny ≤ 18) (hcs : a + mc ≤ c0 ∧ b + ms ≤ s0)
    (hg : XK X = K ∨ ((∀ i, XK X i ≠ 0 → K i ≠ 0) ∧ ∃ i, K i ≠ 0 ∧ XK X i = 0)) (hL : lvs K (L.map (fun q => q.2))) (hrest : lvs K rest)
    (hpost : ∀ r K' M', post r K' M' → ∀ i, K i ≠ 0 → K' i ≠ 0) (k1 : ∀ r K' M', post r K' M' → J E X (pc + 3) L (r.toList ++ rest) K' M' (a + mc) (b + ms)) : J E X pc L st K M a b := by
  obtain ⟨p, l, e, R, s, m, args, below, meth, c, Q, nL, K0, ad0⟩ := X
  refine J_runK (x := .ref i :: As) (rest := rest) (fun ad H locs ls hR hsz => ?_) hg hL hrest hpost k1
  obtain ⟨hx, hb, ⟨hml, hnl⟩, hown, hts, hroom, hKF⟩ := hX
  obtain ⟨w1, w2, w3, w4, w5, w6⟩ := hw
  obtain ⟨hk1, hk2, hk3, hk4⟩ := hk
  have hat := hR.1 i (by omega)
  rw [hk1, ce_obj hk3] at hat
  have hP : va_P E.1 vwCl [(ad i, .inr (k - 1, (List.range (nf k)).map (fun f => fv E ad k i f M)))] H := fun j q hq => by
    cases j with
    | zero => cases hq; exact hat
    | succ j => cases hq
  obtain ⟨⟨C, T, N⟩, hq, hqc⟩ : ∃ q, vwCl[k - 1]? = some q ∧ q.1 = y.cls := by
    cases hv : vwCl[k - 1]? with
    | none => rw [hv] at hk4; cases hk4
    | some q => rw [hv] at hk4; exact ⟨q, rfl, Option.some.inj hk4⟩
  dsimp only at hqc
  subst hqc
  have hT : GoodIn tb (wsV own idx y.cls y (ww y cy ny rety)) := by
    refine goodIn_tb fun w h => ?_
    rcases List.mem_append.mp h with h | h
    · simp only [List.mem_cons, List.not_mem_nil, or_false] at h
      rcases h with rfl | rfl | rfl | rfl <;> assumption
    · exact (ww_good w5 w h).1
  have hl := hc l ad
  have hrun := va_runV (R := R) (H := H) (locs := locs) (cells := a) (slots := b) (meth := meth) (below := below) (e := e) (rest := rest.map (cv ad)) (g := F0 m pc ls (st.map (cv ad))) (As := As.map (cv ad)) (b := ad i) (Ts := tb) (nL := nL) ⟨hx, hb, hml, hown, hts⟩ hl
    (cwV As.length hts hT rfl rfl rfl ⟨rfl, w6⟩ ⟨by show dy + 1 ≤ R.frames; omega, by show 8 + (ny + 11) + 37 * dy ≤ R.locals; omega⟩)
    ⟨blindC, va_recv hKF.1 hP (ci := k - 1) (q0 := 0) hq rfl, fun U hU hW => ⟨rfl, by rw [hU]; exact hR, KF_warm hW hKF⟩⟩ rfl (by simp) hsz (by rw [hst]; simp [cv, List.map_reverse]) (lv_room (by rw [cv_cats]; exact hcat)) hd ⟨by omega, by omega⟩
  exact hrun
theorem J_callIK (hX : XO E X cc own nl d c0 s0) {idx i dy ny mc ms : Nat} {y : MethodName} {cy : ByteArray} {As : List Value} (rest : List Value) {post : Option Value → (Nat → Nat) → MM → Prop} (hd : decode cc pc = .ok (.invokespecial idx, 3)) (hw : CWI own idx y cy ny As.length) (hc : Cn E dy y cy ny none (.ref i :: As) K M post mc ms)
    (hst : st = As.reverse ++ .ref i :: rest) (hcat : (rest.map fun v => v.category).sum ≤ 8) (hdp : dy + 1 ≤ d ∧ ny ≤ 18) (hcs : a + mc ≤ c0 ∧ b + ms ≤ s0)
    (hg : XK X = K ∨ ((∀ i, XK X i ≠ 0 → K i ≠ 0) ∧ ∃ i, K i ≠ 0 ∧ XK X i = 0)) (hL : lvs K (L.map (fun q => q.2))) (hrest : lvs K rest)
    (hpost : ∀ r K' M', post r K' M' → ∀ i, K i ≠ 0 → K' i ≠ 0) (k1 : ∀ r K' M', post r K' M' → J E X (pc + 3) L (r.toList ++ rest) K' M' (a + mc) (b + ms)) : J E X pc L st K M a b := by
  obtain ⟨p, l, e, R, s, m, args, below, meth, c, Q, nL, K0, ad0⟩ := X
  refine J_runK (x := .ref i :: As) (rest := rest) (fun ad H locs ls hR hsz => ?_) hg hL hrest hpost k1
  obtain ⟨hx, hb, ⟨hml, hnl⟩, hown, hts, hroom, hKF⟩ := hX
  obtain ⟨w1, ⟨w2, w3⟩, w4, w5, w6⟩ := hw
  have hl := hc l ad
  have hrun := va_runI (R := R) (H := H) (locs := locs) (cells := a) (slots := b) (meth := meth) (below := below) (e := e) (rest := rest.map (cv ad)) (g := F0 m pc ls (st.map (cv ad))) (As := As.map (cv ad)) (b := ad i) (Ts := tb) (nL := nL) ⟨hx, hb, hml, hown, hts⟩ hl
    (cwI As.length hts (ww_good w5) rfl rfl rfl (hts _ w4) (hts _ w1) (hts _ w2) w3 w6 ⟨by show dy + 1 ≤ R.frames; omega, by show 8 + (ny + 11) + 37 * dy ≤ R.locals; omega⟩)
    ⟨blindC, fun U hU hW => ⟨rfl, by rw [hU]; exact hR, KF_warm hW hKF⟩⟩ rfl (by simp) hsz (by rw [hst]; simp [cv, List.map_reverse]) (lv_room (by rw [cv_cats]; exact hcat)) hd ⟨by omega, by omega⟩
  exact hrun
theorem J_callINK (hX : XO E X cc own nl d c0 s0) {idx i dy ny mc ms : Nat} {y : MethodName} {cy : ByteArray} {host : String} {As : List Value} (rest : List Value) {post : Option Value → (Nat → Nat) → MM → Prop} (hd : decode cc pc = .ok (.invokespecial idx, 3)) (hw : CWIN own idx y cy ny As.length host) (hc : Cn E dy y cy ny none (.ref i :: As) K M post mc ms)
    (hst : st = As.reverse ++ .ref i :: rest) (hcat : (rest.map fun v => v.category).sum ≤ 8) (hdp : dy + 1 ≤ d ∧ ny ≤ 18) (hcs : a + mc ≤ c0 ∧ b + ms ≤ s0)
    (hg : XK X = K ∨ ((∀ i, XK X i ≠ 0 → K i ≠ 0) ∧ ∃ i, K i ≠ 0 ∧ XK X i = 0)) (hL : lvs K (L.map (fun q => q.2))) (hrest : lvs K rest)
    (hpost : ∀ r K' M', post r K' M' → ∀ i, K i ≠ 0 → K' i ≠ 0) (k1 : ∀ r K' M', post r K' M' → J E X (pc + 3) L (r.toList ++ rest) K' M' (a + mc) (b + ms)) : J E X pc L st K M a b := by
  obtain ⟨p, l, e, R, s, m, args, below, meth, c, Q, nL, K0, ad0⟩ := X
  refine J_runK (x := .ref i :: As) (rest := rest) (fun ad H locs ls hR hsz => ?_) hg hL hrest hpost k1
  obtain ⟨hx, hb, ⟨hml, hnl⟩, hown, hts, hroom, hKF⟩ := hX
  obtain ⟨w1, ⟨w2, w3⟩, w4, w5, w6⟩ := hw
  have hl := hc l ad
  have hrun := va_runIN (R := R) (H := H) (locs := locs) (cells := a) (slots := b) (meth := meth) (below := below) (e := e) (rest := rest.map (cv ad)) (g := F0 m pc ls (st.map (cv ad))) (As := As.map (cv ad)) (b := ad i) (Ts := tb) (nL := nL) ⟨hx, hb, hml, hown, hts⟩ hl
    ⟨va_cnB As.length hts (ww_good w5) rfl rfl rfl (hKF.2.1.1 _ w1) (hts _ w4) w6 ⟨by show dy + 1 ≤ R.frames; omega, by show 8 + (ny + 11) + 37 * dy ≤ R.locals; omega⟩, w3, hts _ w2⟩
    ⟨blindC, fun U hU hW => ⟨rfl, by rw [hU]; exact hR, KF_warm hW hKF⟩⟩ rfl (by simp) hsz (by rw [hst]; simp [cv, List.map_reverse]) (lv_room (by rw [cv_cats]; exact hcat)) hd ⟨by omega, by omega⟩
  exact hrun
/-- the array of four stages -/
theorem J_newq (hX : XO E X cc own nl d c0 s0) {idx : Nat} (i : Nat) (hE : ∀ U, SF E U → va_AO RX5 U) (hw : Cond.classLink own idx RX5 ∈ tb) (hd : decode cc pc = .ok (.anewarray idx, 3)) (hi : K i = 0) (hg : ∀ j, XK X j ≠ 0 → K j ≠ 0) (hC : Cl K M) (hL : lvs K (L.map (fun q => q.2))) (hst : lvs K st) (hcs : a + 1 ≤ c0 ∧ b + 4 ≤ s0)
    (k1 : ∀ K2 M2, K2 = upK K i 10 → M2 = upM M i (fun _ => -1) → Cl K2 M2 → J E X (pc + 3) L (.ref i :: st) K2 M2 (a + 1) (b + 4)) : J E X pc L (vI 4 :: st) K M a b := by
  obtain ⟨p, l, e, R, s, m, args, below, meth, c, Q, nL, K0, ad0⟩ := X
  intro ad H locs ls hR he hs hv
  obtain ⟨hx, hb, ⟨hml, hnl⟩, hown, hts, hroom, hKF⟩ := hX
  have hkeep : ∀ j, K j ≠ 0 → upK ad i H.size j = ad j := fun j hj => upK_ne (fun q => hj (by rw [q]; exact hi))
  obtain ⟨kA, comp, -, -, -, hti⟩ := (hKF.1.2 1 _ (rfl : (tys E)[1]? = some (E.2.1.2.1, .object RX5))).2
  have h4 : (Int32.ofInt 4).toNatClampNeg = 4 := rfl
  refine W.anew hx hb hown (hts _ hw) (va_AO.use (hE _ hKF.2.2)) (n := Int32.ofInt 4) rfl hd rfl (by decide) (by rw [h4]; decide) (by omega) (by rw [h4]; omega) fun cA kA2 comp2 f1 f2 f3 f4 => ?_
  rw [h4]
  have hcA : cA = E.2.1.2.1 := Option.some.inj (f1.symm.trans hti)
  subst hcA
  generalize hH1 : H.push ({ cls := E.2.1.2.1, slots := Array.replicate 4 .null, vm := .none } : Cell) = H1
  have z1 : H1.size = H.size + 1 := by rw [← hH1, Array.size_push]
  have e1 : H1[H.size]? = some (arrV E.2.1.2.1 4 (fun _ => .null)) := by rw [← hH1, Array.getElem?_push_size, ← arrV_new]
  have o1 : ∀ q : Nat, q < H.size → H1[q]? = H[q]? := fun q hq => by rw [← hH1, Array.getElem?_push, if_neg (Nat.ne_of_lt hq)]
  have hat : va_at E.1 vwCl (H.size, ce E (upK ad i H.size) 10 i (upM M i (fun _ => -1))) H1 := by
    unfold ce
    rw [if_neg (by decide), if_pos rfl]
    show H1[H.size]? = some (vp_cell _ _)
    rw [e1, upM_eq]
    rfl
  have hR2 := Rep_ext hR hC hi z1 o1 hat (fun j => Or.inr (by omega))
  have hfin := k1 _ _ rfl rfl (Cl_ext hC hi (by omega) (Or.inr (Or.inr (Or.inl ⟨rfl, fun _ => by decide⟩)))) _ H1 locs ls hR2 (adE_ext he hg hi (by omega)) hs (by rw [mlv_keep hkeep L hL]; exact hv)
  have e3 : (Value.ref i :: st).map (cv (upK ad i H.size)) = .ref H.size :: st.map (cv ad) := by
    rw [List.map_cons, cv_keep hkeep st hst]
    show Value.ref (upK ad i H.size i) :: _ = _
    rw [upK_eq]
  rw [e3] at hfin
  exact hfin
end RULES
