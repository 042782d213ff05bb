/-! calls where the reserved ids are pinned -/
section RULES
variable {E : EE} {X : JX} {cc : ByteArray} {own : String} {nl d c0 s0 : Nat} {pc : Nat} {L : List (Nat × Value)} {st : List Value} {K : Nat → Nat} {M : MM} {a b : Nat}
theorem J_runW (hP : XP E X) (hXK : XK X = K) {rest : List Value} {post : Option Value → (Nat → Nat) → MM → Prop} {mc ms : Nat} {x : List Value}
    (hr : ∀ (ad : Nat → Nat) (H : Heap) (locs : List Loc) (ls : Array Slot), PN E ad → match X with | (p, l, e, R, s, m, args, below, meth, c, Q, nL, K0, ad0) => Rep E ad K M H → ls.size = nL → va_Run p l e R s m args below meth c H locs a b mc ms (F0 m pc ls (st.map (cv ad))) (rest.map (cv ad)) (CQ E ad K post (x.map (cv ad)).toArray) (fun q => sz0 E ≤ q))
    (hpost : ∀ r K' M', post r K' M' → K' = K) (k1 : ∀ r M', post r K M' → J E X (pc + 3) L (r.toList ++ rest) K M' (a + mc) (b + ms)) : J E X pc L st K M a b := by
  obtain ⟨p, l, e, R, s, m, args, below, meth, c, Q, nL, K0, ad0⟩ := X
  intro ad H locs ls hR he hs hv T hT S
  have hKe : K0 = K := hXK
  have hpn : PN E ad := by rw [he.2 hKe.symm]; exact hP
  obtain ⟨v, st₀, t, T', L', h0, S', hL, e1, e2, ⟨r, K', M', ad', g1, g2, g3, g4⟩, go⟩ := hr ad H locs ls hpn hR hv.1 T hT S
  have hK' := hpost r K' M' g2
  subst hK'
  have had := g4.2 rfl
  subst had
  cases g1
  obtain ⟨t2, a1, b1⟩ := k1 r M' g2 ad' T'.heap (locs ++ L') ls (by rw [e1]; exact g3) he (fun z hz => by
    rcases List.mem_append.mp hz with h | h
    · exact hs z h
    · exact hL z h) hv T' rfl S'
  refine ⟨t2, go t2 ?_, b1⟩
  have e5 : (r.map (cv ad')).toList ++ rest.map (cv ad') = (r.toList ++ rest).map (cv ad') := by cases r <;> simp
  show Steps _ _ _ (T'.setTop { F0 m pc ls (st.map (cv ad')) with pc := pc + 3, stack := (r.map (cv ad')).toList ++ rest.map (cv ad') }) t2
  rw [e5]
  exact a1

theorem J_cgetsS {p : Program} {l : Launch} {e : Env} {R : Room} {s : State} {m : MethodId} {args : Array Value} {below : List Frame} {meth : Method} {c : Code} {Q : State → Prop} {nL : Nat} {K0 ad0 : Nat → Nat} (hX : XO E (p, l, e, R, s, m, args, below, meth, c, Q, nL, K0, ad0) cc own nl d c0 s0) (hP : XP E (p, l, e, R, s, m, args, below, meth, c, Q, nL, K0, ad0)) (hXK : XK (p, l, e, R, s, m, args, below, meth, c, Q, nL, K0, ad0) = K) {C n ds : String} {idx : Nat} {v w : Value} (hv0 : ∀ ad, PN E ad → cv ad v = w) (hZ : va_Z C n ds w (AS E) s E.2.2.1) (hl : Cond.fieldLink own idx C n ds ∈ tb) (hd : decode cc pc = .ok (.getstatic idx, 3)) (k1 : J E (p, l, e, R, s, m, args, below, meth, c, Q, nL, K0, ad0) (pc + 3) L (v :: st) K M a b) : J E (p, l, e, R, s, m, args, below, meth, c, Q, nL, K0, ad0) pc L st K M a b := by
  intro ad H locs ls hR he hs hv
  have hKe : K0 = K := hXK
  obtain rfl : ad = ad0 := he.2 hKe.symm
  obtain ⟨cf, kf, fi, f, q, cell, h1, h2, h3, h4, h5, h6, h7, h8⟩ := hZ
  have hlt := (Array.getElem?_eq_some_iff.mp h5).1
  have kk := k1 ad H locs ls hR he hs hv
  rw [List.map_cons, hv0 ad hP] at kk
  exact W.gets hX.1 hX.2.1 hX.2.2.2.1 (hX.2.2.2.2.1 _ hl) h1 h2 h3 h4 (by rw [hR.2.2.2.1.2 q hlt]; exact h5) (fun e => by rw [e] at h6; cases h6) h7 rfl hd kk

theorem J_callVW (hX : XO E X cc own nl d c0 s0) (hP : XP E X) (hXK : XK X = K) {idx i k dy ny mc ms : Nat} {y : MethodName} {cy : ByteArray} {rety : Option FieldType} {As : List Value} (rest : List Value) {post : Option Value → (Nat → Nat) → MM → Prop} (hd : decode cc pc = .ok (.invokevirtual idx, 3)) (hw : CWV own idx y cy ny rety As.length) (hc : CnW E dy y cy ny rety (.ref i :: As) K M post mc ms)
    (hk : K i = k ∧ 0 < k ∧ k < 10 ∧ (vwCl[k - 1]?).map (fun q => q.1) = some y.cls) (hst : st = As.reverse ++ .ref i :: rest) (hcat : (rest.map fun v => v.category).sum ≤ 8) (hdp : dy + 1 ≤ d ∧ ny ≤ 18) (hcs : a + mc ≤ c0 ∧ b + ms ≤ s0)
    (hpost : ∀ r K' M', post r K' M' → K' = K) (k1 : ∀ r M', post r K M' → J E X (pc + 3) L (r.toList ++ rest) K M' (a + mc) (b + ms)) : J E X pc L st K M a b := by
  obtain ⟨p, l, e, R, s, m, args, below, meth, c, Q, nL, K0, ad0⟩ := X
  refine J_runW hP hXK (x := .ref i :: As) (rest := rest) (fun ad H locs ls hpn hR hsz => ?_) hpost k1
  obtain ⟨hx, hb, ⟨hml, hnl⟩, hown, hts, hroom, hKF⟩ := hX
  obtain ⟨w1, w2, w3, w4, w5, w6⟩ := hw
  obtain ⟨hk1, hk2, hk3, hk4⟩ := hk
  have hat := hR.1 i (by omega)
  rw [hk1, ce_obj hk3] at hat
  have hPP : va_P E.1 vwCl [(ad i, .inr (k - 1, (List.range (nf k)).map (fun f => fv E ad k i f M)))] H := fun j q hq => by
    cases j with
    | zero => cases hq; exact hat
    | succ j => cases hq
  obtain ⟨⟨C, T, N⟩, hq, hqc⟩ : ∃ q, vwCl[k - 1]? = some q ∧ q.1 = y.cls := by
    cases hv : vwCl[k - 1]? with
    | none => rw [hv] at hk4; cases hk4
    | some q => rw [hv] at hk4; exact ⟨q, rfl, Option.some.inj hk4⟩
  dsimp only at hqc
  subst hqc
  have hT : GoodIn tb (wsV own idx y.cls y (ww y cy ny rety)) := by
    refine goodIn_tb fun w h => ?_
    rcases List.mem_append.mp h with h | h
    · simp only [List.mem_cons, List.not_mem_nil, or_false] at h
      rcases h with rfl | rfl | rfl | rfl <;> assumption
    · exact (ww_good w5 w h).1
  have hl := hc l ad hpn
  have hrun := va_runV (R := R) (H := H) (locs := locs) (cells := a) (slots := b) (meth := meth) (below := below) (e := e) (rest := rest.map (cv ad)) (g := F0 m pc ls (st.map (cv ad))) (As := As.map (cv ad)) (b := ad i) (Ts := tb) (nL := nL) ⟨hx, hb, hml, hown, hts⟩ hl
    (cwV As.length hts hT rfl rfl rfl ⟨rfl, w6⟩ ⟨by show dy + 1 ≤ R.frames; omega, by show 8 + (ny + 11) + 37 * dy ≤ R.locals; omega⟩)
    ⟨blindC, va_recv hKF.1 hPP (ci := k - 1) (q0 := 0) hq rfl, fun U hU hW => ⟨rfl, by rw [hU]; exact hR, KF_warm hW hKF⟩⟩ rfl (by simp) hsz (by rw [hst]; simp [cv, List.map_reverse]) (lv_room (by rw [cv_cats]; exact hcat)) hd ⟨by omega, by omega⟩
  exact hrun

theorem J_callVC (hX : XO E X cc own nl d c0 s0) (hP : XP E X) (hXK : XK X = K) {idx k dy ny mc ms : Nat} {y : MethodName} {cy : ByteArray} {rety : Option FieldType} {As : List Value} (rest : List Value) {post : Option Value → (Nat → Nat) → MM → Prop} (hd : decode cc pc = .ok (.invokevirtual idx, 3)) (hw : CWV own idx y cy ny rety As.length) (hc : CnW E dy y cy ny rety (.ref (1000000 + k) :: As) K M post mc ms)
    (hO : ∀ U, SF E U → va_O y.cls (E.2.2.2.1 k) (AS E) U E.2.2.1) (hst : st = As.reverse ++ .ref (1000000 + k) :: rest) (hcat : (rest.map fun v => v.category).sum ≤ 8) (hdp : dy + 1 ≤ d ∧ ny ≤ 18) (hcs : a + mc ≤ c0 ∧ b + ms ≤ s0)
    (hpost : ∀ r K' M', post r K' M' → K' = K) (k1 : ∀ r M', post r K M' → J E X (pc + 3) L (r.toList ++ rest) K M' (a + mc) (b + ms)) : J E X pc L st K M a b := by
  obtain ⟨p, l, e, R, s, m, args, below, meth, c, Q, nL, K0, ad0⟩ := X
  refine J_runW hP hXK (x := .ref (1000000 + k) :: As) (rest := rest) (fun ad H locs ls hpn hR hsz => ?_) hpost k1
  obtain ⟨hx, hb, ⟨hml, hnl⟩, hown, hts, hroom, hKF⟩ := hX
  obtain ⟨w1, w2, w3, w4, w5, w6⟩ := hw
  have hrc : ∃ cell : Cell, H[ad (1000000 + k)]? = some cell ∧ cell.vm.isStatics = false ∧ s.vm.findClass y.cls = some cell.cls := by
    obtain ⟨cell, h1, h2, h3, h4⟩ := hO s hKF.2.2
    rw [hpn k]
    exact ⟨cell, by rw [hR.2.2.2.1.2 _ (Array.getElem?_eq_some_iff.mp h1).1]; exact h1, h2, h3⟩
  have hT : GoodIn tb (wsV own idx y.cls y (ww y cy ny rety)) := by
    refine goodIn_tb fun w h => ?_
    rcases List.mem_append.mp h with h | h
    · simp only [List.mem_cons, List.not_mem_nil, or_false] at h
      rcases h with rfl | rfl | rfl | rfl <;> assumption
    · exact (ww_good w5 w h).1
  have hl := hc l ad hpn
  have hrun := va_runV (R := R) (H := H) (locs := locs) (cells := a) (slots := b) (meth := meth) (below := below) (e := e) (rest := rest.map (cv ad)) (g := F0 m pc ls (st.map (cv ad))) (As := As.map (cv ad)) (b := ad (1000000 + k)) (Ts := tb) (nL := nL) ⟨hx, hb, hml, hown, hts⟩ hl
    (cwV As.length hts hT rfl rfl rfl ⟨rfl, w6⟩ ⟨by show dy + 1 ≤ R.frames; omega, by show 8 + (ny + 11) + 37 * dy ≤ R.locals; omega⟩)
    ⟨blindC, hrc, fun U hU hW => ⟨rfl, by rw [hU]; exact hR, KF_warm hW hKF⟩⟩ rfl (by simp) hsz (by rw [hst]; simp [cv, List.map_reverse]) (lv_room (by rw [cv_cats]; exact hcat)) hd ⟨by omega, by omega⟩
  exact hrun

theorem J_callSW (hX : XO E X cc own nl d c0 s0) (hP : XP E X) (hXK : XK X = K) {idx dy ny mc ms : Nat} {y : MethodName} {cy : ByteArray} {rety : Option FieldType} {As : List Value} (rest : List Value) {post : Option Value → (Nat → Nat) → MM → Prop} (hd : decode cc pc = .ok (.invokestatic idx, 3)) (hw : CWS own idx y cy ny rety As.length) (hc : CnW E dy y cy ny rety As K M post mc ms)
    (hst : st = As.reverse ++ rest) (hcat : (rest.map fun v => v.category).sum ≤ 8) (hdp : dy + 1 ≤ d ∧ ny ≤ 18) (hcs : a + mc ≤ c0 ∧ b + ms ≤ s0)
    (hpost : ∀ r K' M', post r K' M' → K' = K) (k1 : ∀ r M', post r K M' → J E X (pc + 3) L (r.toList ++ rest) K M' (a + mc) (b + ms)) : J E X pc L st K M a b := by
  obtain ⟨p, l, e, R, s, m, args, below, meth, c, Q, nL, K0, ad0⟩ := X
  refine J_runW hP hXK (x := As) (rest := rest) (fun ad H locs ls hpn hR hsz => ?_) hpost k1
  obtain ⟨hx, hb, ⟨hml, hnl⟩, hown, hts, hroom, hKF⟩ := hX
  obtain ⟨w1, w2, w4, w5, w6⟩ := hw
  have hT : GoodIn tb (va_wsS own idx y (ww y cy ny rety)) := by
    refine goodIn_tb fun w h => ?_
    rcases List.mem_append.mp h with h | h
    · simp only [List.mem_cons, List.not_mem_nil, or_false] at h
      rcases h with rfl | rfl | rfl <;> assumption
    · exact (ww_good w5 w h).1
  have hl := hc l ad hpn
  have hrun := va_runS (R := R) (H := H) (locs := locs) (cells := a) (slots := b) (meth := meth) (below := below) (e := e) (rest := rest.map (cv ad)) (g := F0 m pc ls (st.map (cv ad))) (As := As.map (cv ad)) (Ts := tb) (nL := nL) ⟨hx, hb, hml, hown, hts⟩ hl
    (va_cwS As.length hts hT rfl rfl rfl w6 ⟨by show dy + 1 ≤ R.frames; omega, by show 8 + (ny + 11) + 37 * dy ≤ R.locals; omega⟩)
    ⟨blindC, fun U hU hW => ⟨rfl, by rw [hU]; exact hR, KF_warm hW hKF⟩⟩ rfl (by simp) hsz (by rw [hst]; simp [List.map_reverse]) (lv_room (by rw [cv_cats]; exact hcat)) hd ⟨by omega, by omega⟩
  exact hrun
end RULES

theorem m_coder {E : EE} {K : Nat → Nat} {M : MM} {i : Nat} (hi : i < 9) (hE : ∀ U, SF E U → CF E U) : CnW E 0 yJ0_coder_7d493 cJ0_coder_7d493 1 (some .byte) [.ref (1000000 + (20 + i))] K M (fun r K' M' => r = some (vI 0) ∧ K' = K ∧ M' = M) 0 0 := by
  refine CnW_of RJ0 (by decide) rfl (Nat.le_of_ble_eq_true rfl) (fun X hX hQ hXK hP => ?_)
  refine J_cgets hX hP hXK (v := vI 1) (fun _ _ => rfl) (fun U hU => (hE U hU).compact) fl_RJ0_38 dJ0_coder_7d493_0 ?_
  refine J_if_eq hX 13 dJ0_coder_7d493_3 (by decide) (by decide) (fun c => absurd c (by decide)) (fun _ => ?_)
  refine J_aload_n hX dJ0_coder_7d493_6 rfl ?_
  refine J_cgetf hX hP hXK (v := vI 0) (fun _ _ => rfl) (fun U hU => (hE U hU).scod i hi) fl_RJ0_15 dJ0_coder_7d493_7 ?_
  refine J_goto hX 14 dJ0_coder_7d493_10 (by decide) ?_
  exact J_nret hX hQ dJ0_coder_7d493_14 (by decide) ⟨rfl, rfl, rfl⟩ (Nat.zero_le _) (Nat.zero_le _)
theorem m_isLatin1 {E : EE} {K : Nat → Nat} {M : MM} {i : Nat} (hi : i < 9) (hE : ∀ U, SF E U → CF E U) : CnW E 0 yJ0_isLatin1_aae02 cJ0_isLatin1_aae02 1 (some .boolean) [.ref (1000000 + (20 + i))] K M (fun r K' M' => r = some (vI 1) ∧ K' = K ∧ M' = M) 0 0 := by
  refine CnW_of RJ0 (by decide) rfl (Nat.le_of_ble_eq_true rfl) (fun X hX hQ hXK hP => ?_)
  refine J_cgets hX hP hXK (v := vI 1) (fun _ _ => rfl) (fun U hU => (hE U hU).compact) fl_RJ0_38 dJ0_isLatin1_aae02_0 ?_
  refine J_if_eq hX 17 dJ0_isLatin1_aae02_3 (by decide) (by decide) (fun c => absurd c (by decide)) (fun _ => ?_)
  refine J_aload_n hX dJ0_isLatin1_aae02_6 rfl ?_
  refine J_cgetf hX hP hXK (v := vI 0) (fun _ _ => rfl) (fun U hU => (hE U hU).scod i hi) fl_RJ0_15 dJ0_isLatin1_aae02_7 ?_
  refine J_if_ne hX 17 dJ0_isLatin1_aae02_10 (by decide) (by decide) (fun c => absurd rfl c) (fun _ => ?_)
  refine J_iconst hX dJ0_isLatin1_aae02_13 ?_
  refine J_goto hX 18 dJ0_isLatin1_aae02_14 (by decide) ?_
  exact J_zret hX hQ dJ0_isLatin1_aae02_18 (Or.inr rfl) ⟨rfl, rfl, rfl⟩ (Nat.zero_le _) (Nat.zero_le _)
theorem m_length {E : EE} {K : Nat → Nat} {M : MM} {i : Nat} (hi : i < 9) (hE : ∀ U, SF E U → CF E U) : CnW E 1 yJ0_length_8abf5 cJ0_length_8abf5 1 (some .int) [.ref (1000000 + (20 + i))] K M (fun r K' M' => r = some (vI (wtx i).length) ∧ K' = K ∧ M' = M) 0 0 := by
  refine CnW_of RJ0 (by decide) rfl (Nat.le_of_ble_eq_true rfl) (fun X hX hQ hXK hP => ?_)
  refine J_aload_n hX dJ0_length_8abf5_0 rfl ?_
  refine J_cgetf hX hP hXK (v := .ref (1000000 + (40 + i))) (fun ad h => h.ref _) (fun U hU => (hE U hU).sval i hi) fl_RJ0_9 dJ0_length_8abf5_1 ?_
  refine J_ctl hX hP hXK (fun U hU => (hE U hU).tval i hi) dJ0_length_8abf5_4 ?_
  refine J_aload_n hX dJ0_length_8abf5_5 rfl ?_
  refine J_callVC hX hP hXK [vI (wtx i).length] dJ0_length_8abf5_6 cw_RJ0_335 (m_coder hi hE) (fun U hU => (hE U hU).scls i hi) rfl (Nat.le_of_ble_eq_true rfl) ⟨Nat.le_of_ble_eq_true rfl, by decide⟩ ⟨Nat.le_refl _, Nat.le_refl _⟩ (fun _ _ _ h => h.2.1) (fun r M' h => ?_)
  obtain ⟨rfl, -, rfl⟩ := h
  refine J_ishr0 hX dJ0_length_8abf5_9 ?_
  exact J_iret hX hQ dJ0_length_8abf5_10 ⟨rfl, rfl, rfl⟩ (Nat.zero_le _) (Nat.zero_le _)
theorem m_chk3 {E : EE} {K : Nat → Nat} {M : MM} {j n : Int} {v : Value} (hv : v = .null ∨ v = .ref (1000000 + 100)) (hj : 0 ≤ j ∧ j < n) (hn : n < 1000000) : CnW E 0 yJ3_checkIndex_8e157 cJ3_checkIndex_8e157 3 (some .int) [vI j, vI n, v] K M (fun r K' M' => r = some (vI j) ∧ K' = K ∧ M' = M) 0 0 := by
  refine CnW_of RJ3 (by decide) rfl (by rcases hv with rfl | rfl <;> exact Nat.le_of_ble_eq_true rfl) (fun X hX hQ hXK hP => ?_)
  refine J_iload_n hX dJ3_checkIndex_8e157_0 rfl ?_
  refine J_if_lt hX 9 dJ3_checkIndex_8e157_1 (by omega) (by decide) (fun c => absurd c (by omega)) (fun _ => ?_)
  refine J_iload_n hX dJ3_checkIndex_8e157_4 rfl ?_
  refine J_iload_n hX dJ3_checkIndex_8e157_5 rfl ?_
  refine J_icmp_lt hX 16 dJ3_checkIndex_8e157_6 (by omega) (by omega) (by decide) (fun _ => ?_) (fun c => absurd hj.2 c)
  refine J_iload_n hX dJ3_checkIndex_8e157_16 rfl ?_
  exact J_iret hX hQ dJ3_checkIndex_8e157_17 ⟨rfl, rfl, rfl⟩ (Nat.zero_le _) (Nat.zero_le _)
theorem m_chk2 {E : EE} {K : Nat → Nat} {M : MM} {j n : Int} (hj : 0 ≤ j ∧ j < n) (hn : n < 1000000) (hE : ∀ U, SF E U → CF E U) : CnW E 1 yJ0_checkIndex_df160 cJ0_checkIndex_df160 2 none [vI j, vI n] K M (fun r K' M' => r = none ∧ K' = K ∧ M' = M) 0 0 := by
  refine CnW_of RJ0 (by decide) rfl (Nat.le_of_ble_eq_true rfl) (fun X hX hQ hXK hP => ?_)
  refine J_iload_n hX dJ0_checkIndex_df160_0 rfl ?_
  refine J_iload_n hX dJ0_checkIndex_df160_1 rfl ?_
  have fin : ∀ v, (v = .null ∨ v = .ref (1000000 + 100)) → J E X 5 (lv_args 0 [vI j, vI n]) [v, vI n, vI j] K M 0 0 := by
    intro v hv
    refine J_callSW hX hP hXK [] dJ0_checkIndex_df160_5 cw_RJ0_1059 (As := [vI j, vI n, v]) (m_chk3 hv hj hn) rfl (Nat.le_of_ble_eq_true rfl) ⟨Nat.le_of_ble_eq_true rfl, by decide⟩ ⟨Nat.le_refl _, Nat.le_refl _⟩ (fun _ _ _ h => h.2.1) (fun r M' h => ?_)
    obtain ⟨rfl, -, rfl⟩ := h
    refine J_pop hX dJ0_checkIndex_df160_8 rfl ?_
    exact J_vret hX hQ dJ0_checkIndex_df160_9 ⟨rfl, rfl, rfl⟩ (Nat.zero_le _) (Nat.zero_le _)
  have hs : ∀ U, SF E U → _ := fun U hU => (hE U hU).form
  obtain ⟨p, l, e, R, s, m, args, below, meth, c, Q, nL, K0, ad0⟩ := X
  rcases hs s hX.2.2.2.2.2.2.2.2 with q | q
  · exact J_cgetsS hX hP hXK (v := .null) (fun _ _ => rfl) q fl_RJ0_1053 dJ0_checkIndex_df160_2 (fin _ (Or.inl rfl))
  · exact J_cgetsS hX hP hXK (v := .ref (1000000 + 100)) (fun ad h => h.ref _) q fl_RJ0_1053 dJ0_checkIndex_df160_2 (fin _ (Or.inr rfl))
theorem m_charAt1 {E : EE} {K : Nat → Nat} {M : MM} {i : Nat} {j : Int} (hi : i < 9) (hj : 0 ≤ j ∧ j < (wtx i).length) (hE : ∀ U, SF E U → CF E U) : CnW E 2 yJ1_charAt_3b067 cJ1_charAt_3b067 2 (some .char) [.ref (1000000 + (40 + i)), vI j] K M (fun r K' M' => r = some (vI ((wtx i).getD j.toNat 0)) ∧ K' = K ∧ M' = M) 0 0 := by
  have hl := wtx_len i hi
  have hr := wtx_rg i hi j.toNat (by omega)
  refine CnW_of RJ1 (by decide) rfl (Nat.le_of_ble_eq_true rfl) (fun X hX hQ hXK hP => ?_)
  refine J_iload_n hX dJ1_charAt_3b067_0 rfl ?_
  refine J_aload_n hX dJ1_charAt_3b067_1 rfl ?_
  refine J_ctl hX hP hXK (fun U hU => (hE U hU).tval i hi) dJ1_charAt_3b067_2 ?_
  refine J_callSW hX hP hXK [] dJ1_charAt_3b067_3 cw_RJ1_9 (As := [vI j, vI (wtx i).length]) (m_chk2 hj (by omega) hE) rfl (Nat.le_of_ble_eq_true rfl) ⟨Nat.le_of_ble_eq_true rfl, by decide⟩ ⟨Nat.le_refl _, Nat.le_refl _⟩ (fun _ _ _ h => h.2.1) (fun r M' h => ?_)
  obtain ⟨rfl, -, rfl⟩ := h
  refine J_aload_n hX dJ1_charAt_3b067_6 rfl ?_
  refine J_iload_n hX dJ1_charAt_3b067_7 rfl ?_
  refine J_ctb hX hP hXK (v := vI ((wtx i).getD j.toNat 0)) (fun U hU => (hE U hU).tval i hi) hj (by omega) (fun _ _ => rfl) dJ1_charAt_3b067_8 ?_
  refine J_sipush hX dJ1_charAt_3b067_9 rfl ?_
  refine J_and255 hX (by omega) dJ1_charAt_3b067_12 ?_
  refine J_i2c hX (by omega) dJ1_charAt_3b067_13 ?_
  exact J_nret hX hQ dJ1_charAt_3b067_14 (nar_cI (by omega)) ⟨rfl, rfl, rfl⟩ (Nat.zero_le _) (Nat.zero_le _)
theorem m_charAt {E : EE} {K : Nat → Nat} {M : MM} {i : Nat} {j : Int} (hi : i < 9) (hj : 0 ≤ j ∧ j < (wtx i).length) (hE : ∀ U, SF E U → CF E U) : CnW E 3 yJ0_charAt_5068e cJ0_charAt_5068e 2 (some .char) [.ref (1000000 + (20 + i)), vI j] K M (fun r K' M' => r = some (vI ((wtx i).getD j.toNat 0)) ∧ K' = K ∧ M' = M) 0 0 := by
  have hl := wtx_len i hi
  have hr := wtx_rg i hi j.toNat (by omega)
  refine CnW_of RJ0 (by decide) rfl (Nat.le_of_ble_eq_true rfl) (fun X hX hQ hXK hP => ?_)
  refine J_aload_n hX dJ0_charAt_5068e_0 rfl ?_
  refine J_callVC hX hP hXK [] dJ0_charAt_5068e_1 cw_RJ0_492 (m_isLatin1 hi hE) (fun U hU => (hE U hU).scls i hi) rfl (Nat.le_of_ble_eq_true rfl) ⟨Nat.le_of_ble_eq_true rfl, by decide⟩ ⟨Nat.le_refl _, Nat.le_refl _⟩ (fun _ _ _ h => h.2.1) (fun r M' h => ?_)
  obtain ⟨rfl, -, rfl⟩ := h
  refine J_if_eq hX 16 dJ0_charAt_5068e_4 (by decide) (by decide) (fun c => absurd c (by decide)) (fun _ => ?_)
  refine J_aload_n hX dJ0_charAt_5068e_7 rfl ?_
  refine J_cgetf hX hP hXK (v := .ref (1000000 + (40 + i))) (fun ad h => h.ref _) (fun U hU => (hE U hU).sval i hi) fl_RJ0_9 dJ0_charAt_5068e_8 ?_
  refine J_iload_n hX dJ0_charAt_5068e_11 rfl ?_
  refine J_callSW hX hP hXK [] dJ0_charAt_5068e_12 cw_RJ0_495 (As := [.ref (1000000 + (40 + i)), vI j]) (m_charAt1 hi hj hE) rfl (Nat.le_of_ble_eq_true rfl) ⟨Nat.le_of_ble_eq_true rfl, by decide⟩ ⟨Nat.le_refl _, Nat.le_refl _⟩ (fun _ _ _ h => h.2.1) (fun r M' h => ?_)
  obtain ⟨rfl, -, rfl⟩ := h
  exact J_nret hX hQ dJ0_charAt_5068e_15 (nar_cI (by omega)) ⟨rfl, rfl, rfl⟩ (Nat.zero_le _) (Nat.zero_le _)

