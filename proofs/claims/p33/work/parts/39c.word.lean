/-! the word that was read: a field that holds a constant -/
theorem fw_word : ∀ (C : String) (T : u_T) (N : Nat), vwCl[4 - 1]? = some (C, T, N) → (T 4).2.2.2 = false ∧ parseFieldDescriptor (T 4).2.2.1 = some (.object RX8) := fun C T N h => by cases h; exact ⟨rfl, tyX4_ok 4 (by decide)⟩
section RULES
variable {E : EE} {X : JX} {cc : ByteArray} {own : String} {nl d c0 s0 : Nat} {pc : Nat} {L : List (Nat × Value)} {st : List Value} {K : Nat → Nat} {M : MM} {a b : Nat}
theorem J_getw (hX : XO E X cc own nl d c0 s0) (hP : XP E X) (hXK : XK X = K) {idx i : Nat} {w : Nat} (hF : FL own idx 4 4) (hd : decode cc pc = .ok (.getfield idx, 3)) (hK : K i = 4) (hw : M i 4 = w) (k1 : J E X (pc + 3) L (.ref (1000000 + w) :: st) K M a b) : J E X pc L (.ref i :: st) K M a b := by
  obtain ⟨p, l, e, R, s, m, args, below, meth, c, Q, nL, K0, ad0⟩ := X
  refine J_getv hX hF hd hK (fun ad H locs ls hR he hs hv => ?_)
  have hKe : K0 = K := hXK
  obtain rfl : ad = ad0 := he.2 hKe.symm
  have kk := k1 ad H locs ls hR he hs hv
  rw [List.map_cons, PN.ref hP w] at kk
  have e1 : fv E ad 4 i 4 M = .ref (E.2.2.2.1 w) := by
    show (if M i 4 < 0 then Value.null else .ref (E.2.2.2.1 (M i 4).toNat)) = _
    rw [if_neg (by omega), hw]; rfl
  rw [e1]
  exact kk
theorem J_putw (hX : XO E X cc own nl d c0 s0) (hP : XP E X) (hXK : XK X = K) {idx i w : Nat} (hF : FL own idx 4 4) (hd : decode cc pc = .ok (.putfield idx, 3)) (hK : K i = 4) (hw9 : w < 9) (k1 : ∀ M2, M2 = mset M i 4 w → J E X (pc + 3) L st K M2 a b) : J E X pc L (.ref (1000000 + w) :: .ref i :: st) K M a b := by
  obtain ⟨p, l, e, R, s, m, args, below, meth, c, Q, nL, K0, ad0⟩ := X
  intro ad H locs ls hR he hs hv
  have hKe : K0 = K := hXK
  obtain rfl : ad = ad0 := he.2 hKe.symm
  rw [List.map_cons, PN.ref hP w]
  obtain ⟨hx0, hb, hml, hown, hts, hroom, hKK, -⟩ := hX
  obtain ⟨C, T, N, ty0, h1, hk, hf, hN, hin, hlink, hty0, hnm⟩ := hF
  obtain ⟨hfin, hpd⟩ := fw_word C T N h1
  have hk0 : K i ≠ 0 := by omega
  have hat := hR.1 i hk0
  rw [hK, ce_obj hk.2] at hat
  obtain ⟨r, g1, cell, q1, q2, q3, q4⟩ := hat
  have hr : r = (C, T, N) := Option.some.inj (g1.symm.trans h1)
  subst hr
  have hap := va_apart (own := own) hts hin ty0 hty0 hnm hKK h1
  obtain ⟨hS, hfc, kC, hkC, hkind⟩ := hKK.1 (4 - 1) _ h1
  obtain ⟨cf, kf, fi, fd, hi, hsl⟩ := hS 4 hf
  have hlay := hts _ (hin _ (u_in_lay hf))
  unfold u_lay at hlay
  rw [if_neg (by rw [hfin]; decide)] at hlay
  have hst := (u_facts hfc hkC (u_lays hts hin hf) hi).1
  have h6 := u_store (v := .ref (E.2.2.2.1 w)) hfc hkC hkind hlay hi hpd rfl rfl
  refine W.putK hx0 hb (f := fd) (v := .ref (E.2.2.2.1 w)) ⟨hown, hts _ hlink, ⟨_, _, _, hi⟩, hst⟩ (by rw [q2]; exact h6) q1 q3 (by rw [hsl]; exact k2_hasslot (q4 4 hf)) rfl rfl hd fun H2 e1 e2 e3 => ?_
  rw [hsl] at e1 ⊢
  refine k1 _ rfl ad H2 _ ls (Rep_set hR hk0 ?_ e2 e3 (fun i2 h => mset_ne h) ?_) he ?_ hv
  · rw [hK, ce_obj hk.2]
    refine ⟨_, h1, t_OB.to (V := updV (vp_V ((List.range (nf 4)).map (fun f => fv E ad 4 i f M))) 4 (.ref (E.2.2.2.1 w))) ⟨_, e1, q2, q3, t_set q4 hap hf (.ref (E.2.2.2.1 w))⟩ (fun j2 _ => ?_)⟩
    have hl : 4 < ((List.range (nf 4)).map (fun f => fv E ad 4 i f M)).length := by simp; omega
    rw [vp_updV_set hl (.ref (E.2.2.2.1 w)) j2]
    have e5 : fv E ad 4 i 4 (mset M i 4 w) = .ref (E.2.2.2.1 w) := by
      show (if mset M i 4 w i 4 < 0 then Value.null else .ref (E.2.2.2.1 (mset M i 4 w i 4).toNat)) = _
      rw [mset_eq, if_neg (by omega)]; rfl
    have e6 := List_map_set (N := nf 4) (f := 4) (g := fun f => fv E ad 4 i f M) (g2 := fun f => fv E ad 4 i f (mset M i 4 w)) (fun j3 hj3 hne => ?_) (by omega)
    · simp only [e5] at e6
      rw [e6]
    · show fv E ad 4 i j3 (mset M i 4 w) = fv E ad 4 i j3 M
      unfold fv
      rw [mset_nj (by omega)]
      by_cases h44 : (4 : Nat) = 4 ∧ j3 = 4
      · exact absurd h44.2 hne
      · rw [if_neg h44, if_neg h44]
  · refine mset_rg (fun j2 => hR.2.2.2.2 i j2 hk0) (Or.inr (by omega))
  · intro z hz
    rcases List.mem_append.mp hz with h | h
    · exact hs z h
    · rw [List.mem_singleton.mp h]; exact hR.2.2.1 i hk0
theorem J_anull (hX : XO E X cc own nl d c0 s0) (hd : decode cc pc = .ok (.aconst_null, 1)) (k1 : J E X (pc + 1) L (.null :: st) K M a b) : J E X pc L st K M a b := by
  obtain ⟨p, l, e, R, s, m, args, below, meth, c, Q, nL, K0, ad0⟩ := X
  intro ad H locs ls hR he hs hv
  exact lv_null hX.1 hX.2.1 hd (k1 ad H locs ls hR he hs hv)
theorem J_callVCv (hX : XO E X cc own nl d c0 s0) (hP : XP E X) (hXK : XK X = K) {idx k dy ny : Nat} {y : MethodName} {cy : ByteArray} {rety : Option FieldType} {As : List Value} (rest : List Value) {v : Value} (hd : decode cc pc = .ok (.invokevirtual idx, 3)) (hw : CWV own idx y cy ny rety As.length) (hc : CnW E dy y cy ny rety (.ref (1000000 + k) :: As) K M (fun r K' M' => r = some v ∧ K' = K ∧ M' = M) 0 0)
    (hO : ∀ U, SF E U → va_O y.cls (E.2.2.2.1 k) (AS E) U E.2.2.1) (hst : st = As.reverse ++ .ref (1000000 + k) :: rest) (hcat : (rest.map fun v => v.category).sum ≤ 8) (hdp : dy + 1 ≤ d ∧ ny ≤ 18) (hab : a ≤ c0 ∧ b ≤ s0) (k1 : J E X (pc + 3) L (v :: rest) K M a b) : J E X pc L st K M a b :=
  J_callVC hX hP hXK rest hd hw hc hO hst hcat hdp hab (fun _ _ _ h => h.2.1) (fun r M' h => by obtain ⟨rfl, -, rfl⟩ := h; exact k1)
theorem J_callVWv (hX : XO E X cc own nl d c0 s0) (hP : XP E X) (hXK : XK X = K) {idx i k dy ny : Nat} {y : MethodName} {cy : ByteArray} {rety : Option FieldType} {As : List Value} (rest : List Value) {v : Value} (hd : decode cc pc = .ok (.invokevirtual idx, 3)) (hw : CWV own idx y cy ny rety As.length) (hc : CnW E dy y cy ny rety (.ref i :: As) K M (fun r K' M' => r = some v ∧ K' = K ∧ M' = M) 0 0)
    (hk : K i = k ∧ 0 < k ∧ k < 10 ∧ (vwCl[k - 1]?).map (fun q => q.1) = some y.cls) (hst : st = As.reverse ++ .ref i :: rest) (hcat : (rest.map fun v => v.category).sum ≤ 8) (hdp : dy + 1 ≤ d ∧ ny ≤ 18) (hab : a ≤ c0 ∧ b ≤ s0) (k1 : J E X (pc + 3) L (v :: rest) K M a b) : J E X pc L st K M a b :=
  J_callVW hX hP hXK rest hd hw hc hk hst hcat hdp hab (fun _ _ _ h => h.2.1) (fun r M' h => by obtain ⟨rfl, -, rfl⟩ := h; exact k1)
theorem J_callVWM (hX : XO E X cc own nl d c0 s0) (hP : XP E X) (hXK : XK X = K) {idx i k dy ny : Nat} {y : MethodName} {cy : ByteArray} {rety : Option FieldType} {As : List Value} (rest : List Value) {post : Option Value → MM → Prop} (hd : decode cc pc = .ok (.invokevirtual idx, 3)) (hw : CWV own idx y cy ny rety As.length) (hc : CnW E dy y cy ny rety (.ref i :: As) K M (fun r K' M' => K' = K ∧ post r M') 0 0)
    (hk : K i = k ∧ 0 < k ∧ k < 10 ∧ (vwCl[k - 1]?).map (fun q => q.1) = some y.cls) (hst : st = As.reverse ++ .ref i :: rest) (hcat : (rest.map fun v => v.category).sum ≤ 8) (hdp : dy + 1 ≤ d ∧ ny ≤ 18) (hab : a ≤ c0 ∧ b ≤ s0) (k1 : ∀ r M', post r M' → J E X (pc + 3) L (r.toList ++ rest) K M' a b) : J E X pc L st K M a b :=
  J_callVW hX hP hXK rest hd hw hc hk hst hcat hdp hab (fun _ _ _ h => h.1) (fun r M' h => k1 r M' h.2)
end RULES

set_option maxHeartbeats 4000000 in
theorem m_X4_isWritten {E : EE} {K : Nat → Nat} {M : MM} {c i : Nat} {p q : Int} (hc : K c = 4 ∧ K (c + 1) = 1000 + 150 ∧ K (c + 2) = 1000 + 6) (ht : Txt M c) (hE : ∀ U, SF E U → CF E U) (hi : i < 9) (hp : 0 ≤ p ∧ p ≤ q ∧ q ≤ M c 0) : CnW E 4 yX4_isWritten cX4_isWritten 5 (some .boolean) [.ref c, .ref (1000000 + (20 + i)), vI p, vI q] K M (fun r K' M' => r = some (vI (bI (wok (M (c + 1)) p q i))) ∧ K' = K ∧ M' = M) 0 0 := by
  have hn := ht.1
  have hwl := wtx_len i hi
  refine CnW_of RX4 (by decide) rfl (Nat.le_of_ble_eq_true rfl) (fun X hX hQ hXK hP => ?_)
  refine J_aload_n hX dX4_isWritten_0 rfl ?_
  refine J_callVCv hX hP hXK [] dX4_isWritten_1 cw_RX4_68 (m_length hi hE) (fun U hU => (hE U hU).scls i hi) rfl (Nat.le_of_ble_eq_true rfl) ⟨Nat.le_of_ble_eq_true rfl, by decide⟩ ⟨Nat.le_refl _, Nat.le_refl _⟩ ?_
  refine J_iload_n hX dX4_isWritten_4 rfl ?_
  refine J_iload_n hX dX4_isWritten_5 rfl ?_
  refine J_isub hX dX4_isWritten_6 ?_
  refine J_icmp_eq hX 12 dX4_isWritten_7 (by omega) (by omega) (by decide) (fun c7 => ?_) (fun c7 => ?_)
  · refine J_iconst hX dX4_isWritten_12 ?_
    refine J_istore hX dX4_isWritten_13 (by decide) ?_
    have HL : ∀ k : Nat, k ≤ (wtx i).length → (∀ j, j < k → M (c + 1) (p + (j : Int)) = (wtx i).getD j 0) → J E X 15 [(0, .ref c), (1, .ref (1000000 + (20 + i))), (2, vI p), (3, vI q), (4, vI (k : Int))] [] K M 0 0 := by
      refine up_ind ((wtx i).length) (fun k hk ih => ?_)
      intro hi0
      refine J_iload hX dX4_isWritten_15 rfl ?_
      refine J_aload_n hX dX4_isWritten_17 rfl ?_
      refine J_callVCv hX hP hXK [vI (k : Int)] dX4_isWritten_18 cw_RX4_68 (m_length hi hE) (fun U hU => (hE U hU).scls i hi) rfl (Nat.le_of_ble_eq_true rfl) ⟨Nat.le_of_ble_eq_true rfl, by decide⟩ ⟨Nat.le_refl _, Nat.le_refl _⟩ ?_
      refine J_icmp_ge hX 49 dX4_isWritten_21 (by omega) (by omega) (by decide) (fun c21 => ?_) (fun c21 => ?_)
      · refine J_iconst hX dX4_isWritten_49 ?_
        have hy : wok (M (c + 1)) p q i := ⟨c7, fun j hj => hi0 j (by omega)⟩
        exact J_zret hX hQ dX4_isWritten_50 (Or.inr rfl) ⟨by rw [bI_t hy], rfl, rfl⟩ (Nat.zero_le _) (Nat.zero_le _)
      · refine J_aload_n hX dX4_isWritten_24 rfl ?_
        refine J_iload hX dX4_isWritten_25 rfl ?_
        refine J_callVCv hX hP hXK [] dX4_isWritten_27 cw_RX4_73 (As := [vI (k : Int)]) (m_charAt hi ⟨by omega, by omega⟩ hE) (fun U hU => (hE U hU).scls i hi) rfl (Nat.le_of_ble_eq_true rfl) ⟨Nat.le_of_ble_eq_true rfl, by decide⟩ ⟨Nat.le_refl _, Nat.le_refl _⟩ ?_
        have hch := wtx_rg i hi k (by omega)
        refine J_aload_n hX dX4_isWritten_30 rfl ?_
        refine J_iload_n hX dX4_isWritten_31 rfl ?_
        refine J_iload hX dX4_isWritten_32 rfl ?_
        refine J_iadd hX dX4_isWritten_34 ?_
        refine J_callVI hX _ dX4_isWritten_35 cw_RX4_25 (m_X4_byteAt hc ht (by omega)) ⟨hc.1, by decide, by decide, rfl⟩ rfl (Nat.le_of_ble_eq_true rfl) (by decide) ⟨Nat.zero_le _, Nat.zero_le _⟩ (fun r35 => ?_)
        have hb : bA (M (c + 1)) (M c 0) (p + (k : Int)) = M (c + 1) (p + (k : Int)) := bA_in ⟨by omega, by omega⟩
        rw [hb] at r35 ⊢
        have htk : ((k : Int)).toNat = k := by omega
        rw [htk]
        refine J_icmp_eq hX 43 dX4_isWritten_38 (by omega) r35 (by decide) (fun c38 => ?_) (fun c38 => ?_)
        · refine J_iinc hX dX4_isWritten_43 rfl (by decide) ?_
          refine J_goto hX 15 dX4_isWritten_46 (by decide) ?_
          exact J_locI (ih (k + 1) (by omega) (by omega) (fun j hj => by
            by_cases e : j = k
            · subst e; exact c38.symm
            · exact hi0 j (by omega))) rfl
        · have hno : ¬ wok (M (c + 1)) p q i := fun w => c38 (w.2 k (by omega)).symm
          refine J_iconst hX dX4_isWritten_41 ?_
          exact J_zret hX hQ dX4_isWritten_42 (Or.inl rfl) ⟨by rw [bI_f hno], rfl, rfl⟩ (Nat.zero_le _) (Nat.zero_le _)
    exact J_locI (HL 0 (Nat.zero_le _) (fun j hj => absurd hj (Nat.not_lt_zero _))) rfl
  · have hno : ¬ wok (M (c + 1)) p q i := fun w => c7 w.1
    refine J_iconst hX dX4_isWritten_10 ?_
    exact J_zret hX hQ dX4_isWritten_11 (Or.inl rfl) ⟨by rw [bI_f hno], rfl, rfl⟩ (Nat.zero_le _) (Nat.zero_le _)
/-- what wordBetween answers -/
def wdv (x : Int) : Value := if x < 0 then .null else .ref (1000000 + x.toNat)
set_option maxHeartbeats 4000000 in
theorem m_X4_wordBetween {E : EE} {K : Nat → Nat} {M : MM} {c : Nat} {p q : Int} (hc : K c = 4 ∧ K (c + 1) = 1000 + 150 ∧ K (c + 2) = 1000 + 6) (ht : Txt M c) (hE : ∀ U, SF E U → CF E U) (hp : 0 ≤ p ∧ p ≤ q ∧ q ≤ M c 0) : CnW E 5 yX4_wordBetween cX4_wordBetween 7 (some (.object RX8)) [.ref c, vI p, vI q] K M (fun r K' M' => r = some (wdv (wix (M (c + 1)) p q)) ∧ K' = K ∧ M' = M) 0 0 := by
  refine CnW_of RX4 (by decide) rfl (Nat.le_of_ble_eq_true rfl) (fun X hX hQ hXK hP => ?_)
  refine J_cgetsN (host := "EyeStage") hX hP hXK (v := .ref (1000000 + 10)) (fun ad h => h.ref _) (fun U hU => (hE U hU).words) (by decide +kernel) dX4_wordBetween_0 ?_
  refine J_astore_n hX dX4_wordBetween_3 (by decide) ?_
  refine J_aload_n hX dX4_wordBetween_4 rfl ?_
  refine J_ctl hX hP hXK (fun U hU => (hE U hU).twords) dX4_wordBetween_5 ?_
  refine J_istore hX dX4_wordBetween_6 (by decide) ?_
  refine J_iconst hX dX4_wordBetween_8 ?_
  refine J_istore hX dX4_wordBetween_9 (by decide) ?_
  have HL : ∀ k : Nat, k ≤ 9 → wxF (M (c + 1)) p q (9 - k) k = wix (M (c + 1)) p q → J E X 11 [(0, .ref c), (1, vI p), (2, vI q), (3, .ref (1000000 + 10)), (4, vI ((9 : Nat) : Int)), (5, vI (k : Int))] [] K M 0 0 := by
    refine up_ind 9 (fun k hk ih => ?_)
    intro hi0
    refine J_iload hX dX4_wordBetween_11 rfl ?_
    refine J_iload hX dX4_wordBetween_13 rfl ?_
    refine J_icmp_ge hX 52 dX4_wordBetween_15 (by omega) (by omega) (by decide) (fun c15 => ?_) (fun c15 => ?_)
    · refine J_anull hX dX4_wordBetween_52 ?_
      have hx : wix (M (c + 1)) p q = -1 := by rw [← hi0, show 9 - k = 0 by omega]; rfl
      exact J_anret hX hQ dX4_wordBetween_53 ⟨by rw [hx]; rfl, rfl, rfl⟩ (Nat.zero_le _) (Nat.zero_le _)
    · refine J_aload_n hX dX4_wordBetween_18 rfl ?_
      refine J_iload hX dX4_wordBetween_19 rfl ?_
      refine J_cta hX hP hXK (v := .ref (1000000 + k)) (fun U hU => (hE U hU).twords) ⟨by omega, by omega⟩ (by decide) (fun ad h => by rw [h.ref k]; rfl) dX4_wordBetween_21 ?_
      refine J_astore hX dX4_wordBetween_22 (by decide) ?_
      refine J_aload hX dX4_wordBetween_24 rfl ?_
      refine J_ifnull hX dX4_wordBetween_26 ?_
      refine J_aload_n hX dX4_wordBetween_29 rfl ?_
      refine J_aload hX dX4_wordBetween_30 rfl ?_
      refine J_cgetf hX hP hXK (v := .ref (1000000 + (20 + k))) (fun ad h => h.ref _) (fun U hU => (hE U hU).wtext k (by omega)) fl_RX4_60 dX4_wordBetween_32 ?_
      refine J_iload_n hX dX4_wordBetween_35 rfl ?_
      refine J_iload_n hX dX4_wordBetween_36 rfl ?_
      refine J_callVWv hX hP hXK [] dX4_wordBetween_37 cw_RX4_64 (As := [.ref (1000000 + (20 + k)), vI p, vI q]) (m_X4_isWritten hc ht hE (by omega) hp) ⟨hc.1, by decide, by decide, rfl⟩ rfl (Nat.le_of_ble_eq_true rfl) ⟨Nat.le_of_ble_eq_true rfl, by decide⟩ ⟨Nat.le_refl _, Nat.le_refl _⟩ ?_
      have hst : wxF (M (c + 1)) p q (9 - k) k = if wok (M (c + 1)) p q k then (k : Int) else wxF (M (c + 1)) p q (9 - (k + 1)) (k + 1) := by
        rw [show 9 - k = (9 - (k + 1)) + 1 by omega]; rfl
      refine J_ifb_eq hX 46 dX4_wordBetween_40 (by decide) (fun c40 => ?_) (fun c40 => ?_)
      · refine J_iinc hX dX4_wordBetween_46 rfl (by decide) ?_
        refine J_goto hX 11 dX4_wordBetween_49 (by decide) ?_
        exact J_locI (ih (k + 1) (by omega) (by omega) (by rw [← hi0, hst, if_neg c40])) rfl
      · refine J_aload hX dX4_wordBetween_43 rfl ?_
        have hx : wix (M (c + 1)) p q = k := by rw [← hi0, hst, if_pos c40]
        exact J_aret hX hQ dX4_wordBetween_45 ⟨by rw [hx]; unfold wdv; rw [if_neg (by omega)]; rfl, rfl, rfl⟩ (Nat.zero_le _) (Nat.zero_le _)
  exact J_locI (HL 0 (Nat.zero_le _) rfl) rfl

