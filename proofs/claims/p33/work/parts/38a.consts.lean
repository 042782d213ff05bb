/-! what stands from the start: statics, the words, their texts; reserved ids from 1000000 on -/
def AS (E : EE) : Nat → Prop := fun q => sz0 E ≤ q
def PN (E : EE) (ad : Nat → Nat) : Prop := ∀ k, ad (1000000 + k) = E.2.2.2.1 k
def XP (E : EE) (X : JX) : Prop := match X with | (_, _, _, _, _, _, _, _, _, _, _, _, _, ad0) => PN E ad0
theorem PN.ref {E : EE} {ad : Nat → Nat} (h : PN E ad) (k : Nat) : cv ad (.ref (1000000 + k)) = .ref (E.2.2.2.1 k) := congrArg Value.ref (h k)
/-- the texts of the words, byte by byte; how many numbers follow -/
def wtx (i : Nat) : List Int := ([[102, 114, 97, 109, 101], [103, 114, 111, 117, 112], [98, 111, 120], [98, 97, 99, 107], [115, 99, 101, 110, 101], [115, 101, 116], [116, 105, 116, 108, 101], [100, 114, 111, 112], [116, 105, 99, 107]] : List (List Int)).getD i []
def wnm (i : Nat) : Int := ([2, 3, 6, 4, 3, 2, 3, 1, 1] : List Int).getD i 0
theorem wtx_len : ∀ i, i < 9 → 3 ≤ (wtx i).length ∧ (wtx i).length ≤ 5 := by decide
theorem wtx_rg : ∀ i, i < 9 → ∀ j, j < (wtx i).length → 97 ≤ (wtx i).getD j 0 ∧ (wtx i).getD j 0 ≤ 122 := by decide
theorem wnm_rg : ∀ i, i < 9 → 1 ≤ wnm i ∧ wnm i ≤ 6 := by decide
abbrev nSM : String := "$SwitchMap$EyeStage$Word"
def CF (E : EE) (U : State) : Prop :=
  (va_Z RX9 "WORDS" "[LEyeStage$Word;" (.ref (E.2.2.2.1 10)) (AS E) U E.2.2.1) ∧
  (va_Z RX0 nSM "[I" (.ref (E.2.2.2.1 11)) (AS E) U E.2.2.1) ∧
  (va_Z RX9 "LEAST_SETTING" "[I" (.ref (E.2.2.2.1 12)) (AS E) U E.2.2.1) ∧
  (va_Z RX9 "GREATEST_SETTING" "[I" (.ref (E.2.2.2.1 13)) (AS E) U E.2.2.1) ∧
  (va_Z RJ0 "COMPACT_STRINGS" "Z" (vI 1) (AS E) U E.2.2.1) ∧
  (va_Z RJ3 "SIOOBE_FORMATTER" "Ljava/util/function/BiFunction;" .null (AS E) U E.2.2.1 ∨ va_Z RJ3 "SIOOBE_FORMATTER" "Ljava/util/function/BiFunction;" (.ref (E.2.2.2.1 100)) (AS E) U E.2.2.1) ∧
  (va_T (.object RX8) (E.2.2.2.1 10) 9 (fun j => .ref (E.2.2.2.1 j)) (AS E) U E.2.2.1) ∧
  (va_T .int (E.2.2.2.1 11) 9 (fun j => vI (([1, 2, 3, 4, 5, 6, 7, 8, 0] : List Int).getD j 0)) (AS E) U E.2.2.1) ∧
  (va_T .int (E.2.2.2.1 12) 4 (fun j => vI (([0, 1, 0, 0] : List Int).getD j 0)) (AS E) U E.2.2.1) ∧
  (va_T .int (E.2.2.2.1 13) 4 (fun j => vI (([100, 5, 15, 100] : List Int).getD j 0)) (AS E) U E.2.2.1) ∧
  (∀ i, i < 9 → va_O RX8 (E.2.2.2.1 i) (AS E) U E.2.2.1) ∧
  (∀ i : Nat, i < 9 → va_OF RJx29ce0 "ordinal" "I" (vI i) (E.2.2.2.1 i) (AS E) U E.2.2.1) ∧
  (∀ i, i < 9 → va_OF RX8 "text" "Ljava/lang/String;" (.ref (E.2.2.2.1 (20 + i))) (E.2.2.2.1 i) (AS E) U E.2.2.1) ∧
  (∀ i, i < 9 → va_OF RX8 "numbers" "I" (vI (wnm i)) (E.2.2.2.1 i) (AS E) U E.2.2.1) ∧
  (∀ i, i < 9 → va_O RJ0 (E.2.2.2.1 (20 + i)) (AS E) U E.2.2.1) ∧
  (∀ i, i < 9 → va_OF RJ0 "coder" "B" (vI 0) (E.2.2.2.1 (20 + i)) (AS E) U E.2.2.1) ∧
  (∀ i, i < 9 → va_OF RJ0 "value" "[B" (.ref (E.2.2.2.1 (40 + i))) (E.2.2.2.1 (20 + i)) (AS E) U E.2.2.1) ∧
  (∀ i, i < 9 → va_T .byte (E.2.2.2.1 (40 + i)) (wtx i).length (fun j => vI ((wtx i).getD j 0)) (AS E) U E.2.2.1)
theorem CF.words {E : EE} {U : State} (h : CF E U) : va_Z RX9 "WORDS" "[LEyeStage$Word;" (.ref (E.2.2.2.1 10)) (AS E) U E.2.2.1 := h.1
theorem CF.swm {E : EE} {U : State} (h : CF E U) : va_Z RX0 nSM "[I" (.ref (E.2.2.2.1 11)) (AS E) U E.2.2.1 := h.2.1
theorem CF.least {E : EE} {U : State} (h : CF E U) : va_Z RX9 "LEAST_SETTING" "[I" (.ref (E.2.2.2.1 12)) (AS E) U E.2.2.1 := h.2.2.1
theorem CF.great {E : EE} {U : State} (h : CF E U) : va_Z RX9 "GREATEST_SETTING" "[I" (.ref (E.2.2.2.1 13)) (AS E) U E.2.2.1 := h.2.2.2.1
theorem CF.compact {E : EE} {U : State} (h : CF E U) : va_Z RJ0 "COMPACT_STRINGS" "Z" (vI 1) (AS E) U E.2.2.1 := h.2.2.2.2.1
theorem CF.form {E : EE} {U : State} (h : CF E U) : va_Z RJ3 "SIOOBE_FORMATTER" "Ljava/util/function/BiFunction;" .null (AS E) U E.2.2.1 ∨ va_Z RJ3 "SIOOBE_FORMATTER" "Ljava/util/function/BiFunction;" (.ref (E.2.2.2.1 100)) (AS E) U E.2.2.1 := h.2.2.2.2.2.1
theorem CF.twords {E : EE} {U : State} (h : CF E U) : va_T (.object RX8) (E.2.2.2.1 10) 9 (fun j => .ref (E.2.2.2.1 j)) (AS E) U E.2.2.1 := h.2.2.2.2.2.2.1
theorem CF.tswm {E : EE} {U : State} (h : CF E U) : va_T .int (E.2.2.2.1 11) 9 (fun j => vI (([1, 2, 3, 4, 5, 6, 7, 8, 0] : List Int).getD j 0)) (AS E) U E.2.2.1 := h.2.2.2.2.2.2.2.1
theorem CF.tleast {E : EE} {U : State} (h : CF E U) : va_T .int (E.2.2.2.1 12) 4 (fun j => vI (([0, 1, 0, 0] : List Int).getD j 0)) (AS E) U E.2.2.1 := h.2.2.2.2.2.2.2.2.1
theorem CF.tgreat {E : EE} {U : State} (h : CF E U) : va_T .int (E.2.2.2.1 13) 4 (fun j => vI (([100, 5, 15, 100] : List Int).getD j 0)) (AS E) U E.2.2.1 := h.2.2.2.2.2.2.2.2.2.1
theorem CF.wcls {E : EE} {U : State} (h : CF E U) : ∀ i, i < 9 → va_O RX8 (E.2.2.2.1 i) (AS E) U E.2.2.1 := h.2.2.2.2.2.2.2.2.2.2.1
theorem CF.word {E : EE} {U : State} (h : CF E U) : ∀ i : Nat, i < 9 → va_OF RJx29ce0 "ordinal" "I" (vI i) (E.2.2.2.1 i) (AS E) U E.2.2.1 := h.2.2.2.2.2.2.2.2.2.2.2.1
theorem CF.wtext {E : EE} {U : State} (h : CF E U) : ∀ i, i < 9 → va_OF RX8 "text" "Ljava/lang/String;" (.ref (E.2.2.2.1 (20 + i))) (E.2.2.2.1 i) (AS E) U E.2.2.1 := h.2.2.2.2.2.2.2.2.2.2.2.2.1
theorem CF.wnum {E : EE} {U : State} (h : CF E U) : ∀ i, i < 9 → va_OF RX8 "numbers" "I" (vI (wnm i)) (E.2.2.2.1 i) (AS E) U E.2.2.1 := h.2.2.2.2.2.2.2.2.2.2.2.2.2.1
theorem CF.scls {E : EE} {U : State} (h : CF E U) : ∀ i, i < 9 → va_O RJ0 (E.2.2.2.1 (20 + i)) (AS E) U E.2.2.1 := h.2.2.2.2.2.2.2.2.2.2.2.2.2.2.1
theorem CF.scod {E : EE} {U : State} (h : CF E U) : ∀ i, i < 9 → va_OF RJ0 "coder" "B" (vI 0) (E.2.2.2.1 (20 + i)) (AS E) U E.2.2.1 := h.2.2.2.2.2.2.2.2.2.2.2.2.2.2.2.1
theorem CF.sval {E : EE} {U : State} (h : CF E U) : ∀ i, i < 9 → va_OF RJ0 "value" "[B" (.ref (E.2.2.2.1 (40 + i))) (E.2.2.2.1 (20 + i)) (AS E) U E.2.2.1 := h.2.2.2.2.2.2.2.2.2.2.2.2.2.2.2.2.1
theorem CF.tval {E : EE} {U : State} (h : CF E U) : ∀ i, i < 9 → va_T .byte (E.2.2.2.1 (40 + i)) (wtx i).length (fun j => vI ((wtx i).getD j 0)) (AS E) U E.2.2.1 := h.2.2.2.2.2.2.2.2.2.2.2.2.2.2.2.2.2
section RULES
variable {E : EE} {X : JX} {cc : ByteArray} {own : String} {nl d c0 s0 : Nat} {pc : Nat} {L : List (Nat × Value)} {st : List Value} {K : Nat → Nat} {M : MM} {a b : Nat}
theorem J_cgets (hX : XO E X cc own nl d c0 s0) (hP : XP E X) (hXK : XK X = K) {C n ds : String} {idx : Nat} {v w : Value} (hv0 : ∀ ad, PN E ad → cv ad v = w) (hZ : ∀ U, SF E U → va_Z C n ds w (AS E) U E.2.2.1) (hl : Cond.fieldLink own idx C n ds ∈ tb) (hd : decode cc pc = .ok (.getstatic idx, 3)) (k1 : J E X (pc + 3) L (v :: st) K M a b) : J E X pc L st K M a b := by
  obtain ⟨p, l, e, R, s, m, args, below, meth, c, Q, nL, K0, ad0⟩ := X
  intro ad H locs ls hR he hs hv
  have hKe : K0 = K := hXK
  obtain rfl : ad = ad0 := he.2 hKe.symm
  obtain ⟨cf, kf, fi, f, q, cell, h1, h2, h3, h4, h5, h6, h7, h8⟩ := hZ s hX.2.2.2.2.2.2.2.2
  have hlt := (Array.getElem?_eq_some_iff.mp h5).1
  have kk := k1 ad H locs ls hR he hs hv
  rw [List.map_cons, hv0 ad hP] at kk
  exact W.gets hX.1 hX.2.1 hX.2.2.2.1 (hX.2.2.2.2.1 _ hl) h1 h2 h3 h4 (by rw [hR.2.2.2.1.2 q hlt]; exact h5) (fun e => by rw [e] at h6; cases h6) h7 rfl hd kk
theorem J_cgetsN (hX : XO E X cc own nl d c0 s0) (hP : XP E X) (hXK : XK X = K) {C n ds host : String} {idx : Nat} {v w : Value} (hv0 : ∀ ad, PN E ad → cv ad v = w) (hZ : ∀ U, SF E U → va_Z C n ds w (AS E) U E.2.2.1) (hl : (own, idx, C, n, ds, host) ∈ nwF) (hd : decode cc pc = .ok (.getstatic idx, 3)) (k1 : J E X (pc + 3) L (v :: st) K M a b) : J E X pc L st K M a b := by
  obtain ⟨p, l, e, R, s, m, args, below, meth, c, Q, nL, K0, ad0⟩ := X
  intro ad H locs ls hR he hs hv
  have hKe : K0 = K := hXK
  obtain rfl : ad = ad0 := he.2 hKe.symm
  obtain ⟨cf, kf, fi, f, q, cell, h1, h2, h3, h4, h5, h6, h7, h8⟩ := hZ s hX.2.2.2.2.2.2.2.2
  have hlt := (Array.getElem?_eq_some_iff.mp h5).1
  have kk := k1 ad H locs ls hR he hs hv
  rw [List.map_cons, hv0 ad hP] at kk
  exact va_WgetsN hX.1 hX.2.1 hX.2.2.2.1 (va_Nw.use rfl (hX.2.2.2.2.2.2.2.1.2 _ hl)) h1 h2 h3 h4 (by rw [hR.2.2.2.1.2 q hlt]; exact h5) (fun e => by rw [e] at h6; cases h6) h7 rfl hd kk
theorem J_cgetf (hX : XO E X cc own nl d c0 s0) (hP : XP E X) (hXK : XK X = K) {C n ds : String} {idx k : Nat} {v w : Value} (hv0 : ∀ ad, PN E ad → cv ad v = w) (hZ : ∀ U, SF E U → va_OF C n ds w (E.2.2.2.1 k) (AS E) U E.2.2.1) (hl : Cond.fieldLink own idx C n ds ∈ tb) (hd : decode cc pc = .ok (.getfield idx, 3)) (k1 : J E X (pc + 3) L (v :: st) K M a b) : J E X pc L (.ref (1000000 + k) :: st) K M a b := by
  obtain ⟨p, l, e, R, s, m, args, below, meth, c, Q, nL, K0, ad0⟩ := X
  intro ad H locs ls hR he hs hv
  have hKe : K0 = K := hXK
  obtain rfl : ad = ad0 := he.2 hKe.symm
  obtain ⟨cf, kf, fi, f, cell, h1, h2, h3, h4, h5, h6⟩ := hZ s hX.2.2.2.2.2.2.2.2
  have hlt := (Array.getElem?_eq_some_iff.mp h3).1
  have kk := k1 ad H locs ls hR he hs hv
  rw [List.map_cons, hv0 ad hP] at kk
  rw [List.map_cons, PN.ref hP k]
  exact W.getf hX.1 hX.2.1 hX.2.2.2.1 (hX.2.2.2.2.1 _ hl) h1 h2 (by rw [hR.2.2.2.1.2 _ hlt]; exact h3) h4 (v := w) h5 rfl rfl hd kk
theorem J_ctl (hX : XO E X cc own nl d c0 s0) (hP : XP E X) (hXK : XK X = K) {k N : Nat} {ty : FieldType} {f : Nat → Value} (hT : ∀ U, SF E U → va_T ty (E.2.2.2.1 k) N f (AS E) U E.2.2.1) (hd : decode cc pc = .ok (.arraylength, 1)) (k1 : J E X (pc + 1) L (vI N :: st) K M a b) : J E X pc L (.ref (1000000 + k) :: st) K M a b := by
  obtain ⟨p, l, e, R, s, m, args, below, meth, c, Q, nL, K0, ad0⟩ := X
  intro ad H locs ls hR he hs hv
  have hKe : K0 = K := hXK
  obtain rfl : ad = ad0 := he.2 hKe.symm
  obtain ⟨cell, h1, h2, h3, h4, h5, h6, h7⟩ := hT s hX.2.2.2.2.2.2.2.2
  have hlt := (Array.getElem?_eq_some_iff.mp h1).1
  have kk := k1 ad H locs ls hR he hs hv
  rw [List.map_cons, PN.ref hP k]
  rw [List.map_cons, show cv ad (vI N) = .int (Int32.ofNat N) from congrArg Value.int Int32.ofInt_eq_ofNat] at kk
  exact W.alen (n := Int32.ofNat N) hX.1 hX.2.1 (by rw [hR.2.2.2.1.2 _ hlt]; exact h1) h2 h5 rfl rfl hd kk

theorem J_cti (hX : XO E X cc own nl d c0 s0) (hP : XP E X) (hXK : XK X = K) {k N : Nat} {f : Nat → Value} {j : Int} {v : Value} (hT : ∀ U, SF E U → va_T .int (E.2.2.2.1 k) N f (AS E) U E.2.2.1) (hj : 0 ≤ j ∧ j < N) (hN : N < 1000000) (hv0 : ∀ ad, PN E ad → cv ad v = f j.toNat) (hd : decode cc pc = .ok (.iaload, 1)) (k1 : J E X (pc + 1) L (v :: st) K M a b) : J E X pc L (vI j :: .ref (1000000 + k) :: st) K M a b := by
  obtain ⟨p, l, e, R, s, m, args, below, meth, c, Q, nL, K0, ad0⟩ := X
  intro ad H locs ls hR he hs hv
  have hKe : K0 = K := hXK
  obtain rfl : ad = ad0 := he.2 hKe.symm
  obtain ⟨cell, h1, h2, h3, h4, h5, h6, h7⟩ := hT s hX.2.2.2.2.2.2.2.2
  have hlt := (Array.getElem?_eq_some_iff.mp h1).1
  have kk := k1 ad H locs ls hR he hs hv
  rw [List.map_cons, hv0 ad hP] at kk
  rw [List.map_cons, List.map_cons, PN.ref hP k]
  have hcl : (Int32.ofInt j).toNatClampNeg = j.toNat := oi_cl (by omega)
  exact W.iald (v := f j.toNat) hX.1 hX.2.1 (by rw [hR.2.2.2.1.2 _ hlt]; exact h1) h2 h3 (fun q => by
    rcases q with q | q
    · exact (oi_in hj.1 hj.2 (by omega)) (Or.inl q)
    · rw [hcl] at q; omega) (by rw [hcl]; exact h6 _ (by omega)) rfl rfl hd kk

theorem J_ctb (hX : XO E X cc own nl d c0 s0) (hP : XP E X) (hXK : XK X = K) {k N : Nat} {f : Nat → Value} {j : Int} {v : Value} (hT : ∀ U, SF E U → va_T .byte (E.2.2.2.1 k) N f (AS E) U E.2.2.1) (hj : 0 ≤ j ∧ j < N) (hN : N < 1000000) (hv0 : ∀ ad, PN E ad → cv ad v = f j.toNat) (hd : decode cc pc = .ok (.baload, 1)) (k1 : J E X (pc + 1) L (v :: st) K M a b) : J E X pc L (vI j :: .ref (1000000 + k) :: st) K M a b := by
  obtain ⟨p, l, e, R, s, m, args, below, meth, c, Q, nL, K0, ad0⟩ := X
  intro ad H locs ls hR he hs hv
  have hKe : K0 = K := hXK
  obtain rfl : ad = ad0 := he.2 hKe.symm
  obtain ⟨cell, h1, h2, h3, h4, h5, h6, h7⟩ := hT s hX.2.2.2.2.2.2.2.2
  have hlt := (Array.getElem?_eq_some_iff.mp h1).1
  have kk := k1 ad H locs ls hR he hs hv
  rw [List.map_cons, hv0 ad hP] at kk
  rw [List.map_cons, List.map_cons, PN.ref hP k]
  have hcl : (Int32.ofInt j).toNatClampNeg = j.toNat := oi_cl (by omega)
  exact W.bald (v := f j.toNat) hX.1 hX.2.1 (by rw [hR.2.2.2.1.2 _ hlt]; exact h1) h2 h3 (fun q => by
    rcases q with q | q
    · exact (oi_in hj.1 hj.2 (by omega)) (Or.inl q)
    · rw [hcl] at q; omega) (by rw [hcl]; exact h6 _ (by omega)) rfl rfl hd kk

theorem J_cta (hX : XO E X cc own nl d c0 s0) (hP : XP E X) (hXK : XK X = K) {k N : Nat} {C : String} {f : Nat → Value} {j : Int} {v : Value} (hT : ∀ U, SF E U → va_T (.object C) (E.2.2.2.1 k) N f (AS E) U E.2.2.1) (hj : 0 ≤ j ∧ j < N) (hN : N < 1000000) (hv0 : ∀ ad, PN E ad → cv ad v = f j.toNat) (hd : decode cc pc = .ok (.aaload, 1)) (k1 : J E X (pc + 1) L (v :: st) K M a b) : J E X pc L (vI j :: .ref (1000000 + k) :: st) K M a b := by
  obtain ⟨p, l, e, R, s, m, args, below, meth, c, Q, nL, K0, ad0⟩ := X
  intro ad H locs ls hR he hs hv
  have hKe : K0 = K := hXK
  obtain rfl : ad = ad0 := he.2 hKe.symm
  obtain ⟨cell, h1, h2, h3, h4, h5, h6, h7⟩ := hT s hX.2.2.2.2.2.2.2.2
  have hlt := (Array.getElem?_eq_some_iff.mp h1).1
  have kk := k1 ad H locs ls hR he hs hv
  rw [List.map_cons, hv0 ad hP] at kk
  rw [List.map_cons, List.map_cons, PN.ref hP k]
  have hcl : (Int32.ofInt j).toNatClampNeg = j.toNat := oi_cl (by omega)
  exact W.aald (v := f j.toNat) hX.1 hX.2.1 (by rw [hR.2.2.2.1.2 _ hlt]; exact h1) h2 rfl h3 (fun q => by
    rcases q with q | q
    · exact (oi_in hj.1 hj.2 (by omega)) (Or.inl q)
    · rw [hcl] at q; omega) (by rw [hcl]; exact h6 _ (by omega)) rfl rfl hd kk

/- the end of a method of any small type -/
theorem J_nret (hX : XO E X cc own nl d c0 s0) {post : Option Value → (Nat → Nat) → MM → Prop} {ty : FieldType} (hQ : XQ E X (some ty) post c0 s0) {x : Int} (hd : decode cc pc = .ok (.ireturn, 1)) (hn : narrow ty (.int (Int32.ofInt x)) = .int (Int32.ofInt x)) (hp : post (some (vI x)) K M) (ha : a ≤ c0) (hb : b ≤ s0) : J E X pc L [vI x] K M a b := by
  obtain ⟨p, l, e, R, s, m, args, below, meth, c, Q, nL, K0, ad0⟩ := X
  intro ad H locs ls hR he hs hv
  obtain ⟨hr, hlocks, rfl⟩ := hQ
  refine W.widen ha hb ?_
  exact W.zret hX.1 hX.2.1 hr hn (fun t ht hW => ⟨some (vI x), K, M, ad, rfl, hp, by rw [ht]; exact hR, he⟩) hs hd hlocks
theorem J_anret (hX : XO E X cc own nl d c0 s0) {post : Option Value → (Nat → Nat) → MM → Prop} {C : String} (hQ : XQ E X (some (.object C)) post c0 s0) (hd : decode cc pc = .ok (.areturn, 1)) (hp : post (some .null) K M) (ha : a ≤ c0) (hb : b ≤ s0) : J E X pc L [.null] K M a b := by
  obtain ⟨p, l, e, R, s, m, args, below, meth, c, Q, nL, K0, ad0⟩ := X
  intro ad H locs ls hR he hs hv
  obtain ⟨hr, hlocks, rfl⟩ := hQ
  refine W.widen ha hb ?_
  exact W.aret hX.1 hX.2.1 hr (Or.inl ⟨C, rfl⟩) (Or.inl rfl) (fun t ht hW => ⟨some .null, K, M, ad, rfl, hp, by rw [ht]; exact hR, he⟩) hs hd hlocks
theorem J_ishr0 (hX : XO E X cc own nl d c0 s0) {x : Int} (hd : decode cc pc = .ok (.ishr, 1)) (k1 : J E X (pc + 1) L (vI x :: st) K M a b) : J E X pc L (vI 0 :: vI x :: st) K M a b := by
  obtain ⟨p, l, e, R, s, m, args, below, meth, c, Q, nL, K0, ad0⟩ := X
  intro ad H locs ls hR he hs hv
  have kk := k1 ad H locs ls hR he hs hv
  refine lv_ishr hX.1 hX.2.1 hd ?_
  rw [show Int32.ofInt x >>> (Int32.ofInt 0 &&& 31) = Int32.ofInt x by rw [show Int32.ofInt 0 &&& 31 = 0 by decide]; exact Int32.shiftRight_zero]
  exact kk
theorem and255 : ∀ n : Fin 128, Int32.ofInt (n.val : Int) &&& Int32.ofInt 255 = Int32.ofInt (n.val : Int) := by decide
theorem i2c_n : ∀ n : Fin 128, ((Int32.ofInt (n.val : Int)).toUInt32 % 65536).toInt32 = Int32.ofInt (n.val : Int) := by decide
theorem nar_c : ∀ n : Fin 128, narrow .char (.int (Int32.ofInt (n.val : Int))) = .int (Int32.ofInt (n.val : Int)) := by decide
theorem nar_cI {x : Int} (h : 0 ≤ x ∧ x < 128) : narrow .char (.int (Int32.ofInt x)) = .int (Int32.ofInt x) := by
  have := nar_c ⟨x.toNat, by omega⟩
  rwa [show ((x.toNat : Nat) : Int) = x by omega] at this
theorem J_and255 (hX : XO E X cc own nl d c0 s0) {x : Int} (hx : 0 ≤ x ∧ x < 128) (hd : decode cc pc = .ok (.iand, 1)) (k1 : J E X (pc + 1) L (vI x :: st) K M a b) : J E X pc L (vI 255 :: vI x :: st) K M a b := by
  obtain ⟨p, l, e, R, s, m, args, below, meth, c, Q, nL, K0, ad0⟩ := X
  intro ad H locs ls hR he hs hv
  have kk := k1 ad H locs ls hR he hs hv
  refine lv_iand hX.1 hX.2.1 hd ?_
  have := and255 ⟨x.toNat, by omega⟩
  rw [show ((x.toNat : Nat) : Int) = x by omega] at this
  rw [this]
  exact kk
theorem J_i2c (hX : XO E X cc own nl d c0 s0) {x : Int} (hx : 0 ≤ x ∧ x < 128) (hd : decode cc pc = .ok (.i2c, 1)) (k1 : J E X (pc + 1) L (vI x :: st) K M a b) : J E X pc L (vI x :: st) K M a b := by
  obtain ⟨p, l, e, R, s, m, args, below, meth, c, Q, nL, K0, ad0⟩ := X
  intro ad H locs ls hR he hs hv
  have := i2c_n ⟨x.toNat, by omega⟩
  rw [show ((x.toNat : Nat) : Int) = x by omega] at this
  exact lv_i2c hX.1 hX.2.1 hd this (k1 ad H locs ls hR he hs hv)
end RULES
/-- a contract where the reserved ids are pinned -/
def CnW (E : EE) (d : Nat) (y : MethodName) (cc : ByteArray) (n : Nat) (ret : Option FieldType) (av : List Value) (K : Nat → Nat) (M : MM) (post : Option Value → (Nat → Nat) → MM → Prop) (mc ms : Nat) : Prop :=
  ∀ (l : Launch) (ad : Nat → Nat), PN E ad → Met l y (ww y cc n ret) (rmD d mc ms) (va_Pc (av.map (cv ad)) (fun U => Rep E ad K M U.heap ∧ KF E U)) (CQ E ad K post) mc ms (fun q => sz0 E ≤ q)
theorem Cn.toW {E : EE} {d : Nat} {y : MethodName} {cc : ByteArray} {n : Nat} {ret : Option FieldType} {av : List Value} {K : Nat → Nat} {M : MM} {post : Option Value → (Nat → Nat) → MM → Prop} {mc ms : Nat} (h : Cn E d y cc n ret av K M post mc ms) : CnW E d y cc n ret av K M post mc ms := fun l ad _ => h l ad
theorem CnW_of {E : EE} {d : Nat} {y : MethodName} {cc : ByteArray} {n : Nat} {ret : Option FieldType} {av : List Value} {K : Nat → Nat} {M : MM} {post : Option Value → (Nat → Nat) → MM → Prop} {mc ms : Nat} (own : String) (hy : plainFor y = true) (hown : y.cls = own) (hlen : (lg_sl av).length ≤ n)
    (body : ∀ X : JX, XO E X cc own n d mc ms → XQ E X ret post mc ms → XK X = K → XP E X → J E X 0 (lv_args 0 av) [] K M 0 0) : CnW E d y cc n ret av K M post mc ms := by
  intro l ad hpn
  refine va_MetF (cc := cc) (maxL := n) (ret := ret) (ws' := tb) hy rfl ?_
  intro p e s m args below meth c s₁ B hml hv
  obtain ⟨rfl, hR, hKF⟩ := hv
  have hx := B.exec
  have hb := B.bytes
  have hr := B.returns
  have hts := atoms_spec (ws := ww y cc n ret) B.pre
  have hown' : s.vm.findClass own = some m.cls := hown ▸ findClass_of_methodNamed B.named
  have hlocks := B.notSynchronized
  have hl := lv_entry (av.map (cv ad)) (n := n) (by rw [lg_sl_len]; exact hlen)
  rw [lg_entry_eq]
  generalize (lg_sl (av.map (cv ad)) ++ List.replicate (n - (lg_sl (av.map (cv ad))).length) Slot.unset).toArray = ls at hl ⊢
  rw [lv_args_map] at hl
  exact body (p, l, e, (headSpec (ww y cc n ret) (rmD d mc ms)).room, s, m, (av.map (cv ad)).toArray, below, meth, c, MQ below (CQ E ad K post) (av.map (cv ad)).toArray s mc ms (fun q => sz0 E ≤ q), n, K, ad)
    ⟨hx, hb, ⟨hml, rfl⟩, hown', fun w hw => hts w (List.mem_cons_of_mem _ hw), ⟨Nat.le_refl _, Nat.le_refl _, Nat.le_refl _, Nat.le_refl _⟩, hKF⟩ ⟨hr, hlocks, rfl⟩ rfl hpn ad s.heap [] ls hR ⟨fun _ _ => rfl, fun _ => rfl⟩ (fun z hz => by cases hz) hl
theorem Rep_ad {E : EE} {ad ad2 K : Nat → Nat} {M : MM} {H : Heap} (hC : Cl K M) (h : ∀ i, K i ≠ 0 → ad2 i = ad i) (hR : Rep E ad K M H) : Rep E ad2 K M H := by
  obtain ⟨r1, r2, r3, r4, r6⟩ := hR
  exact ⟨fun i hi => by rw [h i hi, ce_keep hC h hi]; exact r1 i hi, fun i j hi hj e => r2 i j hi hj (by rw [← h i hi, ← h j hj]; exact e), fun i hi => by rw [h i hi]; exact r3 i hi, r4, r6⟩
/-- a contract of pinned ids is a contract, where nothing at the reserved ids lives -/
theorem Cn_pin {E : EE} {d : Nat} {y : MethodName} {cc : ByteArray} {n : Nat} {ret : Option FieldType} {av : List Value} {K : Nat → Nat} {M : MM} {post : Option Value → (Nat → Nat) → MM → Prop} {mc ms : Nat} (h : CnW E d y cc n ret av K M post mc ms) (hz : ∀ i, 1000000 ≤ i → K i = 0) (hC : Cl K M) (hav : lvs K av)
    (hp : ∀ r K' M', post r K' M' → K' = K ∧ Cl K M' ∧ lvs K r.toList) : Cn E d y cc n ret av K M post mc ms := by
  intro l ad
  let ad2 : Nat → Nat := fun i => if 1000000 ≤ i then E.2.2.2.1 (i - 1000000) else ad i
  have hpn : PN E ad2 := fun k => by
    show (if 1000000 ≤ 1000000 + k then E.2.2.2.1 (1000000 + k - 1000000) else ad (1000000 + k)) = _
    rw [if_pos (by omega), show 1000000 + k - 1000000 = k by omega]
  have hk : ∀ i, K i ≠ 0 → ad2 i = ad i := fun i hi => if_neg (fun q => hi (hz i q))
  have hk2 : ∀ i, K i ≠ 0 → ad i = ad2 i := fun i hi => (hk i hi).symm
  have e1 : av.map (cv ad2) = av.map (cv ad) := cv_keep hk av hav
  have e2 : (fun U : State => Rep E ad2 K M U.heap ∧ KF E U) = fun U => Rep E ad K M U.heap ∧ KF E U := funext fun U => propext ⟨fun q => ⟨Rep_ad hC hk2 q.1, q.2⟩, fun q => ⟨Rep_ad hC hk q.1, q.2⟩⟩
  have go : ∀ (ad3 ad4 : Nat → Nat), (∀ i, K i ≠ 0 → ad4 i = ad3 i) → ∀ ar st oc t, CQ E ad3 K post ar st oc t → CQ E ad4 K post ar st oc t := by
    intro ad3 ad4 h34 ar st oc t q
    obtain ⟨r, K', M', ad', q1, q2, q3, q4⟩ := q
    obtain ⟨rfl, q5, q6⟩ := hp _ _ _ q2
    obtain rfl := q4.2 rfl
    refine ⟨r, _, M', ad4, ?_, q2, Rep_ad q5 h34 q3, ⟨fun _ _ => rfl, fun _ => rfl⟩⟩
    rw [q1]
    cases r with
    | none => rfl
    | some v =>
      have := cv_keep h34 [v] q6
      rw [List.map_cons, List.map_cons, List.map_nil] at this
      exact congrArg _ (congrArg some (List.cons.inj this).1.symm)
  have e3 : CQ E ad2 K post = CQ E ad K post := funext fun ar => funext fun st => funext fun oc => funext fun t => propext ⟨go ad2 ad hk2 ar st oc t, go ad ad2 hk ar st oc t⟩
  have := h l ad2 hpn
  rw [e1, e2, e3] at this
  exact this

