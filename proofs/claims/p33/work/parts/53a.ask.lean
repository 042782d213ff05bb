/-! the law's small methods, over the class's page -/
def AskH (E : EE) (Z : QZ) (u : Nat) (y : MethodName) (cy : ByteArray) (ny : Nat) (rety : Option FieldType) (hh : List (Nat × Nat × Nat × Nat)) (As : List Value) (v : Value) : Prop := ∀ n K M, IV n Z.T K M Z.x Z.S Z.c Z.P → CnH E 9 y cy ny rety hh As K M (fun r K' M' => K' = K ∧ r = some v ∧ IV n Z.T K' M' Z.x Z.S Z.c Z.P) (2 * u) (12 * u)
def DoH (E : EE) (Z : QZ) (T2 : Int) (y : MethodName) (cy : ByteArray) (ny : Nat) (hh : List (Nat × Nat × Nat × Nat)) (As : List Value) (Φ : Int → MM → Int → MM → Prop) : Prop := ∀ n K M, IV n Z.T K M Z.x Z.S Z.c Z.P → CnH E 9 y cy ny (some .int) hh As K M (fun r K' M' => ∃ v n2 S2 c2 P2, Φ v S2 c2 P2 ∧ r = some (vI v) ∧ IV n2 T2 K' M' Z.x S2 c2 P2) 40 240
section WALK
variable {E : EE} {X : JX} {Z : QZ} {cc : ByteArray} {own : String} {nl d : Nat} {K : Nat → Nat} {q pc : Nat} {L : List (Nat × Value)} {st : List Value}
theorem Q_ask (hX : XO E X cc own nl d Z.c0 Z.s0) (hl : XL X) {u idx ny : Nat} {y : MethodName} {cy : ByteArray} {rety : Option FieldType} {hh : List (Nat × Nat × Nat × Nat)} {As : List Value} {v : Value} (rest : List Value) (hd : decode cc pc = .ok (.invokestatic idx, 3)) (hw : CWH own idx y cy ny rety hh As.length) (hc : AskH E Z u y cy ny rety hh As v)
    (hst : st = As.reverse ++ rest) (hcat : (rest.map fun v => v.category).sum ≤ 8) (hdp : 9 + 1 ≤ d ∧ ny ≤ 18) (k1 : QJ E X Z K q (pc + 3) L (v :: rest)) : QJ E X Z K (q + u) pc L st := fun n M a b hI ha hb =>
  J_callHS hX hl rest hd hw (hc n K M hI) hst hcat hdp ⟨by omega, by omega⟩ (fun r K' M' h => h.1) (fun r M' h => by
    obtain ⟨-, rfl, h3⟩ := h
    exact k1 n M' _ _ h3 (by omega) (by omega))
theorem pk_x {T : Int} {n : Nat} {M : MM} {x : Nat} {S : MM} {c : Int} {P : MM} (h : IV n T K M x S c P) : pinK K x ≠ 0 := lvs1 (Or.inr (by rw [h.eye.1]; decide))
theorem pk_s : pinK K (1000000 + 50) ≠ 0 := lvs1 (Or.inl (by decide))
theorem L_ask (hX : XO E X cc own nl d Z.c0 Z.s0) (hl : XL X) {u idx ny : Nat} {y : MethodName} {cy : ByteArray} {rety : Option FieldType} {hh : List (Nat × Nat × Nat × Nat)} {As : List Value} {v : Value} (rest : List Value) (hd : decode cc pc = .ok (.invokestatic idx, 3)) (hw : CWH own idx y cy ny rety hh As.length) (hc : AskH E Z u y cy ny rety hh As v)
    (hst : st = As.reverse ++ rest) (hcat : (rest.map fun v => v.category).sum ≤ 8) (hdp : 9 + 1 ≤ d ∧ ny ≤ 18) (hv : ∀ ad1 ad2 : Nat → Nat, cv ad1 v = cv ad2 v)
    (hL : ∀ K, pinK K Z.x ≠ 0 → pinK K (1000000 + 50) ≠ 0 → lvs (pinK K) (L.map (fun q => q.2)) ∧ lvs (pinK K) rest) (k1 : LJ E X Z q (pc + 3) L (v :: rest)) : LJ E X Z (q + u) pc L st := fun n K M a b hI ha hb =>
  JP_in hX hl (fun X2 hX2 hl2 hP hK hsm => J_callHP hX2 hl2 hP hK rest hd hw (hc n K M hI) hst hcat hdp ⟨by omega, by omega⟩ (hL K (pk_x hI) pk_s).1 (hL K (pk_x hI) pk_s).2 (fun r K' M' h => by
    obtain ⟨rfl, rfl, h3⟩ := h
    refine ⟨h3.cl, h3.zz, fun w hw ad1 ad2 => ?_⟩
    have e : w = v := List.mem_singleton.mp hw
    rw [e]
    exact hv ad1 ad2) (fun r K' M' h => hsm _ _ _ _ _ _ _ (by
    obtain ⟨rfl, rfl, h3⟩ := h
    exact k1 n _ M' _ _ h3 (by omega) (by omega))))
theorem L_do {x : Nat} {T T2 : Int} {S : MM} {c : Int} {P : MM} {c0 s0 : Nat} (hX : XO E X cc own nl d c0 s0) (hl : XL X) {idx ny : Nat} {y : MethodName} {cy : ByteArray} {hh : List (Nat × Nat × Nat × Nat)} {As : List Value} {Φ : Int → MM → Int → MM → Prop} (rest : List Value) (hd : decode cc pc = .ok (.invokestatic idx, 3)) (hw : CWH own idx y cy ny (some .int) hh As.length) (hc : DoH E (x, T, S, c, P, c0, s0) T2 y cy ny hh As Φ)
    (hst : st = As.reverse ++ rest) (hcat : (rest.map fun v => v.category).sum ≤ 8) (hdp : 9 + 1 ≤ d ∧ ny ≤ 18)
    (hL : ∀ K, pinK K x ≠ 0 → pinK K (1000000 + 50) ≠ 0 → lvs (pinK K) (L.map (fun q => q.2)) ∧ lvs (pinK K) rest) (k1 : ∀ v S2 c2 P2, Φ v S2 c2 P2 → WFS T2 S2 → LJ E X (x, T2, S2, c2, P2, c0, s0) q (pc + 3) L (vI v :: rest)) : LJ E X (x, T, S, c, P, c0, s0) (q + 20) pc L st := fun n K M a b hI ha hb => by
  have ha' : a + 2 * (q + 20) ≤ c0 := ha
  have hb' : b + 12 * (q + 20) ≤ s0 := hb
  exact JP_in hX hl (fun X2 hX2 hl2 hP hK hsm => J_callHP hX2 hl2 hP hK rest hd hw (hc n K M hI) hst hcat hdp ⟨by omega, by omega⟩ (hL K (pk_x hI) pk_s).1 (hL K (pk_x hI) pk_s).2 (fun r K' M' h => by
    obtain ⟨v, n2, S2, c2, P2, -, rfl, h3⟩ := h
    exact ⟨h3.cl, h3.zz, ints_k⟩) (fun r K' M' h => hsm _ _ _ _ _ _ _ (by
    obtain ⟨v, n2, S2, c2, P2, hf, rfl, h3⟩ := h
    exact k1 v S2 c2 P2 hf h3.wfs n2 _ M' _ _ h3 (by show a + 40 + 2 * q ≤ c0; omega) (by show b + 240 + 12 * q ≤ s0; omega))))
end WALK

abbrev hscS (S : MM) (n : Int) : Prop := 0 ≤ n ∧ n < S 11 0 ∧ n < 8
def fCeS (S : MM) (c r : Int) : Int := if (0 ≤ c ∧ c ≤ S 0 3 - 1) ∧ (0 ≤ r ∧ r ≤ S 0 4 - 1) then 0 else 1
def fGS (S : MM) (p u v w : Int) : Int := if p ≠ -1000 ∧ ¬ hs S p then 1 else if bx S p ∨ ¬ plc u v w then 2 else if 20 ≤ S 1 0 ∨ 5 < arS S p then 3 else 0
def fBS (S : MM) (p u v w wd hg : Int) : Int := if fGS S p u v w ≠ 1 ∧ ¬ ((1 ≤ wd ∧ wd ≤ 100) ∧ (1 ≤ hg ∧ hg ≤ 100)) then 2 else fGS S p u v w
def fPS (S : MM) (n u v w : Int) : Int := if ¬ hs S n then 1 else if plc u v w then 0 else 2
def fCoS (S : MM) (n s : Int) : Int := if ¬ hs S n then 1 else if bx S n ∧ (0 ≤ s ∧ s ≤ 15) then 0 else 2
def fSS (S : MM) (l g t : Int) : Int := if ((-20 ≤ l ∧ l ≤ 0) ∧ (0 ≤ g ∧ g ≤ 20)) ∧ (1 ≤ t ∧ t ≤ 50) then (if 8 ≤ S 11 0 then 3 else 0) else 2
def fTS (S : MM) (x y l : Int) : Int := if ((0 ≤ x ∧ x ≤ S 0 3 - 1) ∧ (0 ≤ y ∧ y ≤ S 0 4 - 1)) ∧ (1 ≤ l ∧ l ≤ 40) then 0 else 2
set_option maxHeartbeats 4000000 in
theorem no_node {E : EE} {x : Nat} {T : Int} {S : MM} {c : Int} {P : MM} {c0 s0 : Nat} (hE : ∀ U, SF E U → ThF E U ∧ NcF U) {n9 k : Int} (hn9 : i32 n9) (hk : i32 k) (hf : ((f2l (if hs S n9 then 0 else 1) (if 0 ≤ k ∧ k ≤ 15 then 0 else 2)) : Int) ≠ 0) : AskH E (x, T, S, c, P, c0, s0) 1 yL_node cL_node 4 (some .int) hh_node [.ref x, vI n9, vI k] (vI (fK (f2l (if hs S n9 then 0 else 1) (if 0 ≤ k ∧ k ≤ 15 then 0 else 2)))) := fun n K M h0 => by
  have h : IV n T K M x S c P := h0
  have hpg := h.pg
  try dsimp only at hpg
  subst hpg
  exact m_L_node hE h.eye h.wf h.fr hn9 hk (fun r K2 M2 z => absurd z.1 hf) (fun _ => ⟨rfl, rfl, h⟩)
set_option maxHeartbeats 4000000 in
theorem a_node {E : EE} {x : Nat} {T : Int} {S : MM} {c : Int} {P : MM} {c0 s0 : Nat} (hE : ∀ U, SF E U → ThF E U ∧ NcF U) {n9 k : Int} (hn9 : i32 n9) (hk : i32 k) (hf : ((f2l (if hs S n9 then 0 else 1) (if 0 ≤ k ∧ k ≤ 15 then 0 else 2)) : Int) = 0) {v : Int} (hv : nvl S n9 k = v) : AskH E (x, T, S, c, P, c0, s0) 1 yL_node cL_node 4 (some .int) hh_node [.ref x, vI n9, vI k] (vI v) := fun n K M h0 => by
  have h : IV n T K M x S c P := h0
  have hpg := h.pg
  try dsimp only at hpg
  subst hpg
  subst hv
  exact m_L_node hE h.eye h.wf h.fr hn9 hk (fun r K2 M2 z => ⟨z.2.1, z.2.2.1, by rw [z.2.1]; exact (IV_lkd h z.2.2.2)⟩) (fun z => absurd hf z)
set_option maxHeartbeats 4000000 in
theorem no_painted {E : EE} {x : Nat} {T : Int} {S : MM} {c : Int} {P : MM} {c0 s0 : Nat} (hE : ∀ U, SF E U → ThF E U ∧ NcF U) {p : Int} (hp : i32 p) (hf : ((if p < 0 then 2 else 0) : Int) ≠ 0) : AskH E (x, T, S, c, P, c0, s0) 1 yL_painted cL_painted 3 (some .int) hh_painted [.ref x, vI p] (vI (fK (if p < 0 then 2 else 0))) := fun n K M h0 => by
  have h : IV n T K M x S c P := h0
  have hpg := h.pg
  try dsimp only at hpg
  subst hpg
  exact m_L_painted hE h.eye h.wf h.fr hp (fun r K2 M2 z => absurd z.1 hf) (fun _ => ⟨rfl, rfl, h⟩)
set_option maxHeartbeats 4000000 in
theorem a_painted {E : EE} {x : Nat} {T : Int} {S : MM} {c : Int} {P : MM} {c0 s0 : Nat} (hE : ∀ U, SF E U → ThF E U ∧ NcF U) {p : Int} (hp : i32 p) (hf : ((if p < 0 then 2 else 0) : Int) = 0) {v : Int} (hv : (if 0 ≤ p ∧ p < (nb S : Nat) then ord S p else -1000) = v) : AskH E (x, T, S, c, P, c0, s0) 1 yL_painted cL_painted 3 (some .int) hh_painted [.ref x, vI p] (vI v) := fun n K M h0 => by
  have h : IV n T K M x S c P := h0
  have hpg := h.pg
  try dsimp only at hpg
  subst hpg
  subst hv
  exact m_L_painted hE h.eye h.wf h.fr hp (fun r K2 M2 z => ⟨z.2.1, z.2.2.1, by rw [z.2.1]; exact (IV_lkd h z.2.2.2)⟩) (fun z => absurd hf z)
set_option maxHeartbeats 4000000 in
theorem no_title {E : EE} {x : Nat} {T : Int} {S : MM} {c : Int} {P : MM} {c0 s0 : Nat} (hE : ∀ U, SF E U → ThF E U ∧ NcF U) {k : Int} (hk : i32 k) (hf : ((if 0 ≤ k ∧ k ≤ 6 then 0 else 2) : Int) ≠ 0) : AskH E (x, T, S, c, P, c0, s0) 1 yL_title cL_title 3 (some .int) hh_title [.ref x, vI k] (vI (fK (if 0 ≤ k ∧ k ≤ 6 then 0 else 2))) := fun n K M h0 => by
  have h : IV n T K M x S c P := h0
  have hpg := h.pg
  try dsimp only at hpg
  subst hpg
  exact m_L_title hE h.eye h.wf h.fr hk (fun r K2 M2 z => absurd z.1 hf) (fun _ => ⟨rfl, rfl, h⟩)
set_option maxHeartbeats 4000000 in
theorem a_title {E : EE} {x : Nat} {T : Int} {S : MM} {c : Int} {P : MM} {c0 s0 : Nat} (hE : ∀ U, SF E U → ThF E U ∧ NcF U) {k : Int} (hk : i32 k) (hf : ((if 0 ≤ k ∧ k ≤ 6 then 0 else 2) : Int) = 0) {v : Int} (hv : tvl S k = v) : AskH E (x, T, S, c, P, c0, s0) 1 yL_title cL_title 3 (some .int) hh_title [.ref x, vI k] (vI v) := fun n K M h0 => by
  have h : IV n T K M x S c P := h0
  have hpg := h.pg
  try dsimp only at hpg
  subst hpg
  subst hv
  exact m_L_title hE h.eye h.wf h.fr hk (fun r K2 M2 z => ⟨z.2.1, z.2.2.1, by rw [z.2.1]; exact (IV_lkd h z.2.2.2)⟩) (fun z => absurd hf z)
set_option maxHeartbeats 4000000 in
theorem no_whole {E : EE} {x : Nat} {T : Int} {S : MM} {c : Int} {P : MM} {c0 s0 : Nat} (hE : ∀ U, SF E U → ThF E U ∧ NcF U) {k : Int} (hk : i32 k) (hf : ((if 0 ≤ k ∧ k ≤ 15 then 0 else 2) : Int) ≠ 0) : AskH E (x, T, S, c, P, c0, s0) 1 yL_whole cL_whole 3 (some .int) hh_whole [.ref x, vI k] (vI (fK (if 0 ≤ k ∧ k ≤ 15 then 0 else 2))) := fun n K M h0 => by
  have h : IV n T K M x S c P := h0
  have hpg := h.pg
  try dsimp only at hpg
  subst hpg
  exact m_L_whole hE h.eye h.wf h.fr hk (fun r K2 M2 z => absurd z.1 hf) (fun _ => ⟨rfl, rfl, h⟩)
set_option maxHeartbeats 4000000 in
theorem a_whole {E : EE} {x : Nat} {T : Int} {S : MM} {c : Int} {P : MM} {c0 s0 : Nat} (hE : ∀ U, SF E U → ThF E U ∧ NcF U) {k : Int} (hk : i32 k) (hf : ((if 0 ≤ k ∧ k ≤ 15 then 0 else 2) : Int) = 0) {v : Int} (hv : wvl S k = v) : AskH E (x, T, S, c, P, c0, s0) 1 yL_whole cL_whole 3 (some .int) hh_whole [.ref x, vI k] (vI v) := fun n K M h0 => by
  have h : IV n T K M x S c P := h0
  have hpg := h.pg
  try dsimp only at hpg
  subst hpg
  subst hv
  exact m_L_whole hE h.eye h.wf h.fr hk (fun r K2 M2 z => ⟨z.2.1, z.2.2.1, by rw [z.2.1]; exact (IV_lkd h z.2.2.2)⟩) (fun z => absurd hf z)
set_option maxHeartbeats 4000000 in
theorem no_shade {E : EE} {x : Nat} {T : Int} {S : MM} {c9 : Int} {P : MM} {c0 s0 : Nat} (hE : ∀ U, SF E U → ThF E U ∧ NcF U) {l c r9 : Int} (hl : l = 0 ∨ l = 1) (hc : i32 c) (hr9 : i32 r9) (hf : ((fCeS S c r9) : Int) ≠ 0) : AskH E (x, T, S, c9, P, c0, s0) 1 yL_shade cL_shade 5 (some .int) hh_shade [.ref x, vI l, vI c, vI r9] (vI (fK (fCeS S c r9))) := fun n K M h0 => by
  have h : IV n T K M x S c9 P := h0
  have hpg := h.pg
  try dsimp only at hpg
  subst hpg
  exact m_L_shade hE h.eye h.wf h.fr hl hc hr9 (fun r K2 M2 z => absurd z.1 hf) (fun _ => ⟨rfl, rfl, h⟩)
set_option maxHeartbeats 4000000 in
theorem a_shade {E : EE} {x : Nat} {T : Int} {S : MM} {c9 : Int} {P : MM} {c0 s0 : Nat} (hE : ∀ U, SF E U → ThF E U ∧ NcF U) {l c r9 : Int} (hl : l = 0 ∨ l = 1) (hc : i32 c) (hr9 : i32 r9) (hf : ((fCeS S c r9) : Int) = 0) {v : Int} (hv : shd S l c r9 = v) : AskH E (x, T, S, c9, P, c0, s0) 1 yL_shade cL_shade 5 (some .int) hh_shade [.ref x, vI l, vI c, vI r9] (vI v) := fun n K M h0 => by
  have h : IV n T K M x S c9 P := h0
  have hpg := h.pg
  try dsimp only at hpg
  subst hpg
  subst hv
  exact m_L_shade hE h.eye h.wf h.fr hl hc hr9 (fun r K2 M2 z => ⟨z.2.1, z.2.2.1, by rw [z.2.1]; exact (IV_lkd h z.2.2.2)⟩) (fun z => absurd hf z)
set_option maxHeartbeats 4000000 in
theorem no_shown {E : EE} {x : Nat} {T : Int} {S : MM} {c9 : Int} {P : MM} {c0 s0 : Nat} (hE : ∀ U, SF E U → ThF E U ∧ NcF U) {l c r9 : Int} (hl : l = 0 ∨ l = 1) (hc : i32 c) (hr9 : i32 r9) (hf : ((fCeS S c r9) : Int) ≠ 0) : AskH E (x, T, S, c9, P, c0, s0) 1 yL_shown cL_shown 5 (some .int) hh_shown [.ref x, vI l, vI c, vI r9] (vI (fK (fCeS S c r9))) := fun n K M h0 => by
  have h : IV n T K M x S c9 P := h0
  have hpg := h.pg
  try dsimp only at hpg
  subst hpg
  exact m_L_shown hE h.eye h.wf h.fr hl hc hr9 (fun r K2 M2 z => absurd z.1 hf) (fun _ => ⟨rfl, rfl, h⟩)
set_option maxHeartbeats 4000000 in
theorem a_shown {E : EE} {x : Nat} {T : Int} {S : MM} {c9 : Int} {P : MM} {c0 s0 : Nat} (hE : ∀ U, SF E U → ThF E U ∧ NcF U) {l c r9 : Int} (hl : l = 0 ∨ l = 1) (hc : i32 c) (hr9 : i32 r9) (hf : ((fCeS S c r9) : Int) = 0) {v : Int} (hv : front S l c r9 = v) : AskH E (x, T, S, c9, P, c0, s0) 1 yL_shown cL_shown 5 (some .int) hh_shown [.ref x, vI l, vI c, vI r9] (vI v) := fun n K M h0 => by
  have h : IV n T K M x S c9 P := h0
  have hpg := h.pg
  try dsimp only at hpg
  subst hpg
  subst hv
  exact m_L_shown hE h.eye h.wf h.fr hl hc hr9 (fun r K2 M2 z => ⟨z.2.1, z.2.2.1, by rw [z.2.1]; exact (IV_lkd h z.2.2.2)⟩) (fun z => absurd hf z)
set_option maxHeartbeats 4000000 in
theorem no_ghost {E : EE} {x : Nat} {T : Int} {S : MM} {c9 : Int} {P : MM} {c0 s0 : Nat} (hE : ∀ U, SF E U → ThF E U ∧ NcF U) {c r9 : Int} (hc : i32 c) (hr9 : i32 r9) (hf : ((fCeS S c r9) : Int) ≠ 0) : AskH E (x, T, S, c9, P, c0, s0) 1 yL_ghost cL_ghost 4 (some .int) hh_ghost [.ref x, vI c, vI r9] (vI (fK (fCeS S c r9))) := fun n K M h0 => by
  have h : IV n T K M x S c9 P := h0
  have hpg := h.pg
  try dsimp only at hpg
  subst hpg
  exact m_L_ghost hE h.eye h.wf h.fr hc hr9 (fun r K2 M2 z => absurd z.1 hf) (fun _ => ⟨rfl, rfl, h⟩)
set_option maxHeartbeats 4000000 in
theorem a_ghost {E : EE} {x : Nat} {T : Int} {S : MM} {c9 : Int} {P : MM} {c0 s0 : Nat} (hE : ∀ U, SF E U → ThF E U ∧ NcF U) {c r9 : Int} (hc : i32 c) (hr9 : i32 r9) (hf : ((fCeS S c r9) : Int) = 0) {v : Int} (hv : ghs S c r9 = v) : AskH E (x, T, S, c9, P, c0, s0) 1 yL_ghost cL_ghost 4 (some .int) hh_ghost [.ref x, vI c, vI r9] (vI v) := fun n K M h0 => by
  have h : IV n T K M x S c9 P := h0
  have hpg := h.pg
  try dsimp only at hpg
  subst hpg
  subst hv
  exact m_L_ghost hE h.eye h.wf h.fr hc hr9 (fun r K2 M2 z => ⟨z.2.1, z.2.2.1, by rw [z.2.1]; exact (IV_lkd h z.2.2.2)⟩) (fun z => absurd hf z)
set_option maxHeartbeats 4000000 in
theorem no_ghosts {E : EE} {x : Nat} {T : Int} {S : MM} {c : Int} {P : MM} {c0 s0 : Nat} (hE : ∀ U, SF E U → ThF E U ∧ NcF U) {least : Int} (hleast : i32 least) (hf : ((if 1 ≤ least ∧ least ≤ 15 then 0 else 2) : Int) ≠ 0) : AskH E (x, T, S, c, P, c0, s0) 1 yL_ghosts cL_ghosts 3 (some .int) hh_ghosts [.ref x, vI least] (vI (fK (if 1 ≤ least ∧ least ≤ 15 then 0 else 2))) := fun n K M h0 => by
  have h : IV n T K M x S c P := h0
  have hpg := h.pg
  try dsimp only at hpg
  subst hpg
  exact m_L_ghosts hE h.eye h.wf h.fr hleast (fun r K2 M2 z => absurd z.1 hf) (fun _ => ⟨rfl, rfl, h⟩)
set_option maxHeartbeats 4000000 in
theorem a_ghosts {E : EE} {x : Nat} {T : Int} {S : MM} {c : Int} {P : MM} {c0 s0 : Nat} (hE : ∀ U, SF E U → ThF E U ∧ NcF U) {least : Int} (hleast : i32 least) (hf : ((if 1 ≤ least ∧ least ≤ 15 then 0 else 2) : Int) = 0) {v : Int} (hv : gall S least = v) : AskH E (x, T, S, c, P, c0, s0) 1 yL_ghosts cL_ghosts 3 (some .int) hh_ghosts [.ref x, vI least] (vI v) := fun n K M h0 => by
  have h : IV n T K M x S c P := h0
  have hpg := h.pg
  try dsimp only at hpg
  subst hpg
  subst hv
  exact m_L_ghosts hE h.eye h.wf h.fr hleast (fun r K2 M2 z => ⟨z.2.1, z.2.2.1, by rw [z.2.1]; exact (IV_lkd h z.2.2.2)⟩) (fun z => absurd hf z)
set_option maxHeartbeats 4000000 in
theorem no_percentageFor {E : EE} {x : Nat} {T : Int} {S : MM} {c : Int} {P : MM} {c0 s0 : Nat} (hE : ∀ U, SF E U → ThF E U ∧ NcF U) {lo hi : Int} (hlo : i32 lo) (hhi : i32 hi) (hf : ((if (-20 ≤ lo ∧ lo ≤ 0) ∧ (0 ≤ hi ∧ hi ≤ 20) then 0 else 2) : Int) ≠ 0) : AskH E (x, T, S, c, P, c0, s0) 1 yL_percentageFor cL_percentageFor 4 (some .int) hh_percentageFor [.ref x, vI lo, vI hi] (vI (fK (if (-20 ≤ lo ∧ lo ≤ 0) ∧ (0 ≤ hi ∧ hi ≤ 20) then 0 else 2))) := fun n K M h0 => by
  have h : IV n T K M x S c P := h0
  have hpg := h.pg
  try dsimp only at hpg
  subst hpg
  exact m_L_percentageFor hE h.eye h.wf h.fr hlo hhi (fun r K2 M2 z => absurd z.1 hf) (fun _ => ⟨rfl, rfl, h⟩)
set_option maxHeartbeats 4000000 in
theorem a_percentageFor {E : EE} {x : Nat} {T : Int} {S : MM} {c : Int} {P : MM} {c0 s0 : Nat} (hE : ∀ U, SF E U → ThF E U ∧ NcF U) {lo hi : Int} (hlo : i32 lo) (hhi : i32 hi) (hf : ((if (-20 ≤ lo ∧ lo ≤ 0) ∧ (0 ≤ hi ∧ hi ≤ 20) then 0 else 2) : Int) = 0) {v : Int} (hv : pctW S lo hi = v) : AskH E (x, T, S, c, P, c0, s0) 1 yL_percentageFor cL_percentageFor 4 (some .int) hh_percentageFor [.ref x, vI lo, vI hi] (vI v) := fun n K M h0 => by
  have h : IV n T K M x S c P := h0
  have hpg := h.pg
  try dsimp only at hpg
  subst hpg
  subst hv
  exact m_L_percentageFor hE h.eye h.wf h.fr hlo hhi (fun r K2 M2 z => ⟨z.2.1, z.2.2.1, by rw [z.2.1]; exact (IV_lkd h z.2.2.2)⟩) (fun z => absurd hf z)
set_option maxHeartbeats 4000000 in
theorem no_scene {E : EE} {x : Nat} {T : Int} {S : MM} {c : Int} {P : MM} {c0 s0 : Nat} (hE : ∀ U, SF E U → ThF E U ∧ NcF U) {n9 k : Int} (hn9 : i32 n9) (hk : i32 k) (hf : ((f2l (if hscS S n9 then 0 else 1) (if 0 ≤ k ∧ k ≤ 3 then 0 else 2)) : Int) ≠ 0) : AskH E (x, T, S, c, P, c0, s0) 1 yL_scene cL_scene 4 (some .int) hh_scene [.ref x, vI n9, vI k] (vI (fK (f2l (if hscS S n9 then 0 else 1) (if 0 ≤ k ∧ k ≤ 3 then 0 else 2)))) := fun n K M h0 => by
  have h : IV n T K M x S c P := h0
  have hpg := h.pg
  try dsimp only at hpg
  subst hpg
  exact m_L_scene hE h.eye h.wf hn9 hk (fun r K2 M2 z => absurd z.1 hf) (fun _ => ⟨rfl, rfl, h⟩)
set_option maxHeartbeats 4000000 in
theorem a_scene {E : EE} {x : Nat} {T : Int} {S : MM} {c : Int} {P : MM} {c0 s0 : Nat} (hE : ∀ U, SF E U → ThF E U ∧ NcF U) {n9 k : Int} (hn9 : i32 n9) (hk : i32 k) (hf : ((f2l (if hscS S n9 then 0 else 1) (if 0 ≤ k ∧ k ≤ 3 then 0 else 2)) : Int) = 0) {v : Int} (hv : scv S n9 k = v) : AskH E (x, T, S, c, P, c0, s0) 1 yL_scene cL_scene 4 (some .int) hh_scene [.ref x, vI n9, vI k] (vI v) := fun n K M h0 => by
  have h : IV n T K M x S c P := h0
  have hpg := h.pg
  try dsimp only at hpg
  subst hpg
  subst hv
  exact m_L_scene hE h.eye h.wf hn9 hk (fun r K2 M2 z => ⟨z.2.1, z.2.2.1, by rw [z.2.1]; exact (IV_look h (by rw [z.2.2.2]; exact IV_same h))⟩) (fun z => absurd hf z)
set_option maxHeartbeats 4000000 in
theorem no_fullAfter {E : EE} {x : Nat} {T : Int} {S : MM} {c : Int} {P : MM} {c0 s0 : Nat} (hE : ∀ U, SF E U → ThF E U ∧ NcF U) {most : Int} (hmo : i32 most) (hTm : T + 300 ≤ 1000000000) (hf : ((if 0 ≤ most ∧ most ≤ 200 then 0 else 2) : Int) ≠ 0) : AskH E (x, T, S, c, P, c0, s0) 1 yL_fullAfter cL_fullAfter 3 (some .int) hh_fullAfter [.ref x, vI most] (vI (fK (if 0 ≤ most ∧ most ≤ 200 then 0 else 2))) := fun n K M h0 => by
  have h : IV n T K M x S c P := h0
  have hpg := h.pg
  try dsimp only at hpg
  subst hpg
  exact m_L_fullAfter hE h.eye h.wf h.fr hmo hTm h.ot.choose_spec (fun r K2 M2 z => absurd z.1 hf) (fun _ => ⟨rfl, rfl, h⟩)
set_option maxHeartbeats 4000000 in
theorem a_fullAfter {E : EE} {x : Nat} {T : Int} {S : MM} {c : Int} {P : MM} {c0 s0 : Nat} (hE : ∀ U, SF E U → ThF E U ∧ NcF U) {most : Int} (hmo : i32 most) (hTm : T + 300 ≤ 1000000000) (hf : ((if 0 ≤ most ∧ most ≤ 200 then 0 else 2) : Int) = 0) {v : Int} (hv : faF S (most + 1).toNat 0 = v) : AskH E (x, T, S, c, P, c0, s0) 1 yL_fullAfter cL_fullAfter 3 (some .int) hh_fullAfter [.ref x, vI most] (vI v) := fun n K M h0 => by
  have h : IV n T K M x S c P := h0
  have hpg := h.pg
  try dsimp only at hpg
  subst hpg
  subst hv
  exact m_L_fullAfter hE h.eye h.wf h.fr hmo hTm h.ot.choose_spec (fun r K2 M2 z => ⟨z.2.1, z.2.2.1, by rw [z.2.1]; exact (by obtain ⟨M1, q1, q2⟩ := z.2.2.2.1; obtain ⟨T2, -, q3⟩ := z.2.2.2.2; exact IV_look h (oth_q2 q1 q2 q3))⟩) (fun z => absurd hf z)
set_option maxHeartbeats 4000000 in
theorem no_meanGhost {E : EE} {x : Nat} {T : Int} {S : MM} {c : Int} {P : MM} {c0 s0 : Nat} (hE : ∀ U, SF E U → ThF E U ∧ NcF U) {row : Int} (hrow : i32 row) (hf : ((fCeS S 0 row) : Int) ≠ 0) : AskH E (x, T, S, c, P, c0, s0) 1 yL_meanGhost cL_meanGhost 3 (some .double) hh_meanGhost [.ref x, vI row] (.double dNo) := fun n K M h0 => by
  have h : IV n T K M x S c P := h0
  have hpg := h.pg
  try dsimp only at hpg
  subst hpg
  exact m_L_meanGhost hE h.eye h.wf h.fr hrow (fun r K2 M2 z => absurd z.1 hf) (fun _ => ⟨rfl, rfl, h⟩)
set_option maxHeartbeats 4000000 in
theorem a_meanGhost {E : EE} {x : Nat} {T : Int} {S : MM} {c : Int} {P : MM} {c0 s0 : Nat} (hE : ∀ U, SF E U → ThF E U ∧ NcF U) {row : Int} (hrow : i32 row) (hf : ((fCeS S 0 row) : Int) = 0)  : AskH E (x, T, S, c, P, c0, s0) 1 yL_meanGhost cL_meanGhost 3 (some .double) hh_meanGhost [.ref x, vI row] (.double (dd (gsum S row) (S 0 3))) := fun n K M h0 => by
  have h : IV n T K M x S c P := h0
  have hpg := h.pg
  try dsimp only at hpg
  subst hpg
  exact m_L_meanGhost hE h.eye h.wf h.fr hrow (fun r K2 M2 z => ⟨z.2.1, z.2.2.1, by rw [z.2.1]; exact (IV_lkd h z.2.2.2)⟩) (fun z => absurd hf z)
set_option maxHeartbeats 4000000 in
theorem no_ghostsWithout {E : EE} {x : Nat} {T : Int} {S : MM} {c : Int} {P : MM} {c0 s0 : Nat} (hE : ∀ U, SF E U → ThF E U ∧ NcF U) {n9 least : Int} (hn9 : i32 n9) (hle : i32 least) (hf : ((f2l (if hs S n9 then 0 else 1) (if 1 ≤ least ∧ least ≤ 15 then 0 else 2)) : Int) ≠ 0) : AskH E (x, T, S, c, P, c0, s0) 1 yL_ghostsWithout cL_ghostsWithout 4 (some .int) hh_ghostsWithout [.ref x, vI n9, vI least] (vI (fK (f2l (if hs S n9 then 0 else 1) (if 1 ≤ least ∧ least ≤ 15 then 0 else 2)))) := fun n K M h0 => by
  have h : IV n T K M x S c P := h0
  have hpg := h.pg
  try dsimp only at hpg
  subst hpg
  exact m_L_ghostsWithout hE h.eye h.wf hn9 hle (fun r K2 M2 z => absurd z.1 hf) (fun _ => ⟨rfl, rfl, h⟩)
set_option maxHeartbeats 4000000 in
theorem no_begin {E : EE} {x : Nat} {T : Int} {S : MM} {c : Int} {P : MM} {c0 s0 : Nat} (hE : ∀ U, SF E U → ThF E U ∧ NcF U) {w h : Int} (hw : i32 w) (hh : i32 h) (hf : ((if (20 ≤ w ∧ w ≤ 200) ∧ (10 ≤ h ∧ h ≤ 120) then 0 else 2) : Int) ≠ 0) : AskH E (x, T, S, c, P, c0, s0) 20 yL_begin cL_begin 4 (some .int) hh_begin [.ref x, vI w, vI h] (vI (fK (if (20 ≤ w ∧ w ≤ 200) ∧ (10 ≤ h ∧ h ≤ 120) then 0 else 2))) := fun n K M h0 => by
  have h : IV n T K M x S c P := h0
  have hpg := h.pg
  try dsimp only at hpg
  subst hpg
  exact m_L_begin hE h.eye h.wf h.hv h.cl hw hh (fun r K2 M2 z => absurd z.1 hf) (fun _ => ⟨rfl, rfl, h⟩)
set_option maxHeartbeats 4000000 in
theorem no_addGroup {E : EE} {x : Nat} {T : Int} {S : MM} {c : Int} {P : MM} {c0 s0 : Nat} (hE : ∀ U, SF E U → ThF E U ∧ NcF U) {p u v w : Int} (hp : i32 p) (hu : i32 u) (hv : i32 v) (hw : i32 w) (hf : ((fGS S p u v w) : Int) ≠ 0) : AskH E (x, T, S, c, P, c0, s0) 20 yL_addGroup cL_addGroup 6 (some .int) hh_addGroup [.ref x, vI p, vI u, vI v, vI w] (vI (fK (fGS S p u v w))) := fun n K M h0 => by
  have h : IV n T K M x S c P := h0
  have hpg := h.pg
  try dsimp only at hpg
  subst hpg
  exact m_L_addGroup hE h.eye h.wf h.hv h.cl hp hu hv hw (fun r K2 M2 z => absurd z.1 hf) (fun _ => ⟨rfl, rfl, h⟩)
set_option maxHeartbeats 4000000 in
theorem no_addBox {E : EE} {x : Nat} {T : Int} {S : MM} {c : Int} {P : MM} {c0 s0 : Nat} (hE : ∀ U, SF E U → ThF E U ∧ NcF U) {p u v w wd hg : Int} (hp : i32 p) (hu : i32 u) (hv : i32 v) (hw : i32 w) (hwd : i32 wd) (hhg : i32 hg) (hf : ((fBS S p u v w wd hg) : Int) ≠ 0) : AskH E (x, T, S, c, P, c0, s0) 20 yL_addBox cL_addBox 8 (some .int) hh_addBox [.ref x, vI p, vI u, vI v, vI w, vI wd, vI hg] (vI (fK (fBS S p u v w wd hg))) := fun n K M h0 => by
  have h : IV n T K M x S c P := h0
  have hpg := h.pg
  try dsimp only at hpg
  subst hpg
  exact m_L_addBox hE h.eye h.wf h.hv h.cl hp hu hv hw hwd hhg (fun r K2 M2 z => absurd z.1 hf) (fun _ => ⟨rfl, rfl, h⟩)
set_option maxHeartbeats 4000000 in
theorem no_move {E : EE} {x : Nat} {T : Int} {S : MM} {c : Int} {P : MM} {c0 s0 : Nat} (hE : ∀ U, SF E U → ThF E U ∧ NcF U) {n9 u v w : Int} (hn9 : i32 n9) (hu : i32 u) (hv : i32 v) (hw : i32 w) (hf : ((fPS S n9 u v w) : Int) ≠ 0) : AskH E (x, T, S, c, P, c0, s0) 20 yL_move cL_move 6 (some .int) hh_move [.ref x, vI n9, vI u, vI v, vI w] (vI (fK (fPS S n9 u v w))) := fun n K M h0 => by
  have h : IV n T K M x S c P := h0
  have hpg := h.pg
  try dsimp only at hpg
  subst hpg
  exact m_L_move hE h.eye h.wf h.hv h.cl hn9 hu hv hw (fun r K2 M2 z => absurd z.1 hf) (fun _ => ⟨rfl, rfl, h⟩)
set_option maxHeartbeats 4000000 in
theorem no_setShade {E : EE} {x : Nat} {T : Int} {S : MM} {c : Int} {P : MM} {c0 s0 : Nat} (hE : ∀ U, SF E U → ThF E U ∧ NcF U) {n9 s : Int} (hn9 : i32 n9) (hs : i32 s) (hf : ((fCoS S n9 s) : Int) ≠ 0) : AskH E (x, T, S, c, P, c0, s0) 20 yL_setShade cL_setShade 4 (some .int) hh_setShade [.ref x, vI n9, vI s] (vI (fK (fCoS S n9 s))) := fun n K M h0 => by
  have h : IV n T K M x S c P := h0
  have hpg := h.pg
  try dsimp only at hpg
  subst hpg
  exact m_L_setShade hE h.eye h.wf h.hv h.cl hn9 hs (fun r K2 M2 z => absurd z.1 hf) (fun _ => ⟨rfl, rfl, h⟩)
set_option maxHeartbeats 4000000 in
theorem no_removeNode {E : EE} {x : Nat} {T : Int} {S : MM} {c : Int} {P : MM} {c0 s0 : Nat} (hE : ∀ U, SF E U → ThF E U ∧ NcF U) {n9 : Int} (hn9 : i32 n9) (hf : ((if hs S n9 then 0 else 1) : Int) ≠ 0) : AskH E (x, T, S, c, P, c0, s0) 20 yL_removeNode cL_removeNode 3 (some .int) hh_removeNode [.ref x, vI n9] (vI (fK (if hs S n9 then 0 else 1))) := fun n K M h0 => by
  have h : IV n T K M x S c P := h0
  have hpg := h.pg
  try dsimp only at hpg
  subst hpg
  exact m_L_removeNode hE h.eye h.wf h.hv h.cl hn9 (fun r K2 M2 z => absurd z.1 hf) (fun _ => ⟨rfl, rfl, h⟩)
set_option maxHeartbeats 4000000 in
theorem no_addScene {E : EE} {x : Nat} {T : Int} {S : MM} {c : Int} {P : MM} {c0 s0 : Nat} (hE : ∀ U, SF E U → ThF E U ∧ NcF U) {l g t : Int} (hl : i32 l) (hg : i32 g) (ht : i32 t) (hf : ((fSS S l g t) : Int) ≠ 0) : AskH E (x, T, S, c, P, c0, s0) 20 yL_addScene cL_addScene 5 (some .int) hh_addScene [.ref x, vI l, vI g, vI t] (vI (fK (fSS S l g t))) := fun n K M h0 => by
  have h : IV n T K M x S c P := h0
  have hpg := h.pg
  try dsimp only at hpg
  subst hpg
  exact m_L_addScene hE h.eye h.wf h.hv h.cl hl hg ht (fun r K2 M2 z => absurd z.1 hf) (fun _ => ⟨rfl, rfl, h⟩)
set_option maxHeartbeats 4000000 in
theorem no_set {E : EE} {x : Nat} {T : Int} {S : MM} {c : Int} {P : MM} {c0 s0 : Nat} (hE : ∀ U, SF E U → ThF E U ∧ NcF U) {w v : Int} (hw : i32 w) (hv : i32 v) (hE2 : ∀ U, SF E U → CF E U) (hf : ((if fSe w v then 0 else 2) : Int) ≠ 0) : AskH E (x, T, S, c, P, c0, s0) 20 yL_set cL_set 4 (some .int) hh_set [.ref x, vI w, vI v] (vI (fK (if fSe w v then 0 else 2))) := fun n K M h0 => by
  have h : IV n T K M x S c P := h0
  have hpg := h.pg
  try dsimp only at hpg
  subst hpg
  exact m_L_set hE h.eye h.wf h.hv h.cl hw hv hE2 h.zz (fun r K2 M2 z => absurd z.1 hf) (fun _ => ⟨rfl, rfl, h⟩)
set_option maxHeartbeats 4000000 in
theorem no_setTitle {E : EE} {x : Nat} {T : Int} {S : MM} {c : Int} {P : MM} {c0 s0 : Nat} (hE : ∀ U, SF E U → ThF E U ∧ NcF U) {u v l : Int} (hu : i32 u) (hv : i32 v) (hl : i32 l) (hf : ((fTS S u v l) : Int) ≠ 0) : AskH E (x, T, S, c, P, c0, s0) 20 yL_setTitle cL_setTitle 5 (some .int) hh_setTitle [.ref x, vI u, vI v, vI l] (vI (fK (fTS S u v l))) := fun n K M h0 => by
  have h : IV n T K M x S c P := h0
  have hpg := h.pg
  try dsimp only at hpg
  subst hpg
  exact m_L_setTitle hE h.eye h.wf h.hv h.cl hu hv hl (fun r K2 M2 z => absurd z.1 hf) (fun _ => ⟨rfl, rfl, h⟩)
set_option maxHeartbeats 4000000 in
theorem no_tick {E : EE} {x : Nat} {T : Int} {S : MM} {c : Int} {P : MM} {c0 s0 : Nat} (hE : ∀ U, SF E U → ThF E U ∧ NcF U) {t : Int} (ht : i32 t) (hTm : T + 200 ≤ 1000000000) (hf : ((if 1 ≤ t ∧ t ≤ 200 then 0 else 2) : Int) ≠ 0) : AskH E (x, T, S, c, P, c0, s0) 20 yL_tick cL_tick 3 (some .int) hh_tick [.ref x, vI t] (vI (fK (if 1 ≤ t ∧ t ≤ 200 then 0 else 2))) := fun n K M h0 => by
  have h : IV n T K M x S c P := h0
  have hpg := h.pg
  try dsimp only at hpg
  subst hpg
  exact m_L_tick hE h.eye h.wf h.hv h.cl ht hTm (fun r K2 M2 z => absurd z.1 hf) (fun _ => ⟨rfl, rfl, h⟩)
set_option maxHeartbeats 4000000 in
theorem no_undo {E : EE} {x : Nat} {T : Int} {S : MM} {c : Int} {P : MM} {c0 s0 : Nat} (hE : ∀ U, SF E U → ThF E U ∧ NcF U)  (hf : ((if c = 0 then 3 else 0) : Int) ≠ 0) : AskH E (x, T, S, c, P, c0, s0) 20 yL_undo cL_undo 2 (some .int) hh_undo [.ref x] (vI (fK (if c = 0 then 3 else 0))) := fun n K M h0 => by
  have h : IV n T K M x S c P := h0
  have hpg := h.pg
  try dsimp only at hpg
  subst hpg
  have hct := h.ct
  try dsimp only at hct
  subst hct
  exact m_L_undo hE h.eye h.wf h.hv h.cl (fun r K2 M2 z => absurd z.1 hf) (fun _ => ⟨rfl, rfl, h⟩)
theorem no_type {E : EE} {x : Nat} {T : Int} {S : MM} {c : Int} {P : MM} {c0 s0 : Nat} (hE : ∀ U, SF E U → ThF E U ∧ NcF U) {v : Int} (hv : i32 v) (hf : ¬ (0 ≤ v ∧ v ≤ 127)) : AskH E (x, T, S, c, P, c0, s0) 1 yL_type cL_type 3 (some .int) hh_type [.ref x, vI v] (vI (-90100)) := fun n K M h =>
  m_L_type hE h.eye h.wf hv (by rw [h.tx]; decide) (fun r K2 M2 z => absurd z.1 (by simp [f2l, hf])) (fun _ => ⟨rfl, by simp [f2l, hf, fK], h⟩)
