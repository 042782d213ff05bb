/-! the law's own calls -/
/-- what the walk knows of the start: N cells of the script, what they hold -/
def LF (E : EE) (N : Nat) (sc : Int → Int) : Prop := (∀ U, SF E U → ThF E U ∧ NcF U) ∧ (∀ U, SF E U → CF E U) ∧ (∀ U, SF E U → va_AO RX5 U) ∧ (∀ U, SF E U → va_T .int (E.2.2.2.1 50) N (fun j => vI (sc (j : Int))) (AS E) U E.2.2.1) ∧ ∀ j, i32 (sc j)
theorem LF.th {E : EE} {N : Nat} {sc : Int → Int} (h : LF E N sc) : ∀ U, SF E U → ThF E U ∧ NcF U := h.1
theorem LF.cf {E : EE} {N : Nat} {sc : Int → Int} (h : LF E N sc) : ∀ U, SF E U → CF E U := h.2.1
theorem LF.ao {E : EE} {N : Nat} {sc : Int → Int} (h : LF E N sc) : ∀ U, SF E U → va_AO RX5 U := h.2.2.1
theorem LF.cell {E : EE} {N : Nat} {sc : Int → Int} (h : LF E N sc) : ∀ U, SF E U → va_T .int (E.2.2.2.1 50) N (fun j => vI (sc (j : Int))) (AS E) U E.2.2.1 := h.2.2.2.1
theorem LF.rg {E : EE} {N : Nat} {sc : Int → Int} (h : LF E N sc) : ∀ j, i32 (sc j) := h.2.2.2.2

set_option maxHeartbeats 4000000 in
set_option maxRecDepth 100000 in
theorem m_L_lot {E : EE} {K : Nat → Nat} {M : MM} {N : Nat} {sc : Int → Int} {j : Int} (hE : LF E N sc) (hN : N < 1000000) (hj : 0 ≤ j ∧ j ≤ 1000) : CnW E 1 yL_lot cL_lot 2 (Option.some FieldType.int) [.ref (1000000 + 50), vI j] K M (fun r K' M' => (∃ v, i32 v ∧ r = some (vI v)) ∧ K' = K ∧ M' = M) 0 0 := by
  refine CnW_of RL (plainFor_of_name (by decide)) rfl (Nat.le_of_ble_eq_true rfl) (fun X hX hQ hXK hP => ?_)
  refine J_iload_n hX dL_lot_0 rfl ?_
  refine J_aload_n hX dL_lot_1 rfl ?_
  refine J_ctl hX hP hXK hE.cell dL_lot_2 ?_
  refine J_icmp_ge hX 12 dL_lot_3 (by omega) (by omega) (by decide) (fun c3 => ?_) (fun c3 => ?_)
  · refine J_ldcI hX kI_7 dL_lot_12 ?_
    refine J_iload_n hX dL_lot_14 rfl ?_
    refine J_sipush hX dL_lot_15 rfl ?_
    refine J_iadd hX dL_lot_18 ?_
    refine J_imul hX dL_lot_19 ?_
    refine J_sipush hX dL_lot_20 rfl ?_
    refine J_iadd hX dL_lot_23 ?_
    exact J_iret hX hQ dL_lot_24 ⟨⟨_, i32_z _, (congrArg some (vI_t _)).symm⟩, rfl, rfl⟩ (Nat.zero_le _) (Nat.zero_le _)
  · refine J_aload_n hX dL_lot_6 rfl ?_
    refine J_iload_n hX dL_lot_7 rfl ?_
    refine J_cti hX hP hXK (v := vI (sc j)) hE.cell ⟨hj.1, by omega⟩ hN (fun ad _ => by
      show vI (sc j) = vI (sc ((j.toNat : Nat) : Int))
      rw [show ((j.toNat : Nat) : Int) = j by omega]) dL_lot_8 ?_
    refine J_goto hX 24 dL_lot_9 (by decide) ?_
    exact J_iret hX hQ dL_lot_24 ⟨⟨_, hE.rg j, rfl⟩, rfl, rfl⟩ (Nat.zero_le _) (Nat.zero_le _)
section WALK
variable {E : EE} {X : JX} {Z : QZ} {cc : ByteArray} {own : String} {nl d : Nat} {q pc : Nat} {L : List (Nat × Value)} {st : List Value}
theorem L_lot (hX : XO E X cc RL nl d Z.c0 Z.s0) (hl : XL X) {N : Nat} {sc : Int → Int} (hE : LF E N sc) (hN : N < 1000000) {j : Int} {rest : List Value} (hd : decode cc pc = .ok (.invokestatic 182, 3)) (hj : 0 ≤ j ∧ j ≤ 1000) (hcat : (rest.map fun v => v.category).sum ≤ 8) (hdp : 2 ≤ d) (k1 : ∀ v : Int, i32 v → LJ E X Z q (pc + 3) L (vI v :: rest)) : LJ E X Z q pc L (vI j :: .ref (1000000 + 50) :: rest) := fun n K M a b hI ha hb =>
  JP_in hX hl (fun X2 hX2 hl2 hP hK hsm => J_callSW hX2 hP hK rest hd cw_RL_182 (m_L_lot hE hN hj) rfl hcat ⟨by omega, by decide⟩ ⟨by omega, by omega⟩ (fun _ _ _ h => h.2.1) (fun r M' h => by
    obtain ⟨⟨v, hv, rfl⟩, -, rfl⟩ := h
    exact J_JP hP hK (hsm _ _ _ _ _ _ _ (k1 v hv n K _ a b hI ha hb))))
/-- one of the law's checks: it answers 1 -/
theorem L_sub (hX : XO E X cc own nl d Z.c0 Z.s0) (hl : XL X) {u idx dy ny : Nat} {y : MethodName} {cy : ByteArray} {As : List Value} (rest : List Value) (hd : decode cc pc = .ok (.invokestatic idx, 3)) (hw : CWS own idx y cy ny (some .boolean) As.length)
    (hc : ∀ n K M, IV n Z.T K M Z.x Z.S Z.c Z.P → CnL E dy y cy ny (some .boolean) As K M (fun r K2 M2 => K2 = K ∧ r = some (vI 1) ∧ ∃ n2, IV n2 Z.T K2 M2 Z.x Z.S Z.c Z.P) (2 * u) (12 * u))
    (hst : st = As.reverse ++ rest) (hcat : (rest.map fun v => v.category).sum ≤ 8) (hdp : dy + 1 ≤ d ∧ ny ≤ 18)
    (hL : ∀ K, pinK K Z.x ≠ 0 → pinK K (1000000 + 50) ≠ 0 → lvs (pinK K) (L.map (fun q => q.2)) ∧ lvs (pinK K) rest) (k1 : LJ E X Z q (pc + 3) L (vI 1 :: rest)) : LJ E X Z (q + u) pc L st := fun n K M a b hI ha hb =>
  JP_in hX hl (fun X2 hX2 hl2 hP hK hsm => J_callSLP hX2 hl2 hP hK rest hd hw (hc n K M hI) hst hcat hdp ⟨by omega, by omega⟩ (hL K (pk_x hI) pk_s).1 (hL K (pk_x hI) pk_s).2 (fun r K' M' h => by
    obtain ⟨rfl, rfl, n2, h3⟩ := h
    exact ⟨h3.cl, h3.zz, ints_k⟩) (fun r K' M' h => hsm _ _ _ _ _ _ _ (by
    obtain ⟨rfl, rfl, n2, h3⟩ := h
    exact k1 n2 _ M' _ _ h3 (by omega) (by omega))))
end WALK
section WALK2
variable {E : EE} {X : JX} {cc : ByteArray} {own : String} {nl d c0 s0 x : Nat} {T : Int} {S : MM} {c : Int} {P : MM} {q pc : Nat} {L : List (Nat × Value)} {st : List Value}
theorem L_mo {T2 : Int} (h1 : T ≤ T2) (h2 : T2 ≤ 1000000000) (k1 : LJ E X (x, T2, S, c, P, c0, s0) q pc L st) : LJ E X (x, T, S, c, P, c0, s0) q pc L st := fun n K M a b hI ha hb => k1 n K M a b (IV_mo hI h1 h2) ha hb
/-- o.clearTitle() -/
theorem L_clear (hX : XO E X cc RL nl d c0 s0) (hl : XL X) (rest : List Value) (hd : decode cc pc = .ok (.invokevirtual 186, 3)) (hst : st = .ref x :: rest) (hcat : (rest.map fun v => v.category).sum ≤ 8) (hdp : 7 ≤ d)
    (hL : ∀ K, pinK K x ≠ 0 → pinK K (1000000 + 50) ≠ 0 → lvs (pinK K) (L.map (fun q => q.2)) ∧ lvs (pinK K) rest)
    (k1 : ∀ S2 c2, S2 = mset (mset (mset S 0 5 0) 0 6 0) 0 7 0 → WFS T S2 → LJ E X (x, T, S2, c2, S, c0, s0) q (pc + 3) L (vI (S 0 7) :: rest)) : LJ E X (x, T, S, c, P, c0, s0) (q + 20) pc L st := fun n K M a b hI ha hb => by
  have h : IV n T K M x S c P := hI
  have ha' : a + 2 * (q + 20) ≤ c0 := ha
  have hb' : b + 12 * (q + 20) ≤ s0 := hb
  have hpg := h.pg
  subst hpg
  have w9 := h.wfs.2.1
  unfold WFSs at w9
  have key : ∀ r9 K' M', (r9 = some (vI (M (x + 3) 7)) ∧ ∃ M1, KeptX n K M x K' M1 ∧ M' = entM M1 (x + 3) 0 0 0) → ∃ n2 c2, IV n2 T K' M' x (mset (mset (mset (stg M (x + 3)) 0 5 0) 0 6 0) 0 7 0) c2 (stg M (x + 3)) := by
    rintro r9 K' M' ⟨-, M9, hkept, hMc⟩
    have hst9 : stg M9 (x + 3) = stg M (x + 3) := stg_eq (fun k hk => hkept.stage k hk)
    have hfr : ∀ i, i < x + 3 ∨ x + 18 < i → M' i = M9 i := fun i hi => by rw [hMc]; unfold entM; (repeat rw [mset_ne (by omega)])
    have hSS : stg M' (x + 3) = mset (mset (mset (stg M (x + 3)) 0 5 0) 0 6 0) 0 7 0 := by rw [hMc, ← hst9]; exact stg_ent
    have hWS := WFS_tit (x := 0) (y := 0) (l := 0) h.wfs ⟨by decide, by omega⟩ ⟨by decide, by omega⟩ (by decide)
    obtain ⟨n2, c2, hI2, -, -⟩ := IV_ch (T2 := T) h hkept hfr (WF_iS.mpr (by rw [hSS]; exact hWS)) (Int.le_refl _)
    rw [hSS] at hI2
    exact ⟨n2, c2, hI2⟩
  refine JP_in hX hl (fun X2 hX2 hl2 hP hK hsm => ?_)
  refine J_callVKP hX2 hP hK (As := []) rest hd cw_RL_186 (m_X9_clearTitle h.eye h.hv h.cl) ⟨h.eye.1, by decide, by decide, rfl⟩ hst hcat ⟨by omega, by decide⟩ ⟨by omega, by omega⟩ (hL K (pk_x h) pk_s).1 (hL K (pk_x h) pk_s).2 (fun r9 K' M' z => ?_) (fun r9 K' M' z => hsm _ _ _ _ _ _ _ ?_)
  · obtain ⟨n2, c2, h3⟩ := key r9 K' M' z
    rw [z.1]
    exact ⟨h3.cl, h3.zz, ints_k⟩
  · obtain ⟨n2, c2, h3⟩ := key r9 K' M' z
    rw [z.1]
    exact k1 _ c2 rfl h3.wfs n2 K' M' _ _ h3 (by show a + 16 + 2 * q ≤ c0; omega) (by show b + 233 + 12 * q ≤ s0; omega)
/-- o.runCommands(), the text being empty -/
theorem L_run (hX : XO E X cc RL nl d c0 s0) (hl : XL X) (hE : ∀ U, SF E U → CF E U) (rest : List Value) (hd : decode cc pc = .ok (.invokevirtual 179, 3)) (hst : st = .ref x :: rest) (hcat : (rest.map fun v => v.category).sum ≤ 8) (hdp : 9 ≤ d) (hc : c = 0) (hT : T + 30200 ≤ 1000000000)
    (hL : ∀ K, pinK K x ≠ 0 → pinK K (1000000 + 50) ≠ 0 → lvs (pinK K) (L.map (fun q => q.2)) ∧ lvs (pinK K) rest)
    (k1 : WFS (T + 30000) S → LJ E X (x, T + 30000, S, 1, S, c0, s0) q (pc + 3) L (vI 0 :: rest)) : LJ E X (x, T, S, c, P, c0, s0) (q + 20) pc L st := fun n K M a b hI ha hb => by
  have h : IV n T K M x S c P := hI
  have ha' : a + 2 * (q + 20) ≤ c0 := ha
  have hb' : b + 12 * (q + 20) ≤ s0 := hb
  have hpg := h.pg
  subst hpg
  have htx := h.tx
  have key : ∀ r9 K' M', RunX n K M x T r9 K' M' → r9 = some (vI 0) ∧ ∃ n2, IV n2 (T + 30000) K' M' x (stg M (x + 3)) 1 (stg M (x + 3)) := by
    intro r9 K' M' hr
    have hsk : ∀ t : Int → Int, sk t 0 0 = 0 := fun t => by
      have h1 := sk_ge (t := t) (n := 0) (p := 0)
      have h2 := sk_le (t := t) (n := 0) (p := 0) (by decide)
      omega
    have hff : ff (M (x + 58)) 0 = -1 := by
      unfold ff
      rw [hsk]
      exact ffF_end (by decide)
    rcases hr with ⟨z, -⟩ | ⟨-, M0, M1, hsc, hk, hrn⟩
    · rw [htx, hff] at z; exact absurd z (by decide)
    · obtain ⟨d9, hr9, -, hrr, hWc, rf, rj⟩ := hrn
      have hk6 := hk.2.2.2.2.1
      have e57 : M1 (x + 57) 0 = 0 := by rw [hk6 _ (by omega) (by omega) (by omega) (by omega), hsc.2 0 (by decide) (by decide), htx]
      have e0 : ∀ i, x + 3 ≤ i → i < x + 19 → M1 i = M i := fun i a1 a2 => by rw [hk6 _ (by omega) (by omega) (by omega) (by omega), hsc.1 i (by omega) (by omega)]
      rw [e57, hsk] at hrr
      obtain ⟨e1, e2⟩ := rnR_end hrr (Or.inr (fun z => absurd z.1 (by decide)))
      have hs1 : stg M1 (x + 3) = stg M (x + 3) := stg_of (fun i a1 a2 => e0 i (by omega) (by omega))
      have hS2 : stg M' (x + 3) = stg M (x + 3) := e1.trans hs1
      subst e2
      refine ⟨hr9, ?_⟩
      -- the state before the text was looked at
      have h0 : IV n T K M0 x (stg M (x + 3)) c P := by
        have e55 := hsc.1 (x + 55) (by omega) (by omega)
        have e56 := hsc.1 (x + 56) (by omega) (by omega)
        have hst : ∀ c : Int, 0 ≤ c → c < M (x + 55) 0 → stg M0 (M (x + 56) c).toNat = stg M (M (x + 56) c).toNat := fun c c0 c1 => by
          obtain ⟨q, q1, q2⟩ := h.hv.at c0 c1
          rw [q2]
          exact stg_of (fun i a1 a2 => hsc.1 i (by omega) (by omega))
        have hp0 : stg M0 (x + 3) = stg M (x + 3) := stg_of (fun i a1 a2 => hsc.1 i (by omega) (by omega))
        obtain ⟨To, hTo⟩ := h.ot
        exact ⟨h.1, h.hv.fr e55 e56, Cl33 h.eye h.cl (fun i hi => hsc.1 i (by omega) (by omega)), WF_fr hp0 h.wf, ⟨To, WF_fr (stg_of (fun i a1 a2 => hsc.1 i (by omega) (by omega))) hTo⟩, Frs_fr (fun i a1 a2 => hsc.1 i (by omega) (by omega)) h.fr, fun c c0 c1 => by
          rw [e55] at c1
          rw [e56]
          exact WF_fr (hst c c0 c1) (h.sw c c0 c1), by rw [hsc.2 0 (by decide) (by decide)]; exact htx, hp0, by rw [e55]; exact h.ct, fun z => absurd z (by omega)⟩
      -- the text's own cells do not count: put them back to those behind keepState
      have hcut : ∀ i, i < x + 3 ∨ x + 18 < i → i ≠ x + 57 → i ≠ x + 59 → M' i = M1 i := fun i a1 a2 a3 => rf i (by omega) a2 (by omega)
      let Mc : MM := fun i => if i = x + 57 ∨ i = x + 59 then M1 i else M' i
      have m1 : ∀ i, i ≠ x + 57 → i ≠ x + 59 → Mc i = M' i := fun i a1 a2 => if_neg (by omega)
      have m2 : ∀ i, i = x + 57 ∨ i = x + 59 → Mc i = M1 i := fun i a1 => if_pos a1
      have hMc : ∀ i, i < x + 3 ∨ x + 18 < i → Mc i = M1 i := fun i a1 => by
        by_cases z : i = x + 57 ∨ i = x + 59
        · exact m2 i z
        · rw [m1 i (by omega) (by omega)]; exact hcut i a1 (by omega) (by omega)
      have hpc : stg Mc (x + 3) = stg M' (x + 3) := stg_of (fun i a1 a2 => m1 i (by omega) (by omega))
      obtain ⟨n2, c2, hI2, -, hc2⟩ := IV_ch (T2 := T + 30000) h0 hk hMc (WF_fr (M := M') hpc hWc) (by omega)
      have hc1 := hc2 hc
      subst hc1
      rw [hpc, hS2] at hI2
      refine ⟨n2, ?_⟩
      -- .. and forth again
      have g : ∀ i, i ≠ x + 57 → i ≠ x + 59 → M' i = Mc i := fun i a1 a2 => (m1 i a1 a2).symm
      have e55 := g (x + 55) (by omega) (by omega)
      have e56 := g (x + 56) (by omega) (by omega)
      have hst : ∀ c : Int, 0 ≤ c → c < Mc (x + 55) 0 → stg M' (Mc (x + 56) c).toNat = stg Mc (Mc (x + 56) c).toNat := fun c c0 c1 => by
        obtain ⟨q, q1, q2⟩ := hI2.hv.at c0 c1
        rw [q2]
        exact stg_of (fun i a1 a2 => g i (by omega) (by omega))
      obtain ⟨To, hTo⟩ := hI2.ot
      exact ⟨hI2.1, hI2.hv.fr e55 e56, Cl33 hI2.eye hI2.cl (fun i hi => g i (by omega) (by omega)), hWc, ⟨To, WF_fr (stg_of (fun i a1 a2 => g i (by omega) (by omega))) hTo⟩, Frs_fr (fun i a1 a2 => g i (by omega) (by omega)) hI2.fr, fun c c0 c1 => by
        rw [e55] at c1
        rw [e56]
        exact WF_fr (hst c c0 c1) (hI2.sw c c0 c1), by rw [rj 0 (by decide) (by decide), e57], hS2, by rw [e55]; exact hI2.ct, fun z k hk => by
        rw [e56, hst _ (by omega) (by rw [hI2.ct]; omega)]
        exact hI2.top z k hk⟩
  refine JP_in hX hl (fun X2 hX2 hl2 hP hK hsm => ?_)
  refine J_callVKP hX2 hP hK (As := []) rest hd cw_RL_179 (m_X9_runCommands hE h.eye h.wf h.hv h.cl h.zz ⟨by rw [htx]; decide, fun j j0 j1 => by rw [htx] at j1; omega⟩ hT) ⟨h.eye.1, by decide, by decide, rfl⟩ hst hcat ⟨by omega, by decide⟩ ⟨by omega, by omega⟩ (hL K (pk_x h) pk_s).1 (hL K (pk_x h) pk_s).2 (fun r9 K' M' z => ?_) (fun r9 K' M' z => hsm _ _ _ _ _ _ _ ?_)
  · obtain ⟨e, n2, h3⟩ := key r9 K' M' z
    rw [e]
    exact ⟨h3.cl, h3.zz, ints_k⟩
  · obtain ⟨e, n2, h3⟩ := key r9 K' M' z
    rw [e]
    exact k1 h3.wfs n2 K' M' _ _ h3 (by show a + 16 + 2 * q ≤ c0; omega) (by show b + 233 + 12 * q ≤ s0; omega)
end WALK2

