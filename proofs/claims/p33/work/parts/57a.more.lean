/-! low; doubles that are equal; ghosts by strength -/
set_option maxHeartbeats 4000000 in
set_option maxRecDepth 100000 in
theorem m_L_low {E : EE} {K : Nat → Nat} {M : MM} {v n : Int} (hv : i32 v) (hn : 0 < n ∧ n ≤ 2147483647) : CnI E 0 yL_low cL_low 2 (Option.some FieldType.int) [vI v, vI n] K M (low v n) := by
  have h0 := andI_max v
  have h1 := low_r (v := v) hn.1
  refine ⟨Cn_of RL (plainFor_of_name (by decide)) rfl (Nat.le_of_ble_eq_true rfl) (fun X hX hQ => ?_), by omega⟩
  refine J_iload_n hX dL_low_0 rfl ?_
  refine J_ldcI hX kI_8 dL_low_1 ?_
  refine J_iand hX dL_low_3 ?_
  refine J_iload_n hX dL_low_4 rfl ?_
  refine J_irem hX dL_low_5 (by omega) ⟨hn.1, hn.2⟩ ?_
  exact J_iret hX hQ dL_low_6 ⟨rfl, rfl, rfl⟩ (Nat.zero_le _) (Nat.zero_le _)
section WALK
variable {E : EE} {X : JX} {Z : QZ} {cc : ByteArray} {nl d : Nat} {K : Nat → Nat} {q pc : Nat} {L : List (Nat × Value)} {st : List Value}
theorem Q_low (hX : XO E X cc RL nl d Z.c0 Z.s0) {v n : Int} {rest : List Value} (hd : decode cc pc = .ok (.invokestatic 121, 3)) (hv : i32 v) (hn : 0 < n ∧ n ≤ 2147483647) (hcat : (rest.map fun v => v.category).sum ≤ 8) (hdp : 1 ≤ d) (k1 : QJ E X Z K q (pc + 3) L (vI (low v n) :: rest)) : QJ E X Z K q pc L (vI n :: vI v :: rest) := fun n9 M a b hI ha hb =>
  J_callSI hX rest hd cw_RL_121 (m_L_low hv hn) rfl hcat ⟨by omega, by decide⟩ ⟨by omega, by omega⟩ (fun _ => k1 n9 M a b hI ha hb)
theorem L_low (hX : XO E X cc RL nl d Z.c0 Z.s0) (hl : XL X) {v n : Int} {rest : List Value} (hd : decode cc pc = .ok (.invokestatic 121, 3)) (hv : i32 v) (hn : 0 < n ∧ n ≤ 2147483647) (hcat : (rest.map fun v => v.category).sum ≤ 8) (hdp : 1 ≤ d) (k1 : LJ E X Z q (pc + 3) L (vI (low v n) :: rest)) : LJ E X Z q pc L (vI n :: vI v :: rest) := fun n9 K M a b hI ha hb =>
  JP_in hX hl (fun X2 hX2 hl2 hP hK hsm => J_callSI hX2 rest hd cw_RL_121 (m_L_low hv hn) rfl hcat ⟨by omega, by decide⟩ ⟨by omega, by omega⟩ (fun _ => J_JP hP hK (hsm _ _ _ _ _ _ _ (k1 n9 K M a b hI ha hb))))
end WALK
theorem cmp_self (i : Int) : compare i i = .eq := by
  show compareOfLessAndEq i i = .eq
  unfold compareOfLessAndEq
  rw [if_neg (by omega), if_pos rfl]
theorem ord_self : ∀ d : Jvm.FP.Core.Datum, d ≠ .nan → Jvm.FP.Core.order d d = some .eq
  | .nan, h => absurd rfl h
  | .inf s, _ => by simp only [Jvm.FP.Core.order, cmp_self]
  | .fin s c q, _ => by simp only [Jvm.FP.Core.order, cmp_self]
theorem n64_no {r : UInt64} (h : vf_n64 r) : Jvm.FP.Core.decode Jvm.FP.Core.b64 r.toNat ≠ .nan := by
  unfold vf_n64 at h
  rw [UInt64.le_iff_toNat_le, UInt64.toNat_and] at h
  have h2 : r.toNat &&& (2 ^ 63 - 1) ≤ 9218868437227405312 := h
  rw [Nat.and_two_pow_sub_one_eq_mod] at h2
  generalize r.toNat = n at h2
  intro z
  unfold Jvm.FP.Core.decode at z
  split at z
  · rename_i hE
    split at z
    · cases z
    · rename_i hT
      have hE' : n / 4503599627370496 % 2048 = 2047 := hE
      have hT' : ¬ n % 4503599627370496 = 0 := hT
      have e : n % 9223372036854775808 ≤ 9218868437227405312 := h2
      omega
  · split at z <;> cases z
theorem dc_self {x : UInt64} (h : vf_n64 x) (op : CmpOp) : (Op.cmpValue (FP.dcmp x x) op).toInt = 0 := by
  have e : FP.dcmp x x = some .eq := ord_self _ (n64_no h)
  rw [e]; rfl
theorem dNo_n : vf_n64 dNo := by unfold vf_n64; decide
/- ghosts by strength -/
theorem ct_mono {p q : Int → Prop} [DecidablePred p] [DecidablePred q] (h : ∀ j, p j → q j) : ∀ k : Nat, ct p k ≤ ct q k
  | 0 => Int.le_refl _
  | k + 1 => by
    have ih := ct_mono h k
    by_cases c : p k
    · rw [ct_t c, ct_t (h _ c)]; omega
    · rw [ct_f c]
      by_cases c2 : q k
      · rw [ct_t c2]; omega
      · rw [ct_f c2]; exact ih
theorem sm_mono {f g : Int → Int} (h : ∀ j, f j ≤ g j) : ∀ k : Nat, sm f k ≤ sm g k
  | 0 => Int.le_refl _
  | k + 1 => by
    have ih := sm_mono h k
    have := h k
    simp only [sm]; omega
theorem gall_mono {S : MM} {a b : Int} (h : a ≤ b) : gall S b ≤ gall S a := sm_mono (fun r => ct_mono (fun c z => Int.le_trans h z) _) _
theorem gall_rng {T : Int} {S : MM} (hW : WFS T S) (least : Int) : 0 ≤ gall S least ∧ gall S least ≤ S 0 3 * S 0 4 := by
  have hw := hW.2.1
  unfold WFSs at hw
  have h := sm_rng (f := gcnt S least) (A := S 0 3) (k := (S 0 4).toNat) (fun j _ => by
    have := ct_rng (fun c => least ≤ ghs S c j) (S 0 3).toNat
    have e : (((S 0 3).toNat : Nat) : Int) = S 0 3 := by omega
    rw [e] at this
    exact this)
  refine ⟨h.1, ?_⟩
  have e : (((S 0 4).toNat : Nat) : Int) = S 0 4 := by omega
  rw [e, Int.mul_comm] at h
  exact h.2
/- what a cell shows -/
theorem shdF {T : Int} {S : MM} (hW : WFS T S) (c r : Int) (hc : 0 ≤ c ∧ c < S 0 3) :
    (shd S 1 c r = if c < wnd S 1 then 0 else if r = (ttl S).1 ∧ tco S 1 ≤ c ∧ c < tco S 1 + S 0 7 then 15 else if hs S (front S 1 c r) then S 9 (front S 1 c r) else S 15 2) ∧
    (shd S 0 c r = if S 0 3 - wnd S 0 ≤ c then 0 else if r = (ttl S).1 ∧ tco S 0 ≤ c ∧ c < tco S 0 + S 0 7 then 15 else if hs S (front S 0 c r) then S 9 (front S 0 c r) else S 15 2) := by
  have o1 : opn S 1 = wnd S 1 := if_neg (by decide)
  have o0 : opn S 0 = 0 := if_pos rfl
  have l1 : cls S 1 = S 0 3 := if_neg (by decide)
  have l0 : cls S 0 = S 0 3 - wnd S 0 := if_pos rfl
  constructor
  · unfold shd
    rw [o1, l1]
    by_cases h : c < wnd S 1
    · rw [if_pos (Or.inl h), if_pos h]
    · rw [if_neg (fun q => q.elim h (fun z => by omega)), if_neg h]
  · unfold shd
    rw [o0, l0]
    by_cases h : S 0 3 - wnd S 0 ≤ c
    · rw [if_pos (Or.inr h), if_pos h]
    · rw [if_neg (fun q => q.elim (fun z => by omega) h), if_neg h]
theorem ghs_eq {S : MM} {c r : Int} : ghs S c r = S 15 3 * (if shd S 1 c r - shd S 0 c r < 0 then -(shd S 1 c r - shd S 0 c r) else shd S 1 c r - shd S 0 c r) / 100 := rfl
theorem mul_15 {x y : Int} (hx : 0 ≤ x ∧ x ≤ 100) (hy : 0 ≤ y ∧ y ≤ 15) : 0 ≤ x * y ∧ x * y ≤ 1500 := by
  have h1 := Int.mul_nonneg hx.1 hy.1
  have h2 : x * y ≤ 100 * 15 := Int.mul_le_mul hx.2 hy.2 hy.1 (by decide)
  omega

