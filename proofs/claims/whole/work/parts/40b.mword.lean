/-! the reference reads a word -/
section RULES
variable {E : EE} {X : JX} {cc : ByteArray} {own : String} {nl d c0 s0 : Nat} {pc : Nat} {L : List (Nat × Value)} {st : List Value} {K : Nat → Nat} {M : MM} {a b : Nat}
theorem J_lcmpne (hX : XO E X cc own nl d c0 s0) {x y off : Int} (t : Nat) (hd1 : decode cc pc = .ok (.lcmp, 1)) (hd2 : decode cc (pc + 1) = .ok (.ifCond .ne off, 3)) (hx : -4000000000000000000 ≤ x ∧ x ≤ 4000000000000000000) (hy : -4000000000000000000 ≤ y ∧ y ≤ 4000000000000000000) (ht : ((pc + 1 : Nat) : Int) + off = (t : Int)) (kt : x ≠ y → J E X t L st K M a b) (kf : x = y → J E X (pc + 1 + 3) L st K M a b) : J E X pc L (vL y :: vL x :: st) K M a b := by
  have k0 : x = y → J E X (pc + 1) L (vI 0 :: st) K M a b := fun e => J_if_ne hX t hd2 (by decide) ht (fun h => absurd rfl h) (fun _ => kf e)
  have k1 : x ≠ y → J E X (pc + 1) L (vI 1 :: st) K M a b := fun e => J_if_ne hX t hd2 (by decide) ht (fun _ => kt e) (fun h => absurd h (by decide))
  have k2 : x ≠ y → J E X (pc + 1) L (vI (-1) :: st) K M a b := fun e => J_if_ne hX t hd2 (by decide) ht (fun _ => kt e) (fun h => absurd h (by decide))
  have hinj : Int64.ofInt x = Int64.ofInt y → x = y := fun h => by
    have h2 := congrArg Int64.toInt h
    rwa [Int64.toInt_ofInt_of_le (by omega) (by omega), Int64.toInt_ofInt_of_le (by omega) (by omega)] at h2
  obtain ⟨p, l, e, R, s, m, args, below, meth, c, Q, nL, K0, ad0⟩ := X
  intro ad H locs ls hR he hs hv
  refine W.lcmp hX.1 hX.2.1 hd1 ?_
  unfold lg_cmp
  by_cases q : Int64.ofInt x > Int64.ofInt y
  · rw [if_pos q]
    have hne : x ≠ y := fun z => by rw [z] at q; exact absurd q (Int64.lt_irrefl)
    exact k1 hne ad H locs ls hR he hs hv
  · rw [if_neg q]
    by_cases e9 : Int64.ofInt x = Int64.ofInt y
    · rw [if_pos e9]; exact k0 (hinj e9) ad H locs ls hR he hs hv
    · rw [if_neg e9]; exact k2 (fun z => e9 (by rw [z])) ad H locs ls hR he hs hv
end RULES
def cstW (i : Nat) : Int := ([3544025, 4085899, 1887, 40187, 10160456, 14006, 10820876, 92275, 400313] : List Int).getD i 0
def cmO (z : Int) : Int := if z = 3544025 then 0 else if z = 4085899 then 1 else if z = 1887 then 2 else if z = 40187 then 3 else if z = 10160456 then 4 else if z = 14006 then 5 else if z = 10820876 then 6 else if z = 92275 then 7 else if z = 400313 then 8 else -1000

theorem m_X10_commandOf {E : EE} {K : Nat → Nat} {M : MM} {z : Int} (hz : -4000000000 ≤ z ∧ z ≤ 4000000000) : CnI E 0 yX10_commandOf cX10_commandOf 2 (Option.some FieldType.int) [vL z] K M (cmO z) := by
  refine ⟨Cn_of RX10 (plainFor_of_name (by decide)) rfl (Nat.le_of_ble_eq_true rfl) (fun X hX hQ => ?_), by unfold cmO; (repeat' split) <;> decide⟩
  refine J_lload_n hX dX10_commandOf_0 rfl ?_
  refine J_ldc2 (x := 3544025) hX dX10_commandOf_1 kl_RX10_282 rfl ?_
  refine J_lcmpne hX 12 dX10_commandOf_4 dX10_commandOf_5 (by omega) (by decide) (by decide) (fun c0 => ?_) (fun c0 => ?_)
  rotate_left
  · refine J_iconst hX dX10_commandOf_8 ?_
    refine J_goto hX 114 dX10_commandOf_9 (by decide) ?_
    exact J_retI hX hQ dX10_commandOf_114 (by unfold cmO; rw [if_pos c0]) rfl rfl (Nat.zero_le _) (Nat.zero_le _)
  refine J_lload_n hX dX10_commandOf_12 rfl ?_
  refine J_ldc2 (x := 4085899) hX dX10_commandOf_13 kl_RX10_284 rfl ?_
  refine J_lcmpne hX 24 dX10_commandOf_16 dX10_commandOf_17 (by omega) (by decide) (by decide) (fun c1 => ?_) (fun c1 => ?_)
  rotate_left
  · refine J_iconst hX dX10_commandOf_20 ?_
    refine J_goto hX 114 dX10_commandOf_21 (by decide) ?_
    exact J_retI hX hQ dX10_commandOf_114 (by unfold cmO; rw [if_neg c0, if_pos c1]) rfl rfl (Nat.zero_le _) (Nat.zero_le _)
  refine J_lload_n hX dX10_commandOf_24 rfl ?_
  refine J_ldc2 (x := 1887) hX dX10_commandOf_25 kl_RX10_286 rfl ?_
  refine J_lcmpne hX 36 dX10_commandOf_28 dX10_commandOf_29 (by omega) (by decide) (by decide) (fun c2 => ?_) (fun c2 => ?_)
  rotate_left
  · refine J_iconst hX dX10_commandOf_32 ?_
    refine J_goto hX 114 dX10_commandOf_33 (by decide) ?_
    exact J_retI hX hQ dX10_commandOf_114 (by unfold cmO; rw [if_neg c0, if_neg c1, if_pos c2]) rfl rfl (Nat.zero_le _) (Nat.zero_le _)
  refine J_lload_n hX dX10_commandOf_36 rfl ?_
  refine J_ldc2 (x := 40187) hX dX10_commandOf_37 kl_RX10_288 rfl ?_
  refine J_lcmpne hX 48 dX10_commandOf_40 dX10_commandOf_41 (by omega) (by decide) (by decide) (fun c3 => ?_) (fun c3 => ?_)
  rotate_left
  · refine J_iconst hX dX10_commandOf_44 ?_
    refine J_goto hX 114 dX10_commandOf_45 (by decide) ?_
    exact J_retI hX hQ dX10_commandOf_114 (by unfold cmO; rw [if_neg c0, if_neg c1, if_neg c2, if_pos c3]) rfl rfl (Nat.zero_le _) (Nat.zero_le _)
  refine J_lload_n hX dX10_commandOf_48 rfl ?_
  refine J_ldc2 (x := 10160456) hX dX10_commandOf_49 kl_RX10_290 rfl ?_
  refine J_lcmpne hX 60 dX10_commandOf_52 dX10_commandOf_53 (by omega) (by decide) (by decide) (fun c4 => ?_) (fun c4 => ?_)
  rotate_left
  · refine J_iconst hX dX10_commandOf_56 ?_
    refine J_goto hX 114 dX10_commandOf_57 (by decide) ?_
    exact J_retI hX hQ dX10_commandOf_114 (by unfold cmO; rw [if_neg c0, if_neg c1, if_neg c2, if_neg c3, if_pos c4]) rfl rfl (Nat.zero_le _) (Nat.zero_le _)
  refine J_lload_n hX dX10_commandOf_60 rfl ?_
  refine J_ldc2 (x := 14006) hX dX10_commandOf_61 kl_RX10_292 rfl ?_
  refine J_lcmpne hX 72 dX10_commandOf_64 dX10_commandOf_65 (by omega) (by decide) (by decide) (fun c5 => ?_) (fun c5 => ?_)
  rotate_left
  · refine J_iconst hX dX10_commandOf_68 ?_
    refine J_goto hX 114 dX10_commandOf_69 (by decide) ?_
    exact J_retI hX hQ dX10_commandOf_114 (by unfold cmO; rw [if_neg c0, if_neg c1, if_neg c2, if_neg c3, if_neg c4, if_pos c5]) rfl rfl (Nat.zero_le _) (Nat.zero_le _)
  refine J_lload_n hX dX10_commandOf_72 rfl ?_
  refine J_ldc2 (x := 10820876) hX dX10_commandOf_73 kl_RX10_294 rfl ?_
  refine J_lcmpne hX 85 dX10_commandOf_76 dX10_commandOf_77 (by omega) (by decide) (by decide) (fun c6 => ?_) (fun c6 => ?_)
  rotate_left
  · refine J_bipush hX dX10_commandOf_80 rfl ?_
    refine J_goto hX 114 dX10_commandOf_82 (by decide) ?_
    exact J_retI hX hQ dX10_commandOf_114 (by unfold cmO; rw [if_neg c0, if_neg c1, if_neg c2, if_neg c3, if_neg c4, if_neg c5, if_pos c6]) rfl rfl (Nat.zero_le _) (Nat.zero_le _)
  refine J_lload_n hX dX10_commandOf_85 rfl ?_
  refine J_ldc2 (x := 92275) hX dX10_commandOf_86 kl_RX10_296 rfl ?_
  refine J_lcmpne hX 98 dX10_commandOf_89 dX10_commandOf_90 (by omega) (by decide) (by decide) (fun c7 => ?_) (fun c7 => ?_)
  rotate_left
  · refine J_bipush hX dX10_commandOf_93 rfl ?_
    refine J_goto hX 114 dX10_commandOf_95 (by decide) ?_
    exact J_retI hX hQ dX10_commandOf_114 (by unfold cmO; rw [if_neg c0, if_neg c1, if_neg c2, if_neg c3, if_neg c4, if_neg c5, if_neg c6, if_pos c7]) rfl rfl (Nat.zero_le _) (Nat.zero_le _)
  refine J_lload_n hX dX10_commandOf_98 rfl ?_
  refine J_ldc2 (x := 400313) hX dX10_commandOf_99 kl_RX10_298 rfl ?_
  refine J_lcmpne hX 111 dX10_commandOf_102 dX10_commandOf_103 (by omega) (by decide) (by decide) (fun c8 => ?_) (fun c8 => ?_)
  rotate_left
  · refine J_bipush hX dX10_commandOf_106 rfl ?_
    refine J_goto hX 114 dX10_commandOf_108 (by decide) ?_
    exact J_retI hX hQ dX10_commandOf_114 (by unfold cmO; rw [if_neg c0, if_neg c1, if_neg c2, if_neg c3, if_neg c4, if_neg c5, if_neg c6, if_neg c7, if_pos c8]) rfl rfl (Nat.zero_le _) (Nat.zero_le _)
  refine J_sipush hX dX10_commandOf_111 rfl ?_
  exact J_retI hX hQ dX10_commandOf_114 (by unfold cmO; rw [if_neg c0, if_neg c1, if_neg c2, if_neg c3, if_neg c4, if_neg c5, if_neg c6, if_neg c7, if_neg c8]) rfl rfl (Nat.zero_le _) (Nat.zero_le _)
def encW (t : Int → Int) (p : Int) : Nat → Int
  | 0 => 0
  | k + 1 => encW t p k * 27 + t (p + (k : Int)) - 96
theorem encW_bd {t : Int → Int} {p : Int} : ∀ k : Nat, (∀ j : Nat, j < k → 97 ≤ t (p + (j : Int)) ∧ t (p + (j : Int)) ≤ 122) → 0 ≤ encW t p k ∧ encW t p k < 27 ^ k := by
  intro k
  induction k with
  | zero => intro _; exact ⟨Int.le_refl _, by show (0 : Int) < 27 ^ 0; decide⟩
  | succ k ih =>
    intro h
    have h1 := ih (fun j hj => h j (by omega))
    have h2 := h k (by omega)
    have hp : (27 : Int) ^ (k + 1) = 27 ^ k * 27 := Int.pow_succ 27 k
    show 0 ≤ encW t p k * 27 + t (p + (k : Int)) - 96 ∧ encW t p k * 27 + t (p + (k : Int)) - 96 < 27 ^ (k + 1)
    rw [hp]
    omega
set_option maxHeartbeats 4000000 in
theorem wok_enc {t : Int → Int} {p : Int} {n : Nat} (hL : n ≤ 5) (hl : ∀ j : Nat, j < n → 97 ≤ t (p + (j : Int)) ∧ t (p + (j : Int)) ≤ 122) {i : Nat} (hi : i < 9) : wok t p (p + (n : Int)) i ↔ encW t p n = cstW i := by
  have hi9 : i = 0 ∨ i = 1 ∨ i = 2 ∨ i = 3 ∨ i = 4 ∨ i = 5 ∨ i = 6 ∨ i = 7 ∨ i = 8 := by omega
  rcases (show n = 0 ∨ n = 1 ∨ n = 2 ∨ n = 3 ∨ n = 4 ∨ n = 5 by omega) with rfl | rfl | rfl | rfl | rfl | rfl
  · have e : encW t p 0 = 0 := rfl
    rw [e]
    rcases hi9 with rfl | rfl | rfl | rfl | rfl | rfl | rfl | rfl | rfl
    · constructor
      · intro h; exact absurd h.1 (by show ¬ ((5 : Nat) : Int) = p + ((0 : Nat) : Int) - p; omega)
      · intro h; exfalso; have h9 : 0 = (3544025 : Int) := h; omega
    · constructor
      · intro h; exact absurd h.1 (by show ¬ ((5 : Nat) : Int) = p + ((0 : Nat) : Int) - p; omega)
      · intro h; exfalso; have h9 : 0 = (4085899 : Int) := h; omega
    · constructor
      · intro h; exact absurd h.1 (by show ¬ ((3 : Nat) : Int) = p + ((0 : Nat) : Int) - p; omega)
      · intro h; exfalso; have h9 : 0 = (1887 : Int) := h; omega
    · constructor
      · intro h; exact absurd h.1 (by show ¬ ((4 : Nat) : Int) = p + ((0 : Nat) : Int) - p; omega)
      · intro h; exfalso; have h9 : 0 = (40187 : Int) := h; omega
    · constructor
      · intro h; exact absurd h.1 (by show ¬ ((5 : Nat) : Int) = p + ((0 : Nat) : Int) - p; omega)
      · intro h; exfalso; have h9 : 0 = (10160456 : Int) := h; omega
    · constructor
      · intro h; exact absurd h.1 (by show ¬ ((3 : Nat) : Int) = p + ((0 : Nat) : Int) - p; omega)
      · intro h; exfalso; have h9 : 0 = (14006 : Int) := h; omega
    · constructor
      · intro h; exact absurd h.1 (by show ¬ ((5 : Nat) : Int) = p + ((0 : Nat) : Int) - p; omega)
      · intro h; exfalso; have h9 : 0 = (10820876 : Int) := h; omega
    · constructor
      · intro h; exact absurd h.1 (by show ¬ ((4 : Nat) : Int) = p + ((0 : Nat) : Int) - p; omega)
      · intro h; exfalso; have h9 : 0 = (92275 : Int) := h; omega
    · constructor
      · intro h; exact absurd h.1 (by show ¬ ((4 : Nat) : Int) = p + ((0 : Nat) : Int) - p; omega)
      · intro h; exfalso; have h9 : 0 = (400313 : Int) := h; omega
  · have l0 := hl 0 (by decide)
    have e : encW t p 1 = (0) * 27 + t (p + ((0 : Nat) : Int)) - 96 := rfl
    generalize h0 : t (p + ((0 : Nat) : Int)) = x0 at l0 e
    rw [e]
    rcases hi9 with rfl | rfl | rfl | rfl | rfl | rfl | rfl | rfl | rfl
    · constructor
      · intro h; exact absurd h.1 (by show ¬ ((5 : Nat) : Int) = p + ((1 : Nat) : Int) - p; omega)
      · intro h; exfalso; have h9 : (0) * 27 + x0 - 96 = (3544025 : Int) := h; omega
    · constructor
      · intro h; exact absurd h.1 (by show ¬ ((5 : Nat) : Int) = p + ((1 : Nat) : Int) - p; omega)
      · intro h; exfalso; have h9 : (0) * 27 + x0 - 96 = (4085899 : Int) := h; omega
    · constructor
      · intro h; exact absurd h.1 (by show ¬ ((3 : Nat) : Int) = p + ((1 : Nat) : Int) - p; omega)
      · intro h; exfalso; have h9 : (0) * 27 + x0 - 96 = (1887 : Int) := h; omega
    · constructor
      · intro h; exact absurd h.1 (by show ¬ ((4 : Nat) : Int) = p + ((1 : Nat) : Int) - p; omega)
      · intro h; exfalso; have h9 : (0) * 27 + x0 - 96 = (40187 : Int) := h; omega
    · constructor
      · intro h; exact absurd h.1 (by show ¬ ((5 : Nat) : Int) = p + ((1 : Nat) : Int) - p; omega)
      · intro h; exfalso; have h9 : (0) * 27 + x0 - 96 = (10160456 : Int) := h; omega
    · constructor
      · intro h; exact absurd h.1 (by show ¬ ((3 : Nat) : Int) = p + ((1 : Nat) : Int) - p; omega)
      · intro h; exfalso; have h9 : (0) * 27 + x0 - 96 = (14006 : Int) := h; omega
    · constructor
      · intro h; exact absurd h.1 (by show ¬ ((5 : Nat) : Int) = p + ((1 : Nat) : Int) - p; omega)
      · intro h; exfalso; have h9 : (0) * 27 + x0 - 96 = (10820876 : Int) := h; omega
    · constructor
      · intro h; exact absurd h.1 (by show ¬ ((4 : Nat) : Int) = p + ((1 : Nat) : Int) - p; omega)
      · intro h; exfalso; have h9 : (0) * 27 + x0 - 96 = (92275 : Int) := h; omega
    · constructor
      · intro h; exact absurd h.1 (by show ¬ ((4 : Nat) : Int) = p + ((1 : Nat) : Int) - p; omega)
      · intro h; exfalso; have h9 : (0) * 27 + x0 - 96 = (400313 : Int) := h; omega
  · have l0 := hl 0 (by decide)
    have l1 := hl 1 (by decide)
    have e : encW t p 2 = ((0) * 27 + t (p + ((0 : Nat) : Int)) - 96) * 27 + t (p + ((1 : Nat) : Int)) - 96 := rfl
    generalize h0 : t (p + ((0 : Nat) : Int)) = x0 at l0 e
    generalize h1 : t (p + ((1 : Nat) : Int)) = x1 at l1 e
    rw [e]
    rcases hi9 with rfl | rfl | rfl | rfl | rfl | rfl | rfl | rfl | rfl
    · constructor
      · intro h; exact absurd h.1 (by show ¬ ((5 : Nat) : Int) = p + ((2 : Nat) : Int) - p; omega)
      · intro h; exfalso; have h9 : ((0) * 27 + x0 - 96) * 27 + x1 - 96 = (3544025 : Int) := h; omega
    · constructor
      · intro h; exact absurd h.1 (by show ¬ ((5 : Nat) : Int) = p + ((2 : Nat) : Int) - p; omega)
      · intro h; exfalso; have h9 : ((0) * 27 + x0 - 96) * 27 + x1 - 96 = (4085899 : Int) := h; omega
    · constructor
      · intro h; exact absurd h.1 (by show ¬ ((3 : Nat) : Int) = p + ((2 : Nat) : Int) - p; omega)
      · intro h; exfalso; have h9 : ((0) * 27 + x0 - 96) * 27 + x1 - 96 = (1887 : Int) := h; omega
    · constructor
      · intro h; exact absurd h.1 (by show ¬ ((4 : Nat) : Int) = p + ((2 : Nat) : Int) - p; omega)
      · intro h; exfalso; have h9 : ((0) * 27 + x0 - 96) * 27 + x1 - 96 = (40187 : Int) := h; omega
    · constructor
      · intro h; exact absurd h.1 (by show ¬ ((5 : Nat) : Int) = p + ((2 : Nat) : Int) - p; omega)
      · intro h; exfalso; have h9 : ((0) * 27 + x0 - 96) * 27 + x1 - 96 = (10160456 : Int) := h; omega
    · constructor
      · intro h; exact absurd h.1 (by show ¬ ((3 : Nat) : Int) = p + ((2 : Nat) : Int) - p; omega)
      · intro h; exfalso; have h9 : ((0) * 27 + x0 - 96) * 27 + x1 - 96 = (14006 : Int) := h; omega
    · constructor
      · intro h; exact absurd h.1 (by show ¬ ((5 : Nat) : Int) = p + ((2 : Nat) : Int) - p; omega)
      · intro h; exfalso; have h9 : ((0) * 27 + x0 - 96) * 27 + x1 - 96 = (10820876 : Int) := h; omega
    · constructor
      · intro h; exact absurd h.1 (by show ¬ ((4 : Nat) : Int) = p + ((2 : Nat) : Int) - p; omega)
      · intro h; exfalso; have h9 : ((0) * 27 + x0 - 96) * 27 + x1 - 96 = (92275 : Int) := h; omega
    · constructor
      · intro h; exact absurd h.1 (by show ¬ ((4 : Nat) : Int) = p + ((2 : Nat) : Int) - p; omega)
      · intro h; exfalso; have h9 : ((0) * 27 + x0 - 96) * 27 + x1 - 96 = (400313 : Int) := h; omega
  · have l0 := hl 0 (by decide)
    have l1 := hl 1 (by decide)
    have l2 := hl 2 (by decide)
    have e : encW t p 3 = (((0) * 27 + t (p + ((0 : Nat) : Int)) - 96) * 27 + t (p + ((1 : Nat) : Int)) - 96) * 27 + t (p + ((2 : Nat) : Int)) - 96 := rfl
    generalize h0 : t (p + ((0 : Nat) : Int)) = x0 at l0 e
    generalize h1 : t (p + ((1 : Nat) : Int)) = x1 at l1 e
    generalize h2 : t (p + ((2 : Nat) : Int)) = x2 at l2 e
    rw [e]
    rcases hi9 with rfl | rfl | rfl | rfl | rfl | rfl | rfl | rfl | rfl
    · constructor
      · intro h; exact absurd h.1 (by show ¬ ((5 : Nat) : Int) = p + ((3 : Nat) : Int) - p; omega)
      · intro h; exfalso; have h9 : (((0) * 27 + x0 - 96) * 27 + x1 - 96) * 27 + x2 - 96 = (3544025 : Int) := h; omega
    · constructor
      · intro h; exact absurd h.1 (by show ¬ ((5 : Nat) : Int) = p + ((3 : Nat) : Int) - p; omega)
      · intro h; exfalso; have h9 : (((0) * 27 + x0 - 96) * 27 + x1 - 96) * 27 + x2 - 96 = (4085899 : Int) := h; omega
    · constructor
      · intro h
        have q0 : x0 = 98 := h0.symm.trans (h.2 0 (by decide))
        have q1 : x1 = 111 := h1.symm.trans (h.2 1 (by decide))
        have q2 : x2 = 120 := h2.symm.trans (h.2 2 (by decide))
        show (((0) * 27 + x0 - 96) * 27 + x1 - 96) * 27 + x2 - 96 = (1887 : Int)
        omega
      · intro h; have h9 : (((0) * 27 + x0 - 96) * 27 + x1 - 96) * 27 + x2 - 96 = (1887 : Int) := h
        refine ⟨by show ((3 : Nat) : Int) = p + ((3 : Nat) : Int) - p; omega, fun j hj => ?_⟩
        have hj3 : j < 3 := hj
        rcases (show j = 0 ∨ j = 1 ∨ j = 2 by omega) with rfl | rfl | rfl
        · exact h0.trans (show x0 = (98 : Int) by omega)
        · exact h1.trans (show x1 = (111 : Int) by omega)
        · exact h2.trans (show x2 = (120 : Int) by omega)
    · constructor
      · intro h; exact absurd h.1 (by show ¬ ((4 : Nat) : Int) = p + ((3 : Nat) : Int) - p; omega)
      · intro h; exfalso; have h9 : (((0) * 27 + x0 - 96) * 27 + x1 - 96) * 27 + x2 - 96 = (40187 : Int) := h; omega
    · constructor
      · intro h; exact absurd h.1 (by show ¬ ((5 : Nat) : Int) = p + ((3 : Nat) : Int) - p; omega)
      · intro h; exfalso; have h9 : (((0) * 27 + x0 - 96) * 27 + x1 - 96) * 27 + x2 - 96 = (10160456 : Int) := h; omega
    · constructor
      · intro h
        have q0 : x0 = 115 := h0.symm.trans (h.2 0 (by decide))
        have q1 : x1 = 101 := h1.symm.trans (h.2 1 (by decide))
        have q2 : x2 = 116 := h2.symm.trans (h.2 2 (by decide))
        show (((0) * 27 + x0 - 96) * 27 + x1 - 96) * 27 + x2 - 96 = (14006 : Int)
        omega
      · intro h; have h9 : (((0) * 27 + x0 - 96) * 27 + x1 - 96) * 27 + x2 - 96 = (14006 : Int) := h
        refine ⟨by show ((3 : Nat) : Int) = p + ((3 : Nat) : Int) - p; omega, fun j hj => ?_⟩
        have hj3 : j < 3 := hj
        rcases (show j = 0 ∨ j = 1 ∨ j = 2 by omega) with rfl | rfl | rfl
        · exact h0.trans (show x0 = (115 : Int) by omega)
        · exact h1.trans (show x1 = (101 : Int) by omega)
        · exact h2.trans (show x2 = (116 : Int) by omega)
    · constructor
      · intro h; exact absurd h.1 (by show ¬ ((5 : Nat) : Int) = p + ((3 : Nat) : Int) - p; omega)
      · intro h; exfalso; have h9 : (((0) * 27 + x0 - 96) * 27 + x1 - 96) * 27 + x2 - 96 = (10820876 : Int) := h; omega
    · constructor
      · intro h; exact absurd h.1 (by show ¬ ((4 : Nat) : Int) = p + ((3 : Nat) : Int) - p; omega)
      · intro h; exfalso; have h9 : (((0) * 27 + x0 - 96) * 27 + x1 - 96) * 27 + x2 - 96 = (92275 : Int) := h; omega
    · constructor
      · intro h; exact absurd h.1 (by show ¬ ((4 : Nat) : Int) = p + ((3 : Nat) : Int) - p; omega)
      · intro h; exfalso; have h9 : (((0) * 27 + x0 - 96) * 27 + x1 - 96) * 27 + x2 - 96 = (400313 : Int) := h; omega
  · have l0 := hl 0 (by decide)
    have l1 := hl 1 (by decide)
    have l2 := hl 2 (by decide)
    have l3 := hl 3 (by decide)
    have e : encW t p 4 = ((((0) * 27 + t (p + ((0 : Nat) : Int)) - 96) * 27 + t (p + ((1 : Nat) : Int)) - 96) * 27 + t (p + ((2 : Nat) : Int)) - 96) * 27 + t (p + ((3 : Nat) : Int)) - 96 := rfl
    generalize h0 : t (p + ((0 : Nat) : Int)) = x0 at l0 e
    generalize h1 : t (p + ((1 : Nat) : Int)) = x1 at l1 e
    generalize h2 : t (p + ((2 : Nat) : Int)) = x2 at l2 e
    generalize h3 : t (p + ((3 : Nat) : Int)) = x3 at l3 e
    rw [e]
    rcases hi9 with rfl | rfl | rfl | rfl | rfl | rfl | rfl | rfl | rfl
    · constructor
      · intro h; exact absurd h.1 (by show ¬ ((5 : Nat) : Int) = p + ((4 : Nat) : Int) - p; omega)
      · intro h; exfalso; have h9 : ((((0) * 27 + x0 - 96) * 27 + x1 - 96) * 27 + x2 - 96) * 27 + x3 - 96 = (3544025 : Int) := h; omega
    · constructor
      · intro h; exact absurd h.1 (by show ¬ ((5 : Nat) : Int) = p + ((4 : Nat) : Int) - p; omega)
      · intro h; exfalso; have h9 : ((((0) * 27 + x0 - 96) * 27 + x1 - 96) * 27 + x2 - 96) * 27 + x3 - 96 = (4085899 : Int) := h; omega
    · constructor
      · intro h; exact absurd h.1 (by show ¬ ((3 : Nat) : Int) = p + ((4 : Nat) : Int) - p; omega)
      · intro h; exfalso; have h9 : ((((0) * 27 + x0 - 96) * 27 + x1 - 96) * 27 + x2 - 96) * 27 + x3 - 96 = (1887 : Int) := h; omega
    · constructor
      · intro h
        have q0 : x0 = 98 := h0.symm.trans (h.2 0 (by decide))
        have q1 : x1 = 97 := h1.symm.trans (h.2 1 (by decide))
        have q2 : x2 = 99 := h2.symm.trans (h.2 2 (by decide))
        have q3 : x3 = 107 := h3.symm.trans (h.2 3 (by decide))
        show ((((0) * 27 + x0 - 96) * 27 + x1 - 96) * 27 + x2 - 96) * 27 + x3 - 96 = (40187 : Int)
        omega
      · intro h; have h9 : ((((0) * 27 + x0 - 96) * 27 + x1 - 96) * 27 + x2 - 96) * 27 + x3 - 96 = (40187 : Int) := h
        refine ⟨by show ((4 : Nat) : Int) = p + ((4 : Nat) : Int) - p; omega, fun j hj => ?_⟩
        have hj4 : j < 4 := hj
        rcases (show j = 0 ∨ j = 1 ∨ j = 2 ∨ j = 3 by omega) with rfl | rfl | rfl | rfl
        · exact h0.trans (show x0 = (98 : Int) by omega)
        · exact h1.trans (show x1 = (97 : Int) by omega)
        · exact h2.trans (show x2 = (99 : Int) by omega)
        · exact h3.trans (show x3 = (107 : Int) by omega)
    · constructor
      · intro h; exact absurd h.1 (by show ¬ ((5 : Nat) : Int) = p + ((4 : Nat) : Int) - p; omega)
      · intro h; exfalso; have h9 : ((((0) * 27 + x0 - 96) * 27 + x1 - 96) * 27 + x2 - 96) * 27 + x3 - 96 = (10160456 : Int) := h; omega
    · constructor
      · intro h; exact absurd h.1 (by show ¬ ((3 : Nat) : Int) = p + ((4 : Nat) : Int) - p; omega)
      · intro h; exfalso; have h9 : ((((0) * 27 + x0 - 96) * 27 + x1 - 96) * 27 + x2 - 96) * 27 + x3 - 96 = (14006 : Int) := h; omega
    · constructor
      · intro h; exact absurd h.1 (by show ¬ ((5 : Nat) : Int) = p + ((4 : Nat) : Int) - p; omega)
      · intro h; exfalso; have h9 : ((((0) * 27 + x0 - 96) * 27 + x1 - 96) * 27 + x2 - 96) * 27 + x3 - 96 = (10820876 : Int) := h; omega
    · constructor
      · intro h
        have q0 : x0 = 100 := h0.symm.trans (h.2 0 (by decide))
        have q1 : x1 = 114 := h1.symm.trans (h.2 1 (by decide))
        have q2 : x2 = 111 := h2.symm.trans (h.2 2 (by decide))
        have q3 : x3 = 112 := h3.symm.trans (h.2 3 (by decide))
        show ((((0) * 27 + x0 - 96) * 27 + x1 - 96) * 27 + x2 - 96) * 27 + x3 - 96 = (92275 : Int)
        omega
      · intro h; have h9 : ((((0) * 27 + x0 - 96) * 27 + x1 - 96) * 27 + x2 - 96) * 27 + x3 - 96 = (92275 : Int) := h
        refine ⟨by show ((4 : Nat) : Int) = p + ((4 : Nat) : Int) - p; omega, fun j hj => ?_⟩
        have hj4 : j < 4 := hj
        rcases (show j = 0 ∨ j = 1 ∨ j = 2 ∨ j = 3 by omega) with rfl | rfl | rfl | rfl
        · exact h0.trans (show x0 = (100 : Int) by omega)
        · exact h1.trans (show x1 = (114 : Int) by omega)
        · exact h2.trans (show x2 = (111 : Int) by omega)
        · exact h3.trans (show x3 = (112 : Int) by omega)
    · constructor
      · intro h
        have q0 : x0 = 116 := h0.symm.trans (h.2 0 (by decide))
        have q1 : x1 = 105 := h1.symm.trans (h.2 1 (by decide))
        have q2 : x2 = 99 := h2.symm.trans (h.2 2 (by decide))
        have q3 : x3 = 107 := h3.symm.trans (h.2 3 (by decide))
        show ((((0) * 27 + x0 - 96) * 27 + x1 - 96) * 27 + x2 - 96) * 27 + x3 - 96 = (400313 : Int)
        omega
      · intro h; have h9 : ((((0) * 27 + x0 - 96) * 27 + x1 - 96) * 27 + x2 - 96) * 27 + x3 - 96 = (400313 : Int) := h
        refine ⟨by show ((4 : Nat) : Int) = p + ((4 : Nat) : Int) - p; omega, fun j hj => ?_⟩
        have hj4 : j < 4 := hj
        rcases (show j = 0 ∨ j = 1 ∨ j = 2 ∨ j = 3 by omega) with rfl | rfl | rfl | rfl
        · exact h0.trans (show x0 = (116 : Int) by omega)
        · exact h1.trans (show x1 = (105 : Int) by omega)
        · exact h2.trans (show x2 = (99 : Int) by omega)
        · exact h3.trans (show x3 = (107 : Int) by omega)
  · have l0 := hl 0 (by decide)
    have l1 := hl 1 (by decide)
    have l2 := hl 2 (by decide)
    have l3 := hl 3 (by decide)
    have l4 := hl 4 (by decide)
    have e : encW t p 5 = (((((0) * 27 + t (p + ((0 : Nat) : Int)) - 96) * 27 + t (p + ((1 : Nat) : Int)) - 96) * 27 + t (p + ((2 : Nat) : Int)) - 96) * 27 + t (p + ((3 : Nat) : Int)) - 96) * 27 + t (p + ((4 : Nat) : Int)) - 96 := rfl
    generalize h0 : t (p + ((0 : Nat) : Int)) = x0 at l0 e
    generalize h1 : t (p + ((1 : Nat) : Int)) = x1 at l1 e
    generalize h2 : t (p + ((2 : Nat) : Int)) = x2 at l2 e
    generalize h3 : t (p + ((3 : Nat) : Int)) = x3 at l3 e
    generalize h4 : t (p + ((4 : Nat) : Int)) = x4 at l4 e
    rw [e]
    rcases hi9 with rfl | rfl | rfl | rfl | rfl | rfl | rfl | rfl | rfl
    · constructor
      · intro h
        have q0 : x0 = 102 := h0.symm.trans (h.2 0 (by decide))
        have q1 : x1 = 114 := h1.symm.trans (h.2 1 (by decide))
        have q2 : x2 = 97 := h2.symm.trans (h.2 2 (by decide))
        have q3 : x3 = 109 := h3.symm.trans (h.2 3 (by decide))
        have q4 : x4 = 101 := h4.symm.trans (h.2 4 (by decide))
        show (((((0) * 27 + x0 - 96) * 27 + x1 - 96) * 27 + x2 - 96) * 27 + x3 - 96) * 27 + x4 - 96 = (3544025 : Int)
        omega
      · intro h; have h9 : (((((0) * 27 + x0 - 96) * 27 + x1 - 96) * 27 + x2 - 96) * 27 + x3 - 96) * 27 + x4 - 96 = (3544025 : Int) := h
        refine ⟨by show ((5 : Nat) : Int) = p + ((5 : Nat) : Int) - p; omega, fun j hj => ?_⟩
        have hj5 : j < 5 := hj
        rcases (show j = 0 ∨ j = 1 ∨ j = 2 ∨ j = 3 ∨ j = 4 by omega) with rfl | rfl | rfl | rfl | rfl
        · exact h0.trans (show x0 = (102 : Int) by omega)
        · exact h1.trans (show x1 = (114 : Int) by omega)
        · exact h2.trans (show x2 = (97 : Int) by omega)
        · exact h3.trans (show x3 = (109 : Int) by omega)
        · exact h4.trans (show x4 = (101 : Int) by omega)
    · constructor
      · intro h
        have q0 : x0 = 103 := h0.symm.trans (h.2 0 (by decide))
        have q1 : x1 = 114 := h1.symm.trans (h.2 1 (by decide))
        have q2 : x2 = 111 := h2.symm.trans (h.2 2 (by decide))
        have q3 : x3 = 117 := h3.symm.trans (h.2 3 (by decide))
        have q4 : x4 = 112 := h4.symm.trans (h.2 4 (by decide))
        show (((((0) * 27 + x0 - 96) * 27 + x1 - 96) * 27 + x2 - 96) * 27 + x3 - 96) * 27 + x4 - 96 = (4085899 : Int)
        omega
      · intro h; have h9 : (((((0) * 27 + x0 - 96) * 27 + x1 - 96) * 27 + x2 - 96) * 27 + x3 - 96) * 27 + x4 - 96 = (4085899 : Int) := h
        refine ⟨by show ((5 : Nat) : Int) = p + ((5 : Nat) : Int) - p; omega, fun j hj => ?_⟩
        have hj5 : j < 5 := hj
        rcases (show j = 0 ∨ j = 1 ∨ j = 2 ∨ j = 3 ∨ j = 4 by omega) with rfl | rfl | rfl | rfl | rfl
        · exact h0.trans (show x0 = (103 : Int) by omega)
        · exact h1.trans (show x1 = (114 : Int) by omega)
        · exact h2.trans (show x2 = (111 : Int) by omega)
        · exact h3.trans (show x3 = (117 : Int) by omega)
        · exact h4.trans (show x4 = (112 : Int) by omega)
    · constructor
      · intro h; exact absurd h.1 (by show ¬ ((3 : Nat) : Int) = p + ((5 : Nat) : Int) - p; omega)
      · intro h; exfalso; have h9 : (((((0) * 27 + x0 - 96) * 27 + x1 - 96) * 27 + x2 - 96) * 27 + x3 - 96) * 27 + x4 - 96 = (1887 : Int) := h; omega
    · constructor
      · intro h; exact absurd h.1 (by show ¬ ((4 : Nat) : Int) = p + ((5 : Nat) : Int) - p; omega)
      · intro h; exfalso; have h9 : (((((0) * 27 + x0 - 96) * 27 + x1 - 96) * 27 + x2 - 96) * 27 + x3 - 96) * 27 + x4 - 96 = (40187 : Int) := h; omega
    · constructor
      · intro h
        have q0 : x0 = 115 := h0.symm.trans (h.2 0 (by decide))
        have q1 : x1 = 99 := h1.symm.trans (h.2 1 (by decide))
        have q2 : x2 = 101 := h2.symm.trans (h.2 2 (by decide))
        have q3 : x3 = 110 := h3.symm.trans (h.2 3 (by decide))
        have q4 : x4 = 101 := h4.symm.trans (h.2 4 (by decide))
        show (((((0) * 27 + x0 - 96) * 27 + x1 - 96) * 27 + x2 - 96) * 27 + x3 - 96) * 27 + x4 - 96 = (10160456 : Int)
        omega
      · intro h; have h9 : (((((0) * 27 + x0 - 96) * 27 + x1 - 96) * 27 + x2 - 96) * 27 + x3 - 96) * 27 + x4 - 96 = (10160456 : Int) := h
        refine ⟨by show ((5 : Nat) : Int) = p + ((5 : Nat) : Int) - p; omega, fun j hj => ?_⟩
        have hj5 : j < 5 := hj
        rcases (show j = 0 ∨ j = 1 ∨ j = 2 ∨ j = 3 ∨ j = 4 by omega) with rfl | rfl | rfl | rfl | rfl
        · exact h0.trans (show x0 = (115 : Int) by omega)
        · exact h1.trans (show x1 = (99 : Int) by omega)
        · exact h2.trans (show x2 = (101 : Int) by omega)
        · exact h3.trans (show x3 = (110 : Int) by omega)
        · exact h4.trans (show x4 = (101 : Int) by omega)
    · constructor
      · intro h; exact absurd h.1 (by show ¬ ((3 : Nat) : Int) = p + ((5 : Nat) : Int) - p; omega)
      · intro h; exfalso; have h9 : (((((0) * 27 + x0 - 96) * 27 + x1 - 96) * 27 + x2 - 96) * 27 + x3 - 96) * 27 + x4 - 96 = (14006 : Int) := h; omega
    · constructor
      · intro h
        have q0 : x0 = 116 := h0.symm.trans (h.2 0 (by decide))
        have q1 : x1 = 105 := h1.symm.trans (h.2 1 (by decide))
        have q2 : x2 = 116 := h2.symm.trans (h.2 2 (by decide))
        have q3 : x3 = 108 := h3.symm.trans (h.2 3 (by decide))
        have q4 : x4 = 101 := h4.symm.trans (h.2 4 (by decide))
        show (((((0) * 27 + x0 - 96) * 27 + x1 - 96) * 27 + x2 - 96) * 27 + x3 - 96) * 27 + x4 - 96 = (10820876 : Int)
        omega
      · intro h; have h9 : (((((0) * 27 + x0 - 96) * 27 + x1 - 96) * 27 + x2 - 96) * 27 + x3 - 96) * 27 + x4 - 96 = (10820876 : Int) := h
        refine ⟨by show ((5 : Nat) : Int) = p + ((5 : Nat) : Int) - p; omega, fun j hj => ?_⟩
        have hj5 : j < 5 := hj
        rcases (show j = 0 ∨ j = 1 ∨ j = 2 ∨ j = 3 ∨ j = 4 by omega) with rfl | rfl | rfl | rfl | rfl
        · exact h0.trans (show x0 = (116 : Int) by omega)
        · exact h1.trans (show x1 = (105 : Int) by omega)
        · exact h2.trans (show x2 = (116 : Int) by omega)
        · exact h3.trans (show x3 = (108 : Int) by omega)
        · exact h4.trans (show x4 = (101 : Int) by omega)
    · constructor
      · intro h; exact absurd h.1 (by show ¬ ((4 : Nat) : Int) = p + ((5 : Nat) : Int) - p; omega)
      · intro h; exfalso; have h9 : (((((0) * 27 + x0 - 96) * 27 + x1 - 96) * 27 + x2 - 96) * 27 + x3 - 96) * 27 + x4 - 96 = (92275 : Int) := h; omega
    · constructor
      · intro h; exact absurd h.1 (by show ¬ ((4 : Nat) : Int) = p + ((5 : Nat) : Int) - p; omega)
      · intro h; exfalso; have h9 : (((((0) * 27 + x0 - 96) * 27 + x1 - 96) * 27 + x2 - 96) * 27 + x3 - 96) * 27 + x4 - 96 = (400313 : Int) := h; omega
theorem cmO_wix {t : Int → Int} {p : Int} {n : Nat} (hL : n ≤ 5) (hl : ∀ j : Nat, j < n → 97 ≤ t (p + (j : Int)) ∧ t (p + (j : Int)) ≤ 122) : cmO (encW t p n) = if wix t p (p + (n : Int)) < 0 then -1000 else wix t p (p + (n : Int)) := by
  have h : ∀ i, i < 9 → (wok t p (p + (n : Int)) i ↔ encW t p n = cstW i) := fun i hi => wok_enc hL hl hi
  have s : ∀ k i : Nat, wxF t p (p + (n : Int)) (k + 1) i = if wok t p (p + (n : Int)) i then (i : Int) else wxF t p (p + (n : Int)) k (i + 1) := fun _ _ => rfl
  unfold cmO wix

  rw [s 8 0]
  by_cases c0 : encW t p n = 3544025
  · rw [if_pos ((h 0 (by decide)).2 c0), if_pos c0]; rfl
  rw [if_neg (fun q => c0 ((h 0 (by decide)).1 q))]
  rw [s]
  by_cases c1 : encW t p n = 4085899
  · rw [if_pos ((h 1 (by decide)).2 c1), if_neg c0, if_pos c1]; rfl
  rw [if_neg (fun q => c1 ((h 1 (by decide)).1 q))]
  rw [s]
  by_cases c2 : encW t p n = 1887
  · rw [if_pos ((h 2 (by decide)).2 c2), if_neg c0, if_neg c1, if_pos c2]; rfl
  rw [if_neg (fun q => c2 ((h 2 (by decide)).1 q))]
  rw [s]
  by_cases c3 : encW t p n = 40187
  · rw [if_pos ((h 3 (by decide)).2 c3), if_neg c0, if_neg c1, if_neg c2, if_pos c3]; rfl
  rw [if_neg (fun q => c3 ((h 3 (by decide)).1 q))]
  rw [s]
  by_cases c4 : encW t p n = 10160456
  · rw [if_pos ((h 4 (by decide)).2 c4), if_neg c0, if_neg c1, if_neg c2, if_neg c3, if_pos c4]; rfl
  rw [if_neg (fun q => c4 ((h 4 (by decide)).1 q))]
  rw [s]
  by_cases c5 : encW t p n = 14006
  · rw [if_pos ((h 5 (by decide)).2 c5), if_neg c0, if_neg c1, if_neg c2, if_neg c3, if_neg c4, if_pos c5]; rfl
  rw [if_neg (fun q => c5 ((h 5 (by decide)).1 q))]
  rw [s]
  by_cases c6 : encW t p n = 10820876
  · rw [if_pos ((h 6 (by decide)).2 c6), if_neg c0, if_neg c1, if_neg c2, if_neg c3, if_neg c4, if_neg c5, if_pos c6]; rfl
  rw [if_neg (fun q => c6 ((h 6 (by decide)).1 q))]
  rw [s]
  by_cases c7 : encW t p n = 92275
  · rw [if_pos ((h 7 (by decide)).2 c7), if_neg c0, if_neg c1, if_neg c2, if_neg c3, if_neg c4, if_neg c5, if_neg c6, if_pos c7]; rfl
  rw [if_neg (fun q => c7 ((h 7 (by decide)).1 q))]
  rw [s]
  by_cases c8 : encW t p n = 400313
  · rw [if_pos ((h 8 (by decide)).2 c8), if_neg c0, if_neg c1, if_neg c2, if_neg c3, if_neg c4, if_neg c5, if_neg c6, if_neg c7, if_pos c8]; rfl
  rw [if_neg (fun q => c8 ((h 8 (by decide)).1 q))]
  rw [if_neg c0, if_neg c1, if_neg c2, if_neg c3, if_neg c4, if_neg c5, if_neg c6, if_neg c7, if_neg c8]; rfl
