/-! commands on a page -/
def cmF (i : Nat) (v : Nat → Int) (S : MM) : Prop := match i with
  | 0 => (20 ≤ v 0 ∧ v 0 ≤ 200) ∧ (10 ≤ v 1 ∧ v 1 ≤ 120)
  | 1 => gA S (-1000) (v 0) (v 1) (v 2) = 0
  | 2 => gB S (v 0) (v 1) (v 2) (v 3) (v 4) (v 5) = 0
  | 3 => hs S (v 0) ∧ plc (v 1) (v 2) (-(v 3))
  | 4 => ((-20 ≤ -(v 0) ∧ -(v 0) ≤ 0) ∧ (0 ≤ v 1 ∧ v 1 ≤ 20)) ∧ (1 ≤ v 2 ∧ v 2 ≤ 50) ∧ S 11 0 < 8
  | 5 => fSe (v 0) (v 1)
  | 6 => ((0 ≤ v 0 ∧ v 0 ≤ S 0 3 - 1) ∧ (0 ≤ v 1 ∧ v 1 ≤ S 0 4 - 1)) ∧ (1 ≤ v 2 ∧ v 2 ≤ 40)
  | 7 => hs S (v 0)
  | _ => 1 ≤ v 0 ∧ v 0 ≤ 200
def cmA (i : Nat) (v : Nat → Int) (S S1 : MM) : Prop := match i with
  | 0 => S1 = begS S (v 0) (v 1)
  | 1 => S1 = adS S (arS S (-1000)) (-1000) (v 0) (v 1) (v 2) 0 0
  | 2 => S1 = adS S (arS S (v 0)) (v 0) (v 1) (v 2) (v 3) (v 4) (v 5)
  | 3 => S1 = mset (mset (mset S 4 (v 0) (v 1)) 5 (v 0) (v 2)) 6 (v 0) (-(v 3))
  | 4 => S1 = scS S (-(v 0)) (v 1) (v 2)
  | 5 => S1 = mset S 15 (v 0) (v 1)
  | 6 => S1 = mset (mset (mset S 0 5 (v 0)) 0 6 (v 1)) 0 7 (v 2)
  | 7 => Drd S S1 (v 0)
  | _ => S1 = tkSn (v 0).toNat S
theorem if0_iff {P : Prop} [Decidable P] {k : Int} (hk : k ≠ 0) : (if P then (0 : Int) else k) = 0 ↔ P := by
  by_cases q : P
  · rw [if_pos q]; exact ⟨fun _ => q, fun _ => rfl⟩
  · rw [if_neg q]; exact ⟨fun h => absurd h hk, fun h => absurd h q⟩
theorem fP_iff {M : MM} {b : Nat} {n u v w : Int} : fP M b n u v w = 0 ↔ hs (stg M b) n ∧ plc u v w := by
  constructor
  · intro h; exact fP_0 h
  · intro h
    unfold fP
    have h1 : has M b n := h.1
    rw [if_neg (fun q => q h1), if_pos h.2]
theorem fS_iff {M : MM} {b : Nat} {l g t : Int} : fS M b l g t = 0 ↔ ((-20 ≤ l ∧ l ≤ 0) ∧ (0 ≤ g ∧ g ≤ 20)) ∧ (1 ≤ t ∧ t ≤ 50) ∧ stg M b 11 0 < 8 := by
  constructor
  · intro h; exact fS_0 h
  · intro h
    have s : stg M b 11 0 = M (b + 11) 0 := rfl
    rw [s] at h
    unfold fS
    rw [if_pos ⟨h.1, h.2.1⟩, if_neg (by omega)]
theorem fT_iff {M : MM} {b : Nat} {x y l : Int} : fT M b x y l = 0 ↔ ((0 ≤ x ∧ x ≤ stg M b 0 3 - 1) ∧ (0 ≤ y ∧ y ≤ stg M b 0 4 - 1)) ∧ (1 ≤ l ∧ l ≤ 40) := by
  have s3 : stg M b 0 3 = M b 3 := rfl
  have s4 : stg M b 0 4 = M b 4 := rfl
  rw [s3, s4]
  constructor
  · intro h; exact fT_0 h
  · intro h; unfold fT; rw [if_pos h]
theorem tkM_out {M : MM} {b i : Nat} {r : Int} (h : i < b ∨ b + 16 ≤ i) : tkM M b r i = M i := by
  unfold tkM
  dsimp only
  split
  · rw [mset_ne (by omega), mset_ne (by omega), mset_ne (by omega)]
  · rw [mset_ne (by omega)]
theorem tkN_out {M : MM} {b i : Nat} {r : Int} (h : i < b ∨ b + 16 ≤ i) : ∀ k : Nat, tkN b r k M i = M i
  | 0 => rfl
  | k + 1 => (tkM_out h).trans (tkN_out h k)
theorem fSe_w {w v : Int} (h : fSe w v) : 0 ≤ w ∧ w < 4 := by unfold fSe at h; omega
/-- the numbers of a command at c -/
abbrev NBs (M : MM) (c w : Nat) : Prop := ∀ j : Nat, (j : Int) < wnm w → 0 ≤ M (c + 2) j ∧ M (c + 2) j < 1000
-- X4_faultOn
set_option maxHeartbeats 4000000 in
set_option maxRecDepth 100000 in
theorem m_X4_faultOn {E : EE} {K : Nat → Nat} {M : MM} {c b w : Nat} {T : Int} (hc : K c = 4 ∧ K (c + 1) = 1000 + 150 ∧ K (c + 2) = 1000 + 6) (hS : StageK K b) (hW : WF T M b) (hE : ∀ U, SF E U → CF E U) (hw9 : w < 9) (hv : NBs M c w) : CnW E 4 yX4_faultOn cX4_faultOn 3 (some .int) [.ref c, .ref b, .ref (1000000 + w)] K M (fun r K' M2 => K' = K ∧ M2 = M ∧ ∃ f, r = some (vI f) ∧ i32 f ∧ (f = 0 ↔ cmF w (fun j => M (c + 2) j) (stg M b))) 0 0 := by
  refine CnW_of RX4 (by decide) rfl (Nat.le_of_ble_eq_true rfl) (fun X hX hQ hXK hP => ?_)
  refine J_cgets hX hP hXK (v := .ref (1000000 + 11)) (fun ad h => h.ref _) (fun U hU => (hE U hU).swm) fl_RX4_88 dX4_faultOn_0 ?_
  refine J_aload_n hX dX4_faultOn_3 rfl ?_
  refine J_ordinal hX hP hXK hE [.ref (1000000 + 11)] hw9 dX4_faultOn_4 (by decide) (by decide) ?_
  rcases (show w = 0 ∨ w = 1 ∨ w = 2 ∨ w = 3 ∨ w = 4 ∨ w = 5 ∨ w = 6 ∨ w = 7 ∨ w = 8 by omega) with rfl | rfl | rfl | rfl | rfl | rfl | rfl | rfl | rfl
  · have nw : wnm 0 = 2 := rfl
    have hv0 : 0 ≤ M (c + 2) 0 ∧ M (c + 2) 0 < 1000 := hv 0 (by decide)
    have hv1 : 0 ≤ M (c + 2) 1 ∧ M (c + 2) 1 < 1000 := hv 1 (by decide)
    refine J_cti hX hP hXK (v := vI 1) (fun U hU => (hE U hU).tswm) ⟨by decide, by decide⟩ (by decide) (fun _ _ => rfl) dX4_faultOn_7 ?_
    refine J_tin hX (48) 56 dX4_faultOn_8 (by decide) (by decide) rfl (by decide) ?_
    refine J_aload_n hX dX4_faultOn_56 rfl ?_
    refine J_aload_n hX dX4_faultOn_57 rfl ?_
    refine J_gr hX (c + 2) fr_RX4_15 dX4_faultOn_58 (show K (c) = 4 from hc.1) rfl ?_
    refine J_iconst hX dX4_faultOn_61 ?_
    refine J_iald hX dX4_faultOn_62 (show K (c + 2) = 1000 + 6 from hc.2.2) ⟨by omega, by omega⟩ (by decide) (fun r62 => ?_)
    refine J_aload_n hX dX4_faultOn_63 rfl ?_
    refine J_gr hX (c + 2) fr_RX4_15 dX4_faultOn_64 (show K (c) = 4 from hc.1) rfl ?_
    refine J_iconst hX dX4_faultOn_67 ?_
    refine J_iald hX dX4_faultOn_68 (show K (c + 2) = 1000 + 6 from hc.2.2) ⟨by omega, by omega⟩ (by decide) (fun r68 => ?_)
    refine J_callVI hX _ dX4_faultOn_69 cw_RX4_96 (m_X5_faultOfFrame hS (by omega) (by omega)) ⟨(show K (b) = 5 from hS 0 (by decide)), by decide, by decide, rfl⟩ rfl (Nat.le_of_ble_eq_true rfl) (by decide) ⟨Nat.zero_le _, Nat.zero_le _⟩ (fun r69 => ?_)
    exact J_iret hX hQ dX4_faultOn_72 ⟨rfl, rfl, _, rfl, r69, if0_iff (by decide)⟩ (Nat.zero_le _) (Nat.zero_le _)
  · have nw : wnm 1 = 3 := rfl
    have hv0 : 0 ≤ M (c + 2) 0 ∧ M (c + 2) 0 < 1000 := hv 0 (by decide)
    have hv1 : 0 ≤ M (c + 2) 1 ∧ M (c + 2) 1 < 1000 := hv 1 (by decide)
    have hv2 : 0 ≤ M (c + 2) 2 ∧ M (c + 2) 2 < 1000 := hv 2 (by decide)
    refine J_cti hX hP hXK (v := vI 2) (fun U hU => (hE U hU).tswm) ⟨by decide, by decide⟩ (by decide) (fun _ _ => rfl) dX4_faultOn_7 ?_
    refine J_tin hX (65) 73 dX4_faultOn_8 (by decide) (by decide) rfl (by decide) ?_
    refine J_aload_n hX dX4_faultOn_73 rfl ?_
    refine J_gr hX (b + 1) fr_RX4_102 dX4_faultOn_74 (show K (b) = 5 from hS 0 (by decide)) rfl ?_
    refine J_sipush hX dX4_faultOn_77 rfl ?_
    refine J_aload_n hX dX4_faultOn_80 rfl ?_
    refine J_gr hX (c + 2) fr_RX4_15 dX4_faultOn_81 (show K (c) = 4 from hc.1) rfl ?_
    refine J_iconst hX dX4_faultOn_84 ?_
    refine J_iald hX dX4_faultOn_85 (show K (c + 2) = 1000 + 6 from hc.2.2) ⟨by omega, by omega⟩ (by decide) (fun r85 => ?_)
    refine J_aload_n hX dX4_faultOn_86 rfl ?_
    refine J_gr hX (c + 2) fr_RX4_15 dX4_faultOn_87 (show K (c) = 4 from hc.1) rfl ?_
    refine J_iconst hX dX4_faultOn_90 ?_
    refine J_iald hX dX4_faultOn_91 (show K (c + 2) = 1000 + 6 from hc.2.2) ⟨by omega, by omega⟩ (by decide) (fun r91 => ?_)
    refine J_aload_n hX dX4_faultOn_92 rfl ?_
    refine J_gr hX (c + 2) fr_RX4_15 dX4_faultOn_93 (show K (c) = 4 from hc.1) rfl ?_
    refine J_iconst hX dX4_faultOn_96 ?_
    refine J_iald hX dX4_faultOn_97 (show K (c + 2) = 1000 + 6 from hc.2.2) ⟨by omega, by omega⟩ (by decide) (fun r97 => ?_)
    refine J_callVI hX _ dX4_faultOn_98 cw_RX4_106 (m_X6_faultOfGroup hS hW (by omega) (by omega) (by omega) (by omega)) ⟨(show K (b + 1) = 6 from hS 1 (by decide)), by decide, by decide, rfl⟩ rfl (Nat.le_of_ble_eq_true rfl) (by decide) ⟨Nat.zero_le _, Nat.zero_le _⟩ (fun r98 => ?_)
    exact J_iret hX hQ dX4_faultOn_101 ⟨rfl, rfl, _, rfl, r98, Iff.rfl⟩ (Nat.zero_le _) (Nat.zero_le _)
  · have nw : wnm 2 = 6 := rfl
    have hv0 : 0 ≤ M (c + 2) 0 ∧ M (c + 2) 0 < 1000 := hv 0 (by decide)
    have hv1 : 0 ≤ M (c + 2) 1 ∧ M (c + 2) 1 < 1000 := hv 1 (by decide)
    have hv2 : 0 ≤ M (c + 2) 2 ∧ M (c + 2) 2 < 1000 := hv 2 (by decide)
    have hv3 : 0 ≤ M (c + 2) 3 ∧ M (c + 2) 3 < 1000 := hv 3 (by decide)
    have hv4 : 0 ≤ M (c + 2) 4 ∧ M (c + 2) 4 < 1000 := hv 4 (by decide)
    have hv5 : 0 ≤ M (c + 2) 5 ∧ M (c + 2) 5 < 1000 := hv 5 (by decide)
    refine J_cti hX hP hXK (v := vI 3) (fun U hU => (hE U hU).tswm) ⟨by decide, by decide⟩ (by decide) (fun _ _ => rfl) dX4_faultOn_7 ?_
    refine J_tin hX (94) 102 dX4_faultOn_8 (by decide) (by decide) rfl (by decide) ?_
    refine J_aload_n hX dX4_faultOn_102 rfl ?_
    refine J_gr hX (b + 1) fr_RX4_102 dX4_faultOn_103 (show K (b) = 5 from hS 0 (by decide)) rfl ?_
    refine J_aload_n hX dX4_faultOn_106 rfl ?_
    refine J_gr hX (c + 2) fr_RX4_15 dX4_faultOn_107 (show K (c) = 4 from hc.1) rfl ?_
    refine J_iconst hX dX4_faultOn_110 ?_
    refine J_iald hX dX4_faultOn_111 (show K (c + 2) = 1000 + 6 from hc.2.2) ⟨by omega, by omega⟩ (by decide) (fun r111 => ?_)
    refine J_aload_n hX dX4_faultOn_112 rfl ?_
    refine J_gr hX (c + 2) fr_RX4_15 dX4_faultOn_113 (show K (c) = 4 from hc.1) rfl ?_
    refine J_iconst hX dX4_faultOn_116 ?_
    refine J_iald hX dX4_faultOn_117 (show K (c + 2) = 1000 + 6 from hc.2.2) ⟨by omega, by omega⟩ (by decide) (fun r117 => ?_)
    refine J_aload_n hX dX4_faultOn_118 rfl ?_
    refine J_gr hX (c + 2) fr_RX4_15 dX4_faultOn_119 (show K (c) = 4 from hc.1) rfl ?_
    refine J_iconst hX dX4_faultOn_122 ?_
    refine J_iald hX dX4_faultOn_123 (show K (c + 2) = 1000 + 6 from hc.2.2) ⟨by omega, by omega⟩ (by decide) (fun r123 => ?_)
    refine J_aload_n hX dX4_faultOn_124 rfl ?_
    refine J_gr hX (c + 2) fr_RX4_15 dX4_faultOn_125 (show K (c) = 4 from hc.1) rfl ?_
    refine J_iconst hX dX4_faultOn_128 ?_
    refine J_iald hX dX4_faultOn_129 (show K (c + 2) = 1000 + 6 from hc.2.2) ⟨by omega, by omega⟩ (by decide) (fun r129 => ?_)
    refine J_aload_n hX dX4_faultOn_130 rfl ?_
    refine J_gr hX (c + 2) fr_RX4_15 dX4_faultOn_131 (show K (c) = 4 from hc.1) rfl ?_
    refine J_iconst hX dX4_faultOn_134 ?_
    refine J_iald hX dX4_faultOn_135 (show K (c + 2) = 1000 + 6 from hc.2.2) ⟨by omega, by omega⟩ (by decide) (fun r135 => ?_)
    refine J_aload_n hX dX4_faultOn_136 rfl ?_
    refine J_gr hX (c + 2) fr_RX4_15 dX4_faultOn_137 (show K (c) = 4 from hc.1) rfl ?_
    refine J_iconst hX dX4_faultOn_140 ?_
    refine J_iald hX dX4_faultOn_141 (show K (c + 2) = 1000 + 6 from hc.2.2) ⟨by omega, by omega⟩ (by decide) (fun r141 => ?_)
    refine J_callVI hX _ dX4_faultOn_142 cw_RX4_112 (m_X6_faultOfBox hS hW (by omega) (by omega) (by omega) (by omega) (by omega) (by omega)) ⟨(show K (b + 1) = 6 from hS 1 (by decide)), by decide, by decide, rfl⟩ rfl (Nat.le_of_ble_eq_true rfl) (by decide) ⟨Nat.zero_le _, Nat.zero_le _⟩ (fun r142 => ?_)
    exact J_iret hX hQ dX4_faultOn_145 ⟨rfl, rfl, _, rfl, r142, Iff.rfl⟩ (Nat.zero_le _) (Nat.zero_le _)
  · have nw : wnm 3 = 4 := rfl
    have hv0 : 0 ≤ M (c + 2) 0 ∧ M (c + 2) 0 < 1000 := hv 0 (by decide)
    have hv1 : 0 ≤ M (c + 2) 1 ∧ M (c + 2) 1 < 1000 := hv 1 (by decide)
    have hv2 : 0 ≤ M (c + 2) 2 ∧ M (c + 2) 2 < 1000 := hv 2 (by decide)
    have hv3 : 0 ≤ M (c + 2) 3 ∧ M (c + 2) 3 < 1000 := hv 3 (by decide)
    refine J_cti hX hP hXK (v := vI 4) (fun U hU => (hE U hU).tswm) ⟨by decide, by decide⟩ (by decide) (fun _ _ => rfl) dX4_faultOn_7 ?_
    refine J_tin hX (138) 146 dX4_faultOn_8 (by decide) (by decide) rfl (by decide) ?_
    refine J_aload_n hX dX4_faultOn_146 rfl ?_
    refine J_gr hX (b + 1) fr_RX4_102 dX4_faultOn_147 (show K (b) = 5 from hS 0 (by decide)) rfl ?_
    refine J_aload_n hX dX4_faultOn_150 rfl ?_
    refine J_gr hX (c + 2) fr_RX4_15 dX4_faultOn_151 (show K (c) = 4 from hc.1) rfl ?_
    refine J_iconst hX dX4_faultOn_154 ?_
    refine J_iald hX dX4_faultOn_155 (show K (c + 2) = 1000 + 6 from hc.2.2) ⟨by omega, by omega⟩ (by decide) (fun r155 => ?_)
    refine J_aload_n hX dX4_faultOn_156 rfl ?_
    refine J_gr hX (c + 2) fr_RX4_15 dX4_faultOn_157 (show K (c) = 4 from hc.1) rfl ?_
    refine J_iconst hX dX4_faultOn_160 ?_
    refine J_iald hX dX4_faultOn_161 (show K (c + 2) = 1000 + 6 from hc.2.2) ⟨by omega, by omega⟩ (by decide) (fun r161 => ?_)
    refine J_aload_n hX dX4_faultOn_162 rfl ?_
    refine J_gr hX (c + 2) fr_RX4_15 dX4_faultOn_163 (show K (c) = 4 from hc.1) rfl ?_
    refine J_iconst hX dX4_faultOn_166 ?_
    refine J_iald hX dX4_faultOn_167 (show K (c + 2) = 1000 + 6 from hc.2.2) ⟨by omega, by omega⟩ (by decide) (fun r167 => ?_)
    refine J_aload_n hX dX4_faultOn_168 rfl ?_
    refine J_gr hX (c + 2) fr_RX4_15 dX4_faultOn_169 (show K (c) = 4 from hc.1) rfl ?_
    refine J_iconst hX dX4_faultOn_172 ?_
    refine J_iald hX dX4_faultOn_173 (show K (c + 2) = 1000 + 6 from hc.2.2) ⟨by omega, by omega⟩ (by decide) (fun r173 => ?_)
    refine J_ineg hX dX4_faultOn_174 ?_
    refine J_callVI hX _ dX4_faultOn_175 cw_RX4_116 (m_X6_faultOfPlacing hS (by omega) (by omega) (by omega) (by omega)) ⟨(show K (b + 1) = 6 from hS 1 (by decide)), by decide, by decide, rfl⟩ rfl (Nat.le_of_ble_eq_true rfl) (by decide) ⟨Nat.zero_le _, Nat.zero_le _⟩ (fun r175 => ?_)
    exact J_iret hX hQ dX4_faultOn_178 ⟨rfl, rfl, _, rfl, r175, fP_iff⟩ (Nat.zero_le _) (Nat.zero_le _)
  · have nw : wnm 4 = 3 := rfl
    have hv0 : 0 ≤ M (c + 2) 0 ∧ M (c + 2) 0 < 1000 := hv 0 (by decide)
    have hv1 : 0 ≤ M (c + 2) 1 ∧ M (c + 2) 1 < 1000 := hv 1 (by decide)
    have hv2 : 0 ≤ M (c + 2) 2 ∧ M (c + 2) 2 < 1000 := hv 2 (by decide)
    refine J_cti hX hP hXK (v := vI 5) (fun U hU => (hE U hU).tswm) ⟨by decide, by decide⟩ (by decide) (fun _ _ => rfl) dX4_faultOn_7 ?_
    refine J_tin hX (171) 179 dX4_faultOn_8 (by decide) (by decide) rfl (by decide) ?_
    refine J_aload_n hX dX4_faultOn_179 rfl ?_
    refine J_gr hX (b + 11) fr_RX4_119 dX4_faultOn_180 (show K (b) = 5 from hS 0 (by decide)) rfl ?_
    refine J_aload_n hX dX4_faultOn_183 rfl ?_
    refine J_gr hX (c + 2) fr_RX4_15 dX4_faultOn_184 (show K (c) = 4 from hc.1) rfl ?_
    refine J_iconst hX dX4_faultOn_187 ?_
    refine J_iald hX dX4_faultOn_188 (show K (c + 2) = 1000 + 6 from hc.2.2) ⟨by omega, by omega⟩ (by decide) (fun r188 => ?_)
    refine J_ineg hX dX4_faultOn_189 ?_
    refine J_aload_n hX dX4_faultOn_190 rfl ?_
    refine J_gr hX (c + 2) fr_RX4_15 dX4_faultOn_191 (show K (c) = 4 from hc.1) rfl ?_
    refine J_iconst hX dX4_faultOn_194 ?_
    refine J_iald hX dX4_faultOn_195 (show K (c + 2) = 1000 + 6 from hc.2.2) ⟨by omega, by omega⟩ (by decide) (fun r195 => ?_)
    refine J_aload_n hX dX4_faultOn_196 rfl ?_
    refine J_gr hX (c + 2) fr_RX4_15 dX4_faultOn_197 (show K (c) = 4 from hc.1) rfl ?_
    refine J_iconst hX dX4_faultOn_200 ?_
    refine J_iald hX dX4_faultOn_201 (show K (c + 2) = 1000 + 6 from hc.2.2) ⟨by omega, by omega⟩ (by decide) (fun r201 => ?_)
    refine J_callVI hX _ dX4_faultOn_202 cw_RX4_123 (m_X3_faultOfScene hS (by omega) (by omega) (by omega)) ⟨(show K (b + 11) = 3 from hS 11 (by decide)), by decide, by decide, rfl⟩ rfl (Nat.le_of_ble_eq_true rfl) (by decide) ⟨Nat.zero_le _, Nat.zero_le _⟩ (fun r202 => ?_)
    exact J_iret hX hQ dX4_faultOn_205 ⟨rfl, rfl, _, rfl, r202, fS_iff⟩ (Nat.zero_le _) (Nat.zero_le _)
  · have nw : wnm 5 = 2 := rfl
    have hv0 : 0 ≤ M (c + 2) 0 ∧ M (c + 2) 0 < 1000 := hv 0 (by decide)
    have hv1 : 0 ≤ M (c + 2) 1 ∧ M (c + 2) 1 < 1000 := hv 1 (by decide)
    refine J_cti hX hP hXK (v := vI 6) (fun U hU => (hE U hU).tswm) ⟨by decide, by decide⟩ (by decide) (fun _ _ => rfl) dX4_faultOn_7 ?_
    refine J_tin hX (198) 206 dX4_faultOn_8 (by decide) (by decide) rfl (by decide) ?_
    refine J_aload_n hX dX4_faultOn_206 rfl ?_
    refine J_aload_n hX dX4_faultOn_207 rfl ?_
    refine J_gr hX (c + 2) fr_RX4_15 dX4_faultOn_208 (show K (c) = 4 from hc.1) rfl ?_
    refine J_iconst hX dX4_faultOn_211 ?_
    refine J_iald hX dX4_faultOn_212 (show K (c + 2) = 1000 + 6 from hc.2.2) ⟨by omega, by omega⟩ (by decide) (fun r212 => ?_)
    refine J_aload_n hX dX4_faultOn_213 rfl ?_
    refine J_gr hX (c + 2) fr_RX4_15 dX4_faultOn_214 (show K (c) = 4 from hc.1) rfl ?_
    refine J_iconst hX dX4_faultOn_217 ?_
    refine J_iald hX dX4_faultOn_218 (show K (c + 2) = 1000 + 6 from hc.2.2) ⟨by omega, by omega⟩ (by decide) (fun r218 => ?_)
    refine J_callVWv hX hP hXK [] dX4_faultOn_219 cw_RX4_129 (As := [vI (M (c + 2) 0), vI (M (c + 2) 1)]) (mW_X5_faultOfSetting hS hE (by omega) (by omega)) ⟨(show K b = 5 from hS 0 (by decide)), by decide, by decide, rfl⟩ rfl (Nat.le_of_ble_eq_true rfl) ⟨Nat.le_of_ble_eq_true rfl, by decide⟩ ⟨Nat.le_refl _, Nat.le_refl _⟩ ?_
    have r219 : i32 (if fSe (M (c + 2) 0) (M (c + 2) 1) then 0 else 2) := by split <;> decide
    exact J_iret hX hQ dX4_faultOn_222 ⟨rfl, rfl, _, rfl, r219, if0_iff (by decide)⟩ (Nat.zero_le _) (Nat.zero_le _)
  · have nw : wnm 6 = 3 := rfl
    have hv0 : 0 ≤ M (c + 2) 0 ∧ M (c + 2) 0 < 1000 := hv 0 (by decide)
    have hv1 : 0 ≤ M (c + 2) 1 ∧ M (c + 2) 1 < 1000 := hv 1 (by decide)
    have hv2 : 0 ≤ M (c + 2) 2 ∧ M (c + 2) 2 < 1000 := hv 2 (by decide)
    refine J_cti hX hP hXK (v := vI 7) (fun U hU => (hE U hU).tswm) ⟨by decide, by decide⟩ (by decide) (fun _ _ => rfl) dX4_faultOn_7 ?_
    refine J_tin hX (215) 223 dX4_faultOn_8 (by decide) (by decide) rfl (by decide) ?_
    refine J_aload_n hX dX4_faultOn_223 rfl ?_
    refine J_aload_n hX dX4_faultOn_224 rfl ?_
    refine J_gr hX (c + 2) fr_RX4_15 dX4_faultOn_225 (show K (c) = 4 from hc.1) rfl ?_
    refine J_iconst hX dX4_faultOn_228 ?_
    refine J_iald hX dX4_faultOn_229 (show K (c + 2) = 1000 + 6 from hc.2.2) ⟨by omega, by omega⟩ (by decide) (fun r229 => ?_)
    refine J_aload_n hX dX4_faultOn_230 rfl ?_
    refine J_gr hX (c + 2) fr_RX4_15 dX4_faultOn_231 (show K (c) = 4 from hc.1) rfl ?_
    refine J_iconst hX dX4_faultOn_234 ?_
    refine J_iald hX dX4_faultOn_235 (show K (c + 2) = 1000 + 6 from hc.2.2) ⟨by omega, by omega⟩ (by decide) (fun r235 => ?_)
    refine J_aload_n hX dX4_faultOn_236 rfl ?_
    refine J_gr hX (c + 2) fr_RX4_15 dX4_faultOn_237 (show K (c) = 4 from hc.1) rfl ?_
    refine J_iconst hX dX4_faultOn_240 ?_
    refine J_iald hX dX4_faultOn_241 (show K (c + 2) = 1000 + 6 from hc.2.2) ⟨by omega, by omega⟩ (by decide) (fun r241 => ?_)
    refine J_callVI hX _ dX4_faultOn_242 cw_RX4_132 (m_X5_faultOfTitle hS hW (by omega) (by omega) (by omega)) ⟨(show K (b) = 5 from hS 0 (by decide)), by decide, by decide, rfl⟩ rfl (Nat.le_of_ble_eq_true rfl) (by decide) ⟨Nat.zero_le _, Nat.zero_le _⟩ (fun r242 => ?_)
    exact J_iret hX hQ dX4_faultOn_245 ⟨rfl, rfl, _, rfl, r242, fT_iff⟩ (Nat.zero_le _) (Nat.zero_le _)
  · have nw : wnm 7 = 1 := rfl
    have hv0 : 0 ≤ M (c + 2) 0 ∧ M (c + 2) 0 < 1000 := hv 0 (by decide)
    refine J_cti hX hP hXK (v := vI 8) (fun U hU => (hE U hU).tswm) ⟨by decide, by decide⟩ (by decide) (fun _ _ => rfl) dX4_faultOn_7 ?_
    refine J_tin hX (238) 246 dX4_faultOn_8 (by decide) (by decide) rfl (by decide) ?_
    refine J_aload_n hX dX4_faultOn_246 rfl ?_
    refine J_gr hX (b + 1) fr_RX4_102 dX4_faultOn_247 (show K (b) = 5 from hS 0 (by decide)) rfl ?_
    refine J_aload_n hX dX4_faultOn_250 rfl ?_
    refine J_gr hX (c + 2) fr_RX4_15 dX4_faultOn_251 (show K (c) = 4 from hc.1) rfl ?_
    refine J_iconst hX dX4_faultOn_254 ?_
    refine J_iald hX dX4_faultOn_255 (show K (c + 2) = 1000 + 6 from hc.2.2) ⟨by omega, by omega⟩ (by decide) (fun r255 => ?_)
    refine J_callVI hX _ dX4_faultOn_256 cw_RX4_135 (m_X6_faultOfNumber hS (by omega)) ⟨(show K (b + 1) = 6 from hS 1 (by decide)), by decide, by decide, rfl⟩ rfl (Nat.le_of_ble_eq_true rfl) (by decide) ⟨Nat.zero_le _, Nat.zero_le _⟩ (fun r256 => ?_)
    exact J_iret hX hQ dX4_faultOn_259 ⟨rfl, rfl, _, rfl, r256, if0_iff (by decide)⟩ (Nat.zero_le _) (Nat.zero_le _)
  · have nw : wnm 8 = 1 := rfl
    have hv0 : 0 ≤ M (c + 2) 0 ∧ M (c + 2) 0 < 1000 := hv 0 (by decide)
    refine J_cti hX hP hXK (v := vI 0) (fun U hU => (hE U hU).tswm) ⟨by decide, by decide⟩ (by decide) (fun _ _ => rfl) dX4_faultOn_7 ?_
    refine J_tout hX 260 dX4_faultOn_8 (by decide) (by decide) (by decide) ?_
    refine J_aload_n hX dX4_faultOn_260 rfl ?_
    refine J_aload_n hX dX4_faultOn_261 rfl ?_
    refine J_gr hX (c + 2) fr_RX4_15 dX4_faultOn_262 (show K (c) = 4 from hc.1) rfl ?_
    refine J_iconst hX dX4_faultOn_265 ?_
    refine J_iald hX dX4_faultOn_266 (show K (c + 2) = 1000 + 6 from hc.2.2) ⟨by omega, by omega⟩ (by decide) (fun r266 => ?_)
    refine J_callVI hX _ dX4_faultOn_267 cw_RX4_138 (m_X5_faultOfTicks hS (by omega)) ⟨(show K (b) = 5 from hS 0 (by decide)), by decide, by decide, rfl⟩ rfl (Nat.le_of_ble_eq_true rfl) (by decide) ⟨Nat.zero_le _, Nat.zero_le _⟩ (fun r267 => ?_)
    exact J_iret hX hQ dX4_faultOn_270 ⟨rfl, rfl, _, rfl, r267, if0_iff (by decide)⟩ (Nat.zero_le _) (Nat.zero_le _)
-- X4_applyTo
set_option maxHeartbeats 4000000 in
set_option maxRecDepth 100000 in
theorem m_X4_applyTo {E : EE} {K : Nat → Nat} {M : MM} {c b w : Nat} {T : Int} (hc : K c = 4 ∧ K (c + 1) = 1000 + 150 ∧ K (c + 2) = 1000 + 6) (hS : StageK K b) (hW : WF T M b) (hE : ∀ U, SF E U → CF E U) (hw9 : w < 9) (hv : NBs M c w) (hf : cmF w (fun j => M (c + 2) j) (stg M b)) (hT : T + 200 ≤ 1000000000) : CnW E 4 yX4_applyTo cX4_applyTo 3 none [.ref c, .ref b, .ref (1000000 + w)] K M (fun r K' M2 => K' = K ∧ r = none ∧ cmA w (fun j => M (c + 2) j) (stg M b) (stg M2 b) ∧ ∀ i, i < b ∨ b + 16 ≤ i → M2 i = M i) 0 0 := by
  refine CnW_of RX4 (by decide) rfl (Nat.le_of_ble_eq_true rfl) (fun X hX hQ hXK hP => ?_)
  refine J_cgets hX hP hXK (v := .ref (1000000 + 11)) (fun ad h => h.ref _) (fun U hU => (hE U hU).swm) fl_RX4_88 dX4_applyTo_0 ?_
  refine J_aload_n hX dX4_applyTo_3 rfl ?_
  refine J_ordinal hX hP hXK hE [.ref (1000000 + 11)] hw9 dX4_applyTo_4 (by decide) (by decide) ?_
  rcases (show w = 0 ∨ w = 1 ∨ w = 2 ∨ w = 3 ∨ w = 4 ∨ w = 5 ∨ w = 6 ∨ w = 7 ∨ w = 8 by omega) with rfl | rfl | rfl | rfl | rfl | rfl | rfl | rfl | rfl
  · have nw : wnm 0 = 2 := rfl
    have hv0 : 0 ≤ M (c + 2) 0 ∧ M (c + 2) 0 < 1000 := hv 0 (by decide)
    have hv1 : 0 ≤ M (c + 2) 1 ∧ M (c + 2) 1 < 1000 := hv 1 (by decide)
    refine J_cti hX hP hXK (v := vI 1) (fun U hU => (hE U hU).tswm) ⟨by decide, by decide⟩ (by decide) (fun _ _ => rfl) dX4_applyTo_7 ?_
    refine J_tin hX (48) 56 dX4_applyTo_8 (by decide) (by decide) rfl (by decide) ?_
    refine J_aload_n hX dX4_applyTo_56 rfl ?_
    refine J_aload_n hX dX4_applyTo_57 rfl ?_
    refine J_gr hX (c + 2) fr_RX4_15 dX4_applyTo_58 (show K (c) = 4 from hc.1) rfl ?_
    refine J_iconst hX dX4_applyTo_61 ?_
    refine J_iald hX dX4_applyTo_62 (show K (c + 2) = 1000 + 6 from hc.2.2) ⟨by omega, by omega⟩ (by decide) (fun r62 => ?_)
    refine J_aload_n hX dX4_applyTo_63 rfl ?_
    refine J_gr hX (c + 2) fr_RX4_15 dX4_applyTo_64 (show K (c) = 4 from hc.1) rfl ?_
    refine J_iconst hX dX4_applyTo_67 ?_
    refine J_iald hX dX4_applyTo_68 (show K (c + 2) = 1000 + 6 from hc.2.2) ⟨by omega, by omega⟩ (by decide) (fun r68 => ?_)
    refine J_callVM hX _ dX4_applyTo_69 cw_RX4_141 (m_X5_reframe hS (by omega) (by omega)) ⟨(show K (b) = 5 from hS 0 (by decide)), by decide, by decide, rfl⟩ rfl (Nat.le_of_ble_eq_true rfl) (by decide) ⟨Nat.zero_le _, Nat.zero_le _⟩ (fun r9 M69 q69 => ?_)
    obtain ⟨rfl, rfl⟩ := q69
    refine J_pop hX dX4_applyTo_72 rfl ?_
    refine J_goto hX 295 dX4_applyTo_73 (by decide) ?_
    exact J_vret hX hQ dX4_applyTo_295 ⟨rfl, rfl, stg_beg, fun i hi => by unfold begM clM; (repeat rw [mset_ne (by omega)])⟩ (Nat.zero_le _) (Nat.zero_le _)
  · have nw : wnm 1 = 3 := rfl
    have hv0 : 0 ≤ M (c + 2) 0 ∧ M (c + 2) 0 < 1000 := hv 0 (by decide)
    have hv1 : 0 ≤ M (c + 2) 1 ∧ M (c + 2) 1 < 1000 := hv 1 (by decide)
    have hv2 : 0 ≤ M (c + 2) 2 ∧ M (c + 2) 2 < 1000 := hv 2 (by decide)
    refine J_cti hX hP hXK (v := vI 2) (fun U hU => (hE U hU).tswm) ⟨by decide, by decide⟩ (by decide) (fun _ _ => rfl) dX4_applyTo_7 ?_
    refine J_tin hX (68) 76 dX4_applyTo_8 (by decide) (by decide) rfl (by decide) ?_
    refine J_aload_n hX dX4_applyTo_76 rfl ?_
    refine J_gr hX (b + 1) fr_RX4_102 dX4_applyTo_77 (show K (b) = 5 from hS 0 (by decide)) rfl ?_
    refine J_sipush hX dX4_applyTo_80 rfl ?_
    refine J_aload_n hX dX4_applyTo_83 rfl ?_
    refine J_gr hX (c + 2) fr_RX4_15 dX4_applyTo_84 (show K (c) = 4 from hc.1) rfl ?_
    refine J_iconst hX dX4_applyTo_87 ?_
    refine J_iald hX dX4_applyTo_88 (show K (c + 2) = 1000 + 6 from hc.2.2) ⟨by omega, by omega⟩ (by decide) (fun r88 => ?_)
    refine J_aload_n hX dX4_applyTo_89 rfl ?_
    refine J_gr hX (c + 2) fr_RX4_15 dX4_applyTo_90 (show K (c) = 4 from hc.1) rfl ?_
    refine J_iconst hX dX4_applyTo_93 ?_
    refine J_iald hX dX4_applyTo_94 (show K (c + 2) = 1000 + 6 from hc.2.2) ⟨by omega, by omega⟩ (by decide) (fun r94 => ?_)
    refine J_aload_n hX dX4_applyTo_95 rfl ?_
    refine J_gr hX (c + 2) fr_RX4_15 dX4_applyTo_96 (show K (c) = 4 from hc.1) rfl ?_
    refine J_iconst hX dX4_applyTo_99 ?_
    refine J_iald hX dX4_applyTo_100 (show K (c + 2) = 1000 + 6 from hc.2.2) ⟨by omega, by omega⟩ (by decide) (fun r100 => ?_)
    refine J_callVM hX _ dX4_applyTo_101 cw_RX4_144 (m_X6_appendGroup hS hW (fG_0 (show fG M b (-1000) (M (c + 2) 0) (M (c + 2) 1) (M (c + 2) 2) = 0 from hf)).2.2.2.1 (by decide) (by omega) (by omega) (by omega)) ⟨(show K (b + 1) = 6 from hS 1 (by decide)), by decide, by decide, rfl⟩ rfl (Nat.le_of_ble_eq_true rfl) (by decide) ⟨Nat.zero_le _, Nat.zero_le _⟩ (fun r9 M101 q101 => ?_)
    obtain ⟨rfl, rfl⟩ := q101
    refine J_pop hX dX4_applyTo_104 rfl ?_
    refine J_goto hX 295 dX4_applyTo_105 (by decide) ?_
    exact J_vret hX hQ dX4_applyTo_295 ⟨rfl, rfl, stg_add, fun i hi => by unfold addM; (repeat rw [mset_ne (by omega)])⟩ (Nat.zero_le _) (Nat.zero_le _)
  · have nw : wnm 2 = 6 := rfl
    have hv0 : 0 ≤ M (c + 2) 0 ∧ M (c + 2) 0 < 1000 := hv 0 (by decide)
    have hv1 : 0 ≤ M (c + 2) 1 ∧ M (c + 2) 1 < 1000 := hv 1 (by decide)
    have hv2 : 0 ≤ M (c + 2) 2 ∧ M (c + 2) 2 < 1000 := hv 2 (by decide)
    have hv3 : 0 ≤ M (c + 2) 3 ∧ M (c + 2) 3 < 1000 := hv 3 (by decide)
    have hv4 : 0 ≤ M (c + 2) 4 ∧ M (c + 2) 4 < 1000 := hv 4 (by decide)
    have hv5 : 0 ≤ M (c + 2) 5 ∧ M (c + 2) 5 < 1000 := hv 5 (by decide)
    refine J_cti hX hP hXK (v := vI 3) (fun U hU => (hE U hU).tswm) ⟨by decide, by decide⟩ (by decide) (fun _ _ => rfl) dX4_applyTo_7 ?_
    refine J_tin hX (100) 108 dX4_applyTo_8 (by decide) (by decide) rfl (by decide) ?_
    refine J_aload_n hX dX4_applyTo_108 rfl ?_
    refine J_gr hX (b + 1) fr_RX4_102 dX4_applyTo_109 (show K (b) = 5 from hS 0 (by decide)) rfl ?_
    refine J_aload_n hX dX4_applyTo_112 rfl ?_
    refine J_gr hX (c + 2) fr_RX4_15 dX4_applyTo_113 (show K (c) = 4 from hc.1) rfl ?_
    refine J_iconst hX dX4_applyTo_116 ?_
    refine J_iald hX dX4_applyTo_117 (show K (c + 2) = 1000 + 6 from hc.2.2) ⟨by omega, by omega⟩ (by decide) (fun r117 => ?_)
    refine J_aload_n hX dX4_applyTo_118 rfl ?_
    refine J_gr hX (c + 2) fr_RX4_15 dX4_applyTo_119 (show K (c) = 4 from hc.1) rfl ?_
    refine J_iconst hX dX4_applyTo_122 ?_
    refine J_iald hX dX4_applyTo_123 (show K (c + 2) = 1000 + 6 from hc.2.2) ⟨by omega, by omega⟩ (by decide) (fun r123 => ?_)
    refine J_aload_n hX dX4_applyTo_124 rfl ?_
    refine J_gr hX (c + 2) fr_RX4_15 dX4_applyTo_125 (show K (c) = 4 from hc.1) rfl ?_
    refine J_iconst hX dX4_applyTo_128 ?_
    refine J_iald hX dX4_applyTo_129 (show K (c + 2) = 1000 + 6 from hc.2.2) ⟨by omega, by omega⟩ (by decide) (fun r129 => ?_)
    refine J_aload_n hX dX4_applyTo_130 rfl ?_
    refine J_gr hX (c + 2) fr_RX4_15 dX4_applyTo_131 (show K (c) = 4 from hc.1) rfl ?_
    refine J_iconst hX dX4_applyTo_134 ?_
    refine J_iald hX dX4_applyTo_135 (show K (c + 2) = 1000 + 6 from hc.2.2) ⟨by omega, by omega⟩ (by decide) (fun r135 => ?_)
    refine J_aload_n hX dX4_applyTo_136 rfl ?_
    refine J_gr hX (c + 2) fr_RX4_15 dX4_applyTo_137 (show K (c) = 4 from hc.1) rfl ?_
    refine J_iconst hX dX4_applyTo_140 ?_
    refine J_iald hX dX4_applyTo_141 (show K (c + 2) = 1000 + 6 from hc.2.2) ⟨by omega, by omega⟩ (by decide) (fun r141 => ?_)
    refine J_aload_n hX dX4_applyTo_142 rfl ?_
    refine J_gr hX (c + 2) fr_RX4_15 dX4_applyTo_143 (show K (c) = 4 from hc.1) rfl ?_
    refine J_iconst hX dX4_applyTo_146 ?_
    refine J_iald hX dX4_applyTo_147 (show K (c + 2) = 1000 + 6 from hc.2.2) ⟨by omega, by omega⟩ (by decide) (fun r147 => ?_)
    refine J_callVM hX _ dX4_applyTo_148 cw_RX4_147 (m_X6_appendBox hS hW (fG_0 (fB_0 (show fB M b (M (c + 2) 0) (M (c + 2) 1) (M (c + 2) 2) (M (c + 2) 3) (M (c + 2) 4) (M (c + 2) 5) = 0 from hf)).1).2.2.2.1 (by omega) (by omega) (by omega) (by omega) (by omega) (by omega)) ⟨(show K (b + 1) = 6 from hS 1 (by decide)), by decide, by decide, rfl⟩ rfl (Nat.le_of_ble_eq_true rfl) (by decide) ⟨Nat.zero_le _, Nat.zero_le _⟩ (fun r9 M148 q148 => ?_)
    obtain ⟨rfl, rfl⟩ := q148
    refine J_pop hX dX4_applyTo_151 rfl ?_
    refine J_goto hX 295 dX4_applyTo_152 (by decide) ?_
    exact J_vret hX hQ dX4_applyTo_295 ⟨rfl, rfl, stg_add, fun i hi => by unfold addM; (repeat rw [mset_ne (by omega)])⟩ (Nat.zero_le _) (Nat.zero_le _)
  · have nw : wnm 3 = 4 := rfl
    have hv0 : 0 ≤ M (c + 2) 0 ∧ M (c + 2) 0 < 1000 := hv 0 (by decide)
    have hv1 : 0 ≤ M (c + 2) 1 ∧ M (c + 2) 1 < 1000 := hv 1 (by decide)
    have hv2 : 0 ≤ M (c + 2) 2 ∧ M (c + 2) 2 < 1000 := hv 2 (by decide)
    have hv3 : 0 ≤ M (c + 2) 3 ∧ M (c + 2) 3 < 1000 := hv 3 (by decide)
    refine J_cti hX hP hXK (v := vI 4) (fun U hU => (hE U hU).tswm) ⟨by decide, by decide⟩ (by decide) (fun _ _ => rfl) dX4_applyTo_7 ?_
    refine J_tin hX (147) 155 dX4_applyTo_8 (by decide) (by decide) rfl (by decide) ?_
    refine J_aload_n hX dX4_applyTo_155 rfl ?_
    refine J_gr hX (b + 1) fr_RX4_102 dX4_applyTo_156 (show K (b) = 5 from hS 0 (by decide)) rfl ?_
    refine J_aload_n hX dX4_applyTo_159 rfl ?_
    refine J_gr hX (c + 2) fr_RX4_15 dX4_applyTo_160 (show K (c) = 4 from hc.1) rfl ?_
    refine J_iconst hX dX4_applyTo_163 ?_
    refine J_iald hX dX4_applyTo_164 (show K (c + 2) = 1000 + 6 from hc.2.2) ⟨by omega, by omega⟩ (by decide) (fun r164 => ?_)
    refine J_aload_n hX dX4_applyTo_165 rfl ?_
    refine J_gr hX (c + 2) fr_RX4_15 dX4_applyTo_166 (show K (c) = 4 from hc.1) rfl ?_
    refine J_iconst hX dX4_applyTo_169 ?_
    refine J_iald hX dX4_applyTo_170 (show K (c + 2) = 1000 + 6 from hc.2.2) ⟨by omega, by omega⟩ (by decide) (fun r170 => ?_)
    refine J_aload_n hX dX4_applyTo_171 rfl ?_
    refine J_gr hX (c + 2) fr_RX4_15 dX4_applyTo_172 (show K (c) = 4 from hc.1) rfl ?_
    refine J_iconst hX dX4_applyTo_175 ?_
    refine J_iald hX dX4_applyTo_176 (show K (c + 2) = 1000 + 6 from hc.2.2) ⟨by omega, by omega⟩ (by decide) (fun r176 => ?_)
    refine J_aload_n hX dX4_applyTo_177 rfl ?_
    refine J_gr hX (c + 2) fr_RX4_15 dX4_applyTo_178 (show K (c) = 4 from hc.1) rfl ?_
    refine J_iconst hX dX4_applyTo_181 ?_
    refine J_iald hX dX4_applyTo_182 (show K (c + 2) = 1000 + 6 from hc.2.2) ⟨by omega, by omega⟩ (by decide) (fun r182 => ?_)
    refine J_ineg hX dX4_applyTo_183 ?_
    refine J_callVM hX _ dX4_applyTo_184 cw_RX4_150 (m_X6_placeAt hS (show has M b (M (c + 2) 0) from hf.1) (by omega) (by omega) (by omega)) ⟨(show K (b + 1) = 6 from hS 1 (by decide)), by decide, by decide, rfl⟩ rfl (Nat.le_of_ble_eq_true rfl) (by decide) ⟨Nat.zero_le _, Nat.zero_le _⟩ (fun r9 M184 q184 => ?_)
    obtain ⟨rfl, rfl⟩ := q184
    refine J_pop hX dX4_applyTo_187 rfl ?_
    refine J_goto hX 295 dX4_applyTo_188 (by decide) ?_
    exact J_vret hX hQ dX4_applyTo_295 ⟨rfl, rfl, stg_mov, fun i hi => by unfold movM; (repeat rw [mset_ne (by omega)])⟩ (Nat.zero_le _) (Nat.zero_le _)
  · have nw : wnm 4 = 3 := rfl
    have hv0 : 0 ≤ M (c + 2) 0 ∧ M (c + 2) 0 < 1000 := hv 0 (by decide)
    have hv1 : 0 ≤ M (c + 2) 1 ∧ M (c + 2) 1 < 1000 := hv 1 (by decide)
    have hv2 : 0 ≤ M (c + 2) 2 ∧ M (c + 2) 2 < 1000 := hv 2 (by decide)
    refine J_cti hX hP hXK (v := vI 5) (fun U hU => (hE U hU).tswm) ⟨by decide, by decide⟩ (by decide) (fun _ _ => rfl) dX4_applyTo_7 ?_
    refine J_tin hX (183) 191 dX4_applyTo_8 (by decide) (by decide) rfl (by decide) ?_
    refine J_aload_n hX dX4_applyTo_191 rfl ?_
    refine J_gr hX (b + 11) fr_RX4_119 dX4_applyTo_192 (show K (b) = 5 from hS 0 (by decide)) rfl ?_
    refine J_aload_n hX dX4_applyTo_195 rfl ?_
    refine J_gr hX (c + 2) fr_RX4_15 dX4_applyTo_196 (show K (c) = 4 from hc.1) rfl ?_
    refine J_iconst hX dX4_applyTo_199 ?_
    refine J_iald hX dX4_applyTo_200 (show K (c + 2) = 1000 + 6 from hc.2.2) ⟨by omega, by omega⟩ (by decide) (fun r200 => ?_)
    refine J_ineg hX dX4_applyTo_201 ?_
    refine J_aload_n hX dX4_applyTo_202 rfl ?_
    refine J_gr hX (c + 2) fr_RX4_15 dX4_applyTo_203 (show K (c) = 4 from hc.1) rfl ?_
    refine J_iconst hX dX4_applyTo_206 ?_
    refine J_iald hX dX4_applyTo_207 (show K (c + 2) = 1000 + 6 from hc.2.2) ⟨by omega, by omega⟩ (by decide) (fun r207 => ?_)
    refine J_aload_n hX dX4_applyTo_208 rfl ?_
    refine J_gr hX (c + 2) fr_RX4_15 dX4_applyTo_209 (show K (c) = 4 from hc.1) rfl ?_
    refine J_iconst hX dX4_applyTo_212 ?_
    refine J_iald hX dX4_applyTo_213 (show K (c + 2) = 1000 + 6 from hc.2.2) ⟨by omega, by omega⟩ (by decide) (fun r213 => ?_)
    refine J_callVM hX _ dX4_applyTo_214 cw_RX4_153 (m_X3_append hS hW hf.2.2 (by omega) (by omega) (by omega)) ⟨(show K (b + 11) = 3 from hS 11 (by decide)), by decide, by decide, rfl⟩ rfl (Nat.le_of_ble_eq_true rfl) (by decide) ⟨Nat.zero_le _, Nat.zero_le _⟩ (fun r9 M214 q214 => ?_)
    obtain ⟨rfl, rfl⟩ := q214
    refine J_pop hX dX4_applyTo_217 rfl ?_
    refine J_goto hX 295 dX4_applyTo_218 (by decide) ?_
    exact J_vret hX hQ dX4_applyTo_295 ⟨rfl, rfl, stg_sc, fun i hi => by unfold scM; (repeat rw [mset_ne (by omega)])⟩ (Nat.zero_le _) (Nat.zero_le _)
  · have nw : wnm 5 = 2 := rfl
    have hv0 : 0 ≤ M (c + 2) 0 ∧ M (c + 2) 0 < 1000 := hv 0 (by decide)
    have hv1 : 0 ≤ M (c + 2) 1 ∧ M (c + 2) 1 < 1000 := hv 1 (by decide)
    refine J_cti hX hP hXK (v := vI 6) (fun U hU => (hE U hU).tswm) ⟨by decide, by decide⟩ (by decide) (fun _ _ => rfl) dX4_applyTo_7 ?_
    refine J_tin hX (213) 221 dX4_applyTo_8 (by decide) (by decide) rfl (by decide) ?_
    refine J_aload_n hX dX4_applyTo_221 rfl ?_
    refine J_aload_n hX dX4_applyTo_222 rfl ?_
    refine J_gr hX (c + 2) fr_RX4_15 dX4_applyTo_223 (show K (c) = 4 from hc.1) rfl ?_
    refine J_iconst hX dX4_applyTo_226 ?_
    refine J_iald hX dX4_applyTo_227 (show K (c + 2) = 1000 + 6 from hc.2.2) ⟨by omega, by omega⟩ (by decide) (fun r227 => ?_)
    refine J_aload_n hX dX4_applyTo_228 rfl ?_
    refine J_gr hX (c + 2) fr_RX4_15 dX4_applyTo_229 (show K (c) = 4 from hc.1) rfl ?_
    refine J_iconst hX dX4_applyTo_232 ?_
    refine J_iald hX dX4_applyTo_233 (show K (c + 2) = 1000 + 6 from hc.2.2) ⟨by omega, by omega⟩ (by decide) (fun r233 => ?_)
    refine J_callVM hX _ dX4_applyTo_234 cw_RX4_156 (m_X5_change hS (fSe_w (show fSe (M (c + 2) 0) (M (c + 2) 1) from hf)) (by omega)) ⟨(show K (b) = 5 from hS 0 (by decide)), by decide, by decide, rfl⟩ rfl (Nat.le_of_ble_eq_true rfl) (by decide) ⟨Nat.zero_le _, Nat.zero_le _⟩ (fun r9 M234 q234 => ?_)
    obtain ⟨rfl, rfl⟩ := q234
    refine J_pop hX dX4_applyTo_237 rfl ?_
    refine J_goto hX 295 dX4_applyTo_238 (by decide) ?_
    exact J_vret hX hQ dX4_applyTo_295 ⟨rfl, rfl, stg_mset (by decide), fun i hi => by (repeat rw [mset_ne (by omega)])⟩ (Nat.zero_le _) (Nat.zero_le _)
  · have nw : wnm 6 = 3 := rfl
    have hv0 : 0 ≤ M (c + 2) 0 ∧ M (c + 2) 0 < 1000 := hv 0 (by decide)
    have hv1 : 0 ≤ M (c + 2) 1 ∧ M (c + 2) 1 < 1000 := hv 1 (by decide)
    have hv2 : 0 ≤ M (c + 2) 2 ∧ M (c + 2) 2 < 1000 := hv 2 (by decide)
    refine J_cti hX hP hXK (v := vI 7) (fun U hU => (hE U hU).tswm) ⟨by decide, by decide⟩ (by decide) (fun _ _ => rfl) dX4_applyTo_7 ?_
    refine J_tin hX (233) 241 dX4_applyTo_8 (by decide) (by decide) rfl (by decide) ?_
    refine J_aload_n hX dX4_applyTo_241 rfl ?_
    refine J_aload_n hX dX4_applyTo_242 rfl ?_
    refine J_gr hX (c + 2) fr_RX4_15 dX4_applyTo_243 (show K (c) = 4 from hc.1) rfl ?_
    refine J_iconst hX dX4_applyTo_246 ?_
    refine J_iald hX dX4_applyTo_247 (show K (c + 2) = 1000 + 6 from hc.2.2) ⟨by omega, by omega⟩ (by decide) (fun r247 => ?_)
    refine J_aload_n hX dX4_applyTo_248 rfl ?_
    refine J_gr hX (c + 2) fr_RX4_15 dX4_applyTo_249 (show K (c) = 4 from hc.1) rfl ?_
    refine J_iconst hX dX4_applyTo_252 ?_
    refine J_iald hX dX4_applyTo_253 (show K (c + 2) = 1000 + 6 from hc.2.2) ⟨by omega, by omega⟩ (by decide) (fun r253 => ?_)
    refine J_aload_n hX dX4_applyTo_254 rfl ?_
    refine J_gr hX (c + 2) fr_RX4_15 dX4_applyTo_255 (show K (c) = 4 from hc.1) rfl ?_
    refine J_iconst hX dX4_applyTo_258 ?_
    refine J_iald hX dX4_applyTo_259 (show K (c + 2) = 1000 + 6 from hc.2.2) ⟨by omega, by omega⟩ (by decide) (fun r259 => ?_)
    refine J_callVM hX _ dX4_applyTo_260 cw_RX4_159 (m_X5_entitle hS (by omega) (by omega) (by omega)) ⟨(show K (b) = 5 from hS 0 (by decide)), by decide, by decide, rfl⟩ rfl (Nat.le_of_ble_eq_true rfl) (by decide) ⟨Nat.zero_le _, Nat.zero_le _⟩ (fun r9 M260 q260 => ?_)
    obtain ⟨rfl, rfl⟩ := q260
    refine J_pop hX dX4_applyTo_263 rfl ?_
    refine J_goto hX 295 dX4_applyTo_264 (by decide) ?_
    exact J_vret hX hQ dX4_applyTo_295 ⟨rfl, rfl, stg_ent, fun i hi => by unfold entM; (repeat rw [mset_ne (by omega)])⟩ (Nat.zero_le _) (Nat.zero_le _)
  · have nw : wnm 7 = 1 := rfl
    have hv0 : 0 ≤ M (c + 2) 0 ∧ M (c + 2) 0 < 1000 := hv 0 (by decide)
    refine J_cti hX hP hXK (v := vI 8) (fun U hU => (hE U hU).tswm) ⟨by decide, by decide⟩ (by decide) (fun _ _ => rfl) dX4_applyTo_7 ?_
    refine J_tin hX (259) 267 dX4_applyTo_8 (by decide) (by decide) rfl (by decide) ?_
    refine J_aload_n hX dX4_applyTo_267 rfl ?_
    refine J_gr hX (b + 1) fr_RX4_102 dX4_applyTo_268 (show K (b) = 5 from hS 0 (by decide)) rfl ?_
    refine J_aload_n hX dX4_applyTo_271 rfl ?_
    refine J_gr hX (c + 2) fr_RX4_15 dX4_applyTo_272 (show K (c) = 4 from hc.1) rfl ?_
    refine J_iconst hX dX4_applyTo_275 ?_
    refine J_iald hX dX4_applyTo_276 (show K (c + 2) = 1000 + 6 from hc.2.2) ⟨by omega, by omega⟩ (by decide) (fun r276 => ?_)
    refine J_callVM hX _ dX4_applyTo_277 cw_RX4_162 (m_X6_drop hS hW (by omega)) ⟨(show K (b + 1) = 6 from hS 1 (by decide)), by decide, by decide, rfl⟩ rfl (Nat.le_of_ble_eq_true rfl) (by decide) ⟨Nat.zero_le _, Nat.zero_le _⟩ (fun r9 M277 q277 => ?_)
    obtain ⟨rfl, dd1, dd2⟩ := q277
    refine J_pop hX dX4_applyTo_280 rfl ?_
    refine J_goto hX 295 dX4_applyTo_281 (by decide) ?_
    exact J_vret hX hQ dX4_applyTo_295 ⟨rfl, rfl, dd1, fun i hi => dd2 i (by omega)⟩ (Nat.zero_le _) (Nat.zero_le _)
  · have nw : wnm 8 = 1 := rfl
    have hv0 : 0 ≤ M (c + 2) 0 ∧ M (c + 2) 0 < 1000 := hv 0 (by decide)
    refine J_cti hX hP hXK (v := vI 0) (fun U hU => (hE U hU).tswm) ⟨by decide, by decide⟩ (by decide) (fun _ _ => rfl) dX4_applyTo_7 ?_
    refine J_tout hX 284 dX4_applyTo_8 (by decide) (by decide) (by decide) ?_
    refine J_aload_n hX dX4_applyTo_284 rfl ?_
    refine J_aload_n hX dX4_applyTo_285 rfl ?_
    refine J_gr hX (c + 2) fr_RX4_15 dX4_applyTo_286 (show K (c) = 4 from hc.1) rfl ?_
    refine J_iconst hX dX4_applyTo_289 ?_
    refine J_iald hX dX4_applyTo_290 (show K (c + 2) = 1000 + 6 from hc.2.2) ⟨by omega, by omega⟩ (by decide) (fun r290 => ?_)
    refine J_callVM hX _ dX4_applyTo_291 cw_RX4_165 (m_X5_pass (t := M (c + 2) 0) hS hW (by have h8 : 1 ≤ M (c + 2) 0 ∧ M (c + 2) 0 ≤ 200 := hf; omega) hf) ⟨(show K (b) = 5 from hS 0 (by decide)), by decide, by decide, rfl⟩ rfl (Nat.le_of_ble_eq_true rfl) (by decide) ⟨Nat.zero_le _, Nat.zero_le _⟩ (fun r9 M291 q291 => ?_)
    obtain ⟨rfl, pa⟩ := q291
    refine J_pop hX dX4_applyTo_294 rfl ?_
    have h8 : 1 ≤ M (c + 2) 0 ∧ M (c + 2) 0 ≤ 200 := hf
    exact J_vret hX hQ dX4_applyTo_295 ⟨rfl, rfl, by rw [pa]; exact tkN_S hW _ (by omega), fun i hi => by rw [pa]; exact tkN_out hi _⟩ (Nat.zero_le _) (Nat.zero_le _)
