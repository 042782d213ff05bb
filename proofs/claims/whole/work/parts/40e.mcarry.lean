/-! the reference: fault and effect of a command -/
abbrev NBr (M : MM) (r w : Nat) : Prop := ∀ j : Nat, (j : Int) < wnm w → 0 ≤ M (r + 11) j ∧ M (r + 11) j < 1000
theorem mv_iff {P Q : Prop} [Decidable P] [Decidable Q] : (if ¬ P then (1 : Int) else if Q then 0 else 2) = 0 ↔ P ∧ Q := by
  by_cases p : P
  · rw [if_neg (fun q => q p), if0_iff (by decide)]; exact ⟨fun q => ⟨p, q⟩, fun q => q.2⟩
  · rw [if_pos p]; exact ⟨fun q => absurd q (by decide), fun q => absurd q.1 p⟩
theorem sc_iff {P Q : Prop} [Decidable P] [Decidable Q] {x : Int} : (if P ∧ Q then (if 8 ≤ x then (2 : Int) else 0) else 1) = 0 ↔ P ∧ Q ∧ x < 8 := by
  by_cases p : P ∧ Q
  · rw [if_pos p]
    by_cases q : 8 ≤ x
    · rw [if_pos q]; exact ⟨fun z => absurd z (by decide), fun z => by omega⟩
    · rw [if_neg q]; exact ⟨fun _ => ⟨p.1, p.2, by omega⟩, fun _ => rfl⟩
  · rw [if_neg p]; exact ⟨fun q => absurd q (by decide), fun q => absurd ⟨q.1, q.2.1⟩ p⟩
set_option maxHeartbeats 4000000 in
set_option maxRecDepth 100000 in
theorem m_X10_whyNot {E : EE} {K : Nat → Nat} {M : MM} {r w : Nat} {T : Int} {S : MM} (hM : ModelK K r) (hR : RS S (M (r + 1))) (hW : WFS T S) (hw9 : w < 9) (h21 : M r 21 = w) (hv : NBr M r w) : CnM E 4 yX10_whyNot cX10_whyNot 1 (Option.some FieldType.int) [.ref r] K M (fun r9 M2 => M2 = M ∧ ∃ f, r9 = some (vI f) ∧ i32 f ∧ (f = 0 ↔ cmF w (fun j => M (r + 11) j) S)) := by
  refine Cn_of RX10 (plainFor_of_name (by decide)) rfl (Nat.le_of_ble_eq_true rfl) (fun X hX hQ => ?_)
  refine J_aload_n hX dX10_whyNot_0 rfl ?_
  refine J_geti hX fi_RX10_310 dX10_whyNot_1 hM.k0 (fun r1 => ?_)
  rw [h21]
  clear r1
  rcases (show w = 0 ∨ w = 1 ∨ w = 2 ∨ w = 3 ∨ w = 4 ∨ w = 5 ∨ w = 6 ∨ w = 7 ∨ w = 8 by omega) with rfl | rfl | rfl | rfl | rfl | rfl | rfl | rfl | rfl
  · have nw : wnm 0 = 2 := rfl
    have hv0 : 0 ≤ M (r + 11) 0 ∧ M (r + 11) 0 < 1000 := hv 0 (by decide)
    have hv1 : 0 ≤ M (r + 11) 1 ∧ M (r + 11) 1 < 1000 := hv 1 (by decide)
    refine J_tin hX (48) 52 dX10_whyNot_4 (by decide) (by decide) rfl (by decide) ?_
    refine J_aload_n hX dX10_whyNot_52 rfl ?_
    refine J_gr hX (r + 11) fr_RX10_40 dX10_whyNot_53 (show K (r) = 9 from hM 0 (by decide)) rfl ?_
    refine J_iconst hX dX10_whyNot_56 ?_
    refine J_iald hX dX10_whyNot_57 (show K (r + 11) = 1000 + 6 from hM 11 (by decide)) ⟨by omega, by omega⟩ (by decide) (fun r57 => ?_)
    refine J_aload_n hX dX10_whyNot_58 rfl ?_
    refine J_gr hX (r + 11) fr_RX10_40 dX10_whyNot_59 (show K (r) = 9 from hM 0 (by decide)) rfl ?_
    refine J_iconst hX dX10_whyNot_62 ?_
    refine J_iald hX dX10_whyNot_63 (show K (r + 11) = 1000 + 6 from hM 11 (by decide)) ⟨by omega, by omega⟩ (by decide) (fun r63 => ?_)
    refine J_callSI hX _ dX10_whyNot_64 cw_RX10_66 (m_X10_notBegin (by omega) (by omega)) rfl (Nat.le_of_ble_eq_true rfl) (by decide) ⟨Nat.zero_le _, Nat.zero_le _⟩ (fun r64 => ?_)
    exact J_iret hX hQ dX10_whyNot_67 ⟨rfl, rfl, _, rfl, r64, if0_iff (by decide)⟩ (Nat.zero_le _) (Nat.zero_le _)
  · have nw : wnm 1 = 3 := rfl
    have hv0 : 0 ≤ M (r + 11) 0 ∧ M (r + 11) 0 < 1000 := hv 0 (by decide)
    have hv1 : 0 ≤ M (r + 11) 1 ∧ M (r + 11) 1 < 1000 := hv 1 (by decide)
    have hv2 : 0 ≤ M (r + 11) 2 ∧ M (r + 11) 2 < 1000 := hv 2 (by decide)
    refine J_tin hX (64) 68 dX10_whyNot_4 (by decide) (by decide) rfl (by decide) ?_
    refine J_aload_n hX dX10_whyNot_68 rfl ?_
    refine J_sipush hX dX10_whyNot_69 rfl ?_
    refine J_aload_n hX dX10_whyNot_72 rfl ?_
    refine J_gr hX (r + 11) fr_RX10_40 dX10_whyNot_73 (show K (r) = 9 from hM 0 (by decide)) rfl ?_
    refine J_iconst hX dX10_whyNot_76 ?_
    refine J_iald hX dX10_whyNot_77 (show K (r + 11) = 1000 + 6 from hM 11 (by decide)) ⟨by omega, by omega⟩ (by decide) (fun r77 => ?_)
    refine J_aload_n hX dX10_whyNot_78 rfl ?_
    refine J_gr hX (r + 11) fr_RX10_40 dX10_whyNot_79 (show K (r) = 9 from hM 0 (by decide)) rfl ?_
    refine J_iconst hX dX10_whyNot_82 ?_
    refine J_iald hX dX10_whyNot_83 (show K (r + 11) = 1000 + 6 from hM 11 (by decide)) ⟨by omega, by omega⟩ (by decide) (fun r83 => ?_)
    refine J_aload_n hX dX10_whyNot_84 rfl ?_
    refine J_gr hX (r + 11) fr_RX10_40 dX10_whyNot_85 (show K (r) = 9 from hM 0 (by decide)) rfl ?_
    refine J_iconst hX dX10_whyNot_88 ?_
    refine J_iald hX dX10_whyNot_89 (show K (r + 11) = 1000 + 6 from hM 11 (by decide)) ⟨by omega, by omega⟩ (by decide) (fun r89 => ?_)
    refine J_callVI hX _ dX10_whyNot_90 cw_RX10_89 (m_X10_notAdd hM hR hW (by omega) (by omega) (by omega) (by omega)) ⟨(show K (r) = 9 from hM 0 (by decide)), by decide, by decide, rfl⟩ rfl (Nat.le_of_ble_eq_true rfl) (by decide) ⟨Nat.zero_le _, Nat.zero_le _⟩ (fun r90 => ?_)
    exact J_iret hX hQ dX10_whyNot_93 ⟨rfl, rfl, _, rfl, r90, Iff.rfl⟩ (Nat.zero_le _) (Nat.zero_le _)
  · have nw : wnm 2 = 6 := rfl
    have hv0 : 0 ≤ M (r + 11) 0 ∧ M (r + 11) 0 < 1000 := hv 0 (by decide)
    have hv1 : 0 ≤ M (r + 11) 1 ∧ M (r + 11) 1 < 1000 := hv 1 (by decide)
    have hv2 : 0 ≤ M (r + 11) 2 ∧ M (r + 11) 2 < 1000 := hv 2 (by decide)
    have hv3 : 0 ≤ M (r + 11) 3 ∧ M (r + 11) 3 < 1000 := hv 3 (by decide)
    have hv4 : 0 ≤ M (r + 11) 4 ∧ M (r + 11) 4 < 1000 := hv 4 (by decide)
    have hv5 : 0 ≤ M (r + 11) 5 ∧ M (r + 11) 5 < 1000 := hv 5 (by decide)
    refine J_tin hX (90) 94 dX10_whyNot_4 (by decide) (by decide) rfl (by decide) ?_
    refine J_aload_n hX dX10_whyNot_94 rfl ?_
    refine J_aload_n hX dX10_whyNot_95 rfl ?_
    refine J_gr hX (r + 11) fr_RX10_40 dX10_whyNot_96 (show K (r) = 9 from hM 0 (by decide)) rfl ?_
    refine J_iconst hX dX10_whyNot_99 ?_
    refine J_iald hX dX10_whyNot_100 (show K (r + 11) = 1000 + 6 from hM 11 (by decide)) ⟨by omega, by omega⟩ (by decide) (fun r100 => ?_)
    refine J_aload_n hX dX10_whyNot_101 rfl ?_
    refine J_gr hX (r + 11) fr_RX10_40 dX10_whyNot_102 (show K (r) = 9 from hM 0 (by decide)) rfl ?_
    refine J_iconst hX dX10_whyNot_105 ?_
    refine J_iald hX dX10_whyNot_106 (show K (r + 11) = 1000 + 6 from hM 11 (by decide)) ⟨by omega, by omega⟩ (by decide) (fun r106 => ?_)
    refine J_aload_n hX dX10_whyNot_107 rfl ?_
    refine J_gr hX (r + 11) fr_RX10_40 dX10_whyNot_108 (show K (r) = 9 from hM 0 (by decide)) rfl ?_
    refine J_iconst hX dX10_whyNot_111 ?_
    refine J_iald hX dX10_whyNot_112 (show K (r + 11) = 1000 + 6 from hM 11 (by decide)) ⟨by omega, by omega⟩ (by decide) (fun r112 => ?_)
    refine J_aload_n hX dX10_whyNot_113 rfl ?_
    refine J_gr hX (r + 11) fr_RX10_40 dX10_whyNot_114 (show K (r) = 9 from hM 0 (by decide)) rfl ?_
    refine J_iconst hX dX10_whyNot_117 ?_
    refine J_iald hX dX10_whyNot_118 (show K (r + 11) = 1000 + 6 from hM 11 (by decide)) ⟨by omega, by omega⟩ (by decide) (fun r118 => ?_)
    refine J_aload_n hX dX10_whyNot_119 rfl ?_
    refine J_gr hX (r + 11) fr_RX10_40 dX10_whyNot_120 (show K (r) = 9 from hM 0 (by decide)) rfl ?_
    refine J_iconst hX dX10_whyNot_123 ?_
    refine J_iald hX dX10_whyNot_124 (show K (r + 11) = 1000 + 6 from hM 11 (by decide)) ⟨by omega, by omega⟩ (by decide) (fun r124 => ?_)
    refine J_aload_n hX dX10_whyNot_125 rfl ?_
    refine J_gr hX (r + 11) fr_RX10_40 dX10_whyNot_126 (show K (r) = 9 from hM 0 (by decide)) rfl ?_
    refine J_iconst hX dX10_whyNot_129 ?_
    refine J_iald hX dX10_whyNot_130 (show K (r + 11) = 1000 + 6 from hM 11 (by decide)) ⟨by omega, by omega⟩ (by decide) (fun r130 => ?_)
    refine J_callVI hX _ dX10_whyNot_131 cw_RX10_97 (m_X10_notBox hM hR hW (by omega) (by omega) (by omega) (by omega) (by omega) (by omega)) ⟨(show K (r) = 9 from hM 0 (by decide)), by decide, by decide, rfl⟩ rfl (Nat.le_of_ble_eq_true rfl) (by decide) ⟨Nat.zero_le _, Nat.zero_le _⟩ (fun r131 => ?_)
    exact J_iret hX hQ dX10_whyNot_134 ⟨rfl, rfl, _, rfl, r131, Iff.rfl⟩ (Nat.zero_le _) (Nat.zero_le _)
  · have nw : wnm 3 = 4 := rfl
    have hv0 : 0 ≤ M (r + 11) 0 ∧ M (r + 11) 0 < 1000 := hv 0 (by decide)
    have hv1 : 0 ≤ M (r + 11) 1 ∧ M (r + 11) 1 < 1000 := hv 1 (by decide)
    have hv2 : 0 ≤ M (r + 11) 2 ∧ M (r + 11) 2 < 1000 := hv 2 (by decide)
    have hv3 : 0 ≤ M (r + 11) 3 ∧ M (r + 11) 3 < 1000 := hv 3 (by decide)
    refine J_tin hX (131) 135 dX10_whyNot_4 (by decide) (by decide) rfl (by decide) ?_
    refine J_aload_n hX dX10_whyNot_135 rfl ?_
    refine J_aload_n hX dX10_whyNot_136 rfl ?_
    refine J_gr hX (r + 11) fr_RX10_40 dX10_whyNot_137 (show K (r) = 9 from hM 0 (by decide)) rfl ?_
    refine J_iconst hX dX10_whyNot_140 ?_
    refine J_iald hX dX10_whyNot_141 (show K (r + 11) = 1000 + 6 from hM 11 (by decide)) ⟨by omega, by omega⟩ (by decide) (fun r141 => ?_)
    refine J_aload_n hX dX10_whyNot_142 rfl ?_
    refine J_gr hX (r + 11) fr_RX10_40 dX10_whyNot_143 (show K (r) = 9 from hM 0 (by decide)) rfl ?_
    refine J_iconst hX dX10_whyNot_146 ?_
    refine J_iald hX dX10_whyNot_147 (show K (r + 11) = 1000 + 6 from hM 11 (by decide)) ⟨by omega, by omega⟩ (by decide) (fun r147 => ?_)
    refine J_aload_n hX dX10_whyNot_148 rfl ?_
    refine J_gr hX (r + 11) fr_RX10_40 dX10_whyNot_149 (show K (r) = 9 from hM 0 (by decide)) rfl ?_
    refine J_iconst hX dX10_whyNot_152 ?_
    refine J_iald hX dX10_whyNot_153 (show K (r + 11) = 1000 + 6 from hM 11 (by decide)) ⟨by omega, by omega⟩ (by decide) (fun r153 => ?_)
    refine J_aload_n hX dX10_whyNot_154 rfl ?_
    refine J_gr hX (r + 11) fr_RX10_40 dX10_whyNot_155 (show K (r) = 9 from hM 0 (by decide)) rfl ?_
    refine J_iconst hX dX10_whyNot_158 ?_
    refine J_iald hX dX10_whyNot_159 (show K (r + 11) = 1000 + 6 from hM 11 (by decide)) ⟨by omega, by omega⟩ (by decide) (fun r159 => ?_)
    refine J_ineg hX dX10_whyNot_160 ?_
    refine J_callVI hX _ dX10_whyNot_161 cw_RX10_100 (m_X10_notMove hM hR hW (by omega) (by omega) (by omega) (by omega)) ⟨(show K (r) = 9 from hM 0 (by decide)), by decide, by decide, rfl⟩ rfl (Nat.le_of_ble_eq_true rfl) (by decide) ⟨Nat.zero_le _, Nat.zero_le _⟩ (fun r161 => ?_)
    exact J_iret hX hQ dX10_whyNot_164 ⟨rfl, rfl, _, rfl, r161, mv_iff⟩ (Nat.zero_le _) (Nat.zero_le _)
  · have nw : wnm 4 = 3 := rfl
    have hv0 : 0 ≤ M (r + 11) 0 ∧ M (r + 11) 0 < 1000 := hv 0 (by decide)
    have hv1 : 0 ≤ M (r + 11) 1 ∧ M (r + 11) 1 < 1000 := hv 1 (by decide)
    have hv2 : 0 ≤ M (r + 11) 2 ∧ M (r + 11) 2 < 1000 := hv 2 (by decide)
    refine J_tin hX (161) 165 dX10_whyNot_4 (by decide) (by decide) rfl (by decide) ?_
    refine J_aload_n hX dX10_whyNot_165 rfl ?_
    refine J_aload_n hX dX10_whyNot_166 rfl ?_
    refine J_gr hX (r + 11) fr_RX10_40 dX10_whyNot_167 (show K (r) = 9 from hM 0 (by decide)) rfl ?_
    refine J_iconst hX dX10_whyNot_170 ?_
    refine J_iald hX dX10_whyNot_171 (show K (r + 11) = 1000 + 6 from hM 11 (by decide)) ⟨by omega, by omega⟩ (by decide) (fun r171 => ?_)
    refine J_ineg hX dX10_whyNot_172 ?_
    refine J_aload_n hX dX10_whyNot_173 rfl ?_
    refine J_gr hX (r + 11) fr_RX10_40 dX10_whyNot_174 (show K (r) = 9 from hM 0 (by decide)) rfl ?_
    refine J_iconst hX dX10_whyNot_177 ?_
    refine J_iald hX dX10_whyNot_178 (show K (r + 11) = 1000 + 6 from hM 11 (by decide)) ⟨by omega, by omega⟩ (by decide) (fun r178 => ?_)
    refine J_aload_n hX dX10_whyNot_179 rfl ?_
    refine J_gr hX (r + 11) fr_RX10_40 dX10_whyNot_180 (show K (r) = 9 from hM 0 (by decide)) rfl ?_
    refine J_iconst hX dX10_whyNot_183 ?_
    refine J_iald hX dX10_whyNot_184 (show K (r + 11) = 1000 + 6 from hM 11 (by decide)) ⟨by omega, by omega⟩ (by decide) (fun r184 => ?_)
    refine J_callVI hX _ dX10_whyNot_185 cw_RX10_116 (m_X10_notScene hM hR hW (by omega) (by omega) (by omega)) ⟨(show K (r) = 9 from hM 0 (by decide)), by decide, by decide, rfl⟩ rfl (Nat.le_of_ble_eq_true rfl) (by decide) ⟨Nat.zero_le _, Nat.zero_le _⟩ (fun r185 => ?_)
    exact J_iret hX hQ dX10_whyNot_188 ⟨rfl, rfl, _, rfl, r185, sc_iff⟩ (Nat.zero_le _) (Nat.zero_le _)
  · have nw : wnm 5 = 2 := rfl
    have hv0 : 0 ≤ M (r + 11) 0 ∧ M (r + 11) 0 < 1000 := hv 0 (by decide)
    have hv1 : 0 ≤ M (r + 11) 1 ∧ M (r + 11) 1 < 1000 := hv 1 (by decide)
    refine J_tin hX (185) 189 dX10_whyNot_4 (by decide) (by decide) rfl (by decide) ?_
    refine J_aload_n hX dX10_whyNot_189 rfl ?_
    refine J_gr hX (r + 11) fr_RX10_40 dX10_whyNot_190 (show K (r) = 9 from hM 0 (by decide)) rfl ?_
    refine J_iconst hX dX10_whyNot_193 ?_
    refine J_iald hX dX10_whyNot_194 (show K (r + 11) = 1000 + 6 from hM 11 (by decide)) ⟨by omega, by omega⟩ (by decide) (fun r194 => ?_)
    refine J_aload_n hX dX10_whyNot_195 rfl ?_
    refine J_gr hX (r + 11) fr_RX10_40 dX10_whyNot_196 (show K (r) = 9 from hM 0 (by decide)) rfl ?_
    refine J_iconst hX dX10_whyNot_199 ?_
    refine J_iald hX dX10_whyNot_200 (show K (r + 11) = 1000 + 6 from hM 11 (by decide)) ⟨by omega, by omega⟩ (by decide) (fun r200 => ?_)
    refine J_callSI hX _ dX10_whyNot_201 cw_RX10_123 (m_X10_notSet (by omega) (by omega)) rfl (Nat.le_of_ble_eq_true rfl) (by decide) ⟨Nat.zero_le _, Nat.zero_le _⟩ (fun r201 => ?_)
    exact J_iret hX hQ dX10_whyNot_204 ⟨rfl, rfl, _, rfl, r201, if0_iff (by decide)⟩ (Nat.zero_le _) (Nat.zero_le _)
  · have nw : wnm 6 = 3 := rfl
    have hv0 : 0 ≤ M (r + 11) 0 ∧ M (r + 11) 0 < 1000 := hv 0 (by decide)
    have hv1 : 0 ≤ M (r + 11) 1 ∧ M (r + 11) 1 < 1000 := hv 1 (by decide)
    have hv2 : 0 ≤ M (r + 11) 2 ∧ M (r + 11) 2 < 1000 := hv 2 (by decide)
    refine J_tin hX (201) 205 dX10_whyNot_4 (by decide) (by decide) rfl (by decide) ?_
    refine J_aload_n hX dX10_whyNot_205 rfl ?_
    refine J_aload_n hX dX10_whyNot_206 rfl ?_
    refine J_gr hX (r + 11) fr_RX10_40 dX10_whyNot_207 (show K (r) = 9 from hM 0 (by decide)) rfl ?_
    refine J_iconst hX dX10_whyNot_210 ?_
    refine J_iald hX dX10_whyNot_211 (show K (r + 11) = 1000 + 6 from hM 11 (by decide)) ⟨by omega, by omega⟩ (by decide) (fun r211 => ?_)
    refine J_aload_n hX dX10_whyNot_212 rfl ?_
    refine J_gr hX (r + 11) fr_RX10_40 dX10_whyNot_213 (show K (r) = 9 from hM 0 (by decide)) rfl ?_
    refine J_iconst hX dX10_whyNot_216 ?_
    refine J_iald hX dX10_whyNot_217 (show K (r + 11) = 1000 + 6 from hM 11 (by decide)) ⟨by omega, by omega⟩ (by decide) (fun r217 => ?_)
    refine J_aload_n hX dX10_whyNot_218 rfl ?_
    refine J_gr hX (r + 11) fr_RX10_40 dX10_whyNot_219 (show K (r) = 9 from hM 0 (by decide)) rfl ?_
    refine J_iconst hX dX10_whyNot_222 ?_
    refine J_iald hX dX10_whyNot_223 (show K (r + 11) = 1000 + 6 from hM 11 (by decide)) ⟨by omega, by omega⟩ (by decide) (fun r223 => ?_)
    refine J_callVI hX _ dX10_whyNot_224 cw_RX10_129 (m_X10_notTitle hM hR hW (by omega) (by omega) (by omega)) ⟨(show K (r) = 9 from hM 0 (by decide)), by decide, by decide, rfl⟩ rfl (Nat.le_of_ble_eq_true rfl) (by decide) ⟨Nat.zero_le _, Nat.zero_le _⟩ (fun r224 => ?_)
    exact J_iret hX hQ dX10_whyNot_227 ⟨rfl, rfl, _, rfl, r224, if0_iff (by decide)⟩ (Nat.zero_le _) (Nat.zero_le _)
  · have nw : wnm 7 = 1 := rfl
    have hv0 : 0 ≤ M (r + 11) 0 ∧ M (r + 11) 0 < 1000 := hv 0 (by decide)
    refine J_tin hX (224) 228 dX10_whyNot_4 (by decide) (by decide) rfl (by decide) ?_
    refine J_aload_n hX dX10_whyNot_228 rfl ?_
    refine J_aload_n hX dX10_whyNot_229 rfl ?_
    refine J_gr hX (r + 11) fr_RX10_40 dX10_whyNot_230 (show K (r) = 9 from hM 0 (by decide)) rfl ?_
    refine J_iconst hX dX10_whyNot_233 ?_
    refine J_iald hX dX10_whyNot_234 (show K (r + 11) = 1000 + 6 from hM 11 (by decide)) ⟨by omega, by omega⟩ (by decide) (fun r234 => ?_)
    refine J_callVI hX _ dX10_whyNot_235 cw_RX10_110 (m_X10_notRemove hM hR hW (by omega)) ⟨(show K (r) = 9 from hM 0 (by decide)), by decide, by decide, rfl⟩ rfl (Nat.le_of_ble_eq_true rfl) (by decide) ⟨Nat.zero_le _, Nat.zero_le _⟩ (fun r235 => ?_)
    exact J_iret hX hQ dX10_whyNot_238 ⟨rfl, rfl, _, rfl, r235, if0_iff (by decide)⟩ (Nat.zero_le _) (Nat.zero_le _)
  · have nw : wnm 8 = 1 := rfl
    have hv0 : 0 ≤ M (r + 11) 0 ∧ M (r + 11) 0 < 1000 := hv 0 (by decide)
    refine J_tout hX 239 dX10_whyNot_4 (by decide) (by decide) (by decide) ?_
    refine J_aload_n hX dX10_whyNot_239 rfl ?_
    refine J_gr hX (r + 11) fr_RX10_40 dX10_whyNot_240 (show K (r) = 9 from hM 0 (by decide)) rfl ?_
    refine J_iconst hX dX10_whyNot_243 ?_
    refine J_iald hX dX10_whyNot_244 (show K (r + 11) = 1000 + 6 from hM 11 (by decide)) ⟨by omega, by omega⟩ (by decide) (fun r244 => ?_)
    refine J_callSI hX _ dX10_whyNot_245 cw_RX10_145 (m_X10_notTick (by omega)) rfl (Nat.le_of_ble_eq_true rfl) (by decide) ⟨Nat.zero_le _, Nat.zero_le _⟩ (fun r245 => ?_)
    exact J_iret hX hQ dX10_whyNot_248 ⟨rfl, rfl, _, rfl, r245, if0_iff (by decide)⟩ (Nat.zero_le _) (Nat.zero_le _)
set_option maxHeartbeats 4000000 in
set_option maxRecDepth 100000 in
theorem m_X10_carryOut {E : EE} {K : Nat → Nat} {M : MM} {r w : Nat} {T : Int} {S : MM} (hM : ModelK K r) (hR : RS S (M (r + 1))) (hW : WFS T S) (hw9 : w < 9) (h21 : M r 21 = w) (hv : NBr M r w) (hf : cmF w (fun j => M (r + 11) j) S) (hT : T + 200 ≤ 1000000000) (hz : ∀ k, 16 ≤ k → S k = fun _ => 0) : CnM E 4 yX10_carryOut cX10_carryOut 1 (Option.some FieldType.int) [.ref r] K M (fun r9 M2 => (∃ z, r9 = some (vI z)) ∧ (∀ i, i ≠ r + 1 → i ≠ r + 5 → M2 i = M i) ∧ ∀ S1, cmA w (fun j => M (r + 11) j) S S1 → RS S1 (M2 (r + 1))) := by
  obtain ⟨⟨k0, k1, k2, k3, k4, k5, k6, k7, k8, k9, k10, k13⟩, kt, kn, kc⟩ := id hR
  have hW1 := hW.2.1
  unfold WFSs at hW1
  refine Cn_of RX10 (plainFor_of_name (by decide)) rfl (Nat.le_of_ble_eq_true rfl) (fun X hX hQ => ?_)
  refine J_aload_n hX dX10_carryOut_0 rfl ?_
  refine J_geti hX fi_RX10_310 dX10_carryOut_1 hM.k0 (fun r1 => ?_)
  rw [h21]
  clear r1
  rcases (show w = 0 ∨ w = 1 ∨ w = 2 ∨ w = 3 ∨ w = 4 ∨ w = 5 ∨ w = 6 ∨ w = 7 ∨ w = 8 by omega) with rfl | rfl | rfl | rfl | rfl | rfl | rfl | rfl | rfl
  · have nw : wnm 0 = 2 := rfl
    have hv0 : 0 ≤ M (r + 11) 0 ∧ M (r + 11) 0 < 1000 := hv 0 (by decide)
    have hv1 : 0 ≤ M (r + 11) 1 ∧ M (r + 11) 1 < 1000 := hv 1 (by decide)
    refine J_tin hX (48) 52 dX10_carryOut_4 (by decide) (by decide) rfl (by decide) ?_
    refine J_aload_n hX dX10_carryOut_52 rfl ?_
    refine J_aload_n hX dX10_carryOut_53 rfl ?_
    refine J_gr hX (r + 11) fr_RX10_40 dX10_carryOut_54 (show K (r) = 9 from hM 0 (by decide)) rfl ?_
    refine J_iconst hX dX10_carryOut_57 ?_
    refine J_iald hX dX10_carryOut_58 (show K (r + 11) = 1000 + 6 from hM 11 (by decide)) ⟨by omega, by omega⟩ (by decide) (fun r58 => ?_)
    refine J_aload_n hX dX10_carryOut_59 rfl ?_
    refine J_gr hX (r + 11) fr_RX10_40 dX10_carryOut_60 (show K (r) = 9 from hM 0 (by decide)) rfl ?_
    refine J_iconst hX dX10_carryOut_63 ?_
    refine J_iald hX dX10_carryOut_64 (show K (r + 11) = 1000 + 6 from hM 11 (by decide)) ⟨by omega, by omega⟩ (by decide) (fun r64 => ?_)
    refine J_callVM hX _ dX10_carryOut_65 cw_RX10_72 (m_X10_begins hM (by omega) (by omega)) ⟨(show K (r) = 9 from hM 0 (by decide)), by decide, by decide, rfl⟩ rfl (Nat.le_of_ble_eq_true rfl) (by decide) ⟨Nat.zero_le _, Nat.zero_le _⟩ (fun r9 M65 q65 => ?_)
    obtain ⟨rfl, rfl⟩ := q65
    exact J_iret hX hQ dX10_carryOut_68 ⟨rfl, ⟨_, rfl⟩, fun i i1 _ => an_row i1, fun S1 hA => by rw [show S1 = _ from hA]; exact RS_an hR⟩ (Nat.zero_le _) (Nat.zero_le _)
  · have nw : wnm 1 = 3 := rfl
    have hv0 : 0 ≤ M (r + 11) 0 ∧ M (r + 11) 0 < 1000 := hv 0 (by decide)
    have hv1 : 0 ≤ M (r + 11) 1 ∧ M (r + 11) 1 < 1000 := hv 1 (by decide)
    have hv2 : 0 ≤ M (r + 11) 2 ∧ M (r + 11) 2 < 1000 := hv 2 (by decide)
    refine J_tin hX (65) 69 dX10_carryOut_4 (by decide) (by decide) rfl (by decide) ?_
    have g0 := (gA_0 (show gA S (-1000) (M (r + 11) 0) (M (r + 11) 1) (M (r + 11) 2) = 0 from hf)).2.2.2.1
    refine J_aload_n hX dX10_carryOut_69 rfl ?_
    refine J_sipush hX dX10_carryOut_70 rfl ?_
    refine J_aload_n hX dX10_carryOut_73 rfl ?_
    refine J_gr hX (r + 11) fr_RX10_40 dX10_carryOut_74 (show K (r) = 9 from hM 0 (by decide)) rfl ?_
    refine J_iconst hX dX10_carryOut_77 ?_
    refine J_iald hX dX10_carryOut_78 (show K (r + 11) = 1000 + 6 from hM 11 (by decide)) ⟨by omega, by omega⟩ (by decide) (fun r78 => ?_)
    refine J_aload_n hX dX10_carryOut_79 rfl ?_
    refine J_gr hX (r + 11) fr_RX10_40 dX10_carryOut_80 (show K (r) = 9 from hM 0 (by decide)) rfl ?_
    refine J_iconst hX dX10_carryOut_83 ?_
    refine J_iald hX dX10_carryOut_84 (show K (r + 11) = 1000 + 6 from hM 11 (by decide)) ⟨by omega, by omega⟩ (by decide) (fun r84 => ?_)
    refine J_aload_n hX dX10_carryOut_85 rfl ?_
    refine J_gr hX (r + 11) fr_RX10_40 dX10_carryOut_86 (show K (r) = 9 from hM 0 (by decide)) rfl ?_
    refine J_iconst hX dX10_carryOut_89 ?_
    refine J_iald hX dX10_carryOut_90 (show K (r + 11) = 1000 + 6 from hM 11 (by decide)) ⟨by omega, by omega⟩ (by decide) (fun r90 => ?_)
    refine J_iconst hX dX10_carryOut_91 ?_
    refine J_iconst hX dX10_carryOut_92 ?_
    refine J_callVM hX _ dX10_carryOut_93 cw_RX10_93 (m_X10_adds hM (by omega) (by omega) (by omega) (by omega) (by omega) (by omega) (by omega)) ⟨(show K (r) = 9 from hM 0 (by decide)), by decide, by decide, rfl⟩ rfl (Nat.le_of_ble_eq_true rfl) (by decide) ⟨Nat.zero_le _, Nat.zero_le _⟩ (fun r9 M93 q93 => ?_)
    obtain ⟨rfl, rfl⟩ := q93
    exact J_iret hX hQ dX10_carryOut_96 ⟨rfl, ⟨_, rfl⟩, fun i i1 _ => ad_row i1, fun S1 hA => by rw [show S1 = _ from hA]; exact RS_ad _ hR (by omega)⟩ (Nat.zero_le _) (Nat.zero_le _)
  · have nw : wnm 2 = 6 := rfl
    have hv0 : 0 ≤ M (r + 11) 0 ∧ M (r + 11) 0 < 1000 := hv 0 (by decide)
    have hv1 : 0 ≤ M (r + 11) 1 ∧ M (r + 11) 1 < 1000 := hv 1 (by decide)
    have hv2 : 0 ≤ M (r + 11) 2 ∧ M (r + 11) 2 < 1000 := hv 2 (by decide)
    have hv3 : 0 ≤ M (r + 11) 3 ∧ M (r + 11) 3 < 1000 := hv 3 (by decide)
    have hv4 : 0 ≤ M (r + 11) 4 ∧ M (r + 11) 4 < 1000 := hv 4 (by decide)
    have hv5 : 0 ≤ M (r + 11) 5 ∧ M (r + 11) 5 < 1000 := hv 5 (by decide)
    refine J_tin hX (93) 97 dX10_carryOut_4 (by decide) (by decide) rfl (by decide) ?_
    have g0 := (gA_0 (gB_0 (show gB S (M (r + 11) 0) (M (r + 11) 1) (M (r + 11) 2) (M (r + 11) 3) (M (r + 11) 4) (M (r + 11) 5) = 0 from hf)).1).2.2.2.1
    refine J_aload_n hX dX10_carryOut_97 rfl ?_
    refine J_aload_n hX dX10_carryOut_98 rfl ?_
    refine J_gr hX (r + 11) fr_RX10_40 dX10_carryOut_99 (show K (r) = 9 from hM 0 (by decide)) rfl ?_
    refine J_iconst hX dX10_carryOut_102 ?_
    refine J_iald hX dX10_carryOut_103 (show K (r + 11) = 1000 + 6 from hM 11 (by decide)) ⟨by omega, by omega⟩ (by decide) (fun r103 => ?_)
    refine J_aload_n hX dX10_carryOut_104 rfl ?_
    refine J_gr hX (r + 11) fr_RX10_40 dX10_carryOut_105 (show K (r) = 9 from hM 0 (by decide)) rfl ?_
    refine J_iconst hX dX10_carryOut_108 ?_
    refine J_iald hX dX10_carryOut_109 (show K (r + 11) = 1000 + 6 from hM 11 (by decide)) ⟨by omega, by omega⟩ (by decide) (fun r109 => ?_)
    refine J_aload_n hX dX10_carryOut_110 rfl ?_
    refine J_gr hX (r + 11) fr_RX10_40 dX10_carryOut_111 (show K (r) = 9 from hM 0 (by decide)) rfl ?_
    refine J_iconst hX dX10_carryOut_114 ?_
    refine J_iald hX dX10_carryOut_115 (show K (r + 11) = 1000 + 6 from hM 11 (by decide)) ⟨by omega, by omega⟩ (by decide) (fun r115 => ?_)
    refine J_aload_n hX dX10_carryOut_116 rfl ?_
    refine J_gr hX (r + 11) fr_RX10_40 dX10_carryOut_117 (show K (r) = 9 from hM 0 (by decide)) rfl ?_
    refine J_iconst hX dX10_carryOut_120 ?_
    refine J_iald hX dX10_carryOut_121 (show K (r + 11) = 1000 + 6 from hM 11 (by decide)) ⟨by omega, by omega⟩ (by decide) (fun r121 => ?_)
    refine J_aload_n hX dX10_carryOut_122 rfl ?_
    refine J_gr hX (r + 11) fr_RX10_40 dX10_carryOut_123 (show K (r) = 9 from hM 0 (by decide)) rfl ?_
    refine J_iconst hX dX10_carryOut_126 ?_
    refine J_iald hX dX10_carryOut_127 (show K (r + 11) = 1000 + 6 from hM 11 (by decide)) ⟨by omega, by omega⟩ (by decide) (fun r127 => ?_)
    refine J_aload_n hX dX10_carryOut_128 rfl ?_
    refine J_gr hX (r + 11) fr_RX10_40 dX10_carryOut_129 (show K (r) = 9 from hM 0 (by decide)) rfl ?_
    refine J_iconst hX dX10_carryOut_132 ?_
    refine J_iald hX dX10_carryOut_133 (show K (r + 11) = 1000 + 6 from hM 11 (by decide)) ⟨by omega, by omega⟩ (by decide) (fun r133 => ?_)
    refine J_callVM hX _ dX10_carryOut_134 cw_RX10_93 (m_X10_adds hM (by omega) (by omega) (by omega) (by omega) (by omega) (by omega) (by omega)) ⟨(show K (r) = 9 from hM 0 (by decide)), by decide, by decide, rfl⟩ rfl (Nat.le_of_ble_eq_true rfl) (by decide) ⟨Nat.zero_le _, Nat.zero_le _⟩ (fun r9 M134 q134 => ?_)
    obtain ⟨rfl, rfl⟩ := q134
    exact J_iret hX hQ dX10_carryOut_137 ⟨rfl, ⟨_, rfl⟩, fun i i1 _ => ad_row i1, fun S1 hA => by rw [show S1 = _ from hA]; exact RS_ad _ hR (by omega)⟩ (Nat.zero_le _) (Nat.zero_le _)
  · have nw : wnm 3 = 4 := rfl
    have hv0 : 0 ≤ M (r + 11) 0 ∧ M (r + 11) 0 < 1000 := hv 0 (by decide)
    have hv1 : 0 ≤ M (r + 11) 1 ∧ M (r + 11) 1 < 1000 := hv 1 (by decide)
    have hv2 : 0 ≤ M (r + 11) 2 ∧ M (r + 11) 2 < 1000 := hv 2 (by decide)
    have hv3 : 0 ≤ M (r + 11) 3 ∧ M (r + 11) 3 < 1000 := hv 3 (by decide)
    refine J_tin hX (134) 138 dX10_carryOut_4 (by decide) (by decide) rfl (by decide) ?_
    have g0 : hs S (M (r + 11) 0) := hf.1
    refine J_aload_n hX dX10_carryOut_138 rfl ?_
    refine J_aload_n hX dX10_carryOut_139 rfl ?_
    refine J_gr hX (r + 11) fr_RX10_40 dX10_carryOut_140 (show K (r) = 9 from hM 0 (by decide)) rfl ?_
    refine J_iconst hX dX10_carryOut_143 ?_
    refine J_iald hX dX10_carryOut_144 (show K (r + 11) = 1000 + 6 from hM 11 (by decide)) ⟨by omega, by omega⟩ (by decide) (fun r144 => ?_)
    refine J_aload_n hX dX10_carryOut_145 rfl ?_
    refine J_gr hX (r + 11) fr_RX10_40 dX10_carryOut_146 (show K (r) = 9 from hM 0 (by decide)) rfl ?_
    refine J_iconst hX dX10_carryOut_149 ?_
    refine J_iald hX dX10_carryOut_150 (show K (r + 11) = 1000 + 6 from hM 11 (by decide)) ⟨by omega, by omega⟩ (by decide) (fun r150 => ?_)
    refine J_aload_n hX dX10_carryOut_151 rfl ?_
    refine J_gr hX (r + 11) fr_RX10_40 dX10_carryOut_152 (show K (r) = 9 from hM 0 (by decide)) rfl ?_
    refine J_iconst hX dX10_carryOut_155 ?_
    refine J_iald hX dX10_carryOut_156 (show K (r + 11) = 1000 + 6 from hM 11 (by decide)) ⟨by omega, by omega⟩ (by decide) (fun r156 => ?_)
    refine J_aload_n hX dX10_carryOut_157 rfl ?_
    refine J_gr hX (r + 11) fr_RX10_40 dX10_carryOut_158 (show K (r) = 9 from hM 0 (by decide)) rfl ?_
    refine J_iconst hX dX10_carryOut_161 ?_
    refine J_iald hX dX10_carryOut_162 (show K (r + 11) = 1000 + 6 from hM 11 (by decide)) ⟨by omega, by omega⟩ (by decide) (fun r162 => ?_)
    refine J_ineg hX dX10_carryOut_163 ?_
    refine J_callVM hX _ dX10_carryOut_164 cw_RX10_103 (m_X10_moves hM (by omega) (by omega) (by omega) (by omega)) ⟨(show K (r) = 9 from hM 0 (by decide)), by decide, by decide, rfl⟩ rfl (Nat.le_of_ble_eq_true rfl) (by decide) ⟨Nat.zero_le _, Nat.zero_le _⟩ (fun r9 M164 q164 => ?_)
    obtain ⟨rfl, rfl⟩ := q164
    exact J_iret hX hQ dX10_carryOut_167 ⟨rfl, ⟨_, rfl⟩, fun i i1 _ => by rw [mset_ne i1, mset_ne i1, mset_ne i1], fun S1 hA => by rw [show S1 = _ from hA]; simp only [mset_row]; exact RS_mov (n := M (r + 11) 0) hR (by omega)⟩ (Nat.zero_le _) (Nat.zero_le _)
  · have nw : wnm 4 = 3 := rfl
    have hv0 : 0 ≤ M (r + 11) 0 ∧ M (r + 11) 0 < 1000 := hv 0 (by decide)
    have hv1 : 0 ≤ M (r + 11) 1 ∧ M (r + 11) 1 < 1000 := hv 1 (by decide)
    have hv2 : 0 ≤ M (r + 11) 2 ∧ M (r + 11) 2 < 1000 := hv 2 (by decide)
    refine J_tin hX (164) 168 dX10_carryOut_4 (by decide) (by decide) rfl (by decide) ?_
    have g0 : S 11 0 < 8 := hf.2.2
    refine J_aload_n hX dX10_carryOut_168 rfl ?_
    refine J_aload_n hX dX10_carryOut_169 rfl ?_
    refine J_gr hX (r + 11) fr_RX10_40 dX10_carryOut_170 (show K (r) = 9 from hM 0 (by decide)) rfl ?_
    refine J_iconst hX dX10_carryOut_173 ?_
    refine J_iald hX dX10_carryOut_174 (show K (r + 11) = 1000 + 6 from hM 11 (by decide)) ⟨by omega, by omega⟩ (by decide) (fun r174 => ?_)
    refine J_ineg hX dX10_carryOut_175 ?_
    refine J_aload_n hX dX10_carryOut_176 rfl ?_
    refine J_gr hX (r + 11) fr_RX10_40 dX10_carryOut_177 (show K (r) = 9 from hM 0 (by decide)) rfl ?_
    refine J_iconst hX dX10_carryOut_180 ?_
    refine J_iald hX dX10_carryOut_181 (show K (r + 11) = 1000 + 6 from hM 11 (by decide)) ⟨by omega, by omega⟩ (by decide) (fun r181 => ?_)
    refine J_aload_n hX dX10_carryOut_182 rfl ?_
    refine J_gr hX (r + 11) fr_RX10_40 dX10_carryOut_183 (show K (r) = 9 from hM 0 (by decide)) rfl ?_
    refine J_iconst hX dX10_carryOut_186 ?_
    refine J_iald hX dX10_carryOut_187 (show K (r + 11) = 1000 + 6 from hM 11 (by decide)) ⟨by omega, by omega⟩ (by decide) (fun r187 => ?_)
    refine J_callVM hX _ dX10_carryOut_188 cw_RX10_120 (m_X10_addsScene hM (by omega) (by omega) (by omega) (by omega)) ⟨(show K (r) = 9 from hM 0 (by decide)), by decide, by decide, rfl⟩ rfl (Nat.le_of_ble_eq_true rfl) (by decide) ⟨Nat.zero_le _, Nat.zero_le _⟩ (fun r9 M188 q188 => ?_)
    obtain ⟨rfl, rfl⟩ := q188
    exact J_iret hX hQ dX10_carryOut_191 ⟨rfl, ⟨_, rfl⟩, fun i i1 _ => as_row i1, fun S1 hA => by rw [show S1 = _ from hA]; exact RS_as hR (by omega) (by omega)⟩ (Nat.zero_le _) (Nat.zero_le _)
  · have nw : wnm 5 = 2 := rfl
    have hv0 : 0 ≤ M (r + 11) 0 ∧ M (r + 11) 0 < 1000 := hv 0 (by decide)
    have hv1 : 0 ≤ M (r + 11) 1 ∧ M (r + 11) 1 < 1000 := hv 1 (by decide)
    refine J_tin hX (188) 192 dX10_carryOut_4 (by decide) (by decide) rfl (by decide) ?_
    have g0 : fSe (M (r + 11) 0) (M (r + 11) 1) := hf
    have g1 := fSe_w g0
    refine J_aload_n hX dX10_carryOut_192 rfl ?_
    refine J_aload_n hX dX10_carryOut_193 rfl ?_
    refine J_gr hX (r + 11) fr_RX10_40 dX10_carryOut_194 (show K (r) = 9 from hM 0 (by decide)) rfl ?_
    refine J_iconst hX dX10_carryOut_197 ?_
    refine J_iald hX dX10_carryOut_198 (show K (r + 11) = 1000 + 6 from hM 11 (by decide)) ⟨by omega, by omega⟩ (by decide) (fun r198 => ?_)
    refine J_aload_n hX dX10_carryOut_199 rfl ?_
    refine J_gr hX (r + 11) fr_RX10_40 dX10_carryOut_200 (show K (r) = 9 from hM 0 (by decide)) rfl ?_
    refine J_iconst hX dX10_carryOut_203 ?_
    refine J_iald hX dX10_carryOut_204 (show K (r + 11) = 1000 + 6 from hM 11 (by decide)) ⟨by omega, by omega⟩ (by decide) (fun r204 => ?_)
    refine J_callVM hX _ dX10_carryOut_205 cw_RX10_126 (m_X10_sets hM g1 (by omega)) ⟨(show K (r) = 9 from hM 0 (by decide)), by decide, by decide, rfl⟩ rfl (Nat.le_of_ble_eq_true rfl) (by decide) ⟨Nat.zero_le _, Nat.zero_le _⟩ (fun r9 M205 q205 => ?_)
    obtain ⟨rfl, rfl⟩ := q205
    exact J_iret hX hQ dX10_carryOut_208 ⟨rfl, ⟨_, rfl⟩, fun i i1 _ => by rw [mset_ne i1], fun S1 hA => by rw [show S1 = _ from hA]; rw [mset_row]; exact RS_set hR g1⟩ (Nat.zero_le _) (Nat.zero_le _)
  · have nw : wnm 6 = 3 := rfl
    have hv0 : 0 ≤ M (r + 11) 0 ∧ M (r + 11) 0 < 1000 := hv 0 (by decide)
    have hv1 : 0 ≤ M (r + 11) 1 ∧ M (r + 11) 1 < 1000 := hv 1 (by decide)
    have hv2 : 0 ≤ M (r + 11) 2 ∧ M (r + 11) 2 < 1000 := hv 2 (by decide)
    refine J_tin hX (205) 209 dX10_carryOut_4 (by decide) (by decide) rfl (by decide) ?_
    refine J_aload_n hX dX10_carryOut_209 rfl ?_
    refine J_aload_n hX dX10_carryOut_210 rfl ?_
    refine J_gr hX (r + 11) fr_RX10_40 dX10_carryOut_211 (show K (r) = 9 from hM 0 (by decide)) rfl ?_
    refine J_iconst hX dX10_carryOut_214 ?_
    refine J_iald hX dX10_carryOut_215 (show K (r + 11) = 1000 + 6 from hM 11 (by decide)) ⟨by omega, by omega⟩ (by decide) (fun r215 => ?_)
    refine J_aload_n hX dX10_carryOut_216 rfl ?_
    refine J_gr hX (r + 11) fr_RX10_40 dX10_carryOut_217 (show K (r) = 9 from hM 0 (by decide)) rfl ?_
    refine J_iconst hX dX10_carryOut_220 ?_
    refine J_iald hX dX10_carryOut_221 (show K (r + 11) = 1000 + 6 from hM 11 (by decide)) ⟨by omega, by omega⟩ (by decide) (fun r221 => ?_)
    refine J_aload_n hX dX10_carryOut_222 rfl ?_
    refine J_gr hX (r + 11) fr_RX10_40 dX10_carryOut_223 (show K (r) = 9 from hM 0 (by decide)) rfl ?_
    refine J_iconst hX dX10_carryOut_226 ?_
    refine J_iald hX dX10_carryOut_227 (show K (r + 11) = 1000 + 6 from hM 11 (by decide)) ⟨by omega, by omega⟩ (by decide) (fun r227 => ?_)
    refine J_callVM hX _ dX10_carryOut_228 cw_RX10_132 (m_X10_setsTitle hM (by omega) (by omega) (by omega)) ⟨(show K (r) = 9 from hM 0 (by decide)), by decide, by decide, rfl⟩ rfl (Nat.le_of_ble_eq_true rfl) (by decide) ⟨Nat.zero_le _, Nat.zero_le _⟩ (fun r9 M228 q228 => ?_)
    obtain ⟨rfl, rfl⟩ := q228
    exact J_iret hX hQ dX10_carryOut_231 ⟨rfl, ⟨_, rfl⟩, fun i i1 _ => by rw [mset_ne i1, mset_ne i1, mset_ne i1], fun S1 hA => by rw [show S1 = _ from hA]; simp only [mset_row]; exact RS_tit hR⟩ (Nat.zero_le _) (Nat.zero_le _)
  · have nw : wnm 7 = 1 := rfl
    have hv0 : 0 ≤ M (r + 11) 0 ∧ M (r + 11) 0 < 1000 := hv 0 (by decide)
    refine J_tin hX (228) 232 dX10_carryOut_4 (by decide) (by decide) rfl (by decide) ?_
    have g0 : hs S (M (r + 11) 0) := hf
    refine J_aload_n hX dX10_carryOut_232 rfl ?_
    refine J_aload_n hX dX10_carryOut_233 rfl ?_
    refine J_gr hX (r + 11) fr_RX10_40 dX10_carryOut_234 (show K (r) = 9 from hM 0 (by decide)) rfl ?_
    refine J_iconst hX dX10_carryOut_237 ?_
    refine J_iald hX dX10_carryOut_238 (show K (r + 11) = 1000 + 6 from hM 11 (by decide)) ⟨by omega, by omega⟩ (by decide) (fun r238 => ?_)
    refine J_callVM hX _ dX10_carryOut_239 cw_RX10_113 (m_X10_removes hM hR hW g0) ⟨(show K (r) = 9 from hM 0 (by decide)), by decide, by decide, rfl⟩ rfl (Nat.le_of_ble_eq_true rfl) (by decide) ⟨Nat.zero_le _, Nat.zero_le _⟩ (fun r9 M239 q239 => ?_)
    obtain ⟨rfl, fq, dq⟩ := q239
    exact J_iret hX hQ dX10_carryOut_242 ⟨rfl, ⟨_, rfl⟩, fq, dq⟩ (Nat.zero_le _) (Nat.zero_le _)
  · have nw : wnm 8 = 1 := rfl
    have hv0 : 0 ≤ M (r + 11) 0 ∧ M (r + 11) 0 < 1000 := hv 0 (by decide)
    refine J_tout hX 243 dX10_carryOut_4 (by decide) (by decide) (by decide) ?_
    have g0 : 1 ≤ (M (r + 11) 0) ∧ (M (r + 11) 0) ≤ 200 := hf
    refine J_aload_n hX dX10_carryOut_243 rfl ?_
    refine J_aload_n hX dX10_carryOut_244 rfl ?_
    refine J_gr hX (r + 11) fr_RX10_40 dX10_carryOut_245 (show K (r) = 9 from hM 0 (by decide)) rfl ?_
    refine J_iconst hX dX10_carryOut_248 ?_
    refine J_iald hX dX10_carryOut_249 (show K (r + 11) = 1000 + 6 from hM 11 (by decide)) ⟨by omega, by omega⟩ (by decide) (fun r249 => ?_)
    refine J_callVM hX _ dX10_carryOut_250 cw_RX10_148 (m_X10_ticksOn (t := (M (r + 11) 0)) hM hR hW (by omega) (by omega) hz) ⟨(show K (r) = 9 from hM 0 (by decide)), by decide, by decide, rfl⟩ rfl (Nat.le_of_ble_eq_true rfl) (by decide) ⟨Nat.zero_le _, Nat.zero_le _⟩ (fun r9 M250 q250 => ?_)
    obtain ⟨rfl, fq, dq⟩ := q250
    exact J_iret hX hQ dX10_carryOut_253 ⟨rfl, ⟨_, rfl⟩, fun i i1 _ => fq i i1, fun S1 hA => by rw [show S1 = _ from hA]; exact dq⟩ (Nat.zero_le _) (Nat.zero_le _)
