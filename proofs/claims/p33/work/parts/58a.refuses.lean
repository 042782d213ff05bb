/-! refuses: calls that change nothing -/
theorem AskH_v {E : EE} {Z : QZ} {u : Nat} {y : MethodName} {cy : ByteArray} {ny : Nat} {rety : Option FieldType} {hh : List (Nat × Nat × Nat × Nat)} {As : List Value} {v v2 : Int} (h : AskH E Z u y cy ny rety hh As (vI v)) (e : v = v2) : AskH E Z u y cy ny rety hh As (vI v2) := e ▸ h
theorem noN (S : MM) : ¬ hs S (S 1 0) := fun z => absurd z.2.1 (by omega)
theorem noM (S : MM) : ¬ hs S (-1) := fun z => absurd z.1 (by decide)
theorem rf_g1 (S : MM) {u v w : Int} (h : S 1 0 ≠ -1000) : fGS S (S 1 0) u v w = 1 := if_pos ⟨h, noN S⟩
theorem rf_g2 (S : MM) {u v w : Int} (h : ¬ plc u v w) : fGS S (-1000) u v w = 2 := by
  unfold fGS
  rw [if_neg (fun z => z.1 rfl), if_pos (Or.inr h)]
theorem rf_b1 (S : MM) : fBS S (-1) 0 0 0 0 0 = 1 := by
  have e : fGS S (-1) 0 0 0 = 1 := if_pos ⟨by decide, noM S⟩
  unfold fBS
  rw [e, if_neg (fun z => z.1 rfl)]
theorem rf_b2 (S : MM) : fBS S (-1000) 0 0 0 1 101 = 2 := by
  have e : fGS S (-1000) 0 0 0 ≠ 1 := by
    unfold fGS
    rw [if_neg (fun z => z.1 rfl)]
    split
    · decide
    · split <;> decide
  unfold fBS
  exact if_pos ⟨e, by decide⟩
theorem rf_b3 (S : MM) : fBS S (-1000) 0 0 (-201) 1 1 = 2 := by
  have e : fGS S (-1000) 0 0 (-201) = 2 := rf_g2 S (by decide)
  unfold fBS
  rw [e, if_neg (fun z => z.2 (by decide))]
theorem rf_f1 {p : Prop} [Decidable p] (h : ¬ p) (k : Int) : f2l (if p then 0 else 1) k = 1 := by
  rw [if_neg h]; rfl

set_option maxHeartbeats 16000000 in
set_option maxRecDepth 100000 in
theorem m_L_refuses {E : EE} {x : Nat} {T : Int} {S : MM} {c : Int} {P : MM} {K : Nat → Nat} {M : MM} {n0 : Nat}  (hE : ∀ U, SF E U → ThF E U ∧ NcF U) (hI : IV n0 T K M x S c P) (hE2 : ∀ U, SF E U → CF E U) (hT9 : T + 300 ≤ 1000000000) (hTt : T + 200 ≤ 1000000000) : CnL E 10 yL_refuses cL_refuses 4 (some .boolean) [.ref x] K M (fun r K2 M2 => K2 = K ∧ r = some (vI 1) ∧ ∃ n2, IV n2 T K2 M2 x S c P) 1000 6000 := by
  refine CnL_of RL (plainFor_of_name (by decide)) rfl (Nat.le_of_ble_eq_true rfl) (fun X hX0 hQ hXK hP hl => ?_)
  obtain ⟨Z, hZ⟩ : ∃ Z : QZ, Z = (x, T, S, c, P, 1000, 6000) := ⟨_, rfl⟩
  have hX : XO E X cL_refuses RL 4 10 Z.c0 Z.s0 := by rw [hZ]; exact hX0
  have hW := hI.wfs
  have w9 := hW.2.1
  unfold WFSs at w9
  have fin : ∀ (q pc : Nat) (L : List (Nat × Value)), decode cL_refuses pc = .ok (.ireturn, 1) → QJ E X Z K q pc L [vI 1] := by
    intro q pc L hd n M2 a b hI2 ha hb
    rw [hZ] at hI2 ha hb
    exact J_zret hX0 hQ hd (Or.inr rfl) ⟨rfl, rfl, n, hI2⟩ (by have h2 : a + 2 * q ≤ 1000 := ha; omega) (by have h2 : b + 12 * q ≤ 6000 := hb; omega)
  have main : QJ E X Z K 500 0 [(0, .ref x)] [] := by
    subst hZ
    refine Q_aload_n hX dL_refuses_0 rfl ?_
    refine Q_iconst hX dL_refuses_1 ?_
    refine Q_ask hX hl (u := 1) _ dL_refuses_2 cwL_whole (a_whole (k := 2) hE (by decide) (by decide) (v := S 1 0) (wv_2 (by decide))) rfl (Nat.le_of_ble_eq_true rfl) ⟨by decide, by decide⟩ ?_
    refine Q_istore_n hX dL_refuses_5 (by decide) ?_
    refine Q_aload_n hX dL_refuses_6 rfl ?_
    refine Q_iconst hX dL_refuses_7 ?_
    refine Q_ask hX hl (u := 1) _ dL_refuses_8 cwL_whole (a_whole (k := 5) hE (by decide) (by decide) (v := S 11 1) (wv_5 (by decide))) rfl (Nat.le_of_ble_eq_true rfl) ⟨by decide, by decide⟩ ?_
    refine Q_istore_n hX dL_refuses_11 (by decide) ?_
    refine Q_aload_n hX dL_refuses_12 rfl ?_
    refine Q_sipush hX dL_refuses_13 rfl ?_
    refine Q_bipush hX dL_refuses_16 rfl ?_
    refine Q_ask hX hl (u := 20) _ dL_refuses_18 cwL_begin (AskH_v (no_begin hE (by decide) (by decide) (by decide)) (v2 := -90100) (by decide)) rfl (Nat.le_of_ble_eq_true rfl) ⟨by decide, by decide⟩ ?_
    refine Q_ldcI hX kI_17 dL_refuses_21 ?_
    refine Q_icmp_ne hX 234 dL_refuses_23 (by decide) (by decide) (by decide) (fun h => absurd (by decide) h) (fun _ => ?_)
    refine Q_aload_n hX dL_refuses_26 rfl ?_
    refine Q_bipush hX dL_refuses_27 rfl ?_
    refine Q_bipush hX dL_refuses_29 rfl ?_
    refine Q_ask hX hl (u := 20) _ dL_refuses_31 cwL_begin (AskH_v (no_begin hE (by decide) (by decide) (by decide)) (v2 := -90100) (by decide)) rfl (Nat.le_of_ble_eq_true rfl) ⟨by decide, by decide⟩ ?_
    refine Q_ldcI hX kI_17 dL_refuses_34 ?_
    refine Q_icmp_ne hX 234 dL_refuses_36 (by decide) (by decide) (by decide) (fun h => absurd (by decide) h) (fun _ => ?_)
    refine Q_aload_n hX dL_refuses_39 rfl ?_
    refine Q_iload_n hX dL_refuses_40 rfl ?_
    refine Q_sipush hX dL_refuses_41 rfl ?_
    refine Q_iconst hX dL_refuses_44 ?_
    refine Q_iconst hX dL_refuses_45 ?_
    refine Q_ask hX hl (u := 20) _ dL_refuses_46 cwL_addGroup (AskH_v (no_addGroup hE (by omega) (by decide) (by decide) (by decide) (by rw [rf_g1 S (by omega)]; decide)) (v2 := -90300) (by rw [rf_g1 S (by omega)]; rfl)) rfl (Nat.le_of_ble_eq_true rfl) ⟨by decide, by decide⟩ ?_
    refine Q_ldcI hX kI_24 dL_refuses_49 ?_
    refine Q_icmp_ne hX 234 dL_refuses_51 (by decide) (by decide) (by decide) (fun h => absurd (by decide) h) (fun _ => ?_)
    refine Q_aload_n hX dL_refuses_54 rfl ?_
    refine Q_sipush hX dL_refuses_55 rfl ?_
    refine Q_sipush hX dL_refuses_58 rfl ?_
    refine Q_iconst hX dL_refuses_61 ?_
    refine Q_iconst hX dL_refuses_62 ?_
    refine Q_ask hX hl (u := 20) _ dL_refuses_63 cwL_addGroup (AskH_v (no_addGroup hE (by decide) (by decide) (by decide) (by decide) (by rw [rf_g2 S (by decide)]; decide)) (v2 := -90100) (by rw [rf_g2 S (by decide)]; rfl)) rfl (Nat.le_of_ble_eq_true rfl) ⟨by decide, by decide⟩ ?_
    refine Q_ldcI hX kI_17 dL_refuses_66 ?_
    refine Q_icmp_ne hX 234 dL_refuses_68 (by decide) (by decide) (by decide) (fun h => absurd (by decide) h) (fun _ => ?_)
    refine Q_aload_n hX dL_refuses_71 rfl ?_
    refine Q_iconst hX dL_refuses_72 ?_
    refine Q_iconst hX dL_refuses_73 ?_
    refine Q_iconst hX dL_refuses_74 ?_
    refine Q_iconst hX dL_refuses_75 ?_
    refine Q_iconst hX dL_refuses_76 ?_
    refine Q_iconst hX dL_refuses_77 ?_
    refine Q_ask hX hl (u := 20) _ dL_refuses_78 cwL_addBox (AskH_v (no_addBox hE (by decide) (by decide) (by decide) (by decide) (by decide) (by decide) (by rw [rf_b1 S]; decide)) (v2 := -90300) (by rw [rf_b1 S]; rfl)) rfl (Nat.le_of_ble_eq_true rfl) ⟨by decide, by decide⟩ ?_
    refine Q_ldcI hX kI_24 dL_refuses_81 ?_
    refine Q_icmp_ne hX 234 dL_refuses_83 (by decide) (by decide) (by decide) (fun h => absurd (by decide) h) (fun _ => ?_)
    refine Q_aload_n hX dL_refuses_86 rfl ?_
    refine Q_sipush hX dL_refuses_87 rfl ?_
    refine Q_iconst hX dL_refuses_90 ?_
    refine Q_iconst hX dL_refuses_91 ?_
    refine Q_iconst hX dL_refuses_92 ?_
    refine Q_iconst hX dL_refuses_93 ?_
    refine Q_bipush hX dL_refuses_94 rfl ?_
    refine Q_ask hX hl (u := 20) _ dL_refuses_96 cwL_addBox (AskH_v (no_addBox hE (by decide) (by decide) (by decide) (by decide) (by decide) (by decide) (by rw [rf_b2 S]; decide)) (v2 := -90100) (by rw [rf_b2 S]; rfl)) rfl (Nat.le_of_ble_eq_true rfl) ⟨by decide, by decide⟩ ?_
    refine Q_ldcI hX kI_17 dL_refuses_99 ?_
    refine Q_icmp_ne hX 234 dL_refuses_101 (by decide) (by decide) (by decide) (fun h => absurd (by decide) h) (fun _ => ?_)
    refine Q_aload_n hX dL_refuses_104 rfl ?_
    refine Q_sipush hX dL_refuses_105 rfl ?_
    refine Q_iconst hX dL_refuses_108 ?_
    refine Q_iconst hX dL_refuses_109 ?_
    refine Q_sipush hX dL_refuses_110 rfl ?_
    refine Q_iconst hX dL_refuses_113 ?_
    refine Q_iconst hX dL_refuses_114 ?_
    refine Q_ask hX hl (u := 20) _ dL_refuses_115 cwL_addBox (AskH_v (no_addBox hE (by decide) (by decide) (by decide) (by decide) (by decide) (by decide) (by rw [rf_b3 S]; decide)) (v2 := -90100) (by rw [rf_b3 S]; rfl)) rfl (Nat.le_of_ble_eq_true rfl) ⟨by decide, by decide⟩ ?_
    refine Q_ldcI hX kI_17 dL_refuses_118 ?_
    refine Q_icmp_ne hX 234 dL_refuses_120 (by decide) (by decide) (by decide) (fun h => absurd (by decide) h) (fun _ => ?_)
    refine Q_aload_n hX dL_refuses_123 rfl ?_
    refine Q_iload_n hX dL_refuses_124 rfl ?_
    refine Q_sipush hX dL_refuses_125 rfl ?_
    refine Q_iconst hX dL_refuses_128 ?_
    refine Q_iconst hX dL_refuses_129 ?_
    refine Q_ask hX hl (u := 20) _ dL_refuses_130 cwL_move (AskH_v (no_move hE (by omega) (by decide) (by decide) (by decide) (by rw [show fPS S (S 1 0) 999 0 0 = 1 from if_pos (noN S)]; decide)) (v2 := -90300) (by rw [show fPS S (S 1 0) 999 0 0 = 1 from if_pos (noN S)]; rfl)) rfl (Nat.le_of_ble_eq_true rfl) ⟨by decide, by decide⟩ ?_
    refine Q_ldcI hX kI_24 dL_refuses_133 ?_
    refine Q_icmp_ne hX 234 dL_refuses_135 (by decide) (by decide) (by decide) (fun h => absurd (by decide) h) (fun _ => ?_)
    refine Q_aload_n hX dL_refuses_138 rfl ?_
    refine Q_iload_n hX dL_refuses_139 rfl ?_
    refine Q_bipush hX dL_refuses_140 rfl ?_
    refine Q_ask hX hl (u := 20) _ dL_refuses_142 cwL_setShade (AskH_v (no_setShade hE (by omega) (by decide) (by rw [show fCoS S (S 1 0) 99 = 1 from if_pos (noN S)]; decide)) (v2 := -90300) (by rw [show fCoS S (S 1 0) 99 = 1 from if_pos (noN S)]; rfl)) rfl (Nat.le_of_ble_eq_true rfl) ⟨by decide, by decide⟩ ?_
    refine Q_ldcI hX kI_24 dL_refuses_145 ?_
    refine Q_icmp_ne hX 234 dL_refuses_147 (by decide) (by decide) (by decide) (fun h => absurd (by decide) h) (fun _ => ?_)
    refine Q_aload_n hX dL_refuses_150 rfl ?_
    refine Q_iconst hX dL_refuses_151 ?_
    refine Q_ask hX hl (u := 20) _ dL_refuses_152 cwL_removeNode (AskH_v (no_removeNode hE (by decide) (by rw [if_neg (noM S)]; decide)) (v2 := -90300) (by rw [if_neg (noM S)]; rfl)) rfl (Nat.le_of_ble_eq_true rfl) ⟨by decide, by decide⟩ ?_
    refine Q_ldcI hX kI_24 dL_refuses_155 ?_
    refine Q_icmp_ne hX 234 dL_refuses_157 (by decide) (by decide) (by decide) (fun h => absurd (by decide) h) (fun _ => ?_)
    refine Q_aload_n hX dL_refuses_160 rfl ?_
    refine Q_bipush hX dL_refuses_161 rfl ?_
    refine Q_iconst hX dL_refuses_163 ?_
    refine Q_iconst hX dL_refuses_164 ?_
    refine Q_ask hX hl (u := 20) _ dL_refuses_165 cwL_addScene (AskH_v (no_addScene hE (by decide) (by decide) (by decide) (by rw [show fSS S (-21) 0 1 = 2 from if_neg (by decide)]; decide)) (v2 := -90100) (by rw [show fSS S (-21) 0 1 = 2 from if_neg (by decide)]; rfl)) rfl (Nat.le_of_ble_eq_true rfl) ⟨by decide, by decide⟩ ?_
    refine Q_ldcI hX kI_17 dL_refuses_168 ?_
    refine Q_icmp_ne hX 234 dL_refuses_170 (by decide) (by decide) (by decide) (fun h => absurd (by decide) h) (fun _ => ?_)
    refine Q_aload_n hX dL_refuses_173 rfl ?_
    refine Q_iconst hX dL_refuses_174 ?_
    refine Q_iconst hX dL_refuses_175 ?_
    refine Q_ask hX hl (u := 20) _ dL_refuses_176 cwL_set (AskH_v (no_set hE (by decide) (by decide) hE2 (by decide)) (v2 := -90100) (by decide)) rfl (Nat.le_of_ble_eq_true rfl) ⟨by decide, by decide⟩ ?_
    refine Q_ldcI hX kI_17 dL_refuses_179 ?_
    refine Q_icmp_ne hX 234 dL_refuses_181 (by decide) (by decide) (by decide) (fun h => absurd (by decide) h) (fun _ => ?_)
    refine Q_aload_n hX dL_refuses_184 rfl ?_
    refine Q_iconst hX dL_refuses_185 ?_
    refine Q_bipush hX dL_refuses_186 rfl ?_
    refine Q_ask hX hl (u := 20) _ dL_refuses_188 cwL_set (AskH_v (no_set hE (by decide) (by decide) hE2 (by decide)) (v2 := -90100) (by decide)) rfl (Nat.le_of_ble_eq_true rfl) ⟨by decide, by decide⟩ ?_
    refine Q_ldcI hX kI_17 dL_refuses_191 ?_
    refine Q_icmp_ne hX 234 dL_refuses_193 (by decide) (by decide) (by decide) (fun h => absurd (by decide) h) (fun _ => ?_)
    refine Q_aload_n hX dL_refuses_196 rfl ?_
    refine Q_iconst hX dL_refuses_197 ?_
    refine Q_iconst hX dL_refuses_198 ?_
    refine Q_iconst hX dL_refuses_199 ?_
    refine Q_ask hX hl (u := 20) _ dL_refuses_200 cwL_setTitle (AskH_v (no_setTitle hE (by decide) (by decide) (by decide) (by rw [show fTS S (-1) 0 1 = 2 from if_neg (by omega)]; decide)) (v2 := -90100) (by rw [show fTS S (-1) 0 1 = 2 from if_neg (by omega)]; rfl)) rfl (Nat.le_of_ble_eq_true rfl) ⟨by decide, by decide⟩ ?_
    refine Q_ldcI hX kI_17 dL_refuses_203 ?_
    refine Q_icmp_ne hX 234 dL_refuses_205 (by decide) (by decide) (by decide) (fun h => absurd (by decide) h) (fun _ => ?_)
    refine Q_aload_n hX dL_refuses_208 rfl ?_
    refine Q_iconst hX dL_refuses_209 ?_
    refine Q_iconst hX dL_refuses_210 ?_
    refine Q_iconst hX dL_refuses_211 ?_
    refine Q_ask hX hl (u := 20) _ dL_refuses_212 cwL_setTitle (AskH_v (no_setTitle hE (by decide) (by decide) (by decide) (by rw [show fTS S 0 0 0 = 2 from if_neg (by omega)]; decide)) (v2 := -90100) (by rw [show fTS S 0 0 0 = 2 from if_neg (by omega)]; rfl)) rfl (Nat.le_of_ble_eq_true rfl) ⟨by decide, by decide⟩ ?_
    refine Q_ldcI hX kI_17 dL_refuses_215 ?_
    refine Q_icmp_ne hX 234 dL_refuses_217 (by decide) (by decide) (by decide) (fun h => absurd (by decide) h) (fun _ => ?_)
    refine Q_aload_n hX dL_refuses_220 rfl ?_
    refine Q_iconst hX dL_refuses_221 ?_
    refine Q_ask hX hl (u := 20) _ dL_refuses_222 cwL_tick (AskH_v (no_tick hE (by decide) hTt (by decide)) (v2 := -90100) (by decide)) rfl (Nat.le_of_ble_eq_true rfl) ⟨by decide, by decide⟩ ?_
    refine Q_ldcI hX kI_17 dL_refuses_225 ?_
    refine Q_icmp_ne hX 234 dL_refuses_227 (by decide) (by decide) (by decide) (fun h => absurd (by decide) h) (fun _ => ?_)
    refine Q_iconst hX dL_refuses_230 ?_
    refine Q_goto hX 235 dL_refuses_231 (by decide) ?_
    refine Q_istore_n hX dL_refuses_235 (by decide) ?_
    refine Q_iload_n hX dL_refuses_236 rfl ?_
    refine Q_if_eq hX 401 dL_refuses_237 (by decide) (by decide) (fun h => absurd h (by decide)) (fun _ => ?_)
    refine Q_aload_n hX dL_refuses_240 rfl ?_
    refine Q_iload_n hX dL_refuses_241 rfl ?_
    refine Q_bipush hX dL_refuses_242 rfl ?_
    refine Q_ask hX hl (u := 1) _ dL_refuses_244 cwL_node (AskH_v (no_node hE (by omega) (by decide) (by rw [rf_f1 (noN S)]; decide)) (v2 := -90300) (by rw [rf_f1 (noN S)]; rfl)) rfl (Nat.le_of_ble_eq_true rfl) ⟨by decide, by decide⟩ ?_
    refine Q_ldcI hX kI_24 dL_refuses_247 ?_
    refine Q_icmp_ne hX 401 dL_refuses_249 (by decide) (by decide) (by decide) (fun h => absurd (by decide) h) (fun _ => ?_)
    refine Q_aload_n hX dL_refuses_252 rfl ?_
    refine Q_iconst hX dL_refuses_253 ?_
    refine Q_ask hX hl (u := 1) _ dL_refuses_254 cwL_painted (AskH_v (no_painted hE (by decide) (by decide)) (v2 := -90100) (by decide)) rfl (Nat.le_of_ble_eq_true rfl) ⟨by decide, by decide⟩ ?_
    refine Q_ldcI hX kI_17 dL_refuses_257 ?_
    refine Q_icmp_ne hX 401 dL_refuses_259 (by decide) (by decide) (by decide) (fun h => absurd (by decide) h) (fun _ => ?_)
    refine Q_aload_n hX dL_refuses_262 rfl ?_
    refine Q_aload_n hX dL_refuses_263 rfl ?_
    refine Q_iconst hX dL_refuses_264 ?_
    refine Q_ask hX hl (u := 1) _ dL_refuses_265 cwL_whole (a_whole (k := 4) hE (by decide) (by decide) (v := S 11 0) (wv_4 (by decide))) rfl (Nat.le_of_ble_eq_true rfl) ⟨by decide, by decide⟩ ?_
    refine Q_bipush hX dL_refuses_268 rfl ?_
    refine Q_ask hX hl (u := 1) _ dL_refuses_270 cwL_scene (AskH_v (no_scene hE (by omega) (by decide) (by rw [rf_f1 (show ¬ hscS S (S 11 0) from fun z => absurd z.2.1 (by omega))]; decide)) (v2 := -90300) (by rw [rf_f1 (show ¬ hscS S (S 11 0) from fun z => absurd z.2.1 (by omega))]; rfl)) rfl (Nat.le_of_ble_eq_true rfl) ⟨by decide, by decide⟩ ?_
    refine Q_ldcI hX kI_24 dL_refuses_273 ?_
    refine Q_icmp_ne hX 401 dL_refuses_275 (by decide) (by decide) (by decide) (fun h => absurd (by decide) h) (fun _ => ?_)
    refine Q_aload_n hX dL_refuses_278 rfl ?_
    refine Q_bipush hX dL_refuses_279 rfl ?_
    refine Q_ask hX hl (u := 1) _ dL_refuses_281 cwL_title (AskH_v (no_title hE (by decide) (by decide)) (v2 := -90100) (by decide)) rfl (Nat.le_of_ble_eq_true rfl) ⟨by decide, by decide⟩ ?_
    refine Q_ldcI hX kI_17 dL_refuses_284 ?_
    refine Q_icmp_ne hX 401 dL_refuses_286 (by decide) (by decide) (by decide) (fun h => absurd (by decide) h) (fun _ => ?_)
    refine Q_aload_n hX dL_refuses_289 rfl ?_
    refine Q_bipush hX dL_refuses_290 rfl ?_
    refine Q_ask hX hl (u := 1) _ dL_refuses_292 cwL_whole (AskH_v (no_whole hE (by decide) (by decide)) (v2 := -90100) (by decide)) rfl (Nat.le_of_ble_eq_true rfl) ⟨by decide, by decide⟩ ?_
    refine Q_ldcI hX kI_17 dL_refuses_295 ?_
    refine Q_icmp_ne hX 401 dL_refuses_297 (by decide) (by decide) (by decide) (fun h => absurd (by decide) h) (fun _ => ?_)
    refine Q_aload_n hX dL_refuses_300 rfl ?_
    refine Q_iconst hX dL_refuses_301 ?_
    refine Q_iconst hX dL_refuses_302 ?_
    refine Q_iconst hX dL_refuses_303 ?_
    refine Q_ask hX hl (u := 1) _ dL_refuses_304 cwL_shade (AskH_v (no_shade hE (by decide) (by decide) (by decide) (by rw [show fCeS S (-1) 0 = 1 from if_neg (by omega)]; decide)) (v2 := -90300) (by rw [show fCeS S (-1) 0 = 1 from if_neg (by omega)]; rfl)) rfl (Nat.le_of_ble_eq_true rfl) ⟨by decide, by decide⟩ ?_
    refine Q_ldcI hX kI_24 dL_refuses_307 ?_
    refine Q_icmp_ne hX 401 dL_refuses_309 (by decide) (by decide) (by decide) (fun h => absurd (by decide) h) (fun _ => ?_)
    refine Q_aload_n hX dL_refuses_312 rfl ?_
    refine Q_iconst hX dL_refuses_313 ?_
    refine Q_aload_n hX dL_refuses_314 rfl ?_
    refine Q_iconst hX dL_refuses_315 ?_
    refine Q_ask hX hl (u := 1) _ dL_refuses_316 cwL_whole (a_whole (k := 0) hE (by decide) (by decide) (v := S 0 3) (wv_0 (by decide))) rfl (Nat.le_of_ble_eq_true rfl) ⟨by decide, by decide⟩ ?_
    refine Q_iconst hX dL_refuses_319 ?_
    refine Q_ask hX hl (u := 1) _ dL_refuses_320 cwL_shown (AskH_v (no_shown hE (by decide) (by omega) (by decide) (by rw [show fCeS S (S 0 3) 0 = 1 from if_neg (by omega)]; decide)) (v2 := -90300) (by rw [show fCeS S (S 0 3) 0 = 1 from if_neg (by omega)]; rfl)) rfl (Nat.le_of_ble_eq_true rfl) ⟨by decide, by decide⟩ ?_
    refine Q_ldcI hX kI_24 dL_refuses_323 ?_
    refine Q_icmp_ne hX 401 dL_refuses_325 (by decide) (by decide) (by decide) (fun h => absurd (by decide) h) (fun _ => ?_)
    refine Q_aload_n hX dL_refuses_328 rfl ?_
    refine Q_iconst hX dL_refuses_329 ?_
    refine Q_iconst hX dL_refuses_330 ?_
    refine Q_ask hX hl (u := 1) _ dL_refuses_331 cwL_ghost (AskH_v (no_ghost hE (by decide) (by decide) (by rw [show fCeS S 0 (-1) = 1 from if_neg (by omega)]; decide)) (v2 := -90300) (by rw [show fCeS S 0 (-1) = 1 from if_neg (by omega)]; rfl)) rfl (Nat.le_of_ble_eq_true rfl) ⟨by decide, by decide⟩ ?_
    refine Q_ldcI hX kI_24 dL_refuses_334 ?_
    refine Q_icmp_ne hX 401 dL_refuses_336 (by decide) (by decide) (by decide) (fun h => absurd (by decide) h) (fun _ => ?_)
    refine Q_aload_n hX dL_refuses_339 rfl ?_
    refine Q_bipush hX dL_refuses_340 rfl ?_
    refine Q_ask hX hl (u := 1) _ dL_refuses_342 cwL_ghosts (AskH_v (no_ghosts hE (by decide) (by decide)) (v2 := -90100) (by decide)) rfl (Nat.le_of_ble_eq_true rfl) ⟨by decide, by decide⟩ ?_
    refine Q_ldcI hX kI_17 dL_refuses_345 ?_
    refine Q_icmp_ne hX 401 dL_refuses_347 (by decide) (by decide) (by decide) (fun h => absurd (by decide) h) (fun _ => ?_)
    refine Q_aload_n hX dL_refuses_350 rfl ?_
    refine Q_bipush hX dL_refuses_351 rfl ?_
    refine Q_iconst hX dL_refuses_353 ?_
    refine Q_ask hX hl (u := 1) _ dL_refuses_354 cwL_percentageFor (AskH_v (no_percentageFor hE (by decide) (by decide) (by decide)) (v2 := -90100) (by decide)) rfl (Nat.le_of_ble_eq_true rfl) ⟨by decide, by decide⟩ ?_
    refine Q_ldcI hX kI_17 dL_refuses_357 ?_
    refine Q_icmp_ne hX 401 dL_refuses_359 (by decide) (by decide) (by decide) (fun h => absurd (by decide) h) (fun _ => ?_)
    refine Q_aload_n hX dL_refuses_362 rfl ?_
    refine Q_sipush hX dL_refuses_363 rfl ?_
    refine Q_ask hX hl (u := 1) _ dL_refuses_366 cwL_fullAfter (AskH_v (no_fullAfter hE (by decide) hT9 (by decide)) (v2 := -90100) (by decide)) rfl (Nat.le_of_ble_eq_true rfl) ⟨by decide, by decide⟩ ?_
    refine Q_ldcI hX kI_17 dL_refuses_369 ?_
    refine Q_icmp_ne hX 401 dL_refuses_371 (by decide) (by decide) (by decide) (fun h => absurd (by decide) h) (fun _ => ?_)
    refine Q_aload_n hX dL_refuses_374 rfl ?_
    refine Q_iload_n hX dL_refuses_375 rfl ?_
    refine Q_iconst hX dL_refuses_376 ?_
    refine Q_ask hX hl (u := 1) _ dL_refuses_377 cwL_ghostsWithout (AskH_v (no_ghostsWithout hE (by omega) (by decide) (by rw [rf_f1 (noN S)]; decide)) (v2 := -90300) (by rw [rf_f1 (noN S)]; rfl)) rfl (Nat.le_of_ble_eq_true rfl) ⟨by decide, by decide⟩ ?_
    refine Q_ldcI hX kI_24 dL_refuses_380 ?_
    refine Q_icmp_ne hX 401 dL_refuses_382 (by decide) (by decide) (by decide) (fun h => absurd (by decide) h) (fun _ => ?_)
    refine Q_aload_n hX dL_refuses_385 rfl ?_
    refine Q_sipush hX dL_refuses_386 rfl ?_
    refine Q_ask hX hl (u := 1) _ dL_refuses_389 cwL_type (no_type hE (by decide) (by decide)) rfl (Nat.le_of_ble_eq_true rfl) ⟨by decide, by decide⟩ ?_
    refine Q_ldcI hX kI_17 dL_refuses_392 ?_
    refine Q_icmp_ne hX 401 dL_refuses_394 (by decide) (by decide) (by decide) (fun h => absurd (by decide) h) (fun _ => ?_)
    refine Q_iconst hX dL_refuses_397 ?_
    refine Q_goto hX 402 dL_refuses_398 (by decide) ?_
    refine Q_istore_n hX dL_refuses_402 (by decide) ?_
    refine Q_iload_n hX dL_refuses_403 rfl ?_
    refine Q_if_eq hX 429 dL_refuses_404 (by decide) (by decide) (fun h => absurd h (by decide)) (fun _ => ?_)
    refine Q_aload_n hX dL_refuses_407 rfl ?_
    refine Q_iconst hX dL_refuses_408 ?_
    refine Q_ask hX hl (u := 1) _ dL_refuses_409 cwL_whole (a_whole (k := 2) hE (by decide) (by decide) (v := S 1 0) (wv_2 (by decide))) rfl (Nat.le_of_ble_eq_true rfl) ⟨by decide, by decide⟩ ?_
    refine Q_iload_n hX dL_refuses_412 rfl ?_
    refine Q_icmp_ne hX 429 dL_refuses_413 (by omega) (by omega) (by decide) (fun c413 => ?_) (fun c413 => ?_)
    · skip
      exfalso
      omega
    · refine Q_aload_n hX dL_refuses_416 rfl ?_
      refine Q_iconst hX dL_refuses_417 ?_
      refine Q_ask hX hl (u := 1) _ dL_refuses_418 cwL_whole (a_whole (k := 5) hE (by decide) (by decide) (v := S 11 1) (wv_5 (by decide))) rfl (Nat.le_of_ble_eq_true rfl) ⟨by decide, by decide⟩ ?_
      refine Q_iload_n hX dL_refuses_421 rfl ?_
      refine Q_icmp_ne hX 429 dL_refuses_422 (by omega) (by omega) (by decide) (fun c422 => ?_) (fun c422 => ?_)
      · skip
        exfalso
        omega
      · refine Q_iconst hX dL_refuses_425 ?_
        refine Q_goto hX 430 dL_refuses_426 (by decide) ?_
        exact fin _ _ _ dL_refuses_430
  rw [hZ] at main
  exact main n0 M 0 0 hI (Nat.le_of_ble_eq_true rfl) (Nat.le_of_ble_eq_true rfl)
