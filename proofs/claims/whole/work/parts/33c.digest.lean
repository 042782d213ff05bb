/-! the digest -/
def mixL (f : Int → Int) : Nat → Int → Int
  | 0, h => h
  | k + 1, h => 31 * mixL f k h + f k
def mixR (f : Int → Int → Int) (w : Nat) : Nat → Int → Int
  | 0, h => h
  | k + 1, h => mixL (f k) w (mixR f w k h)
def digA (S : MM) (a b : Int) : Int := mixL (wvl S) 16 (31 * (31 * 18767 + a) + b)
def digB (S : MM) (a b : Int) : Int := mixR (nvl S) 16 (S 1 0).toNat (digA S a b)
def digC (S : MM) (a b : Int) : Int := mixR (scv S) 4 (S 11 0).toNat (digB S a b)
def digD (S : MM) (a b : Int) : Int := mixL (tvl S) 7 (digC S a b)
def dig (S : MM) (a b : Int) : Int := him S (S 0 4).toNat (digD S a b)
-- X9_digest
set_option maxHeartbeats 4000000 in
set_option maxRecDepth 100000 in
theorem m_X9_digest {E : EE} {K : Nat → Nat} {M : MM} {x : Nat} {T : Int} (hX0 : EyeK K x) (hW : WF T M (x + 1 + 2)) (hF : Frs M x) : CnM E 8 yX9_digest cX9_digest 6 (Option.some FieldType.long) [.ref x] K M (fun r M' => r = some (vL (dig (stg M (x + 1 + 2)) (M (x + 55) 0) (M (x + 57) 0))) ∧ Lkd M x M') := by
  have hXa := hX0.all
  refine Cn_of RX9 (plainFor_of_name (by decide)) rfl (Nat.le_of_ble_eq_true rfl) (fun X hX hQ => ?_)
  refine J_aload_n hX dX9_digest_0 rfl ?_
  refine J_fresh hX hX0 hW hF dX9_digest_1 (by decide) (by decide) (by decide) (fun M2 hL hW2 hV2 hH2 hS2 => ?_)
  have hP2 := hV2.1.1
  have a55 : M2 (x + 55) 0 = M (x + 55) 0 := congrFun (hL.1 _ (by omega) (by omega) (by omega) (by omega)) 0
  have a57 : M2 (x + 57) 0 = M (x + 57) 0 := congrFun (hL.1 _ (by omega) (by omega) (by omega) (by omega)) 0
  have c1 : M2 (x + 1 + 2 + 1) 0 = (stg M (x + 1 + 2)) 1 0 := congrFun (congrFun hS2 1) 0
  have c11 : M2 (x + 1 + 2 + 11) 0 = (stg M (x + 1 + 2)) 11 0 := congrFun (congrFun hS2 11) 0
  have lim := hW2.2.1
  unfold WFs at lim
  refine J_astore_n hX dX9_digest_4 (by decide) ?_
  refine J_ldc2 (x := 18767) hX dX9_digest_5 kl_RX9_239 rfl ?_
  refine J_lstore_n hX dX9_digest_8 (by decide) ?_
  refine J_ldc2 (x := 31) hX dX9_digest_9 kl_RX9_241 rfl ?_
  refine J_lload_n hX dX9_digest_12 rfl ?_
  refine J_lmul hX dX9_digest_13 ?_
  refine J_aload_n hX dX9_digest_14 rfl ?_
  refine J_gr hX (x + 55) fr_RX9_30 dX9_digest_15 (show K (x) = 8 from hXa 0 (by decide)) rfl ?_
  refine J_geti hX fi_RX9_233 dX9_digest_18 (show K (x + 55) = 1 from hXa 55 (by decide)) (fun r18 => ?_)
  rw [a55]
  refine J_i2l hX dX9_digest_21 (by omega) ?_
  refine J_ladd hX dX9_digest_22 ?_
  refine J_lstore_n hX dX9_digest_23 (by decide) ?_
  refine J_ldc2 (x := 31) hX dX9_digest_24 kl_RX9_241 rfl ?_
  refine J_lload_n hX dX9_digest_27 rfl ?_
  refine J_lmul hX dX9_digest_28 ?_
  refine J_aload_n hX dX9_digest_29 rfl ?_
  refine J_gr hX (x + 57) fr_RX9_37 dX9_digest_30 (show K (x) = 8 from hXa 0 (by decide)) rfl ?_
  refine J_geti hX fi_RX9_221 dX9_digest_33 (show K (x + 57) = 4 from hXa 57 (by decide)) (fun r33 => ?_)
  rw [a57]
  refine J_i2l hX dX9_digest_36 (by omega) ?_
  refine J_ladd hX dX9_digest_37 ?_
  refine J_lstore_n hX dX9_digest_38 (by decide) ?_
  refine J_iconst hX dX9_digest_39 ?_
  refine J_istore hX dX9_digest_40 (by decide) ?_
  have HL42 : ∀ k1 : Nat, k1 ≤ 16 → ∀ (h : Int), (h = mixL (wvl (stg M (x + 1 + 2))) k1 (31 * (31 * 18767 + M (x + 55) 0) + M (x + 57) 0)) → J E X 42 [(0, .ref x), (1, .ref (x + 1)), (2, vL h), (4, vI (k1 : Int))] [] K M2 0 0 := by
    refine up_ind (16) (fun k1 hk42 ih42 => ?_)
    intro h  hi42
    refine J_iload hX dX9_digest_42 rfl ?_
    refine J_bipush hX dX9_digest_44 rfl ?_
    refine J_icmp_ge hX 69 dX9_digest_46 (by omega) (by decide) (by decide) (fun c46 => ?_) (fun c46 => ?_)
    · refine J_iconst hX dX9_digest_69 ?_
      refine J_istore hX dX9_digest_70 (by decide) ?_
      have HL72 : ∀ k2 : Nat, k2 ≤ ((stg M (x + 1 + 2)) 1 0).toNat → ∀ (h : Int), (h = mixR (nvl (stg M (x + 1 + 2))) 16 k2 (digA (stg M (x + 1 + 2)) (M (x + 55) 0) (M (x + 57) 0))) → J E X 72 [(0, .ref x), (1, .ref (x + 1)), (2, vL h), (4, vI (k2 : Int))] [] K M2 0 0 := by
        refine up_ind (((stg M (x + 1 + 2)) 1 0).toNat) (fun k2 hk72 ih72 => ?_)
        intro h  hi72
        refine J_iload hX dX9_digest_72 rfl ?_
        refine J_aload_n hX dX9_digest_74 rfl ?_
        refine J_gr hX (x + 1 + 2) fr_RX9_20 dX9_digest_75 (show K (x) = 8 from hXa 0 (by decide)) rfl ?_
        refine J_gr hX (x + 1 + 2 + 1) fr_RX9_61 dX9_digest_78 (show K (x + 1 + 2) = 5 from ((hXa).view).stage 0 (by decide)) rfl ?_
        refine J_geti hX fi_RX9_243 dX9_digest_81 (show K (x + 1 + 2 + 1) = 6 from ((hXa).view).stage 1 (by decide)) (fun r81 => ?_)
        refine J_icmp_ge hX 128 dX9_digest_84 (by omega) (by omega) (by decide) (fun c84 => ?_) (fun c84 => ?_)
        · refine J_iconst hX dX9_digest_128 ?_
          refine J_istore hX dX9_digest_129 (by decide) ?_
          have HL131 : ∀ k4 : Nat, k4 ≤ ((stg M (x + 1 + 2)) 11 0).toNat → ∀ (h : Int), (h = mixR (scv (stg M (x + 1 + 2))) 4 k4 (digB (stg M (x + 1 + 2)) (M (x + 55) 0) (M (x + 57) 0))) → J E X 131 [(0, .ref x), (1, .ref (x + 1)), (2, vL h), (4, vI (k4 : Int))] [] K M2 0 0 := by
            refine up_ind (((stg M (x + 1 + 2)) 11 0).toNat) (fun k4 hk131 ih131 => ?_)
            intro h  hi131
            refine J_iload hX dX9_digest_131 rfl ?_
            refine J_aload_n hX dX9_digest_133 rfl ?_
            refine J_gr hX (x + 1 + 2) fr_RX9_20 dX9_digest_134 (show K (x) = 8 from hXa 0 (by decide)) rfl ?_
            refine J_gr hX (x + 1 + 2 + 11) fr_RX9_100 dX9_digest_137 (show K (x + 1 + 2) = 5 from ((hXa).view).stage 0 (by decide)) rfl ?_
            refine J_geti hX fi_RX9_244 dX9_digest_140 (show K (x + 1 + 2 + 11) = 3 from ((hXa).view).stage 11 (by decide)) (fun r140 => ?_)
            refine J_icmp_ge hX 189 dX9_digest_143 (by omega) (by omega) (by decide) (fun c143 => ?_) (fun c143 => ?_)
            · refine J_iconst hX dX9_digest_189 ?_
              refine J_istore hX dX9_digest_190 (by decide) ?_
              have HL192 : ∀ k6 : Nat, k6 ≤ 7 → ∀ (h : Int), (h = mixL (tvl (stg M (x + 1 + 2))) k6 (digC (stg M (x + 1 + 2)) (M (x + 55) 0) (M (x + 57) 0))) → J E X 192 [(0, .ref x), (1, .ref (x + 1)), (2, vL h), (4, vI (k6 : Int))] [] K M2 0 0 := by
                refine up_ind (7) (fun k6 hk192 ih192 => ?_)
                intro h  hi192
                refine J_iload hX dX9_digest_192 rfl ?_
                refine J_bipush hX dX9_digest_194 rfl ?_
                refine J_icmp_ge hX 219 dX9_digest_196 (by omega) (by decide) (by decide) (fun c196 => ?_) (fun c196 => ?_)
                · refine J_aload_n hX dX9_digest_219 rfl ?_
                  refine J_lload_n hX dX9_digest_220 rfl ?_
                  refine J_callVM hX _ dX9_digest_221 cw_RX9_245 (m_X7_hashImages (hXa).view hW2 hV2 hH2) ⟨(show K (x + 1) = 7 from (hXa).view 0 (by decide)), by decide, by decide, rfl⟩ rfl (Nat.le_of_ble_eq_true rfl) (by decide) ⟨Nat.zero_le _, Nat.zero_le _⟩ (fun r9 M221 q221 => ?_)
                  obtain ⟨rfl, cg1, cg2, cg3⟩ := q221
                  have hL3 := hL.step cg1 cg2 (by rw [hS2] at cg3; exact cg3)
                  exact J_lret hX hQ dX9_digest_224 ⟨rfl, by exact ⟨by rw [hS2, hi192, show k6 = 7 by omega]; rfl, hL3⟩⟩ (Nat.zero_le _) (Nat.zero_le _)
                · refine J_ldc2 (x := 31) hX dX9_digest_199 kl_RX9_241 rfl ?_
                  refine J_lload_n hX dX9_digest_202 rfl ?_
                  refine J_lmul hX dX9_digest_203 ?_
                  refine J_aload_n hX dX9_digest_204 rfl ?_
                  refine J_iload hX dX9_digest_205 rfl ?_
                  refine J_callVI hX _ dX9_digest_207 cw_RX9_155 (m_X7_titleValue (hXa).view hW2 hV2 (by omega)) ⟨(show K (x + 1) = 7 from (hXa).view 0 (by decide)), by decide, by decide, rfl⟩ rfl (Nat.le_of_ble_eq_true rfl) (by decide) ⟨Nat.zero_le _, Nat.zero_le _⟩ (fun r207 => ?_)
                  rw [hS2] at r207 ⊢
                  refine J_i2l hX dX9_digest_210 (by omega) ?_
                  refine J_ladd hX dX9_digest_211 ?_
                  refine J_lstore_n hX dX9_digest_212 (by decide) ?_
                  refine J_iinc hX dX9_digest_213 rfl (by decide) ?_
                  refine J_goto hX 192 dX9_digest_216 (by decide) ?_
                  exact J_locI (ih192 (k6 + 1) (by omega) (by omega) _ (by rw [hi192]; rfl)) rfl
              exact J_locI (HL192 0 (Nat.zero_le _) _ (by rw [hi131, show k4 = ((stg M (x + 1 + 2)) 11 0).toNat by omega]; rfl)) rfl
            · refine J_iconst hX dX9_digest_146 ?_
              refine J_istore hX dX9_digest_147 (by decide) ?_
              have HL149 : ∀ k5 : Nat, k5 ≤ 4 → ∀ (h : Int), (h = mixL (scv (stg M (x + 1 + 2)) k4) k5 (mixR (scv (stg M (x + 1 + 2))) 4 k4 (digB (stg M (x + 1 + 2)) (M (x + 55) 0) (M (x + 57) 0)))) → J E X 149 [(0, .ref x), (1, .ref (x + 1)), (2, vL h), (4, vI (k4 : Int)), (5, vI (k5 : Int))] [] K M2 0 0 := by
                refine up_ind (4) (fun k5 hk149 ih149 => ?_)
                intro h  hi149
                refine J_iload hX dX9_digest_149 rfl ?_
                refine J_iconst hX dX9_digest_151 ?_
                refine J_icmp_ge hX 183 dX9_digest_152 (by omega) (by decide) (by decide) (fun c152 => ?_) (fun c152 => ?_)
                · refine J_iinc hX dX9_digest_183 rfl (by decide) ?_
                  refine J_goto hX 131 dX9_digest_186 (by decide) ?_
                  exact J_locI (ih131 (k4 + 1) (by omega) (by omega) _ (by rw [hi149, show k5 = 4 by omega]; rfl)) rfl
                · refine J_ldc2 (x := 31) hX dX9_digest_155 kl_RX9_241 rfl ?_
                  refine J_lload_n hX dX9_digest_158 rfl ?_
                  refine J_lmul hX dX9_digest_159 ?_
                  refine J_aload_n hX dX9_digest_160 rfl ?_
                  refine J_gr hX (x + 1 + 2) fr_RX9_20 dX9_digest_161 (show K (x) = 8 from hXa 0 (by decide)) rfl ?_
                  refine J_gr hX (x + 1 + 2 + 11) fr_RX9_100 dX9_digest_164 (show K (x + 1 + 2) = 5 from ((hXa).view).stage 0 (by decide)) rfl ?_
                  refine J_iload hX dX9_digest_167 rfl ?_
                  refine J_iload hX dX9_digest_169 rfl ?_
                  refine J_callVI hX _ dX9_digest_171 cw_RX9_154 (m_X3_valueOf (hXa).view.stage hW2 (by omega) (by omega)) ⟨(show K (x + 1 + 2 + 11) = 3 from ((hXa).view).stage 11 (by decide)), by decide, by decide, rfl⟩ rfl (Nat.le_of_ble_eq_true rfl) (by decide) ⟨Nat.zero_le _, Nat.zero_le _⟩ (fun r171 => ?_)
                  rw [hS2] at r171 ⊢
                  refine J_i2l hX dX9_digest_174 (by omega) ?_
                  refine J_ladd hX dX9_digest_175 ?_
                  refine J_lstore_n hX dX9_digest_176 (by decide) ?_
                  refine J_iinc hX dX9_digest_177 rfl (by decide) ?_
                  refine J_goto hX 149 dX9_digest_180 (by decide) ?_
                  exact J_locI (ih149 (k5 + 1) (by omega) (by omega) _ (by rw [hi149]; rfl)) rfl
              exact J_locI (HL149 0 (Nat.zero_le _) _ (by rw [hi131]; rfl)) rfl
          exact J_locI (HL131 0 (Nat.zero_le _) _ (by rw [hi72, show k2 = ((stg M (x + 1 + 2)) 1 0).toNat by omega]; rfl)) rfl
        · refine J_iconst hX dX9_digest_87 ?_
          refine J_istore hX dX9_digest_88 (by decide) ?_
          have HL90 : ∀ k3 : Nat, k3 ≤ 16 → ∀ (h : Int), (h = mixL (nvl (stg M (x + 1 + 2)) k2) k3 (mixR (nvl (stg M (x + 1 + 2))) 16 k2 (digA (stg M (x + 1 + 2)) (M (x + 55) 0) (M (x + 57) 0)))) → J E X 90 [(0, .ref x), (1, .ref (x + 1)), (2, vL h), (4, vI (k2 : Int)), (5, vI (k3 : Int))] [] K M2 0 0 := by
            refine up_ind (16) (fun k3 hk90 ih90 => ?_)
            intro h  hi90
            refine J_iload hX dX9_digest_90 rfl ?_
            refine J_bipush hX dX9_digest_92 rfl ?_
            refine J_icmp_ge hX 122 dX9_digest_94 (by omega) (by decide) (by decide) (fun c94 => ?_) (fun c94 => ?_)
            · refine J_iinc hX dX9_digest_122 rfl (by decide) ?_
              refine J_goto hX 72 dX9_digest_125 (by decide) ?_
              exact J_locI (ih72 (k2 + 1) (by omega) (by omega) _ (by rw [hi90, show k3 = 16 by omega]; rfl)) rfl
            · refine J_ldc2 (x := 31) hX dX9_digest_97 kl_RX9_241 rfl ?_
              refine J_lload_n hX dX9_digest_100 rfl ?_
              refine J_lmul hX dX9_digest_101 ?_
              refine J_aload_n hX dX9_digest_102 rfl ?_
              refine J_gr hX (x + 1 + 1) fr_RX9_138 dX9_digest_103 (show K (x + 1) = 7 from (hXa).view 0 (by decide)) rfl ?_
              refine J_iload hX dX9_digest_106 rfl ?_
              refine J_iload hX dX9_digest_108 rfl ?_
              refine J_callVI hX _ dX9_digest_110 cw_RX9_142 (m_X2_valueOf (hXa).view hW2 hP2 (by omega) (by omega)) ⟨(show K (x + 1 + 1) = 2 from (hXa).view 1 (by decide)), by decide, by decide, rfl⟩ rfl (Nat.le_of_ble_eq_true rfl) (by decide) ⟨Nat.zero_le _, Nat.zero_le _⟩ (fun r110 => ?_)
              rw [hS2] at r110 ⊢
              refine J_i2l hX dX9_digest_113 (by omega) ?_
              refine J_ladd hX dX9_digest_114 ?_
              refine J_lstore_n hX dX9_digest_115 (by decide) ?_
              refine J_iinc hX dX9_digest_116 rfl (by decide) ?_
              refine J_goto hX 90 dX9_digest_119 (by decide) ?_
              exact J_locI (ih90 (k3 + 1) (by omega) (by omega) _ (by rw [hi90]; rfl)) rfl
          exact J_locI (HL90 0 (Nat.zero_le _) _ (by rw [hi72]; rfl)) rfl
      exact J_locI (HL72 0 (Nat.zero_le _) _ (by rw [hi42, show k1 = 16 by omega]; rfl)) rfl
    · refine J_ldc2 (x := 31) hX dX9_digest_49 kl_RX9_241 rfl ?_
      refine J_lload_n hX dX9_digest_52 rfl ?_
      refine J_lmul hX dX9_digest_53 ?_
      refine J_aload_n hX dX9_digest_54 rfl ?_
      refine J_iload hX dX9_digest_55 rfl ?_
      refine J_callVI hX _ dX9_digest_57 cw_RX9_158 (m_X7_wholeValue (hXa).view hW2 hV2 (by omega)) ⟨(show K (x + 1) = 7 from (hXa).view 0 (by decide)), by decide, by decide, rfl⟩ rfl (Nat.le_of_ble_eq_true rfl) (by decide) ⟨Nat.zero_le _, Nat.zero_le _⟩ (fun r57 => ?_)
      rw [hS2] at r57 ⊢
      refine J_i2l hX dX9_digest_60 (by omega) ?_
      refine J_ladd hX dX9_digest_61 ?_
      refine J_lstore_n hX dX9_digest_62 (by decide) ?_
      refine J_iinc hX dX9_digest_63 rfl (by decide) ?_
      refine J_goto hX 42 dX9_digest_66 (by decide) ?_
      exact J_locI (ih42 (k1 + 1) (by omega) (by omega) _ (by rw [hi42]; rfl)) rfl
  exact J_locI (HL42 0 (Nat.zero_le _) _ rfl) rfl
