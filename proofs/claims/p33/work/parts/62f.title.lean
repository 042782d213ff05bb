set_option maxHeartbeats 16000000 in
set_option maxRecDepth 100000 in
theorem lc_title {E : EE} {X : JX} {x : Nat} {T : Int} {S : MM} {c : Int} {P : MM} {c0 s0 q : Nat} {n xx yy k : Int} (hX : XO E X cL_law RL 17 12 c0 s0) (hl : XL X) (hE : ∀ U, SF E U → ThF E U ∧ NcF U) (hE2 : ∀ U, SF E U → CF E U) (hW : WFS T S) (hT : T + 1000 ≤ 1000000000) (h80 : S 0 3 ≤ 80) (hxx : i32 xx) (hyy : i32 yy) (hk : 0 ≤ k ∧ (S 1 0 ≠ 0 → k < S 1 0))
    (k1 : ∀ S2 c2 P2, WFS (T + 200) S2 → S2 0 3 ≤ 80 → LJ E X (x, T + 200, S2, c2, P2, c0, s0) q 1381 [(0, .ref (1000000 + 50)), (1, .ref x), (3, vI n), (5, vI yy)] []) : LJ E X (x, T, S, c, P, c0, s0) (q + 120) 1050 [(0, .ref (1000000 + 50)), (1, .ref x), (3, vI n), (4, vI xx), (5, vI yy), (6, vI (S 1 0)), (8, vI k)] [] := by
  have w9 := hW.2.1
  unfold WFSs at w9
  by_cases h0 : S 0 7 = 0
  · skip
    refine L_aload_n hX hl dL_law_1050 rfl ?_
    refine L_iconst hX hl dL_law_1051 ?_
    refine L_ask hX hl (u := 1) _ dL_law_1052 cwL_title (a_title hE (by decide) (by decide) (v := -1000) (if_pos h0)) rfl (Nat.le_of_ble_eq_true rfl) ⟨by decide, by decide⟩ (fun _ _ => rfl) (fun K9 h1 h2 => ⟨⟨h2, ⟨h1, trivial⟩⟩, trivial⟩) ?_
    refine L_istore hX hl dL_law_1055 (by decide) ?_
    refine L_iload hX hl dL_law_1057 rfl ?_
    refine L_aload_n hX hl dL_law_1059 rfl ?_
    refine L_iconst hX hl dL_law_1060 ?_
    refine L_ask hX hl (u := 1) _ dL_law_1061 cwL_whole (a_whole (k := 0) hE (by decide) (by decide) (v := S 0 3) (wv_0 (by decide))) rfl (Nat.le_of_ble_eq_true rfl) ⟨by decide, by decide⟩ (fun _ _ => rfl) (fun K9 h1 h2 => ⟨⟨h2, ⟨h1, trivial⟩⟩, trivial⟩) ?_
    refine L_low hX hl dL_law_1064 (by first | omega | exact shrI_r _ _) ⟨by omega, by omega⟩ (Nat.le_of_ble_eq_true rfl) (by decide) ?_
    obtain ⟨lw1, elw1⟩ : ∃ v : Int, low yy (S 0 3) = v := ⟨_, rfl⟩
    have rlw1 : 0 ≤ lw1 ∧ lw1 < S 0 3 := elw1 ▸ low_r (by omega)
    rw [elw1]
    refine L_istore hX hl dL_law_1067 (by decide) ?_
    refine L_iload hX hl dL_law_1069 rfl ?_
    refine L_bipush hX hl dL_law_1071 rfl ?_
    refine L_ishr hX hl dL_law_1073 ?_
    refine L_bipush hX hl dL_law_1074 rfl ?_
    refine L_low hX hl dL_law_1076 (by first | omega | exact shrI_r _ _) ⟨by omega, by omega⟩ (Nat.le_of_ble_eq_true rfl) (by decide) ?_
    obtain ⟨lw2, elw2⟩ : ∃ v : Int, low (shrI yy 8) 6 = v := ⟨_, rfl⟩
    have rlw2 : 0 ≤ lw2 ∧ lw2 < 6 := elw2 ▸ low_r (by omega)
    rw [elw2]
    refine L_if_ne hX hl 1089 dL_law_1079 (by first | omega | exact shrI_r _ _) (by decide) (fun c1079 => ?_) (fun c1079 => ?_)
    · refine L_aload_n hX hl dL_law_1089 rfl ?_
      refine L_iload hX hl dL_law_1090 rfl ?_
      refine L_iload hX hl dL_law_1092 rfl ?_
      refine L_bipush hX hl dL_law_1094 rfl ?_
      refine L_ishr hX hl dL_law_1096 ?_
      refine L_aload_n hX hl dL_law_1097 rfl ?_
      refine L_iconst hX hl dL_law_1098 ?_
      refine L_ask hX hl (u := 1) _ dL_law_1099 cwL_whole (a_whole (k := 1) hE (by decide) (by decide) (v := S 0 4) (wv_1 (by decide))) rfl (Nat.le_of_ble_eq_true rfl) ⟨by decide, by decide⟩ (fun _ _ => rfl) (fun K9 h1 h2 => ⟨⟨h2, ⟨h1, trivial⟩⟩, ⟨h1, trivial⟩⟩) ?_
      refine L_low hX hl dL_law_1102 (by first | omega | exact shrI_r _ _) ⟨by omega, by omega⟩ (Nat.le_of_ble_eq_true rfl) (by decide) ?_
      obtain ⟨lw3, elw3⟩ : ∃ v : Int, low (shrI yy 11) (S 0 4) = v := ⟨_, rfl⟩
      have rlw3 : 0 ≤ lw3 ∧ lw3 < S 0 4 := elw3 ▸ low_r (by omega)
      rw [elw3]
      refine L_iconst hX hl dL_law_1105 ?_
      refine L_iload hX hl dL_law_1106 rfl ?_
      refine L_bipush hX hl dL_law_1108 rfl ?_
      refine L_ishr hX hl dL_law_1110 ?_
      refine L_bipush hX hl dL_law_1111 rfl ?_
      refine L_low hX hl dL_law_1113 (by first | omega | exact shrI_r _ _) ⟨by omega, by omega⟩ (Nat.le_of_ble_eq_true rfl) (by decide) ?_
      obtain ⟨lw4, elw4⟩ : ∃ v : Int, low (shrI yy 16) 14 = v := ⟨_, rfl⟩
      have rlw4 : 0 ≤ lw4 ∧ lw4 < 14 := elw4 ▸ low_r (by omega)
      rw [elw4]
      refine L_iadd hX hl dL_law_1116 ?_
      refine L_do hX hl _ dL_law_1117 cwL_setTitle (d_setTitle hE (by omega) (by omega) (by omega) ⟨⟨⟨by omega, by omega⟩, ⟨by omega, by omega⟩⟩, by omega⟩) rfl (Nat.le_of_ble_eq_true rfl) ⟨by decide, by decide⟩ (fun K9 h1 h2 => ⟨⟨h2, ⟨h1, trivial⟩⟩, trivial⟩) (fun tv S2 c2 P2 hφ hW2 => ?_)
      obtain ⟨⟨hv, hS2⟩, hc2, hP2⟩ := hφ
      have tf := tiF S (lw1) (lw3) ((1 + lw4))
      rw [← hS2] at tf
      have h72 : S2 0 7 ≠ 0 := by omega
      refine L_istore hX hl dL_law_1120 (by decide) ?_
      refine L_iload hX hl dL_law_1122 rfl ?_
      refine L_iload hX hl dL_law_1124 rfl ?_
      refine L_sipush hX hl dL_law_1126 rfl ?_
      refine L_icmp_ne hX hl 1136 dL_law_1129 (by decide) (by decide) (by decide) (fun h => absurd (by decide) h) (fun _ => ?_)
      refine L_iconst hX hl dL_law_1132 ?_
      refine L_goto hX hl 1138 dL_law_1133 (by decide) ?_
      refine L_icmp_ne hX hl 1188 dL_law_1138 (by first | omega | exact shrI_r _ _) (by decide) (by decide) (fun c1138 => ?_) (fun c1138 => ?_)
      · skip
        exfalso
        omega
      · refine L_iload hX hl dL_law_1141 rfl ?_
        refine L_bipush hX hl dL_law_1143 rfl ?_
        refine L_ishr hX hl dL_law_1145 ?_
        refine L_bipush hX hl dL_law_1146 rfl ?_
        refine L_low hX hl dL_law_1148 (by first | omega | exact shrI_r _ _) ⟨by omega, by omega⟩ (Nat.le_of_ble_eq_true rfl) (by decide) ?_
        rw [elw2]
        refine L_if_le hX hl 1164 dL_law_1151 (by first | omega | exact shrI_r _ _) (by decide) (fun c1151 => ?_) (fun c1151 => ?_)
        · refine L_iload hX hl dL_law_1164 rfl ?_
          refine L_bipush hX hl dL_law_1166 rfl ?_
          refine L_ishr hX hl dL_law_1168 ?_
          refine L_bipush hX hl dL_law_1169 rfl ?_
          refine L_low hX hl dL_law_1171 (by first | omega | exact shrI_r _ _) ⟨by omega, by omega⟩ (Nat.le_of_ble_eq_true rfl) (by decide) ?_
          rw [elw2]
          refine L_if_ne hX hl 1190 dL_law_1174 (by first | omega | exact shrI_r _ _) (by decide) (fun c1174 => ?_) (fun c1174 => ?_)
          · refine L_goto hX hl 1381 dL_law_1190 (by decide) ?_
            exact L_to hX hl (L_mo (by omega) (by omega) (k1 S2 _ _ (WFS_mono hW2 (by omega) (by omega)) (by rw [tf.2.2.1]; exact h80))) rfl (by omega) rfl
          · refine L_aload_n hX hl dL_law_1177 rfl ?_
            refine L_iconst hX hl dL_law_1178 ?_
            refine L_ask hX hl (u := 1) _ dL_law_1179 cwL_title (a_title (k := 0) hE (by decide) (by decide) (v := S2 0 5) (tv_0 (by decide) h72)) rfl (Nat.le_of_ble_eq_true rfl) ⟨by decide, by decide⟩ (fun _ _ => rfl) (fun K9 h1 h2 => ⟨⟨h2, ⟨h1, trivial⟩⟩, trivial⟩) ?_
            refine L_sipush hX hl dL_law_1182 rfl ?_
            refine L_icmp_eq hX hl 1190 dL_law_1185 (by first | omega | exact shrI_r _ _) (by decide) (by decide) (fun c1185 => ?_) (fun c1185 => ?_)
            · refine L_goto hX hl 1381 dL_law_1190 (by decide) ?_
              exact L_to hX hl (L_mo (by omega) (by omega) (k1 S2 _ _ (WFS_mono hW2 (by omega) (by omega)) (by rw [tf.2.2.1]; exact h80))) rfl (by omega) rfl
            · skip
              exfalso
              omega
        · refine L_aload_n hX hl dL_law_1154 rfl ?_
          refine L_iconst hX hl dL_law_1155 ?_
          refine L_ask hX hl (u := 1) _ dL_law_1156 cwL_title (a_title (k := 0) hE (by decide) (by decide) (v := S2 0 5) (tv_0 (by decide) h72)) rfl (Nat.le_of_ble_eq_true rfl) ⟨by decide, by decide⟩ (fun _ _ => rfl) (fun K9 h1 h2 => ⟨⟨h2, ⟨h1, trivial⟩⟩, trivial⟩) ?_
          refine L_iload hX hl dL_law_1159 rfl ?_
          refine L_icmp_ne hX hl 1188 dL_law_1161 (by first | omega | exact shrI_r _ _) (by first | omega | exact shrI_r _ _) (by decide) (fun c1161 => ?_) (fun c1161 => ?_)
          · skip
            exfalso
            omega
          · refine L_iload hX hl dL_law_1164 rfl ?_
            refine L_bipush hX hl dL_law_1166 rfl ?_
            refine L_ishr hX hl dL_law_1168 ?_
            refine L_bipush hX hl dL_law_1169 rfl ?_
            refine L_low hX hl dL_law_1171 (by first | omega | exact shrI_r _ _) ⟨by omega, by omega⟩ (Nat.le_of_ble_eq_true rfl) (by decide) ?_
            rw [elw2]
            refine L_if_ne hX hl 1190 dL_law_1174 (by first | omega | exact shrI_r _ _) (by decide) (fun c1174 => ?_) (fun c1174 => ?_)
            · refine L_goto hX hl 1381 dL_law_1190 (by decide) ?_
              exact L_to hX hl (L_mo (by omega) (by omega) (k1 S2 _ _ (WFS_mono hW2 (by omega) (by omega)) (by rw [tf.2.2.1]; exact h80))) rfl (by omega) rfl
            · refine L_aload_n hX hl dL_law_1177 rfl ?_
              refine L_iconst hX hl dL_law_1178 ?_
              refine L_ask hX hl (u := 1) _ dL_law_1179 cwL_title (a_title (k := 0) hE (by decide) (by decide) (v := S2 0 5) (tv_0 (by decide) h72)) rfl (Nat.le_of_ble_eq_true rfl) ⟨by decide, by decide⟩ (fun _ _ => rfl) (fun K9 h1 h2 => ⟨⟨h2, ⟨h1, trivial⟩⟩, trivial⟩) ?_
              refine L_sipush hX hl dL_law_1182 rfl ?_
              refine L_icmp_eq hX hl 1190 dL_law_1185 (by first | omega | exact shrI_r _ _) (by decide) (by decide) (fun c1185 => ?_) (fun c1185 => ?_)
              · refine L_goto hX hl 1381 dL_law_1190 (by decide) ?_
                exact L_to hX hl (L_mo (by omega) (by omega) (k1 S2 _ _ (WFS_mono hW2 (by omega) (by omega)) (by rw [tf.2.2.1]; exact h80))) rfl (by omega) rfl
              · skip
                exfalso
                omega
    · refine L_aload_n hX hl dL_law_1082 rfl ?_
      refine L_clear hX hl _ dL_law_1083 rfl (Nat.le_of_ble_eq_true rfl) (by decide) (fun K9 h1 h2 => ⟨⟨h2, ⟨h1, trivial⟩⟩, trivial⟩) (fun S2 c2 hS2 hW2 => ?_)
      have tf := tiF S 0 0 0
      rw [← hS2] at tf
      have h72 : S2 0 7 = 0 := tf.2.1
      refine L_goto hX hl 1120 dL_law_1086 (by decide) ?_
      refine L_istore hX hl dL_law_1120 (by decide) ?_
      refine L_iload hX hl dL_law_1122 rfl ?_
      refine L_iload hX hl dL_law_1124 rfl ?_
      refine L_sipush hX hl dL_law_1126 rfl ?_
      refine L_icmp_ne hX hl 1136 dL_law_1129 (by decide) (by decide) (by decide) (fun h => absurd (by decide) h) (fun _ => ?_)
      refine L_iconst hX hl dL_law_1132 ?_
      refine L_goto hX hl 1138 dL_law_1133 (by decide) ?_
      refine L_icmp_ne hX hl 1188 dL_law_1138 (by first | omega | exact shrI_r _ _) (by decide) (by decide) (fun c1138 => ?_) (fun c1138 => ?_)
      · skip
        exfalso
        omega
      · refine L_iload hX hl dL_law_1141 rfl ?_
        refine L_bipush hX hl dL_law_1143 rfl ?_
        refine L_ishr hX hl dL_law_1145 ?_
        refine L_bipush hX hl dL_law_1146 rfl ?_
        refine L_low hX hl dL_law_1148 (by first | omega | exact shrI_r _ _) ⟨by omega, by omega⟩ (Nat.le_of_ble_eq_true rfl) (by decide) ?_
        rw [elw2]
        refine L_if_le hX hl 1164 dL_law_1151 (by first | omega | exact shrI_r _ _) (by decide) (fun c1151 => ?_) (fun c1151 => ?_)
        · refine L_iload hX hl dL_law_1164 rfl ?_
          refine L_bipush hX hl dL_law_1166 rfl ?_
          refine L_ishr hX hl dL_law_1168 ?_
          refine L_bipush hX hl dL_law_1169 rfl ?_
          refine L_low hX hl dL_law_1171 (by first | omega | exact shrI_r _ _) ⟨by omega, by omega⟩ (Nat.le_of_ble_eq_true rfl) (by decide) ?_
          rw [elw2]
          refine L_if_ne hX hl 1190 dL_law_1174 (by first | omega | exact shrI_r _ _) (by decide) (fun c1174 => ?_) (fun c1174 => ?_)
          · refine L_goto hX hl 1381 dL_law_1190 (by decide) ?_
            exact L_to hX hl (L_mo (by omega) (by omega) (k1 S2 _ _ (WFS_mono hW2 (by omega) (by omega)) (by rw [tf.2.2.1]; exact h80))) rfl (by omega) rfl
          · refine L_aload_n hX hl dL_law_1177 rfl ?_
            refine L_iconst hX hl dL_law_1178 ?_
            refine L_ask hX hl (u := 1) _ dL_law_1179 cwL_title (a_title hE (by decide) (by decide) (v := -1000) (if_pos h72)) rfl (Nat.le_of_ble_eq_true rfl) ⟨by decide, by decide⟩ (fun _ _ => rfl) (fun K9 h1 h2 => ⟨⟨h2, ⟨h1, trivial⟩⟩, trivial⟩) ?_
            refine L_sipush hX hl dL_law_1182 rfl ?_
            refine L_icmp_eq hX hl 1190 dL_law_1185 (by decide) (by decide) (by decide) (fun _ => ?_) (fun h => absurd (by decide) h)
            refine L_goto hX hl 1381 dL_law_1190 (by decide) ?_
            exact L_to hX hl (L_mo (by omega) (by omega) (k1 S2 _ _ (WFS_mono hW2 (by omega) (by omega)) (by rw [tf.2.2.1]; exact h80))) rfl (by omega) rfl
        · refine L_aload_n hX hl dL_law_1154 rfl ?_
          refine L_iconst hX hl dL_law_1155 ?_
          refine L_ask hX hl (u := 1) _ dL_law_1156 cwL_title (a_title hE (by decide) (by decide) (v := -1000) (if_pos h72)) rfl (Nat.le_of_ble_eq_true rfl) ⟨by decide, by decide⟩ (fun _ _ => rfl) (fun K9 h1 h2 => ⟨⟨h2, ⟨h1, trivial⟩⟩, trivial⟩) ?_
          refine L_iload hX hl dL_law_1159 rfl ?_
          refine L_icmp_ne hX hl 1188 dL_law_1161 (by decide) (by first | omega | exact shrI_r _ _) (by decide) (fun c1161 => ?_) (fun c1161 => ?_)
          · skip
            exfalso
            omega
          · refine L_iload hX hl dL_law_1164 rfl ?_
            refine L_bipush hX hl dL_law_1166 rfl ?_
            refine L_ishr hX hl dL_law_1168 ?_
            refine L_bipush hX hl dL_law_1169 rfl ?_
            refine L_low hX hl dL_law_1171 (by first | omega | exact shrI_r _ _) ⟨by omega, by omega⟩ (Nat.le_of_ble_eq_true rfl) (by decide) ?_
            rw [elw2]
            refine L_if_ne hX hl 1190 dL_law_1174 (by first | omega | exact shrI_r _ _) (by decide) (fun c1174 => ?_) (fun c1174 => ?_)
            · refine L_goto hX hl 1381 dL_law_1190 (by decide) ?_
              exact L_to hX hl (L_mo (by omega) (by omega) (k1 S2 _ _ (WFS_mono hW2 (by omega) (by omega)) (by rw [tf.2.2.1]; exact h80))) rfl (by omega) rfl
            · refine L_aload_n hX hl dL_law_1177 rfl ?_
              refine L_iconst hX hl dL_law_1178 ?_
              refine L_ask hX hl (u := 1) _ dL_law_1179 cwL_title (a_title hE (by decide) (by decide) (v := -1000) (if_pos h72)) rfl (Nat.le_of_ble_eq_true rfl) ⟨by decide, by decide⟩ (fun _ _ => rfl) (fun K9 h1 h2 => ⟨⟨h2, ⟨h1, trivial⟩⟩, trivial⟩) ?_
              refine L_sipush hX hl dL_law_1182 rfl ?_
              refine L_icmp_eq hX hl 1190 dL_law_1185 (by decide) (by decide) (by decide) (fun _ => ?_) (fun h => absurd (by decide) h)
              refine L_goto hX hl 1381 dL_law_1190 (by decide) ?_
              exact L_to hX hl (L_mo (by omega) (by omega) (k1 S2 _ _ (WFS_mono hW2 (by omega) (by omega)) (by rw [tf.2.2.1]; exact h80))) rfl (by omega) rfl
  · skip
    refine L_aload_n hX hl dL_law_1050 rfl ?_
    refine L_iconst hX hl dL_law_1051 ?_
    refine L_ask hX hl (u := 1) _ dL_law_1052 cwL_title (a_title (k := 2) hE (by decide) (by decide) (v := S 0 7) (tv_2 (by decide) h0)) rfl (Nat.le_of_ble_eq_true rfl) ⟨by decide, by decide⟩ (fun _ _ => rfl) (fun K9 h1 h2 => ⟨⟨h2, ⟨h1, trivial⟩⟩, trivial⟩) ?_
    refine L_istore hX hl dL_law_1055 (by decide) ?_
    refine L_iload hX hl dL_law_1057 rfl ?_
    refine L_aload_n hX hl dL_law_1059 rfl ?_
    refine L_iconst hX hl dL_law_1060 ?_
    refine L_ask hX hl (u := 1) _ dL_law_1061 cwL_whole (a_whole (k := 0) hE (by decide) (by decide) (v := S 0 3) (wv_0 (by decide))) rfl (Nat.le_of_ble_eq_true rfl) ⟨by decide, by decide⟩ (fun _ _ => rfl) (fun K9 h1 h2 => ⟨⟨h2, ⟨h1, trivial⟩⟩, trivial⟩) ?_
    refine L_low hX hl dL_law_1064 (by first | omega | exact shrI_r _ _) ⟨by omega, by omega⟩ (Nat.le_of_ble_eq_true rfl) (by decide) ?_
    obtain ⟨lw5, elw5⟩ : ∃ v : Int, low yy (S 0 3) = v := ⟨_, rfl⟩
    have rlw5 : 0 ≤ lw5 ∧ lw5 < S 0 3 := elw5 ▸ low_r (by omega)
    rw [elw5]
    refine L_istore hX hl dL_law_1067 (by decide) ?_
    refine L_iload hX hl dL_law_1069 rfl ?_
    refine L_bipush hX hl dL_law_1071 rfl ?_
    refine L_ishr hX hl dL_law_1073 ?_
    refine L_bipush hX hl dL_law_1074 rfl ?_
    refine L_low hX hl dL_law_1076 (by first | omega | exact shrI_r _ _) ⟨by omega, by omega⟩ (Nat.le_of_ble_eq_true rfl) (by decide) ?_
    obtain ⟨lw6, elw6⟩ : ∃ v : Int, low (shrI yy 8) 6 = v := ⟨_, rfl⟩
    have rlw6 : 0 ≤ lw6 ∧ lw6 < 6 := elw6 ▸ low_r (by omega)
    rw [elw6]
    refine L_if_ne hX hl 1089 dL_law_1079 (by first | omega | exact shrI_r _ _) (by decide) (fun c1079 => ?_) (fun c1079 => ?_)
    · refine L_aload_n hX hl dL_law_1089 rfl ?_
      refine L_iload hX hl dL_law_1090 rfl ?_
      refine L_iload hX hl dL_law_1092 rfl ?_
      refine L_bipush hX hl dL_law_1094 rfl ?_
      refine L_ishr hX hl dL_law_1096 ?_
      refine L_aload_n hX hl dL_law_1097 rfl ?_
      refine L_iconst hX hl dL_law_1098 ?_
      refine L_ask hX hl (u := 1) _ dL_law_1099 cwL_whole (a_whole (k := 1) hE (by decide) (by decide) (v := S 0 4) (wv_1 (by decide))) rfl (Nat.le_of_ble_eq_true rfl) ⟨by decide, by decide⟩ (fun _ _ => rfl) (fun K9 h1 h2 => ⟨⟨h2, ⟨h1, trivial⟩⟩, ⟨h1, trivial⟩⟩) ?_
      refine L_low hX hl dL_law_1102 (by first | omega | exact shrI_r _ _) ⟨by omega, by omega⟩ (Nat.le_of_ble_eq_true rfl) (by decide) ?_
      obtain ⟨lw7, elw7⟩ : ∃ v : Int, low (shrI yy 11) (S 0 4) = v := ⟨_, rfl⟩
      have rlw7 : 0 ≤ lw7 ∧ lw7 < S 0 4 := elw7 ▸ low_r (by omega)
      rw [elw7]
      refine L_iconst hX hl dL_law_1105 ?_
      refine L_iload hX hl dL_law_1106 rfl ?_
      refine L_bipush hX hl dL_law_1108 rfl ?_
      refine L_ishr hX hl dL_law_1110 ?_
      refine L_bipush hX hl dL_law_1111 rfl ?_
      refine L_low hX hl dL_law_1113 (by first | omega | exact shrI_r _ _) ⟨by omega, by omega⟩ (Nat.le_of_ble_eq_true rfl) (by decide) ?_
      obtain ⟨lw8, elw8⟩ : ∃ v : Int, low (shrI yy 16) 14 = v := ⟨_, rfl⟩
      have rlw8 : 0 ≤ lw8 ∧ lw8 < 14 := elw8 ▸ low_r (by omega)
      rw [elw8]
      refine L_iadd hX hl dL_law_1116 ?_
      refine L_do hX hl _ dL_law_1117 cwL_setTitle (d_setTitle hE (by omega) (by omega) (by omega) ⟨⟨⟨by omega, by omega⟩, ⟨by omega, by omega⟩⟩, by omega⟩) rfl (Nat.le_of_ble_eq_true rfl) ⟨by decide, by decide⟩ (fun K9 h1 h2 => ⟨⟨h2, ⟨h1, trivial⟩⟩, trivial⟩) (fun tv S2 c2 P2 hφ hW2 => ?_)
      obtain ⟨⟨hv, hS2⟩, hc2, hP2⟩ := hφ
      have tf := tiF S (lw5) (lw7) ((1 + lw8))
      rw [← hS2] at tf
      have h72 : S2 0 7 ≠ 0 := by omega
      refine L_istore hX hl dL_law_1120 (by decide) ?_
      refine L_iload hX hl dL_law_1122 rfl ?_
      refine L_iload hX hl dL_law_1124 rfl ?_
      refine L_sipush hX hl dL_law_1126 rfl ?_
      refine L_icmp_ne hX hl 1136 dL_law_1129 (by first | omega | exact shrI_r _ _) (by decide) (by decide) (fun c1129 => ?_) (fun c1129 => ?_)
      · refine L_iload hX hl dL_law_1136 rfl ?_
        refine L_icmp_ne hX hl 1188 dL_law_1138 (by first | omega | exact shrI_r _ _) (by first | omega | exact shrI_r _ _) (by decide) (fun c1138 => ?_) (fun c1138 => ?_)
        · skip
          exfalso
          omega
        · refine L_iload hX hl dL_law_1141 rfl ?_
          refine L_bipush hX hl dL_law_1143 rfl ?_
          refine L_ishr hX hl dL_law_1145 ?_
          refine L_bipush hX hl dL_law_1146 rfl ?_
          refine L_low hX hl dL_law_1148 (by first | omega | exact shrI_r _ _) ⟨by omega, by omega⟩ (Nat.le_of_ble_eq_true rfl) (by decide) ?_
          rw [elw6]
          refine L_if_le hX hl 1164 dL_law_1151 (by first | omega | exact shrI_r _ _) (by decide) (fun c1151 => ?_) (fun c1151 => ?_)
          · refine L_iload hX hl dL_law_1164 rfl ?_
            refine L_bipush hX hl dL_law_1166 rfl ?_
            refine L_ishr hX hl dL_law_1168 ?_
            refine L_bipush hX hl dL_law_1169 rfl ?_
            refine L_low hX hl dL_law_1171 (by first | omega | exact shrI_r _ _) ⟨by omega, by omega⟩ (Nat.le_of_ble_eq_true rfl) (by decide) ?_
            rw [elw6]
            refine L_if_ne hX hl 1190 dL_law_1174 (by first | omega | exact shrI_r _ _) (by decide) (fun c1174 => ?_) (fun c1174 => ?_)
            · refine L_goto hX hl 1381 dL_law_1190 (by decide) ?_
              exact L_to hX hl (L_mo (by omega) (by omega) (k1 S2 _ _ (WFS_mono hW2 (by omega) (by omega)) (by rw [tf.2.2.1]; exact h80))) rfl (by omega) rfl
            · refine L_aload_n hX hl dL_law_1177 rfl ?_
              refine L_iconst hX hl dL_law_1178 ?_
              refine L_ask hX hl (u := 1) _ dL_law_1179 cwL_title (a_title (k := 0) hE (by decide) (by decide) (v := S2 0 5) (tv_0 (by decide) h72)) rfl (Nat.le_of_ble_eq_true rfl) ⟨by decide, by decide⟩ (fun _ _ => rfl) (fun K9 h1 h2 => ⟨⟨h2, ⟨h1, trivial⟩⟩, trivial⟩) ?_
              refine L_sipush hX hl dL_law_1182 rfl ?_
              refine L_icmp_eq hX hl 1190 dL_law_1185 (by first | omega | exact shrI_r _ _) (by decide) (by decide) (fun c1185 => ?_) (fun c1185 => ?_)
              · refine L_goto hX hl 1381 dL_law_1190 (by decide) ?_
                exact L_to hX hl (L_mo (by omega) (by omega) (k1 S2 _ _ (WFS_mono hW2 (by omega) (by omega)) (by rw [tf.2.2.1]; exact h80))) rfl (by omega) rfl
              · skip
                exfalso
                omega
          · refine L_aload_n hX hl dL_law_1154 rfl ?_
            refine L_iconst hX hl dL_law_1155 ?_
            refine L_ask hX hl (u := 1) _ dL_law_1156 cwL_title (a_title (k := 0) hE (by decide) (by decide) (v := S2 0 5) (tv_0 (by decide) h72)) rfl (Nat.le_of_ble_eq_true rfl) ⟨by decide, by decide⟩ (fun _ _ => rfl) (fun K9 h1 h2 => ⟨⟨h2, ⟨h1, trivial⟩⟩, trivial⟩) ?_
            refine L_iload hX hl dL_law_1159 rfl ?_
            refine L_icmp_ne hX hl 1188 dL_law_1161 (by first | omega | exact shrI_r _ _) (by first | omega | exact shrI_r _ _) (by decide) (fun c1161 => ?_) (fun c1161 => ?_)
            · skip
              exfalso
              omega
            · refine L_iload hX hl dL_law_1164 rfl ?_
              refine L_bipush hX hl dL_law_1166 rfl ?_
              refine L_ishr hX hl dL_law_1168 ?_
              refine L_bipush hX hl dL_law_1169 rfl ?_
              refine L_low hX hl dL_law_1171 (by first | omega | exact shrI_r _ _) ⟨by omega, by omega⟩ (Nat.le_of_ble_eq_true rfl) (by decide) ?_
              rw [elw6]
              refine L_if_ne hX hl 1190 dL_law_1174 (by first | omega | exact shrI_r _ _) (by decide) (fun c1174 => ?_) (fun c1174 => ?_)
              · refine L_goto hX hl 1381 dL_law_1190 (by decide) ?_
                exact L_to hX hl (L_mo (by omega) (by omega) (k1 S2 _ _ (WFS_mono hW2 (by omega) (by omega)) (by rw [tf.2.2.1]; exact h80))) rfl (by omega) rfl
              · refine L_aload_n hX hl dL_law_1177 rfl ?_
                refine L_iconst hX hl dL_law_1178 ?_
                refine L_ask hX hl (u := 1) _ dL_law_1179 cwL_title (a_title (k := 0) hE (by decide) (by decide) (v := S2 0 5) (tv_0 (by decide) h72)) rfl (Nat.le_of_ble_eq_true rfl) ⟨by decide, by decide⟩ (fun _ _ => rfl) (fun K9 h1 h2 => ⟨⟨h2, ⟨h1, trivial⟩⟩, trivial⟩) ?_
                refine L_sipush hX hl dL_law_1182 rfl ?_
                refine L_icmp_eq hX hl 1190 dL_law_1185 (by first | omega | exact shrI_r _ _) (by decide) (by decide) (fun c1185 => ?_) (fun c1185 => ?_)
                · refine L_goto hX hl 1381 dL_law_1190 (by decide) ?_
                  exact L_to hX hl (L_mo (by omega) (by omega) (k1 S2 _ _ (WFS_mono hW2 (by omega) (by omega)) (by rw [tf.2.2.1]; exact h80))) rfl (by omega) rfl
                · skip
                  exfalso
                  omega
      · refine L_iconst hX hl dL_law_1132 ?_
        refine L_goto hX hl 1138 dL_law_1133 (by decide) ?_
        refine L_icmp_ne hX hl 1188 dL_law_1138 (by first | omega | exact shrI_r _ _) (by decide) (by decide) (fun c1138 => ?_) (fun c1138 => ?_)
        · skip
          exfalso
          omega
        · refine L_iload hX hl dL_law_1141 rfl ?_
          refine L_bipush hX hl dL_law_1143 rfl ?_
          refine L_ishr hX hl dL_law_1145 ?_
          refine L_bipush hX hl dL_law_1146 rfl ?_
          refine L_low hX hl dL_law_1148 (by first | omega | exact shrI_r _ _) ⟨by omega, by omega⟩ (Nat.le_of_ble_eq_true rfl) (by decide) ?_
          rw [elw6]
          refine L_if_le hX hl 1164 dL_law_1151 (by first | omega | exact shrI_r _ _) (by decide) (fun c1151 => ?_) (fun c1151 => ?_)
          · refine L_iload hX hl dL_law_1164 rfl ?_
            refine L_bipush hX hl dL_law_1166 rfl ?_
            refine L_ishr hX hl dL_law_1168 ?_
            refine L_bipush hX hl dL_law_1169 rfl ?_
            refine L_low hX hl dL_law_1171 (by first | omega | exact shrI_r _ _) ⟨by omega, by omega⟩ (Nat.le_of_ble_eq_true rfl) (by decide) ?_
            rw [elw6]
            refine L_if_ne hX hl 1190 dL_law_1174 (by first | omega | exact shrI_r _ _) (by decide) (fun c1174 => ?_) (fun c1174 => ?_)
            · refine L_goto hX hl 1381 dL_law_1190 (by decide) ?_
              exact L_to hX hl (L_mo (by omega) (by omega) (k1 S2 _ _ (WFS_mono hW2 (by omega) (by omega)) (by rw [tf.2.2.1]; exact h80))) rfl (by omega) rfl
            · refine L_aload_n hX hl dL_law_1177 rfl ?_
              refine L_iconst hX hl dL_law_1178 ?_
              refine L_ask hX hl (u := 1) _ dL_law_1179 cwL_title (a_title (k := 0) hE (by decide) (by decide) (v := S2 0 5) (tv_0 (by decide) h72)) rfl (Nat.le_of_ble_eq_true rfl) ⟨by decide, by decide⟩ (fun _ _ => rfl) (fun K9 h1 h2 => ⟨⟨h2, ⟨h1, trivial⟩⟩, trivial⟩) ?_
              refine L_sipush hX hl dL_law_1182 rfl ?_
              refine L_icmp_eq hX hl 1190 dL_law_1185 (by first | omega | exact shrI_r _ _) (by decide) (by decide) (fun c1185 => ?_) (fun c1185 => ?_)
              · refine L_goto hX hl 1381 dL_law_1190 (by decide) ?_
                exact L_to hX hl (L_mo (by omega) (by omega) (k1 S2 _ _ (WFS_mono hW2 (by omega) (by omega)) (by rw [tf.2.2.1]; exact h80))) rfl (by omega) rfl
              · skip
                exfalso
                omega
          · refine L_aload_n hX hl dL_law_1154 rfl ?_
            refine L_iconst hX hl dL_law_1155 ?_
            refine L_ask hX hl (u := 1) _ dL_law_1156 cwL_title (a_title (k := 0) hE (by decide) (by decide) (v := S2 0 5) (tv_0 (by decide) h72)) rfl (Nat.le_of_ble_eq_true rfl) ⟨by decide, by decide⟩ (fun _ _ => rfl) (fun K9 h1 h2 => ⟨⟨h2, ⟨h1, trivial⟩⟩, trivial⟩) ?_
            refine L_iload hX hl dL_law_1159 rfl ?_
            refine L_icmp_ne hX hl 1188 dL_law_1161 (by first | omega | exact shrI_r _ _) (by first | omega | exact shrI_r _ _) (by decide) (fun c1161 => ?_) (fun c1161 => ?_)
            · skip
              exfalso
              omega
            · refine L_iload hX hl dL_law_1164 rfl ?_
              refine L_bipush hX hl dL_law_1166 rfl ?_
              refine L_ishr hX hl dL_law_1168 ?_
              refine L_bipush hX hl dL_law_1169 rfl ?_
              refine L_low hX hl dL_law_1171 (by first | omega | exact shrI_r _ _) ⟨by omega, by omega⟩ (Nat.le_of_ble_eq_true rfl) (by decide) ?_
              rw [elw6]
              refine L_if_ne hX hl 1190 dL_law_1174 (by first | omega | exact shrI_r _ _) (by decide) (fun c1174 => ?_) (fun c1174 => ?_)
              · refine L_goto hX hl 1381 dL_law_1190 (by decide) ?_
                exact L_to hX hl (L_mo (by omega) (by omega) (k1 S2 _ _ (WFS_mono hW2 (by omega) (by omega)) (by rw [tf.2.2.1]; exact h80))) rfl (by omega) rfl
              · refine L_aload_n hX hl dL_law_1177 rfl ?_
                refine L_iconst hX hl dL_law_1178 ?_
                refine L_ask hX hl (u := 1) _ dL_law_1179 cwL_title (a_title (k := 0) hE (by decide) (by decide) (v := S2 0 5) (tv_0 (by decide) h72)) rfl (Nat.le_of_ble_eq_true rfl) ⟨by decide, by decide⟩ (fun _ _ => rfl) (fun K9 h1 h2 => ⟨⟨h2, ⟨h1, trivial⟩⟩, trivial⟩) ?_
                refine L_sipush hX hl dL_law_1182 rfl ?_
                refine L_icmp_eq hX hl 1190 dL_law_1185 (by first | omega | exact shrI_r _ _) (by decide) (by decide) (fun c1185 => ?_) (fun c1185 => ?_)
                · refine L_goto hX hl 1381 dL_law_1190 (by decide) ?_
                  exact L_to hX hl (L_mo (by omega) (by omega) (k1 S2 _ _ (WFS_mono hW2 (by omega) (by omega)) (by rw [tf.2.2.1]; exact h80))) rfl (by omega) rfl
                · skip
                  exfalso
                  omega
    · refine L_aload_n hX hl dL_law_1082 rfl ?_
      refine L_clear hX hl _ dL_law_1083 rfl (Nat.le_of_ble_eq_true rfl) (by decide) (fun K9 h1 h2 => ⟨⟨h2, ⟨h1, trivial⟩⟩, trivial⟩) (fun S2 c2 hS2 hW2 => ?_)
      have tf := tiF S 0 0 0
      rw [← hS2] at tf
      have h72 : S2 0 7 = 0 := tf.2.1
      refine L_goto hX hl 1120 dL_law_1086 (by decide) ?_
      refine L_istore hX hl dL_law_1120 (by decide) ?_
      refine L_iload hX hl dL_law_1122 rfl ?_
      refine L_iload hX hl dL_law_1124 rfl ?_
      refine L_sipush hX hl dL_law_1126 rfl ?_
      refine L_icmp_ne hX hl 1136 dL_law_1129 (by first | omega | exact shrI_r _ _) (by decide) (by decide) (fun c1129 => ?_) (fun c1129 => ?_)
      · refine L_iload hX hl dL_law_1136 rfl ?_
        refine L_icmp_ne hX hl 1188 dL_law_1138 (by first | omega | exact shrI_r _ _) (by first | omega | exact shrI_r _ _) (by decide) (fun c1138 => ?_) (fun c1138 => ?_)
        · skip
          exfalso
          omega
        · refine L_iload hX hl dL_law_1141 rfl ?_
          refine L_bipush hX hl dL_law_1143 rfl ?_
          refine L_ishr hX hl dL_law_1145 ?_
          refine L_bipush hX hl dL_law_1146 rfl ?_
          refine L_low hX hl dL_law_1148 (by first | omega | exact shrI_r _ _) ⟨by omega, by omega⟩ (Nat.le_of_ble_eq_true rfl) (by decide) ?_
          rw [elw6]
          refine L_if_le hX hl 1164 dL_law_1151 (by first | omega | exact shrI_r _ _) (by decide) (fun c1151 => ?_) (fun c1151 => ?_)
          · refine L_iload hX hl dL_law_1164 rfl ?_
            refine L_bipush hX hl dL_law_1166 rfl ?_
            refine L_ishr hX hl dL_law_1168 ?_
            refine L_bipush hX hl dL_law_1169 rfl ?_
            refine L_low hX hl dL_law_1171 (by first | omega | exact shrI_r _ _) ⟨by omega, by omega⟩ (Nat.le_of_ble_eq_true rfl) (by decide) ?_
            rw [elw6]
            refine L_if_ne hX hl 1190 dL_law_1174 (by first | omega | exact shrI_r _ _) (by decide) (fun c1174 => ?_) (fun c1174 => ?_)
            · refine L_goto hX hl 1381 dL_law_1190 (by decide) ?_
              exact L_to hX hl (L_mo (by omega) (by omega) (k1 S2 _ _ (WFS_mono hW2 (by omega) (by omega)) (by rw [tf.2.2.1]; exact h80))) rfl (by omega) rfl
            · refine L_aload_n hX hl dL_law_1177 rfl ?_
              refine L_iconst hX hl dL_law_1178 ?_
              refine L_ask hX hl (u := 1) _ dL_law_1179 cwL_title (a_title hE (by decide) (by decide) (v := -1000) (if_pos h72)) rfl (Nat.le_of_ble_eq_true rfl) ⟨by decide, by decide⟩ (fun _ _ => rfl) (fun K9 h1 h2 => ⟨⟨h2, ⟨h1, trivial⟩⟩, trivial⟩) ?_
              refine L_sipush hX hl dL_law_1182 rfl ?_
              refine L_icmp_eq hX hl 1190 dL_law_1185 (by decide) (by decide) (by decide) (fun _ => ?_) (fun h => absurd (by decide) h)
              refine L_goto hX hl 1381 dL_law_1190 (by decide) ?_
              exact L_to hX hl (L_mo (by omega) (by omega) (k1 S2 _ _ (WFS_mono hW2 (by omega) (by omega)) (by rw [tf.2.2.1]; exact h80))) rfl (by omega) rfl
          · refine L_aload_n hX hl dL_law_1154 rfl ?_
            refine L_iconst hX hl dL_law_1155 ?_
            refine L_ask hX hl (u := 1) _ dL_law_1156 cwL_title (a_title hE (by decide) (by decide) (v := -1000) (if_pos h72)) rfl (Nat.le_of_ble_eq_true rfl) ⟨by decide, by decide⟩ (fun _ _ => rfl) (fun K9 h1 h2 => ⟨⟨h2, ⟨h1, trivial⟩⟩, trivial⟩) ?_
            refine L_iload hX hl dL_law_1159 rfl ?_
            refine L_icmp_ne hX hl 1188 dL_law_1161 (by decide) (by first | omega | exact shrI_r _ _) (by decide) (fun c1161 => ?_) (fun c1161 => ?_)
            · skip
              exfalso
              omega
            · refine L_iload hX hl dL_law_1164 rfl ?_
              refine L_bipush hX hl dL_law_1166 rfl ?_
              refine L_ishr hX hl dL_law_1168 ?_
              refine L_bipush hX hl dL_law_1169 rfl ?_
              refine L_low hX hl dL_law_1171 (by first | omega | exact shrI_r _ _) ⟨by omega, by omega⟩ (Nat.le_of_ble_eq_true rfl) (by decide) ?_
              rw [elw6]
              refine L_if_ne hX hl 1190 dL_law_1174 (by first | omega | exact shrI_r _ _) (by decide) (fun c1174 => ?_) (fun c1174 => ?_)
              · refine L_goto hX hl 1381 dL_law_1190 (by decide) ?_
                exact L_to hX hl (L_mo (by omega) (by omega) (k1 S2 _ _ (WFS_mono hW2 (by omega) (by omega)) (by rw [tf.2.2.1]; exact h80))) rfl (by omega) rfl
              · refine L_aload_n hX hl dL_law_1177 rfl ?_
                refine L_iconst hX hl dL_law_1178 ?_
                refine L_ask hX hl (u := 1) _ dL_law_1179 cwL_title (a_title hE (by decide) (by decide) (v := -1000) (if_pos h72)) rfl (Nat.le_of_ble_eq_true rfl) ⟨by decide, by decide⟩ (fun _ _ => rfl) (fun K9 h1 h2 => ⟨⟨h2, ⟨h1, trivial⟩⟩, trivial⟩) ?_
                refine L_sipush hX hl dL_law_1182 rfl ?_
                refine L_icmp_eq hX hl 1190 dL_law_1185 (by decide) (by decide) (by decide) (fun _ => ?_) (fun h => absurd (by decide) h)
                refine L_goto hX hl 1381 dL_law_1190 (by decide) ?_
                exact L_to hX hl (L_mo (by omega) (by omega) (k1 S2 _ _ (WFS_mono hW2 (by omega) (by omega)) (by rw [tf.2.2.1]; exact h80))) rfl (by omega) rfl
      · refine L_iconst hX hl dL_law_1132 ?_
        refine L_goto hX hl 1138 dL_law_1133 (by decide) ?_
        refine L_icmp_ne hX hl 1188 dL_law_1138 (by first | omega | exact shrI_r _ _) (by decide) (by decide) (fun c1138 => ?_) (fun c1138 => ?_)
        · skip
          exfalso
          omega
        · refine L_iload hX hl dL_law_1141 rfl ?_
          refine L_bipush hX hl dL_law_1143 rfl ?_
          refine L_ishr hX hl dL_law_1145 ?_
          refine L_bipush hX hl dL_law_1146 rfl ?_
          refine L_low hX hl dL_law_1148 (by first | omega | exact shrI_r _ _) ⟨by omega, by omega⟩ (Nat.le_of_ble_eq_true rfl) (by decide) ?_
          rw [elw6]
          refine L_if_le hX hl 1164 dL_law_1151 (by first | omega | exact shrI_r _ _) (by decide) (fun c1151 => ?_) (fun c1151 => ?_)
          · refine L_iload hX hl dL_law_1164 rfl ?_
            refine L_bipush hX hl dL_law_1166 rfl ?_
            refine L_ishr hX hl dL_law_1168 ?_
            refine L_bipush hX hl dL_law_1169 rfl ?_
            refine L_low hX hl dL_law_1171 (by first | omega | exact shrI_r _ _) ⟨by omega, by omega⟩ (Nat.le_of_ble_eq_true rfl) (by decide) ?_
            rw [elw6]
            refine L_if_ne hX hl 1190 dL_law_1174 (by first | omega | exact shrI_r _ _) (by decide) (fun c1174 => ?_) (fun c1174 => ?_)
            · refine L_goto hX hl 1381 dL_law_1190 (by decide) ?_
              exact L_to hX hl (L_mo (by omega) (by omega) (k1 S2 _ _ (WFS_mono hW2 (by omega) (by omega)) (by rw [tf.2.2.1]; exact h80))) rfl (by omega) rfl
            · refine L_aload_n hX hl dL_law_1177 rfl ?_
              refine L_iconst hX hl dL_law_1178 ?_
              refine L_ask hX hl (u := 1) _ dL_law_1179 cwL_title (a_title hE (by decide) (by decide) (v := -1000) (if_pos h72)) rfl (Nat.le_of_ble_eq_true rfl) ⟨by decide, by decide⟩ (fun _ _ => rfl) (fun K9 h1 h2 => ⟨⟨h2, ⟨h1, trivial⟩⟩, trivial⟩) ?_
              refine L_sipush hX hl dL_law_1182 rfl ?_
              refine L_icmp_eq hX hl 1190 dL_law_1185 (by decide) (by decide) (by decide) (fun _ => ?_) (fun h => absurd (by decide) h)
              refine L_goto hX hl 1381 dL_law_1190 (by decide) ?_
              exact L_to hX hl (L_mo (by omega) (by omega) (k1 S2 _ _ (WFS_mono hW2 (by omega) (by omega)) (by rw [tf.2.2.1]; exact h80))) rfl (by omega) rfl
          · refine L_aload_n hX hl dL_law_1154 rfl ?_
            refine L_iconst hX hl dL_law_1155 ?_
            refine L_ask hX hl (u := 1) _ dL_law_1156 cwL_title (a_title hE (by decide) (by decide) (v := -1000) (if_pos h72)) rfl (Nat.le_of_ble_eq_true rfl) ⟨by decide, by decide⟩ (fun _ _ => rfl) (fun K9 h1 h2 => ⟨⟨h2, ⟨h1, trivial⟩⟩, trivial⟩) ?_
            refine L_iload hX hl dL_law_1159 rfl ?_
            refine L_icmp_ne hX hl 1188 dL_law_1161 (by decide) (by first | omega | exact shrI_r _ _) (by decide) (fun c1161 => ?_) (fun c1161 => ?_)
            · skip
              exfalso
              omega
            · refine L_iload hX hl dL_law_1164 rfl ?_
              refine L_bipush hX hl dL_law_1166 rfl ?_
              refine L_ishr hX hl dL_law_1168 ?_
              refine L_bipush hX hl dL_law_1169 rfl ?_
              refine L_low hX hl dL_law_1171 (by first | omega | exact shrI_r _ _) ⟨by omega, by omega⟩ (Nat.le_of_ble_eq_true rfl) (by decide) ?_
              rw [elw6]
              refine L_if_ne hX hl 1190 dL_law_1174 (by first | omega | exact shrI_r _ _) (by decide) (fun c1174 => ?_) (fun c1174 => ?_)
              · refine L_goto hX hl 1381 dL_law_1190 (by decide) ?_
                exact L_to hX hl (L_mo (by omega) (by omega) (k1 S2 _ _ (WFS_mono hW2 (by omega) (by omega)) (by rw [tf.2.2.1]; exact h80))) rfl (by omega) rfl
              · refine L_aload_n hX hl dL_law_1177 rfl ?_
                refine L_iconst hX hl dL_law_1178 ?_
                refine L_ask hX hl (u := 1) _ dL_law_1179 cwL_title (a_title hE (by decide) (by decide) (v := -1000) (if_pos h72)) rfl (Nat.le_of_ble_eq_true rfl) ⟨by decide, by decide⟩ (fun _ _ => rfl) (fun K9 h1 h2 => ⟨⟨h2, ⟨h1, trivial⟩⟩, trivial⟩) ?_
                refine L_sipush hX hl dL_law_1182 rfl ?_
                refine L_icmp_eq hX hl 1190 dL_law_1185 (by decide) (by decide) (by decide) (fun _ => ?_) (fun h => absurd (by decide) h)
                refine L_goto hX hl 1381 dL_law_1190 (by decide) ?_
                exact L_to hX hl (L_mo (by omega) (by omega) (k1 S2 _ _ (WFS_mono hW2 (by omega) (by omega)) (by rw [tf.2.2.1]; exact h80))) rfl (by omega) rfl
