/-! the law, whole -/
set_option maxHeartbeats 16000000 in
set_option maxRecDepth 100000 in
theorem lw_tail {E : EE} {X : JX} {x N : Nat} {sc : Int → Int} {T : Int} {S : MM} {c : Int} {P : MM} {c0 s0 q : Nat} {n yy : Int} (hX : XO E X cL_law RL 17 12 c0 s0) (hl : XL X) (hLF : LF E N sc) (hN : N < 1000000) (hW : WFS T S) (hT : T + 40000 ≤ 1000000000) (h80 : S 0 3 ≤ 80) (hn : 0 ≤ n ∧ n < 40) (hyy : i32 yy) (k2 : LJ E X (x, T, S, c, P, c0, s0) q 92 [(0, .ref (1000000 + 50)), (1, .ref x), (3, vI (n + 1))] []) : LJ E X (x, T, S, c, P, c0, s0) (q + 4300) 1381 [(0, .ref (1000000 + 50)), (1, .ref x), (3, vI n), (5, vI yy)] [] := by
  have w9 := hW.2.1
  unfold WFSs at w9
  have hE := hLF.th
  have hth := hLF.th
  have hcf := hLF.cf
  have hT3 : T + 300 ≤ 1000000000 := by omega
  have hT2 : T + 200 ≤ 1000000000 := by omega
  refine L_aload_n hX hl dL_law_1381 rfl ?_
  refine L_sub hX hl (u := 1400) _ dL_law_1382 cw_RL_173 (fun n9 K9 M9 hI9 => m_L_sound hth hI9 hT3) rfl (Nat.le_of_ble_eq_true rfl) ⟨by decide, by decide⟩ (fun K9 h1 h2 => ⟨⟨h2, ⟨h1, trivial⟩⟩, trivial⟩) ?_
  refine L_if_eq hX hl 1413 dL_law_1385 (by decide) (by decide) (fun h => absurd h (by decide)) (fun _ => ?_)
  refine L_aload_n hX hl dL_law_1388 rfl ?_
  refine L_sub hX hl (u := 700) _ dL_law_1389 cw_RL_176 (fun n9 K9 M9 hI9 => m_L_edges hth hI9) rfl (Nat.le_of_ble_eq_true rfl) ⟨by decide, by decide⟩ (fun K9 h1 h2 => ⟨⟨h2, ⟨h1, trivial⟩⟩, trivial⟩) ?_
  refine L_if_eq hX hl 1413 dL_law_1392 (by decide) (by decide) (fun h => absurd h (by decide)) (fun _ => ?_)
  have JN1415 : LJ E X (x, T, S, c, P, c0, s0) (q) 1415 [(0, .ref (1000000 + 50)), (1, .ref x), (3, vI n), (5, vI yy)] [] := by
    refine L_iinc hX hl dL_law_1415 rfl (by decide) ?_
    refine L_goto hX hl 92 dL_law_1418 (by decide) ?_
    exact L_to hX hl k2 rfl (by omega) rfl
  refine L_iload_n hX hl dL_law_1395 rfl ?_
  refine L_iconst hX hl dL_law_1396 ?_
  refine L_irem hX hl dL_law_1397 (by first | omega | exact shrI_r _ _) ⟨by omega, by omega⟩ ?_
  have tm : 0 ≤ n.tmod 5 ∧ n.tmod 5 < 5 := ⟨Int.tmod_nonneg _ (by omega), Int.tmod_lt_of_pos _ (by decide)⟩
  refine L_iconst hX hl dL_law_1398 ?_
  refine L_icmp_ne hX hl 1415 dL_law_1399 (by first | omega | exact shrI_r _ _) (by decide) (by decide) (fun c1399 => ?_) (fun c1399 => ?_)
  · skip
    exact L_to hX hl (JN1415 ) rfl (by omega) rfl
  · refine L_aload_n hX hl dL_law_1402 rfl ?_
    refine L_iload hX hl dL_law_1403 rfl ?_
    refine L_iconst hX hl dL_law_1405 ?_
    refine L_ishr hX hl dL_law_1406 ?_
    refine L_sub hX hl (u := 2100) _ dL_law_1407 cw_RL_189 (fun n9 K9 M9 hI9 => m_L_images hth hI9 (shrI_r _ _) h80) rfl (Nat.le_of_ble_eq_true rfl) ⟨by decide, by decide⟩ (fun K9 h1 h2 => ⟨⟨h2, ⟨h1, trivial⟩⟩, trivial⟩) ?_
    refine L_if_ne hX hl 1415 dL_law_1410 (by decide) (by decide) (fun _ => ?_) (fun h => absurd h (by decide))
    exact L_to hX hl (JN1415 ) rfl (by omega) rfl
set_option maxHeartbeats 16000000 in
set_option maxRecDepth 100000 in
theorem lw_step {E : EE} {X : JX} {x N : Nat} {sc : Int → Int} {T : Int} {S : MM} {c : Int} {P : MM} {c0 s0 q : Nat} {n : Int} (hX : XO E X cL_law RL 17 12 c0 s0) (hl : XL X) (hLF : LF E N sc) (hN : N < 1000000) (hW : WFS T S) (hT : T + 50000 ≤ 1000000000) (h80 : S 0 3 ≤ 80) (hn : 0 ≤ n ∧ n < 40) (k2 : ∀ S2 c2 P2, WFS (T + 200) S2 → S2 0 3 ≤ 80 → LJ E X (x, T + 200, S2, c2, P2, c0, s0) q 92 [(0, .ref (1000000 + 50)), (1, .ref x), (3, vI (n + 1))] []) : LJ E X (x, T, S, c, P, c0, s0) (q + 4500) 98 [(0, .ref (1000000 + 50)), (1, .ref x), (3, vI n)] [] := by
  have w9 := hW.2.1
  unfold WFSs at w9
  have hE := hLF.th
  have hth := hLF.th
  have hcf := hLF.cf
  refine L_aload_n hX hl dL_law_98 rfl ?_
  refine L_iconst hX hl dL_law_99 ?_
  refine L_iconst hX hl dL_law_100 ?_
  refine L_iload_n hX hl dL_law_101 rfl ?_
  refine L_imul hX hl dL_law_102 ?_
  refine L_iadd hX hl dL_law_103 ?_
  refine L_lot hX hl hLF hN dL_law_104 ⟨by omega, by omega⟩ (Nat.le_of_ble_eq_true rfl) (by decide) (fun xx hxx => ?_)
  refine L_istore hX hl dL_law_107 (by decide) ?_
  refine L_aload_n hX hl dL_law_109 rfl ?_
  refine L_iconst hX hl dL_law_110 ?_
  refine L_iconst hX hl dL_law_111 ?_
  refine L_iload_n hX hl dL_law_112 rfl ?_
  refine L_imul hX hl dL_law_113 ?_
  refine L_iadd hX hl dL_law_114 ?_
  refine L_lot hX hl hLF hN dL_law_115 ⟨by omega, by omega⟩ (Nat.le_of_ble_eq_true rfl) (by decide) (fun yy hyy => ?_)
  refine L_istore hX hl dL_law_118 (by decide) ?_
  have K1 : ∀ S2 c2 P2, WFS (T + 200) S2 → S2 0 3 ≤ 80 → LJ E X (x, T + 200, S2, c2, P2, c0, s0) (q + 4300) 1381 [(0, .ref (1000000 + 50)), (1, .ref x), (3, vI n), (5, vI yy)] [] := fun S2 c2 P2 h1 h2 => lw_tail hX hl hLF hN h1 (by omega) h2 hn hyy (k2 S2 c2 P2 h1 h2)
  refine L_aload_n hX hl dL_law_120 rfl ?_
  refine L_iconst hX hl dL_law_121 ?_
  refine L_ask hX hl (u := 1) _ dL_law_122 cwL_whole (a_whole (k := 2) hE (by decide) (by decide) (v := S 1 0) (wv_2 (by decide))) rfl (Nat.le_of_ble_eq_true rfl) ⟨by decide, by decide⟩ (fun _ _ => rfl) (fun K9 h1 h2 => ⟨⟨h2, ⟨h1, trivial⟩⟩, trivial⟩) ?_
  refine L_istore hX hl dL_law_125 (by decide) ?_
  have JN144 : ∀ (how : Int), (0 ≤ how ∧ how ≤ 15) → LJ E X (x, T, S, c, P, c0, s0) (q + 4480) 144 [(0, .ref (1000000 + 50)), (1, .ref x), (3, vI n), (4, vI xx), (5, vI yy), (6, vI (S 1 0))] [vI how] := by
    intro how  hj144
    refine L_istore hX hl dL_law_144 (by decide) ?_
    have JN164 : ∀ (k : Int), (0 ≤ k ∧ (S 1 0 ≠ 0 → k < S 1 0)) → LJ E X (x, T, S, c, P, c0, s0) (q + 4480) 164 [(0, .ref (1000000 + 50)), (1, .ref x), (3, vI n), (4, vI xx), (5, vI yy), (6, vI (S 1 0)), (7, vI how)] [vI k] := by
      intro k  hj164
      have hk := hj164
      refine L_istore hX hl dL_law_164 (by decide) ?_
      refine L_iload hX hl dL_law_166 rfl ?_
      refine L_iconst hX hl dL_law_168 ?_
      refine L_icmp_ge hX hl 472 dL_law_169 (by first | omega | exact shrI_r _ _) (by decide) (by decide) (fun c169 => ?_) (fun c169 => ?_)
      · refine L_iload hX hl dL_law_472 rfl ?_
        refine L_bipush hX hl dL_law_474 rfl ?_
        refine L_icmp_ge hX hl 592 dL_law_476 (by first | omega | exact shrI_r _ _) (by decide) (by decide) (fun c476 => ?_) (fun c476 => ?_)
        · refine L_iload hX hl dL_law_592 rfl ?_
          refine L_bipush hX hl dL_law_594 rfl ?_
          refine L_icmp_ne hX hl 680 dL_law_596 (by first | omega | exact shrI_r _ _) (by decide) (by decide) (fun c596 => ?_) (fun c596 => ?_)
          · refine L_iload hX hl dL_law_680 rfl ?_
            refine L_bipush hX hl dL_law_682 rfl ?_
            refine L_icmp_ne hX hl 779 dL_law_684 (by first | omega | exact shrI_r _ _) (by decide) (by decide) (fun c684 => ?_) (fun c684 => ?_)
            · refine L_iload hX hl dL_law_779 rfl ?_
              refine L_bipush hX hl dL_law_781 rfl ?_
              refine L_icmp_ne hX hl 909 dL_law_783 (by first | omega | exact shrI_r _ _) (by decide) (by decide) (fun c783 => ?_) (fun c783 => ?_)
              · refine L_iload hX hl dL_law_909 rfl ?_
                refine L_bipush hX hl dL_law_911 rfl ?_
                refine L_icmp_ne hX hl 1043 dL_law_913 (by first | omega | exact shrI_r _ _) (by decide) (by decide) (fun c913 => ?_) (fun c913 => ?_)
                · refine L_iload hX hl dL_law_1043 rfl ?_
                  refine L_bipush hX hl dL_law_1045 rfl ?_
                  refine L_icmp_ge hX hl 1193 dL_law_1047 (by first | omega | exact shrI_r _ _) (by decide) (by decide) (fun c1047 => ?_) (fun c1047 => ?_)
                  · refine L_iload hX hl dL_law_1193 rfl ?_
                    refine L_bipush hX hl dL_law_1195 rfl ?_
                    refine L_icmp_ge hX hl 1381 dL_law_1197 (by first | omega | exact shrI_r _ _) (by decide) (by decide) (fun c1197 => ?_) (fun c1197 => ?_)
                    · skip
                      exact L_to hX hl (L_mo (by omega) (by omega) (K1 S _ _ (WFS_mono hW (by omega) (by omega)) h80)) rfl (by omega) rfl
                    · skip
                      exact L_to hX hl (lc_tick hX hl hth hcf hW (by omega) h80 hxx hyy hk K1) rfl (by omega) rfl
                  · skip
                    exact L_to hX hl (lc_title hX hl hth hcf hW (by omega) h80 hxx hyy hk K1) rfl (by omega) rfl
                · skip
                  exact L_to hX hl (lc_set hX hl hth hcf hW (by omega) h80 hxx hyy hk K1) rfl (by omega) rfl
              · skip
                exact L_to hX hl (lc_scene hX hl hth hcf hW (by omega) h80 hxx hyy hk K1) rfl (by omega) rfl
            · refine L_iload hX hl dL_law_687 rfl ?_
              refine L_if_le hX hl 779 dL_law_689 (by first | omega | exact shrI_r _ _) (by decide) (fun c689 => ?_) (fun c689 => ?_)
              · refine L_iload hX hl dL_law_779 rfl ?_
                refine L_bipush hX hl dL_law_781 rfl ?_
                refine L_icmp_ne hX hl 909 dL_law_783 (by first | omega | exact shrI_r _ _) (by decide) (by decide) (fun c783 => ?_) (fun c783 => ?_)
                · refine L_iload hX hl dL_law_909 rfl ?_
                  refine L_bipush hX hl dL_law_911 rfl ?_
                  refine L_icmp_ne hX hl 1043 dL_law_913 (by first | omega | exact shrI_r _ _) (by decide) (by decide) (fun c913 => ?_) (fun c913 => ?_)
                  · refine L_iload hX hl dL_law_1043 rfl ?_
                    refine L_bipush hX hl dL_law_1045 rfl ?_
                    refine L_icmp_ge hX hl 1193 dL_law_1047 (by first | omega | exact shrI_r _ _) (by decide) (by decide) (fun c1047 => ?_) (fun c1047 => ?_)
                    · refine L_iload hX hl dL_law_1193 rfl ?_
                      refine L_bipush hX hl dL_law_1195 rfl ?_
                      refine L_icmp_ge hX hl 1381 dL_law_1197 (by first | omega | exact shrI_r _ _) (by decide) (by decide) (fun c1197 => ?_) (fun c1197 => ?_)
                      · skip
                        exact L_to hX hl (L_mo (by omega) (by omega) (K1 S _ _ (WFS_mono hW (by omega) (by omega)) h80)) rfl (by omega) rfl
                      · skip
                        exact L_to hX hl (lc_tick hX hl hth hcf hW (by omega) h80 hxx hyy hk K1) rfl (by omega) rfl
                    · skip
                      exact L_to hX hl (lc_title hX hl hth hcf hW (by omega) h80 hxx hyy hk K1) rfl (by omega) rfl
                  · skip
                    exact L_to hX hl (lc_set hX hl hth hcf hW (by omega) h80 hxx hyy hk K1) rfl (by omega) rfl
                · skip
                  exact L_to hX hl (lc_scene hX hl hth hcf hW (by omega) h80 hxx hyy hk K1) rfl (by omega) rfl
              · refine L_iload hX hl dL_law_692 rfl ?_
                refine L_iconst hX hl dL_law_694 ?_
                refine L_low hX hl dL_law_695 (by first | omega | exact shrI_r _ _) ⟨by omega, by omega⟩ (Nat.le_of_ble_eq_true rfl) (by decide) ?_
                obtain ⟨lw1, elw1⟩ : ∃ v : Int, low yy 3 = v := ⟨_, rfl⟩
                have rlw1 : 0 ≤ lw1 ∧ lw1 < 3 := elw1 ▸ low_r (by omega)
                rw [elw1]
                refine L_if_ne hX hl 779 dL_law_698 (by first | omega | exact shrI_r _ _) (by decide) (fun c698 => ?_) (fun c698 => ?_)
                · refine L_iload hX hl dL_law_779 rfl ?_
                  refine L_bipush hX hl dL_law_781 rfl ?_
                  refine L_icmp_ne hX hl 909 dL_law_783 (by first | omega | exact shrI_r _ _) (by decide) (by decide) (fun c783 => ?_) (fun c783 => ?_)
                  · refine L_iload hX hl dL_law_909 rfl ?_
                    refine L_bipush hX hl dL_law_911 rfl ?_
                    refine L_icmp_ne hX hl 1043 dL_law_913 (by first | omega | exact shrI_r _ _) (by decide) (by decide) (fun c913 => ?_) (fun c913 => ?_)
                    · refine L_iload hX hl dL_law_1043 rfl ?_
                      refine L_bipush hX hl dL_law_1045 rfl ?_
                      refine L_icmp_ge hX hl 1193 dL_law_1047 (by first | omega | exact shrI_r _ _) (by decide) (by decide) (fun c1047 => ?_) (fun c1047 => ?_)
                      · refine L_iload hX hl dL_law_1193 rfl ?_
                        refine L_bipush hX hl dL_law_1195 rfl ?_
                        refine L_icmp_ge hX hl 1381 dL_law_1197 (by first | omega | exact shrI_r _ _) (by decide) (by decide) (fun c1197 => ?_) (fun c1197 => ?_)
                        · skip
                          exact L_to hX hl (L_mo (by omega) (by omega) (K1 S _ _ (WFS_mono hW (by omega) (by omega)) h80)) rfl (by omega) rfl
                        · skip
                          exact L_to hX hl (lc_tick hX hl hth hcf hW (by omega) h80 hxx hyy hk K1) rfl (by omega) rfl
                      · skip
                        exact L_to hX hl (lc_title hX hl hth hcf hW (by omega) h80 hxx hyy hk K1) rfl (by omega) rfl
                    · skip
                      exact L_to hX hl (lc_set hX hl hth hcf hW (by omega) h80 hxx hyy hk K1) rfl (by omega) rfl
                  · skip
                    exact L_to hX hl (lc_scene hX hl hth hcf hW (by omega) h80 hxx hyy hk K1) rfl (by omega) rfl
                · skip
                  exact L_to hX hl (lc_remove hX hl hth hcf hW (by omega) h80 hxx hyy hk (by omega) K1) rfl (by omega) rfl
          · refine L_iload hX hl dL_law_599 rfl ?_
            refine L_if_le hX hl 680 dL_law_601 (by first | omega | exact shrI_r _ _) (by decide) (fun c601 => ?_) (fun c601 => ?_)
            · refine L_iload hX hl dL_law_680 rfl ?_
              refine L_bipush hX hl dL_law_682 rfl ?_
              refine L_icmp_ne hX hl 779 dL_law_684 (by first | omega | exact shrI_r _ _) (by decide) (by decide) (fun c684 => ?_) (fun c684 => ?_)
              · refine L_iload hX hl dL_law_779 rfl ?_
                refine L_bipush hX hl dL_law_781 rfl ?_
                refine L_icmp_ne hX hl 909 dL_law_783 (by first | omega | exact shrI_r _ _) (by decide) (by decide) (fun c783 => ?_) (fun c783 => ?_)
                · refine L_iload hX hl dL_law_909 rfl ?_
                  refine L_bipush hX hl dL_law_911 rfl ?_
                  refine L_icmp_ne hX hl 1043 dL_law_913 (by first | omega | exact shrI_r _ _) (by decide) (by decide) (fun c913 => ?_) (fun c913 => ?_)
                  · refine L_iload hX hl dL_law_1043 rfl ?_
                    refine L_bipush hX hl dL_law_1045 rfl ?_
                    refine L_icmp_ge hX hl 1193 dL_law_1047 (by first | omega | exact shrI_r _ _) (by decide) (by decide) (fun c1047 => ?_) (fun c1047 => ?_)
                    · refine L_iload hX hl dL_law_1193 rfl ?_
                      refine L_bipush hX hl dL_law_1195 rfl ?_
                      refine L_icmp_ge hX hl 1381 dL_law_1197 (by first | omega | exact shrI_r _ _) (by decide) (by decide) (fun c1197 => ?_) (fun c1197 => ?_)
                      · skip
                        exact L_to hX hl (L_mo (by omega) (by omega) (K1 S _ _ (WFS_mono hW (by omega) (by omega)) h80)) rfl (by omega) rfl
                      · skip
                        exact L_to hX hl (lc_tick hX hl hth hcf hW (by omega) h80 hxx hyy hk K1) rfl (by omega) rfl
                    · skip
                      exact L_to hX hl (lc_title hX hl hth hcf hW (by omega) h80 hxx hyy hk K1) rfl (by omega) rfl
                  · skip
                    exact L_to hX hl (lc_set hX hl hth hcf hW (by omega) h80 hxx hyy hk K1) rfl (by omega) rfl
                · skip
                  exact L_to hX hl (lc_scene hX hl hth hcf hW (by omega) h80 hxx hyy hk K1) rfl (by omega) rfl
              · refine L_iload hX hl dL_law_687 rfl ?_
                refine L_if_le hX hl 779 dL_law_689 (by first | omega | exact shrI_r _ _) (by decide) (fun c689 => ?_) (fun c689 => ?_)
                · refine L_iload hX hl dL_law_779 rfl ?_
                  refine L_bipush hX hl dL_law_781 rfl ?_
                  refine L_icmp_ne hX hl 909 dL_law_783 (by first | omega | exact shrI_r _ _) (by decide) (by decide) (fun c783 => ?_) (fun c783 => ?_)
                  · refine L_iload hX hl dL_law_909 rfl ?_
                    refine L_bipush hX hl dL_law_911 rfl ?_
                    refine L_icmp_ne hX hl 1043 dL_law_913 (by first | omega | exact shrI_r _ _) (by decide) (by decide) (fun c913 => ?_) (fun c913 => ?_)
                    · refine L_iload hX hl dL_law_1043 rfl ?_
                      refine L_bipush hX hl dL_law_1045 rfl ?_
                      refine L_icmp_ge hX hl 1193 dL_law_1047 (by first | omega | exact shrI_r _ _) (by decide) (by decide) (fun c1047 => ?_) (fun c1047 => ?_)
                      · refine L_iload hX hl dL_law_1193 rfl ?_
                        refine L_bipush hX hl dL_law_1195 rfl ?_
                        refine L_icmp_ge hX hl 1381 dL_law_1197 (by first | omega | exact shrI_r _ _) (by decide) (by decide) (fun c1197 => ?_) (fun c1197 => ?_)
                        · skip
                          exact L_to hX hl (L_mo (by omega) (by omega) (K1 S _ _ (WFS_mono hW (by omega) (by omega)) h80)) rfl (by omega) rfl
                        · skip
                          exact L_to hX hl (lc_tick hX hl hth hcf hW (by omega) h80 hxx hyy hk K1) rfl (by omega) rfl
                      · skip
                        exact L_to hX hl (lc_title hX hl hth hcf hW (by omega) h80 hxx hyy hk K1) rfl (by omega) rfl
                    · skip
                      exact L_to hX hl (lc_set hX hl hth hcf hW (by omega) h80 hxx hyy hk K1) rfl (by omega) rfl
                  · skip
                    exact L_to hX hl (lc_scene hX hl hth hcf hW (by omega) h80 hxx hyy hk K1) rfl (by omega) rfl
                · refine L_iload hX hl dL_law_692 rfl ?_
                  refine L_iconst hX hl dL_law_694 ?_
                  refine L_low hX hl dL_law_695 (by first | omega | exact shrI_r _ _) ⟨by omega, by omega⟩ (Nat.le_of_ble_eq_true rfl) (by decide) ?_
                  obtain ⟨lw2, elw2⟩ : ∃ v : Int, low yy 3 = v := ⟨_, rfl⟩
                  have rlw2 : 0 ≤ lw2 ∧ lw2 < 3 := elw2 ▸ low_r (by omega)
                  rw [elw2]
                  refine L_if_ne hX hl 779 dL_law_698 (by first | omega | exact shrI_r _ _) (by decide) (fun c698 => ?_) (fun c698 => ?_)
                  · refine L_iload hX hl dL_law_779 rfl ?_
                    refine L_bipush hX hl dL_law_781 rfl ?_
                    refine L_icmp_ne hX hl 909 dL_law_783 (by first | omega | exact shrI_r _ _) (by decide) (by decide) (fun c783 => ?_) (fun c783 => ?_)
                    · refine L_iload hX hl dL_law_909 rfl ?_
                      refine L_bipush hX hl dL_law_911 rfl ?_
                      refine L_icmp_ne hX hl 1043 dL_law_913 (by first | omega | exact shrI_r _ _) (by decide) (by decide) (fun c913 => ?_) (fun c913 => ?_)
                      · refine L_iload hX hl dL_law_1043 rfl ?_
                        refine L_bipush hX hl dL_law_1045 rfl ?_
                        refine L_icmp_ge hX hl 1193 dL_law_1047 (by first | omega | exact shrI_r _ _) (by decide) (by decide) (fun c1047 => ?_) (fun c1047 => ?_)
                        · refine L_iload hX hl dL_law_1193 rfl ?_
                          refine L_bipush hX hl dL_law_1195 rfl ?_
                          refine L_icmp_ge hX hl 1381 dL_law_1197 (by first | omega | exact shrI_r _ _) (by decide) (by decide) (fun c1197 => ?_) (fun c1197 => ?_)
                          · skip
                            exact L_to hX hl (L_mo (by omega) (by omega) (K1 S _ _ (WFS_mono hW (by omega) (by omega)) h80)) rfl (by omega) rfl
                          · skip
                            exact L_to hX hl (lc_tick hX hl hth hcf hW (by omega) h80 hxx hyy hk K1) rfl (by omega) rfl
                        · skip
                          exact L_to hX hl (lc_title hX hl hth hcf hW (by omega) h80 hxx hyy hk K1) rfl (by omega) rfl
                      · skip
                        exact L_to hX hl (lc_set hX hl hth hcf hW (by omega) h80 hxx hyy hk K1) rfl (by omega) rfl
                    · skip
                      exact L_to hX hl (lc_scene hX hl hth hcf hW (by omega) h80 hxx hyy hk K1) rfl (by omega) rfl
                  · skip
                    exact L_to hX hl (lc_remove hX hl hth hcf hW (by omega) h80 hxx hyy hk (by omega) K1) rfl (by omega) rfl
            · skip
              exact L_to hX hl (lc_shade hX hl hth hcf hW (by omega) h80 hxx hyy hk (by omega) K1) rfl (by omega) rfl
        · refine L_iload hX hl dL_law_479 rfl ?_
          refine L_if_le hX hl 592 dL_law_481 (by first | omega | exact shrI_r _ _) (by decide) (fun c481 => ?_) (fun c481 => ?_)
          · refine L_iload hX hl dL_law_592 rfl ?_
            refine L_bipush hX hl dL_law_594 rfl ?_
            refine L_icmp_ne hX hl 680 dL_law_596 (by first | omega | exact shrI_r _ _) (by decide) (by decide) (fun c596 => ?_) (fun c596 => ?_)
            · refine L_iload hX hl dL_law_680 rfl ?_
              refine L_bipush hX hl dL_law_682 rfl ?_
              refine L_icmp_ne hX hl 779 dL_law_684 (by first | omega | exact shrI_r _ _) (by decide) (by decide) (fun c684 => ?_) (fun c684 => ?_)
              · refine L_iload hX hl dL_law_779 rfl ?_
                refine L_bipush hX hl dL_law_781 rfl ?_
                refine L_icmp_ne hX hl 909 dL_law_783 (by first | omega | exact shrI_r _ _) (by decide) (by decide) (fun c783 => ?_) (fun c783 => ?_)
                · refine L_iload hX hl dL_law_909 rfl ?_
                  refine L_bipush hX hl dL_law_911 rfl ?_
                  refine L_icmp_ne hX hl 1043 dL_law_913 (by first | omega | exact shrI_r _ _) (by decide) (by decide) (fun c913 => ?_) (fun c913 => ?_)
                  · refine L_iload hX hl dL_law_1043 rfl ?_
                    refine L_bipush hX hl dL_law_1045 rfl ?_
                    refine L_icmp_ge hX hl 1193 dL_law_1047 (by first | omega | exact shrI_r _ _) (by decide) (by decide) (fun c1047 => ?_) (fun c1047 => ?_)
                    · refine L_iload hX hl dL_law_1193 rfl ?_
                      refine L_bipush hX hl dL_law_1195 rfl ?_
                      refine L_icmp_ge hX hl 1381 dL_law_1197 (by first | omega | exact shrI_r _ _) (by decide) (by decide) (fun c1197 => ?_) (fun c1197 => ?_)
                      · skip
                        exact L_to hX hl (L_mo (by omega) (by omega) (K1 S _ _ (WFS_mono hW (by omega) (by omega)) h80)) rfl (by omega) rfl
                      · skip
                        exact L_to hX hl (lc_tick hX hl hth hcf hW (by omega) h80 hxx hyy hk K1) rfl (by omega) rfl
                    · skip
                      exact L_to hX hl (lc_title hX hl hth hcf hW (by omega) h80 hxx hyy hk K1) rfl (by omega) rfl
                  · skip
                    exact L_to hX hl (lc_set hX hl hth hcf hW (by omega) h80 hxx hyy hk K1) rfl (by omega) rfl
                · skip
                  exact L_to hX hl (lc_scene hX hl hth hcf hW (by omega) h80 hxx hyy hk K1) rfl (by omega) rfl
              · refine L_iload hX hl dL_law_687 rfl ?_
                refine L_if_le hX hl 779 dL_law_689 (by first | omega | exact shrI_r _ _) (by decide) (fun c689 => ?_) (fun c689 => ?_)
                · refine L_iload hX hl dL_law_779 rfl ?_
                  refine L_bipush hX hl dL_law_781 rfl ?_
                  refine L_icmp_ne hX hl 909 dL_law_783 (by first | omega | exact shrI_r _ _) (by decide) (by decide) (fun c783 => ?_) (fun c783 => ?_)
                  · refine L_iload hX hl dL_law_909 rfl ?_
                    refine L_bipush hX hl dL_law_911 rfl ?_
                    refine L_icmp_ne hX hl 1043 dL_law_913 (by first | omega | exact shrI_r _ _) (by decide) (by decide) (fun c913 => ?_) (fun c913 => ?_)
                    · refine L_iload hX hl dL_law_1043 rfl ?_
                      refine L_bipush hX hl dL_law_1045 rfl ?_
                      refine L_icmp_ge hX hl 1193 dL_law_1047 (by first | omega | exact shrI_r _ _) (by decide) (by decide) (fun c1047 => ?_) (fun c1047 => ?_)
                      · refine L_iload hX hl dL_law_1193 rfl ?_
                        refine L_bipush hX hl dL_law_1195 rfl ?_
                        refine L_icmp_ge hX hl 1381 dL_law_1197 (by first | omega | exact shrI_r _ _) (by decide) (by decide) (fun c1197 => ?_) (fun c1197 => ?_)
                        · skip
                          exact L_to hX hl (L_mo (by omega) (by omega) (K1 S _ _ (WFS_mono hW (by omega) (by omega)) h80)) rfl (by omega) rfl
                        · skip
                          exact L_to hX hl (lc_tick hX hl hth hcf hW (by omega) h80 hxx hyy hk K1) rfl (by omega) rfl
                      · skip
                        exact L_to hX hl (lc_title hX hl hth hcf hW (by omega) h80 hxx hyy hk K1) rfl (by omega) rfl
                    · skip
                      exact L_to hX hl (lc_set hX hl hth hcf hW (by omega) h80 hxx hyy hk K1) rfl (by omega) rfl
                  · skip
                    exact L_to hX hl (lc_scene hX hl hth hcf hW (by omega) h80 hxx hyy hk K1) rfl (by omega) rfl
                · refine L_iload hX hl dL_law_692 rfl ?_
                  refine L_iconst hX hl dL_law_694 ?_
                  refine L_low hX hl dL_law_695 (by first | omega | exact shrI_r _ _) ⟨by omega, by omega⟩ (Nat.le_of_ble_eq_true rfl) (by decide) ?_
                  obtain ⟨lw3, elw3⟩ : ∃ v : Int, low yy 3 = v := ⟨_, rfl⟩
                  have rlw3 : 0 ≤ lw3 ∧ lw3 < 3 := elw3 ▸ low_r (by omega)
                  rw [elw3]
                  refine L_if_ne hX hl 779 dL_law_698 (by first | omega | exact shrI_r _ _) (by decide) (fun c698 => ?_) (fun c698 => ?_)
                  · refine L_iload hX hl dL_law_779 rfl ?_
                    refine L_bipush hX hl dL_law_781 rfl ?_
                    refine L_icmp_ne hX hl 909 dL_law_783 (by first | omega | exact shrI_r _ _) (by decide) (by decide) (fun c783 => ?_) (fun c783 => ?_)
                    · refine L_iload hX hl dL_law_909 rfl ?_
                      refine L_bipush hX hl dL_law_911 rfl ?_
                      refine L_icmp_ne hX hl 1043 dL_law_913 (by first | omega | exact shrI_r _ _) (by decide) (by decide) (fun c913 => ?_) (fun c913 => ?_)
                      · refine L_iload hX hl dL_law_1043 rfl ?_
                        refine L_bipush hX hl dL_law_1045 rfl ?_
                        refine L_icmp_ge hX hl 1193 dL_law_1047 (by first | omega | exact shrI_r _ _) (by decide) (by decide) (fun c1047 => ?_) (fun c1047 => ?_)
                        · refine L_iload hX hl dL_law_1193 rfl ?_
                          refine L_bipush hX hl dL_law_1195 rfl ?_
                          refine L_icmp_ge hX hl 1381 dL_law_1197 (by first | omega | exact shrI_r _ _) (by decide) (by decide) (fun c1197 => ?_) (fun c1197 => ?_)
                          · skip
                            exact L_to hX hl (L_mo (by omega) (by omega) (K1 S _ _ (WFS_mono hW (by omega) (by omega)) h80)) rfl (by omega) rfl
                          · skip
                            exact L_to hX hl (lc_tick hX hl hth hcf hW (by omega) h80 hxx hyy hk K1) rfl (by omega) rfl
                        · skip
                          exact L_to hX hl (lc_title hX hl hth hcf hW (by omega) h80 hxx hyy hk K1) rfl (by omega) rfl
                      · skip
                        exact L_to hX hl (lc_set hX hl hth hcf hW (by omega) h80 hxx hyy hk K1) rfl (by omega) rfl
                    · skip
                      exact L_to hX hl (lc_scene hX hl hth hcf hW (by omega) h80 hxx hyy hk K1) rfl (by omega) rfl
                  · skip
                    exact L_to hX hl (lc_remove hX hl hth hcf hW (by omega) h80 hxx hyy hk (by omega) K1) rfl (by omega) rfl
            · refine L_iload hX hl dL_law_599 rfl ?_
              refine L_if_le hX hl 680 dL_law_601 (by first | omega | exact shrI_r _ _) (by decide) (fun c601 => ?_) (fun c601 => ?_)
              · refine L_iload hX hl dL_law_680 rfl ?_
                refine L_bipush hX hl dL_law_682 rfl ?_
                refine L_icmp_ne hX hl 779 dL_law_684 (by first | omega | exact shrI_r _ _) (by decide) (by decide) (fun c684 => ?_) (fun c684 => ?_)
                · refine L_iload hX hl dL_law_779 rfl ?_
                  refine L_bipush hX hl dL_law_781 rfl ?_
                  refine L_icmp_ne hX hl 909 dL_law_783 (by first | omega | exact shrI_r _ _) (by decide) (by decide) (fun c783 => ?_) (fun c783 => ?_)
                  · refine L_iload hX hl dL_law_909 rfl ?_
                    refine L_bipush hX hl dL_law_911 rfl ?_
                    refine L_icmp_ne hX hl 1043 dL_law_913 (by first | omega | exact shrI_r _ _) (by decide) (by decide) (fun c913 => ?_) (fun c913 => ?_)
                    · refine L_iload hX hl dL_law_1043 rfl ?_
                      refine L_bipush hX hl dL_law_1045 rfl ?_
                      refine L_icmp_ge hX hl 1193 dL_law_1047 (by first | omega | exact shrI_r _ _) (by decide) (by decide) (fun c1047 => ?_) (fun c1047 => ?_)
                      · refine L_iload hX hl dL_law_1193 rfl ?_
                        refine L_bipush hX hl dL_law_1195 rfl ?_
                        refine L_icmp_ge hX hl 1381 dL_law_1197 (by first | omega | exact shrI_r _ _) (by decide) (by decide) (fun c1197 => ?_) (fun c1197 => ?_)
                        · skip
                          exact L_to hX hl (L_mo (by omega) (by omega) (K1 S _ _ (WFS_mono hW (by omega) (by omega)) h80)) rfl (by omega) rfl
                        · skip
                          exact L_to hX hl (lc_tick hX hl hth hcf hW (by omega) h80 hxx hyy hk K1) rfl (by omega) rfl
                      · skip
                        exact L_to hX hl (lc_title hX hl hth hcf hW (by omega) h80 hxx hyy hk K1) rfl (by omega) rfl
                    · skip
                      exact L_to hX hl (lc_set hX hl hth hcf hW (by omega) h80 hxx hyy hk K1) rfl (by omega) rfl
                  · skip
                    exact L_to hX hl (lc_scene hX hl hth hcf hW (by omega) h80 hxx hyy hk K1) rfl (by omega) rfl
                · refine L_iload hX hl dL_law_687 rfl ?_
                  refine L_if_le hX hl 779 dL_law_689 (by first | omega | exact shrI_r _ _) (by decide) (fun c689 => ?_) (fun c689 => ?_)
                  · refine L_iload hX hl dL_law_779 rfl ?_
                    refine L_bipush hX hl dL_law_781 rfl ?_
                    refine L_icmp_ne hX hl 909 dL_law_783 (by first | omega | exact shrI_r _ _) (by decide) (by decide) (fun c783 => ?_) (fun c783 => ?_)
                    · refine L_iload hX hl dL_law_909 rfl ?_
                      refine L_bipush hX hl dL_law_911 rfl ?_
                      refine L_icmp_ne hX hl 1043 dL_law_913 (by first | omega | exact shrI_r _ _) (by decide) (by decide) (fun c913 => ?_) (fun c913 => ?_)
                      · refine L_iload hX hl dL_law_1043 rfl ?_
                        refine L_bipush hX hl dL_law_1045 rfl ?_
                        refine L_icmp_ge hX hl 1193 dL_law_1047 (by first | omega | exact shrI_r _ _) (by decide) (by decide) (fun c1047 => ?_) (fun c1047 => ?_)
                        · refine L_iload hX hl dL_law_1193 rfl ?_
                          refine L_bipush hX hl dL_law_1195 rfl ?_
                          refine L_icmp_ge hX hl 1381 dL_law_1197 (by first | omega | exact shrI_r _ _) (by decide) (by decide) (fun c1197 => ?_) (fun c1197 => ?_)
                          · skip
                            exact L_to hX hl (L_mo (by omega) (by omega) (K1 S _ _ (WFS_mono hW (by omega) (by omega)) h80)) rfl (by omega) rfl
                          · skip
                            exact L_to hX hl (lc_tick hX hl hth hcf hW (by omega) h80 hxx hyy hk K1) rfl (by omega) rfl
                        · skip
                          exact L_to hX hl (lc_title hX hl hth hcf hW (by omega) h80 hxx hyy hk K1) rfl (by omega) rfl
                      · skip
                        exact L_to hX hl (lc_set hX hl hth hcf hW (by omega) h80 hxx hyy hk K1) rfl (by omega) rfl
                    · skip
                      exact L_to hX hl (lc_scene hX hl hth hcf hW (by omega) h80 hxx hyy hk K1) rfl (by omega) rfl
                  · refine L_iload hX hl dL_law_692 rfl ?_
                    refine L_iconst hX hl dL_law_694 ?_
                    refine L_low hX hl dL_law_695 (by first | omega | exact shrI_r _ _) ⟨by omega, by omega⟩ (Nat.le_of_ble_eq_true rfl) (by decide) ?_
                    obtain ⟨lw4, elw4⟩ : ∃ v : Int, low yy 3 = v := ⟨_, rfl⟩
                    have rlw4 : 0 ≤ lw4 ∧ lw4 < 3 := elw4 ▸ low_r (by omega)
                    rw [elw4]
                    refine L_if_ne hX hl 779 dL_law_698 (by first | omega | exact shrI_r _ _) (by decide) (fun c698 => ?_) (fun c698 => ?_)
                    · refine L_iload hX hl dL_law_779 rfl ?_
                      refine L_bipush hX hl dL_law_781 rfl ?_
                      refine L_icmp_ne hX hl 909 dL_law_783 (by first | omega | exact shrI_r _ _) (by decide) (by decide) (fun c783 => ?_) (fun c783 => ?_)
                      · refine L_iload hX hl dL_law_909 rfl ?_
                        refine L_bipush hX hl dL_law_911 rfl ?_
                        refine L_icmp_ne hX hl 1043 dL_law_913 (by first | omega | exact shrI_r _ _) (by decide) (by decide) (fun c913 => ?_) (fun c913 => ?_)
                        · refine L_iload hX hl dL_law_1043 rfl ?_
                          refine L_bipush hX hl dL_law_1045 rfl ?_
                          refine L_icmp_ge hX hl 1193 dL_law_1047 (by first | omega | exact shrI_r _ _) (by decide) (by decide) (fun c1047 => ?_) (fun c1047 => ?_)
                          · refine L_iload hX hl dL_law_1193 rfl ?_
                            refine L_bipush hX hl dL_law_1195 rfl ?_
                            refine L_icmp_ge hX hl 1381 dL_law_1197 (by first | omega | exact shrI_r _ _) (by decide) (by decide) (fun c1197 => ?_) (fun c1197 => ?_)
                            · skip
                              exact L_to hX hl (L_mo (by omega) (by omega) (K1 S _ _ (WFS_mono hW (by omega) (by omega)) h80)) rfl (by omega) rfl
                            · skip
                              exact L_to hX hl (lc_tick hX hl hth hcf hW (by omega) h80 hxx hyy hk K1) rfl (by omega) rfl
                          · skip
                            exact L_to hX hl (lc_title hX hl hth hcf hW (by omega) h80 hxx hyy hk K1) rfl (by omega) rfl
                        · skip
                          exact L_to hX hl (lc_set hX hl hth hcf hW (by omega) h80 hxx hyy hk K1) rfl (by omega) rfl
                      · skip
                        exact L_to hX hl (lc_scene hX hl hth hcf hW (by omega) h80 hxx hyy hk K1) rfl (by omega) rfl
                    · skip
                      exact L_to hX hl (lc_remove hX hl hth hcf hW (by omega) h80 hxx hyy hk (by omega) K1) rfl (by omega) rfl
              · skip
                exact L_to hX hl (lc_shade hX hl hth hcf hW (by omega) h80 hxx hyy hk (by omega) K1) rfl (by omega) rfl
          · skip
            exact L_to hX hl (lc_move hX hl hth hcf hW (by omega) h80 hxx hyy hk (by omega) K1) rfl (by omega) rfl
      · skip
        exact L_to hX hl (lc_add hX hl hth hcf hW (by omega) h80 hxx hyy hk K1) rfl (by omega) rfl
    refine L_iload hX hl dL_law_146 rfl ?_
    refine L_if_ne hX hl 155 dL_law_148 (by first | omega | exact shrI_r _ _) (by decide) (fun c148 => ?_) (fun c148 => ?_)
    · refine L_iload hX hl dL_law_155 rfl ?_
      refine L_iconst hX hl dL_law_157 ?_
      refine L_ishr hX hl dL_law_158 ?_
      refine L_iload hX hl dL_law_159 rfl ?_
      refine L_low hX hl dL_law_161 (by first | omega | exact shrI_r _ _) ⟨by omega, by omega⟩ (Nat.le_of_ble_eq_true rfl) (by decide) ?_
      obtain ⟨lw5, elw5⟩ : ∃ v : Int, low (shrI xx 5) (S 1 0) = v := ⟨_, rfl⟩
      have rlw5 : 0 ≤ lw5 ∧ lw5 < S 1 0 := elw5 ▸ low_r (by omega)
      rw [elw5]
      exact L_to hX hl (JN164 _ (by omega)) rfl (by omega) rfl
    · refine L_iconst hX hl dL_law_151 ?_
      refine L_goto hX hl 164 dL_law_152 (by decide) ?_
      exact L_to hX hl (JN164 _ (by omega)) rfl (by omega) rfl
  refine L_iload_n hX hl dL_law_127 rfl ?_
  refine L_bipush hX hl dL_law_128 rfl ?_
  refine L_icmp_ge hX hl 137 dL_law_130 (by first | omega | exact shrI_r _ _) (by decide) (by decide) (fun c130 => ?_) (fun c130 => ?_)
  · refine L_iload hX hl dL_law_137 rfl ?_
    refine L_bipush hX hl dL_law_139 rfl ?_
    refine L_low hX hl dL_law_141 (by first | omega | exact shrI_r _ _) ⟨by omega, by omega⟩ (Nat.le_of_ble_eq_true rfl) (by decide) ?_
    obtain ⟨lw6, elw6⟩ : ∃ v : Int, low xx 16 = v := ⟨_, rfl⟩
    have rlw6 : 0 ≤ lw6 ∧ lw6 < 16 := elw6 ▸ low_r (by omega)
    rw [elw6]
    exact L_to hX hl (JN144 _ (by omega)) rfl (by omega) rfl
  · refine L_iconst hX hl dL_law_133 ?_
    refine L_goto hX hl 144 dL_law_134 (by decide) ?_
    exact L_to hX hl (JN144 _ (by omega)) rfl (by omega) rfl
set_option maxHeartbeats 16000000 in
set_option maxRecDepth 100000 in
theorem lw_end {E : EE} {X : JX} {x N : Nat} {sc : Int → Int} {T : Int} {S : MM} {c : Int} {P : MM} {c0 s0 q : Nat} (hX : XO E X cL_law RL 17 12 c0 s0) (hl : XL X) (hLF : LF E N sc) (hN : N < 1000000) (hW : WFS T S) (hT : T + 40000 ≤ 1000000000) (hfin : ∀ L K M a b, a ≤ c0 → b ≤ s0 → JP E X 1477 L [vI 1] K M a b) : LJ E X (x, T, S, c, P, c0, s0) (q + 600) 1421 [(0, .ref (1000000 + 50)), (1, .ref x)] [] := by
  have w9 := hW.2.1
  unfold WFSs at w9
  have hE := hLF.th
  have hth := hLF.th
  have hcf := hLF.cf
  have hT3 : T + 300 ≤ 1000000000 := by omega
  have hT2 : T + 200 ≤ 1000000000 := by omega
  refine L_aload_n hX hl dL_law_1421 rfl ?_
  refine L_sub hX hl (u := 500) _ dL_law_1422 cw_RL_166 (fun n9 K9 M9 hI9 => m_L_refuses hth hI9 hcf hT3 hT2) rfl (Nat.le_of_ble_eq_true rfl) ⟨by decide, by decide⟩ (fun K9 h1 h2 => ⟨⟨h2, ⟨h1, trivial⟩⟩, trivial⟩) ?_
  refine L_if_eq hX hl 1476 dL_law_1425 (by decide) (by decide) (fun h => absurd h (by decide)) (fun _ => ?_)
  refine L_aload_n hX hl dL_law_1428 rfl ?_
  refine L_iconst hX hl dL_law_1429 ?_
  refine L_iconst hX hl dL_law_1430 ?_
  refine L_do hX hl _ dL_law_1431 cwL_set (d_set hth (by decide) (by decide) hcf (by decide)) rfl (Nat.le_of_ble_eq_true rfl) ⟨by decide, by decide⟩ (fun K9 h1 h2 => ⟨⟨h2, ⟨h1, trivial⟩⟩, trivial⟩) (fun tv S2 c2 P2 hφ hW2 => ?_)
  obtain ⟨⟨hv, hS2⟩, -, -⟩ := hφ
  have sf := seF S 0 0
  rw [← hS2] at sf
  have w92 := hW2.2.1
  unfold WFSs at w92
  refine L_if_lt hX hl 1476 dL_law_1434 (by first | omega | exact shrI_r _ _) (by decide) (fun c1434 => ?_) (fun c1434 => ?_)
  · skip
    exfalso
    omega
  · refine L_aload_n hX hl dL_law_1437 rfl ?_
    refine L_clear hX hl _ dL_law_1438 rfl (Nat.le_of_ble_eq_true rfl) (by decide) (fun K9 h1 h2 => ⟨⟨h2, ⟨h1, trivial⟩⟩, trivial⟩) (fun S3 c3 hS3 hW3 => ?_)
    have tf := tiF S2 0 0 0
    rw [← hS3] at tf
    have ff9 := finF hW3 (tf.2.2.2.trans sf.1) tf.2.1
    refine L_if_lt hX hl 1476 dL_law_1441 (by first | omega | exact shrI_r _ _) (by decide) (fun c1441 => ?_) (fun c1441 => ?_)
    · skip
      exfalso
      omega
    · refine L_aload_n hX hl dL_law_1444 rfl ?_
      refine L_bipush hX hl dL_law_1445 rfl ?_
      refine L_ask hX hl (u := 1) _ dL_law_1447 cwL_whole (a_whole (k := 9) hth (by decide) (by decide) (v := 100) ((wv_9 (by decide)).trans ff9.1)) rfl (Nat.le_of_ble_eq_true rfl) ⟨by decide, by decide⟩ (fun _ _ => rfl) (fun K9 h1 h2 => ⟨⟨h2, ⟨h1, trivial⟩⟩, trivial⟩) ?_
      refine L_bipush hX hl dL_law_1450 rfl ?_
      refine L_icmp_ne hX hl 1476 dL_law_1452 (by decide) (by decide) (by decide) (fun h => absurd (by decide) h) (fun _ => ?_)
      refine L_aload_n hX hl dL_law_1455 rfl ?_
      refine L_iconst hX hl dL_law_1456 ?_
      refine L_ask hX hl (u := 1) _ dL_law_1457 cwL_ghosts (a_ghosts hth (by decide) (by decide) (v := 0) ff9.2.2) rfl (Nat.le_of_ble_eq_true rfl) ⟨by decide, by decide⟩ (fun _ _ => rfl) (fun K9 h1 h2 => ⟨⟨h2, ⟨h1, trivial⟩⟩, trivial⟩) ?_
      refine L_if_ne hX hl 1476 dL_law_1460 (by decide) (by decide) (fun h => absurd (by decide) h) (fun _ => ?_)
      refine L_aload_n hX hl dL_law_1463 rfl ?_
      refine L_bipush hX hl dL_law_1464 rfl ?_
      refine L_ask hX hl (u := 1) _ dL_law_1466 cwL_whole (a_whole (k := 10) hth (by decide) (by decide) (v := 0) ((wv_10 (by decide)).trans ff9.2.1)) rfl (Nat.le_of_ble_eq_true rfl) ⟨by decide, by decide⟩ (fun _ _ => rfl) (fun K9 h1 h2 => ⟨⟨h2, ⟨h1, trivial⟩⟩, trivial⟩) ?_
      refine L_if_ne hX hl 1476 dL_law_1469 (by decide) (by decide) (fun h => absurd (by decide) h) (fun _ => ?_)
      refine L_iconst hX hl dL_law_1472 ?_
      refine L_goto hX hl 1477 dL_law_1473 (by decide) ?_
      exact fun n K M a b hI ha hb => hfin _ K M a b (by have h : a + 2 * _ ≤ c0 := ha; omega) (by have h : b + 12 * _ ≤ s0 := hb; omega)
set_option maxHeartbeats 16000000 in
set_option maxRecDepth 100000 in
theorem lw_loop {E : EE} {X : JX} {x N : Nat} {sc : Int → Int} {c0 s0 : Nat} (hX : XO E X cL_law RL 17 12 c0 s0) (hl : XL X) (hLF : LF E N sc) (hN : N < 1000000) (hfin : ∀ L K M a b, a ≤ c0 → b ≤ s0 → JP E X 1477 L [vI 1] K M a b) : ∀ (j : Nat) (n T : Int) (S : MM) (c : Int) (P : MM), n + j = 40 → 0 ≤ n → T ≤ 31000 + 200 * n → WFS T S → S 0 3 ≤ 80 → LJ E X (x, T, S, c, P, c0, s0) (4500 * j + 600) 92 [(0, .ref (1000000 + 50)), (1, .ref x), (3, vI n)] []
  | 0, n, T, S, c, P, h1, h2, h3, hW, h80 => by
    refine L_iload_n hX hl dL_law_92 rfl ?_
    refine L_bipush hX hl dL_law_93 rfl ?_
    refine L_icmp_ge hX hl 1421 dL_law_95 (by omega) (by decide) (by decide) (fun _ => ?_) (fun h => absurd (show (40 : Int) ≤ n by omega) h)
    exact L_to hX hl (lw_end (q := 0) hX hl hLF hN hW (by omega) hfin) rfl (by omega) rfl
  | j + 1, n, T, S, c, P, h1, h2, h3, hW, h80 => by
    refine L_iload_n hX hl dL_law_92 rfl ?_
    refine L_bipush hX hl dL_law_93 rfl ?_
    refine L_icmp_ge hX hl 1421 dL_law_95 (by omega) (by decide) (by decide) (fun h => absurd h (by omega)) (fun _ => ?_)
    exact L_to hX hl (lw_step (q := 4500 * j + 600) hX hl hLF hN hW (by omega) h80 ⟨h2, by omega⟩ (fun S2 c2 P2 hW2 h82 => lw_loop hX hl hLF hN hfin j (n + 1) (T + 200) S2 c2 P2 (by omega) (by omega) (by omega) hW2 h82)) rfl (by omega) rfl
set_option maxHeartbeats 16000000 in
set_option maxRecDepth 100000 in
theorem lw_pre {E : EE} {X : JX} {x N : Nat} {sc : Int → Int} {S : MM} {P : MM} {c0 s0 : Nat} (hX : XO E X cL_law RL 17 12 c0 s0) (hl : XL X) (hLF : LF E N sc) (hN : N < 1000000) (hW : WFS 0 S) (h111 : S 11 1 = 0) (hfin : ∀ L K M a b, a ≤ c0 → b ≤ s0 → JP E X 1477 L [vI 1] K M a b) : LJ E X (x, 0, S, 0, P, c0, s0) 184000 8 [(0, .ref (1000000 + 50)), (1, .ref x)] [] := by
  have w9 := hW.2.1
  unfold WFSs at w9
  have hE := hLF.th
  have hth := hLF.th
  have hcf := hLF.cf
  have hT3 : (0 : Int) + 300 ≤ 1000000000 := by decide
  have hT2 : (0 : Int) + 200 ≤ 1000000000 := by decide
  refine L_aload_n hX hl dL_law_8 rfl ?_
  refine L_sub hX hl (u := 500) _ dL_law_9 cw_RL_166 (fun n9 K9 M9 hI9 => m_L_refuses hth hI9 hcf hT3 hT2) rfl (Nat.le_of_ble_eq_true rfl) ⟨by decide, by decide⟩ (fun K9 h1 h2 => ⟨⟨h2, ⟨h1, trivial⟩⟩, trivial⟩) ?_
  refine L_if_eq hX hl 52 dL_law_12 (by decide) (by decide) (fun h => absurd h (by decide)) (fun _ => ?_)
  refine L_aload_n hX hl dL_law_15 rfl ?_
  refine L_ask hX hl (u := 20) _ dL_law_16 cwL_undo (AskH_v (no_undo hth (by decide)) (v2 := -90200) rfl) rfl (Nat.le_of_ble_eq_true rfl) ⟨by decide, by decide⟩ (fun _ _ => rfl) (fun K9 h1 h2 => ⟨⟨h2, ⟨h1, trivial⟩⟩, trivial⟩) ?_
  refine L_ldcI hX hl kI_27 dL_law_19 ?_
  refine L_icmp_ne hX hl 52 dL_law_21 (by decide) (by decide) (by decide) (fun h => absurd (by decide) h) (fun _ => ?_)
  refine L_aload_n hX hl dL_law_24 rfl ?_
  refine L_sub hX hl (u := 1400) _ dL_law_25 cw_RL_173 (fun n9 K9 M9 hI9 => m_L_sound hth hI9 hT3) rfl (Nat.le_of_ble_eq_true rfl) ⟨by decide, by decide⟩ (fun K9 h1 h2 => ⟨⟨h2, ⟨h1, trivial⟩⟩, trivial⟩) ?_
  refine L_if_eq hX hl 52 dL_law_28 (by decide) (by decide) (fun h => absurd h (by decide)) (fun _ => ?_)
  refine L_aload_n hX hl dL_law_31 rfl ?_
  refine L_sub hX hl (u := 700) _ dL_law_32 cw_RL_176 (fun n9 K9 M9 hI9 => m_L_edges hth hI9) rfl (Nat.le_of_ble_eq_true rfl) ⟨by decide, by decide⟩ (fun K9 h1 h2 => ⟨⟨h2, ⟨h1, trivial⟩⟩, trivial⟩) ?_
  refine L_if_eq hX hl 52 dL_law_35 (by decide) (by decide) (fun h => absurd h (by decide)) (fun _ => ?_)
  refine L_aload_n hX hl dL_law_38 rfl ?_
  refine L_run hX hl hcf _ dL_law_39 rfl (Nat.le_of_ble_eq_true rfl) (by decide) rfl (by omega) (fun K9 h1 h2 => ⟨⟨h2, ⟨h1, trivial⟩⟩, trivial⟩) (fun hW1 => ?_)
  refine L_if_ne hX hl 52 dL_law_42 (by decide) (by decide) (fun h => absurd (by decide) h) (fun _ => ?_)
  refine L_aload_n hX hl dL_law_45 rfl ?_
  refine L_do hX hl _ dL_law_46 cwL_undo (d_undo hth (by decide)) rfl (Nat.le_of_ble_eq_true rfl) ⟨by decide, by decide⟩ (fun K9 h1 h2 => ⟨⟨h2, ⟨h1, trivial⟩⟩, trivial⟩) (fun tv S2 c2 P2 hφ hW2 => ?_)
  obtain ⟨hv, -, hal⟩ := hφ
  have r11 : S2 11 = S 11 := hal 11 (by decide)
  have e111 : S2 11 1 = 0 := by rw [r11]; exact h111
  refine L_if_eq hX hl 54 dL_law_49 (by first | omega | exact shrI_r _ _) (by decide) (fun c49 => ?_) (fun c49 => ((by omega : False)).elim)
  refine L_aload_n hX hl dL_law_54 rfl ?_
  refine L_iconst hX hl dL_law_55 ?_
  refine L_lot hX hl hLF hN dL_law_56 ⟨by omega, by omega⟩ (Nat.le_of_ble_eq_true rfl) (by decide) (fun zz hzz => ?_)
  refine L_istore_n hX hl dL_law_59 (by decide) ?_
  refine L_aload_n hX hl dL_law_60 rfl ?_
  refine L_bipush hX hl dL_law_61 rfl ?_
  refine L_iload_n hX hl dL_law_63 rfl ?_
  refine L_bipush hX hl dL_law_64 rfl ?_
  refine L_low hX hl dL_law_66 (by first | omega | exact shrI_r _ _) ⟨by omega, by omega⟩ (Nat.le_of_ble_eq_true rfl) (by decide) ?_
  obtain ⟨lw1, elw1⟩ : ∃ v : Int, low zz 40 = v := ⟨_, rfl⟩
  have rlw1 : 0 ≤ lw1 ∧ lw1 < 40 := elw1 ▸ low_r (by omega)
  rw [elw1]
  refine L_iadd hX hl dL_law_69 ?_
  refine L_bipush hX hl dL_law_70 rfl ?_
  refine L_iload_n hX hl dL_law_72 rfl ?_
  refine L_bipush hX hl dL_law_73 rfl ?_
  refine L_ishr hX hl dL_law_75 ?_
  refine L_bipush hX hl dL_law_76 rfl ?_
  refine L_low hX hl dL_law_78 (by first | omega | exact shrI_r _ _) ⟨by omega, by omega⟩ (Nat.le_of_ble_eq_true rfl) (by decide) ?_
  obtain ⟨lw2, elw2⟩ : ∃ v : Int, low (shrI zz 6) 12 = v := ⟨_, rfl⟩
  have rlw2 : 0 ≤ lw2 ∧ lw2 < 12 := elw2 ▸ low_r (by omega)
  rw [elw2]
  refine L_iadd hX hl dL_law_81 ?_
  refine L_do hX hl _ dL_law_82 cwL_begin (d_begin hth (by omega) (by omega) ⟨by omega, by omega⟩) rfl (Nat.le_of_ble_eq_true rfl) ⟨by decide, by decide⟩ (fun K9 h1 h2 => ⟨⟨h2, ⟨h1, trivial⟩⟩, trivial⟩) (fun tv2 S3 c3 P3 hφ3 hW3 => ?_)
  obtain ⟨⟨hv3, hS3⟩, -, -⟩ := hφ3
  have b3 := bgF S2 ((20 + lw1)) ((10 + lw2))
  rw [← hS3] at b3
  refine L_if_eq hX hl 90 dL_law_85 (by first | omega | exact shrI_r _ _) (by decide) (fun c85 => ?_) (fun c85 => ((by omega : False)).elim)
  refine L_iconst hX hl dL_law_90 ?_
  refine L_istore_n hX hl dL_law_91 (by decide) ?_
  exact L_to hX hl (lw_loop hX hl hLF hN hfin 40 0 _ S3 c3 P3 (by decide) (by decide) (by omega) hW3 (by omega)) rfl (by omega) rfl
