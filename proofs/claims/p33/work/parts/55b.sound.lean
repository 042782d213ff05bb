/-! sound: places summed up, shifts within the budget, the order of painting -/
set_option maxHeartbeats 16000000 in
set_option maxRecDepth 100000 in
theorem m_L_sound {E : EE} {x : Nat} {T : Int} {S : MM} {c : Int} {P : MM} {K : Nat → Nat} {M : MM} {n0 : Nat}  (hE : ∀ U, SF E U → ThF E U ∧ NcF U) (hI : IV n0 T K M x S c P) (hT9 : T + 300 ≤ 1000000000) : CnL E 10 yL_sound cL_sound 13 (some .boolean) [.ref x] K M (fun r K2 M2 => K2 = K ∧ r = some (vI 1) ∧ ∃ n2, IV n2 T K2 M2 x S c P) 2800 16800 := by
  refine CnL_of RL (plainFor_of_name (by decide)) rfl (Nat.le_of_ble_eq_true rfl) (fun X hX0 hQ hXK hP hl => ?_)
  obtain ⟨Z, hZ⟩ : ∃ Z : QZ, Z = (x, T, S, c, P, 2800, 16800) := ⟨_, rfl⟩
  have hX : XO E X cL_sound RL 13 10 Z.c0 Z.s0 := by rw [hZ]; exact hX0
  have hW := hI.wfs
  have w9 := hW.2.1
  unfold WFSs at w9
  have fin : ∀ (q pc : Nat) (L : List (Nat × Value)), decode cL_sound pc = .ok (.ireturn, 1) → QJ E X Z K q pc L [vI 1] := by
    intro q pc L hd n M2 a b hI2 ha hb
    rw [hZ] at hI2 ha hb
    exact J_zret hX0 hQ hd (Or.inr rfl) ⟨rfl, rfl, n, hI2⟩ (by have h2 : a + 2 * q ≤ 2800 := ha; omega) (by have h2 : b + 12 * q ≤ 16800 := hb; omega)
  have main : QJ E X Z K 1400 0 [(0, .ref x)] [] := by
    subst hZ
    obtain ⟨PS, hPS⟩ : ∃ f : Nat → Int → Int, pos S = f := ⟨_, rfl⟩
    obtain ⟨RW, hRW⟩ : ∃ f : Int → Int, rawg S (S 15 0) = f := ⟨_, rfl⟩
    obtain ⟨SH, hSH⟩ : ∃ f : Int → Int, shf S = f := ⟨_, rfl⟩
    obtain ⟨CL, hCL⟩ : ∃ f : Int → Int → Int, col S = f := ⟨_, rfl⟩
    obtain ⟨PC, hPC⟩ : ∃ f : Int, pct S = f := ⟨_, rfl⟩
    obtain ⟨WA, hWA⟩ : ∃ f : Int, wnd S 1 = f := ⟨_, rfl⟩
    obtain ⟨WB, hWB⟩ : ∃ f : Int, wnd S 0 = f := ⟨_, rfl⟩
    obtain ⟨TR, hTR⟩ : ∃ f : Int, (ttl S).1 = f := ⟨_, rfl⟩
    obtain ⟨TS, hTS⟩ : ∃ f : Int, (ttl S).2 = f := ⟨_, rfl⟩
    obtain ⟨TA, hTA⟩ : ∃ f : Int, tco S 1 = f := ⟨_, rfl⟩
    obtain ⟨TB, hTB⟩ : ∃ f : Int, tco S 0 = f := ⟨_, rfl⟩
    obtain ⟨CT, hCT⟩ : ∃ f : Int, ct (bx S) (cnt S) = f := ⟨_, rfl⟩
    obtain ⟨NX, hNX⟩ : ∃ f : Nat → Nat, nbx S = f := ⟨_, rfl⟩
    obtain ⟨NB, hNB⟩ : ∃ f : Nat, nb S = f := ⟨_, rfl⟩
    obtain ⟨OR, hOR⟩ : ∃ f : Int → Int, ord S = f := ⟨_, rfl⟩
    refine Q_aload_n hX dL_sound_0 rfl ?_
    refine Q_iconst hX dL_sound_1 ?_
    refine Q_ask hX hl (u := 1) _ dL_sound_2 cwL_whole (a_whole (k := 2) hE (by decide) (by decide) (v := S 1 0) (wv_2 (by decide))) rfl (Nat.le_of_ble_eq_true rfl) ⟨by decide, by decide⟩ ?_
    refine Q_istore_n hX dL_sound_5 (by decide) ?_
    refine Q_iconst hX dL_sound_6 ?_
    refine Q_istore_n hX dL_sound_7 (by decide) ?_
    refine Q_aload_n hX dL_sound_8 rfl ?_
    refine Q_bipush hX dL_sound_9 rfl ?_
    refine Q_ask hX hl (u := 1) _ dL_sound_11 cwL_whole (a_whole (k := 7) hE (by decide) (by decide) (v := S 11 2) (wv_7 (by decide))) rfl (Nat.le_of_ble_eq_true rfl) ⟨by decide, by decide⟩ ?_
    refine Q_istore_n hX dL_sound_14 (by decide) ?_
    refine Q_aload_n hX dL_sound_15 rfl ?_
    refine Q_bipush hX dL_sound_16 rfl ?_
    refine Q_ask hX hl (u := 1) _ dL_sound_18 cwL_whole (a_whole (k := 8) hE (by decide) (by decide) (v := S 11 3) (wv_8 (by decide))) rfl (Nat.le_of_ble_eq_true rfl) ⟨by decide, by decide⟩ ?_
    refine Q_istore hX dL_sound_21 (by decide) ?_
    refine Q_aload_n hX dL_sound_23 rfl ?_
    refine Q_bipush hX dL_sound_24 rfl ?_
    refine Q_ask hX hl (u := 1) _ dL_sound_26 cwL_whole (a_whole (k := 9) hE (by decide) (by decide) (v := PC) ((wv_9 (by decide)).trans hPC)) rfl (Nat.le_of_ble_eq_true rfl) ⟨by decide, by decide⟩ ?_
    refine Q_istore hX dL_sound_29 (by decide) ?_
    have pr : 0 ≤ PC ∧ PC ≤ 100 := hPC ▸ pctW_rng S (S 11 2) (S 11 3)
    refine Q_iload hX dL_sound_31 rfl ?_
    refine Q_bipush hX dL_sound_33 rfl ?_
    have JN43 : ∀ (m : Int), (Hid (m = 1 ∧ PC < 100 ∨ m = 0 ∧ 100 ≤ PC) ∧ 0 ≤ m ∧ m ≤ 1) → QJ E X (x, T, S, c, P, 2800, 16800) K (1380) 43 [(0, .ref x), (1, vI (S 1 0)), (2, vI 0), (3, vI (S 11 2)), (4, vI (S 11 3)), (5, vI PC)] [vI m] := by
      intro m  hj43
      obtain ⟨hmm, hm0, hm1⟩ := hj43
      refine Q_istore hX dL_sound_43 (by decide) ?_
      refine Q_iconst hX dL_sound_45 ?_
      refine Q_istore hX dL_sound_46 (by decide) ?_
      refine Q_iconst hX dL_sound_48 ?_
      refine Q_istore hX dL_sound_49 (by decide) ?_
      have HL51 : ∀ k : Nat, k ≤ (S 1 0).toNat → ∀ (n b f : Int), (n = k ∧ b = (NX k : Nat) ∧ Hid (f = 1 ∧ ftn S (S 15 0) (PC + 1) (S 11 2) (S 11 3) k = true ∨ f = 0 ∧ ¬ ftn S (S 15 0) (PC + 1) (S 11 2) (S 11 3) k = true) ∧ 0 ≤ f ∧ f ≤ 1) → QJ E X (x, T, S, c, P, 2800, 16800) K (60 * (20 - k) + 170) 51 [(0, .ref x), (1, vI (S 1 0)), (2, vI b), (3, vI (S 11 2)), (4, vI (S 11 3)), (5, vI PC), (6, vI m), (7, vI f), (8, vI n)] [] := by
        refine up_ind ((S 1 0).toNat) (fun k hk51 ih51 => ?_)
        intro n b f  hi51
        obtain ⟨en, eb, hf, hf0, hf1⟩ := hi51
        have bl := nbx_le S k
        try simp only [hPS, hRW, hSH, hCL, hPC, hWA, hWB, hTR, hTS, hTA, hTB, hCT, hNX, hNB, hOR] at bl
        refine Q_iload hX dL_sound_51 rfl ?_
        refine Q_iload_n hX dL_sound_53 rfl ?_
        refine Q_icmp_ge hX 452 dL_sound_54 (by first | omega | exact andI_r _ _ | exact orI_r _ _ | exact shrI_r _ _ | exact shlI_r _ _) (by first | omega | exact andI_r _ _ | exact orI_r _ _ | exact shrI_r _ _ | exact shlI_r _ _) (by decide) (fun c54 => ?_) (fun c54 => ?_)
        · have ek : n = S 1 0 := by omega
          have ek2 : k = cnt S := by unfold cnt; omega
          have nr := nb_le hW
          try simp only [hPS, hRW, hSH, hCL, hPC, hWA, hWB, hTR, hTS, hTA, hTB, hCT, hNX, hNB, hOR] at nr
          have enb : b = (NB : Nat) := by rw [eb, ek2, ← hNX, ← hNB]; rfl
          refine Q_le (q2 := 6 * (20 - 0) + 50) (by omega) ?_
          refine Q_iconst hX dL_sound_452 ?_
          refine Q_istore hX dL_sound_453 (by decide) ?_
          refine Q_bipush hX dL_sound_455 rfl ?_
          refine Q_istore hX dL_sound_457 (by decide) ?_
          refine Q_iconst hX dL_sound_459 ?_
          refine Q_istore hX dL_sound_460 (by decide) ?_
          refine Q_iconst hX dL_sound_462 ?_
          refine Q_istore hX dL_sound_463 (by decide) ?_
          have HL465 : ∀ j : Nat, j ≤ NB → ∀ (s l e p : Int), (p = j ∧ (∀ i : Nat, i < 20 → (bt (Int32.ofInt s) i = true ↔ ∃ a : Nat, a < j ∧ OR a = i)) ∧ Hid (j = 0 ∧ l = -100 ∧ e = -1 ∨ ∃ a : Nat, a + 1 = j ∧ l = SH (OR a) ∧ e = OR a) ∧ (-100 ≤ l ∧ l ≤ 20) ∧ (-1 ≤ e ∧ e < 20)) → QJ E X (x, T, S, c, P, 2800, 16800) K (6 * (20 - j) + 50) 465 [(0, .ref x), (1, vI (S 1 0)), (2, vI b), (3, vI (S 11 2)), (4, vI (S 11 3)), (5, vI PC), (6, vI m), (7, vI f), (8, vI s), (9, vI l), (10, vI e), (11, vI p)] [] := by
            refine up_ind (NB) (fun j hk465 ih465 => ?_)
            intro s l e p  hi465
            obtain ⟨ep, hbits, hl9, hlr, her⟩ := hi465
            refine Q_iload hX dL_sound_465 rfl ?_
            refine Q_iload_n hX dL_sound_467 rfl ?_
            refine Q_icmp_ge hX 565 dL_sound_468 (by first | omega | exact andI_r _ _ | exact orI_r _ _ | exact shrI_r _ _ | exact shlI_r _ _) (by first | omega | exact andI_r _ _ | exact orI_r _ _ | exact shrI_r _ _ | exact shlI_r _ _) (by decide) (fun c468 => ?_) (fun c468 => ?_)
            · have hct : CT = b := by rw [← hCT, ← nbx_ct, enb, ← hNB]; rfl
              refine Q_aload_n hX dL_sound_565 rfl ?_
              refine Q_iconst hX dL_sound_566 ?_
              refine Q_ask hX hl (u := 1) _ dL_sound_567 cwL_whole (a_whole (k := 3) hE (by decide) (by decide) (v := CT) ((wv_3 (by decide)).trans hCT)) rfl (Nat.le_of_ble_eq_true rfl) ⟨by decide, by decide⟩ ?_
              refine Q_iload_n hX dL_sound_570 rfl ?_
              refine Q_icmp_ne hX 651 dL_sound_571 (by first | omega | exact andI_r _ _ | exact orI_r _ _ | exact shrI_r _ _ | exact shlI_r _ _) (by first | omega | exact andI_r _ _ | exact orI_r _ _ | exact shrI_r _ _ | exact shlI_r _ _) (by decide) (fun c571 => ?_) (fun c571 => ?_)
              · skip
                exfalso
                omega
              · refine Q_aload_n hX dL_sound_574 rfl ?_
                refine Q_iload_n hX dL_sound_575 rfl ?_
                refine Q_ask hX hl (u := 1) _ dL_sound_576 cwL_painted (a_painted hE (by omega) (if_neg (by omega)) (v := -1000) (if_neg (by rw [hNB]; omega))) rfl (Nat.le_of_ble_eq_true rfl) ⟨by decide, by decide⟩ ?_
                refine Q_sipush hX dL_sound_579 rfl ?_
                refine Q_icmp_ne hX 651 dL_sound_582 (by decide) (by decide) (by decide) (fun h => absurd (by decide) h) (fun _ => ?_)
                refine Q_iload hX dL_sound_585 rfl ?_
                refine Q_if_lt hX 651 dL_sound_587 (by first | omega | exact andI_r _ _ | exact orI_r _ _ | exact shrI_r _ _ | exact shlI_r _ _) (by decide) (fun c587 => ?_) (fun c587 => ?_)
                · skip
                  exfalso
                  omega
                · refine Q_iload hX dL_sound_590 rfl ?_
                  refine Q_bipush hX dL_sound_592 rfl ?_
                  refine Q_icmp_gt hX 651 dL_sound_594 (by first | omega | exact andI_r _ _ | exact orI_r _ _ | exact shrI_r _ _ | exact shlI_r _ _) (by decide) (by decide) (fun c594 => ?_) (fun c594 => ?_)
                  · skip
                    exfalso
                    omega
                  · refine Q_iload hX dL_sound_597 rfl ?_
                    have hmo := hmm.out
                    refine Q_if_eq hX 607 dL_sound_599 (by first | omega | exact andI_r _ _ | exact orI_r _ _ | exact shrI_r _ _ | exact shlI_r _ _) (by decide) (fun c599 => ?_) (fun c599 => ?_)
                    · refine Q_aload_n hX dL_sound_607 rfl ?_
                      refine Q_iload_n hX dL_sound_608 rfl ?_
                      refine Q_iload hX dL_sound_609 rfl ?_
                      refine Q_ask hX hl (u := 1) _ dL_sound_611 cwL_percentageFor (a_percentageFor hE (by omega) (by omega) (if_pos ⟨⟨by omega, by omega⟩, ⟨by omega, by omega⟩⟩) (v := PC) hPC) rfl (Nat.le_of_ble_eq_true rfl) ⟨by decide, by decide⟩ ?_
                      refine Q_iload hX dL_sound_614 rfl ?_
                      refine Q_icmp_ne hX 651 dL_sound_616 (by first | omega | exact andI_r _ _ | exact orI_r _ _ | exact shrI_r _ _ | exact shlI_r _ _) (by first | omega | exact andI_r _ _ | exact orI_r _ _ | exact shrI_r _ _ | exact shlI_r _ _) (by decide) (fun c616 => ?_) (fun c616 => ?_)
                      · skip
                        exfalso
                        omega
                      · obtain ⟨z0, e0, z1⟩ : ∃ z0 : Int, faF S (0 + 1 : Int).toNat 0 = z0 ∧ (z0 = 0 ∧ pct S = 100 ∨ z0 = -1000 ∧ pct S ≠ 100) := fa_0 S
                        rw [hPC] at z1
                        refine Q_aload_n hX dL_sound_619 rfl ?_
                        refine Q_iconst hX dL_sound_620 ?_
                        refine Q_ask hX hl (u := 1) _ dL_sound_621 cwL_fullAfter (a_fullAfter hE (by decide) hT9 (by decide) (v := z0) e0) rfl (Nat.le_of_ble_eq_true rfl) ⟨by decide, by decide⟩ ?_
                        refine Q_if_ne hX 631 dL_sound_624 (by first | omega | exact andI_r _ _ | exact orI_r _ _ | exact shrI_r _ _ | exact shlI_r _ _) (by decide) (fun c624 => ?_) (fun c624 => ?_)
                        · refine Q_iconst hX dL_sound_631 ?_
                          refine Q_iload hX dL_sound_632 rfl ?_
                          refine Q_bipush hX dL_sound_634 rfl ?_
                          refine Q_icmp_ne hX 643 dL_sound_636 (by first | omega | exact andI_r _ _ | exact orI_r _ _ | exact shrI_r _ _ | exact shlI_r _ _) (by decide) (by decide) (fun c636 => ?_) (fun c636 => ?_)
                          · refine Q_iconst hX dL_sound_643 ?_
                            refine Q_icmp_ne hX 651 dL_sound_644 (by decide) (by decide) (by decide) (fun h => absurd (by decide) h) (fun _ => ?_)
                            refine Q_iconst hX dL_sound_647 ?_
                            refine Q_goto hX 652 dL_sound_648 (by decide) ?_
                            exact fin _ _ _ dL_sound_652
                          · refine Q_iconst hX dL_sound_639 ?_
                            refine Q_goto hX 644 dL_sound_640 (by decide) ?_
                            refine Q_icmp_ne hX 651 dL_sound_644 (by decide) (by decide) (by decide) (fun _ => ?_) (fun h => absurd h (by decide))
                            exfalso
                            omega
                        · refine Q_iconst hX dL_sound_627 ?_
                          refine Q_goto hX 632 dL_sound_628 (by decide) ?_
                          refine Q_iload hX dL_sound_632 rfl ?_
                          refine Q_bipush hX dL_sound_634 rfl ?_
                          refine Q_icmp_ne hX 643 dL_sound_636 (by first | omega | exact andI_r _ _ | exact orI_r _ _ | exact shrI_r _ _ | exact shlI_r _ _) (by decide) (by decide) (fun c636 => ?_) (fun c636 => ?_)
                          · refine Q_iconst hX dL_sound_643 ?_
                            refine Q_icmp_ne hX 651 dL_sound_644 (by decide) (by decide) (by decide) (fun _ => ?_) (fun h => absurd h (by decide))
                            exfalso
                            omega
                          · refine Q_iconst hX dL_sound_639 ?_
                            refine Q_goto hX 644 dL_sound_640 (by decide) ?_
                            refine Q_icmp_ne hX 651 dL_sound_644 (by decide) (by decide) (by decide) (fun h => absurd (by decide) h) (fun _ => ?_)
                            refine Q_iconst hX dL_sound_647 ?_
                            refine Q_goto hX 652 dL_sound_648 (by decide) ?_
                            exact fin _ _ _ dL_sound_652
                    · refine Q_iload hX dL_sound_602 rfl ?_
                      have hfo8 := hf.out
                      refine Q_if_ne hX 651 dL_sound_604 (by first | omega | exact andI_r _ _ | exact orI_r _ _ | exact shrI_r _ _ | exact shlI_r _ _) (by decide) (fun c604 => ((by
      have z := pct_max (S := S) (by rw [hPC]; omega)
      unfold fits1 at z
      rw [hPC, ← ek2] at z
      rcases hfo8 with ⟨-, q8⟩ | ⟨q8, -⟩
      · exact z q8
      · omega : False)).elim) (fun c604 => ?_)
                      refine Q_aload_n hX dL_sound_607 rfl ?_
                      refine Q_iload_n hX dL_sound_608 rfl ?_
                      refine Q_iload hX dL_sound_609 rfl ?_
                      refine Q_ask hX hl (u := 1) _ dL_sound_611 cwL_percentageFor (a_percentageFor hE (by omega) (by omega) (if_pos ⟨⟨by omega, by omega⟩, ⟨by omega, by omega⟩⟩) (v := PC) hPC) rfl (Nat.le_of_ble_eq_true rfl) ⟨by decide, by decide⟩ ?_
                      refine Q_iload hX dL_sound_614 rfl ?_
                      refine Q_icmp_ne hX 651 dL_sound_616 (by first | omega | exact andI_r _ _ | exact orI_r _ _ | exact shrI_r _ _ | exact shlI_r _ _) (by first | omega | exact andI_r _ _ | exact orI_r _ _ | exact shrI_r _ _ | exact shlI_r _ _) (by decide) (fun c616 => ?_) (fun c616 => ?_)
                      · skip
                        exfalso
                        omega
                      · obtain ⟨z0, e0, z1⟩ : ∃ z0 : Int, faF S (0 + 1 : Int).toNat 0 = z0 ∧ (z0 = 0 ∧ pct S = 100 ∨ z0 = -1000 ∧ pct S ≠ 100) := fa_0 S
                        rw [hPC] at z1
                        refine Q_aload_n hX dL_sound_619 rfl ?_
                        refine Q_iconst hX dL_sound_620 ?_
                        refine Q_ask hX hl (u := 1) _ dL_sound_621 cwL_fullAfter (a_fullAfter hE (by decide) hT9 (by decide) (v := z0) e0) rfl (Nat.le_of_ble_eq_true rfl) ⟨by decide, by decide⟩ ?_
                        refine Q_if_ne hX 631 dL_sound_624 (by first | omega | exact andI_r _ _ | exact orI_r _ _ | exact shrI_r _ _ | exact shlI_r _ _) (by decide) (fun c624 => ?_) (fun c624 => ?_)
                        · refine Q_iconst hX dL_sound_631 ?_
                          refine Q_iload hX dL_sound_632 rfl ?_
                          refine Q_bipush hX dL_sound_634 rfl ?_
                          refine Q_icmp_ne hX 643 dL_sound_636 (by first | omega | exact andI_r _ _ | exact orI_r _ _ | exact shrI_r _ _ | exact shlI_r _ _) (by decide) (by decide) (fun c636 => ?_) (fun c636 => ?_)
                          · refine Q_iconst hX dL_sound_643 ?_
                            refine Q_icmp_ne hX 651 dL_sound_644 (by decide) (by decide) (by decide) (fun h => absurd (by decide) h) (fun _ => ?_)
                            refine Q_iconst hX dL_sound_647 ?_
                            refine Q_goto hX 652 dL_sound_648 (by decide) ?_
                            exact fin _ _ _ dL_sound_652
                          · refine Q_iconst hX dL_sound_639 ?_
                            refine Q_goto hX 644 dL_sound_640 (by decide) ?_
                            refine Q_icmp_ne hX 651 dL_sound_644 (by decide) (by decide) (by decide) (fun _ => ?_) (fun h => absurd h (by decide))
                            exfalso
                            omega
                        · refine Q_iconst hX dL_sound_627 ?_
                          refine Q_goto hX 632 dL_sound_628 (by decide) ?_
                          refine Q_iload hX dL_sound_632 rfl ?_
                          refine Q_bipush hX dL_sound_634 rfl ?_
                          refine Q_icmp_ne hX 643 dL_sound_636 (by first | omega | exact andI_r _ _ | exact orI_r _ _ | exact shrI_r _ _ | exact shlI_r _ _) (by decide) (by decide) (fun c636 => ?_) (fun c636 => ?_)
                          · refine Q_iconst hX dL_sound_643 ?_
                            refine Q_icmp_ne hX 651 dL_sound_644 (by decide) (by decide) (by decide) (fun _ => ?_) (fun h => absurd h (by decide))
                            exfalso
                            omega
                          · refine Q_iconst hX dL_sound_639 ?_
                            refine Q_goto hX 644 dL_sound_640 (by decide) ?_
                            refine Q_icmp_ne hX 651 dL_sound_644 (by decide) (by decide) (by decide) (fun h => absurd (by decide) h) (fun _ => ?_)
                            refine Q_iconst hX dL_sound_647 ?_
                            refine Q_goto hX 652 dL_sound_648 (by decide) ?_
                            exact fin _ _ _ dL_sound_652
            · have hjn : j < NB := by omega
              have hjn2 : j < nb S := hNB ▸ hjn
              obtain ⟨o, ho⟩ : ∃ o : Int, OR j = o := ⟨_, rfl⟩
              have ho2 : ord S j = o := by rw [hOR]; exact ho
              obtain ⟨hob, hoc⟩ := ord_box hjn2
              rw [ho2] at hob
              clear hoc
              have oc := hob.1
              have bo := boxF hW hob
              try simp only [hPS, hRW, hSH, hCL, hPC, hWA, hWB, hTR, hTS, hTA, hTB, hCT, hNX, hNB, hOR] at bo
              obtain ⟨-, bo2, -, -, -, -, -, -, -⟩ := bo
              refine Q_le (q2 := 6 * (20 - (j + 1)) + 56) (by omega) ?_
              refine Q_aload_n hX dL_sound_471 rfl ?_
              refine Q_iload hX dL_sound_472 rfl ?_
              refine Q_ask hX hl (u := 1) _ dL_sound_474 cwL_painted (a_painted hE (by omega) (if_neg (by omega)) (v := o) ((if_pos ⟨by omega, by rw [hNB]; omega⟩).trans (by rw [ep]; exact ho2))) rfl (Nat.le_of_ble_eq_true rfl) ⟨by decide, by decide⟩ ?_
              refine Q_istore hX dL_sound_477 (by decide) ?_
              refine Q_iload hX dL_sound_479 rfl ?_
              refine Q_if_lt hX 534 dL_sound_481 (by first | omega | exact andI_r _ _ | exact orI_r _ _ | exact shrI_r _ _ | exact shlI_r _ _) (by decide) (fun c481 => ?_) (fun c481 => ?_)
              · skip
                exfalso
                omega
              · refine Q_iload hX dL_sound_484 rfl ?_
                refine Q_iload_n hX dL_sound_486 rfl ?_
                refine Q_icmp_ge hX 534 dL_sound_487 (by first | omega | exact andI_r _ _ | exact orI_r _ _ | exact shrI_r _ _ | exact shlI_r _ _) (by first | omega | exact andI_r _ _ | exact orI_r _ _ | exact shrI_r _ _ | exact shlI_r _ _) (by decide) (fun c487 => ?_) (fun c487 => ?_)
                · skip
                  exfalso
                  omega
                · have hsh : 0 ≤ o ∧ o < 20 := ⟨oc.1, oc.2.2⟩
                  have hbit := bit_at (s := s) hsh
                  refine Q_iload hX dL_sound_490 rfl ?_
                  refine Q_iload hX dL_sound_492 rfl ?_
                  refine Q_ishr hX dL_sound_494 ?_
                  refine Q_iconst hX dL_sound_495 ?_
                  refine Q_iand hX dL_sound_496 ?_
                  refine Q_iconst hX dL_sound_497 ?_
                  refine Q_icmp_eq hX 534 dL_sound_498 (by first | omega | exact andI_r _ _ | exact orI_r _ _ | exact shrI_r _ _ | exact shlI_r _ _) (by decide) (by decide) (fun c498 => ((by
      have z := hbit.mp c498
      obtain ⟨a, a1, a2⟩ := (hbits o.toNat (by omega)).mp z
      have a3 := ord_srt (S := S) a1 hjn2
      rw [ho2, hOR, a2] at a3
      unfold lxl at a3
      rw [show ((o.toNat : Nat) : Int) = o by omega, hSH] at a3
      omega : False)).elim) (fun c498 => ?_)
                  have hnew : lxl SH e o ∨ e = -1 ∧ l = -100 := by
                    rcases hl9.out with ⟨-, z1, z2⟩ | ⟨a, z0, z1, z2⟩
                    · exact Or.inr ⟨z2, z1⟩
                    · refine Or.inl ?_
                      rw [z2, ← ho, ← hOR, ← hSH]
                      exact ord_srt (by omega) hjn2
                  have hl2 : l = -100 ∧ e = -1 ∨ l = SH e ∧ 0 ≤ e := by
                    rcases hl9.out with ⟨-, z1, z2⟩ | ⟨a, z0, z1, z2⟩
                    · exact Or.inl ⟨z1, z2⟩
                    · refine Or.inr ⟨by rw [z1, z2], ?_⟩
                      rw [z2, ← hOR]; exact (ord_box (S := S) (j := a) (by omega)).1.1.1
                  unfold lxl at hnew
                  refine Q_aload_n hX dL_sound_501 rfl ?_
                  refine Q_iload hX dL_sound_502 rfl ?_
                  refine Q_bipush hX dL_sound_504 rfl ?_
                  refine Q_ask hX hl (u := 1) _ dL_sound_506 cwL_node (a_node (n9 := o) (k := 13) hE (by first | omega | exact andI_r _ _ | exact orI_r _ _ | exact shrI_r _ _ | exact shlI_r _ _) (by decide) (nodeOK hob.1 (by decide)) (v := SH o) ((nv_13 (by decide) hob.1 hob.2).trans (congrFun hSH o))) rfl (Nat.le_of_ble_eq_true rfl) ⟨by decide, by decide⟩ ?_
                  refine Q_iload hX dL_sound_509 rfl ?_
                  refine Q_icmp_lt hX 534 dL_sound_511 (by first | omega | exact andI_r _ _ | exact orI_r _ _ | exact shrI_r _ _ | exact shlI_r _ _) (by first | omega | exact andI_r _ _ | exact orI_r _ _ | exact shrI_r _ _ | exact shlI_r _ _) (by decide) (fun c511 => ?_) (fun c511 => ?_)
                  · skip
                    exfalso
                    omega
                  · refine Q_aload_n hX dL_sound_514 rfl ?_
                    refine Q_iload hX dL_sound_515 rfl ?_
                    refine Q_bipush hX dL_sound_517 rfl ?_
                    refine Q_ask hX hl (u := 1) _ dL_sound_519 cwL_node (a_node (n9 := o) (k := 13) hE (by first | omega | exact andI_r _ _ | exact orI_r _ _ | exact shrI_r _ _ | exact shlI_r _ _) (by decide) (nodeOK hob.1 (by decide)) (v := SH o) ((nv_13 (by decide) hob.1 hob.2).trans (congrFun hSH o))) rfl (Nat.le_of_ble_eq_true rfl) ⟨by decide, by decide⟩ ?_
                    refine Q_iload hX dL_sound_522 rfl ?_
                    refine Q_icmp_ne hX 536 dL_sound_524 (by first | omega | exact andI_r _ _ | exact orI_r _ _ | exact shrI_r _ _ | exact shlI_r _ _) (by first | omega | exact andI_r _ _ | exact orI_r _ _ | exact shrI_r _ _ | exact shlI_r _ _) (by decide) (fun c524 => ?_) (fun c524 => ?_)
                    · refine Q_iload hX dL_sound_536 rfl ?_
                      refine Q_iconst hX dL_sound_538 ?_
                      refine Q_iload hX dL_sound_539 rfl ?_
                      refine Q_ishl hX dL_sound_541 ?_
                      refine Q_ior hX dL_sound_542 ?_
                      refine Q_istore hX dL_sound_543 (by decide) ?_
                      refine Q_aload_n hX dL_sound_545 rfl ?_
                      refine Q_iload hX dL_sound_546 rfl ?_
                      refine Q_bipush hX dL_sound_548 rfl ?_
                      refine Q_ask hX hl (u := 1) _ dL_sound_550 cwL_node (a_node (n9 := o) (k := 13) hE (by first | omega | exact andI_r _ _ | exact orI_r _ _ | exact shrI_r _ _ | exact shlI_r _ _) (by decide) (nodeOK hob.1 (by decide)) (v := SH o) ((nv_13 (by decide) hob.1 hob.2).trans (congrFun hSH o))) rfl (Nat.le_of_ble_eq_true rfl) ⟨by decide, by decide⟩ ?_
                      refine Q_istore hX dL_sound_553 (by decide) ?_
                      refine Q_iload hX dL_sound_555 rfl ?_
                      refine Q_istore hX dL_sound_557 (by decide) ?_
                      refine Q_iinc hX dL_sound_559 rfl (by decide) ?_
                      have hbits2 : ∀ i : Nat, i < 20 → (bt (Int32.ofInt (orI s (shlI 1 o))) i = true ↔ ∃ a : Nat, a < j + 1 ∧ OR a = i) := fun i hi => by
                        rw [bit_set hsh hi, hbits i hi]
                        constructor
                        · rintro (⟨a, a1, a2⟩ | h)
                          · exact ⟨a, by omega, a2⟩
                          · exact ⟨j, by omega, by rw [ho]; omega⟩
                        · rintro ⟨a, a1, a2⟩
                          by_cases z : a = j
                          · exact Or.inr (by rw [z, ho] at a2; omega)
                          · exact Or.inl ⟨a, by omega, a2⟩
                      refine Q_goto hX 465 dL_sound_562 (by decide) ?_
                      exact Q_to (ih465 (j + 1) (by omega) (by omega) _ _ _ _ ⟨by omega, hbits2, Hid.mk (Or.inr ⟨j, rfl, by rw [ho], ho.symm⟩), by omega, by omega⟩) rfl (by omega) rfl
                    · refine Q_iload hX dL_sound_527 rfl ?_
                      refine Q_iload hX dL_sound_529 rfl ?_
                      refine Q_icmp_ge hX 536 dL_sound_531 (by first | omega | exact andI_r _ _ | exact orI_r _ _ | exact shrI_r _ _ | exact shlI_r _ _) (by first | omega | exact andI_r _ _ | exact orI_r _ _ | exact shrI_r _ _ | exact shlI_r _ _) (by decide) (fun c531 => ?_) (fun c531 => ?_)
                      · refine Q_iload hX dL_sound_536 rfl ?_
                        refine Q_iconst hX dL_sound_538 ?_
                        refine Q_iload hX dL_sound_539 rfl ?_
                        refine Q_ishl hX dL_sound_541 ?_
                        refine Q_ior hX dL_sound_542 ?_
                        refine Q_istore hX dL_sound_543 (by decide) ?_
                        refine Q_aload_n hX dL_sound_545 rfl ?_
                        refine Q_iload hX dL_sound_546 rfl ?_
                        refine Q_bipush hX dL_sound_548 rfl ?_
                        refine Q_ask hX hl (u := 1) _ dL_sound_550 cwL_node (a_node (n9 := o) (k := 13) hE (by first | omega | exact andI_r _ _ | exact orI_r _ _ | exact shrI_r _ _ | exact shlI_r _ _) (by decide) (nodeOK hob.1 (by decide)) (v := SH o) ((nv_13 (by decide) hob.1 hob.2).trans (congrFun hSH o))) rfl (Nat.le_of_ble_eq_true rfl) ⟨by decide, by decide⟩ ?_
                        refine Q_istore hX dL_sound_553 (by decide) ?_
                        refine Q_iload hX dL_sound_555 rfl ?_
                        refine Q_istore hX dL_sound_557 (by decide) ?_
                        refine Q_iinc hX dL_sound_559 rfl (by decide) ?_
                        have hbits2 : ∀ i : Nat, i < 20 → (bt (Int32.ofInt (orI s (shlI 1 o))) i = true ↔ ∃ a : Nat, a < j + 1 ∧ OR a = i) := fun i hi => by
                          rw [bit_set hsh hi, hbits i hi]
                          constructor
                          · rintro (⟨a, a1, a2⟩ | h)
                            · exact ⟨a, by omega, a2⟩
                            · exact ⟨j, by omega, by rw [ho]; omega⟩
                          · rintro ⟨a, a1, a2⟩
                            by_cases z : a = j
                            · exact Or.inr (by rw [z, ho] at a2; omega)
                            · exact Or.inl ⟨a, by omega, a2⟩
                        refine Q_goto hX 465 dL_sound_562 (by decide) ?_
                        exact Q_to (ih465 (j + 1) (by omega) (by omega) _ _ _ _ ⟨by omega, hbits2, Hid.mk (Or.inr ⟨j, rfl, by rw [ho], ho.symm⟩), by omega, by omega⟩) rfl (by omega) rfl
                      · skip
                        exfalso
                        omega
          exact Q_to (HL465 0 (Nat.zero_le _) 0 (-100) (-1) 0 ⟨rfl, fun i _ => ⟨fun z => absurd z (by rw [bt_0]; decide), fun ⟨a, z, _⟩ => absurd z (by omega)⟩, Hid.mk (Or.inl ⟨rfl, rfl, rfl⟩), by decide, by decide⟩) rfl (by omega) rfl
        · have hn : hs S n := ⟨by omega, by omega, by omega⟩
          obtain ⟨qn, g3n, g4n, g5n, g6n, g7n, g8n, -, g9n⟩ := hW.2.2.1 n hn.1 hn.2.1
          have pn := posF hW hn
          try simp only [hPS, hRW, hSH, hCL, hPC, hWA, hWB, hTR, hTS, hTA, hTB, hCT, hNX, hNB, hOR] at pn
          refine Q_le (q2 := 60 * (20 - (k + 1)) + 230) (by omega) ?_
          refine Q_aload_n hX dL_sound_57 rfl ?_
          have JN210 : QJ E X (x, T, S, c, P, 2800, 16800) K (60 * (20 - (k + 1)) + 215) 210 [(0, .ref x), (1, vI (S 1 0)), (2, vI b), (3, vI (S 11 2)), (4, vI (S 11 3)), (5, vI PC), (6, vI m), (7, vI f), (8, vI n)] [] := by
            refine Q_aload_n hX dL_sound_210 rfl ?_
            by_cases hb : 0 < S 7 n
            · skip
              have hbx : bx S n := ⟨hn, hb⟩
              have bf := boxF hW hbx
              try simp only [hPS, hRW, hSH, hCL, hPC, hWA, hWB, hTR, hTS, hTA, hTB, hCT, hNX, hNB, hOR] at bf
              obtain ⟨bf1, bf2, bf3, bf4, bf5, bf6, bf7, bf8, bf9⟩ := bf
              replace bf3 := Hid.mk bf3
              replace bf4 := Hid.mk bf4
              replace bf5 := Hid.mk bf5
              have hbk : bx S (k : Nat) := en ▸ hbx
              have nb1 : NX (k + 1) = NX k + 1 := by rw [← hNX]; simp only [nbx]; rw [if_pos hbk]
              have ft1 : (ftn S (S 15 0) (PC + 1) (S 11 2) (S 11 3) (k + 1) = true) = (ftn S (S 15 0) (PC + 1) (S 11 2) (S 11 3) k = true ∧ (S 11 2 ≤ RW n * (PC + 1) / 100 ∧ RW n * (PC + 1) / 100 ≤ S 11 3)) := by
                rw [ftn_t, ← en, ← hRW]
                exact propext ⟨fun h => ⟨h.1, h.2.elim (fun z => absurd hbx z) id⟩, fun h => ⟨h.1, Or.inr h.2⟩⟩
              have mr : -121200 ≤ RW n * (PC + 1) ∧ RW n * (PC + 1) ≤ 121200 := by have h9 := mul_bd2 (x := PC + 1) (y := RW n) (A := 101) (B := 1200) (by omega) (by omega) bf1.1 bf1.2; omega
              refine Q_iload hX dL_sound_211 rfl ?_
              refine Q_bipush hX dL_sound_213 rfl ?_
              refine Q_ask hX hl (u := 1) _ dL_sound_215 cwL_node (a_node (n9 := n) (k := 9) hE (by first | omega | exact andI_r _ _ | exact orI_r _ _ | exact shrI_r _ _ | exact shlI_r _ _) (by decide) (nodeOK hn (by decide)) (v := S 7 n) (nv_9 (by decide) hn hb)) rfl (Nat.le_of_ble_eq_true rfl) ⟨by decide, by decide⟩ ?_
              refine Q_sipush hX dL_sound_218 rfl ?_
              refine Q_icmp_ne hX 227 dL_sound_221 (by first | omega | exact andI_r _ _ | exact orI_r _ _ | exact shrI_r _ _ | exact shlI_r _ _) (by decide) (by decide) (fun c221 => ?_) (fun c221 => ((by omega : False)).elim)
              refine Q_iinc hX dL_sound_227 rfl (by decide) ?_
              refine Q_aload_n hX dL_sound_230 rfl ?_
              refine Q_iload hX dL_sound_231 rfl ?_
              refine Q_bipush hX dL_sound_233 rfl ?_
              refine Q_ask hX hl (u := 1) _ dL_sound_235 cwL_node (a_node (n9 := n) (k := 12) hE (by first | omega | exact andI_r _ _ | exact orI_r _ _ | exact shrI_r _ _ | exact shlI_r _ _) (by decide) (nodeOK hn (by decide)) (v := RW n) ((nv_12 (by decide) hn hb).trans (congrFun hRW n))) rfl (Nat.le_of_ble_eq_true rfl) ⟨by decide, by decide⟩ ?_
              refine Q_istore hX dL_sound_238 (by decide) ?_
              refine Q_aload_n hX dL_sound_240 rfl ?_
              refine Q_iload hX dL_sound_241 rfl ?_
              refine Q_bipush hX dL_sound_243 rfl ?_
              refine Q_ask hX hl (u := 1) _ dL_sound_245 cwL_node (a_node (n9 := n) (k := 13) hE (by first | omega | exact andI_r _ _ | exact orI_r _ _ | exact shrI_r _ _ | exact shlI_r _ _) (by decide) (nodeOK hn (by decide)) (v := SH n) ((nv_13 (by decide) hn hb).trans (congrFun hSH n))) rfl (Nat.le_of_ble_eq_true rfl) ⟨by decide, by decide⟩ ?_
              refine Q_istore hX dL_sound_248 (by decide) ?_
              refine Q_iload hX dL_sound_250 rfl ?_
              refine Q_iload hX dL_sound_252 rfl ?_
              refine Q_iconst hX dL_sound_254 ?_
              refine Q_iadd hX dL_sound_255 ?_
              refine Q_imul hX dL_sound_256 ?_
              refine Q_istore hX dL_sound_257 (by decide) ?_
              have JN281 : ∀ (v : Int), (v = RW n * (PC + 1) / 100) → QJ E X (x, T, S, c, P, 2800, 16800) K (60 * (20 - (k + 1)) + 205) 281 [(0, .ref x), (1, vI (S 1 0)), (2, vI (b + 1)), (3, vI (S 11 2)), (4, vI (S 11 3)), (5, vI PC), (6, vI m), (7, vI f), (8, vI n), (10, vI (RW n)), (11, vI (SH n))] [vI v] := by
                intro v  hj281
                refine Q_istore hX dL_sound_281 (by decide) ?_
                have JN306 : ∀ (f2 : Int), (Hid (f2 = 1 ∧ (ftn S (S 15 0) (PC + 1) (S 11 2) (S 11 3) k = true ∧ (S 11 2 ≤ RW n * (PC + 1) / 100 ∧ RW n * (PC + 1) / 100 ≤ S 11 3)) ∨ f2 = 0 ∧ ¬ (ftn S (S 15 0) (PC + 1) (S 11 2) (S 11 3) k = true ∧ (S 11 2 ≤ RW n * (PC + 1) / 100 ∧ RW n * (PC + 1) / 100 ≤ S 11 3))) ∧ 0 ≤ f2 ∧ f2 ≤ 1) → QJ E X (x, T, S, c, P, 2800, 16800) K (60 * (20 - (k + 1)) + 200) 306 [(0, .ref x), (1, vI (S 1 0)), (2, vI (b + 1)), (3, vI (S 11 2)), (4, vI (S 11 3)), (5, vI PC), (6, vI m), (8, vI n), (10, vI (RW n)), (11, vI (SH n))] [vI f2] := by
                  intro f2  hj306
                  obtain ⟨hff, hff0, hff1⟩ := hj306
                  replace hff := hff.out
                  replace hff := Hid.mk hff
                  refine Q_istore hX dL_sound_306 (by decide) ?_
                  refine Q_aload_n hX dL_sound_308 rfl ?_
                  refine Q_iload hX dL_sound_309 rfl ?_
                  refine Q_bipush hX dL_sound_311 rfl ?_
                  refine Q_ask hX hl (u := 1) _ dL_sound_313 cwL_node (a_node hE (by omega) (by decide) (nodeOK hn (by decide)) (v := 0) ((nv_8 (by decide) hn).trans (no_child hW hbx))) rfl (Nat.le_of_ble_eq_true rfl) ⟨by decide, by decide⟩ ?_
                  refine Q_if_ne hX 444 dL_sound_316 (by decide) (by decide) (fun h => absurd (by decide) h) (fun _ => ?_)
                  refine Q_iload hX dL_sound_319 rfl ?_
                  refine Q_iload_n hX dL_sound_321 rfl ?_
                  refine Q_icmp_lt hX 444 dL_sound_322 (by first | omega | exact andI_r _ _ | exact orI_r _ _ | exact shrI_r _ _ | exact shlI_r _ _) (by first | omega | exact andI_r _ _ | exact orI_r _ _ | exact shrI_r _ _ | exact shlI_r _ _) (by decide) (fun c322 => ?_) (fun c322 => ?_)
                  · skip
                    exfalso
                    omega
                  · refine Q_iload hX dL_sound_325 rfl ?_
                    refine Q_iload hX dL_sound_327 rfl ?_
                    refine Q_icmp_gt hX 444 dL_sound_329 (by first | omega | exact andI_r _ _ | exact orI_r _ _ | exact shrI_r _ _ | exact shlI_r _ _) (by first | omega | exact andI_r _ _ | exact orI_r _ _ | exact shrI_r _ _ | exact shlI_r _ _) (by decide) (fun c329 => ?_) (fun c329 => ?_)
                    · skip
                      exfalso
                      omega
                    · refine Q_aload_n hX dL_sound_332 rfl ?_
                      refine Q_iload hX dL_sound_333 rfl ?_
                      refine Q_bipush hX dL_sound_335 rfl ?_
                      refine Q_ask hX hl (u := 1) _ dL_sound_337 cwL_node (a_node (n9 := n) (k := 14) hE (by first | omega | exact andI_r _ _ | exact orI_r _ _ | exact shrI_r _ _ | exact shlI_r _ _) (by decide) (nodeOK hn (by decide)) (v := CL 1 n) ((nv_14 (by decide) hn hb).trans (congrFun (congrFun hCL 1) n))) rfl (Nat.le_of_ble_eq_true rfl) ⟨by decide, by decide⟩ ?_
                      refine Q_aload_n hX dL_sound_340 rfl ?_
                      refine Q_iload hX dL_sound_341 rfl ?_
                      refine Q_bipush hX dL_sound_343 rfl ?_
                      refine Q_ask hX hl (u := 1) _ dL_sound_345 cwL_node (a_node (n9 := n) (k := 15) hE (by first | omega | exact andI_r _ _ | exact orI_r _ _ | exact shrI_r _ _ | exact shlI_r _ _) (by decide) (nodeOK hn (by decide)) (v := CL 0 n) ((nv_15 (by decide) hn hb).trans (congrFun (congrFun hCL 0) n))) rfl (Nat.le_of_ble_eq_true rfl) ⟨by decide, by decide⟩ ?_
                      refine Q_isub hX dL_sound_348 ?_
                      refine Q_iload hX dL_sound_349 rfl ?_
                      refine Q_icmp_ne hX 444 dL_sound_351 (by first | omega | exact andI_r _ _ | exact orI_r _ _ | exact shrI_r _ _ | exact shlI_r _ _) (by first | omega | exact andI_r _ _ | exact orI_r _ _ | exact shrI_r _ _ | exact shlI_r _ _) (by decide) (fun c351 => ?_) (fun c351 => ?_)
                      · skip
                        exfalso
                        omega
                      · skip
                        have JN368 : QJ E X (x, T, S, c, P, 2800, 16800) K (60 * (20 - (k + 1)) + 190) 368 [(0, .ref x), (1, vI (S 1 0)), (2, vI (b + 1)), (3, vI (S 11 2)), (4, vI (S 11 3)), (5, vI PC), (6, vI m), (7, vI f2), (8, vI n), (10, vI (RW n)), (11, vI (SH n))] [] := by
                          have JN385 : QJ E X (x, T, S, c, P, 2800, 16800) K (60 * (20 - (k + 1)) + 189) 385 [(0, .ref x), (1, vI (S 1 0)), (2, vI (b + 1)), (3, vI (S 11 2)), (4, vI (S 11 3)), (5, vI PC), (6, vI m), (7, vI f2), (8, vI n), (10, vI (RW n)), (11, vI (SH n))] [] := by
                            have JN402 : QJ E X (x, T, S, c, P, 2800, 16800) K (60 * (20 - (k + 1)) + 188) 402 [(0, .ref x), (1, vI (S 1 0)), (2, vI (b + 1)), (3, vI (S 11 2)), (4, vI (S 11 3)), (5, vI PC), (6, vI m), (7, vI f2), (8, vI n), (10, vI (RW n)), (11, vI (SH n))] [] := by
                              have JN446 : QJ E X (x, T, S, c, P, 2800, 16800) K (60 * (20 - (k + 1)) + 170) 446 [(0, .ref x), (1, vI (S 1 0)), (2, vI (b + 1)), (3, vI (S 11 2)), (4, vI (S 11 3)), (5, vI PC), (6, vI m), (7, vI f2), (8, vI n)] [] := by
                                refine Q_iinc hX dL_sound_446 rfl (by decide) ?_
                                refine Q_goto hX 51 dL_sound_449 (by decide) ?_
                                exact Q_to (ih51 (k + 1) (by omega) (by omega) _ _ _ ⟨by omega, by rw [nb1]; omega, Hid.mk (by rw [ft1]; exact hff.out), hff0, hff1⟩) rfl (by omega) rfl
                              refine Q_aload_n hX dL_sound_402 rfl ?_
                              refine Q_iload hX dL_sound_403 rfl ?_
                              refine Q_bipush hX dL_sound_405 rfl ?_
                              refine Q_ask hX hl (u := 1) _ dL_sound_407 cwL_node (a_node (n9 := n) (k := 14) hE (by first | omega | exact andI_r _ _ | exact orI_r _ _ | exact shrI_r _ _ | exact shlI_r _ _) (by decide) (nodeOK hn (by decide)) (v := CL 1 n) ((nv_14 (by decide) hn hb).trans (congrFun (congrFun hCL 1) n))) rfl (Nat.le_of_ble_eq_true rfl) ⟨by decide, by decide⟩ ?_
                              refine Q_aload_n hX dL_sound_410 rfl ?_
                              refine Q_iload hX dL_sound_411 rfl ?_
                              refine Q_iconst hX dL_sound_413 ?_
                              refine Q_ask hX hl (u := 1) _ dL_sound_414 cwL_node (a_node (n9 := n) (k := 4) hE (by first | omega | exact andI_r _ _ | exact orI_r _ _ | exact shrI_r _ _ | exact shlI_r _ _) (by decide) (nodeOK hn (by decide)) (v := PS 4 n) ((nv_4 (by decide) hn).trans (congrFun (congrFun hPS 4) n))) rfl (Nat.le_of_ble_eq_true rfl) ⟨by decide, by decide⟩ ?_
                              refine Q_bipush hX dL_sound_417 rfl ?_
                              refine Q_isub hX dL_sound_419 ?_
                              refine Q_icmp_lt hX 444 dL_sound_420 (by first | omega | exact andI_r _ _ | exact orI_r _ _ | exact shrI_r _ _ | exact shlI_r _ _) (by first | omega | exact andI_r _ _ | exact orI_r _ _ | exact shrI_r _ _ | exact shlI_r _ _) (by decide) (fun c420 => ?_) (fun c420 => ?_)
                              · skip
                                exfalso
                                omega
                              · refine Q_aload_n hX dL_sound_423 rfl ?_
                                refine Q_iload hX dL_sound_424 rfl ?_
                                refine Q_bipush hX dL_sound_426 rfl ?_
                                refine Q_ask hX hl (u := 1) _ dL_sound_428 cwL_node (a_node (n9 := n) (k := 14) hE (by first | omega | exact andI_r _ _ | exact orI_r _ _ | exact shrI_r _ _ | exact shlI_r _ _) (by decide) (nodeOK hn (by decide)) (v := CL 1 n) ((nv_14 (by decide) hn hb).trans (congrFun (congrFun hCL 1) n))) rfl (Nat.le_of_ble_eq_true rfl) ⟨by decide, by decide⟩ ?_
                                refine Q_aload_n hX dL_sound_431 rfl ?_
                                refine Q_iload hX dL_sound_432 rfl ?_
                                refine Q_iconst hX dL_sound_434 ?_
                                refine Q_ask hX hl (u := 1) _ dL_sound_435 cwL_node (a_node (n9 := n) (k := 4) hE (by first | omega | exact andI_r _ _ | exact orI_r _ _ | exact shrI_r _ _ | exact shlI_r _ _) (by decide) (nodeOK hn (by decide)) (v := PS 4 n) ((nv_4 (by decide) hn).trans (congrFun (congrFun hPS 4) n))) rfl (Nat.le_of_ble_eq_true rfl) ⟨by decide, by decide⟩ ?_
                                refine Q_bipush hX dL_sound_438 rfl ?_
                                refine Q_iadd hX dL_sound_440 ?_
                                refine Q_icmp_le hX 446 dL_sound_441 (by first | omega | exact andI_r _ _ | exact orI_r _ _ | exact shrI_r _ _ | exact shlI_r _ _) (by first | omega | exact andI_r _ _ | exact orI_r _ _ | exact shrI_r _ _ | exact shlI_r _ _) (by decide) (fun c441 => ?_) (fun c441 => ?_)
                                · skip
                                  exact Q_to (JN446 ) rfl (by omega) rfl
                                · skip
                                  exfalso
                                  omega
                            refine Q_iload hX dL_sound_385 rfl ?_
                            refine Q_if_ge hX 402 dL_sound_387 (by first | omega | exact andI_r _ _ | exact orI_r _ _ | exact shrI_r _ _ | exact shlI_r _ _) (by decide) (fun c387 => ?_) (fun c387 => ?_)
                            · skip
                              exact Q_to (JN402 ) rfl (by omega) rfl
                            · have b5 := bf5.out (by omega)
                              refine Q_iload hX dL_sound_390 rfl ?_
                              refine Q_if_gt hX 444 dL_sound_392 (by first | omega | exact andI_r _ _ | exact orI_r _ _ | exact shrI_r _ _ | exact shlI_r _ _) (by decide) (fun c392 => ?_) (fun c392 => ?_)
                              · skip
                                exfalso
                                omega
                              · refine Q_iload hX dL_sound_395 rfl ?_
                                refine Q_iload hX dL_sound_397 rfl ?_
                                refine Q_icmp_lt hX 444 dL_sound_399 (by first | omega | exact andI_r _ _ | exact orI_r _ _ | exact shrI_r _ _ | exact shlI_r _ _) (by first | omega | exact andI_r _ _ | exact orI_r _ _ | exact shrI_r _ _ | exact shlI_r _ _) (by decide) (fun c399 => ?_) (fun c399 => ?_)
                                · skip
                                  exfalso
                                  omega
                                · skip
                                  exact Q_to (JN402 ) rfl (by omega) rfl
                          refine Q_iload hX dL_sound_368 rfl ?_
                          refine Q_if_lt hX 385 dL_sound_370 (by first | omega | exact andI_r _ _ | exact orI_r _ _ | exact shrI_r _ _ | exact shlI_r _ _) (by decide) (fun c370 => ?_) (fun c370 => ?_)
                          · skip
                            exact Q_to (JN385 ) rfl (by omega) rfl
                          · have b4 := bf4.out (by omega)
                            refine Q_iload hX dL_sound_373 rfl ?_
                            refine Q_if_lt hX 444 dL_sound_375 (by first | omega | exact andI_r _ _ | exact orI_r _ _ | exact shrI_r _ _ | exact shlI_r _ _) (by decide) (fun c375 => ?_) (fun c375 => ?_)
                            · skip
                              exfalso
                              omega
                            · refine Q_iload hX dL_sound_378 rfl ?_
                              refine Q_iload hX dL_sound_380 rfl ?_
                              refine Q_icmp_gt hX 444 dL_sound_382 (by first | omega | exact andI_r _ _ | exact orI_r _ _ | exact shrI_r _ _ | exact shlI_r _ _) (by first | omega | exact andI_r _ _ | exact orI_r _ _ | exact shrI_r _ _ | exact shlI_r _ _) (by decide) (fun c382 => ?_) (fun c382 => ?_)
                              · skip
                                exfalso
                                omega
                              · skip
                                exact Q_to (JN385 ) rfl (by omega) rfl
                        refine Q_iload hX dL_sound_354 rfl ?_
                        refine Q_bipush hX dL_sound_356 rfl ?_
                        refine Q_icmp_ne hX 368 dL_sound_358 (by first | omega | exact andI_r _ _ | exact orI_r _ _ | exact shrI_r _ _ | exact shlI_r _ _) (by decide) (by decide) (fun c358 => ?_) (fun c358 => ?_)
                        · skip
                          exact Q_to (JN368 ) rfl (by omega) rfl
                        · have b3 := bf3.out (by omega)
                          refine Q_iload hX dL_sound_361 rfl ?_
                          refine Q_iload hX dL_sound_363 rfl ?_
                          refine Q_icmp_ne hX 444 dL_sound_365 (by first | omega | exact andI_r _ _ | exact orI_r _ _ | exact shrI_r _ _ | exact shlI_r _ _) (by first | omega | exact andI_r _ _ | exact orI_r _ _ | exact shrI_r _ _ | exact shlI_r _ _) (by decide) (fun c365 => ?_) (fun c365 => ?_)
                          · skip
                            exfalso
                            omega
                          · skip
                            exact Q_to (JN368 ) rfl (by omega) rfl
                refine Q_iload hX dL_sound_283 rfl ?_
                have hfo9 := hf.out
                refine Q_if_eq hX 305 dL_sound_285 (by first | omega | exact andI_r _ _ | exact orI_r _ _ | exact shrI_r _ _ | exact shlI_r _ _) (by decide) (fun c285 => ?_) (fun c285 => ?_)
                · refine Q_iconst hX dL_sound_305 ?_
                  exact Q_to (JN306 _ ⟨Hid.mk (by rcases hfo9 with ⟨f8, f9⟩ | ⟨f8, f9⟩ <;> first | (exact Or.inl ⟨rfl, f9, by omega, by omega⟩) | (exact Or.inr ⟨rfl, fun z => absurd z.1 f9⟩) | (exact Or.inr ⟨rfl, fun z => by omega⟩) | (exfalso; omega)), by omega, by omega⟩) rfl (by omega) rfl
                · refine Q_iload hX dL_sound_288 rfl ?_
                  refine Q_iload_n hX dL_sound_290 rfl ?_
                  refine Q_icmp_lt hX 305 dL_sound_291 (by first | omega | exact andI_r _ _ | exact orI_r _ _ | exact shrI_r _ _ | exact shlI_r _ _) (by first | omega | exact andI_r _ _ | exact orI_r _ _ | exact shrI_r _ _ | exact shlI_r _ _) (by decide) (fun c291 => ?_) (fun c291 => ?_)
                  · refine Q_iconst hX dL_sound_305 ?_
                    exact Q_to (JN306 _ ⟨Hid.mk (by rcases hfo9 with ⟨f8, f9⟩ | ⟨f8, f9⟩ <;> first | (exact Or.inl ⟨rfl, f9, by omega, by omega⟩) | (exact Or.inr ⟨rfl, fun z => absurd z.1 f9⟩) | (exact Or.inr ⟨rfl, fun z => by omega⟩) | (exfalso; omega)), by omega, by omega⟩) rfl (by omega) rfl
                  · refine Q_iload hX dL_sound_294 rfl ?_
                    refine Q_iload hX dL_sound_296 rfl ?_
                    refine Q_icmp_gt hX 305 dL_sound_298 (by first | omega | exact andI_r _ _ | exact orI_r _ _ | exact shrI_r _ _ | exact shlI_r _ _) (by first | omega | exact andI_r _ _ | exact orI_r _ _ | exact shrI_r _ _ | exact shlI_r _ _) (by decide) (fun c298 => ?_) (fun c298 => ?_)
                    · refine Q_iconst hX dL_sound_305 ?_
                      exact Q_to (JN306 _ ⟨Hid.mk (by rcases hfo9 with ⟨f8, f9⟩ | ⟨f8, f9⟩ <;> first | (exact Or.inl ⟨rfl, f9, by omega, by omega⟩) | (exact Or.inr ⟨rfl, fun z => absurd z.1 f9⟩) | (exact Or.inr ⟨rfl, fun z => by omega⟩) | (exfalso; omega)), by omega, by omega⟩) rfl (by omega) rfl
                    · refine Q_iconst hX dL_sound_301 ?_
                      refine Q_goto hX 306 dL_sound_302 (by decide) ?_
                      exact Q_to (JN306 _ ⟨Hid.mk (by rcases hfo9 with ⟨f8, f9⟩ | ⟨f8, f9⟩ <;> first | (exact Or.inl ⟨rfl, f9, by omega, by omega⟩) | (exact Or.inr ⟨rfl, fun z => absurd z.1 f9⟩) | (exact Or.inr ⟨rfl, fun z => by omega⟩) | (exfalso; omega)), by omega, by omega⟩) rfl (by omega) rfl
              refine Q_iload hX dL_sound_259 rfl ?_
              refine Q_if_lt hX 272 dL_sound_261 (by first | omega | exact andI_r _ _ | exact orI_r _ _ | exact shrI_r _ _ | exact shlI_r _ _) (by decide) (fun c261 => ?_) (fun c261 => ?_)
              · refine Q_bipush hX dL_sound_272 rfl ?_
                refine Q_iload hX dL_sound_274 rfl ?_
                refine Q_isub hX dL_sound_276 ?_
                refine Q_bipush hX dL_sound_277 rfl ?_
                refine Q_idiv hX dL_sound_279 (by first | omega | exact andI_r _ _ | exact orI_r _ _ | exact shrI_r _ _ | exact shlI_r _ _) ⟨by omega, by omega⟩ ?_
                refine Q_ineg hX dL_sound_280 ?_
                exact Q_to (JN281 _ (by first | (rw [Int.tdiv_eq_ediv_of_nonneg (by omega)]; done) | (rw [Int.tdiv_eq_ediv_of_nonneg (by omega)]; omega))) rfl (by omega) rfl
              · refine Q_iload hX dL_sound_264 rfl ?_
                refine Q_bipush hX dL_sound_266 rfl ?_
                refine Q_idiv hX dL_sound_268 (by first | omega | exact andI_r _ _ | exact orI_r _ _ | exact shrI_r _ _ | exact shlI_r _ _) ⟨by omega, by omega⟩ ?_
                refine Q_goto hX 281 dL_sound_269 (by decide) ?_
                exact Q_to (JN281 _ (by first | (rw [Int.tdiv_eq_ediv_of_nonneg (by omega)]; done) | (rw [Int.tdiv_eq_ediv_of_nonneg (by omega)]; omega))) rfl (by omega) rfl
            · skip
              have hbk : ¬ bx S (k : Nat) := fun h => hb (by rw [en]; exact h.2)
              have nb1 : NX (k + 1) = NX k := by rw [← hNX]; simp only [nbx]; rw [if_neg hbk]
              have ft1 : (ftn S (S 15 0) (PC + 1) (S 11 2) (S 11 3) (k + 1) = true) = (ftn S (S 15 0) (PC + 1) (S 11 2) (S 11 3) k = true) := by rw [ftn_t]; exact propext ⟨fun h => h.1, fun h => ⟨h, Or.inl hbk⟩⟩
              have hff := hf.out
              have hff0 := hf0
              have hff1 := hf1
              refine Q_iload hX dL_sound_211 rfl ?_
              refine Q_bipush hX dL_sound_213 rfl ?_
              refine Q_ask hX hl (u := 1) _ dL_sound_215 cwL_node (a_node (n9 := n) (k := 9) hE (by first | omega | exact andI_r _ _ | exact orI_r _ _ | exact shrI_r _ _ | exact shlI_r _ _) (by decide) (nodeOK hn (by decide)) (v := (-1000)) (nv_g hb (by decide))) rfl (Nat.le_of_ble_eq_true rfl) ⟨by decide, by decide⟩ ?_
              refine Q_sipush hX dL_sound_218 rfl ?_
              refine Q_icmp_ne hX 227 dL_sound_221 (by decide) (by decide) (by decide) (fun h => absurd (by decide) h) (fun _ => ?_)
              refine Q_goto hX 446 dL_sound_224 (by decide) ?_
              refine Q_iinc hX dL_sound_446 rfl (by decide) ?_
              refine Q_goto hX 51 dL_sound_449 (by decide) ?_
              exact Q_to (ih51 (k + 1) (by omega) (by omega) _ _ _ ⟨by omega, by rw [nb1]; omega, Hid.mk (by rw [ft1]; exact hff), hff0, hff1⟩) rfl (by omega) rfl
          refine Q_iload hX dL_sound_58 rfl ?_
          by_cases hu : S 2 n = -1000
          · skip
            have e3 : S 3 n = 0 := by omega
            clear qn
            have t4 := pos_top hW 4 hn hu
            try simp only [hPS, hRW, hSH, hCL, hPC, hWA, hWB, hTR, hTS, hTA, hTB, hCT, hNX, hNB, hOR] at t4
            have t5 := pos_top hW 5 hn hu
            try simp only [hPS, hRW, hSH, hCL, hPC, hWA, hWB, hTR, hTS, hTA, hTB, hCT, hNX, hNB, hOR] at t5
            have t6 := pos_top hW 6 hn hu
            try simp only [hPS, hRW, hSH, hCL, hPC, hWA, hWB, hTR, hTS, hTA, hTB, hCT, hNX, hNB, hOR] at t6
            refine Q_iconst hX dL_sound_60 ?_
            refine Q_ask hX hl (u := 1) _ dL_sound_61 cwL_node (a_node (n9 := n) (k := 0) hE (by first | omega | exact andI_r _ _ | exact orI_r _ _ | exact shrI_r _ _ | exact shlI_r _ _) (by decide) (nodeOK hn (by decide)) (v := (-1000)) ((nv_0 (by decide) hn).trans hu)) rfl (Nat.le_of_ble_eq_true rfl) ⟨by decide, by decide⟩ ?_
            refine Q_istore hX dL_sound_64 (by decide) ?_
            refine Q_iconst hX dL_sound_66 ?_
            refine Q_istore hX dL_sound_67 (by decide) ?_
            refine Q_iload hX dL_sound_69 rfl ?_
            refine Q_iconst hX dL_sound_71 ?_
            refine Q_icmp_ge hX 129 dL_sound_72 (by decide) (by decide) (by decide) (fun h => absurd h (by decide)) (fun _ => ?_)
            refine Q_aload_n hX dL_sound_75 rfl ?_
            refine Q_iload hX dL_sound_76 rfl ?_
            refine Q_iconst hX dL_sound_78 ?_
            refine Q_iload hX dL_sound_79 rfl ?_
            refine Q_iadd hX dL_sound_81 ?_
            refine Q_ask hX hl (u := 1) _ dL_sound_82 cwL_node (a_node (n9 := n) (k := (4 + 0)) hE (by first | omega | exact andI_r _ _ | exact orI_r _ _ | exact shrI_r _ _ | exact shlI_r _ _) (by decide) (nodeOK hn (by decide)) (v := PS 4 n) ((nv_4 (by decide) hn).trans (congrFun (congrFun hPS 4) n))) rfl (Nat.le_of_ble_eq_true rfl) ⟨by decide, by decide⟩ ?_
            refine Q_aload_n hX dL_sound_85 rfl ?_
            refine Q_iload hX dL_sound_86 rfl ?_
            refine Q_iconst hX dL_sound_88 ?_
            refine Q_iload hX dL_sound_89 rfl ?_
            refine Q_iadd hX dL_sound_91 ?_
            refine Q_ask hX hl (u := 1) _ dL_sound_92 cwL_node (a_node (n9 := n) (k := (1 + 0)) hE (by first | omega | exact andI_r _ _ | exact orI_r _ _ | exact shrI_r _ _ | exact shlI_r _ _) (by decide) (nodeOK hn (by decide)) (v := S 4 n) (nv_1 (by decide) hn)) rfl (Nat.le_of_ble_eq_true rfl) ⟨by decide, by decide⟩ ?_
            refine Q_iload hX dL_sound_95 rfl ?_
            refine Q_sipush hX dL_sound_97 rfl ?_
            refine Q_icmp_ne hX 107 dL_sound_100 (by decide) (by decide) (by decide) (fun h => absurd (by decide) h) (fun _ => ?_)
            refine Q_iconst hX dL_sound_103 ?_
            refine Q_goto hX 117 dL_sound_104 (by decide) ?_
            refine Q_iadd hX dL_sound_117 ?_
            refine Q_icmp_eq hX 123 dL_sound_118 (by first | omega | exact andI_r _ _ | exact orI_r _ _ | exact shrI_r _ _ | exact shlI_r _ _) (by first | omega | exact andI_r _ _ | exact orI_r _ _ | exact shrI_r _ _ | exact shlI_r _ _) (by decide) (fun c118 => ?_) (fun c118 => ?_)
            · refine Q_iinc hX dL_sound_123 rfl (by decide) ?_
              refine Q_goto hX 69 dL_sound_126 (by decide) ?_
              refine Q_iload hX dL_sound_69 rfl ?_
              refine Q_iconst hX dL_sound_71 ?_
              refine Q_icmp_ge hX 129 dL_sound_72 (by decide) (by decide) (by decide) (fun h => absurd h (by decide)) (fun _ => ?_)
              refine Q_aload_n hX dL_sound_75 rfl ?_
              refine Q_iload hX dL_sound_76 rfl ?_
              refine Q_iconst hX dL_sound_78 ?_
              refine Q_iload hX dL_sound_79 rfl ?_
              refine Q_iadd hX dL_sound_81 ?_
              refine Q_ask hX hl (u := 1) _ dL_sound_82 cwL_node (a_node (n9 := n) (k := (4 + (0 + 1))) hE (by first | omega | exact andI_r _ _ | exact orI_r _ _ | exact shrI_r _ _ | exact shlI_r _ _) (by decide) (nodeOK hn (by decide)) (v := PS 5 n) ((nv_5 (by decide) hn).trans (congrFun (congrFun hPS 5) n))) rfl (Nat.le_of_ble_eq_true rfl) ⟨by decide, by decide⟩ ?_
              refine Q_aload_n hX dL_sound_85 rfl ?_
              refine Q_iload hX dL_sound_86 rfl ?_
              refine Q_iconst hX dL_sound_88 ?_
              refine Q_iload hX dL_sound_89 rfl ?_
              refine Q_iadd hX dL_sound_91 ?_
              refine Q_ask hX hl (u := 1) _ dL_sound_92 cwL_node (a_node (n9 := n) (k := (1 + (0 + 1))) hE (by first | omega | exact andI_r _ _ | exact orI_r _ _ | exact shrI_r _ _ | exact shlI_r _ _) (by decide) (nodeOK hn (by decide)) (v := S 5 n) (nv_2 (by decide) hn)) rfl (Nat.le_of_ble_eq_true rfl) ⟨by decide, by decide⟩ ?_
              refine Q_iload hX dL_sound_95 rfl ?_
              refine Q_sipush hX dL_sound_97 rfl ?_
              refine Q_icmp_ne hX 107 dL_sound_100 (by decide) (by decide) (by decide) (fun h => absurd (by decide) h) (fun _ => ?_)
              refine Q_iconst hX dL_sound_103 ?_
              refine Q_goto hX 117 dL_sound_104 (by decide) ?_
              refine Q_iadd hX dL_sound_117 ?_
              refine Q_icmp_eq hX 123 dL_sound_118 (by first | omega | exact andI_r _ _ | exact orI_r _ _ | exact shrI_r _ _ | exact shlI_r _ _) (by first | omega | exact andI_r _ _ | exact orI_r _ _ | exact shrI_r _ _ | exact shlI_r _ _) (by decide) (fun c118 => ?_) (fun c118 => ?_)
              · refine Q_iinc hX dL_sound_123 rfl (by decide) ?_
                refine Q_goto hX 69 dL_sound_126 (by decide) ?_
                refine Q_iload hX dL_sound_69 rfl ?_
                refine Q_iconst hX dL_sound_71 ?_
                refine Q_icmp_ge hX 129 dL_sound_72 (by decide) (by decide) (by decide) (fun h => absurd h (by decide)) (fun _ => ?_)
                refine Q_aload_n hX dL_sound_75 rfl ?_
                refine Q_iload hX dL_sound_76 rfl ?_
                refine Q_iconst hX dL_sound_78 ?_
                refine Q_iload hX dL_sound_79 rfl ?_
                refine Q_iadd hX dL_sound_81 ?_
                refine Q_ask hX hl (u := 1) _ dL_sound_82 cwL_node (a_node (n9 := n) (k := (4 + ((0 + 1) + 1))) hE (by first | omega | exact andI_r _ _ | exact orI_r _ _ | exact shrI_r _ _ | exact shlI_r _ _) (by decide) (nodeOK hn (by decide)) (v := PS 6 n) ((nv_6 (by decide) hn).trans (congrFun (congrFun hPS 6) n))) rfl (Nat.le_of_ble_eq_true rfl) ⟨by decide, by decide⟩ ?_
                refine Q_aload_n hX dL_sound_85 rfl ?_
                refine Q_iload hX dL_sound_86 rfl ?_
                refine Q_iconst hX dL_sound_88 ?_
                refine Q_iload hX dL_sound_89 rfl ?_
                refine Q_iadd hX dL_sound_91 ?_
                refine Q_ask hX hl (u := 1) _ dL_sound_92 cwL_node (a_node (n9 := n) (k := (1 + ((0 + 1) + 1))) hE (by first | omega | exact andI_r _ _ | exact orI_r _ _ | exact shrI_r _ _ | exact shlI_r _ _) (by decide) (nodeOK hn (by decide)) (v := S 6 n) (nv_3 (by decide) hn)) rfl (Nat.le_of_ble_eq_true rfl) ⟨by decide, by decide⟩ ?_
                refine Q_iload hX dL_sound_95 rfl ?_
                refine Q_sipush hX dL_sound_97 rfl ?_
                refine Q_icmp_ne hX 107 dL_sound_100 (by decide) (by decide) (by decide) (fun h => absurd (by decide) h) (fun _ => ?_)
                refine Q_iconst hX dL_sound_103 ?_
                refine Q_goto hX 117 dL_sound_104 (by decide) ?_
                refine Q_iadd hX dL_sound_117 ?_
                refine Q_icmp_eq hX 123 dL_sound_118 (by first | omega | exact andI_r _ _ | exact orI_r _ _ | exact shrI_r _ _ | exact shlI_r _ _) (by first | omega | exact andI_r _ _ | exact orI_r _ _ | exact shrI_r _ _ | exact shlI_r _ _) (by decide) (fun c118 => ?_) (fun c118 => ?_)
                · refine Q_iinc hX dL_sound_123 rfl (by decide) ?_
                  refine Q_goto hX 69 dL_sound_126 (by decide) ?_
                  refine Q_iload hX dL_sound_69 rfl ?_
                  refine Q_iconst hX dL_sound_71 ?_
                  refine Q_icmp_ge hX 129 dL_sound_72 (by decide) (by decide) (by decide) (fun _ => ?_) (fun h => absurd (by decide) h)
                  refine Q_iload hX dL_sound_129 rfl ?_
                  refine Q_sipush hX dL_sound_131 rfl ?_
                  refine Q_icmp_eq hX 163 dL_sound_134 (by decide) (by decide) (by decide) (fun _ => ?_) (fun h => absurd (by decide) h)
                  refine Q_aload_n hX dL_sound_163 rfl ?_
                  refine Q_iload hX dL_sound_164 rfl ?_
                  refine Q_bipush hX dL_sound_166 rfl ?_
                  refine Q_ask hX hl (u := 1) _ dL_sound_168 cwL_node (a_node (n9 := n) (k := 7) hE (by first | omega | exact andI_r _ _ | exact orI_r _ _ | exact shrI_r _ _ | exact shlI_r _ _) (by decide) (nodeOK hn (by decide)) (v := S 3 n) (nv_7 (by decide) hn)) rfl (Nat.le_of_ble_eq_true rfl) ⟨by decide, by decide⟩ ?_
                  refine Q_iload hX dL_sound_171 rfl ?_
                  refine Q_sipush hX dL_sound_173 rfl ?_
                  refine Q_icmp_ne hX 183 dL_sound_176 (by decide) (by decide) (by decide) (fun h => absurd (by decide) h) (fun _ => ?_)
                  refine Q_iconst hX dL_sound_179 ?_
                  refine Q_goto hX 193 dL_sound_180 (by decide) ?_
                  refine Q_icmp_ne hX 208 dL_sound_193 (by first | omega | exact andI_r _ _ | exact orI_r _ _ | exact shrI_r _ _ | exact shlI_r _ _) (by decide) (by decide) (fun c193 => ?_) (fun c193 => ?_)
                  · skip
                    exfalso
                    omega
                  · refine Q_aload_n hX dL_sound_196 rfl ?_
                    refine Q_iload hX dL_sound_197 rfl ?_
                    refine Q_bipush hX dL_sound_199 rfl ?_
                    refine Q_ask hX hl (u := 1) _ dL_sound_201 cwL_node (a_node (n9 := n) (k := 7) hE (by first | omega | exact andI_r _ _ | exact orI_r _ _ | exact shrI_r _ _ | exact shlI_r _ _) (by decide) (nodeOK hn (by decide)) (v := S 3 n) (nv_7 (by decide) hn)) rfl (Nat.le_of_ble_eq_true rfl) ⟨by decide, by decide⟩ ?_
                    refine Q_iconst hX dL_sound_204 ?_
                    refine Q_icmp_le hX 210 dL_sound_205 (by first | omega | exact andI_r _ _ | exact orI_r _ _ | exact shrI_r _ _ | exact shlI_r _ _) (by decide) (by decide) (fun c205 => ?_) (fun c205 => ?_)
                    · skip
                      exact Q_to (JN210 ) rfl (by omega) rfl
                    · skip
                      exfalso
                      omega
                · skip
                  exfalso
                  omega
              · skip
                exfalso
                omega
            · skip
              exfalso
              omega
          · skip
            have gs : 0 ≤ S 2 n ∧ S 2 n < n ∧ S 7 (S 2 n) = 0 ∧ S 3 n = S 3 (S 2 n) + 1 := by omega
            clear qn
            have hup : hs S (S 2 n) := ⟨by omega, by omega, by omega⟩
            have hgu : ¬ 0 < S 7 (S 2 n) := by omega
            have t4 := pos_eq hW 4 hn.1 hn.2.1
            try simp only [hPS, hRW, hSH, hCL, hPC, hWA, hWB, hTR, hTS, hTA, hTB, hCT, hNX, hNB, hOR] at t4
            have t5 := pos_eq hW 5 hn.1 hn.2.1
            try simp only [hPS, hRW, hSH, hCL, hPC, hWA, hWB, hTR, hTS, hTA, hTB, hCT, hNX, hNB, hOR] at t5
            have t6 := pos_eq hW 6 hn.1 hn.2.1
            try simp only [hPS, hRW, hSH, hCL, hPC, hWA, hWB, hTR, hTS, hTA, hTB, hCT, hNX, hNB, hOR] at t6
            obtain ⟨qu, g3u, g4u, g5u, g6u, g7u, g8u, -, g9u⟩ := hW.2.2.1 (S 2 n) hup.1 hup.2.1
            have pu := posF hW hup
            try simp only [hPS, hRW, hSH, hCL, hPC, hWA, hWB, hTR, hTS, hTA, hTB, hCT, hNX, hNB, hOR] at pu
            clear qu
            refine Q_iconst hX dL_sound_60 ?_
            refine Q_ask hX hl (u := 1) _ dL_sound_61 cwL_node (a_node (n9 := n) (k := 0) hE (by first | omega | exact andI_r _ _ | exact orI_r _ _ | exact shrI_r _ _ | exact shlI_r _ _) (by decide) (nodeOK hn (by decide)) (v := S 2 n) (nv_0 (by decide) hn)) rfl (Nat.le_of_ble_eq_true rfl) ⟨by decide, by decide⟩ ?_
            refine Q_istore hX dL_sound_64 (by decide) ?_
            refine Q_iconst hX dL_sound_66 ?_
            refine Q_istore hX dL_sound_67 (by decide) ?_
            refine Q_iload hX dL_sound_69 rfl ?_
            refine Q_iconst hX dL_sound_71 ?_
            refine Q_icmp_ge hX 129 dL_sound_72 (by decide) (by decide) (by decide) (fun h => absurd h (by decide)) (fun _ => ?_)
            refine Q_aload_n hX dL_sound_75 rfl ?_
            refine Q_iload hX dL_sound_76 rfl ?_
            refine Q_iconst hX dL_sound_78 ?_
            refine Q_iload hX dL_sound_79 rfl ?_
            refine Q_iadd hX dL_sound_81 ?_
            refine Q_ask hX hl (u := 1) _ dL_sound_82 cwL_node (a_node (n9 := n) (k := (4 + 0)) hE (by first | omega | exact andI_r _ _ | exact orI_r _ _ | exact shrI_r _ _ | exact shlI_r _ _) (by decide) (nodeOK hn (by decide)) (v := PS 4 n) ((nv_4 (by decide) hn).trans (congrFun (congrFun hPS 4) n))) rfl (Nat.le_of_ble_eq_true rfl) ⟨by decide, by decide⟩ ?_
            refine Q_aload_n hX dL_sound_85 rfl ?_
            refine Q_iload hX dL_sound_86 rfl ?_
            refine Q_iconst hX dL_sound_88 ?_
            refine Q_iload hX dL_sound_89 rfl ?_
            refine Q_iadd hX dL_sound_91 ?_
            refine Q_ask hX hl (u := 1) _ dL_sound_92 cwL_node (a_node (n9 := n) (k := (1 + 0)) hE (by first | omega | exact andI_r _ _ | exact orI_r _ _ | exact shrI_r _ _ | exact shlI_r _ _) (by decide) (nodeOK hn (by decide)) (v := S 4 n) (nv_1 (by decide) hn)) rfl (Nat.le_of_ble_eq_true rfl) ⟨by decide, by decide⟩ ?_
            refine Q_iload hX dL_sound_95 rfl ?_
            refine Q_sipush hX dL_sound_97 rfl ?_
            refine Q_icmp_ne hX 107 dL_sound_100 (by first | omega | exact andI_r _ _ | exact orI_r _ _ | exact shrI_r _ _ | exact shlI_r _ _) (by decide) (by decide) (fun c100 => ?_) (fun c100 => ((absurd c100 hu : False)).elim)
            refine Q_aload_n hX dL_sound_107 rfl ?_
            refine Q_iload hX dL_sound_108 rfl ?_
            refine Q_iconst hX dL_sound_110 ?_
            refine Q_iload hX dL_sound_111 rfl ?_
            refine Q_iadd hX dL_sound_113 ?_
            refine Q_ask hX hl (u := 1) _ dL_sound_114 cwL_node (a_node (n9 := S 2 n) (k := (4 + 0)) hE (by first | omega | exact andI_r _ _ | exact orI_r _ _ | exact shrI_r _ _ | exact shlI_r _ _) (by decide) (nodeOK hup (by decide)) (v := PS 4 (S 2 n)) ((nv_4 (by decide) hup).trans (congrFun (congrFun hPS 4) (S 2 n)))) rfl (Nat.le_of_ble_eq_true rfl) ⟨by decide, by decide⟩ ?_
            refine Q_iadd hX dL_sound_117 ?_
            refine Q_icmp_eq hX 123 dL_sound_118 (by first | omega | exact andI_r _ _ | exact orI_r _ _ | exact shrI_r _ _ | exact shlI_r _ _) (by first | omega | exact andI_r _ _ | exact orI_r _ _ | exact shrI_r _ _ | exact shlI_r _ _) (by decide) (fun c118 => ?_) (fun c118 => ?_)
            · refine Q_iinc hX dL_sound_123 rfl (by decide) ?_
              refine Q_goto hX 69 dL_sound_126 (by decide) ?_
              refine Q_iload hX dL_sound_69 rfl ?_
              refine Q_iconst hX dL_sound_71 ?_
              refine Q_icmp_ge hX 129 dL_sound_72 (by decide) (by decide) (by decide) (fun h => absurd h (by decide)) (fun _ => ?_)
              refine Q_aload_n hX dL_sound_75 rfl ?_
              refine Q_iload hX dL_sound_76 rfl ?_
              refine Q_iconst hX dL_sound_78 ?_
              refine Q_iload hX dL_sound_79 rfl ?_
              refine Q_iadd hX dL_sound_81 ?_
              refine Q_ask hX hl (u := 1) _ dL_sound_82 cwL_node (a_node (n9 := n) (k := (4 + (0 + 1))) hE (by first | omega | exact andI_r _ _ | exact orI_r _ _ | exact shrI_r _ _ | exact shlI_r _ _) (by decide) (nodeOK hn (by decide)) (v := PS 5 n) ((nv_5 (by decide) hn).trans (congrFun (congrFun hPS 5) n))) rfl (Nat.le_of_ble_eq_true rfl) ⟨by decide, by decide⟩ ?_
              refine Q_aload_n hX dL_sound_85 rfl ?_
              refine Q_iload hX dL_sound_86 rfl ?_
              refine Q_iconst hX dL_sound_88 ?_
              refine Q_iload hX dL_sound_89 rfl ?_
              refine Q_iadd hX dL_sound_91 ?_
              refine Q_ask hX hl (u := 1) _ dL_sound_92 cwL_node (a_node (n9 := n) (k := (1 + (0 + 1))) hE (by first | omega | exact andI_r _ _ | exact orI_r _ _ | exact shrI_r _ _ | exact shlI_r _ _) (by decide) (nodeOK hn (by decide)) (v := S 5 n) (nv_2 (by decide) hn)) rfl (Nat.le_of_ble_eq_true rfl) ⟨by decide, by decide⟩ ?_
              refine Q_iload hX dL_sound_95 rfl ?_
              refine Q_sipush hX dL_sound_97 rfl ?_
              refine Q_icmp_ne hX 107 dL_sound_100 (by first | omega | exact andI_r _ _ | exact orI_r _ _ | exact shrI_r _ _ | exact shlI_r _ _) (by decide) (by decide) (fun c100 => ?_) (fun c100 => ((absurd c100 hu : False)).elim)
              refine Q_aload_n hX dL_sound_107 rfl ?_
              refine Q_iload hX dL_sound_108 rfl ?_
              refine Q_iconst hX dL_sound_110 ?_
              refine Q_iload hX dL_sound_111 rfl ?_
              refine Q_iadd hX dL_sound_113 ?_
              refine Q_ask hX hl (u := 1) _ dL_sound_114 cwL_node (a_node (n9 := S 2 n) (k := (4 + (0 + 1))) hE (by first | omega | exact andI_r _ _ | exact orI_r _ _ | exact shrI_r _ _ | exact shlI_r _ _) (by decide) (nodeOK hup (by decide)) (v := PS 5 (S 2 n)) ((nv_5 (by decide) hup).trans (congrFun (congrFun hPS 5) (S 2 n)))) rfl (Nat.le_of_ble_eq_true rfl) ⟨by decide, by decide⟩ ?_
              refine Q_iadd hX dL_sound_117 ?_
              refine Q_icmp_eq hX 123 dL_sound_118 (by first | omega | exact andI_r _ _ | exact orI_r _ _ | exact shrI_r _ _ | exact shlI_r _ _) (by first | omega | exact andI_r _ _ | exact orI_r _ _ | exact shrI_r _ _ | exact shlI_r _ _) (by decide) (fun c118 => ?_) (fun c118 => ?_)
              · refine Q_iinc hX dL_sound_123 rfl (by decide) ?_
                refine Q_goto hX 69 dL_sound_126 (by decide) ?_
                refine Q_iload hX dL_sound_69 rfl ?_
                refine Q_iconst hX dL_sound_71 ?_
                refine Q_icmp_ge hX 129 dL_sound_72 (by decide) (by decide) (by decide) (fun h => absurd h (by decide)) (fun _ => ?_)
                refine Q_aload_n hX dL_sound_75 rfl ?_
                refine Q_iload hX dL_sound_76 rfl ?_
                refine Q_iconst hX dL_sound_78 ?_
                refine Q_iload hX dL_sound_79 rfl ?_
                refine Q_iadd hX dL_sound_81 ?_
                refine Q_ask hX hl (u := 1) _ dL_sound_82 cwL_node (a_node (n9 := n) (k := (4 + ((0 + 1) + 1))) hE (by first | omega | exact andI_r _ _ | exact orI_r _ _ | exact shrI_r _ _ | exact shlI_r _ _) (by decide) (nodeOK hn (by decide)) (v := PS 6 n) ((nv_6 (by decide) hn).trans (congrFun (congrFun hPS 6) n))) rfl (Nat.le_of_ble_eq_true rfl) ⟨by decide, by decide⟩ ?_
                refine Q_aload_n hX dL_sound_85 rfl ?_
                refine Q_iload hX dL_sound_86 rfl ?_
                refine Q_iconst hX dL_sound_88 ?_
                refine Q_iload hX dL_sound_89 rfl ?_
                refine Q_iadd hX dL_sound_91 ?_
                refine Q_ask hX hl (u := 1) _ dL_sound_92 cwL_node (a_node (n9 := n) (k := (1 + ((0 + 1) + 1))) hE (by first | omega | exact andI_r _ _ | exact orI_r _ _ | exact shrI_r _ _ | exact shlI_r _ _) (by decide) (nodeOK hn (by decide)) (v := S 6 n) (nv_3 (by decide) hn)) rfl (Nat.le_of_ble_eq_true rfl) ⟨by decide, by decide⟩ ?_
                refine Q_iload hX dL_sound_95 rfl ?_
                refine Q_sipush hX dL_sound_97 rfl ?_
                refine Q_icmp_ne hX 107 dL_sound_100 (by first | omega | exact andI_r _ _ | exact orI_r _ _ | exact shrI_r _ _ | exact shlI_r _ _) (by decide) (by decide) (fun c100 => ?_) (fun c100 => ((absurd c100 hu : False)).elim)
                refine Q_aload_n hX dL_sound_107 rfl ?_
                refine Q_iload hX dL_sound_108 rfl ?_
                refine Q_iconst hX dL_sound_110 ?_
                refine Q_iload hX dL_sound_111 rfl ?_
                refine Q_iadd hX dL_sound_113 ?_
                refine Q_ask hX hl (u := 1) _ dL_sound_114 cwL_node (a_node (n9 := S 2 n) (k := (4 + ((0 + 1) + 1))) hE (by first | omega | exact andI_r _ _ | exact orI_r _ _ | exact shrI_r _ _ | exact shlI_r _ _) (by decide) (nodeOK hup (by decide)) (v := PS 6 (S 2 n)) ((nv_6 (by decide) hup).trans (congrFun (congrFun hPS 6) (S 2 n)))) rfl (Nat.le_of_ble_eq_true rfl) ⟨by decide, by decide⟩ ?_
                refine Q_iadd hX dL_sound_117 ?_
                refine Q_icmp_eq hX 123 dL_sound_118 (by first | omega | exact andI_r _ _ | exact orI_r _ _ | exact shrI_r _ _ | exact shlI_r _ _) (by first | omega | exact andI_r _ _ | exact orI_r _ _ | exact shrI_r _ _ | exact shlI_r _ _) (by decide) (fun c118 => ?_) (fun c118 => ?_)
                · refine Q_iinc hX dL_sound_123 rfl (by decide) ?_
                  refine Q_goto hX 69 dL_sound_126 (by decide) ?_
                  refine Q_iload hX dL_sound_69 rfl ?_
                  refine Q_iconst hX dL_sound_71 ?_
                  refine Q_icmp_ge hX 129 dL_sound_72 (by decide) (by decide) (by decide) (fun _ => ?_) (fun h => absurd (by decide) h)
                  refine Q_iload hX dL_sound_129 rfl ?_
                  refine Q_sipush hX dL_sound_131 rfl ?_
                  refine Q_icmp_eq hX 163 dL_sound_134 (by first | omega | exact andI_r _ _ | exact orI_r _ _ | exact shrI_r _ _ | exact shlI_r _ _) (by decide) (by decide) (fun c134 => ((absurd c134 hu : False)).elim) (fun c134 => ?_)
                  refine Q_iload hX dL_sound_137 rfl ?_
                  refine Q_if_lt hX 208 dL_sound_139 (by first | omega | exact andI_r _ _ | exact orI_r _ _ | exact shrI_r _ _ | exact shlI_r _ _) (by decide) (fun c139 => ?_) (fun c139 => ?_)
                  · skip
                    exfalso
                    omega
                  · refine Q_iload hX dL_sound_142 rfl ?_
                    refine Q_iload hX dL_sound_144 rfl ?_
                    refine Q_icmp_ge hX 208 dL_sound_146 (by first | omega | exact andI_r _ _ | exact orI_r _ _ | exact shrI_r _ _ | exact shlI_r _ _) (by first | omega | exact andI_r _ _ | exact orI_r _ _ | exact shrI_r _ _ | exact shlI_r _ _) (by decide) (fun c146 => ?_) (fun c146 => ?_)
                    · skip
                      exfalso
                      omega
                    · refine Q_aload_n hX dL_sound_149 rfl ?_
                      refine Q_iload hX dL_sound_150 rfl ?_
                      refine Q_bipush hX dL_sound_152 rfl ?_
                      refine Q_ask hX hl (u := 1) _ dL_sound_154 cwL_node (a_node (n9 := S 2 n) (k := 9) hE (by first | omega | exact andI_r _ _ | exact orI_r _ _ | exact shrI_r _ _ | exact shlI_r _ _) (by decide) (nodeOK hup (by decide)) (v := (-1000)) (nv_g hgu (by decide))) rfl (Nat.le_of_ble_eq_true rfl) ⟨by decide, by decide⟩ ?_
                      refine Q_sipush hX dL_sound_157 rfl ?_
                      refine Q_icmp_ne hX 208 dL_sound_160 (by decide) (by decide) (by decide) (fun h => absurd (by decide) h) (fun _ => ?_)
                      refine Q_aload_n hX dL_sound_163 rfl ?_
                      refine Q_iload hX dL_sound_164 rfl ?_
                      refine Q_bipush hX dL_sound_166 rfl ?_
                      refine Q_ask hX hl (u := 1) _ dL_sound_168 cwL_node (a_node (n9 := n) (k := 7) hE (by first | omega | exact andI_r _ _ | exact orI_r _ _ | exact shrI_r _ _ | exact shlI_r _ _) (by decide) (nodeOK hn (by decide)) (v := S 3 n) (nv_7 (by decide) hn)) rfl (Nat.le_of_ble_eq_true rfl) ⟨by decide, by decide⟩ ?_
                      refine Q_iload hX dL_sound_171 rfl ?_
                      refine Q_sipush hX dL_sound_173 rfl ?_
                      refine Q_icmp_ne hX 183 dL_sound_176 (by first | omega | exact andI_r _ _ | exact orI_r _ _ | exact shrI_r _ _ | exact shlI_r _ _) (by decide) (by decide) (fun c176 => ?_) (fun c176 => ((absurd c176 hu : False)).elim)
                      refine Q_aload_n hX dL_sound_183 rfl ?_
                      refine Q_iload hX dL_sound_184 rfl ?_
                      refine Q_bipush hX dL_sound_186 rfl ?_
                      refine Q_ask hX hl (u := 1) _ dL_sound_188 cwL_node (a_node (n9 := S 2 n) (k := 7) hE (by first | omega | exact andI_r _ _ | exact orI_r _ _ | exact shrI_r _ _ | exact shlI_r _ _) (by decide) (nodeOK hup (by decide)) (v := S 3 (S 2 n)) (nv_7 (by decide) hup)) rfl (Nat.le_of_ble_eq_true rfl) ⟨by decide, by decide⟩ ?_
                      refine Q_iconst hX dL_sound_191 ?_
                      refine Q_iadd hX dL_sound_192 ?_
                      refine Q_icmp_ne hX 208 dL_sound_193 (by first | omega | exact andI_r _ _ | exact orI_r _ _ | exact shrI_r _ _ | exact shlI_r _ _) (by first | omega | exact andI_r _ _ | exact orI_r _ _ | exact shrI_r _ _ | exact shlI_r _ _) (by decide) (fun c193 => ?_) (fun c193 => ?_)
                      · skip
                        exfalso
                        omega
                      · refine Q_aload_n hX dL_sound_196 rfl ?_
                        refine Q_iload hX dL_sound_197 rfl ?_
                        refine Q_bipush hX dL_sound_199 rfl ?_
                        refine Q_ask hX hl (u := 1) _ dL_sound_201 cwL_node (a_node (n9 := n) (k := 7) hE (by first | omega | exact andI_r _ _ | exact orI_r _ _ | exact shrI_r _ _ | exact shlI_r _ _) (by decide) (nodeOK hn (by decide)) (v := S 3 n) (nv_7 (by decide) hn)) rfl (Nat.le_of_ble_eq_true rfl) ⟨by decide, by decide⟩ ?_
                        refine Q_iconst hX dL_sound_204 ?_
                        refine Q_icmp_le hX 210 dL_sound_205 (by first | omega | exact andI_r _ _ | exact orI_r _ _ | exact shrI_r _ _ | exact shlI_r _ _) (by decide) (by decide) (fun c205 => ?_) (fun c205 => ?_)
                        · skip
                          exact Q_to (JN210 ) rfl (by omega) rfl
                        · skip
                          exfalso
                          omega
                · skip
                  exfalso
                  omega
              · skip
                exfalso
                omega
            · skip
              exfalso
              omega
      exact Q_to (HL51 0 (Nat.zero_le _) 0 0 1 ⟨rfl, (by rw [← hNX]; rfl), Hid.mk (Or.inl ⟨rfl, rfl⟩), by decide, by decide⟩) rfl (by omega) rfl
    refine Q_icmp_ge hX 42 dL_sound_35 (by first | omega | exact andI_r _ _ | exact orI_r _ _ | exact shrI_r _ _ | exact shlI_r _ _) (by decide) (by decide) (fun c35 => ?_) (fun c35 => ?_)
    · refine Q_iconst hX dL_sound_42 ?_
      exact Q_to (JN43 _ ⟨Hid.mk (by omega), by omega, by omega⟩) rfl (by omega) rfl
    · refine Q_iconst hX dL_sound_38 ?_
      refine Q_goto hX 43 dL_sound_39 (by decide) ?_
      exact Q_to (JN43 _ ⟨Hid.mk (by omega), by omega, by omega⟩) rfl (by omega) rfl
  rw [hZ] at main
  exact main n0 M 0 0 hI (Nat.le_of_ble_eq_true rfl) (Nat.le_of_ble_eq_true rfl)
