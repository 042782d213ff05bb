/-! images: cells, ghosts, means -/
set_option maxHeartbeats 16000000 in
set_option maxRecDepth 100000 in
theorem m_L_images {E : EE} {x : Nat} {T : Int} {S : MM} {c : Int} {P : MM} {K : Nat → Nat} {M : MM} {n0 : Nat} {xx : Int} (hE : ∀ U, SF E U → ThF E U ∧ NcF U) (hI : IV n0 T K M x S c P) (hx9 : i32 xx) (hw8 : S 0 3 ≤ 80) : CnL E 10 yL_images cL_images 16 (some .boolean) [.ref x, vI xx] K M (fun r K2 M2 => K2 = K ∧ r = some (vI 1) ∧ ∃ n2, IV n2 T K2 M2 x S c P) 4200 25200 := by
  refine CnL_of RL (plainFor_of_name (by decide)) rfl (Nat.le_of_ble_eq_true rfl) (fun X hX0 hQ hXK hP hl => ?_)
  obtain ⟨Z, hZ⟩ : ∃ Z : QZ, Z = (x, T, S, c, P, 4200, 25200) := ⟨_, rfl⟩
  have hX : XO E X cL_images RL 16 10 Z.c0 Z.s0 := by rw [hZ]; exact hX0
  have hW := hI.wfs
  have w9 := hW.2.1
  unfold WFSs at w9
  have fin : ∀ (q pc : Nat) (L : List (Nat × Value)), decode cL_images pc = .ok (.ireturn, 1) → QJ E X Z K q pc L [vI 1] := by
    intro q pc L hd n M2 a b hI2 ha hb
    rw [hZ] at hI2 ha hb
    exact J_zret hX0 hQ hd (Or.inr rfl) ⟨rfl, rfl, n, hI2⟩ (by have h2 : a + 2 * q ≤ 4200 := ha; omega) (by have h2 : b + 12 * q ≤ 25200 := hb; omega)
  have main : QJ E X Z K 2100 0 [(0, .ref x), (1, vI xx)] [] := by
    subst hZ
    obtain ⟨PS, hPS⟩ : ∃ f : Nat → Int → Int, pos S = f := ⟨_, rfl⟩
    obtain ⟨RW, hRW⟩ : ∃ f : Int → Int, rawg S (S 15 0) = f := ⟨_, rfl⟩
    obtain ⟨SH, hSH⟩ : ∃ f : Int → Int, shf S = f := ⟨_, rfl⟩
    obtain ⟨CL, hCL⟩ : ∃ f : Int → Int → Int, col S = f := ⟨_, rfl⟩
    obtain ⟨PC, hPC⟩ : ∃ f : Int, pct S = f := ⟨_, rfl⟩
    obtain ⟨WA, hWA⟩ : ∃ f : Int, wnd S 1 = f := ⟨_, rfl⟩
    obtain ⟨WB, hWB⟩ : ∃ f : Int, wnd S 0 = f := ⟨_, rfl⟩
    obtain ⟨TR, hTR⟩ : ∃ f : Int, (ttl S).1 = f := ⟨_, rfl⟩
    obtain ⟨TS, hTS⟩ : ∃ f : Int, (ttl S).2 = f := ⟨_, rfl⟩
    obtain ⟨TA, hTA⟩ : ∃ f : Int, tco S 1 = f := ⟨_, rfl⟩
    obtain ⟨TB, hTB⟩ : ∃ f : Int, tco S 0 = f := ⟨_, rfl⟩
    obtain ⟨CT, hCT⟩ : ∃ f : Int, ct (bx S) (cnt S) = f := ⟨_, rfl⟩
    obtain ⟨NX, hNX⟩ : ∃ f : Nat → Nat, nbx S = f := ⟨_, rfl⟩
    obtain ⟨NB, hNB⟩ : ∃ f : Nat, nb S = f := ⟨_, rfl⟩
    obtain ⟨OR, hOR⟩ : ∃ f : Int → Int, ord S = f := ⟨_, rfl⟩
    refine Q_aload_n hX dL_images_0 rfl ?_
    refine Q_iconst hX dL_images_1 ?_
    refine Q_ask hX hl (u := 1) _ dL_images_2 cwL_whole (a_whole (k := 0) hE (by decide) (by decide) (v := S 0 3) (wv_0 (by decide))) rfl (Nat.le_of_ble_eq_true rfl) ⟨by decide, by decide⟩ ?_
    refine Q_istore_n hX dL_images_5 (by decide) ?_
    refine Q_aload_n hX dL_images_6 rfl ?_
    refine Q_iconst hX dL_images_7 ?_
    refine Q_ask hX hl (u := 1) _ dL_images_8 cwL_whole (a_whole (k := 1) hE (by decide) (by decide) (v := S 0 4) (wv_1 (by decide))) rfl (Nat.le_of_ble_eq_true rfl) ⟨by decide, by decide⟩ ?_
    refine Q_istore_n hX dL_images_11 (by decide) ?_
    refine Q_iload_n hX dL_images_12 rfl ?_
    refine Q_iload_n hX dL_images_13 rfl ?_
    refine Q_low hX dL_images_14 hx9 ⟨by omega, by omega⟩ (Nat.le_of_ble_eq_true rfl) (by decide) ?_
    obtain ⟨r, er⟩ : ∃ r : Int, low xx (S 0 4) = r := ⟨_, rfl⟩
    rw [er]
    have hr : 0 ≤ r ∧ r < S 0 4 := er ▸ low_r (by omega)
    have tt9 := titF hW
    try simp only [hPS, hRW, hSH, hCL, hPC, hWA, hWB, hTR, hTS, hTA, hTB, hCT, hNX, hNB, hOR] at tt9
    have a9 := wnd_rng hW 1
    try simp only [hPS, hRW, hSH, hCL, hPC, hWA, hWB, hTR, hTS, hTA, hTB, hCT, hNX, hNB, hOR] at a9
    have b9 := wnd_rng hW 0
    try simp only [hPS, hRW, hSH, hCL, hPC, hWA, hWB, hTR, hTS, hTA, hTB, hCT, hNX, hNB, hOR] at b9
    refine Q_istore hX dL_images_17 (by decide) ?_
    rcases tt9 with ht | ht
    · skip
      have ht9 := ht.2.2.2.2
      refine Q_iconst hX dL_images_19 ?_
      refine Q_istore hX dL_images_20 (by decide) ?_
      refine Q_iconst hX dL_images_22 ?_
      refine Q_istore hX dL_images_23 (by decide) ?_
      have HL25 : ∀ k : Nat, k ≤ (S 0 3).toNat → ∀ (s cc : Int), (cc = k ∧ s = sm (fun c => ghs S c r) k ∧ 0 ≤ s ∧ s ≤ 15 * (k : Int)) → QJ E X (x, T, S, c, P, 4200, 25200) K (25 * (80 - k) + 10) 25 [(0, .ref x), (1, vI xx), (2, vI (S 0 3)), (3, vI (S 0 4)), (4, vI r), (5, vI s), (6, vI cc)] [] := by
        refine up_ind ((S 0 3).toNat) (fun k hk25 ih25 => ?_)
        intro s cc  hi25
        obtain ⟨en, es, hs9⟩ := hi25
        refine Q_iload hX dL_images_25 rfl ?_
        refine Q_iload_n hX dL_images_27 rfl ?_
        refine Q_icmp_ge hX 400 dL_images_28 (by omega) (by omega) (by decide) (fun c28 => ?_) (fun c28 => ?_)
        · have g1 := gall_rng hW 1
          have m3 := gall_mono (S := S) (a := 1) (b := 3) (by decide)
          have m4 := gall_mono (S := S) (a := 3) (b := 15) (by decide)
          have g15 := gall_rng hW 15
          obtain ⟨ga1, ea1⟩ : ∃ v : Int, gall S 1 = v := ⟨_, rfl⟩
          obtain ⟨ga3, ea3⟩ : ∃ v : Int, gall S 3 = v := ⟨_, rfl⟩
          obtain ⟨ga15, ea15⟩ : ∃ v : Int, gall S 15 = v := ⟨_, rfl⟩
          rw [ea1] at g1 m3
          rw [ea3] at m3 m4
          rw [ea15] at m4 g15
          have ek : k = (S 0 3).toNat := by omega
          have esg : s = gsum S r := by rw [es, ek]; rfl
          have hww : 0 ≤ S 0 3 * S 0 4 ∧ S 0 3 * S 0 4 ≤ 24000 := by have h1 := Int.mul_nonneg (a := S 0 3) (b := S 0 4) (by omega) (by omega); have h2 : S 0 3 * S 0 4 ≤ 200 * 120 := Int.mul_le_mul (by omega) (by omega) (by omega) (by decide); omega
          refine Q_le (q2 := 10) (by omega) ?_
          refine Q_aload_n hX dL_images_400 rfl ?_
          refine Q_iconst hX dL_images_401 ?_
          refine Q_ask hX hl (u := 1) _ dL_images_402 cwL_ghosts (a_ghosts hE (by decide) (by decide) (v := ga3) ea3) rfl (Nat.le_of_ble_eq_true rfl) ⟨by decide, by decide⟩ ?_
          refine Q_istore hX dL_images_405 (by decide) ?_
          refine Q_aload_n hX dL_images_407 rfl ?_
          refine Q_iload hX dL_images_408 rfl ?_
          refine Q_ask hX hl (u := 1) _ dL_images_410 cwL_meanGhost (a_meanGhost hE (by omega) (if_pos ⟨by omega, by omega⟩)) rfl (Nat.le_of_ble_eq_true rfl) ⟨by decide, by decide⟩ ?_
          refine Q_iload hX dL_images_413 rfl ?_
          refine Q_i2d hX dL_images_415 ?_
          refine Q_iload_n hX dL_images_416 rfl ?_
          refine Q_i2d hX dL_images_417 ?_
          refine Q_ddiv hX dL_images_418 (show vf_n64 (dd s (S 0 3)) from dd_n ⟨by omega, by omega⟩ ⟨by omega, by omega⟩) ?_
          refine Q_dcmps hX dL_images_419 ?_
          rw [esg, show FP.ddiv (FP.i2d (Int32.ofInt (gsum S r))) (FP.i2d (Int32.ofInt (S 0 3))) = dd (gsum S r) (S 0 3) from rfl, dc_self (dd_n ⟨by omega, by omega⟩ ⟨by omega, by omega⟩)]
          refine Q_if_ne hX 471 dL_images_420 (by decide) (by decide) (fun h => absurd (by decide) h) (fun _ => ?_)
          refine Q_iload hX dL_images_423 rfl ?_
          refine Q_aload_n hX dL_images_425 rfl ?_
          refine Q_iconst hX dL_images_426 ?_
          refine Q_ask hX hl (u := 1) _ dL_images_427 cwL_ghosts (a_ghosts hE (by decide) (by decide) (v := ga1) ea1) rfl (Nat.le_of_ble_eq_true rfl) ⟨by decide, by decide⟩ ?_
          refine Q_icmp_gt hX 471 dL_images_430 (by omega) (by omega) (by decide) (fun c430 => ?_) (fun c430 => ?_)
          · skip
            exfalso
            omega
          · refine Q_aload_n hX dL_images_433 rfl ?_
            refine Q_bipush hX dL_images_434 rfl ?_
            refine Q_ask hX hl (u := 1) _ dL_images_436 cwL_ghosts (a_ghosts hE (by decide) (by decide) (v := ga15) ea15) rfl (Nat.le_of_ble_eq_true rfl) ⟨by decide, by decide⟩ ?_
            refine Q_iload hX dL_images_439 rfl ?_
            refine Q_icmp_gt hX 471 dL_images_441 (by omega) (by omega) (by decide) (fun c441 => ?_) (fun c441 => ?_)
            · skip
              exfalso
              omega
            · refine Q_aload_n hX dL_images_444 rfl ?_
              refine Q_iconst hX dL_images_445 ?_
              refine Q_ask hX hl (u := 1) _ dL_images_446 cwL_ghosts (a_ghosts hE (by decide) (by decide) (v := ga1) ea1) rfl (Nat.le_of_ble_eq_true rfl) ⟨by decide, by decide⟩ ?_
              refine Q_iload_n hX dL_images_449 rfl ?_
              refine Q_iload_n hX dL_images_450 rfl ?_
              refine Q_imul hX dL_images_451 ?_
              refine Q_icmp_gt hX 471 dL_images_452 (by omega) (by omega) (by decide) (fun c452 => ?_) (fun c452 => ?_)
              · skip
                exfalso
                omega
              · refine Q_aload_n hX dL_images_455 rfl ?_
                refine Q_iload_n hX dL_images_456 rfl ?_
                refine Q_ask hX hl (u := 1) _ dL_images_457 cwL_meanGhost (no_meanGhost hE (by omega) (by unfold fCeS; rw [if_neg (by omega)]; decide)) rfl (Nat.le_of_ble_eq_true rfl) ⟨by decide, by decide⟩ ?_
                refine Q_ldcD hX kD_87 dL_images_460 ?_
                refine Q_dcmps hX dL_images_463 ?_
                rw [dc_self dNo_n]
                refine Q_if_ne hX 471 dL_images_464 (by decide) (by decide) (fun h => absurd (by decide) h) (fun _ => ?_)
                refine Q_iconst hX dL_images_467 ?_
                refine Q_goto hX 472 dL_images_468 (by decide) ?_
                exact fin _ _ _ dL_images_472
        · have hcc : 0 ≤ cc ∧ cc < S 0 3 := by omega
          have hfc : fCeS S cc r = 0 := if_pos ⟨by omega, by omega⟩
          have sf := shdF hW cc r hcc
          try simp only [hPS, hRW, hSH, hCL, hPC, hWA, hWB, hTR, hTS, hTA, hTB, hCT, hNX, hNB, hOR] at sf
          have tm : 0 ≤ cc.tmod 2 ∧ cc.tmod 2 < 2 := ⟨Int.tmod_nonneg _ (by omega), Int.tmod_lt_of_pos _ (by decide)⟩
          have s1 := shd_rng hW 1 cc r
          have s0 := shd_rng hW 0 cc r
          have gr := ghs_rng hW cc r
          have ge := ghs_eq (S := S) (c := cc) (r := r)
          obtain ⟨sh1, e1⟩ : ∃ v : Int, shd S 1 cc r = v := ⟨_, rfl⟩
          obtain ⟨sh0, e0⟩ : ∃ v : Int, shd S 0 cc r = v := ⟨_, rfl⟩
          obtain ⟨gg, eg⟩ : ∃ v : Int, ghs S cc r = v := ⟨_, rfl⟩
          rw [e1] at s1
          rw [e0] at s0
          rw [eg] at gr
          rw [eg, e1, e0] at ge
          rw [e1, e0] at sf
          refine Q_le (q2 := 25 * (80 - (k + 1)) + 33) (by omega) ?_
          refine Q_aload_n hX dL_images_31 rfl ?_
          refine Q_iconst hX dL_images_32 ?_
          refine Q_iload hX dL_images_33 rfl ?_
          refine Q_iload hX dL_images_35 rfl ?_
          refine Q_ask hX hl (u := 1) _ dL_images_37 cwL_shade (a_shade hE (by decide) (by omega) (by omega) hfc (v := sh1) e1) rfl (Nat.le_of_ble_eq_true rfl) ⟨by decide, by decide⟩ ?_
          refine Q_istore hX dL_images_40 (by decide) ?_
          refine Q_aload_n hX dL_images_42 rfl ?_
          refine Q_iconst hX dL_images_43 ?_
          refine Q_iload hX dL_images_44 rfl ?_
          refine Q_iload hX dL_images_46 rfl ?_
          refine Q_ask hX hl (u := 1) _ dL_images_48 cwL_shade (a_shade hE (by decide) (by omega) (by omega) hfc (v := sh0) e0) rfl (Nat.le_of_ble_eq_true rfl) ⟨by decide, by decide⟩ ?_
          refine Q_istore hX dL_images_51 (by decide) ?_
          have JN73 : ∀ (by9 : Int), (gg = S 15 3 * by9 / 100 ∧ 0 ≤ by9 ∧ by9 ≤ 15) → QJ E X (x, T, S, c, P, 4200, 25200) K (25 * (80 - (k + 1)) + 31) 73 [(0, .ref x), (1, vI xx), (2, vI (S 0 3)), (3, vI (S 0 4)), (4, vI r), (5, vI s), (6, vI cc), (7, vI sh1), (8, vI sh0)] [vI by9] := by
            intro by9  hj73
            have m15 := mul_15 (x := S 15 3) (y := by9) (by omega) hj73.2
            refine Q_istore hX dL_images_73 (by decide) ?_
            refine Q_aload_n hX dL_images_75 rfl ?_
            refine Q_iload hX dL_images_76 rfl ?_
            refine Q_iload hX dL_images_78 rfl ?_
            refine Q_ask hX hl (u := 1) _ dL_images_80 cwL_ghost (a_ghost hE (by omega) (by omega) hfc (v := gg) eg) rfl (Nat.le_of_ble_eq_true rfl) ⟨by decide, by decide⟩ ?_
            refine Q_istore hX dL_images_83 (by decide) ?_
            refine Q_iload hX dL_images_85 rfl ?_
            refine Q_iload hX dL_images_87 rfl ?_
            refine Q_iadd hX dL_images_89 ?_
            refine Q_istore hX dL_images_90 (by decide) ?_
            by_cases hp : cc.tmod 2 = 0
            · skip
              obtain ⟨sfe, -⟩ := sf
              clear e0
              refine Q_aload_n hX dL_images_92 rfl ?_
              refine Q_iload hX dL_images_93 rfl ?_
              refine Q_iconst hX dL_images_95 ?_
              refine Q_irem hX dL_images_96 (by omega) ⟨by omega, by omega⟩ ?_
              refine Q_if_ne hX 104 dL_images_97 (by omega) (by decide) (fun c97 => ((absurd hp c97 : False)).elim) (fun c97 => ?_)
              rcases front_rng S 1 cc r with hfr | hfr
              · skip
                rw [hfr] at sfe
                rw [if_neg (show ¬ hs S (-1000) from fun z => absurd z.1 (by decide))] at sfe
                refine Q_iconst hX dL_images_100 ?_
                refine Q_goto hX 105 dL_images_101 (by decide) ?_
                refine Q_iload hX dL_images_105 rfl ?_
                refine Q_iload hX dL_images_107 rfl ?_
                refine Q_ask hX hl (u := 1) _ dL_images_109 cwL_shown (a_shown hE (by decide) (by omega) (by omega) hfc (v := -1000) hfr) rfl (Nat.le_of_ble_eq_true rfl) ⟨by decide, by decide⟩ ?_
                refine Q_istore hX dL_images_112 (by decide) ?_
                refine Q_iload hX dL_images_114 rfl ?_
                refine Q_iconst hX dL_images_116 ?_
                refine Q_irem hX dL_images_117 (by omega) ⟨by omega, by omega⟩ ?_
                refine Q_if_ne hX 126 dL_images_118 (by omega) (by decide) (fun c118 => ((absurd hp c118 : False)).elim) (fun c118 => ?_)
                refine Q_bipush hX dL_images_121 rfl ?_
                refine Q_goto hX 128 dL_images_123 (by decide) ?_
                refine Q_istore hX dL_images_128 (by decide) ?_
                have JN179 : ∀ (tt : Int), (Hid (tt = 1 ∧ (r = TR ∧ TA ≤ cc ∧ cc < TA + S 0 7) ∨ tt = 0 ∧ ¬ (r = TR ∧ TA ≤ cc ∧ cc < TA + S 0 7))) → QJ E X (x, T, S, c, P, 4200, 25200) K (25 * (80 - (k + 1)) + 22) 179 [(0, .ref x), (1, vI xx), (2, vI (S 0 3)), (3, vI (S 0 4)), (4, vI r), (5, vI (s + gg)), (6, vI cc), (7, vI sh1), (8, vI sh0), (9, vI by9), (10, vI gg), (11, vI (-1000)), (12, vI 14)] [vI tt] := by
                  intro tt  hj179
                  refine Q_istore hX dL_images_179 (by decide) ?_
                  have JN225 : ∀ (mk : Int), (Hid (mk = 1 ∧ cc < WA ∨ mk = 0 ∧ ¬ cc < WA)) → QJ E X (x, T, S, c, P, 4200, 25200) K (25 * (80 - (k + 1)) + 21) 225 [(0, .ref x), (1, vI xx), (2, vI (S 0 3)), (3, vI (S 0 4)), (4, vI r), (5, vI (s + gg)), (6, vI cc), (7, vI sh1), (8, vI sh0), (9, vI by9), (10, vI gg), (11, vI (-1000)), (12, vI 14), (13, vI tt)] [vI mk] := by
                    intro mk  hj225
                    refine Q_istore hX dL_images_225 (by decide) ?_
                    have JN271 : ∀ (du : Int), (du = sh1) → QJ E X (x, T, S, c, P, 4200, 25200) K (25 * (80 - (k + 1)) + 19) 271 [(0, .ref x), (1, vI xx), (2, vI (S 0 3)), (3, vI (S 0 4)), (4, vI r), (5, vI (s + gg)), (6, vI cc), (7, vI sh1), (8, vI sh0), (9, vI by9), (10, vI gg), (11, vI (-1000)), (12, vI 14)] [vI du] := by
                      intro du  hj271
                      have m15b := m15
                      refine Q_istore hX dL_images_271 (by decide) ?_
                      refine Q_iload hX dL_images_273 rfl ?_
                      refine Q_aload_n hX dL_images_275 rfl ?_
                      refine Q_bipush hX dL_images_276 rfl ?_
                      refine Q_ask hX hl (u := 1) _ dL_images_278 cwL_whole (a_whole (k := 15) hE (by decide) (by decide) (v := S 15 3) (wv_15 (by decide))) rfl (Nat.le_of_ble_eq_true rfl) ⟨by decide, by decide⟩ ?_
                      refine Q_iload hX dL_images_281 rfl ?_
                      refine Q_imul hX dL_images_283 ?_
                      refine Q_bipush hX dL_images_284 rfl ?_
                      refine Q_idiv hX dL_images_286 (by omega) ⟨by omega, by omega⟩ ?_
                      rw [Int.tdiv_eq_ediv_of_nonneg (show 0 ≤ S 15 3 * by9 by omega)]
                      refine Q_icmp_ne hX 392 dL_images_287 (by omega) (by omega) (by decide) (fun c287 => ?_) (fun c287 => ?_)
                      · skip
                        exfalso
                        omega
                      · skip
                        have JN394 : QJ E X (x, T, S, c, P, 4200, 25200) K (25 * (80 - (k + 1)) + 10) 394 [(0, .ref x), (1, vI xx), (2, vI (S 0 3)), (3, vI (S 0 4)), (4, vI r), (5, vI (s + gg)), (6, vI cc)] [] := by
                          refine Q_iinc hX dL_images_394 rfl (by decide) ?_
                          refine Q_goto hX 25 dL_images_397 (by decide) ?_
                          exact Q_to (ih25 (k + 1) (by omega) (by omega) _ _ ⟨by omega, by rw [show sm (fun c => ghs S c r) (k + 1) = sm (fun c => ghs S c r) k + ghs S (k : Int) r from rfl, ← es, ← en, eg], by omega, by omega⟩) rfl (by omega) rfl
                        refine Q_iload hX dL_images_290 rfl ?_
                        refine Q_bipush hX dL_images_292 rfl ?_
                        refine Q_icmp_gt hX 392 dL_images_294 (by omega) (by decide) (by decide) (fun c294 => ?_) (fun c294 => ?_)
                        · skip
                          exfalso
                          omega
                        · refine Q_iload hX dL_images_297 rfl ?_
                          refine Q_bipush hX dL_images_299 rfl ?_
                          refine Q_icmp_ne hX 309 dL_images_301 (by decide) (by decide) (by decide) (fun h => absurd (by decide) h) (fun _ => ?_)
                          refine Q_iload hX dL_images_304 rfl ?_
                          refine Q_goto hX 311 dL_images_306 (by decide) ?_
                          refine Q_iload hX dL_images_311 rfl ?_
                          refine Q_icmp_ne hX 392 dL_images_313 (by omega) (by omega) (by decide) (fun c313 => ?_) (fun c313 => ?_)
                          · skip
                            exfalso
                            omega
                          · refine Q_iload hX dL_images_316 rfl ?_
                            refine Q_sipush hX dL_images_318 rfl ?_
                            refine Q_icmp_eq hX 394 dL_images_321 (by decide) (by decide) (by decide) (fun _ => ?_) (fun h => absurd (by decide) h)
                            exact Q_to (JN394 ) rfl (by omega) rfl
                    refine Q_iload hX dL_images_227 rfl ?_
                    have hmo := hj225.out
                    refine Q_if_eq hX 236 dL_images_229 (by omega) (by decide) (fun c229 => ?_) (fun c229 => ?_)
                    · refine Q_iload hX dL_images_236 rfl ?_
                      have hto := hj179.out
                      refine Q_if_eq hX 246 dL_images_238 (by omega) (by decide) (fun c238 => ?_) (fun c238 => ?_)
                      · refine Q_iload hX dL_images_246 rfl ?_
                        refine Q_sipush hX dL_images_248 rfl ?_
                        refine Q_icmp_ne hX 263 dL_images_251 (by decide) (by decide) (by decide) (fun h => absurd (by decide) h) (fun _ => ?_)
                        refine Q_aload_n hX dL_images_254 rfl ?_
                        refine Q_bipush hX dL_images_255 rfl ?_
                        refine Q_ask hX hl (u := 1) _ dL_images_257 cwL_whole (a_whole (k := 14) hE (by decide) (by decide) (v := S 15 2) (wv_14 (by decide))) rfl (Nat.le_of_ble_eq_true rfl) ⟨by decide, by decide⟩ ?_
                        refine Q_goto hX 271 dL_images_260 (by decide) ?_
                        exact Q_to (JN271 _ (by rw [sfe]; (repeat' split) <;> first | rfl | (exfalso; omega))) rfl (by omega) rfl
                      · refine Q_bipush hX dL_images_241 rfl ?_
                        refine Q_goto hX 271 dL_images_243 (by decide) ?_
                        exact Q_to (JN271 _ (by rw [sfe]; (repeat' split) <;> first | rfl | (exfalso; omega))) rfl (by omega) rfl
                    · refine Q_iconst hX dL_images_232 ?_
                      refine Q_goto hX 271 dL_images_233 (by decide) ?_
                      exact Q_to (JN271 _ (by rw [sfe]; (repeat' split) <;> first | rfl | (exfalso; omega))) rfl (by omega) rfl
                  refine Q_iload hX dL_images_181 rfl ?_
                  refine Q_bipush hX dL_images_183 rfl ?_
                  refine Q_icmp_ne hX 207 dL_images_185 (by decide) (by decide) (by decide) (fun h => absurd (by decide) h) (fun _ => ?_)
                  refine Q_iload hX dL_images_188 rfl ?_
                  refine Q_aload_n hX dL_images_190 rfl ?_
                  refine Q_bipush hX dL_images_191 rfl ?_
                  refine Q_ask hX hl (u := 1) _ dL_images_193 cwL_whole (a_whole (k := 10) hE (by decide) (by decide) (v := WA) ((wv_10 (by decide)).trans hWA)) rfl (Nat.le_of_ble_eq_true rfl) ⟨by decide, by decide⟩ ?_
                  refine Q_icmp_ge hX 203 dL_images_196 (by omega) (by omega) (by decide) (fun c196 => ?_) (fun c196 => ?_)
                  · refine Q_iconst hX dL_images_203 ?_
                    refine Q_goto hX 225 dL_images_204 (by decide) ?_
                    exact Q_to (JN225 _ (Hid.mk (by omega))) rfl (by omega) rfl
                  · refine Q_iconst hX dL_images_199 ?_
                    refine Q_goto hX 225 dL_images_200 (by decide) ?_
                    exact Q_to (JN225 _ (Hid.mk (by omega))) rfl (by omega) rfl
                refine Q_aload_n hX dL_images_130 rfl ?_
                refine Q_iconst hX dL_images_131 ?_
                refine Q_ask hX hl (u := 1) _ dL_images_132 cwL_title (a_title hE (by decide) (by decide) (v := -1000) ht.1) rfl (Nat.le_of_ble_eq_true rfl) ⟨by decide, by decide⟩ ?_
                refine Q_iload hX dL_images_135 rfl ?_
                refine Q_icmp_ne hX 178 dL_images_137 (by decide) (by omega) (by decide) (fun c137 => ?_) (fun c137 => ((by omega : False)).elim)
                refine Q_iconst hX dL_images_178 ?_
                exact Q_to (JN179 _ (Hid.mk (by omega))) rfl (by omega) rfl
              · skip
                obtain ⟨o, ho⟩ : ∃ o : Int, front S 1 cc r = o := ⟨_, rfl⟩
                rw [ho] at hfr sfe
                obtain ⟨hob, hcv⟩ := hfr
                rw [if_pos hob.1] at sfe
                obtain ⟨-, -, go4, go5, go6, go7, go8, -, go9⟩ := hW.2.2.1 o hob.1.1 hob.1.2.1
                have po := posF hW hob.1
                try simp only [hPS, hRW, hSH, hCL, hPC, hWA, hWB, hTR, hTS, hTA, hTB, hCT, hNX, hNB, hOR] at po
                have bo := boxF hW hob
                try simp only [hPS, hRW, hSH, hCL, hPC, hWA, hWB, hTR, hTS, hTA, hTB, hCT, hNX, hNB, hOR] at bo
                obtain ⟨-, bo2, -, -, -, -, -, bo8, bo9⟩ := bo
                have hcv1 : PS 5 o ≤ r ∧ r < PS 5 o + S 8 o := by rw [← hPS]; exact hcv.1.2
                have hcv2 : CL 1 o ≤ cc ∧ cc < CL 1 o + S 7 o := by rw [← hCL]; exact hcv.2
                refine Q_iconst hX dL_images_100 ?_
                refine Q_goto hX 105 dL_images_101 (by decide) ?_
                refine Q_iload hX dL_images_105 rfl ?_
                refine Q_iload hX dL_images_107 rfl ?_
                refine Q_ask hX hl (u := 1) _ dL_images_109 cwL_shown (a_shown hE (by decide) (by omega) (by omega) hfc (v := o) ho) rfl (Nat.le_of_ble_eq_true rfl) ⟨by decide, by decide⟩ ?_
                refine Q_istore hX dL_images_112 (by decide) ?_
                refine Q_iload hX dL_images_114 rfl ?_
                refine Q_iconst hX dL_images_116 ?_
                refine Q_irem hX dL_images_117 (by omega) ⟨by omega, by omega⟩ ?_
                refine Q_if_ne hX 126 dL_images_118 (by omega) (by decide) (fun c118 => ((absurd hp c118 : False)).elim) (fun c118 => ?_)
                refine Q_bipush hX dL_images_121 rfl ?_
                refine Q_goto hX 128 dL_images_123 (by decide) ?_
                refine Q_istore hX dL_images_128 (by decide) ?_
                have JN179 : ∀ (tt : Int), (Hid (tt = 1 ∧ (r = TR ∧ TA ≤ cc ∧ cc < TA + S 0 7) ∨ tt = 0 ∧ ¬ (r = TR ∧ TA ≤ cc ∧ cc < TA + S 0 7))) → QJ E X (x, T, S, c, P, 4200, 25200) K (25 * (80 - (k + 1)) + 22) 179 [(0, .ref x), (1, vI xx), (2, vI (S 0 3)), (3, vI (S 0 4)), (4, vI r), (5, vI (s + gg)), (6, vI cc), (7, vI sh1), (8, vI sh0), (9, vI by9), (10, vI gg), (11, vI o), (12, vI 14)] [vI tt] := by
                  intro tt  hj179
                  refine Q_istore hX dL_images_179 (by decide) ?_
                  have JN225 : ∀ (mk : Int), (Hid (mk = 1 ∧ cc < WA ∨ mk = 0 ∧ ¬ cc < WA)) → QJ E X (x, T, S, c, P, 4200, 25200) K (25 * (80 - (k + 1)) + 21) 225 [(0, .ref x), (1, vI xx), (2, vI (S 0 3)), (3, vI (S 0 4)), (4, vI r), (5, vI (s + gg)), (6, vI cc), (7, vI sh1), (8, vI sh0), (9, vI by9), (10, vI gg), (11, vI o), (12, vI 14), (13, vI tt)] [vI mk] := by
                    intro mk  hj225
                    refine Q_istore hX dL_images_225 (by decide) ?_
                    have JN271 : ∀ (du : Int), (du = sh1) → QJ E X (x, T, S, c, P, 4200, 25200) K (25 * (80 - (k + 1)) + 19) 271 [(0, .ref x), (1, vI xx), (2, vI (S 0 3)), (3, vI (S 0 4)), (4, vI r), (5, vI (s + gg)), (6, vI cc), (7, vI sh1), (8, vI sh0), (9, vI by9), (10, vI gg), (11, vI o), (12, vI 14)] [vI du] := by
                      intro du  hj271
                      have m15b := m15
                      refine Q_istore hX dL_images_271 (by decide) ?_
                      refine Q_iload hX dL_images_273 rfl ?_
                      refine Q_aload_n hX dL_images_275 rfl ?_
                      refine Q_bipush hX dL_images_276 rfl ?_
                      refine Q_ask hX hl (u := 1) _ dL_images_278 cwL_whole (a_whole (k := 15) hE (by decide) (by decide) (v := S 15 3) (wv_15 (by decide))) rfl (Nat.le_of_ble_eq_true rfl) ⟨by decide, by decide⟩ ?_
                      refine Q_iload hX dL_images_281 rfl ?_
                      refine Q_imul hX dL_images_283 ?_
                      refine Q_bipush hX dL_images_284 rfl ?_
                      refine Q_idiv hX dL_images_286 (by omega) ⟨by omega, by omega⟩ ?_
                      rw [Int.tdiv_eq_ediv_of_nonneg (show 0 ≤ S 15 3 * by9 by omega)]
                      refine Q_icmp_ne hX 392 dL_images_287 (by omega) (by omega) (by decide) (fun c287 => ?_) (fun c287 => ?_)
                      · skip
                        exfalso
                        omega
                      · skip
                        have JN394 : QJ E X (x, T, S, c, P, 4200, 25200) K (25 * (80 - (k + 1)) + 10) 394 [(0, .ref x), (1, vI xx), (2, vI (S 0 3)), (3, vI (S 0 4)), (4, vI r), (5, vI (s + gg)), (6, vI cc)] [] := by
                          refine Q_iinc hX dL_images_394 rfl (by decide) ?_
                          refine Q_goto hX 25 dL_images_397 (by decide) ?_
                          exact Q_to (ih25 (k + 1) (by omega) (by omega) _ _ ⟨by omega, by rw [show sm (fun c => ghs S c r) (k + 1) = sm (fun c => ghs S c r) k + ghs S (k : Int) r from rfl, ← es, ← en, eg], by omega, by omega⟩) rfl (by omega) rfl
                        refine Q_iload hX dL_images_290 rfl ?_
                        refine Q_bipush hX dL_images_292 rfl ?_
                        refine Q_icmp_gt hX 392 dL_images_294 (by omega) (by decide) (by decide) (fun c294 => ?_) (fun c294 => ?_)
                        · skip
                          exfalso
                          omega
                        · refine Q_iload hX dL_images_297 rfl ?_
                          refine Q_bipush hX dL_images_299 rfl ?_
                          refine Q_icmp_ne hX 309 dL_images_301 (by decide) (by decide) (by decide) (fun h => absurd (by decide) h) (fun _ => ?_)
                          refine Q_iload hX dL_images_304 rfl ?_
                          refine Q_goto hX 311 dL_images_306 (by decide) ?_
                          refine Q_iload hX dL_images_311 rfl ?_
                          refine Q_icmp_ne hX 392 dL_images_313 (by omega) (by omega) (by decide) (fun c313 => ?_) (fun c313 => ?_)
                          · skip
                            exfalso
                            omega
                          · refine Q_iload hX dL_images_316 rfl ?_
                            refine Q_sipush hX dL_images_318 rfl ?_
                            refine Q_icmp_eq hX 394 dL_images_321 (by omega) (by decide) (by decide) (fun c321 => ((by omega : False)).elim) (fun c321 => ?_)
                            refine Q_iload hX dL_images_324 rfl ?_
                            refine Q_aload_n hX dL_images_326 rfl ?_
                            refine Q_iload hX dL_images_327 rfl ?_
                            refine Q_iload hX dL_images_329 rfl ?_
                            refine Q_ask hX hl (u := 1) _ dL_images_331 cwL_node (a_node (n9 := o) (k := 14) hE (by omega) (by decide) (nodeOK hob.1 (by decide)) (v := CL 1 o) ((nv_14 (by decide) hob.1 hob.2).trans (congrFun (congrFun hCL 1) o))) rfl (Nat.le_of_ble_eq_true rfl) ⟨by decide, by decide⟩ ?_
                            refine Q_icmp_lt hX 392 dL_images_334 (by omega) (by omega) (by decide) (fun c334 => ?_) (fun c334 => ?_)
                            · skip
                              exfalso
                              omega
                            · refine Q_iload hX dL_images_337 rfl ?_
                              refine Q_aload_n hX dL_images_339 rfl ?_
                              refine Q_iload hX dL_images_340 rfl ?_
                              refine Q_iload hX dL_images_342 rfl ?_
                              refine Q_ask hX hl (u := 1) _ dL_images_344 cwL_node (a_node (n9 := o) (k := 14) hE (by omega) (by decide) (nodeOK hob.1 (by decide)) (v := CL 1 o) ((nv_14 (by decide) hob.1 hob.2).trans (congrFun (congrFun hCL 1) o))) rfl (Nat.le_of_ble_eq_true rfl) ⟨by decide, by decide⟩ ?_
                              refine Q_aload_n hX dL_images_347 rfl ?_
                              refine Q_iload hX dL_images_348 rfl ?_
                              refine Q_bipush hX dL_images_350 rfl ?_
                              refine Q_ask hX hl (u := 1) _ dL_images_352 cwL_node (a_node (n9 := o) (k := 9) hE (by omega) (by decide) (nodeOK hob.1 (by decide)) (v := S 7 o) (nv_9 (by decide) hob.1 hob.2)) rfl (Nat.le_of_ble_eq_true rfl) ⟨by decide, by decide⟩ ?_
                              refine Q_iadd hX dL_images_355 ?_
                              refine Q_icmp_ge hX 392 dL_images_356 (by omega) (by omega) (by decide) (fun c356 => ?_) (fun c356 => ?_)
                              · skip
                                exfalso
                                omega
                              · refine Q_iload hX dL_images_359 rfl ?_
                                refine Q_aload_n hX dL_images_361 rfl ?_
                                refine Q_iload hX dL_images_362 rfl ?_
                                refine Q_iconst hX dL_images_364 ?_
                                refine Q_ask hX hl (u := 1) _ dL_images_365 cwL_node (a_node (n9 := o) (k := 5) hE (by omega) (by decide) (nodeOK hob.1 (by decide)) (v := PS 5 o) ((nv_5 (by decide) hob.1).trans (congrFun (congrFun hPS 5) o))) rfl (Nat.le_of_ble_eq_true rfl) ⟨by decide, by decide⟩ ?_
                                refine Q_icmp_lt hX 392 dL_images_368 (by omega) (by omega) (by decide) (fun c368 => ?_) (fun c368 => ?_)
                                · skip
                                  exfalso
                                  omega
                                · refine Q_iload hX dL_images_371 rfl ?_
                                  refine Q_aload_n hX dL_images_373 rfl ?_
                                  refine Q_iload hX dL_images_374 rfl ?_
                                  refine Q_iconst hX dL_images_376 ?_
                                  refine Q_ask hX hl (u := 1) _ dL_images_377 cwL_node (a_node (n9 := o) (k := 5) hE (by omega) (by decide) (nodeOK hob.1 (by decide)) (v := PS 5 o) ((nv_5 (by decide) hob.1).trans (congrFun (congrFun hPS 5) o))) rfl (Nat.le_of_ble_eq_true rfl) ⟨by decide, by decide⟩ ?_
                                  refine Q_aload_n hX dL_images_380 rfl ?_
                                  refine Q_iload hX dL_images_381 rfl ?_
                                  refine Q_bipush hX dL_images_383 rfl ?_
                                  refine Q_ask hX hl (u := 1) _ dL_images_385 cwL_node (a_node (n9 := o) (k := 10) hE (by omega) (by decide) (nodeOK hob.1 (by decide)) (v := S 8 o) (nv_10 (by decide) hob.1 hob.2)) rfl (Nat.le_of_ble_eq_true rfl) ⟨by decide, by decide⟩ ?_
                                  refine Q_iadd hX dL_images_388 ?_
                                  refine Q_icmp_lt hX 394 dL_images_389 (by omega) (by omega) (by decide) (fun c389 => ?_) (fun c389 => ?_)
                                  · skip
                                    exact Q_to (JN394 ) rfl (by omega) rfl
                                  · skip
                                    exfalso
                                    omega
                    refine Q_iload hX dL_images_227 rfl ?_
                    have hmo := hj225.out
                    refine Q_if_eq hX 236 dL_images_229 (by omega) (by decide) (fun c229 => ?_) (fun c229 => ?_)
                    · refine Q_iload hX dL_images_236 rfl ?_
                      have hto := hj179.out
                      refine Q_if_eq hX 246 dL_images_238 (by omega) (by decide) (fun c238 => ?_) (fun c238 => ?_)
                      · refine Q_iload hX dL_images_246 rfl ?_
                        refine Q_sipush hX dL_images_248 rfl ?_
                        refine Q_icmp_ne hX 263 dL_images_251 (by omega) (by decide) (by decide) (fun c251 => ?_) (fun c251 => ((by omega : False)).elim)
                        refine Q_aload_n hX dL_images_263 rfl ?_
                        refine Q_iload hX dL_images_264 rfl ?_
                        refine Q_bipush hX dL_images_266 rfl ?_
                        refine Q_ask hX hl (u := 1) _ dL_images_268 cwL_node (a_node (n9 := o) (k := 11) hE (by omega) (by decide) (nodeOK hob.1 (by decide)) (v := S 9 o) (nv_11 (by decide) hob.1 hob.2)) rfl (Nat.le_of_ble_eq_true rfl) ⟨by decide, by decide⟩ ?_
                        exact Q_to (JN271 _ (by rw [sfe]; (repeat' split) <;> first | rfl | (exfalso; omega))) rfl (by omega) rfl
                      · refine Q_bipush hX dL_images_241 rfl ?_
                        refine Q_goto hX 271 dL_images_243 (by decide) ?_
                        exact Q_to (JN271 _ (by rw [sfe]; (repeat' split) <;> first | rfl | (exfalso; omega))) rfl (by omega) rfl
                    · refine Q_iconst hX dL_images_232 ?_
                      refine Q_goto hX 271 dL_images_233 (by decide) ?_
                      exact Q_to (JN271 _ (by rw [sfe]; (repeat' split) <;> first | rfl | (exfalso; omega))) rfl (by omega) rfl
                  refine Q_iload hX dL_images_181 rfl ?_
                  refine Q_bipush hX dL_images_183 rfl ?_
                  refine Q_icmp_ne hX 207 dL_images_185 (by decide) (by decide) (by decide) (fun h => absurd (by decide) h) (fun _ => ?_)
                  refine Q_iload hX dL_images_188 rfl ?_
                  refine Q_aload_n hX dL_images_190 rfl ?_
                  refine Q_bipush hX dL_images_191 rfl ?_
                  refine Q_ask hX hl (u := 1) _ dL_images_193 cwL_whole (a_whole (k := 10) hE (by decide) (by decide) (v := WA) ((wv_10 (by decide)).trans hWA)) rfl (Nat.le_of_ble_eq_true rfl) ⟨by decide, by decide⟩ ?_
                  refine Q_icmp_ge hX 203 dL_images_196 (by omega) (by omega) (by decide) (fun c196 => ?_) (fun c196 => ?_)
                  · refine Q_iconst hX dL_images_203 ?_
                    refine Q_goto hX 225 dL_images_204 (by decide) ?_
                    exact Q_to (JN225 _ (Hid.mk (by omega))) rfl (by omega) rfl
                  · refine Q_iconst hX dL_images_199 ?_
                    refine Q_goto hX 225 dL_images_200 (by decide) ?_
                    exact Q_to (JN225 _ (Hid.mk (by omega))) rfl (by omega) rfl
                refine Q_aload_n hX dL_images_130 rfl ?_
                refine Q_iconst hX dL_images_131 ?_
                refine Q_ask hX hl (u := 1) _ dL_images_132 cwL_title (a_title hE (by decide) (by decide) (v := -1000) ht.1) rfl (Nat.le_of_ble_eq_true rfl) ⟨by decide, by decide⟩ ?_
                refine Q_iload hX dL_images_135 rfl ?_
                refine Q_icmp_ne hX 178 dL_images_137 (by decide) (by omega) (by decide) (fun c137 => ?_) (fun c137 => ((by omega : False)).elim)
                refine Q_iconst hX dL_images_178 ?_
                exact Q_to (JN179 _ (Hid.mk (by omega))) rfl (by omega) rfl
            · skip
              obtain ⟨-, sfe⟩ := sf
              clear e1
              refine Q_aload_n hX dL_images_92 rfl ?_
              refine Q_iload hX dL_images_93 rfl ?_
              refine Q_iconst hX dL_images_95 ?_
              refine Q_irem hX dL_images_96 (by omega) ⟨by omega, by omega⟩ ?_
              refine Q_if_ne hX 104 dL_images_97 (by omega) (by decide) (fun c97 => ?_) (fun c97 => ((absurd c97 hp : False)).elim)
              rcases front_rng S 0 cc r with hfr | hfr
              · skip
                rw [hfr] at sfe
                rw [if_neg (show ¬ hs S (-1000) from fun z => absurd z.1 (by decide))] at sfe
                refine Q_iconst hX dL_images_104 ?_
                refine Q_iload hX dL_images_105 rfl ?_
                refine Q_iload hX dL_images_107 rfl ?_
                refine Q_ask hX hl (u := 1) _ dL_images_109 cwL_shown (a_shown hE (by decide) (by omega) (by omega) hfc (v := -1000) hfr) rfl (Nat.le_of_ble_eq_true rfl) ⟨by decide, by decide⟩ ?_
                refine Q_istore hX dL_images_112 (by decide) ?_
                refine Q_iload hX dL_images_114 rfl ?_
                refine Q_iconst hX dL_images_116 ?_
                refine Q_irem hX dL_images_117 (by omega) ⟨by omega, by omega⟩ ?_
                refine Q_if_ne hX 126 dL_images_118 (by omega) (by decide) (fun c118 => ?_) (fun c118 => ((absurd c118 hp : False)).elim)
                refine Q_bipush hX dL_images_126 rfl ?_
                refine Q_istore hX dL_images_128 (by decide) ?_
                have JN179 : ∀ (tt : Int), (Hid (tt = 1 ∧ (r = TR ∧ TB ≤ cc ∧ cc < TB + S 0 7) ∨ tt = 0 ∧ ¬ (r = TR ∧ TB ≤ cc ∧ cc < TB + S 0 7))) → QJ E X (x, T, S, c, P, 4200, 25200) K (25 * (80 - (k + 1)) + 22) 179 [(0, .ref x), (1, vI xx), (2, vI (S 0 3)), (3, vI (S 0 4)), (4, vI r), (5, vI (s + gg)), (6, vI cc), (7, vI sh1), (8, vI sh0), (9, vI by9), (10, vI gg), (11, vI (-1000)), (12, vI 15)] [vI tt] := by
                  intro tt  hj179
                  refine Q_istore hX dL_images_179 (by decide) ?_
                  have JN225 : ∀ (mk : Int), (Hid (mk = 1 ∧ S 0 3 - WB ≤ cc ∨ mk = 0 ∧ ¬ S 0 3 - WB ≤ cc)) → QJ E X (x, T, S, c, P, 4200, 25200) K (25 * (80 - (k + 1)) + 21) 225 [(0, .ref x), (1, vI xx), (2, vI (S 0 3)), (3, vI (S 0 4)), (4, vI r), (5, vI (s + gg)), (6, vI cc), (7, vI sh1), (8, vI sh0), (9, vI by9), (10, vI gg), (11, vI (-1000)), (12, vI 15), (13, vI tt)] [vI mk] := by
                    intro mk  hj225
                    refine Q_istore hX dL_images_225 (by decide) ?_
                    have JN271 : ∀ (du : Int), (du = sh0) → QJ E X (x, T, S, c, P, 4200, 25200) K (25 * (80 - (k + 1)) + 19) 271 [(0, .ref x), (1, vI xx), (2, vI (S 0 3)), (3, vI (S 0 4)), (4, vI r), (5, vI (s + gg)), (6, vI cc), (7, vI sh1), (8, vI sh0), (9, vI by9), (10, vI gg), (11, vI (-1000)), (12, vI 15)] [vI du] := by
                      intro du  hj271
                      have m15b := m15
                      refine Q_istore hX dL_images_271 (by decide) ?_
                      refine Q_iload hX dL_images_273 rfl ?_
                      refine Q_aload_n hX dL_images_275 rfl ?_
                      refine Q_bipush hX dL_images_276 rfl ?_
                      refine Q_ask hX hl (u := 1) _ dL_images_278 cwL_whole (a_whole (k := 15) hE (by decide) (by decide) (v := S 15 3) (wv_15 (by decide))) rfl (Nat.le_of_ble_eq_true rfl) ⟨by decide, by decide⟩ ?_
                      refine Q_iload hX dL_images_281 rfl ?_
                      refine Q_imul hX dL_images_283 ?_
                      refine Q_bipush hX dL_images_284 rfl ?_
                      refine Q_idiv hX dL_images_286 (by omega) ⟨by omega, by omega⟩ ?_
                      rw [Int.tdiv_eq_ediv_of_nonneg (show 0 ≤ S 15 3 * by9 by omega)]
                      refine Q_icmp_ne hX 392 dL_images_287 (by omega) (by omega) (by decide) (fun c287 => ?_) (fun c287 => ?_)
                      · skip
                        exfalso
                        omega
                      · skip
                        have JN394 : QJ E X (x, T, S, c, P, 4200, 25200) K (25 * (80 - (k + 1)) + 10) 394 [(0, .ref x), (1, vI xx), (2, vI (S 0 3)), (3, vI (S 0 4)), (4, vI r), (5, vI (s + gg)), (6, vI cc)] [] := by
                          refine Q_iinc hX dL_images_394 rfl (by decide) ?_
                          refine Q_goto hX 25 dL_images_397 (by decide) ?_
                          exact Q_to (ih25 (k + 1) (by omega) (by omega) _ _ ⟨by omega, by rw [show sm (fun c => ghs S c r) (k + 1) = sm (fun c => ghs S c r) k + ghs S (k : Int) r from rfl, ← es, ← en, eg], by omega, by omega⟩) rfl (by omega) rfl
                        refine Q_iload hX dL_images_290 rfl ?_
                        refine Q_bipush hX dL_images_292 rfl ?_
                        refine Q_icmp_gt hX 392 dL_images_294 (by omega) (by decide) (by decide) (fun c294 => ?_) (fun c294 => ?_)
                        · skip
                          exfalso
                          omega
                        · refine Q_iload hX dL_images_297 rfl ?_
                          refine Q_bipush hX dL_images_299 rfl ?_
                          refine Q_icmp_ne hX 309 dL_images_301 (by decide) (by decide) (by decide) (fun _ => ?_) (fun h => absurd h (by decide))
                          refine Q_iload hX dL_images_309 rfl ?_
                          refine Q_iload hX dL_images_311 rfl ?_
                          refine Q_icmp_ne hX 392 dL_images_313 (by omega) (by omega) (by decide) (fun c313 => ?_) (fun c313 => ?_)
                          · skip
                            exfalso
                            omega
                          · refine Q_iload hX dL_images_316 rfl ?_
                            refine Q_sipush hX dL_images_318 rfl ?_
                            refine Q_icmp_eq hX 394 dL_images_321 (by decide) (by decide) (by decide) (fun _ => ?_) (fun h => absurd (by decide) h)
                            exact Q_to (JN394 ) rfl (by omega) rfl
                    refine Q_iload hX dL_images_227 rfl ?_
                    have hmo := hj225.out
                    refine Q_if_eq hX 236 dL_images_229 (by omega) (by decide) (fun c229 => ?_) (fun c229 => ?_)
                    · refine Q_iload hX dL_images_236 rfl ?_
                      have hto := hj179.out
                      refine Q_if_eq hX 246 dL_images_238 (by omega) (by decide) (fun c238 => ?_) (fun c238 => ?_)
                      · refine Q_iload hX dL_images_246 rfl ?_
                        refine Q_sipush hX dL_images_248 rfl ?_
                        refine Q_icmp_ne hX 263 dL_images_251 (by decide) (by decide) (by decide) (fun h => absurd (by decide) h) (fun _ => ?_)
                        refine Q_aload_n hX dL_images_254 rfl ?_
                        refine Q_bipush hX dL_images_255 rfl ?_
                        refine Q_ask hX hl (u := 1) _ dL_images_257 cwL_whole (a_whole (k := 14) hE (by decide) (by decide) (v := S 15 2) (wv_14 (by decide))) rfl (Nat.le_of_ble_eq_true rfl) ⟨by decide, by decide⟩ ?_
                        refine Q_goto hX 271 dL_images_260 (by decide) ?_
                        exact Q_to (JN271 _ (by rw [sfe]; (repeat' split) <;> first | rfl | (exfalso; omega))) rfl (by omega) rfl
                      · refine Q_bipush hX dL_images_241 rfl ?_
                        refine Q_goto hX 271 dL_images_243 (by decide) ?_
                        exact Q_to (JN271 _ (by rw [sfe]; (repeat' split) <;> first | rfl | (exfalso; omega))) rfl (by omega) rfl
                    · refine Q_iconst hX dL_images_232 ?_
                      refine Q_goto hX 271 dL_images_233 (by decide) ?_
                      exact Q_to (JN271 _ (by rw [sfe]; (repeat' split) <;> first | rfl | (exfalso; omega))) rfl (by omega) rfl
                  refine Q_iload hX dL_images_181 rfl ?_
                  refine Q_bipush hX dL_images_183 rfl ?_
                  refine Q_icmp_ne hX 207 dL_images_185 (by decide) (by decide) (by decide) (fun _ => ?_) (fun h => absurd h (by decide))
                  refine Q_iload hX dL_images_207 rfl ?_
                  refine Q_iload_n hX dL_images_209 rfl ?_
                  refine Q_aload_n hX dL_images_210 rfl ?_
                  refine Q_bipush hX dL_images_211 rfl ?_
                  refine Q_ask hX hl (u := 1) _ dL_images_213 cwL_whole (a_whole (k := 11) hE (by decide) (by decide) (v := WB) ((wv_11 (by decide)).trans hWB)) rfl (Nat.le_of_ble_eq_true rfl) ⟨by decide, by decide⟩ ?_
                  refine Q_isub hX dL_images_216 ?_
                  refine Q_icmp_lt hX 224 dL_images_217 (by omega) (by omega) (by decide) (fun c217 => ?_) (fun c217 => ?_)
                  · refine Q_iconst hX dL_images_224 ?_
                    exact Q_to (JN225 _ (Hid.mk (by omega))) rfl (by omega) rfl
                  · refine Q_iconst hX dL_images_220 ?_
                    refine Q_goto hX 225 dL_images_221 (by decide) ?_
                    exact Q_to (JN225 _ (Hid.mk (by omega))) rfl (by omega) rfl
                refine Q_aload_n hX dL_images_130 rfl ?_
                refine Q_iconst hX dL_images_131 ?_
                refine Q_ask hX hl (u := 1) _ dL_images_132 cwL_title (a_title hE (by decide) (by decide) (v := -1000) ht.1) rfl (Nat.le_of_ble_eq_true rfl) ⟨by decide, by decide⟩ ?_
                refine Q_iload hX dL_images_135 rfl ?_
                refine Q_icmp_ne hX 178 dL_images_137 (by decide) (by omega) (by decide) (fun c137 => ?_) (fun c137 => ((by omega : False)).elim)
                refine Q_iconst hX dL_images_178 ?_
                exact Q_to (JN179 _ (Hid.mk (by omega))) rfl (by omega) rfl
              · skip
                obtain ⟨o, ho⟩ : ∃ o : Int, front S 0 cc r = o := ⟨_, rfl⟩
                rw [ho] at hfr sfe
                obtain ⟨hob, hcv⟩ := hfr
                rw [if_pos hob.1] at sfe
                obtain ⟨-, -, go4, go5, go6, go7, go8, -, go9⟩ := hW.2.2.1 o hob.1.1 hob.1.2.1
                have po := posF hW hob.1
                try simp only [hPS, hRW, hSH, hCL, hPC, hWA, hWB, hTR, hTS, hTA, hTB, hCT, hNX, hNB, hOR] at po
                have bo := boxF hW hob
                try simp only [hPS, hRW, hSH, hCL, hPC, hWA, hWB, hTR, hTS, hTA, hTB, hCT, hNX, hNB, hOR] at bo
                obtain ⟨-, bo2, -, -, -, -, -, bo8, bo9⟩ := bo
                have hcv1 : PS 5 o ≤ r ∧ r < PS 5 o + S 8 o := by rw [← hPS]; exact hcv.1.2
                have hcv2 : CL 0 o ≤ cc ∧ cc < CL 0 o + S 7 o := by rw [← hCL]; exact hcv.2
                refine Q_iconst hX dL_images_104 ?_
                refine Q_iload hX dL_images_105 rfl ?_
                refine Q_iload hX dL_images_107 rfl ?_
                refine Q_ask hX hl (u := 1) _ dL_images_109 cwL_shown (a_shown hE (by decide) (by omega) (by omega) hfc (v := o) ho) rfl (Nat.le_of_ble_eq_true rfl) ⟨by decide, by decide⟩ ?_
                refine Q_istore hX dL_images_112 (by decide) ?_
                refine Q_iload hX dL_images_114 rfl ?_
                refine Q_iconst hX dL_images_116 ?_
                refine Q_irem hX dL_images_117 (by omega) ⟨by omega, by omega⟩ ?_
                refine Q_if_ne hX 126 dL_images_118 (by omega) (by decide) (fun c118 => ?_) (fun c118 => ((absurd c118 hp : False)).elim)
                refine Q_bipush hX dL_images_126 rfl ?_
                refine Q_istore hX dL_images_128 (by decide) ?_
                have JN179 : ∀ (tt : Int), (Hid (tt = 1 ∧ (r = TR ∧ TB ≤ cc ∧ cc < TB + S 0 7) ∨ tt = 0 ∧ ¬ (r = TR ∧ TB ≤ cc ∧ cc < TB + S 0 7))) → QJ E X (x, T, S, c, P, 4200, 25200) K (25 * (80 - (k + 1)) + 22) 179 [(0, .ref x), (1, vI xx), (2, vI (S 0 3)), (3, vI (S 0 4)), (4, vI r), (5, vI (s + gg)), (6, vI cc), (7, vI sh1), (8, vI sh0), (9, vI by9), (10, vI gg), (11, vI o), (12, vI 15)] [vI tt] := by
                  intro tt  hj179
                  refine Q_istore hX dL_images_179 (by decide) ?_
                  have JN225 : ∀ (mk : Int), (Hid (mk = 1 ∧ S 0 3 - WB ≤ cc ∨ mk = 0 ∧ ¬ S 0 3 - WB ≤ cc)) → QJ E X (x, T, S, c, P, 4200, 25200) K (25 * (80 - (k + 1)) + 21) 225 [(0, .ref x), (1, vI xx), (2, vI (S 0 3)), (3, vI (S 0 4)), (4, vI r), (5, vI (s + gg)), (6, vI cc), (7, vI sh1), (8, vI sh0), (9, vI by9), (10, vI gg), (11, vI o), (12, vI 15), (13, vI tt)] [vI mk] := by
                    intro mk  hj225
                    refine Q_istore hX dL_images_225 (by decide) ?_
                    have JN271 : ∀ (du : Int), (du = sh0) → QJ E X (x, T, S, c, P, 4200, 25200) K (25 * (80 - (k + 1)) + 19) 271 [(0, .ref x), (1, vI xx), (2, vI (S 0 3)), (3, vI (S 0 4)), (4, vI r), (5, vI (s + gg)), (6, vI cc), (7, vI sh1), (8, vI sh0), (9, vI by9), (10, vI gg), (11, vI o), (12, vI 15)] [vI du] := by
                      intro du  hj271
                      have m15b := m15
                      refine Q_istore hX dL_images_271 (by decide) ?_
                      refine Q_iload hX dL_images_273 rfl ?_
                      refine Q_aload_n hX dL_images_275 rfl ?_
                      refine Q_bipush hX dL_images_276 rfl ?_
                      refine Q_ask hX hl (u := 1) _ dL_images_278 cwL_whole (a_whole (k := 15) hE (by decide) (by decide) (v := S 15 3) (wv_15 (by decide))) rfl (Nat.le_of_ble_eq_true rfl) ⟨by decide, by decide⟩ ?_
                      refine Q_iload hX dL_images_281 rfl ?_
                      refine Q_imul hX dL_images_283 ?_
                      refine Q_bipush hX dL_images_284 rfl ?_
                      refine Q_idiv hX dL_images_286 (by omega) ⟨by omega, by omega⟩ ?_
                      rw [Int.tdiv_eq_ediv_of_nonneg (show 0 ≤ S 15 3 * by9 by omega)]
                      refine Q_icmp_ne hX 392 dL_images_287 (by omega) (by omega) (by decide) (fun c287 => ?_) (fun c287 => ?_)
                      · skip
                        exfalso
                        omega
                      · skip
                        have JN394 : QJ E X (x, T, S, c, P, 4200, 25200) K (25 * (80 - (k + 1)) + 10) 394 [(0, .ref x), (1, vI xx), (2, vI (S 0 3)), (3, vI (S 0 4)), (4, vI r), (5, vI (s + gg)), (6, vI cc)] [] := by
                          refine Q_iinc hX dL_images_394 rfl (by decide) ?_
                          refine Q_goto hX 25 dL_images_397 (by decide) ?_
                          exact Q_to (ih25 (k + 1) (by omega) (by omega) _ _ ⟨by omega, by rw [show sm (fun c => ghs S c r) (k + 1) = sm (fun c => ghs S c r) k + ghs S (k : Int) r from rfl, ← es, ← en, eg], by omega, by omega⟩) rfl (by omega) rfl
                        refine Q_iload hX dL_images_290 rfl ?_
                        refine Q_bipush hX dL_images_292 rfl ?_
                        refine Q_icmp_gt hX 392 dL_images_294 (by omega) (by decide) (by decide) (fun c294 => ?_) (fun c294 => ?_)
                        · skip
                          exfalso
                          omega
                        · refine Q_iload hX dL_images_297 rfl ?_
                          refine Q_bipush hX dL_images_299 rfl ?_
                          refine Q_icmp_ne hX 309 dL_images_301 (by decide) (by decide) (by decide) (fun _ => ?_) (fun h => absurd h (by decide))
                          refine Q_iload hX dL_images_309 rfl ?_
                          refine Q_iload hX dL_images_311 rfl ?_
                          refine Q_icmp_ne hX 392 dL_images_313 (by omega) (by omega) (by decide) (fun c313 => ?_) (fun c313 => ?_)
                          · skip
                            exfalso
                            omega
                          · refine Q_iload hX dL_images_316 rfl ?_
                            refine Q_sipush hX dL_images_318 rfl ?_
                            refine Q_icmp_eq hX 394 dL_images_321 (by omega) (by decide) (by decide) (fun c321 => ((by omega : False)).elim) (fun c321 => ?_)
                            refine Q_iload hX dL_images_324 rfl ?_
                            refine Q_aload_n hX dL_images_326 rfl ?_
                            refine Q_iload hX dL_images_327 rfl ?_
                            refine Q_iload hX dL_images_329 rfl ?_
                            refine Q_ask hX hl (u := 1) _ dL_images_331 cwL_node (a_node (n9 := o) (k := 15) hE (by omega) (by decide) (nodeOK hob.1 (by decide)) (v := CL 0 o) ((nv_15 (by decide) hob.1 hob.2).trans (congrFun (congrFun hCL 0) o))) rfl (Nat.le_of_ble_eq_true rfl) ⟨by decide, by decide⟩ ?_
                            refine Q_icmp_lt hX 392 dL_images_334 (by omega) (by omega) (by decide) (fun c334 => ?_) (fun c334 => ?_)
                            · skip
                              exfalso
                              omega
                            · refine Q_iload hX dL_images_337 rfl ?_
                              refine Q_aload_n hX dL_images_339 rfl ?_
                              refine Q_iload hX dL_images_340 rfl ?_
                              refine Q_iload hX dL_images_342 rfl ?_
                              refine Q_ask hX hl (u := 1) _ dL_images_344 cwL_node (a_node (n9 := o) (k := 15) hE (by omega) (by decide) (nodeOK hob.1 (by decide)) (v := CL 0 o) ((nv_15 (by decide) hob.1 hob.2).trans (congrFun (congrFun hCL 0) o))) rfl (Nat.le_of_ble_eq_true rfl) ⟨by decide, by decide⟩ ?_
                              refine Q_aload_n hX dL_images_347 rfl ?_
                              refine Q_iload hX dL_images_348 rfl ?_
                              refine Q_bipush hX dL_images_350 rfl ?_
                              refine Q_ask hX hl (u := 1) _ dL_images_352 cwL_node (a_node (n9 := o) (k := 9) hE (by omega) (by decide) (nodeOK hob.1 (by decide)) (v := S 7 o) (nv_9 (by decide) hob.1 hob.2)) rfl (Nat.le_of_ble_eq_true rfl) ⟨by decide, by decide⟩ ?_
                              refine Q_iadd hX dL_images_355 ?_
                              refine Q_icmp_ge hX 392 dL_images_356 (by omega) (by omega) (by decide) (fun c356 => ?_) (fun c356 => ?_)
                              · skip
                                exfalso
                                omega
                              · refine Q_iload hX dL_images_359 rfl ?_
                                refine Q_aload_n hX dL_images_361 rfl ?_
                                refine Q_iload hX dL_images_362 rfl ?_
                                refine Q_iconst hX dL_images_364 ?_
                                refine Q_ask hX hl (u := 1) _ dL_images_365 cwL_node (a_node (n9 := o) (k := 5) hE (by omega) (by decide) (nodeOK hob.1 (by decide)) (v := PS 5 o) ((nv_5 (by decide) hob.1).trans (congrFun (congrFun hPS 5) o))) rfl (Nat.le_of_ble_eq_true rfl) ⟨by decide, by decide⟩ ?_
                                refine Q_icmp_lt hX 392 dL_images_368 (by omega) (by omega) (by decide) (fun c368 => ?_) (fun c368 => ?_)
                                · skip
                                  exfalso
                                  omega
                                · refine Q_iload hX dL_images_371 rfl ?_
                                  refine Q_aload_n hX dL_images_373 rfl ?_
                                  refine Q_iload hX dL_images_374 rfl ?_
                                  refine Q_iconst hX dL_images_376 ?_
                                  refine Q_ask hX hl (u := 1) _ dL_images_377 cwL_node (a_node (n9 := o) (k := 5) hE (by omega) (by decide) (nodeOK hob.1 (by decide)) (v := PS 5 o) ((nv_5 (by decide) hob.1).trans (congrFun (congrFun hPS 5) o))) rfl (Nat.le_of_ble_eq_true rfl) ⟨by decide, by decide⟩ ?_
                                  refine Q_aload_n hX dL_images_380 rfl ?_
                                  refine Q_iload hX dL_images_381 rfl ?_
                                  refine Q_bipush hX dL_images_383 rfl ?_
                                  refine Q_ask hX hl (u := 1) _ dL_images_385 cwL_node (a_node (n9 := o) (k := 10) hE (by omega) (by decide) (nodeOK hob.1 (by decide)) (v := S 8 o) (nv_10 (by decide) hob.1 hob.2)) rfl (Nat.le_of_ble_eq_true rfl) ⟨by decide, by decide⟩ ?_
                                  refine Q_iadd hX dL_images_388 ?_
                                  refine Q_icmp_lt hX 394 dL_images_389 (by omega) (by omega) (by decide) (fun c389 => ?_) (fun c389 => ?_)
                                  · skip
                                    exact Q_to (JN394 ) rfl (by omega) rfl
                                  · skip
                                    exfalso
                                    omega
                    refine Q_iload hX dL_images_227 rfl ?_
                    have hmo := hj225.out
                    refine Q_if_eq hX 236 dL_images_229 (by omega) (by decide) (fun c229 => ?_) (fun c229 => ?_)
                    · refine Q_iload hX dL_images_236 rfl ?_
                      have hto := hj179.out
                      refine Q_if_eq hX 246 dL_images_238 (by omega) (by decide) (fun c238 => ?_) (fun c238 => ?_)
                      · refine Q_iload hX dL_images_246 rfl ?_
                        refine Q_sipush hX dL_images_248 rfl ?_
                        refine Q_icmp_ne hX 263 dL_images_251 (by omega) (by decide) (by decide) (fun c251 => ?_) (fun c251 => ((by omega : False)).elim)
                        refine Q_aload_n hX dL_images_263 rfl ?_
                        refine Q_iload hX dL_images_264 rfl ?_
                        refine Q_bipush hX dL_images_266 rfl ?_
                        refine Q_ask hX hl (u := 1) _ dL_images_268 cwL_node (a_node (n9 := o) (k := 11) hE (by omega) (by decide) (nodeOK hob.1 (by decide)) (v := S 9 o) (nv_11 (by decide) hob.1 hob.2)) rfl (Nat.le_of_ble_eq_true rfl) ⟨by decide, by decide⟩ ?_
                        exact Q_to (JN271 _ (by rw [sfe]; (repeat' split) <;> first | rfl | (exfalso; omega))) rfl (by omega) rfl
                      · refine Q_bipush hX dL_images_241 rfl ?_
                        refine Q_goto hX 271 dL_images_243 (by decide) ?_
                        exact Q_to (JN271 _ (by rw [sfe]; (repeat' split) <;> first | rfl | (exfalso; omega))) rfl (by omega) rfl
                    · refine Q_iconst hX dL_images_232 ?_
                      refine Q_goto hX 271 dL_images_233 (by decide) ?_
                      exact Q_to (JN271 _ (by rw [sfe]; (repeat' split) <;> first | rfl | (exfalso; omega))) rfl (by omega) rfl
                  refine Q_iload hX dL_images_181 rfl ?_
                  refine Q_bipush hX dL_images_183 rfl ?_
                  refine Q_icmp_ne hX 207 dL_images_185 (by decide) (by decide) (by decide) (fun _ => ?_) (fun h => absurd h (by decide))
                  refine Q_iload hX dL_images_207 rfl ?_
                  refine Q_iload_n hX dL_images_209 rfl ?_
                  refine Q_aload_n hX dL_images_210 rfl ?_
                  refine Q_bipush hX dL_images_211 rfl ?_
                  refine Q_ask hX hl (u := 1) _ dL_images_213 cwL_whole (a_whole (k := 11) hE (by decide) (by decide) (v := WB) ((wv_11 (by decide)).trans hWB)) rfl (Nat.le_of_ble_eq_true rfl) ⟨by decide, by decide⟩ ?_
                  refine Q_isub hX dL_images_216 ?_
                  refine Q_icmp_lt hX 224 dL_images_217 (by omega) (by omega) (by decide) (fun c217 => ?_) (fun c217 => ?_)
                  · refine Q_iconst hX dL_images_224 ?_
                    exact Q_to (JN225 _ (Hid.mk (by omega))) rfl (by omega) rfl
                  · refine Q_iconst hX dL_images_220 ?_
                    refine Q_goto hX 225 dL_images_221 (by decide) ?_
                    exact Q_to (JN225 _ (Hid.mk (by omega))) rfl (by omega) rfl
                refine Q_aload_n hX dL_images_130 rfl ?_
                refine Q_iconst hX dL_images_131 ?_
                refine Q_ask hX hl (u := 1) _ dL_images_132 cwL_title (a_title hE (by decide) (by decide) (v := -1000) ht.1) rfl (Nat.le_of_ble_eq_true rfl) ⟨by decide, by decide⟩ ?_
                refine Q_iload hX dL_images_135 rfl ?_
                refine Q_icmp_ne hX 178 dL_images_137 (by decide) (by omega) (by decide) (fun c137 => ?_) (fun c137 => ((by omega : False)).elim)
                refine Q_iconst hX dL_images_178 ?_
                exact Q_to (JN179 _ (Hid.mk (by omega))) rfl (by omega) rfl
          refine Q_iload hX dL_images_53 rfl ?_
          refine Q_iload hX dL_images_55 rfl ?_
          refine Q_icmp_le hX 68 dL_images_57 (by omega) (by omega) (by decide) (fun c57 => ?_) (fun c57 => ?_)
          · refine Q_iload hX dL_images_68 rfl ?_
            refine Q_iload hX dL_images_70 rfl ?_
            refine Q_isub hX dL_images_72 ?_
            exact Q_to (JN73 _ ⟨by rw [ge]; congr 2; split <;> omega, by omega, by omega⟩) rfl (by omega) rfl
          · refine Q_iload hX dL_images_60 rfl ?_
            refine Q_iload hX dL_images_62 rfl ?_
            refine Q_isub hX dL_images_64 ?_
            refine Q_goto hX 73 dL_images_65 (by decide) ?_
            exact Q_to (JN73 _ ⟨by rw [ge]; congr 2; split <;> omega, by omega, by omega⟩) rfl (by omega) rfl
      exact Q_to (HL25 0 (Nat.zero_le _) 0 0 ⟨rfl, rfl, by decide, by decide⟩) rfl (by omega) rfl
    · skip
      obtain ⟨hn7, ht1, ht2, ht4, ht5, ht6, ht7, ht8⟩ := ht
      replace hn7 := Hid.mk hn7
      refine Q_iconst hX dL_images_19 ?_
      refine Q_istore hX dL_images_20 (by decide) ?_
      refine Q_iconst hX dL_images_22 ?_
      refine Q_istore hX dL_images_23 (by decide) ?_
      have HL25 : ∀ k : Nat, k ≤ (S 0 3).toNat → ∀ (s cc : Int), (cc = k ∧ s = sm (fun c => ghs S c r) k ∧ 0 ≤ s ∧ s ≤ 15 * (k : Int)) → QJ E X (x, T, S, c, P, 4200, 25200) K (25 * (80 - k) + 10) 25 [(0, .ref x), (1, vI xx), (2, vI (S 0 3)), (3, vI (S 0 4)), (4, vI r), (5, vI s), (6, vI cc)] [] := by
        refine up_ind ((S 0 3).toNat) (fun k hk25 ih25 => ?_)
        intro s cc  hi25
        obtain ⟨en, es, hs9⟩ := hi25
        refine Q_iload hX dL_images_25 rfl ?_
        refine Q_iload_n hX dL_images_27 rfl ?_
        refine Q_icmp_ge hX 400 dL_images_28 (by omega) (by omega) (by decide) (fun c28 => ?_) (fun c28 => ?_)
        · have g1 := gall_rng hW 1
          have m3 := gall_mono (S := S) (a := 1) (b := 3) (by decide)
          have m4 := gall_mono (S := S) (a := 3) (b := 15) (by decide)
          have g15 := gall_rng hW 15
          obtain ⟨ga1, ea1⟩ : ∃ v : Int, gall S 1 = v := ⟨_, rfl⟩
          obtain ⟨ga3, ea3⟩ : ∃ v : Int, gall S 3 = v := ⟨_, rfl⟩
          obtain ⟨ga15, ea15⟩ : ∃ v : Int, gall S 15 = v := ⟨_, rfl⟩
          rw [ea1] at g1 m3
          rw [ea3] at m3 m4
          rw [ea15] at m4 g15
          have ek : k = (S 0 3).toNat := by omega
          have esg : s = gsum S r := by rw [es, ek]; rfl
          have hww : 0 ≤ S 0 3 * S 0 4 ∧ S 0 3 * S 0 4 ≤ 24000 := by have h1 := Int.mul_nonneg (a := S 0 3) (b := S 0 4) (by omega) (by omega); have h2 : S 0 3 * S 0 4 ≤ 200 * 120 := Int.mul_le_mul (by omega) (by omega) (by omega) (by decide); omega
          refine Q_le (q2 := 10) (by omega) ?_
          refine Q_aload_n hX dL_images_400 rfl ?_
          refine Q_iconst hX dL_images_401 ?_
          refine Q_ask hX hl (u := 1) _ dL_images_402 cwL_ghosts (a_ghosts hE (by decide) (by decide) (v := ga3) ea3) rfl (Nat.le_of_ble_eq_true rfl) ⟨by decide, by decide⟩ ?_
          refine Q_istore hX dL_images_405 (by decide) ?_
          refine Q_aload_n hX dL_images_407 rfl ?_
          refine Q_iload hX dL_images_408 rfl ?_
          refine Q_ask hX hl (u := 1) _ dL_images_410 cwL_meanGhost (a_meanGhost hE (by omega) (if_pos ⟨by omega, by omega⟩)) rfl (Nat.le_of_ble_eq_true rfl) ⟨by decide, by decide⟩ ?_
          refine Q_iload hX dL_images_413 rfl ?_
          refine Q_i2d hX dL_images_415 ?_
          refine Q_iload_n hX dL_images_416 rfl ?_
          refine Q_i2d hX dL_images_417 ?_
          refine Q_ddiv hX dL_images_418 (show vf_n64 (dd s (S 0 3)) from dd_n ⟨by omega, by omega⟩ ⟨by omega, by omega⟩) ?_
          refine Q_dcmps hX dL_images_419 ?_
          rw [esg, show FP.ddiv (FP.i2d (Int32.ofInt (gsum S r))) (FP.i2d (Int32.ofInt (S 0 3))) = dd (gsum S r) (S 0 3) from rfl, dc_self (dd_n ⟨by omega, by omega⟩ ⟨by omega, by omega⟩)]
          refine Q_if_ne hX 471 dL_images_420 (by decide) (by decide) (fun h => absurd (by decide) h) (fun _ => ?_)
          refine Q_iload hX dL_images_423 rfl ?_
          refine Q_aload_n hX dL_images_425 rfl ?_
          refine Q_iconst hX dL_images_426 ?_
          refine Q_ask hX hl (u := 1) _ dL_images_427 cwL_ghosts (a_ghosts hE (by decide) (by decide) (v := ga1) ea1) rfl (Nat.le_of_ble_eq_true rfl) ⟨by decide, by decide⟩ ?_
          refine Q_icmp_gt hX 471 dL_images_430 (by omega) (by omega) (by decide) (fun c430 => ?_) (fun c430 => ?_)
          · skip
            exfalso
            omega
          · refine Q_aload_n hX dL_images_433 rfl ?_
            refine Q_bipush hX dL_images_434 rfl ?_
            refine Q_ask hX hl (u := 1) _ dL_images_436 cwL_ghosts (a_ghosts hE (by decide) (by decide) (v := ga15) ea15) rfl (Nat.le_of_ble_eq_true rfl) ⟨by decide, by decide⟩ ?_
            refine Q_iload hX dL_images_439 rfl ?_
            refine Q_icmp_gt hX 471 dL_images_441 (by omega) (by omega) (by decide) (fun c441 => ?_) (fun c441 => ?_)
            · skip
              exfalso
              omega
            · refine Q_aload_n hX dL_images_444 rfl ?_
              refine Q_iconst hX dL_images_445 ?_
              refine Q_ask hX hl (u := 1) _ dL_images_446 cwL_ghosts (a_ghosts hE (by decide) (by decide) (v := ga1) ea1) rfl (Nat.le_of_ble_eq_true rfl) ⟨by decide, by decide⟩ ?_
              refine Q_iload_n hX dL_images_449 rfl ?_
              refine Q_iload_n hX dL_images_450 rfl ?_
              refine Q_imul hX dL_images_451 ?_
              refine Q_icmp_gt hX 471 dL_images_452 (by omega) (by omega) (by decide) (fun c452 => ?_) (fun c452 => ?_)
              · skip
                exfalso
                omega
              · refine Q_aload_n hX dL_images_455 rfl ?_
                refine Q_iload_n hX dL_images_456 rfl ?_
                refine Q_ask hX hl (u := 1) _ dL_images_457 cwL_meanGhost (no_meanGhost hE (by omega) (by unfold fCeS; rw [if_neg (by omega)]; decide)) rfl (Nat.le_of_ble_eq_true rfl) ⟨by decide, by decide⟩ ?_
                refine Q_ldcD hX kD_87 dL_images_460 ?_
                refine Q_dcmps hX dL_images_463 ?_
                rw [dc_self dNo_n]
                refine Q_if_ne hX 471 dL_images_464 (by decide) (by decide) (fun h => absurd (by decide) h) (fun _ => ?_)
                refine Q_iconst hX dL_images_467 ?_
                refine Q_goto hX 472 dL_images_468 (by decide) ?_
                exact fin _ _ _ dL_images_472
        · have hcc : 0 ≤ cc ∧ cc < S 0 3 := by omega
          have hfc : fCeS S cc r = 0 := if_pos ⟨by omega, by omega⟩
          have sf := shdF hW cc r hcc
          try simp only [hPS, hRW, hSH, hCL, hPC, hWA, hWB, hTR, hTS, hTA, hTB, hCT, hNX, hNB, hOR] at sf
          have tm : 0 ≤ cc.tmod 2 ∧ cc.tmod 2 < 2 := ⟨Int.tmod_nonneg _ (by omega), Int.tmod_lt_of_pos _ (by decide)⟩
          have s1 := shd_rng hW 1 cc r
          have s0 := shd_rng hW 0 cc r
          have gr := ghs_rng hW cc r
          have ge := ghs_eq (S := S) (c := cc) (r := r)
          obtain ⟨sh1, e1⟩ : ∃ v : Int, shd S 1 cc r = v := ⟨_, rfl⟩
          obtain ⟨sh0, e0⟩ : ∃ v : Int, shd S 0 cc r = v := ⟨_, rfl⟩
          obtain ⟨gg, eg⟩ : ∃ v : Int, ghs S cc r = v := ⟨_, rfl⟩
          rw [e1] at s1
          rw [e0] at s0
          rw [eg] at gr
          rw [eg, e1, e0] at ge
          rw [e1, e0] at sf
          refine Q_le (q2 := 25 * (80 - (k + 1)) + 33) (by omega) ?_
          refine Q_aload_n hX dL_images_31 rfl ?_
          refine Q_iconst hX dL_images_32 ?_
          refine Q_iload hX dL_images_33 rfl ?_
          refine Q_iload hX dL_images_35 rfl ?_
          refine Q_ask hX hl (u := 1) _ dL_images_37 cwL_shade (a_shade hE (by decide) (by omega) (by omega) hfc (v := sh1) e1) rfl (Nat.le_of_ble_eq_true rfl) ⟨by decide, by decide⟩ ?_
          refine Q_istore hX dL_images_40 (by decide) ?_
          refine Q_aload_n hX dL_images_42 rfl ?_
          refine Q_iconst hX dL_images_43 ?_
          refine Q_iload hX dL_images_44 rfl ?_
          refine Q_iload hX dL_images_46 rfl ?_
          refine Q_ask hX hl (u := 1) _ dL_images_48 cwL_shade (a_shade hE (by decide) (by omega) (by omega) hfc (v := sh0) e0) rfl (Nat.le_of_ble_eq_true rfl) ⟨by decide, by decide⟩ ?_
          refine Q_istore hX dL_images_51 (by decide) ?_
          have JN73 : ∀ (by9 : Int), (gg = S 15 3 * by9 / 100 ∧ 0 ≤ by9 ∧ by9 ≤ 15) → QJ E X (x, T, S, c, P, 4200, 25200) K (25 * (80 - (k + 1)) + 31) 73 [(0, .ref x), (1, vI xx), (2, vI (S 0 3)), (3, vI (S 0 4)), (4, vI r), (5, vI s), (6, vI cc), (7, vI sh1), (8, vI sh0)] [vI by9] := by
            intro by9  hj73
            have m15 := mul_15 (x := S 15 3) (y := by9) (by omega) hj73.2
            refine Q_istore hX dL_images_73 (by decide) ?_
            refine Q_aload_n hX dL_images_75 rfl ?_
            refine Q_iload hX dL_images_76 rfl ?_
            refine Q_iload hX dL_images_78 rfl ?_
            refine Q_ask hX hl (u := 1) _ dL_images_80 cwL_ghost (a_ghost hE (by omega) (by omega) hfc (v := gg) eg) rfl (Nat.le_of_ble_eq_true rfl) ⟨by decide, by decide⟩ ?_
            refine Q_istore hX dL_images_83 (by decide) ?_
            refine Q_iload hX dL_images_85 rfl ?_
            refine Q_iload hX dL_images_87 rfl ?_
            refine Q_iadd hX dL_images_89 ?_
            refine Q_istore hX dL_images_90 (by decide) ?_
            by_cases hp : cc.tmod 2 = 0
            · skip
              obtain ⟨sfe, -⟩ := sf
              clear e0
              refine Q_aload_n hX dL_images_92 rfl ?_
              refine Q_iload hX dL_images_93 rfl ?_
              refine Q_iconst hX dL_images_95 ?_
              refine Q_irem hX dL_images_96 (by omega) ⟨by omega, by omega⟩ ?_
              refine Q_if_ne hX 104 dL_images_97 (by omega) (by decide) (fun c97 => ((absurd hp c97 : False)).elim) (fun c97 => ?_)
              rcases front_rng S 1 cc r with hfr | hfr
              · skip
                rw [hfr] at sfe
                rw [if_neg (show ¬ hs S (-1000) from fun z => absurd z.1 (by decide))] at sfe
                refine Q_iconst hX dL_images_100 ?_
                refine Q_goto hX 105 dL_images_101 (by decide) ?_
                refine Q_iload hX dL_images_105 rfl ?_
                refine Q_iload hX dL_images_107 rfl ?_
                refine Q_ask hX hl (u := 1) _ dL_images_109 cwL_shown (a_shown hE (by decide) (by omega) (by omega) hfc (v := -1000) hfr) rfl (Nat.le_of_ble_eq_true rfl) ⟨by decide, by decide⟩ ?_
                refine Q_istore hX dL_images_112 (by decide) ?_
                refine Q_iload hX dL_images_114 rfl ?_
                refine Q_iconst hX dL_images_116 ?_
                refine Q_irem hX dL_images_117 (by omega) ⟨by omega, by omega⟩ ?_
                refine Q_if_ne hX 126 dL_images_118 (by omega) (by decide) (fun c118 => ((absurd hp c118 : False)).elim) (fun c118 => ?_)
                refine Q_bipush hX dL_images_121 rfl ?_
                refine Q_goto hX 128 dL_images_123 (by decide) ?_
                refine Q_istore hX dL_images_128 (by decide) ?_
                have JN179 : ∀ (tt : Int), (Hid (tt = 1 ∧ (r = TR ∧ TA ≤ cc ∧ cc < TA + S 0 7) ∨ tt = 0 ∧ ¬ (r = TR ∧ TA ≤ cc ∧ cc < TA + S 0 7))) → QJ E X (x, T, S, c, P, 4200, 25200) K (25 * (80 - (k + 1)) + 22) 179 [(0, .ref x), (1, vI xx), (2, vI (S 0 3)), (3, vI (S 0 4)), (4, vI r), (5, vI (s + gg)), (6, vI cc), (7, vI sh1), (8, vI sh0), (9, vI by9), (10, vI gg), (11, vI (-1000)), (12, vI 14)] [vI tt] := by
                  intro tt  hj179
                  refine Q_istore hX dL_images_179 (by decide) ?_
                  have JN225 : ∀ (mk : Int), (Hid (mk = 1 ∧ cc < WA ∨ mk = 0 ∧ ¬ cc < WA)) → QJ E X (x, T, S, c, P, 4200, 25200) K (25 * (80 - (k + 1)) + 21) 225 [(0, .ref x), (1, vI xx), (2, vI (S 0 3)), (3, vI (S 0 4)), (4, vI r), (5, vI (s + gg)), (6, vI cc), (7, vI sh1), (8, vI sh0), (9, vI by9), (10, vI gg), (11, vI (-1000)), (12, vI 14), (13, vI tt)] [vI mk] := by
                    intro mk  hj225
                    refine Q_istore hX dL_images_225 (by decide) ?_
                    have JN271 : ∀ (du : Int), (du = sh1) → QJ E X (x, T, S, c, P, 4200, 25200) K (25 * (80 - (k + 1)) + 19) 271 [(0, .ref x), (1, vI xx), (2, vI (S 0 3)), (3, vI (S 0 4)), (4, vI r), (5, vI (s + gg)), (6, vI cc), (7, vI sh1), (8, vI sh0), (9, vI by9), (10, vI gg), (11, vI (-1000)), (12, vI 14)] [vI du] := by
                      intro du  hj271
                      have m15b := m15
                      refine Q_istore hX dL_images_271 (by decide) ?_
                      refine Q_iload hX dL_images_273 rfl ?_
                      refine Q_aload_n hX dL_images_275 rfl ?_
                      refine Q_bipush hX dL_images_276 rfl ?_
                      refine Q_ask hX hl (u := 1) _ dL_images_278 cwL_whole (a_whole (k := 15) hE (by decide) (by decide) (v := S 15 3) (wv_15 (by decide))) rfl (Nat.le_of_ble_eq_true rfl) ⟨by decide, by decide⟩ ?_
                      refine Q_iload hX dL_images_281 rfl ?_
                      refine Q_imul hX dL_images_283 ?_
                      refine Q_bipush hX dL_images_284 rfl ?_
                      refine Q_idiv hX dL_images_286 (by omega) ⟨by omega, by omega⟩ ?_
                      rw [Int.tdiv_eq_ediv_of_nonneg (show 0 ≤ S 15 3 * by9 by omega)]
                      refine Q_icmp_ne hX 392 dL_images_287 (by omega) (by omega) (by decide) (fun c287 => ?_) (fun c287 => ?_)
                      · skip
                        exfalso
                        omega
                      · skip
                        have JN394 : QJ E X (x, T, S, c, P, 4200, 25200) K (25 * (80 - (k + 1)) + 10) 394 [(0, .ref x), (1, vI xx), (2, vI (S 0 3)), (3, vI (S 0 4)), (4, vI r), (5, vI (s + gg)), (6, vI cc)] [] := by
                          refine Q_iinc hX dL_images_394 rfl (by decide) ?_
                          refine Q_goto hX 25 dL_images_397 (by decide) ?_
                          exact Q_to (ih25 (k + 1) (by omega) (by omega) _ _ ⟨by omega, by rw [show sm (fun c => ghs S c r) (k + 1) = sm (fun c => ghs S c r) k + ghs S (k : Int) r from rfl, ← es, ← en, eg], by omega, by omega⟩) rfl (by omega) rfl
                        refine Q_iload hX dL_images_290 rfl ?_
                        refine Q_bipush hX dL_images_292 rfl ?_
                        refine Q_icmp_gt hX 392 dL_images_294 (by omega) (by decide) (by decide) (fun c294 => ?_) (fun c294 => ?_)
                        · skip
                          exfalso
                          omega
                        · refine Q_iload hX dL_images_297 rfl ?_
                          refine Q_bipush hX dL_images_299 rfl ?_
                          refine Q_icmp_ne hX 309 dL_images_301 (by decide) (by decide) (by decide) (fun h => absurd (by decide) h) (fun _ => ?_)
                          refine Q_iload hX dL_images_304 rfl ?_
                          refine Q_goto hX 311 dL_images_306 (by decide) ?_
                          refine Q_iload hX dL_images_311 rfl ?_
                          refine Q_icmp_ne hX 392 dL_images_313 (by omega) (by omega) (by decide) (fun c313 => ?_) (fun c313 => ?_)
                          · skip
                            exfalso
                            omega
                          · refine Q_iload hX dL_images_316 rfl ?_
                            refine Q_sipush hX dL_images_318 rfl ?_
                            refine Q_icmp_eq hX 394 dL_images_321 (by decide) (by decide) (by decide) (fun _ => ?_) (fun h => absurd (by decide) h)
                            exact Q_to (JN394 ) rfl (by omega) rfl
                    refine Q_iload hX dL_images_227 rfl ?_
                    have hmo := hj225.out
                    refine Q_if_eq hX 236 dL_images_229 (by omega) (by decide) (fun c229 => ?_) (fun c229 => ?_)
                    · refine Q_iload hX dL_images_236 rfl ?_
                      have hto := hj179.out
                      refine Q_if_eq hX 246 dL_images_238 (by omega) (by decide) (fun c238 => ?_) (fun c238 => ?_)
                      · refine Q_iload hX dL_images_246 rfl ?_
                        refine Q_sipush hX dL_images_248 rfl ?_
                        refine Q_icmp_ne hX 263 dL_images_251 (by decide) (by decide) (by decide) (fun h => absurd (by decide) h) (fun _ => ?_)
                        refine Q_aload_n hX dL_images_254 rfl ?_
                        refine Q_bipush hX dL_images_255 rfl ?_
                        refine Q_ask hX hl (u := 1) _ dL_images_257 cwL_whole (a_whole (k := 14) hE (by decide) (by decide) (v := S 15 2) (wv_14 (by decide))) rfl (Nat.le_of_ble_eq_true rfl) ⟨by decide, by decide⟩ ?_
                        refine Q_goto hX 271 dL_images_260 (by decide) ?_
                        exact Q_to (JN271 _ (by rw [sfe]; (repeat' split) <;> first | rfl | (exfalso; omega))) rfl (by omega) rfl
                      · refine Q_bipush hX dL_images_241 rfl ?_
                        refine Q_goto hX 271 dL_images_243 (by decide) ?_
                        exact Q_to (JN271 _ (by rw [sfe]; (repeat' split) <;> first | rfl | (exfalso; omega))) rfl (by omega) rfl
                    · refine Q_iconst hX dL_images_232 ?_
                      refine Q_goto hX 271 dL_images_233 (by decide) ?_
                      exact Q_to (JN271 _ (by rw [sfe]; (repeat' split) <;> first | rfl | (exfalso; omega))) rfl (by omega) rfl
                  refine Q_iload hX dL_images_181 rfl ?_
                  refine Q_bipush hX dL_images_183 rfl ?_
                  refine Q_icmp_ne hX 207 dL_images_185 (by decide) (by decide) (by decide) (fun h => absurd (by decide) h) (fun _ => ?_)
                  refine Q_iload hX dL_images_188 rfl ?_
                  refine Q_aload_n hX dL_images_190 rfl ?_
                  refine Q_bipush hX dL_images_191 rfl ?_
                  refine Q_ask hX hl (u := 1) _ dL_images_193 cwL_whole (a_whole (k := 10) hE (by decide) (by decide) (v := WA) ((wv_10 (by decide)).trans hWA)) rfl (Nat.le_of_ble_eq_true rfl) ⟨by decide, by decide⟩ ?_
                  refine Q_icmp_ge hX 203 dL_images_196 (by omega) (by omega) (by decide) (fun c196 => ?_) (fun c196 => ?_)
                  · refine Q_iconst hX dL_images_203 ?_
                    refine Q_goto hX 225 dL_images_204 (by decide) ?_
                    exact Q_to (JN225 _ (Hid.mk (by omega))) rfl (by omega) rfl
                  · refine Q_iconst hX dL_images_199 ?_
                    refine Q_goto hX 225 dL_images_200 (by decide) ?_
                    exact Q_to (JN225 _ (Hid.mk (by omega))) rfl (by omega) rfl
                refine Q_aload_n hX dL_images_130 rfl ?_
                refine Q_iconst hX dL_images_131 ?_
                refine Q_ask hX hl (u := 1) _ dL_images_132 cwL_title (a_title (k := 3) hE (by decide) (by decide) (v := TR) ((tv_3 (by decide) hn7.out).trans hTR)) rfl (Nat.le_of_ble_eq_true rfl) ⟨by decide, by decide⟩ ?_
                refine Q_iload hX dL_images_135 rfl ?_
                refine Q_icmp_ne hX 178 dL_images_137 (by omega) (by omega) (by decide) (fun c137 => ?_) (fun c137 => ?_)
                · refine Q_iconst hX dL_images_178 ?_
                  exact Q_to (JN179 _ (Hid.mk (by omega))) rfl (by omega) rfl
                · refine Q_iload hX dL_images_140 rfl ?_
                  refine Q_aload_n hX dL_images_142 rfl ?_
                  refine Q_iload hX dL_images_143 rfl ?_
                  refine Q_bipush hX dL_images_145 rfl ?_
                  refine Q_isub hX dL_images_147 ?_
                  refine Q_ask hX hl (u := 1) _ dL_images_148 cwL_title (a_title (k := (14 - 9)) hE (by decide) (by decide) (v := TA) ((tv_5 (by decide) hn7.out).trans hTA)) rfl (Nat.le_of_ble_eq_true rfl) ⟨by decide, by decide⟩ ?_
                  refine Q_icmp_lt hX 178 dL_images_151 (by omega) (by omega) (by decide) (fun c151 => ?_) (fun c151 => ?_)
                  · refine Q_iconst hX dL_images_178 ?_
                    exact Q_to (JN179 _ (Hid.mk (by omega))) rfl (by omega) rfl
                  · refine Q_iload hX dL_images_154 rfl ?_
                    refine Q_aload_n hX dL_images_156 rfl ?_
                    refine Q_iload hX dL_images_157 rfl ?_
                    refine Q_bipush hX dL_images_159 rfl ?_
                    refine Q_isub hX dL_images_161 ?_
                    refine Q_ask hX hl (u := 1) _ dL_images_162 cwL_title (a_title (k := (14 - 9)) hE (by decide) (by decide) (v := TA) ((tv_5 (by decide) hn7.out).trans hTA)) rfl (Nat.le_of_ble_eq_true rfl) ⟨by decide, by decide⟩ ?_
                    refine Q_aload_n hX dL_images_165 rfl ?_
                    refine Q_iconst hX dL_images_166 ?_
                    refine Q_ask hX hl (u := 1) _ dL_images_167 cwL_title (a_title (k := 2) hE (by decide) (by decide) (v := S 0 7) (tv_2 (by decide) hn7.out)) rfl (Nat.le_of_ble_eq_true rfl) ⟨by decide, by decide⟩ ?_
                    refine Q_iadd hX dL_images_170 ?_
                    refine Q_icmp_ge hX 178 dL_images_171 (by omega) (by omega) (by decide) (fun c171 => ?_) (fun c171 => ?_)
                    · refine Q_iconst hX dL_images_178 ?_
                      exact Q_to (JN179 _ (Hid.mk (by omega))) rfl (by omega) rfl
                    · refine Q_iconst hX dL_images_174 ?_
                      refine Q_goto hX 179 dL_images_175 (by decide) ?_
                      exact Q_to (JN179 _ (Hid.mk (by omega))) rfl (by omega) rfl
              · skip
                obtain ⟨o, ho⟩ : ∃ o : Int, front S 1 cc r = o := ⟨_, rfl⟩
                rw [ho] at hfr sfe
                obtain ⟨hob, hcv⟩ := hfr
                rw [if_pos hob.1] at sfe
                obtain ⟨-, -, go4, go5, go6, go7, go8, -, go9⟩ := hW.2.2.1 o hob.1.1 hob.1.2.1
                have po := posF hW hob.1
                try simp only [hPS, hRW, hSH, hCL, hPC, hWA, hWB, hTR, hTS, hTA, hTB, hCT, hNX, hNB, hOR] at po
                have bo := boxF hW hob
                try simp only [hPS, hRW, hSH, hCL, hPC, hWA, hWB, hTR, hTS, hTA, hTB, hCT, hNX, hNB, hOR] at bo
                obtain ⟨-, bo2, -, -, -, -, -, bo8, bo9⟩ := bo
                have hcv1 : PS 5 o ≤ r ∧ r < PS 5 o + S 8 o := by rw [← hPS]; exact hcv.1.2
                have hcv2 : CL 1 o ≤ cc ∧ cc < CL 1 o + S 7 o := by rw [← hCL]; exact hcv.2
                refine Q_iconst hX dL_images_100 ?_
                refine Q_goto hX 105 dL_images_101 (by decide) ?_
                refine Q_iload hX dL_images_105 rfl ?_
                refine Q_iload hX dL_images_107 rfl ?_
                refine Q_ask hX hl (u := 1) _ dL_images_109 cwL_shown (a_shown hE (by decide) (by omega) (by omega) hfc (v := o) ho) rfl (Nat.le_of_ble_eq_true rfl) ⟨by decide, by decide⟩ ?_
                refine Q_istore hX dL_images_112 (by decide) ?_
                refine Q_iload hX dL_images_114 rfl ?_
                refine Q_iconst hX dL_images_116 ?_
                refine Q_irem hX dL_images_117 (by omega) ⟨by omega, by omega⟩ ?_
                refine Q_if_ne hX 126 dL_images_118 (by omega) (by decide) (fun c118 => ((absurd hp c118 : False)).elim) (fun c118 => ?_)
                refine Q_bipush hX dL_images_121 rfl ?_
                refine Q_goto hX 128 dL_images_123 (by decide) ?_
                refine Q_istore hX dL_images_128 (by decide) ?_
                have JN179 : ∀ (tt : Int), (Hid (tt = 1 ∧ (r = TR ∧ TA ≤ cc ∧ cc < TA + S 0 7) ∨ tt = 0 ∧ ¬ (r = TR ∧ TA ≤ cc ∧ cc < TA + S 0 7))) → QJ E X (x, T, S, c, P, 4200, 25200) K (25 * (80 - (k + 1)) + 22) 179 [(0, .ref x), (1, vI xx), (2, vI (S 0 3)), (3, vI (S 0 4)), (4, vI r), (5, vI (s + gg)), (6, vI cc), (7, vI sh1), (8, vI sh0), (9, vI by9), (10, vI gg), (11, vI o), (12, vI 14)] [vI tt] := by
                  intro tt  hj179
                  refine Q_istore hX dL_images_179 (by decide) ?_
                  have JN225 : ∀ (mk : Int), (Hid (mk = 1 ∧ cc < WA ∨ mk = 0 ∧ ¬ cc < WA)) → QJ E X (x, T, S, c, P, 4200, 25200) K (25 * (80 - (k + 1)) + 21) 225 [(0, .ref x), (1, vI xx), (2, vI (S 0 3)), (3, vI (S 0 4)), (4, vI r), (5, vI (s + gg)), (6, vI cc), (7, vI sh1), (8, vI sh0), (9, vI by9), (10, vI gg), (11, vI o), (12, vI 14), (13, vI tt)] [vI mk] := by
                    intro mk  hj225
                    refine Q_istore hX dL_images_225 (by decide) ?_
                    have JN271 : ∀ (du : Int), (du = sh1) → QJ E X (x, T, S, c, P, 4200, 25200) K (25 * (80 - (k + 1)) + 19) 271 [(0, .ref x), (1, vI xx), (2, vI (S 0 3)), (3, vI (S 0 4)), (4, vI r), (5, vI (s + gg)), (6, vI cc), (7, vI sh1), (8, vI sh0), (9, vI by9), (10, vI gg), (11, vI o), (12, vI 14)] [vI du] := by
                      intro du  hj271
                      have m15b := m15
                      refine Q_istore hX dL_images_271 (by decide) ?_
                      refine Q_iload hX dL_images_273 rfl ?_
                      refine Q_aload_n hX dL_images_275 rfl ?_
                      refine Q_bipush hX dL_images_276 rfl ?_
                      refine Q_ask hX hl (u := 1) _ dL_images_278 cwL_whole (a_whole (k := 15) hE (by decide) (by decide) (v := S 15 3) (wv_15 (by decide))) rfl (Nat.le_of_ble_eq_true rfl) ⟨by decide, by decide⟩ ?_
                      refine Q_iload hX dL_images_281 rfl ?_
                      refine Q_imul hX dL_images_283 ?_
                      refine Q_bipush hX dL_images_284 rfl ?_
                      refine Q_idiv hX dL_images_286 (by omega) ⟨by omega, by omega⟩ ?_
                      rw [Int.tdiv_eq_ediv_of_nonneg (show 0 ≤ S 15 3 * by9 by omega)]
                      refine Q_icmp_ne hX 392 dL_images_287 (by omega) (by omega) (by decide) (fun c287 => ?_) (fun c287 => ?_)
                      · skip
                        exfalso
                        omega
                      · skip
                        have JN394 : QJ E X (x, T, S, c, P, 4200, 25200) K (25 * (80 - (k + 1)) + 10) 394 [(0, .ref x), (1, vI xx), (2, vI (S 0 3)), (3, vI (S 0 4)), (4, vI r), (5, vI (s + gg)), (6, vI cc)] [] := by
                          refine Q_iinc hX dL_images_394 rfl (by decide) ?_
                          refine Q_goto hX 25 dL_images_397 (by decide) ?_
                          exact Q_to (ih25 (k + 1) (by omega) (by omega) _ _ ⟨by omega, by rw [show sm (fun c => ghs S c r) (k + 1) = sm (fun c => ghs S c r) k + ghs S (k : Int) r from rfl, ← es, ← en, eg], by omega, by omega⟩) rfl (by omega) rfl
                        refine Q_iload hX dL_images_290 rfl ?_
                        refine Q_bipush hX dL_images_292 rfl ?_
                        refine Q_icmp_gt hX 392 dL_images_294 (by omega) (by decide) (by decide) (fun c294 => ?_) (fun c294 => ?_)
                        · skip
                          exfalso
                          omega
                        · refine Q_iload hX dL_images_297 rfl ?_
                          refine Q_bipush hX dL_images_299 rfl ?_
                          refine Q_icmp_ne hX 309 dL_images_301 (by decide) (by decide) (by decide) (fun h => absurd (by decide) h) (fun _ => ?_)
                          refine Q_iload hX dL_images_304 rfl ?_
                          refine Q_goto hX 311 dL_images_306 (by decide) ?_
                          refine Q_iload hX dL_images_311 rfl ?_
                          refine Q_icmp_ne hX 392 dL_images_313 (by omega) (by omega) (by decide) (fun c313 => ?_) (fun c313 => ?_)
                          · skip
                            exfalso
                            omega
                          · refine Q_iload hX dL_images_316 rfl ?_
                            refine Q_sipush hX dL_images_318 rfl ?_
                            refine Q_icmp_eq hX 394 dL_images_321 (by omega) (by decide) (by decide) (fun c321 => ((by omega : False)).elim) (fun c321 => ?_)
                            refine Q_iload hX dL_images_324 rfl ?_
                            refine Q_aload_n hX dL_images_326 rfl ?_
                            refine Q_iload hX dL_images_327 rfl ?_
                            refine Q_iload hX dL_images_329 rfl ?_
                            refine Q_ask hX hl (u := 1) _ dL_images_331 cwL_node (a_node (n9 := o) (k := 14) hE (by omega) (by decide) (nodeOK hob.1 (by decide)) (v := CL 1 o) ((nv_14 (by decide) hob.1 hob.2).trans (congrFun (congrFun hCL 1) o))) rfl (Nat.le_of_ble_eq_true rfl) ⟨by decide, by decide⟩ ?_
                            refine Q_icmp_lt hX 392 dL_images_334 (by omega) (by omega) (by decide) (fun c334 => ?_) (fun c334 => ?_)
                            · skip
                              exfalso
                              omega
                            · refine Q_iload hX dL_images_337 rfl ?_
                              refine Q_aload_n hX dL_images_339 rfl ?_
                              refine Q_iload hX dL_images_340 rfl ?_
                              refine Q_iload hX dL_images_342 rfl ?_
                              refine Q_ask hX hl (u := 1) _ dL_images_344 cwL_node (a_node (n9 := o) (k := 14) hE (by omega) (by decide) (nodeOK hob.1 (by decide)) (v := CL 1 o) ((nv_14 (by decide) hob.1 hob.2).trans (congrFun (congrFun hCL 1) o))) rfl (Nat.le_of_ble_eq_true rfl) ⟨by decide, by decide⟩ ?_
                              refine Q_aload_n hX dL_images_347 rfl ?_
                              refine Q_iload hX dL_images_348 rfl ?_
                              refine Q_bipush hX dL_images_350 rfl ?_
                              refine Q_ask hX hl (u := 1) _ dL_images_352 cwL_node (a_node (n9 := o) (k := 9) hE (by omega) (by decide) (nodeOK hob.1 (by decide)) (v := S 7 o) (nv_9 (by decide) hob.1 hob.2)) rfl (Nat.le_of_ble_eq_true rfl) ⟨by decide, by decide⟩ ?_
                              refine Q_iadd hX dL_images_355 ?_
                              refine Q_icmp_ge hX 392 dL_images_356 (by omega) (by omega) (by decide) (fun c356 => ?_) (fun c356 => ?_)
                              · skip
                                exfalso
                                omega
                              · refine Q_iload hX dL_images_359 rfl ?_
                                refine Q_aload_n hX dL_images_361 rfl ?_
                                refine Q_iload hX dL_images_362 rfl ?_
                                refine Q_iconst hX dL_images_364 ?_
                                refine Q_ask hX hl (u := 1) _ dL_images_365 cwL_node (a_node (n9 := o) (k := 5) hE (by omega) (by decide) (nodeOK hob.1 (by decide)) (v := PS 5 o) ((nv_5 (by decide) hob.1).trans (congrFun (congrFun hPS 5) o))) rfl (Nat.le_of_ble_eq_true rfl) ⟨by decide, by decide⟩ ?_
                                refine Q_icmp_lt hX 392 dL_images_368 (by omega) (by omega) (by decide) (fun c368 => ?_) (fun c368 => ?_)
                                · skip
                                  exfalso
                                  omega
                                · refine Q_iload hX dL_images_371 rfl ?_
                                  refine Q_aload_n hX dL_images_373 rfl ?_
                                  refine Q_iload hX dL_images_374 rfl ?_
                                  refine Q_iconst hX dL_images_376 ?_
                                  refine Q_ask hX hl (u := 1) _ dL_images_377 cwL_node (a_node (n9 := o) (k := 5) hE (by omega) (by decide) (nodeOK hob.1 (by decide)) (v := PS 5 o) ((nv_5 (by decide) hob.1).trans (congrFun (congrFun hPS 5) o))) rfl (Nat.le_of_ble_eq_true rfl) ⟨by decide, by decide⟩ ?_
                                  refine Q_aload_n hX dL_images_380 rfl ?_
                                  refine Q_iload hX dL_images_381 rfl ?_
                                  refine Q_bipush hX dL_images_383 rfl ?_
                                  refine Q_ask hX hl (u := 1) _ dL_images_385 cwL_node (a_node (n9 := o) (k := 10) hE (by omega) (by decide) (nodeOK hob.1 (by decide)) (v := S 8 o) (nv_10 (by decide) hob.1 hob.2)) rfl (Nat.le_of_ble_eq_true rfl) ⟨by decide, by decide⟩ ?_
                                  refine Q_iadd hX dL_images_388 ?_
                                  refine Q_icmp_lt hX 394 dL_images_389 (by omega) (by omega) (by decide) (fun c389 => ?_) (fun c389 => ?_)
                                  · skip
                                    exact Q_to (JN394 ) rfl (by omega) rfl
                                  · skip
                                    exfalso
                                    omega
                    refine Q_iload hX dL_images_227 rfl ?_
                    have hmo := hj225.out
                    refine Q_if_eq hX 236 dL_images_229 (by omega) (by decide) (fun c229 => ?_) (fun c229 => ?_)
                    · refine Q_iload hX dL_images_236 rfl ?_
                      have hto := hj179.out
                      refine Q_if_eq hX 246 dL_images_238 (by omega) (by decide) (fun c238 => ?_) (fun c238 => ?_)
                      · refine Q_iload hX dL_images_246 rfl ?_
                        refine Q_sipush hX dL_images_248 rfl ?_
                        refine Q_icmp_ne hX 263 dL_images_251 (by omega) (by decide) (by decide) (fun c251 => ?_) (fun c251 => ((by omega : False)).elim)
                        refine Q_aload_n hX dL_images_263 rfl ?_
                        refine Q_iload hX dL_images_264 rfl ?_
                        refine Q_bipush hX dL_images_266 rfl ?_
                        refine Q_ask hX hl (u := 1) _ dL_images_268 cwL_node (a_node (n9 := o) (k := 11) hE (by omega) (by decide) (nodeOK hob.1 (by decide)) (v := S 9 o) (nv_11 (by decide) hob.1 hob.2)) rfl (Nat.le_of_ble_eq_true rfl) ⟨by decide, by decide⟩ ?_
                        exact Q_to (JN271 _ (by rw [sfe]; (repeat' split) <;> first | rfl | (exfalso; omega))) rfl (by omega) rfl
                      · refine Q_bipush hX dL_images_241 rfl ?_
                        refine Q_goto hX 271 dL_images_243 (by decide) ?_
                        exact Q_to (JN271 _ (by rw [sfe]; (repeat' split) <;> first | rfl | (exfalso; omega))) rfl (by omega) rfl
                    · refine Q_iconst hX dL_images_232 ?_
                      refine Q_goto hX 271 dL_images_233 (by decide) ?_
                      exact Q_to (JN271 _ (by rw [sfe]; (repeat' split) <;> first | rfl | (exfalso; omega))) rfl (by omega) rfl
                  refine Q_iload hX dL_images_181 rfl ?_
                  refine Q_bipush hX dL_images_183 rfl ?_
                  refine Q_icmp_ne hX 207 dL_images_185 (by decide) (by decide) (by decide) (fun h => absurd (by decide) h) (fun _ => ?_)
                  refine Q_iload hX dL_images_188 rfl ?_
                  refine Q_aload_n hX dL_images_190 rfl ?_
                  refine Q_bipush hX dL_images_191 rfl ?_
                  refine Q_ask hX hl (u := 1) _ dL_images_193 cwL_whole (a_whole (k := 10) hE (by decide) (by decide) (v := WA) ((wv_10 (by decide)).trans hWA)) rfl (Nat.le_of_ble_eq_true rfl) ⟨by decide, by decide⟩ ?_
                  refine Q_icmp_ge hX 203 dL_images_196 (by omega) (by omega) (by decide) (fun c196 => ?_) (fun c196 => ?_)
                  · refine Q_iconst hX dL_images_203 ?_
                    refine Q_goto hX 225 dL_images_204 (by decide) ?_
                    exact Q_to (JN225 _ (Hid.mk (by omega))) rfl (by omega) rfl
                  · refine Q_iconst hX dL_images_199 ?_
                    refine Q_goto hX 225 dL_images_200 (by decide) ?_
                    exact Q_to (JN225 _ (Hid.mk (by omega))) rfl (by omega) rfl
                refine Q_aload_n hX dL_images_130 rfl ?_
                refine Q_iconst hX dL_images_131 ?_
                refine Q_ask hX hl (u := 1) _ dL_images_132 cwL_title (a_title (k := 3) hE (by decide) (by decide) (v := TR) ((tv_3 (by decide) hn7.out).trans hTR)) rfl (Nat.le_of_ble_eq_true rfl) ⟨by decide, by decide⟩ ?_
                refine Q_iload hX dL_images_135 rfl ?_
                refine Q_icmp_ne hX 178 dL_images_137 (by omega) (by omega) (by decide) (fun c137 => ?_) (fun c137 => ?_)
                · refine Q_iconst hX dL_images_178 ?_
                  exact Q_to (JN179 _ (Hid.mk (by omega))) rfl (by omega) rfl
                · refine Q_iload hX dL_images_140 rfl ?_
                  refine Q_aload_n hX dL_images_142 rfl ?_
                  refine Q_iload hX dL_images_143 rfl ?_
                  refine Q_bipush hX dL_images_145 rfl ?_
                  refine Q_isub hX dL_images_147 ?_
                  refine Q_ask hX hl (u := 1) _ dL_images_148 cwL_title (a_title (k := (14 - 9)) hE (by decide) (by decide) (v := TA) ((tv_5 (by decide) hn7.out).trans hTA)) rfl (Nat.le_of_ble_eq_true rfl) ⟨by decide, by decide⟩ ?_
                  refine Q_icmp_lt hX 178 dL_images_151 (by omega) (by omega) (by decide) (fun c151 => ?_) (fun c151 => ?_)
                  · refine Q_iconst hX dL_images_178 ?_
                    exact Q_to (JN179 _ (Hid.mk (by omega))) rfl (by omega) rfl
                  · refine Q_iload hX dL_images_154 rfl ?_
                    refine Q_aload_n hX dL_images_156 rfl ?_
                    refine Q_iload hX dL_images_157 rfl ?_
                    refine Q_bipush hX dL_images_159 rfl ?_
                    refine Q_isub hX dL_images_161 ?_
                    refine Q_ask hX hl (u := 1) _ dL_images_162 cwL_title (a_title (k := (14 - 9)) hE (by decide) (by decide) (v := TA) ((tv_5 (by decide) hn7.out).trans hTA)) rfl (Nat.le_of_ble_eq_true rfl) ⟨by decide, by decide⟩ ?_
                    refine Q_aload_n hX dL_images_165 rfl ?_
                    refine Q_iconst hX dL_images_166 ?_
                    refine Q_ask hX hl (u := 1) _ dL_images_167 cwL_title (a_title (k := 2) hE (by decide) (by decide) (v := S 0 7) (tv_2 (by decide) hn7.out)) rfl (Nat.le_of_ble_eq_true rfl) ⟨by decide, by decide⟩ ?_
                    refine Q_iadd hX dL_images_170 ?_
                    refine Q_icmp_ge hX 178 dL_images_171 (by omega) (by omega) (by decide) (fun c171 => ?_) (fun c171 => ?_)
                    · refine Q_iconst hX dL_images_178 ?_
                      exact Q_to (JN179 _ (Hid.mk (by omega))) rfl (by omega) rfl
                    · refine Q_iconst hX dL_images_174 ?_
                      refine Q_goto hX 179 dL_images_175 (by decide) ?_
                      exact Q_to (JN179 _ (Hid.mk (by omega))) rfl (by omega) rfl
            · skip
              obtain ⟨-, sfe⟩ := sf
              clear e1
              refine Q_aload_n hX dL_images_92 rfl ?_
              refine Q_iload hX dL_images_93 rfl ?_
              refine Q_iconst hX dL_images_95 ?_
              refine Q_irem hX dL_images_96 (by omega) ⟨by omega, by omega⟩ ?_
              refine Q_if_ne hX 104 dL_images_97 (by omega) (by decide) (fun c97 => ?_) (fun c97 => ((absurd c97 hp : False)).elim)
              rcases front_rng S 0 cc r with hfr | hfr
              · skip
                rw [hfr] at sfe
                rw [if_neg (show ¬ hs S (-1000) from fun z => absurd z.1 (by decide))] at sfe
                refine Q_iconst hX dL_images_104 ?_
                refine Q_iload hX dL_images_105 rfl ?_
                refine Q_iload hX dL_images_107 rfl ?_
                refine Q_ask hX hl (u := 1) _ dL_images_109 cwL_shown (a_shown hE (by decide) (by omega) (by omega) hfc (v := -1000) hfr) rfl (Nat.le_of_ble_eq_true rfl) ⟨by decide, by decide⟩ ?_
                refine Q_istore hX dL_images_112 (by decide) ?_
                refine Q_iload hX dL_images_114 rfl ?_
                refine Q_iconst hX dL_images_116 ?_
                refine Q_irem hX dL_images_117 (by omega) ⟨by omega, by omega⟩ ?_
                refine Q_if_ne hX 126 dL_images_118 (by omega) (by decide) (fun c118 => ?_) (fun c118 => ((absurd c118 hp : False)).elim)
                refine Q_bipush hX dL_images_126 rfl ?_
                refine Q_istore hX dL_images_128 (by decide) ?_
                have JN179 : ∀ (tt : Int), (Hid (tt = 1 ∧ (r = TR ∧ TB ≤ cc ∧ cc < TB + S 0 7) ∨ tt = 0 ∧ ¬ (r = TR ∧ TB ≤ cc ∧ cc < TB + S 0 7))) → QJ E X (x, T, S, c, P, 4200, 25200) K (25 * (80 - (k + 1)) + 22) 179 [(0, .ref x), (1, vI xx), (2, vI (S 0 3)), (3, vI (S 0 4)), (4, vI r), (5, vI (s + gg)), (6, vI cc), (7, vI sh1), (8, vI sh0), (9, vI by9), (10, vI gg), (11, vI (-1000)), (12, vI 15)] [vI tt] := by
                  intro tt  hj179
                  refine Q_istore hX dL_images_179 (by decide) ?_
                  have JN225 : ∀ (mk : Int), (Hid (mk = 1 ∧ S 0 3 - WB ≤ cc ∨ mk = 0 ∧ ¬ S 0 3 - WB ≤ cc)) → QJ E X (x, T, S, c, P, 4200, 25200) K (25 * (80 - (k + 1)) + 21) 225 [(0, .ref x), (1, vI xx), (2, vI (S 0 3)), (3, vI (S 0 4)), (4, vI r), (5, vI (s + gg)), (6, vI cc), (7, vI sh1), (8, vI sh0), (9, vI by9), (10, vI gg), (11, vI (-1000)), (12, vI 15), (13, vI tt)] [vI mk] := by
                    intro mk  hj225
                    refine Q_istore hX dL_images_225 (by decide) ?_
                    have JN271 : ∀ (du : Int), (du = sh0) → QJ E X (x, T, S, c, P, 4200, 25200) K (25 * (80 - (k + 1)) + 19) 271 [(0, .ref x), (1, vI xx), (2, vI (S 0 3)), (3, vI (S 0 4)), (4, vI r), (5, vI (s + gg)), (6, vI cc), (7, vI sh1), (8, vI sh0), (9, vI by9), (10, vI gg), (11, vI (-1000)), (12, vI 15)] [vI du] := by
                      intro du  hj271
                      have m15b := m15
                      refine Q_istore hX dL_images_271 (by decide) ?_
                      refine Q_iload hX dL_images_273 rfl ?_
                      refine Q_aload_n hX dL_images_275 rfl ?_
                      refine Q_bipush hX dL_images_276 rfl ?_
                      refine Q_ask hX hl (u := 1) _ dL_images_278 cwL_whole (a_whole (k := 15) hE (by decide) (by decide) (v := S 15 3) (wv_15 (by decide))) rfl (Nat.le_of_ble_eq_true rfl) ⟨by decide, by decide⟩ ?_
                      refine Q_iload hX dL_images_281 rfl ?_
                      refine Q_imul hX dL_images_283 ?_
                      refine Q_bipush hX dL_images_284 rfl ?_
                      refine Q_idiv hX dL_images_286 (by omega) ⟨by omega, by omega⟩ ?_
                      rw [Int.tdiv_eq_ediv_of_nonneg (show 0 ≤ S 15 3 * by9 by omega)]
                      refine Q_icmp_ne hX 392 dL_images_287 (by omega) (by omega) (by decide) (fun c287 => ?_) (fun c287 => ?_)
                      · skip
                        exfalso
                        omega
                      · skip
                        have JN394 : QJ E X (x, T, S, c, P, 4200, 25200) K (25 * (80 - (k + 1)) + 10) 394 [(0, .ref x), (1, vI xx), (2, vI (S 0 3)), (3, vI (S 0 4)), (4, vI r), (5, vI (s + gg)), (6, vI cc)] [] := by
                          refine Q_iinc hX dL_images_394 rfl (by decide) ?_
                          refine Q_goto hX 25 dL_images_397 (by decide) ?_
                          exact Q_to (ih25 (k + 1) (by omega) (by omega) _ _ ⟨by omega, by rw [show sm (fun c => ghs S c r) (k + 1) = sm (fun c => ghs S c r) k + ghs S (k : Int) r from rfl, ← es, ← en, eg], by omega, by omega⟩) rfl (by omega) rfl
                        refine Q_iload hX dL_images_290 rfl ?_
                        refine Q_bipush hX dL_images_292 rfl ?_
                        refine Q_icmp_gt hX 392 dL_images_294 (by omega) (by decide) (by decide) (fun c294 => ?_) (fun c294 => ?_)
                        · skip
                          exfalso
                          omega
                        · refine Q_iload hX dL_images_297 rfl ?_
                          refine Q_bipush hX dL_images_299 rfl ?_
                          refine Q_icmp_ne hX 309 dL_images_301 (by decide) (by decide) (by decide) (fun _ => ?_) (fun h => absurd h (by decide))
                          refine Q_iload hX dL_images_309 rfl ?_
                          refine Q_iload hX dL_images_311 rfl ?_
                          refine Q_icmp_ne hX 392 dL_images_313 (by omega) (by omega) (by decide) (fun c313 => ?_) (fun c313 => ?_)
                          · skip
                            exfalso
                            omega
                          · refine Q_iload hX dL_images_316 rfl ?_
                            refine Q_sipush hX dL_images_318 rfl ?_
                            refine Q_icmp_eq hX 394 dL_images_321 (by decide) (by decide) (by decide) (fun _ => ?_) (fun h => absurd (by decide) h)
                            exact Q_to (JN394 ) rfl (by omega) rfl
                    refine Q_iload hX dL_images_227 rfl ?_
                    have hmo := hj225.out
                    refine Q_if_eq hX 236 dL_images_229 (by omega) (by decide) (fun c229 => ?_) (fun c229 => ?_)
                    · refine Q_iload hX dL_images_236 rfl ?_
                      have hto := hj179.out
                      refine Q_if_eq hX 246 dL_images_238 (by omega) (by decide) (fun c238 => ?_) (fun c238 => ?_)
                      · refine Q_iload hX dL_images_246 rfl ?_
                        refine Q_sipush hX dL_images_248 rfl ?_
                        refine Q_icmp_ne hX 263 dL_images_251 (by decide) (by decide) (by decide) (fun h => absurd (by decide) h) (fun _ => ?_)
                        refine Q_aload_n hX dL_images_254 rfl ?_
                        refine Q_bipush hX dL_images_255 rfl ?_
                        refine Q_ask hX hl (u := 1) _ dL_images_257 cwL_whole (a_whole (k := 14) hE (by decide) (by decide) (v := S 15 2) (wv_14 (by decide))) rfl (Nat.le_of_ble_eq_true rfl) ⟨by decide, by decide⟩ ?_
                        refine Q_goto hX 271 dL_images_260 (by decide) ?_
                        exact Q_to (JN271 _ (by rw [sfe]; (repeat' split) <;> first | rfl | (exfalso; omega))) rfl (by omega) rfl
                      · refine Q_bipush hX dL_images_241 rfl ?_
                        refine Q_goto hX 271 dL_images_243 (by decide) ?_
                        exact Q_to (JN271 _ (by rw [sfe]; (repeat' split) <;> first | rfl | (exfalso; omega))) rfl (by omega) rfl
                    · refine Q_iconst hX dL_images_232 ?_
                      refine Q_goto hX 271 dL_images_233 (by decide) ?_
                      exact Q_to (JN271 _ (by rw [sfe]; (repeat' split) <;> first | rfl | (exfalso; omega))) rfl (by omega) rfl
                  refine Q_iload hX dL_images_181 rfl ?_
                  refine Q_bipush hX dL_images_183 rfl ?_
                  refine Q_icmp_ne hX 207 dL_images_185 (by decide) (by decide) (by decide) (fun _ => ?_) (fun h => absurd h (by decide))
                  refine Q_iload hX dL_images_207 rfl ?_
                  refine Q_iload_n hX dL_images_209 rfl ?_
                  refine Q_aload_n hX dL_images_210 rfl ?_
                  refine Q_bipush hX dL_images_211 rfl ?_
                  refine Q_ask hX hl (u := 1) _ dL_images_213 cwL_whole (a_whole (k := 11) hE (by decide) (by decide) (v := WB) ((wv_11 (by decide)).trans hWB)) rfl (Nat.le_of_ble_eq_true rfl) ⟨by decide, by decide⟩ ?_
                  refine Q_isub hX dL_images_216 ?_
                  refine Q_icmp_lt hX 224 dL_images_217 (by omega) (by omega) (by decide) (fun c217 => ?_) (fun c217 => ?_)
                  · refine Q_iconst hX dL_images_224 ?_
                    exact Q_to (JN225 _ (Hid.mk (by omega))) rfl (by omega) rfl
                  · refine Q_iconst hX dL_images_220 ?_
                    refine Q_goto hX 225 dL_images_221 (by decide) ?_
                    exact Q_to (JN225 _ (Hid.mk (by omega))) rfl (by omega) rfl
                refine Q_aload_n hX dL_images_130 rfl ?_
                refine Q_iconst hX dL_images_131 ?_
                refine Q_ask hX hl (u := 1) _ dL_images_132 cwL_title (a_title (k := 3) hE (by decide) (by decide) (v := TR) ((tv_3 (by decide) hn7.out).trans hTR)) rfl (Nat.le_of_ble_eq_true rfl) ⟨by decide, by decide⟩ ?_
                refine Q_iload hX dL_images_135 rfl ?_
                refine Q_icmp_ne hX 178 dL_images_137 (by omega) (by omega) (by decide) (fun c137 => ?_) (fun c137 => ?_)
                · refine Q_iconst hX dL_images_178 ?_
                  exact Q_to (JN179 _ (Hid.mk (by omega))) rfl (by omega) rfl
                · refine Q_iload hX dL_images_140 rfl ?_
                  refine Q_aload_n hX dL_images_142 rfl ?_
                  refine Q_iload hX dL_images_143 rfl ?_
                  refine Q_bipush hX dL_images_145 rfl ?_
                  refine Q_isub hX dL_images_147 ?_
                  refine Q_ask hX hl (u := 1) _ dL_images_148 cwL_title (a_title (k := (15 - 9)) hE (by decide) (by decide) (v := TB) ((tv_6 (by decide) hn7.out).trans hTB)) rfl (Nat.le_of_ble_eq_true rfl) ⟨by decide, by decide⟩ ?_
                  refine Q_icmp_lt hX 178 dL_images_151 (by omega) (by omega) (by decide) (fun c151 => ?_) (fun c151 => ?_)
                  · refine Q_iconst hX dL_images_178 ?_
                    exact Q_to (JN179 _ (Hid.mk (by omega))) rfl (by omega) rfl
                  · refine Q_iload hX dL_images_154 rfl ?_
                    refine Q_aload_n hX dL_images_156 rfl ?_
                    refine Q_iload hX dL_images_157 rfl ?_
                    refine Q_bipush hX dL_images_159 rfl ?_
                    refine Q_isub hX dL_images_161 ?_
                    refine Q_ask hX hl (u := 1) _ dL_images_162 cwL_title (a_title (k := (15 - 9)) hE (by decide) (by decide) (v := TB) ((tv_6 (by decide) hn7.out).trans hTB)) rfl (Nat.le_of_ble_eq_true rfl) ⟨by decide, by decide⟩ ?_
                    refine Q_aload_n hX dL_images_165 rfl ?_
                    refine Q_iconst hX dL_images_166 ?_
                    refine Q_ask hX hl (u := 1) _ dL_images_167 cwL_title (a_title (k := 2) hE (by decide) (by decide) (v := S 0 7) (tv_2 (by decide) hn7.out)) rfl (Nat.le_of_ble_eq_true rfl) ⟨by decide, by decide⟩ ?_
                    refine Q_iadd hX dL_images_170 ?_
                    refine Q_icmp_ge hX 178 dL_images_171 (by omega) (by omega) (by decide) (fun c171 => ?_) (fun c171 => ?_)
                    · refine Q_iconst hX dL_images_178 ?_
                      exact Q_to (JN179 _ (Hid.mk (by omega))) rfl (by omega) rfl
                    · refine Q_iconst hX dL_images_174 ?_
                      refine Q_goto hX 179 dL_images_175 (by decide) ?_
                      exact Q_to (JN179 _ (Hid.mk (by omega))) rfl (by omega) rfl
              · skip
                obtain ⟨o, ho⟩ : ∃ o : Int, front S 0 cc r = o := ⟨_, rfl⟩
                rw [ho] at hfr sfe
                obtain ⟨hob, hcv⟩ := hfr
                rw [if_pos hob.1] at sfe
                obtain ⟨-, -, go4, go5, go6, go7, go8, -, go9⟩ := hW.2.2.1 o hob.1.1 hob.1.2.1
                have po := posF hW hob.1
                try simp only [hPS, hRW, hSH, hCL, hPC, hWA, hWB, hTR, hTS, hTA, hTB, hCT, hNX, hNB, hOR] at po
                have bo := boxF hW hob
                try simp only [hPS, hRW, hSH, hCL, hPC, hWA, hWB, hTR, hTS, hTA, hTB, hCT, hNX, hNB, hOR] at bo
                obtain ⟨-, bo2, -, -, -, -, -, bo8, bo9⟩ := bo
                have hcv1 : PS 5 o ≤ r ∧ r < PS 5 o + S 8 o := by rw [← hPS]; exact hcv.1.2
                have hcv2 : CL 0 o ≤ cc ∧ cc < CL 0 o + S 7 o := by rw [← hCL]; exact hcv.2
                refine Q_iconst hX dL_images_104 ?_
                refine Q_iload hX dL_images_105 rfl ?_
                refine Q_iload hX dL_images_107 rfl ?_
                refine Q_ask hX hl (u := 1) _ dL_images_109 cwL_shown (a_shown hE (by decide) (by omega) (by omega) hfc (v := o) ho) rfl (Nat.le_of_ble_eq_true rfl) ⟨by decide, by decide⟩ ?_
                refine Q_istore hX dL_images_112 (by decide) ?_
                refine Q_iload hX dL_images_114 rfl ?_
                refine Q_iconst hX dL_images_116 ?_
                refine Q_irem hX dL_images_117 (by omega) ⟨by omega, by omega⟩ ?_
                refine Q_if_ne hX 126 dL_images_118 (by omega) (by decide) (fun c118 => ?_) (fun c118 => ((absurd c118 hp : False)).elim)
                refine Q_bipush hX dL_images_126 rfl ?_
                refine Q_istore hX dL_images_128 (by decide) ?_
                have JN179 : ∀ (tt : Int), (Hid (tt = 1 ∧ (r = TR ∧ TB ≤ cc ∧ cc < TB + S 0 7) ∨ tt = 0 ∧ ¬ (r = TR ∧ TB ≤ cc ∧ cc < TB + S 0 7))) → QJ E X (x, T, S, c, P, 4200, 25200) K (25 * (80 - (k + 1)) + 22) 179 [(0, .ref x), (1, vI xx), (2, vI (S 0 3)), (3, vI (S 0 4)), (4, vI r), (5, vI (s + gg)), (6, vI cc), (7, vI sh1), (8, vI sh0), (9, vI by9), (10, vI gg), (11, vI o), (12, vI 15)] [vI tt] := by
                  intro tt  hj179
                  refine Q_istore hX dL_images_179 (by decide) ?_
                  have JN225 : ∀ (mk : Int), (Hid (mk = 1 ∧ S 0 3 - WB ≤ cc ∨ mk = 0 ∧ ¬ S 0 3 - WB ≤ cc)) → QJ E X (x, T, S, c, P, 4200, 25200) K (25 * (80 - (k + 1)) + 21) 225 [(0, .ref x), (1, vI xx), (2, vI (S 0 3)), (3, vI (S 0 4)), (4, vI r), (5, vI (s + gg)), (6, vI cc), (7, vI sh1), (8, vI sh0), (9, vI by9), (10, vI gg), (11, vI o), (12, vI 15), (13, vI tt)] [vI mk] := by
                    intro mk  hj225
                    refine Q_istore hX dL_images_225 (by decide) ?_
                    have JN271 : ∀ (du : Int), (du = sh0) → QJ E X (x, T, S, c, P, 4200, 25200) K (25 * (80 - (k + 1)) + 19) 271 [(0, .ref x), (1, vI xx), (2, vI (S 0 3)), (3, vI (S 0 4)), (4, vI r), (5, vI (s + gg)), (6, vI cc), (7, vI sh1), (8, vI sh0), (9, vI by9), (10, vI gg), (11, vI o), (12, vI 15)] [vI du] := by
                      intro du  hj271
                      have m15b := m15
                      refine Q_istore hX dL_images_271 (by decide) ?_
                      refine Q_iload hX dL_images_273 rfl ?_
                      refine Q_aload_n hX dL_images_275 rfl ?_
                      refine Q_bipush hX dL_images_276 rfl ?_
                      refine Q_ask hX hl (u := 1) _ dL_images_278 cwL_whole (a_whole (k := 15) hE (by decide) (by decide) (v := S 15 3) (wv_15 (by decide))) rfl (Nat.le_of_ble_eq_true rfl) ⟨by decide, by decide⟩ ?_
                      refine Q_iload hX dL_images_281 rfl ?_
                      refine Q_imul hX dL_images_283 ?_
                      refine Q_bipush hX dL_images_284 rfl ?_
                      refine Q_idiv hX dL_images_286 (by omega) ⟨by omega, by omega⟩ ?_
                      rw [Int.tdiv_eq_ediv_of_nonneg (show 0 ≤ S 15 3 * by9 by omega)]
                      refine Q_icmp_ne hX 392 dL_images_287 (by omega) (by omega) (by decide) (fun c287 => ?_) (fun c287 => ?_)
                      · skip
                        exfalso
                        omega
                      · skip
                        have JN394 : QJ E X (x, T, S, c, P, 4200, 25200) K (25 * (80 - (k + 1)) + 10) 394 [(0, .ref x), (1, vI xx), (2, vI (S 0 3)), (3, vI (S 0 4)), (4, vI r), (5, vI (s + gg)), (6, vI cc)] [] := by
                          refine Q_iinc hX dL_images_394 rfl (by decide) ?_
                          refine Q_goto hX 25 dL_images_397 (by decide) ?_
                          exact Q_to (ih25 (k + 1) (by omega) (by omega) _ _ ⟨by omega, by rw [show sm (fun c => ghs S c r) (k + 1) = sm (fun c => ghs S c r) k + ghs S (k : Int) r from rfl, ← es, ← en, eg], by omega, by omega⟩) rfl (by omega) rfl
                        refine Q_iload hX dL_images_290 rfl ?_
                        refine Q_bipush hX dL_images_292 rfl ?_
                        refine Q_icmp_gt hX 392 dL_images_294 (by omega) (by decide) (by decide) (fun c294 => ?_) (fun c294 => ?_)
                        · skip
                          exfalso
                          omega
                        · refine Q_iload hX dL_images_297 rfl ?_
                          refine Q_bipush hX dL_images_299 rfl ?_
                          refine Q_icmp_ne hX 309 dL_images_301 (by decide) (by decide) (by decide) (fun _ => ?_) (fun h => absurd h (by decide))
                          refine Q_iload hX dL_images_309 rfl ?_
                          refine Q_iload hX dL_images_311 rfl ?_
                          refine Q_icmp_ne hX 392 dL_images_313 (by omega) (by omega) (by decide) (fun c313 => ?_) (fun c313 => ?_)
                          · skip
                            exfalso
                            omega
                          · refine Q_iload hX dL_images_316 rfl ?_
                            refine Q_sipush hX dL_images_318 rfl ?_
                            refine Q_icmp_eq hX 394 dL_images_321 (by omega) (by decide) (by decide) (fun c321 => ((by omega : False)).elim) (fun c321 => ?_)
                            refine Q_iload hX dL_images_324 rfl ?_
                            refine Q_aload_n hX dL_images_326 rfl ?_
                            refine Q_iload hX dL_images_327 rfl ?_
                            refine Q_iload hX dL_images_329 rfl ?_
                            refine Q_ask hX hl (u := 1) _ dL_images_331 cwL_node (a_node (n9 := o) (k := 15) hE (by omega) (by decide) (nodeOK hob.1 (by decide)) (v := CL 0 o) ((nv_15 (by decide) hob.1 hob.2).trans (congrFun (congrFun hCL 0) o))) rfl (Nat.le_of_ble_eq_true rfl) ⟨by decide, by decide⟩ ?_
                            refine Q_icmp_lt hX 392 dL_images_334 (by omega) (by omega) (by decide) (fun c334 => ?_) (fun c334 => ?_)
                            · skip
                              exfalso
                              omega
                            · refine Q_iload hX dL_images_337 rfl ?_
                              refine Q_aload_n hX dL_images_339 rfl ?_
                              refine Q_iload hX dL_images_340 rfl ?_
                              refine Q_iload hX dL_images_342 rfl ?_
                              refine Q_ask hX hl (u := 1) _ dL_images_344 cwL_node (a_node (n9 := o) (k := 15) hE (by omega) (by decide) (nodeOK hob.1 (by decide)) (v := CL 0 o) ((nv_15 (by decide) hob.1 hob.2).trans (congrFun (congrFun hCL 0) o))) rfl (Nat.le_of_ble_eq_true rfl) ⟨by decide, by decide⟩ ?_
                              refine Q_aload_n hX dL_images_347 rfl ?_
                              refine Q_iload hX dL_images_348 rfl ?_
                              refine Q_bipush hX dL_images_350 rfl ?_
                              refine Q_ask hX hl (u := 1) _ dL_images_352 cwL_node (a_node (n9 := o) (k := 9) hE (by omega) (by decide) (nodeOK hob.1 (by decide)) (v := S 7 o) (nv_9 (by decide) hob.1 hob.2)) rfl (Nat.le_of_ble_eq_true rfl) ⟨by decide, by decide⟩ ?_
                              refine Q_iadd hX dL_images_355 ?_
                              refine Q_icmp_ge hX 392 dL_images_356 (by omega) (by omega) (by decide) (fun c356 => ?_) (fun c356 => ?_)
                              · skip
                                exfalso
                                omega
                              · refine Q_iload hX dL_images_359 rfl ?_
                                refine Q_aload_n hX dL_images_361 rfl ?_
                                refine Q_iload hX dL_images_362 rfl ?_
                                refine Q_iconst hX dL_images_364 ?_
                                refine Q_ask hX hl (u := 1) _ dL_images_365 cwL_node (a_node (n9 := o) (k := 5) hE (by omega) (by decide) (nodeOK hob.1 (by decide)) (v := PS 5 o) ((nv_5 (by decide) hob.1).trans (congrFun (congrFun hPS 5) o))) rfl (Nat.le_of_ble_eq_true rfl) ⟨by decide, by decide⟩ ?_
                                refine Q_icmp_lt hX 392 dL_images_368 (by omega) (by omega) (by decide) (fun c368 => ?_) (fun c368 => ?_)
                                · skip
                                  exfalso
                                  omega
                                · refine Q_iload hX dL_images_371 rfl ?_
                                  refine Q_aload_n hX dL_images_373 rfl ?_
                                  refine Q_iload hX dL_images_374 rfl ?_
                                  refine Q_iconst hX dL_images_376 ?_
                                  refine Q_ask hX hl (u := 1) _ dL_images_377 cwL_node (a_node (n9 := o) (k := 5) hE (by omega) (by decide) (nodeOK hob.1 (by decide)) (v := PS 5 o) ((nv_5 (by decide) hob.1).trans (congrFun (congrFun hPS 5) o))) rfl (Nat.le_of_ble_eq_true rfl) ⟨by decide, by decide⟩ ?_
                                  refine Q_aload_n hX dL_images_380 rfl ?_
                                  refine Q_iload hX dL_images_381 rfl ?_
                                  refine Q_bipush hX dL_images_383 rfl ?_
                                  refine Q_ask hX hl (u := 1) _ dL_images_385 cwL_node (a_node (n9 := o) (k := 10) hE (by omega) (by decide) (nodeOK hob.1 (by decide)) (v := S 8 o) (nv_10 (by decide) hob.1 hob.2)) rfl (Nat.le_of_ble_eq_true rfl) ⟨by decide, by decide⟩ ?_
                                  refine Q_iadd hX dL_images_388 ?_
                                  refine Q_icmp_lt hX 394 dL_images_389 (by omega) (by omega) (by decide) (fun c389 => ?_) (fun c389 => ?_)
                                  · skip
                                    exact Q_to (JN394 ) rfl (by omega) rfl
                                  · skip
                                    exfalso
                                    omega
                    refine Q_iload hX dL_images_227 rfl ?_
                    have hmo := hj225.out
                    refine Q_if_eq hX 236 dL_images_229 (by omega) (by decide) (fun c229 => ?_) (fun c229 => ?_)
                    · refine Q_iload hX dL_images_236 rfl ?_
                      have hto := hj179.out
                      refine Q_if_eq hX 246 dL_images_238 (by omega) (by decide) (fun c238 => ?_) (fun c238 => ?_)
                      · refine Q_iload hX dL_images_246 rfl ?_
                        refine Q_sipush hX dL_images_248 rfl ?_
                        refine Q_icmp_ne hX 263 dL_images_251 (by omega) (by decide) (by decide) (fun c251 => ?_) (fun c251 => ((by omega : False)).elim)
                        refine Q_aload_n hX dL_images_263 rfl ?_
                        refine Q_iload hX dL_images_264 rfl ?_
                        refine Q_bipush hX dL_images_266 rfl ?_
                        refine Q_ask hX hl (u := 1) _ dL_images_268 cwL_node (a_node (n9 := o) (k := 11) hE (by omega) (by decide) (nodeOK hob.1 (by decide)) (v := S 9 o) (nv_11 (by decide) hob.1 hob.2)) rfl (Nat.le_of_ble_eq_true rfl) ⟨by decide, by decide⟩ ?_
                        exact Q_to (JN271 _ (by rw [sfe]; (repeat' split) <;> first | rfl | (exfalso; omega))) rfl (by omega) rfl
                      · refine Q_bipush hX dL_images_241 rfl ?_
                        refine Q_goto hX 271 dL_images_243 (by decide) ?_
                        exact Q_to (JN271 _ (by rw [sfe]; (repeat' split) <;> first | rfl | (exfalso; omega))) rfl (by omega) rfl
                    · refine Q_iconst hX dL_images_232 ?_
                      refine Q_goto hX 271 dL_images_233 (by decide) ?_
                      exact Q_to (JN271 _ (by rw [sfe]; (repeat' split) <;> first | rfl | (exfalso; omega))) rfl (by omega) rfl
                  refine Q_iload hX dL_images_181 rfl ?_
                  refine Q_bipush hX dL_images_183 rfl ?_
                  refine Q_icmp_ne hX 207 dL_images_185 (by decide) (by decide) (by decide) (fun _ => ?_) (fun h => absurd h (by decide))
                  refine Q_iload hX dL_images_207 rfl ?_
                  refine Q_iload_n hX dL_images_209 rfl ?_
                  refine Q_aload_n hX dL_images_210 rfl ?_
                  refine Q_bipush hX dL_images_211 rfl ?_
                  refine Q_ask hX hl (u := 1) _ dL_images_213 cwL_whole (a_whole (k := 11) hE (by decide) (by decide) (v := WB) ((wv_11 (by decide)).trans hWB)) rfl (Nat.le_of_ble_eq_true rfl) ⟨by decide, by decide⟩ ?_
                  refine Q_isub hX dL_images_216 ?_
                  refine Q_icmp_lt hX 224 dL_images_217 (by omega) (by omega) (by decide) (fun c217 => ?_) (fun c217 => ?_)
                  · refine Q_iconst hX dL_images_224 ?_
                    exact Q_to (JN225 _ (Hid.mk (by omega))) rfl (by omega) rfl
                  · refine Q_iconst hX dL_images_220 ?_
                    refine Q_goto hX 225 dL_images_221 (by decide) ?_
                    exact Q_to (JN225 _ (Hid.mk (by omega))) rfl (by omega) rfl
                refine Q_aload_n hX dL_images_130 rfl ?_
                refine Q_iconst hX dL_images_131 ?_
                refine Q_ask hX hl (u := 1) _ dL_images_132 cwL_title (a_title (k := 3) hE (by decide) (by decide) (v := TR) ((tv_3 (by decide) hn7.out).trans hTR)) rfl (Nat.le_of_ble_eq_true rfl) ⟨by decide, by decide⟩ ?_
                refine Q_iload hX dL_images_135 rfl ?_
                refine Q_icmp_ne hX 178 dL_images_137 (by omega) (by omega) (by decide) (fun c137 => ?_) (fun c137 => ?_)
                · refine Q_iconst hX dL_images_178 ?_
                  exact Q_to (JN179 _ (Hid.mk (by omega))) rfl (by omega) rfl
                · refine Q_iload hX dL_images_140 rfl ?_
                  refine Q_aload_n hX dL_images_142 rfl ?_
                  refine Q_iload hX dL_images_143 rfl ?_
                  refine Q_bipush hX dL_images_145 rfl ?_
                  refine Q_isub hX dL_images_147 ?_
                  refine Q_ask hX hl (u := 1) _ dL_images_148 cwL_title (a_title (k := (15 - 9)) hE (by decide) (by decide) (v := TB) ((tv_6 (by decide) hn7.out).trans hTB)) rfl (Nat.le_of_ble_eq_true rfl) ⟨by decide, by decide⟩ ?_
                  refine Q_icmp_lt hX 178 dL_images_151 (by omega) (by omega) (by decide) (fun c151 => ?_) (fun c151 => ?_)
                  · refine Q_iconst hX dL_images_178 ?_
                    exact Q_to (JN179 _ (Hid.mk (by omega))) rfl (by omega) rfl
                  · refine Q_iload hX dL_images_154 rfl ?_
                    refine Q_aload_n hX dL_images_156 rfl ?_
                    refine Q_iload hX dL_images_157 rfl ?_
                    refine Q_bipush hX dL_images_159 rfl ?_
                    refine Q_isub hX dL_images_161 ?_
                    refine Q_ask hX hl (u := 1) _ dL_images_162 cwL_title (a_title (k := (15 - 9)) hE (by decide) (by decide) (v := TB) ((tv_6 (by decide) hn7.out).trans hTB)) rfl (Nat.le_of_ble_eq_true rfl) ⟨by decide, by decide⟩ ?_
                    refine Q_aload_n hX dL_images_165 rfl ?_
                    refine Q_iconst hX dL_images_166 ?_
                    refine Q_ask hX hl (u := 1) _ dL_images_167 cwL_title (a_title (k := 2) hE (by decide) (by decide) (v := S 0 7) (tv_2 (by decide) hn7.out)) rfl (Nat.le_of_ble_eq_true rfl) ⟨by decide, by decide⟩ ?_
                    refine Q_iadd hX dL_images_170 ?_
                    refine Q_icmp_ge hX 178 dL_images_171 (by omega) (by omega) (by decide) (fun c171 => ?_) (fun c171 => ?_)
                    · refine Q_iconst hX dL_images_178 ?_
                      exact Q_to (JN179 _ (Hid.mk (by omega))) rfl (by omega) rfl
                    · refine Q_iconst hX dL_images_174 ?_
                      refine Q_goto hX 179 dL_images_175 (by decide) ?_
                      exact Q_to (JN179 _ (Hid.mk (by omega))) rfl (by omega) rfl
          refine Q_iload hX dL_images_53 rfl ?_
          refine Q_iload hX dL_images_55 rfl ?_
          refine Q_icmp_le hX 68 dL_images_57 (by omega) (by omega) (by decide) (fun c57 => ?_) (fun c57 => ?_)
          · refine Q_iload hX dL_images_68 rfl ?_
            refine Q_iload hX dL_images_70 rfl ?_
            refine Q_isub hX dL_images_72 ?_
            exact Q_to (JN73 _ ⟨by rw [ge]; congr 2; split <;> omega, by omega, by omega⟩) rfl (by omega) rfl
          · refine Q_iload hX dL_images_60 rfl ?_
            refine Q_iload hX dL_images_62 rfl ?_
            refine Q_isub hX dL_images_64 ?_
            refine Q_goto hX 73 dL_images_65 (by decide) ?_
            exact Q_to (JN73 _ ⟨by rw [ge]; congr 2; split <;> omega, by omega, by omega⟩) rfl (by omega) rfl
      exact Q_to (HL25 0 (Nat.zero_le _) 0 0 ⟨rfl, rfl, by decide, by decide⟩) rfl (by omega) rfl
  rw [hZ] at main
  exact main n0 M 0 0 hI (Nat.le_of_ble_eq_true rfl) (Nat.le_of_ble_eq_true rfl)
