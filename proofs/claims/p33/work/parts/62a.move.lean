/-! the law's other cases -/
theorem L_c4 {E : EE} {X : JX} {Z : QZ} {q pc : Nat} {L : List (Nat × Value)} {st : List Value} (k1 : 0 ≤ Z.c ∧ Z.c ≤ 4 → LJ E X Z q pc L st) : LJ E X Z q pc L st := fun n K M a b hI ha hb => k1 ⟨hI.c0, by
  have h1 := hI.hv.1
  have h2 := hI.hv.2.1.2
  have h3 := hI.ct
  omega⟩ n K M a b hI ha hb
theorem wv_set {S : MM} {w : Int} (h : 0 ≤ w ∧ w ≤ 3) : wvl S (12 + w) = S 15 w := by
  rcases (show w = 0 ∨ w = 1 ∨ w = 2 ∨ w = 3 by omega) with rfl | rfl | rfl | rfl <;> rfl
theorem set15 {T : Int} {S : MM} (hW : WFS T S) {w : Int} (h : 0 ≤ w ∧ w ≤ 3) : 0 ≤ S 15 w ∧ S 15 w ≤ 100 := by
  have hw := hW.2.1
  unfold WFSs at hw
  rcases (show w = 0 ∨ w = 1 ∨ w = 2 ∨ w = 3 by omega) with rfl | rfl | rfl | rfl <;> omega
theorem sm14 {T : Int} {S : MM} (hW : WFS T S) (m : Nat) (h : (m : Int) ≤ S 11 0) : 0 ≤ sm (S 14) m ∧ sm (S 14) m ≤ 400 := by
  have hw := hW.2.1
  unfold WFSs at hw
  have := sm_rng (f := S 14) (A := 50) (k := m) (fun j hj => by
    have q := (hW.2.2.2 j (by omega) (by omega)).2.2
    omega)
  omega
theorem mul_tk {t r : Int} (h1 : 1 ≤ t ∧ t ≤ 12) (h2 : 1 ≤ r ∧ r ≤ 5) : 0 ≤ t * r ∧ t * r ≤ 60 := by
  have a := Int.mul_nonneg (a := t) (b := r) (by omega) (by omega)
  have b : t * r ≤ 12 * 5 := Int.mul_le_mul (by omega) (by omega) (by omega) (by decide)
  omega

set_option maxHeartbeats 16000000 in
set_option maxRecDepth 100000 in
theorem lc_move {E : EE} {X : JX} {x : Nat} {T : Int} {S : MM} {c : Int} {P : MM} {c0 s0 q : Nat} {n xx yy k : Int} (hX : XO E X cL_law RL 17 12 c0 s0) (hl : XL X) (hE : ∀ U, SF E U → ThF E U ∧ NcF U) (hE2 : ∀ U, SF E U → CF E U) (hW : WFS T S) (hT : T + 1000 ≤ 1000000000) (h80 : S 0 3 ≤ 80) (hxx : i32 xx) (hyy : i32 yy) (hk : 0 ≤ k ∧ (S 1 0 ≠ 0 → k < S 1 0)) (hn0 : 0 < S 1 0)
    (k1 : ∀ S2 c2 P2, WFS (T + 200) S2 → S2 0 3 ≤ 80 → LJ E X (x, T + 200, S2, c2, P2, c0, s0) q 1381 [(0, .ref (1000000 + 50)), (1, .ref x), (3, vI n), (5, vI yy)] []) : LJ E X (x, T, S, c, P, c0, s0) (q + 120) 484 [(0, .ref (1000000 + 50)), (1, .ref x), (3, vI n), (4, vI xx), (5, vI yy), (6, vI (S 1 0)), (8, vI k)] [] := by
  have w9 := hW.2.1
  unfold WFSs at w9
  have hsk : hs S k := ⟨by omega, by omega, by omega⟩
  obtain ⟨-, -, g4, g5, g6, -, -, -, -⟩ := hW.2.2.1 k hsk.1 hsk.2.1
  refine L_aload_n hX hl dL_law_484 rfl ?_
  refine L_iload hX hl dL_law_485 rfl ?_
  refine L_iconst hX hl dL_law_487 ?_
  refine L_ask hX hl (u := 1) _ dL_law_488 cwL_node (a_node (n9 := k) (k := 3) hE (by first | omega | exact shrI_r _ _) (by decide) (nodeOK hsk (by decide)) (v := S 6 k) (nv_3 (by decide) hsk)) rfl (Nat.le_of_ble_eq_true rfl) ⟨by decide, by decide⟩ (fun _ _ => rfl) (fun K9 h1 h2 => ⟨⟨h2, ⟨h1, trivial⟩⟩, trivial⟩) ?_
  refine L_istore hX hl dL_law_491 (by decide) ?_
  refine L_iload hX hl dL_law_493 rfl ?_
  refine L_sipush hX hl dL_law_495 rfl ?_
  refine L_low hX hl dL_law_498 (by first | omega | exact shrI_r _ _) ⟨by omega, by omega⟩ (Nat.le_of_ble_eq_true rfl) (by decide) ?_
  obtain ⟨lw1, elw1⟩ : ∃ v : Int, low yy 201 = v := ⟨_, rfl⟩
  have rlw1 : 0 ≤ lw1 ∧ lw1 < 201 := elw1 ▸ low_r (by omega)
  rw [elw1]
  refine L_bipush hX hl dL_law_501 rfl ?_
  refine L_isub hX hl dL_law_503 ?_
  refine L_istore hX hl dL_law_504 (by decide) ?_
  refine L_aload_n hX hl dL_law_506 rfl ?_
  refine L_iload hX hl dL_law_507 rfl ?_
  refine L_iload hX hl dL_law_509 rfl ?_
  refine L_bipush hX hl dL_law_511 rfl ?_
  refine L_ishr hX hl dL_law_513 ?_
  refine L_bipush hX hl dL_law_514 rfl ?_
  refine L_low hX hl dL_law_516 (by first | omega | exact shrI_r _ _) ⟨by omega, by omega⟩ (Nat.le_of_ble_eq_true rfl) (by decide) ?_
  obtain ⟨lw2, elw2⟩ : ∃ v : Int, low (shrI yy 8) 60 = v := ⟨_, rfl⟩
  have rlw2 : 0 ≤ lw2 ∧ lw2 < 60 := elw2 ▸ low_r (by omega)
  rw [elw2]
  refine L_bipush hX hl dL_law_519 rfl ?_
  refine L_isub hX hl dL_law_521 ?_
  refine L_iload hX hl dL_law_522 rfl ?_
  refine L_bipush hX hl dL_law_524 rfl ?_
  refine L_ishr hX hl dL_law_526 ?_
  refine L_bipush hX hl dL_law_527 rfl ?_
  refine L_low hX hl dL_law_529 (by first | omega | exact shrI_r _ _) ⟨by omega, by omega⟩ (Nat.le_of_ble_eq_true rfl) (by decide) ?_
  obtain ⟨lw3, elw3⟩ : ∃ v : Int, low (shrI yy 14) 20 = v := ⟨_, rfl⟩
  have rlw3 : 0 ≤ lw3 ∧ lw3 < 20 := elw3 ▸ low_r (by omega)
  rw [elw3]
  refine L_iconst hX hl dL_law_532 ?_
  refine L_isub hX hl dL_law_533 ?_
  refine L_iload hX hl dL_law_534 rfl ?_
  refine L_do hX hl _ dL_law_536 cwL_move (d_move hE (by omega) (by omega) (by omega) (by omega) ⟨hsk, by unfold plc; omega⟩) rfl (Nat.le_of_ble_eq_true rfl) ⟨by decide, by decide⟩ (fun K9 h1 h2 => ⟨⟨h2, ⟨h1, trivial⟩⟩, trivial⟩) (fun tv S2 c2 P2 hφ hW2 => ?_)
  obtain ⟨⟨hv, hS2⟩, hc2, hP2⟩ := hφ
  have mf := mvF S k ((lw2 - 10)) ((lw3 - 5)) ((lw1 - 100))
  rw [← hS2] at mf
  have hk2 : hs S2 k := ⟨by omega, by omega, by omega⟩
  refine L_iload hX hl dL_law_539 rfl ?_
  refine L_icmp_ne hX hl 587 dL_law_541 (by first | omega | exact shrI_r _ _) (by first | omega | exact shrI_r _ _) (by decide) (fun c541 => ?_) (fun c541 => ?_)
  · skip
    exfalso
    omega
  · refine L_aload_n hX hl dL_law_544 rfl ?_
    refine L_iload hX hl dL_law_545 rfl ?_
    refine L_iconst hX hl dL_law_547 ?_
    refine L_ask hX hl (u := 1) _ dL_law_548 cwL_node (a_node (n9 := k) (k := 3) hE (by first | omega | exact shrI_r _ _) (by decide) (nodeOK hk2 (by decide)) (v := S2 6 k) (nv_3 (by decide) hk2)) rfl (Nat.le_of_ble_eq_true rfl) ⟨by decide, by decide⟩ (fun _ _ => rfl) (fun K9 h1 h2 => ⟨⟨h2, ⟨h1, trivial⟩⟩, trivial⟩) ?_
    refine L_iload hX hl dL_law_551 rfl ?_
    refine L_icmp_ne hX hl 587 dL_law_553 (by first | omega | exact shrI_r _ _) (by first | omega | exact shrI_r _ _) (by decide) (fun c553 => ?_) (fun c553 => ?_)
    · skip
      exfalso
      omega
    · refine L_iload hX hl dL_law_556 rfl ?_
      refine L_bipush hX hl dL_law_558 rfl ?_
      refine L_ishr hX hl dL_law_560 ?_
      refine L_iconst hX hl dL_law_561 ?_
      refine L_low hX hl dL_law_562 (by first | omega | exact shrI_r _ _) ⟨by omega, by omega⟩ (Nat.le_of_ble_eq_true rfl) (by decide) ?_
      obtain ⟨lw4, elw4⟩ : ∃ v : Int, low (shrI yy 20) 4 = v := ⟨_, rfl⟩
      have rlw4 : 0 ≤ lw4 ∧ lw4 < 4 := elw4 ▸ low_r (by omega)
      rw [elw4]
      refine L_if_ne hX hl 589 dL_law_565 (by first | omega | exact shrI_r _ _) (by decide) (fun c565 => ?_) (fun c565 => ?_)
      · refine L_goto hX hl 1381 dL_law_589 (by decide) ?_
        exact L_to hX hl (L_mo (by omega) (by omega) (k1 S2 _ _ (WFS_mono hW2 (by omega) (by omega)) (by rw [mf.2.2]; exact h80))) rfl (by omega) rfl
      · refine L_aload_n hX hl dL_law_568 rfl ?_
        refine L_c4 (fun hc4 => ?_)
        refine L_do hX hl _ dL_law_569 cwL_undo (d_undo hE hc2) rfl (Nat.le_of_ble_eq_true rfl) ⟨by decide, by decide⟩ (fun K9 h1 h2 => ⟨⟨h2, ⟨h1, trivial⟩⟩, trivial⟩) (fun tv3 S3 c3 P3 hφ3 hW3 => ?_)
        obtain ⟨hv3, -, hal⟩ := hφ3
        have hc5 : 0 ≤ c2 ∧ c2 ≤ 4 := hc4
        have r0 : S3 0 = S 0 := by rw [hal 0 (by decide), hP2]
        have r1 : S3 1 = S 1 := by rw [hal 1 (by decide), hP2]
        have r6 : S3 6 = S 6 := by rw [hal 6 (by decide), hP2]
        have hk3 : hs S3 k := by show 0 ≤ k ∧ k < S3 1 0 ∧ k < 20; rw [r1]; exact hsk
        have e36 : S3 6 k = S 6 k := by rw [r6]
        refine L_if_lt hX hl 587 dL_law_572 (by first | omega | exact shrI_r _ _) (by decide) (fun c572 => ?_) (fun c572 => ?_)
        · skip
          exfalso
          omega
        · refine L_aload_n hX hl dL_law_575 rfl ?_
          refine L_iload hX hl dL_law_576 rfl ?_
          refine L_iconst hX hl dL_law_578 ?_
          refine L_ask hX hl (u := 1) _ dL_law_579 cwL_node (a_node (n9 := k) (k := 3) hE (by first | omega | exact shrI_r _ _) (by decide) (nodeOK hk3 (by decide)) (v := S3 6 k) (nv_3 (by decide) hk3)) rfl (Nat.le_of_ble_eq_true rfl) ⟨by decide, by decide⟩ (fun _ _ => rfl) (fun K9 h1 h2 => ⟨⟨h2, ⟨h1, trivial⟩⟩, trivial⟩) ?_
          refine L_iload hX hl dL_law_582 rfl ?_
          refine L_icmp_eq hX hl 589 dL_law_584 (by first | omega | exact shrI_r _ _) (by first | omega | exact shrI_r _ _) (by decide) (fun c584 => ?_) (fun c584 => ?_)
          · refine L_goto hX hl 1381 dL_law_589 (by decide) ?_
            exact L_to hX hl (L_mo (by omega) (by omega) (k1 S3 _ _ (WFS_mono hW3 (by omega) (by omega)) (by rw [r0]; exact h80))) rfl (by omega) rfl
          · skip
            exfalso
            omega
