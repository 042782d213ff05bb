set_option maxHeartbeats 16000000 in
set_option maxRecDepth 100000 in
theorem lc_shade {E : EE} {X : JX} {x : Nat} {T : Int} {S : MM} {c : Int} {P : MM} {c0 s0 q : Nat} {n xx yy k : Int} (hX : XO E X cL_law RL 17 12 c0 s0) (hl : XL X) (hE : ∀ U, SF E U → ThF E U ∧ NcF U) (hE2 : ∀ U, SF E U → CF E U) (hW : WFS T S) (hT : T + 1000 ≤ 1000000000) (h80 : S 0 3 ≤ 80) (hxx : i32 xx) (hyy : i32 yy) (hk : 0 ≤ k ∧ (S 1 0 ≠ 0 → k < S 1 0)) (hn0 : 0 < S 1 0)
    (k1 : ∀ S2 c2 P2, WFS (T + 200) S2 → S2 0 3 ≤ 80 → LJ E X (x, T + 200, S2, c2, P2, c0, s0) q 1381 [(0, .ref (1000000 + 50)), (1, .ref x), (3, vI n), (5, vI yy)] []) : LJ E X (x, T, S, c, P, c0, s0) (q + 120) 604 [(0, .ref (1000000 + 50)), (1, .ref x), (3, vI n), (4, vI xx), (5, vI yy), (6, vI (S 1 0)), (8, vI k)] [] := by
  have w9 := hW.2.1
  unfold WFSs at w9
  have hsk : hs S k := ⟨by omega, by omega, by omega⟩
  obtain ⟨-, -, -, -, -, -, -, -, g9⟩ := hW.2.2.1 k hsk.1 hsk.2.1
  refine L_aload_n hX hl dL_law_604 rfl ?_
  by_cases hb : 0 < S 7 k
  · skip
    refine L_iload hX hl dL_law_605 rfl ?_
    refine L_bipush hX hl dL_law_607 rfl ?_
    refine L_ask hX hl (u := 1) _ dL_law_609 cwL_node (a_node (n9 := k) (k := 11) hE (by first | omega | exact shrI_r _ _) (by decide) (nodeOK hsk (by decide)) (v := S 9 k) (nv_11 (by decide) hsk hb)) rfl (Nat.le_of_ble_eq_true rfl) ⟨by decide, by decide⟩ (fun _ _ => rfl) (fun K9 h1 h2 => ⟨⟨h2, ⟨h1, trivial⟩⟩, trivial⟩) ?_
    refine L_istore hX hl dL_law_612 (by decide) ?_
    refine L_aload_n hX hl dL_law_614 rfl ?_
    refine L_iload hX hl dL_law_615 rfl ?_
    refine L_iload hX hl dL_law_617 rfl ?_
    refine L_bipush hX hl dL_law_619 rfl ?_
    refine L_low hX hl dL_law_621 (by first | omega | exact shrI_r _ _) ⟨by omega, by omega⟩ (Nat.le_of_ble_eq_true rfl) (by decide) ?_
    obtain ⟨lw1, elw1⟩ : ∃ v : Int, low yy 16 = v := ⟨_, rfl⟩
    have rlw1 : 0 ≤ lw1 ∧ lw1 < 16 := elw1 ▸ low_r (by omega)
    rw [elw1]
    refine L_do hX hl _ dL_law_624 cwL_setShade (d_setShade hE (by omega) (by omega) ⟨hsk, ⟨hsk, hb⟩, by omega⟩) rfl (Nat.le_of_ble_eq_true rfl) ⟨by decide, by decide⟩ (fun K9 h1 h2 => ⟨⟨h2, ⟨h1, trivial⟩⟩, trivial⟩) (fun tv S2 c2 P2 hφ hW2 => ?_)
    obtain ⟨⟨hv, hS2⟩, hc2, hP2⟩ := hφ
    have sf := shF S k lw1
    rw [← hS2] at sf
    have hk2 : hs S2 k := ⟨by omega, by omega, by omega⟩
    have hb2 : 0 < S2 7 k := by omega
    refine L_istore hX hl dL_law_627 (by decide) ?_
    refine L_iload hX hl dL_law_629 rfl ?_
    refine L_iload hX hl dL_law_631 rfl ?_
    refine L_sipush hX hl dL_law_633 rfl ?_
    refine L_icmp_ne hX hl 644 dL_law_636 (by first | omega | exact shrI_r _ _) (by decide) (by decide) (fun c636 => ?_) (fun c636 => ((by omega : False)).elim)
    refine L_iload hX hl dL_law_644 rfl ?_
    refine L_icmp_ne hX hl 675 dL_law_646 (by first | omega | exact shrI_r _ _) (by first | omega | exact shrI_r _ _) (by decide) (fun c646 => ?_) (fun c646 => ?_)
    · skip
      exfalso
      omega
    · refine L_iload hX hl dL_law_649 rfl ?_
      refine L_sipush hX hl dL_law_651 rfl ?_
      refine L_icmp_eq hX hl 677 dL_law_654 (by first | omega | exact shrI_r _ _) (by decide) (by decide) (fun c654 => ((by omega : False)).elim) (fun c654 => ?_)
      refine L_aload_n hX hl dL_law_657 rfl ?_
      refine L_iload hX hl dL_law_658 rfl ?_
      refine L_bipush hX hl dL_law_660 rfl ?_
      refine L_ask hX hl (u := 1) _ dL_law_662 cwL_node (a_node (n9 := k) (k := 11) hE (by first | omega | exact shrI_r _ _) (by decide) (nodeOK hk2 (by decide)) (v := S2 9 k) (nv_11 (by decide) hk2 hb2)) rfl (Nat.le_of_ble_eq_true rfl) ⟨by decide, by decide⟩ (fun _ _ => rfl) (fun K9 h1 h2 => ⟨⟨h2, ⟨h1, trivial⟩⟩, trivial⟩) ?_
      refine L_iload hX hl dL_law_665 rfl ?_
      refine L_bipush hX hl dL_law_667 rfl ?_
      refine L_low hX hl dL_law_669 (by first | omega | exact shrI_r _ _) ⟨by omega, by omega⟩ (Nat.le_of_ble_eq_true rfl) (by decide) ?_
      rw [elw1]
      refine L_icmp_eq hX hl 677 dL_law_672 (by first | omega | exact shrI_r _ _) (by first | omega | exact shrI_r _ _) (by decide) (fun c672 => ?_) (fun c672 => ?_)
      · refine L_goto hX hl 1381 dL_law_677 (by decide) ?_
        exact L_to hX hl (L_mo (by omega) (by omega) (k1 S2 _ _ (WFS_mono hW2 (by omega) (by omega)) (by rw [sf.2.2.2]; exact h80))) rfl (by omega) rfl
      · skip
        exfalso
        omega
  · skip
    refine L_iload hX hl dL_law_605 rfl ?_
    refine L_bipush hX hl dL_law_607 rfl ?_
    refine L_ask hX hl (u := 1) _ dL_law_609 cwL_node (a_node (n9 := k) (k := 11) hE (by first | omega | exact shrI_r _ _) (by decide) (nodeOK hsk (by decide)) (v := (-1000)) (nv_g hb (by decide))) rfl (Nat.le_of_ble_eq_true rfl) ⟨by decide, by decide⟩ (fun _ _ => rfl) (fun K9 h1 h2 => ⟨⟨h2, ⟨h1, trivial⟩⟩, trivial⟩) ?_
    refine L_istore hX hl dL_law_612 (by decide) ?_
    refine L_aload_n hX hl dL_law_614 rfl ?_
    refine L_iload hX hl dL_law_615 rfl ?_
    refine L_iload hX hl dL_law_617 rfl ?_
    refine L_bipush hX hl dL_law_619 rfl ?_
    refine L_low hX hl dL_law_621 (by first | omega | exact shrI_r _ _) ⟨by omega, by omega⟩ (Nat.le_of_ble_eq_true rfl) (by decide) ?_
    obtain ⟨lw2, elw2⟩ : ∃ v : Int, low yy 16 = v := ⟨_, rfl⟩
    have rlw2 : 0 ≤ lw2 ∧ lw2 < 16 := elw2 ▸ low_r (by omega)
    rw [elw2]
    have f2 : fCoS S k lw2 = 2 := (if_neg (not_not_intro hsk)).trans (if_neg (fun z => hb z.1.2))
    refine L_ask hX hl (u := 20) _ dL_law_624 cwL_setShade (AskH_v (no_setShade hE (by omega) (by omega) (by rw [f2]; decide)) (v2 := -90100) (by rw [f2]; rfl)) rfl (Nat.le_of_ble_eq_true rfl) ⟨by decide, by decide⟩ (fun _ _ => rfl) (fun K9 h1 h2 => ⟨⟨h2, ⟨h1, trivial⟩⟩, trivial⟩) ?_
    refine L_istore hX hl dL_law_627 (by decide) ?_
    refine L_iload hX hl dL_law_629 rfl ?_
    refine L_iload hX hl dL_law_631 rfl ?_
    refine L_sipush hX hl dL_law_633 rfl ?_
    refine L_icmp_ne hX hl 644 dL_law_636 (by decide) (by decide) (by decide) (fun h => absurd (by decide) h) (fun _ => ?_)
    refine L_ldcI hX hl kI_17 dL_law_639 ?_
    refine L_goto hX hl 646 dL_law_641 (by decide) ?_
    refine L_icmp_ne hX hl 675 dL_law_646 (by decide) (by decide) (by decide) (fun h => absurd (by decide) h) (fun _ => ?_)
    refine L_iload hX hl dL_law_649 rfl ?_
    refine L_sipush hX hl dL_law_651 rfl ?_
    refine L_icmp_eq hX hl 677 dL_law_654 (by decide) (by decide) (by decide) (fun _ => ?_) (fun h => absurd (by decide) h)
    refine L_goto hX hl 1381 dL_law_677 (by decide) ?_
    exact L_to hX hl (L_mo (by omega) (by omega) (k1 S _ _ (WFS_mono hW (by omega) (by omega)) h80)) rfl (by omega) rfl
