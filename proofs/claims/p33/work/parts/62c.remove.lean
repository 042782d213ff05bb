set_option maxHeartbeats 16000000 in
set_option maxRecDepth 100000 in
theorem lc_remove {E : EE} {X : JX} {x : Nat} {T : Int} {S : MM} {c : Int} {P : MM} {c0 s0 q : Nat} {n xx yy k : Int} (hX : XO E X cL_law RL 17 12 c0 s0) (hl : XL X) (hE : ∀ U, SF E U → ThF E U ∧ NcF U) (hE2 : ∀ U, SF E U → CF E U) (hW : WFS T S) (hT : T + 1000 ≤ 1000000000) (h80 : S 0 3 ≤ 80) (hxx : i32 xx) (hyy : i32 yy) (hk : 0 ≤ k ∧ (S 1 0 ≠ 0 → k < S 1 0)) (hn0 : 0 < S 1 0)
    (k1 : ∀ S2 c2 P2, WFS (T + 200) S2 → S2 0 3 ≤ 80 → LJ E X (x, T + 200, S2, c2, P2, c0, s0) q 1381 [(0, .ref (1000000 + 50)), (1, .ref x), (3, vI n), (5, vI yy)] []) : LJ E X (x, T, S, c, P, c0, s0) (q + 120) 701 [(0, .ref (1000000 + 50)), (1, .ref x), (3, vI n), (4, vI xx), (5, vI yy), (6, vI (S 1 0)), (8, vI k)] [] := by
  have w9 := hW.2.1
  unfold WFSs at w9
  have hsk : hs S k := ⟨by omega, by omega, by omega⟩
  have rm := rmF hW hsk
  have cr := ct_rng (fun j => S 2 j = k) (cnt S)
  obtain ⟨ch, ech⟩ : ∃ v : Int, ct (fun j => S 2 j = k) (cnt S) = v := ⟨_, rfl⟩
  rw [ech] at rm cr
  have ccn : ((cnt S : Nat) : Int) = S 1 0 := by unfold cnt; omega
  refine L_aload_n hX hl dL_law_701 rfl ?_
  refine L_iload hX hl dL_law_702 rfl ?_
  refine L_bipush hX hl dL_law_704 rfl ?_
  refine L_ask hX hl (u := 1) _ dL_law_706 cwL_node (a_node (n9 := k) (k := 8) hE (by omega) (by decide) (nodeOK hsk (by decide)) (v := ch) ((nv_8 (by decide) hsk).trans ech)) rfl (Nat.le_of_ble_eq_true rfl) ⟨by decide, by decide⟩ (fun _ _ => rfl) (fun K9 h1 h2 => ⟨⟨h2, ⟨h1, trivial⟩⟩, trivial⟩) ?_
  refine L_istore hX hl dL_law_709 (by decide) ?_
  refine L_aload_n hX hl dL_law_711 rfl ?_
  refine L_iload hX hl dL_law_712 rfl ?_
  refine L_do hX hl _ dL_law_714 cwL_removeNode (d_removeNode hE (by omega) hsk) rfl (Nat.le_of_ble_eq_true rfl) ⟨by decide, by decide⟩ (fun K9 h1 h2 => ⟨⟨h2, ⟨h1, trivial⟩⟩, trivial⟩) (fun tv S2 c2 P2 hφ hW2 => ?_)
  obtain ⟨⟨hv, hd⟩, hc2, hP2⟩ := hφ
  rw [← hv] at rm
  have e1 : S2 1 0 = tv := hd.1.trans hv.symm
  refine L_istore hX hl dL_law_717 (by decide) ?_
  refine L_iload hX hl dL_law_719 rfl ?_
  refine L_iload hX hl dL_law_721 rfl ?_
  refine L_iconst hX hl dL_law_723 ?_
  refine L_isub hX hl dL_law_724 ?_
  refine L_iload hX hl dL_law_725 rfl ?_
  refine L_isub hX hl dL_law_727 ?_
  refine L_icmp_gt hX hl 774 dL_law_728 (by first | omega | exact shrI_r _ _) (by first | omega | exact shrI_r _ _) (by decide) (fun c728 => ?_) (fun c728 => ?_)
  · skip
    exfalso
    omega
  · refine L_iload hX hl dL_law_731 rfl ?_
    refine L_if_lt hX hl 774 dL_law_733 (by first | omega | exact shrI_r _ _) (by decide) (fun c733 => ?_) (fun c733 => ?_)
    · skip
      exfalso
      omega
    · refine L_aload_n hX hl dL_law_736 rfl ?_
      refine L_iconst hX hl dL_law_737 ?_
      refine L_ask hX hl (u := 1) _ dL_law_738 cwL_whole (a_whole (k := 2) hE (by decide) (by decide) (v := S2 1 0) (wv_2 (by decide))) rfl (Nat.le_of_ble_eq_true rfl) ⟨by decide, by decide⟩ (fun _ _ => rfl) (fun K9 h1 h2 => ⟨⟨h2, ⟨h1, trivial⟩⟩, trivial⟩) ?_
      refine L_iload hX hl dL_law_741 rfl ?_
      refine L_icmp_ne hX hl 774 dL_law_743 (by first | omega | exact shrI_r _ _) (by first | omega | exact shrI_r _ _) (by decide) (fun c743 => ?_) (fun c743 => ?_)
      · skip
        exfalso
        omega
      · refine L_iload hX hl dL_law_746 rfl ?_
        refine L_iconst hX hl dL_law_748 ?_
        refine L_ishr hX hl dL_law_749 ?_
        refine L_iconst hX hl dL_law_750 ?_
        refine L_low hX hl dL_law_751 (by first | omega | exact shrI_r _ _) ⟨by omega, by omega⟩ (Nat.le_of_ble_eq_true rfl) (by decide) ?_
        obtain ⟨lw1, elw1⟩ : ∃ v : Int, low (shrI yy 2) 2 = v := ⟨_, rfl⟩
        have rlw1 : 0 ≤ lw1 ∧ lw1 < 2 := elw1 ▸ low_r (by omega)
        rw [elw1]
        refine L_if_ne hX hl 776 dL_law_754 (by first | omega | exact shrI_r _ _) (by decide) (fun c754 => ?_) (fun c754 => ?_)
        · refine L_goto hX hl 1381 dL_law_776 (by decide) ?_
          exact L_to hX hl (L_mo (by omega) (by omega) (k1 S2 _ _ (WFS_mono hW2 (by omega) (by omega)) (by rw [hd.2.2.1]; exact h80))) rfl (by omega) rfl
        · refine L_aload_n hX hl dL_law_757 rfl ?_
          refine L_c4 (fun hc4 => ?_)
          refine L_do hX hl _ dL_law_758 cwL_undo (d_undo hE hc2) rfl (Nat.le_of_ble_eq_true rfl) ⟨by decide, by decide⟩ (fun K9 h1 h2 => ⟨⟨h2, ⟨h1, trivial⟩⟩, trivial⟩) (fun tv3 S3 c3 P3 hφ3 hW3 => ?_)
          obtain ⟨hv3, -, hal⟩ := hφ3
          have hc5 : 0 ≤ c2 ∧ c2 ≤ 4 := hc4
          have r0 : S3 0 = S 0 := by rw [hal 0 (by decide), hP2]
          have r1 : S3 1 = S 1 := by rw [hal 1 (by decide), hP2]
          have r6 : S3 6 = S 6 := by rw [hal 6 (by decide), hP2]
          have e31 : S3 1 0 = S 1 0 := by rw [r1]
          refine L_if_lt hX hl 774 dL_law_761 (by first | omega | exact shrI_r _ _) (by decide) (fun c761 => ?_) (fun c761 => ?_)
          · skip
            exfalso
            omega
          · refine L_aload_n hX hl dL_law_764 rfl ?_
            refine L_iconst hX hl dL_law_765 ?_
            refine L_ask hX hl (u := 1) _ dL_law_766 cwL_whole (a_whole (k := 2) hE (by decide) (by decide) (v := S3 1 0) (wv_2 (by decide))) rfl (Nat.le_of_ble_eq_true rfl) ⟨by decide, by decide⟩ (fun _ _ => rfl) (fun K9 h1 h2 => ⟨⟨h2, ⟨h1, trivial⟩⟩, trivial⟩) ?_
            refine L_iload hX hl dL_law_769 rfl ?_
            refine L_icmp_eq hX hl 776 dL_law_771 (by first | omega | exact shrI_r _ _) (by first | omega | exact shrI_r _ _) (by decide) (fun c771 => ?_) (fun c771 => ?_)
            · refine L_goto hX hl 1381 dL_law_776 (by decide) ?_
              exact L_to hX hl (L_mo (by omega) (by omega) (k1 S3 _ _ (WFS_mono hW3 (by omega) (by omega)) (by rw [r0]; exact h80))) rfl (by omega) rfl
            · skip
              exfalso
              omega
