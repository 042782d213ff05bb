set_option maxHeartbeats 16000000 in
set_option maxRecDepth 100000 in
theorem lc_set {E : EE} {X : JX} {x : Nat} {T : Int} {S : MM} {c : Int} {P : MM} {c0 s0 q : Nat} {n xx yy k : Int} (hX : XO E X cL_law RL 17 12 c0 s0) (hl : XL X) (hE : ∀ U, SF E U → ThF E U ∧ NcF U) (hE2 : ∀ U, SF E U → CF E U) (hW : WFS T S) (hT : T + 1000 ≤ 1000000000) (h80 : S 0 3 ≤ 80) (hxx : i32 xx) (hyy : i32 yy) (hk : 0 ≤ k ∧ (S 1 0 ≠ 0 → k < S 1 0))
    (k1 : ∀ S2 c2 P2, WFS (T + 200) S2 → S2 0 3 ≤ 80 → LJ E X (x, T + 200, S2, c2, P2, c0, s0) q 1381 [(0, .ref (1000000 + 50)), (1, .ref x), (3, vI n), (5, vI yy)] []) : LJ E X (x, T, S, c, P, c0, s0) (q + 120) 916 [(0, .ref (1000000 + 50)), (1, .ref x), (3, vI n), (4, vI xx), (5, vI yy), (6, vI (S 1 0)), (8, vI k)] [] := by
  have w9 := hW.2.1
  unfold WFSs at w9
  refine L_iload hX hl dL_law_916 rfl ?_
  refine L_iconst hX hl dL_law_918 ?_
  refine L_low hX hl dL_law_919 (by first | omega | exact shrI_r _ _) ⟨by omega, by omega⟩ (Nat.le_of_ble_eq_true rfl) (by decide) ?_
  obtain ⟨lw1, elw1⟩ : ∃ v : Int, low yy 4 = v := ⟨_, rfl⟩
  have rlw1 : 0 ≤ lw1 ∧ lw1 < 4 := elw1 ▸ low_r (by omega)
  rw [elw1]
  refine L_istore hX hl dL_law_922 (by decide) ?_
  have JN970 : ∀ (to : Int), (Hid (fSe lw1 to) ∧ 0 ≤ to ∧ to ≤ 100) → LJ E X (x, T, S, c, P, c0, s0) (q + 120) 970 [(0, .ref (1000000 + 50)), (1, .ref x), (3, vI n), (5, vI yy), (9, vI lw1)] [vI to] := by
    intro to  hj970
    obtain ⟨hse, ht0, ht1⟩ := hj970
    have l3 : 0 ≤ lw1 ∧ lw1 ≤ 3 := by omega
    have q15 := set15 hW l3
    refine L_istore hX hl dL_law_970 (by decide) ?_
    refine L_aload_n hX hl dL_law_972 rfl ?_
    refine L_bipush hX hl dL_law_973 rfl ?_
    refine L_iload hX hl dL_law_975 rfl ?_
    refine L_iadd hX hl dL_law_977 ?_
    refine L_ask hX hl (u := 1) _ dL_law_978 cwL_whole (a_whole (k := 12 + lw1) hE (by omega) (if_pos ⟨by omega, by omega⟩) (v := S 15 lw1) (wv_set l3)) rfl (Nat.le_of_ble_eq_true rfl) ⟨by decide, by decide⟩ (fun _ _ => rfl) (fun K9 h1 h2 => ⟨⟨h2, ⟨h1, trivial⟩⟩, trivial⟩) ?_
    refine L_istore hX hl dL_law_981 (by decide) ?_
    refine L_aload_n hX hl dL_law_983 rfl ?_
    refine L_iload hX hl dL_law_984 rfl ?_
    refine L_iload hX hl dL_law_986 rfl ?_
    refine L_do hX hl _ dL_law_988 cwL_set (d_set hE (by omega) (by omega) hE2 hse.out) rfl (Nat.le_of_ble_eq_true rfl) ⟨by decide, by decide⟩ (fun K9 h1 h2 => ⟨⟨h2, ⟨h1, trivial⟩⟩, trivial⟩) (fun tv S2 c2 P2 hφ hW2 => ?_)
    obtain ⟨⟨hv, hS2⟩, hc2, hP2⟩ := hφ
    have sf := seF S lw1 to
    rw [← hS2] at sf
    refine L_iload hX hl dL_law_991 rfl ?_
    refine L_icmp_ne hX hl 1038 dL_law_993 (by first | omega | exact shrI_r _ _) (by first | omega | exact shrI_r _ _) (by decide) (fun c993 => ?_) (fun c993 => ?_)
    · skip
      exfalso
      omega
    · refine L_aload_n hX hl dL_law_996 rfl ?_
      refine L_bipush hX hl dL_law_997 rfl ?_
      refine L_iload hX hl dL_law_999 rfl ?_
      refine L_iadd hX hl dL_law_1001 ?_
      refine L_ask hX hl (u := 1) _ dL_law_1002 cwL_whole (a_whole (k := 12 + lw1) hE (by omega) (if_pos ⟨by omega, by omega⟩) (v := S2 15 lw1) (wv_set l3)) rfl (Nat.le_of_ble_eq_true rfl) ⟨by decide, by decide⟩ (fun _ _ => rfl) (fun K9 h1 h2 => ⟨⟨h2, ⟨h1, trivial⟩⟩, trivial⟩) ?_
      refine L_iload hX hl dL_law_1005 rfl ?_
      refine L_icmp_ne hX hl 1038 dL_law_1007 (by first | omega | exact shrI_r _ _) (by first | omega | exact shrI_r _ _) (by decide) (fun c1007 => ?_) (fun c1007 => ?_)
      · skip
        exfalso
        omega
      · refine L_iload hX hl dL_law_1010 rfl ?_
        refine L_if_ne hX hl 1040 dL_law_1012 (by first | omega | exact shrI_r _ _) (by decide) (fun c1012 => ?_) (fun c1012 => ?_)
        · refine L_goto hX hl 1381 dL_law_1040 (by decide) ?_
          exact L_to hX hl (L_mo (by omega) (by omega) (k1 S2 _ _ (WFS_mono hW2 (by omega) (by omega)) (by rw [sf.2]; exact h80))) rfl (by omega) rfl
        · refine L_iload hX hl dL_law_1015 rfl ?_
          refine L_bipush hX hl dL_law_1017 rfl ?_
          refine L_ishr hX hl dL_law_1019 ?_
          refine L_iconst hX hl dL_law_1020 ?_
          refine L_low hX hl dL_law_1021 (by first | omega | exact shrI_r _ _) ⟨by omega, by omega⟩ (Nat.le_of_ble_eq_true rfl) (by decide) ?_
          obtain ⟨lw2, elw2⟩ : ∃ v : Int, low (shrI yy 9) 3 = v := ⟨_, rfl⟩
          have rlw2 : 0 ≤ lw2 ∧ lw2 < 3 := elw2 ▸ low_r (by omega)
          rw [elw2]
          refine L_if_ne hX hl 1040 dL_law_1024 (by first | omega | exact shrI_r _ _) (by decide) (fun c1024 => ?_) (fun c1024 => ?_)
          · refine L_goto hX hl 1381 dL_law_1040 (by decide) ?_
            exact L_to hX hl (L_mo (by omega) (by omega) (k1 S2 _ _ (WFS_mono hW2 (by omega) (by omega)) (by rw [sf.2]; exact h80))) rfl (by omega) rfl
          · refine L_aload_n hX hl dL_law_1027 rfl ?_
            refine L_iconst hX hl dL_law_1028 ?_
            refine L_iconst hX hl dL_law_1029 ?_
            have e0 : S2 15 0 = to := by rw [c1012] at sf; exact sf.1
            have q152 := set15 hW2 (w := 0) (by decide)
            refine L_do hX hl _ dL_law_1030 cwL_set (d_set hE (by decide) (by decide) hE2 (by decide)) rfl (Nat.le_of_ble_eq_true rfl) ⟨by decide, by decide⟩ (fun K9 h1 h2 => ⟨⟨h2, ⟨h1, trivial⟩⟩, trivial⟩) (fun tv3 S3 c3 P3 hφ3 hW3 => ?_)
            obtain ⟨⟨hv3, hS3⟩, -, -⟩ := hφ3
            have sf3 := seF S2 0 0
            rw [← hS3] at sf3
            have h83 : S3 0 3 ≤ 80 := by rw [sf3.2, sf.2]; exact h80
            refine L_iload hX hl dL_law_1033 rfl ?_
            refine L_icmp_eq hX hl 1040 dL_law_1035 (by first | omega | exact shrI_r _ _) (by first | omega | exact shrI_r _ _) (by decide) (fun c1035 => ?_) (fun c1035 => ?_)
            · refine L_goto hX hl 1381 dL_law_1040 (by decide) ?_
              exact L_to hX hl (L_mo (by omega) (by omega) (k1 S3 _ _ (WFS_mono hW3 (by omega) (by omega)) h83)) rfl (by omega) rfl
            · skip
              exfalso
              omega
  refine L_iload hX hl dL_law_924 rfl ?_
  refine L_iconst hX hl dL_law_926 ?_
  refine L_icmp_ne hX hl 943 dL_law_927 (by first | omega | exact shrI_r _ _) (by decide) (by decide) (fun c927 => ?_) (fun c927 => ?_)
  · refine L_iload hX hl dL_law_943 rfl ?_
    refine L_iconst hX hl dL_law_945 ?_
    refine L_icmp_ne hX hl 961 dL_law_946 (by first | omega | exact shrI_r _ _) (by decide) (by decide) (fun c946 => ?_) (fun c946 => ?_)
    · refine L_iload hX hl dL_law_961 rfl ?_
      refine L_iconst hX hl dL_law_963 ?_
      refine L_ishr hX hl dL_law_964 ?_
      refine L_bipush hX hl dL_law_965 rfl ?_
      refine L_low hX hl dL_law_967 (by first | omega | exact shrI_r _ _) ⟨by omega, by omega⟩ (Nat.le_of_ble_eq_true rfl) (by decide) ?_
      obtain ⟨lw3, elw3⟩ : ∃ v : Int, low (shrI yy 2) 101 = v := ⟨_, rfl⟩
      have rlw3 : 0 ≤ lw3 ∧ lw3 < 101 := elw3 ▸ low_r (by omega)
      rw [elw3]
      exact L_to hX hl (JN970 _ ⟨Hid.mk (by unfold fSe; omega), by omega, by omega⟩) rfl (by omega) rfl
    · refine L_iload hX hl dL_law_949 rfl ?_
      refine L_iconst hX hl dL_law_951 ?_
      refine L_ishr hX hl dL_law_952 ?_
      refine L_bipush hX hl dL_law_953 rfl ?_
      refine L_low hX hl dL_law_955 (by first | omega | exact shrI_r _ _) ⟨by omega, by omega⟩ (Nat.le_of_ble_eq_true rfl) (by decide) ?_
      obtain ⟨lw4, elw4⟩ : ∃ v : Int, low (shrI yy 2) 16 = v := ⟨_, rfl⟩
      have rlw4 : 0 ≤ lw4 ∧ lw4 < 16 := elw4 ▸ low_r (by omega)
      rw [elw4]
      refine L_goto hX hl 970 dL_law_958 (by decide) ?_
      exact L_to hX hl (JN970 _ ⟨Hid.mk (by unfold fSe; omega), by omega, by omega⟩) rfl (by omega) rfl
  · refine L_iconst hX hl dL_law_930 ?_
    refine L_iload hX hl dL_law_931 rfl ?_
    refine L_iconst hX hl dL_law_933 ?_
    refine L_ishr hX hl dL_law_934 ?_
    refine L_iconst hX hl dL_law_935 ?_
    refine L_low hX hl dL_law_936 (by first | omega | exact shrI_r _ _) ⟨by omega, by omega⟩ (Nat.le_of_ble_eq_true rfl) (by decide) ?_
    obtain ⟨lw5, elw5⟩ : ∃ v : Int, low (shrI yy 2) 5 = v := ⟨_, rfl⟩
    have rlw5 : 0 ≤ lw5 ∧ lw5 < 5 := elw5 ▸ low_r (by omega)
    rw [elw5]
    refine L_iadd hX hl dL_law_939 ?_
    refine L_goto hX hl 970 dL_law_940 (by decide) ?_
    exact L_to hX hl (JN970 _ ⟨Hid.mk (by unfold fSe; omega), by omega, by omega⟩) rfl (by omega) rfl
