set_option maxHeartbeats 16000000 in
set_option maxRecDepth 100000 in
theorem lc_scene {E : EE} {X : JX} {x : Nat} {T : Int} {S : MM} {c : Int} {P : MM} {c0 s0 q : Nat} {n xx yy k : Int} (hX : XO E X cL_law RL 17 12 c0 s0) (hl : XL X) (hE : ∀ U, SF E U → ThF E U ∧ NcF U) (hE2 : ∀ U, SF E U → CF E U) (hW : WFS T S) (hT : T + 1000 ≤ 1000000000) (h80 : S 0 3 ≤ 80) (hxx : i32 xx) (hyy : i32 yy) (hk : 0 ≤ k ∧ (S 1 0 ≠ 0 → k < S 1 0))
    (k1 : ∀ S2 c2 P2, WFS (T + 200) S2 → S2 0 3 ≤ 80 → LJ E X (x, T + 200, S2, c2, P2, c0, s0) q 1381 [(0, .ref (1000000 + 50)), (1, .ref x), (3, vI n), (5, vI yy)] []) : LJ E X (x, T, S, c, P, c0, s0) (q + 120) 786 [(0, .ref (1000000 + 50)), (1, .ref x), (3, vI n), (4, vI xx), (5, vI yy), (6, vI (S 1 0)), (8, vI k)] [] := by
  have w9 := hW.2.1
  unfold WFSs at w9
  refine L_aload_n hX hl dL_law_786 rfl ?_
  refine L_iconst hX hl dL_law_787 ?_
  refine L_ask hX hl (u := 1) _ dL_law_788 cwL_whole (a_whole (k := 4) hE (by decide) (by decide) (v := S 11 0) (wv_4 (by decide))) rfl (Nat.le_of_ble_eq_true rfl) ⟨by decide, by decide⟩ (fun _ _ => rfl) (fun K9 h1 h2 => ⟨⟨h2, ⟨h1, trivial⟩⟩, trivial⟩) ?_
  refine L_istore hX hl dL_law_791 (by decide) ?_
  refine L_aload_n hX hl dL_law_793 rfl ?_
  refine L_iload hX hl dL_law_794 rfl ?_
  refine L_bipush hX hl dL_law_796 rfl ?_
  refine L_low hX hl dL_law_798 (by first | omega | exact shrI_r _ _) ⟨by omega, by omega⟩ (Nat.le_of_ble_eq_true rfl) (by decide) ?_
  obtain ⟨lw1, elw1⟩ : ∃ v : Int, low yy 21 = v := ⟨_, rfl⟩
  have rlw1 : 0 ≤ lw1 ∧ lw1 < 21 := elw1 ▸ low_r (by omega)
  rw [elw1]
  refine L_ineg hX hl dL_law_801 ?_
  refine L_iload hX hl dL_law_802 rfl ?_
  refine L_iconst hX hl dL_law_804 ?_
  refine L_ishr hX hl dL_law_805 ?_
  refine L_bipush hX hl dL_law_806 rfl ?_
  refine L_low hX hl dL_law_808 (by first | omega | exact shrI_r _ _) ⟨by omega, by omega⟩ (Nat.le_of_ble_eq_true rfl) (by decide) ?_
  obtain ⟨lw2, elw2⟩ : ∃ v : Int, low (shrI yy 5) 21 = v := ⟨_, rfl⟩
  have rlw2 : 0 ≤ lw2 ∧ lw2 < 21 := elw2 ▸ low_r (by omega)
  rw [elw2]
  refine L_iconst hX hl dL_law_811 ?_
  refine L_iload hX hl dL_law_812 rfl ?_
  refine L_bipush hX hl dL_law_814 rfl ?_
  refine L_ishr hX hl dL_law_816 ?_
  refine L_bipush hX hl dL_law_817 rfl ?_
  refine L_low hX hl dL_law_819 (by first | omega | exact shrI_r _ _) ⟨by omega, by omega⟩ (Nat.le_of_ble_eq_true rfl) (by decide) ?_
  obtain ⟨lw3, elw3⟩ : ∃ v : Int, low (shrI yy 10) 12 = v := ⟨_, rfl⟩
  have rlw3 : 0 ≤ lw3 ∧ lw3 < 12 := elw3 ▸ low_r (by omega)
  rw [elw3]
  refine L_iadd hX hl dL_law_822 ?_
  by_cases h8 : S 11 0 < 8
  · skip
    refine L_do hX hl _ dL_law_823 cwL_addScene (d_addScene hE (by omega) (by omega) (by omega) ⟨⟨⟨by omega, by omega⟩, by omega⟩, h8⟩) rfl (Nat.le_of_ble_eq_true rfl) ⟨by decide, by decide⟩ (fun K9 h1 h2 => ⟨⟨h2, ⟨h1, trivial⟩⟩, trivial⟩) (fun tv S2 c2 P2 hφ hW2 => ?_)
    obtain ⟨⟨hv, hS2⟩, -, -⟩ := hφ
    have sf := scF S ((-lw1)) (lw2) ((1 + lw3))
    rw [← hS2, ← hv] at sf
    have hs2 : hscS S2 tv := ⟨by omega, by omega, by omega⟩
    refine L_istore hX hl dL_law_826 (by decide) ?_
    refine L_iload hX hl dL_law_828 rfl ?_
    refine L_iload hX hl dL_law_830 rfl ?_
    refine L_bipush hX hl dL_law_832 rfl ?_
    refine L_icmp_ne hX hl 842 dL_law_834 (by first | omega | exact shrI_r _ _) (by decide) (by decide) (fun c834 => ?_) (fun c834 => ((by omega : False)).elim)
    refine L_iload hX hl dL_law_842 rfl ?_
    refine L_icmp_ne hX hl 904 dL_law_844 (by first | omega | exact shrI_r _ _) (by first | omega | exact shrI_r _ _) (by decide) (fun c844 => ?_) (fun c844 => ?_)
    · skip
      exfalso
      omega
    · refine L_iload hX hl dL_law_847 rfl ?_
      refine L_if_lt hX hl 906 dL_law_849 (by first | omega | exact shrI_r _ _) (by decide) (fun c849 => ?_) (fun c849 => ?_)
      · refine L_goto hX hl 1381 dL_law_906 (by decide) ?_
        exact L_to hX hl (L_mo (by omega) (by omega) (k1 S2 _ _ (WFS_mono hW2 (by omega) (by omega)) (by rw [sf.2.2]; exact h80))) rfl (by omega) rfl
      · refine L_aload_n hX hl dL_law_852 rfl ?_
        refine L_iload hX hl dL_law_853 rfl ?_
        refine L_iconst hX hl dL_law_855 ?_
        refine L_ask hX hl (u := 1) _ dL_law_856 cwL_scene (a_scene hE (by omega) (by decide) (sceneOK hs2 (by decide)) (v := S2 12 tv) (if_pos rfl)) rfl (Nat.le_of_ble_eq_true rfl) ⟨by decide, by decide⟩ (fun _ _ => rfl) (fun K9 h1 h2 => ⟨⟨h2, ⟨h1, trivial⟩⟩, trivial⟩) ?_
        refine L_iload hX hl dL_law_859 rfl ?_
        refine L_bipush hX hl dL_law_861 rfl ?_
        refine L_low hX hl dL_law_863 (by first | omega | exact shrI_r _ _) ⟨by omega, by omega⟩ (Nat.le_of_ble_eq_true rfl) (by decide) ?_
        rw [elw1]
        refine L_ineg hX hl dL_law_866 ?_
        refine L_icmp_ne hX hl 904 dL_law_867 (by first | omega | exact shrI_r _ _) (by first | omega | exact shrI_r _ _) (by decide) (fun c867 => ?_) (fun c867 => ?_)
        · skip
          exfalso
          omega
        · refine L_iload hX hl dL_law_870 rfl ?_
          refine L_if_le hX hl 906 dL_law_872 (by first | omega | exact shrI_r _ _) (by decide) (fun c872 => ?_) (fun c872 => ?_)
          · refine L_goto hX hl 1381 dL_law_906 (by decide) ?_
            exact L_to hX hl (L_mo (by omega) (by omega) (k1 S2 _ _ (WFS_mono hW2 (by omega) (by omega)) (by rw [sf.2.2]; exact h80))) rfl (by omega) rfl
          · have hs3 : hscS S2 (tv - 1) := ⟨by omega, by omega, by omega⟩
            have m3 := scv_3 (S := S2) (n := tv) (by omega)
            have ma := sm14 hW2 tv.toNat (by omega)
            have mb := sm14 hW2 (tv - 1).toNat (by omega)
            have md := (hW2.2.2.2 (tv - 1) hs3.1 hs3.2.1).2.2
            obtain ⟨sa, esa⟩ : ∃ v : Int, scv S2 tv 3 = v := ⟨_, rfl⟩
            obtain ⟨sb, esb⟩ : ∃ v : Int, scv S2 (tv - 1) 3 = v := ⟨_, rfl⟩
            obtain ⟨sd, esd⟩ : ∃ v : Int, scv S2 (tv - 1) 2 = v := ⟨_, rfl⟩
            have qa : sm (S2 14) tv.toNat = sa := by rw [← esa]; simp [scv]
            have qb : sm (S2 14) (tv - 1).toNat = sb := by rw [← esb]; simp [scv]
            have qd : S2 14 (tv - 1) = sd := by rw [← esd]; simp [scv]
            rw [qa, qb, qd] at m3
            rw [qa] at ma
            rw [qb] at mb
            rw [qd] at md
            refine L_aload_n hX hl dL_law_875 rfl ?_
            refine L_iload hX hl dL_law_876 rfl ?_
            refine L_iconst hX hl dL_law_878 ?_
            refine L_ask hX hl (u := 1) _ dL_law_879 cwL_scene (a_scene hE (by omega) (by decide) (sceneOK hs2 (by decide)) (v := sa) esa) rfl (Nat.le_of_ble_eq_true rfl) ⟨by decide, by decide⟩ (fun _ _ => rfl) (fun K9 h1 h2 => ⟨⟨h2, ⟨h1, trivial⟩⟩, trivial⟩) ?_
            refine L_aload_n hX hl dL_law_882 rfl ?_
            refine L_iload hX hl dL_law_883 rfl ?_
            refine L_iconst hX hl dL_law_885 ?_
            refine L_isub hX hl dL_law_886 ?_
            refine L_iconst hX hl dL_law_887 ?_
            refine L_ask hX hl (u := 1) _ dL_law_888 cwL_scene (a_scene hE (by omega) (by decide) (sceneOK hs3 (by decide)) (v := sb) esb) rfl (Nat.le_of_ble_eq_true rfl) ⟨by decide, by decide⟩ (fun _ _ => rfl) (fun K9 h1 h2 => ⟨⟨h2, ⟨h1, trivial⟩⟩, trivial⟩) ?_
            refine L_aload_n hX hl dL_law_891 rfl ?_
            refine L_iload hX hl dL_law_892 rfl ?_
            refine L_iconst hX hl dL_law_894 ?_
            refine L_isub hX hl dL_law_895 ?_
            refine L_iconst hX hl dL_law_896 ?_
            refine L_ask hX hl (u := 1) _ dL_law_897 cwL_scene (a_scene hE (by omega) (by decide) (sceneOK hs3 (by decide)) (v := sd) esd) rfl (Nat.le_of_ble_eq_true rfl) ⟨by decide, by decide⟩ (fun _ _ => rfl) (fun K9 h1 h2 => ⟨⟨h2, ⟨h1, trivial⟩⟩, trivial⟩) ?_
            refine L_iadd hX hl dL_law_900 ?_
            refine L_icmp_eq hX hl 906 dL_law_901 (by first | omega | exact shrI_r _ _) (by first | omega | exact shrI_r _ _) (by decide) (fun c901 => ?_) (fun c901 => ?_)
            · refine L_goto hX hl 1381 dL_law_906 (by decide) ?_
              exact L_to hX hl (L_mo (by omega) (by omega) (k1 S2 _ _ (WFS_mono hW2 (by omega) (by omega)) (by rw [sf.2.2]; exact h80))) rfl (by omega) rfl
            · skip
              exfalso
              omega
  · skip
    have f3 : fSS S ((-lw1)) (lw2) ((1 + lw3)) = 3 := (if_pos ⟨⟨by omega, by omega⟩, by omega⟩).trans (if_pos (by omega))
    refine L_ask hX hl (u := 20) _ dL_law_823 cwL_addScene (AskH_v (no_addScene hE (by omega) (by omega) (by omega) (by rw [f3]; decide)) (v2 := -90200) (by rw [f3]; rfl)) rfl (Nat.le_of_ble_eq_true rfl) ⟨by decide, by decide⟩ (fun _ _ => rfl) (fun K9 h1 h2 => ⟨⟨h2, ⟨h1, trivial⟩⟩, trivial⟩) ?_
    refine L_istore hX hl dL_law_826 (by decide) ?_
    refine L_iload hX hl dL_law_828 rfl ?_
    refine L_iload hX hl dL_law_830 rfl ?_
    refine L_bipush hX hl dL_law_832 rfl ?_
    refine L_icmp_ne hX hl 842 dL_law_834 (by first | omega | exact shrI_r _ _) (by decide) (by decide) (fun c834 => ((by omega : False)).elim) (fun c834 => ?_)
    refine L_ldcI hX hl kI_27 dL_law_837 ?_
    refine L_goto hX hl 844 dL_law_839 (by decide) ?_
    refine L_icmp_ne hX hl 904 dL_law_844 (by decide) (by decide) (by decide) (fun h => absurd (by decide) h) (fun _ => ?_)
    refine L_iload hX hl dL_law_847 rfl ?_
    refine L_if_lt hX hl 906 dL_law_849 (by decide) (by decide) (fun _ => ?_) (fun h => absurd (by decide) h)
    refine L_goto hX hl 1381 dL_law_906 (by decide) ?_
    exact L_to hX hl (L_mo (by omega) (by omega) (k1 S _ _ (WFS_mono hW (by omega) (by omega)) h80)) rfl (by omega) rfl
