/-! the law's loop, and its end -/
set_option maxHeartbeats 4000000 in
set_option maxRecDepth 100000 in
theorem law_loop {E : EE} {X : JX} {c0 s0 N x r o : Nat} {sc : Int → Int} (hX : XO E X cL_law RL 9 12 c0 s0) (hl : XL X) (hE : LF E N sc) (hS : Sep x r o) (hN : N < 1000000) (hfin : ∀ i K M a b, a ≤ c0 → b ≤ s0 → JP E X 2019 (LL x r o i) [] K M a b) :
    ∀ (m n : Nat) (T i : Int) (K : Nat → Nat) (M : MM) (a b : Nat), Inv n T K M x r o → 0 ≤ i → i ≤ N → (N : Int) - i ≤ 7 * m → T + 30200 * m ≤ 1000000000 → a + 20 * m ≤ c0 → b + 260 * m ≤ s0 → JP E X 28 (LL x r o i) [] K M a b := by
  intro m
  induction m with
  | zero =>
    intro n T i K M a b hI hi hin hm hT ha hb
    refine JP_in hX hl (fun X2 hX2 hl2 hP2 hK2 hsm2 => ?_)
    refine J_iload hX2 dL_law_28 rfl ?_
    refine J_aload_n hX2 dL_law_30 rfl ?_
    refine J_ctl hX2 hP2 hK2 hE.cell dL_law_31 ?_
    refine J_bipush hX2 dL_law_32 rfl ?_
    refine J_isub hX2 dL_law_34 ?_
    exact J_icmp_gt hX2 2019 dL_law_35 (by omega) (by omega) (by decide) (fun _ => J_JP hP2 hK2 (hsm2 _ _ _ _ _ _ _ (hfin i K M a b (by omega) (by omega)))) (fun c => absurd (show (N : Int) - 7 < i by omega) c)
  | succ m ih =>
    intro n T i K M a b hI hi hin hm hT ha hb
    refine JP_in hX hl (fun X2 hX2 hl2 hP2 hK2 hsm2 => ?_)
    refine J_iload hX2 dL_law_28 rfl ?_
    refine J_aload_n hX2 dL_law_30 rfl ?_
    refine J_ctl hX2 hP2 hK2 hE.cell dL_law_31 ?_
    refine J_bipush hX2 dL_law_32 rfl ?_
    refine J_isub hX2 dL_law_34 ?_
    refine J_icmp_gt hX2 2019 dL_law_35 (by omega) (by omega) (by decide) (fun _ => J_JP hP2 hK2 (hsm2 _ _ _ _ _ _ _ (hfin i K M a b (by omega) (by omega)))) (fun c => ?_)
    have hi7 : 0 ≤ i ∧ i + 7 ≤ N := by omega
    have hT2 : T + 30200 ≤ 1000000000 := by omega
    have hab : a + 20 ≤ c0 ∧ b + 260 ≤ s0 := by omega
    have k1 : ∀ n2 K2 M2, Inv n2 (T + 30200) K2 M2 x r o → JP E X 2013 (LL x r o i) [] K2 M2 (a + 20) (b + 260) := by
      intro n2 K2 M2 hI2
      refine JP_in hX hl (fun X3 hX3 hl3 hP3 hK3 hsm3 => ?_)
      refine J_iinc hX3 dL_law_2013 rfl (by decide) ?_
      refine J_loc (LL x r o (i + 7)) rfl ?_
      refine J_goto hX3 28 dL_law_2016 (by decide) ?_
      exact J_JP hP3 hK3 (hsm3 _ _ _ _ _ _ _ (ih n2 (T + 30200) (i + 7) K2 M2 (a + 20) (b + 260) hI2 (by omega) (by omega) (by omega) (by omega) (by omega) (by omega)))
    refine J_aload_n hX2 dL_law_38 rfl ?_
    refine J_iload hX2 dL_law_39 rfl ?_
    refine J_cti hX2 hP2 hK2 hE.cell (v := vI (sc i)) (by omega) hN (fun ad _ => by show vI (sc i) = vI (sc ((i.toNat : Nat) : Int)); rw [Int.toNat_of_nonneg hi]) dL_law_41 ?_
    refine J_bipush hX2 dL_law_42 rfl ?_
    refine J_and31 hX2 dL_law_44 (fun y hy => ?_)
    have go2 : ∀ {pc a b : Nat}, JP E X pc (LL x r o i) [] K M a b → J E X2 pc (LL x r o i) [] K M a b := fun h => J_JP hP2 hK2 (hsm2 _ _ _ _ _ _ _ h)
    have go : ∀ {pc : Nat}, JP E X pc (LL x r o i) [] K M a b → J E X2 pc (LL x r o i) [] K M a b := fun h => J_JP hP2 hK2 (hsm2 _ _ _ _ _ _ _ h)
    rcases (show y = 0 ∨ y = 1 ∨ y = 2 ∨ y = 3 ∨ y = 4 ∨ y = 5 ∨ y = 6 ∨ y = 7 ∨ y = 8 ∨ y = 9 ∨ y = 10 ∨ y = 11 ∨ y = 12 ∨ y = 13 ∨ y = 14 ∨ y = 15 ∨ y = 16 ∨ y = 17 ∨ y = 18 ∨ y = 19 ∨ y = 20 ∨ y = 21 ∨ y = 22 ∨ y = 23 ∨ y = 24 ∨ y = 25 ∨ y = 26 ∨ y = 27 ∨ y = 28 ∨ y = 29 ∨ 30 ≤ y by omega) with rfl | rfl | rfl | rfl | rfl | rfl | rfl | rfl | rfl | rfl | rfl | rfl | rfl | rfl | rfl | rfl | rfl | rfl | rfl | rfl | rfl | rfl | rfl | rfl | rfl | rfl | rfl | rfl | rfl | rfl | hy2
    · exact J_tin hX2 135 180 dL_law_45 (by decide) (by decide) rfl (by decide) (go (lc_begin hX hl hE hI hS hi7 hN hT2 hab k1))
    · exact J_tin hX2 203 248 dL_law_45 (by decide) (by decide) rfl (by decide) (go (lc_addGroup hX hl hE hI hS hi7 hN hT2 hab k1))
    · exact J_tin hX2 295 340 dL_law_45 (by decide) (by decide) rfl (by decide) (go (lc_addBox hX hl hE hI hS hi7 hN hT2 hab k1))
    · exact J_tin hX2 413 458 dL_law_45 (by decide) (by decide) rfl (by decide) (go (lc_move hX hl hE hI hS hi7 hN hT2 hab k1))
    · exact J_tin hX2 505 550 dL_law_45 (by decide) (by decide) rfl (by decide) (go (lc_setShade hX hl hE hI hS hi7 hN hT2 hab k1))
    · exact J_tin hX2 573 618 dL_law_45 (by decide) (by decide) rfl (by decide) (go (lc_removeNode hX hl hE hI hS hi7 hN hT2 hab k1))
    · exact J_tin hX2 629 674 dL_law_45 (by decide) (by decide) rfl (by decide) (go (lc_addScene hX hl hE hI hS hi7 hN hT2 hab k1))
    · exact J_tin hX2 709 754 dL_law_45 (by decide) (by decide) rfl (by decide) (go (lc_set hX hl hE hI hS hi7 hN hT2 hab k1))
    · exact J_tin hX2 777 822 dL_law_45 (by decide) (by decide) rfl (by decide) (go (lc_setTitle hX hl hE hI hS hi7 hN hT2 hab k1))
    · exact J_tin hX2 857 902 dL_law_45 (by decide) (by decide) rfl (by decide) (go (lc_clearTitle hX hl hE hI hS hi7 hN hT2 hab k1))
    · exact J_tin hX2 870 915 dL_law_45 (by decide) (by decide) rfl (by decide) (go (lc_tick hX hl hE hI hS hi7 hN hT2 hab k1))
    · exact J_tin hX2 926 971 dL_law_45 (by decide) (by decide) rfl (by decide) (go (lc_node hX hl hE hI hS hi7 hN hT2 hab k1))
    · exact J_tin hX2 994 1039 dL_law_45 (by decide) (by decide) rfl (by decide) (go (lc_painted hX hl hE hI hS hi7 hN hT2 hab k1))
    · exact J_tin hX2 1050 1095 dL_law_45 (by decide) (by decide) rfl (by decide) (go (lc_scene hX hl hE hI hS hi7 hN hT2 hab k1))
    · exact J_tin hX2 1118 1163 dL_law_45 (by decide) (by decide) rfl (by decide) (go (lc_title hX hl hE hI hS hi7 hN hT2 hab k1))
    · exact J_tin hX2 1174 1219 dL_law_45 (by decide) (by decide) rfl (by decide) (go (lc_whole hX hl hE hI hS hi7 hN hT2 hab k1))
    · exact J_tin hX2 1230 1275 dL_law_45 (by decide) (by decide) rfl (by decide) (go (lc_shade hX hl hE hI hS hi7 hN hT2 hab k1))
    · exact J_tin hX2 1326 1371 dL_law_45 (by decide) (by decide) rfl (by decide) (go (lc_shown hX hl hE hI hS hi7 hN hT2 hab k1))
    · exact J_tin hX2 1422 1467 dL_law_45 (by decide) (by decide) rfl (by decide) (go (lc_ghost hX hl hE hI hS hi7 hN hT2 hab k1))
    · exact J_tin hX2 1490 1535 dL_law_45 (by decide) (by decide) rfl (by decide) (go (lc_ghosts hX hl hE hI hS hi7 hN hT2 hab k1))
    · exact J_tin hX2 1546 1591 dL_law_45 (by decide) (by decide) rfl (by decide) (go (lc_meanGhost hX hl hE hI hS hi7 hN hT2 hab k1))
    · exact J_tin hX2 1623 1668 dL_law_45 (by decide) (by decide) rfl (by decide) (go (lc_percentageFor hX hl hE hI hS hi7 hN hT2 hab k1))
    · exact J_tin hX2 1691 1736 dL_law_45 (by decide) (by decide) rfl (by decide) (go (lc_fittingGain hX hl hE hI hS hi7 hN hT2 hab k1))
    · exact J_tin hX2 1704 1749 dL_law_45 (by decide) (by decide) rfl (by decide) (go (lc_fullAfter hX hl hE hI hS hi7 hN hT2 hab k1))
    · exact J_tin hX2 1760 1805 dL_law_45 (by decide) (by decide) rfl (by decide) (go (lc_ghostsWithout hX hl hE hI hS hi7 hN hT2 hab k1))
    · exact J_tin hX2 1828 1873 dL_law_45 (by decide) (by decide) rfl (by decide) (go (lc_type hX hl hE hI hS hi7 hN hT2 hab k1))
    · exact J_tin hX2 1884 1929 dL_law_45 (by decide) (by decide) rfl (by decide) (go (lc_clearCommands hX hl hE hI hS hi7 hN hT2 hab k1))
    · exact J_tin hX2 1897 1942 dL_law_45 (by decide) (by decide) rfl (by decide) (go (lc_runCommands hX hl hE hI hS hi7 hN hT2 hab k1))
    · exact J_tin hX2 1910 1955 dL_law_45 (by decide) (by decide) rfl (by decide) (go (lc_undo hX hl hE hI hS hi7 hN hT2 hab k1))
    · exact J_tin hX2 1954 1999 dL_law_45 (by decide) (by decide) rfl (by decide) (go (lc_digest hX hl hE hI hS hi7 hN hT2 hab k1))
    · exact J_tout hX2 2013 dL_law_45 (by omega) (Or.inr (by omega)) (by decide) (J_widen (by omega) (by omega) (go2 (k1 n K M (Inv_mo hI (by omega) hT2))))
