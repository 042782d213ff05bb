/-! the law's other cases: type, undo, meanGhost -/
theorem tl_type : TL 1896 (87) := ⟨⟨dL_law_1896, dL_law_1898, dL_law_1899, dL_law_1902, dL_law_1904⟩, ⟨dL_law_1909, dL_law_1911, dL_law_1914, dL_law_1915, dL_law_1916⟩, dL_law_1917, dL_law_1919, dL_law_1920, dL_law_1921, dL_law_1926, by decide⟩
set_option maxHeartbeats 4000000 in
set_option maxRecDepth 100000 in
theorem lc_type {E : EE} {X : JX} {c0 s0 a b n N x r o : Nat} {T i : Int} {sc : Int → Int} {K : Nat → Nat} {M : MM} (hX : XO E X cL_law RL 9 12 c0 s0) (hl : XL X) (hE : LF E N sc) (hI : Inv n T K M x r o) (hS : Sep x r o) (hi : 0 ≤ i ∧ i + 7 ≤ N) (hN : N < 1000000) (hT : T + 30200 ≤ 1000000000) (hab : a + 20 ≤ c0 ∧ b + 260 ≤ s0)
    (k1 : ∀ n2 K2 M2, Inv n2 (T + 30200) K2 M2 x r o → JP E X 2013 (LL x r o i) [] K2 M2 (a + 20) (b + 260)) : JP E X 1873 (LL x r o i) [] K M a b := by
  obtain ⟨e1, e2, e3⟩ := id hS
  obtain ⟨t1, t2, t3⟩ := id hI.tx
  obtain ⟨q1, hq1⟩ : ∃ q, sc (i + 1) = q := ⟨_, rfl⟩
  have hi1 : i32 q1 := hq1 ▸ hE.rg _
  have hlen : 0 ≤ M (x + 57) 0 ∧ M (x + 57) 0 ≤ 150 := by rw [t1]; exact t2
  have hy : 150 ≤ M (x + 57) 0 ↔ M r 5 = 150 := by omega
  refine JP_in hX hl (fun X2 hX2 hl2 hP2 hK2 hsm2 => ?_)
  refine J_aload_n hX2 dL_law_1873 rfl ?_
  refine J_cellq hX2 hP2 hK2 hE.cell 1 hq1 rfl rfl (by omega) hN dL_law_1874 dL_law_1875 dL_law_1877 dL_law_1878 dL_law_1879 ?_
  refine J_aload_n hX2 dL_law_1880 rfl ?_
  refine J_callHP hX2 hl2 hP2 hK2 [] dL_law_1881 cwL_type (m_L_type hE.th hI.1.1 hI.wf hi1 hlen hI.1.2.2.1.1) rfl (Nat.le_of_ble_eq_true rfl) ⟨by decide, by decide⟩ ⟨by omega, by omega⟩ (lvs_LL hI hS) trivial (fun _ _ _ h => wr_q hI hS (fun _ _ h i hi => by rw [h.2, mset_ne (by omega), mset_ne (by omega)]) h) (fun r9 K1 M1 h => hsm2 _ _ _ _ _ _ _ ?_)
  rcases h with ⟨k, hk, hr9, hKK, hM1⟩ | ⟨hr9, v, hv, Mc, ⟨hf, hKK, hval, hMc⟩, hM1⟩
  · rw [hr9, hKK, hM1]
    have hcd := (cd_y (Q2 := M r 5 = 150) hy).1 hk
    have hk32 : i32 k := XKc_32 hk (by decide) (by decide) (by decide)
    refine JP_in hX hl (fun X3 hX3 hl3 hP3 hK3 hsm3 => ?_)
    refine J_istore hX3 dL_law_1884 (by decide) ?_
    refine J_loc (LLk x r o i k) rfl ?_
    refine J_aload_n hX3 dL_law_1886 rfl ?_
    refine J_cellq hX3 hP3 hK3 hE.cell 1 hq1 rfl rfl (by omega) hN dL_law_1887 dL_law_1888 dL_law_1890 dL_law_1891 dL_law_1892 ?_
    refine J_callVM hX3 _ dL_law_1893 cw_RL_193 (m_X10_type hI.1.2.1 hi1 (t2)) ⟨hI.1.2.1.k0, by decide, by decide, rfl⟩ rfl (Nat.le_of_ble_eq_true rfl) ⟨by decide, by decide⟩ ⟨by omega, by omega⟩ (fun r8 M2 q => ?_)
    obtain ⟨q6, qf, qj, qd⟩ := q
    rw [hcd.1] at q6 qd
    rcases qd with ⟨-, h8, q4, q5⟩ | ⟨z, -⟩
    · rw [h8]
      have hI2 : Inv n T K M2 x r o := inv_no hI hS (fun i h1 => by
        by_cases e : i = r + 4
        · rw [e]; exact q4
        · exact qf i h1 e) (fun j h6 => by
        by_cases e : j = 5
        · rw [e]; exact q5
        · exact qj j e h6) (by rw [q6]; exact hk32)
      refine J_tail hX3 tl_type hI2.1.2.1 q6 hk32 (by decide) hI2.1.2.2.1.1 (fun e => absurd e hcd.2) (by decide) ⟨by omega, by omega⟩ ?_
      exact J_loc (LL x r o i) rfl (J_widen (by omega) (by omega) (J_JP hP3 hK3 (hsm3 _ _ _ _ _ _ _ (k1 n K M2 (Inv_mo hI2 (by omega) hT)))))
    · exact absurd z hcd.2
  · rw [hr9, hKK]
    have hf2 := (cd_y (Q2 := M r 5 = 150) (k := 0) hy).2 hf
    have hf3 : (0 ≤ q1 ∧ q1 ≤ 127) ∧ ¬ M r 5 = 150 := by
      by_cases c1 : 0 ≤ q1 ∧ q1 ≤ 127 <;> by_cases c2 : M r 5 = 150 <;> simp [c1, c2] at hf2 ⊢
    have g : ∀ i, i ≠ x + 57 → i ≠ x + 58 → i ≠ o → M1 i = M i := fun i h1 h2 h3 => by rw [hM1, mset_ne h3, hMc, mset_ne h1, mset_ne h2]
    have g57 : M1 (x + 57) 0 = M r 5 + 1 := by rw [hM1, mset_ne (by omega), hMc, mset_eq, t1]
    have g58 : M1 (x + 58) = mset M (x + 58) (M r 5) q1 (x + 58) := by rw [hM1, mset_ne (by omega), hMc, mset_ne (by omega), t1]
    have hreg : ∀ i, r ≤ i → i < r + 12 → M1 i = M i := fun i h1 h2 => g i (by omega) (by omega) (by omega)
    refine JP_in hX hl (fun X3 hX3 hl3 hP3 hK3 hsm3 => ?_)
    refine J_istore hX3 dL_law_1884 (by decide) ?_
    refine J_loc (LLk x r o i 0) rfl ?_
    refine J_aload_n hX3 dL_law_1886 rfl ?_
    refine J_cellq hX3 hP3 hK3 hE.cell 1 hq1 rfl rfl (by omega) hN dL_law_1887 dL_law_1888 dL_law_1890 dL_law_1891 dL_law_1892 ?_
    refine J_callVM hX3 _ dL_law_1893 cw_RL_193 (m_X10_type hI.1.2.1 hi1 (by rw [hreg r (by omega) (by omega)]; exact t2)) ⟨hI.1.2.1.k0, by decide, by decide, rfl⟩ rfl (Nat.le_of_ble_eq_true rfl) ⟨by decide, by decide⟩ ⟨by omega, by omega⟩ (fun r8 M2 q => ?_)
    obtain ⟨q6, qf, qj, qd⟩ := q
    rw [hreg r (by omega) (by omega)] at q6 qd
    rw [hf2] at q6 qd
    rcases qd with ⟨z, -⟩ | ⟨-, h8, q4, q5⟩
    · exact absurd rfl z
    · have h8b : r8 = some (vI v) := by rw [h8, hval, t1]
      rw [h8b]
      have hI2 : Inv n T K M2 x r o := inv_text hI hS (fun i h0 h1 h2 _ h4 h5 _ => by rw [qf i h4 h5, g i h1 h2 (by omega)]) (by rw [qj 3 (by decide) (by decide), hreg r (by omega) (by omega)]) ⟨by rw [qf _ (by omega) (by omega), g57, q5], by rw [q5]; omega, fun j j0 j1 => by
        rw [q5] at j1
        rw [qf (x + 58) (by omega) (by omega), g58, q4, hreg (r + 4) (by omega) (by omega)]
        by_cases e : j = M r 5
        · rw [e, mset_eq]
          unfold rset
          rw [if_pos rfl]
          exact ⟨rfl, hf3.1⟩
        · rw [mset_nj e]
          unfold rset
          rw [if_neg e]
          exact t3 j j0 (by omega)⟩ (by rw [q6]; decide)
      have ho : M2 o 0 = v := by rw [qf o (by omega) (by omega), hM1]; exact mset_eq
      refine J_tail hX3 tl_type hI2.1.2.1 q6 (by decide) hv hI2.1.2.2.1.1 (fun _ => ho) (by decide) ⟨by omega, by omega⟩ ?_
      exact J_loc (LL x r o i) rfl (J_widen (by omega) (by omega) (J_JP hP3 hK3 (hsm3 _ _ _ _ _ _ _ (k1 n K M2 (Inv_mo hI2 (by omega) hT)))))
theorem tl_undo : TL 1966 (17) := ⟨⟨dL_law_1966, dL_law_1968, dL_law_1969, dL_law_1972, dL_law_1974⟩, ⟨dL_law_1979, dL_law_1981, dL_law_1984, dL_law_1985, dL_law_1986⟩, dL_law_1987, dL_law_1989, dL_law_1990, dL_law_1991, dL_law_1996, by decide⟩
set_option maxHeartbeats 4000000 in
set_option maxRecDepth 100000 in
theorem lc_undo {E : EE} {X : JX} {c0 s0 a b n N x r o : Nat} {T i : Int} {sc : Int → Int} {K : Nat → Nat} {M : MM} (hX : XO E X cL_law RL 9 12 c0 s0) (hl : XL X) (hE : LF E N sc) (hI : Inv n T K M x r o) (hS : Sep x r o) (hi : 0 ≤ i ∧ i + 7 ≤ N) (hN : N < 1000000) (hT : T + 30200 ≤ 1000000000) (hab : a + 20 ≤ c0 ∧ b + 260 ≤ s0)
    (k1 : ∀ n2 K2 M2, Inv n2 (T + 30200) K2 M2 x r o → JP E X 2013 (LL x r o i) [] K2 M2 (a + 20) (b + 260)) : JP E X 1955 (LL x r o i) [] K M a b := by
  obtain ⟨e1, e2, e3⟩ := id hS
  have hc := hI.sv.1
  refine JP_in hX hl (fun X2 hX2 hl2 hP2 hK2 hsm2 => ?_)
  refine J_aload_n hX2 dL_law_1955 rfl ?_
  refine J_aload_n hX2 dL_law_1956 rfl ?_
  refine J_callHP hX2 hl2 hP2 hK2 [] dL_law_1957 cwL_undo (m_L_undo hE.th hI.1.1 hI.wf hI.2.1 hI.2.2.1 hI.1.2.2.1.1) rfl (Nat.le_of_ble_eq_true rfl) ⟨by decide, by decide⟩ ⟨by omega, by omega⟩ (lvs_LL hI hS) trivial (fun _ _ _ h => wr_q hI hS (fun _ _ h i hi => h.2.2.1 i (by omega) (by omega) (by omega)) h) (fun r9 K1 M1 h => hsm2 _ _ _ _ _ _ _ ?_)
  rcases h with ⟨k, hk, hr9, hKK, hM1⟩ | ⟨hr9, v, hv, Mc, ⟨hf, hKK, hval, hu⟩, hM1⟩
  · rw [hr9, hKK, hM1]
    rw [hc] at hk
    have hcd := cd_s.1 hk
    have hk32 : i32 k := XKc_32 hk (by decide) (by decide) (by decide)
    refine JP_in hX hl (fun X3 hX3 hl3 hP3 hK3 hsm3 => ?_)
    refine J_istore hX3 dL_law_1960 (by decide) ?_
    refine J_loc (LLk x r o i k) rfl ?_
    refine J_aload_n hX3 dL_law_1962 rfl ?_
    refine J_callVM hX3 _ dL_law_1963 cw_RL_205 (m_X10_undo hI.1.2.1 (hI.h3)) ⟨hI.1.2.1.k0, by decide, by decide, rfl⟩ rfl (Nat.le_of_ble_eq_true rfl) ⟨by decide, by decide⟩ ⟨by omega, by omega⟩ (fun r8 M2 q => ?_)
    obtain ⟨q6, qf, qj, qd⟩ := q
    rw [hcd.1] at q6 qd
    rcases qd with ⟨-, h8, q1, q3⟩ | ⟨z, -⟩
    · rw [h8]
      have hI2 : Inv n T K M2 x r o := inv_no hI hS (fun i h1 => by
        by_cases e : i = r + 1
        · rw [e]; exact q1
        · exact qf i h1 e) (fun j h6 => by
        by_cases e : j = 3
        · rw [e]; exact q3
        · exact qj j e h6) (by rw [q6]; exact hk32)
      refine J_tail hX3 tl_undo hI2.1.2.1 q6 hk32 (by decide) hI2.1.2.2.1.1 (fun e => absurd e hcd.2) (by decide) ⟨by omega, by omega⟩ ?_
      exact J_loc (LL x r o i) rfl (J_widen (by omega) (by omega) (J_JP hP3 hK3 (hsm3 _ _ _ _ _ _ _ (k1 n K M2 (Inv_mo hI2 (by omega) hT)))))
    · exact absurd z hcd.2
  · rw [hr9, hKK]
    have hpos : M (x + 55) 0 ≠ 0 := fun e => by
      rw [if_pos e] at hf
      exact absurd hf (by decide)
    have hreg : ∀ i, r ≤ i → i < r + 12 → M1 i = M i := fun i h1 h2 => by rw [hM1, mset_ne (by omega), hu.2.1 i (by omega) (by omega) (by omega)]
    refine JP_in hX hl (fun X3 hX3 hl3 hP3 hK3 hsm3 => ?_)
    refine J_istore hX3 dL_law_1960 (by decide) ?_
    refine J_loc (LLk x r o i 0) rfl ?_
    refine J_aload_n hX3 dL_law_1962 rfl ?_
    refine J_callVM hX3 _ dL_law_1963 cw_RL_205 (m_X10_undo hI.1.2.1 (by rw [hreg r (by omega) (by omega)]; exact hI.h3)) ⟨hI.1.2.1.k0, by decide, by decide, rfl⟩ rfl (Nat.le_of_ble_eq_true rfl) ⟨by decide, by decide⟩ ⟨by omega, by omega⟩ (fun r8 M2 q => ?_)
    obtain ⟨q6, qf, qj, qd⟩ := q
    have hr0 : ¬ M1 r 3 = 0 := by rw [hreg r (by omega) (by omega), ← hc]; exact hpos
    rw [if_neg hr0] at q6 qd
    rcases qd with ⟨z, -⟩ | ⟨-, h8, q1, q3⟩
    · exact absurd rfl z
    · have h8b : r8 = some (vI v) := by rw [h8, hval, hreg r (by omega) (by omega), hc]
      rw [h8b]
      have hMr : ∀ i, i ≠ o → M1 i = Mc i := fun i hi => by rw [hM1, mset_ne hi]
      have hI2 : Inv n T K M2 x r o := inv_undo hI hS hu hpos (fun i h0 h1 h2 => by rw [qf i h1 h2, hMr i (by omega)]) (fun j h3 h6 => by rw [qj j h3 h6, hMr r (by omega)]) (fun j j0 j1 => by rw [q1 j j0 j1, hMr (r + 3) (by omega), hMr r (by omega)]) (by rw [q3, hMr r (by omega)]) (by rw [q6]; decide)
      have ho : M2 o 0 = v := by rw [qf o (by omega) (by omega), hM1]; exact mset_eq
      refine J_tail hX3 tl_undo hI2.1.2.1 q6 (by decide) hv hI2.1.2.2.1.1 (fun _ => ho) (by decide) ⟨by omega, by omega⟩ ?_
      exact J_loc (LL x r o i) rfl (J_widen (by omega) (by omega) (J_JP hP3 hK3 (hsm3 _ _ _ _ _ _ _ (k1 n K M2 (Inv_mo hI2 (by omega) hT)))))
abbrev LLd (x r o : Nat) (i k : Int) (u : UInt64) : List (Nat × Value) := [(0, .ref (1000000 + 50)), (1, .ref x), (2, .ref r), (3, .ref o), (4, .ref (o + 1)), (5, vI i), (6, vI k), (7, .double u)]
theorem J_dtail {E : EE} {X : JX} {d c0 s0 : Nat} {K : Nat → Nat} {M : MM} {a b x r o : Nat} {i k : Int} {u : UInt64} (hX : XO E X cL_law RL 9 d c0 s0) (hM : ModelK K r) (h6 : M r 6 = k) (hk : i32 k) (ho : K (o + 1) = 12) (he : k = 0 → M (o + 1) 0 = (u.toNat : Int)) (hd : 1 ≤ d) (hab : a ≤ c0 ∧ b ≤ s0) (k1 : J E X 2013 (LLd x r o i k u) [] K M a b) : J E X 1615 (LLk x r o i k) [.double u] K M a b := by
  refine J_dstore hX dL_law_1615 (by decide) ?_
  refine J_loc (LLd x r o i k u) rfl ?_
  refine J_aload_n hX dL_law_1617 rfl ?_
  refine J_callVI hX _ dL_law_1618 cw_RL_108 (m_X10_thrown hM (by rw [h6]; exact hk)) ⟨hM.k0, by decide, by decide, rfl⟩ rfl (Nat.le_of_ble_eq_true rfl) ⟨by omega, by decide⟩ hab (fun _ => ?_)
  refine J_iload hX dL_law_1621 rfl ?_
  refine J_icmp_eq hX 1628 dL_law_1623 (by rw [h6]; exact hk) hk (by decide) (fun _ => ?_) (fun c => absurd h6 c)
  have fin : J E X 1665 (LLd x r o i k u) [] K M a b := J_goto hX 2013 dL_law_1665 (by decide) k1
  refine J_iload hX dL_law_1628 rfl ?_
  refine J_if_ne hX 1665 dL_law_1630 hk (by decide) (fun _ => fin) (fun c => ?_)
  have hm := he c
  have ld : ∀ {pc : Nat} {st : List Value}, decode cL_law pc = .ok (.aload 4, 2) → decode cL_law (pc + 2) = .ok (.iconst 0, 1) → decode cL_law (pc + 3) = .ok (.daload, 1) → J E X (pc + 4) (LLd x r o i k u) (.double u :: st) K M a b → J E X pc (LLd x r o i k u) st K M a b := by
    intro pc st d0 d2 d3 kk
    refine J_aload hX d0 rfl ?_
    refine J_iconst hX d2 ?_
    refine J_dald hX d3 ho ?_
    rw [hm, vDn_u]
    exact kk
  refine ld dL_law_1633 dL_law_1635 dL_law_1636 ?_
  refine J_dload hX dL_law_1637 rfl ?_
  refine J_dcmps hX dL_law_1639 ?_
  refine J_if_eq hX 1665 dL_law_1640 (i32_of _) (by decide) (fun _ => fin) (fun cz => ?_)
  refine ld dL_law_1643 dL_law_1645 dL_law_1646 ?_
  refine ld dL_law_1647 dL_law_1649 dL_law_1650 ?_
  refine J_dcmps hX dL_law_1651 ?_
  refine J_if_eq hX 1663 dL_law_1652 (i32_of _) (by decide) (fun c2 => absurd c2 cz) (fun _ => ?_)
  refine J_dload hX dL_law_1655 rfl ?_
  refine J_dload hX dL_law_1657 rfl ?_
  refine J_dcmps hX dL_law_1659 ?_
  exact J_if_ne hX 1665 dL_law_1660 (i32_of _) (by decide) (fun _ => fin) (fun c2 => absurd c2 cz)
theorem mg_code {M : MM} {b : Nat} {row k : Int} (hW : 20 ≤ M b 3) : (XKc (fCe M b 0 row) 1 (-1) (-1) k → (if 0 ≤ row ∧ row ≤ M b 4 - 1 then 0 else 1 : Int) = k ∧ k ≠ 0) ∧ (fCe M b 0 row = 0 → (if 0 ≤ row ∧ row ≤ M b 4 - 1 then 0 else 1 : Int) = 0) := by
  have e : fCe M b 0 row = (if 0 ≤ row ∧ row ≤ M b 4 - 1 then 0 else 1) := by
    unfold fCe
    by_cases c : 0 ≤ row ∧ row ≤ M b 4 - 1
    · rw [if_pos c, if_pos ⟨⟨by decide, by omega⟩, c⟩]
    · rw [if_neg c, if_neg (fun q => c q.2)]
  rw [e]
  exact cd_i
set_option maxHeartbeats 4000000 in
set_option maxRecDepth 100000 in
theorem lc_meanGhost {E : EE} {X : JX} {c0 s0 a b n N x r o : Nat} {T i : Int} {sc : Int → Int} {K : Nat → Nat} {M : MM} (hX : XO E X cL_law RL 9 12 c0 s0) (hl : XL X) (hE : LF E N sc) (hI : Inv n T K M x r o) (hS : Sep x r o) (hi : 0 ≤ i ∧ i + 7 ≤ N) (hN : N < 1000000) (hT : T + 30200 ≤ 1000000000) (hab : a + 20 ≤ c0 ∧ b + 260 ≤ s0)
    (k1 : ∀ n2 K2 M2, Inv n2 (T + 30200) K2 M2 x r o → JP E X 2013 (LL x r o i) [] K2 M2 (a + 20) (b + 260)) : JP E X 1591 (LL x r o i) [] K M a b := by
  obtain ⟨e1, e2, e3⟩ := id hS
  have w9 := hI.wf.2.1
  unfold WFs at w9
  obtain ⟨q1, hq1⟩ : ∃ q, sc (i + 1) = q := ⟨_, rfl⟩
  have hi1 : i32 q1 := hq1 ▸ hE.rg _
  refine JP_in hX hl (fun X2 hX2 hl2 hP2 hK2 hsm2 => ?_)
  refine J_aload_n hX2 dL_law_1591 rfl ?_
  refine J_cellq hX2 hP2 hK2 hE.cell 1 hq1 rfl rfl (by omega) hN dL_law_1592 dL_law_1593 dL_law_1595 dL_law_1596 dL_law_1597 ?_
  refine J_aload hX2 dL_law_1598 rfl ?_
  refine J_callHP hX2 hl2 hP2 hK2 [] dL_law_1600 cwL_meanGhost (m_L_meanGhost hE.th hI.1.1 hI.wf hI.fr hi1 hI.1.2.2.1.2) rfl (Nat.le_of_ble_eq_true rfl) ⟨by decide, by decide⟩ ⟨by omega, by omega⟩ (lvs_LL hI hS) trivial (fun _ _ _ h => wr_d hI hS (fun _ _ h i hi => lkd_fr h.2 i (by omega)) h) (fun r9 K1 M1 h => hsm2 _ _ _ _ _ _ _ ?_)
  rcases h with ⟨k, hk, hr9, hKK, hM1⟩ | ⟨hr9, u, Mc, ⟨hf, hKK, hval, hP⟩, hM1⟩
  · rw [hr9, hKK, hM1]
    have hcd := (mg_code w9.1.1).1 hk
    have hk32 : i32 k := XKc_32 hk (by decide) (by decide) (by decide)
    refine JP_in hX hl (fun X3 hX3 hl3 hP3 hK3 hsm3 => ?_)
    refine J_istore hX3 dL_law_1603 (by decide) ?_
    refine J_loc (LLk x r o i k) rfl ?_
    refine J_aload_n hX3 dL_law_1605 rfl ?_
    refine J_cellq hX3 hP3 hK3 hE.cell 1 hq1 rfl rfl (by omega) hN dL_law_1606 dL_law_1607 dL_law_1609 dL_law_1610 dL_law_1611 ?_
    refine J_callVM hX3 _ dL_law_1612 cw_RL_177 (m_X10_meanGhost (T := T) (S := stg M (x + 3)) hI.1.2.1 (hI.rs) (WF_iS.mp hI.wf) hi1) ⟨hI.1.2.1.k0, by decide, by decide, rfl⟩ rfl (Nat.le_of_ble_eq_true rfl) ⟨by decide, by decide⟩ ⟨by omega, by omega⟩ (fun r8 M2 q => ?_)
    obtain ⟨q6, qd, qf, qm, qj⟩ := q
    have q6' : M2 r 6 = k := q6.trans hcd.1
    rcases qd with ⟨-, w, h8⟩ | ⟨z, -⟩
    · rw [h8]
      obtain ⟨hI2, -⟩ := inv_q (Mc := M) (v := M (o + 1) 0) (c := k) (w := 0) (r9 := some (vI 0)) hI hS (Or.inr rfl) (qs_refl hI) (by rw [mset_id]; exact ⟨q6', Or.inl ⟨hcd.2, rfl⟩, qf, qm, qj⟩) hk32
      refine J_dtail hX3 hI2.1.2.1 q6' hk32 hI2.1.2.2.1.2 (fun e => absurd e hcd.2) (by decide) ⟨by omega, by omega⟩ ?_
      exact J_loc (LL x r o i) rfl (J_widen (by omega) (by omega) (J_JP hP3 hK3 (hsm3 _ _ _ _ _ _ _ (k1 n K M2 (Inv_mo hI2 (by omega) hT)))))
    · exact absurd (hcd.1.symm.trans z) hcd.2
  · rw [hr9, hKK]
    have hc0 := (mg_code (k := 0) w9.1.1).2 hf
    have hQ := lkd_q hI hP
    have hreg : ∀ i, r ≤ i → i < r + 12 → M1 i = M i := fun i h1 h2 => by rw [hM1, mset_ne (by omega), hQ.2.2.2 i (by omega)]
    refine JP_in hX hl (fun X3 hX3 hl3 hP3 hK3 hsm3 => ?_)
    refine J_istore hX3 dL_law_1603 (by decide) ?_
    refine J_loc (LLk x r o i 0) rfl ?_
    refine J_aload_n hX3 dL_law_1605 rfl ?_
    refine J_cellq hX3 hP3 hK3 hE.cell 1 hq1 rfl rfl (by omega) hN dL_law_1606 dL_law_1607 dL_law_1609 dL_law_1610 dL_law_1611 ?_
    refine J_callVM hX3 _ dL_law_1612 cw_RL_177 (m_X10_meanGhost (T := T) (S := stg M (x + 3)) hI.1.2.1 (by rw [hreg (r + 1) (by omega) (by omega)]; exact hI.rs) (WF_iS.mp hI.wf) hi1) ⟨hI.1.2.1.k0, by decide, by decide, rfl⟩ rfl (Nat.le_of_ble_eq_true rfl) ⟨by decide, by decide⟩ ⟨by omega, by omega⟩ (fun r8 M2 q => ?_)
    obtain ⟨q6, qd, qf, qm, qj⟩ := q
    have q6' : M2 r 6 = 0 := q6.trans hc0
    rcases qd with ⟨z, -⟩ | ⟨-, h8⟩
    · exact absurd hc0 z
    · have h8b : r8 = some (.double u) := h8.trans hval.symm
      rw [h8b]
      obtain ⟨hI2, ho, -⟩ := inv_q (Mc := Mc) (v := (u.toNat : Int)) (c := 0) (w := 0) (r9 := some (vI 0)) hI hS (Or.inr rfl) hQ (by rw [← hM1]; exact ⟨q6', Or.inr ⟨rfl, rfl⟩, qf, qm, qj⟩) (by decide)
      refine J_dtail hX3 hI2.1.2.1 q6' (by decide) hI2.1.2.2.1.2 (fun _ => ho) (by decide) ⟨by omega, by omega⟩ ?_
      exact J_loc (LL x r o i) rfl (J_widen (by omega) (by omega) (J_JP hP3 hK3 (hsm3 _ _ _ _ _ _ _ (k1 n K M2 (Inv_mo hI2 (by omega) hT)))))
