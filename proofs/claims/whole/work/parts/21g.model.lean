/-! the reference: a removal -/
theorem J_i32 {E : EE} {X : JX} {pc : Nat} {L : List (Nat × Value)} {st : List Value} {K : Nat → Nat} {M : MM} {a b i n : Nat} (hK : K i = 1000 + n) (k1 : (∀ j, i32 (M i j)) → J E X pc L st K M a b) : J E X pc L st K M a b := by
  obtain ⟨p, l, e, R, s, m, args, below, meth, c, Q, nL, K0, ad0⟩ := X
  intro ad H locs ls hR he hs hv
  exact k1 (fun j => rg_i (by have := hR.2.2.2.2 i j (by omega); rwa [hK] at this) (by omega) (by omega) (by omega)) ad H locs ls hR he hs hv
abbrev rwv (S : MM) (d : Int) (m : Int → Int) (a w : Int) : Int := if w = 0 then (if S 2 a < 0 then -1000 else nwn S d (S 2 a)) else m (14 + 8 * a + w)
theorem RS_drop {T : Int} {S S2 : MM} {m m2 : Int → Int} {d : Int} (hW : WFS T S) (hR : RS S m) (hD : Drd S S2 d) (h14 : ∀ j : Int, j < 14 → j ≠ 2 → m2 j = m j) (h2 : m2 2 = nwn S d (S 1 0)) (h174 : ∀ j : Int, 174 ≤ j → m2 j = m j)
    (hrow : ∀ a w : Int, 0 ≤ a → a < S 1 0 → ¬ gne S d a → 0 ≤ w → w < 7 → m2 (14 + 8 * nwn S d a + w) = rwv S d m a w) : RS S2 m2 := by
  obtain ⟨⟨rs0, rs1, rs2, rs3, rs4, rs5, rs6, rs7, rs8, rs9, rs10, rs13⟩, rst, rsn, rsc⟩ := hR
  obtain ⟨d1, d2, d3, d4⟩ := hD
  have hs := hW.2.1
  unfold WFSs at hs
  unfold RS
  rw [d1, d3, d4 11 (by decide), d4 12 (by decide), d4 13 (by decide), d4 14 (by decide), d4 15 (by decide), h2]
  have h14' : ∀ j : Int, j < 14 → j ≠ 2 → m2 j = m j := h14
  refine ⟨⟨?_, ?_, rfl, ?_, ?_, ?_, ?_, ?_, ?_, ?_, ?_, ?_⟩, ?_, fun n n0 n1 => ?_, fun s s0 s1 => ?_⟩
  · rw [h14 _ (by decide) (by decide)]; exact rs0
  · rw [h14 _ (by decide) (by decide)]; exact rs1
  · rw [h14 _ (by decide) (by decide)]; exact rs3
  · rw [h14 _ (by decide) (by decide)]; exact rs4
  · rw [h14 _ (by decide) (by decide)]; exact rs5
  · rw [h14 _ (by decide) (by decide)]; exact rs6
  · rw [h14 _ (by decide) (by decide)]; exact rs7
  · rw [h14 _ (by decide) (by decide)]; exact rs8
  · rw [h14 _ (by decide) (by decide)]; exact rs9
  · rw [h14 _ (by decide) (by decide)]; exact rs10
  · rw [h14 _ (by decide) (by decide)]; exact rs13
  · rw [h14 11 (by decide) (by decide), h14 12 (by decide) (by decide)]; exact rst
  · obtain ⟨a, a0, a1, a2, a3⟩ := nwn_on (S := S) (d := d) (S 1 0).toNat n n0 (by rw [show (((S 1 0).toNat : Nat) : Int) = S 1 0 by omega]; exact n1)
    have a1' : a < S 1 0 := by omega
    subst a3
    have e := d2 a a0 a1' a2
    have q := rsn a a0 a1'
    have w := fun w h0 h1 => hrow a w a0 a1' a2 h0 h1
    have w0 := w 0 (by decide) (by decide)
    rw [Int.add_zero] at w0
    rw [w0, w 1 (by decide) (by decide), w 2 (by decide) (by decide), w 3 (by decide) (by decide), w 4 (by decide) (by decide), w 5 (by decide) (by decide), w 6 (by decide) (by decide), e.2, e.1 4 (by decide) (by decide), e.1 5 (by decide) (by decide), e.1 6 (by decide) (by decide), e.1 7 (by decide) (by decide), e.1 8 (by decide) (by decide), e.1 9 (by decide) (by decide)]
    unfold rwv
    rw [if_pos (show (0 : Int) = 0 from rfl), if_neg (show ¬ (1 : Int) = 0 by decide), if_neg (show ¬ (2 : Int) = 0 by decide), if_neg (show ¬ (3 : Int) = 0 by decide), if_neg (show ¬ (4 : Int) = 0 by decide), if_neg (show ¬ (5 : Int) = 0 by decide), if_neg (show ¬ (6 : Int) = 0 by decide)]
    refine ⟨?_, q.2⟩
    by_cases h : S 2 a < 0
    · rw [if_pos h, if_neg (by omega)]
    · rw [if_neg h, if_pos (by omega)]
  · rw [h174 _ (by omega), h174 _ (by omega), h174 _ (by omega)]; exact rsc s s0 s1
-- X10_removes
set_option maxHeartbeats 4000000 in
set_option maxRecDepth 100000 in
theorem m_X10_removes {E : EE} {K : Nat → Nat} {M : MM} {r : Nat} {T : Int} {S : MM} {d : Int} (hM : ModelK K r) (hR : RS S (M (r + 1))) (hW : WFS T S) (hd : hs S d) : CnM E 2 yX10_removes cX10_removes 7 (Option.some FieldType.int) [.ref r, vI d] K M (fun r9 M2 => r9 = some (vI (nwn S d (S 1 0))) ∧ (∀ i, i ≠ r + 1 → i ≠ r + 5 → M2 i = M i) ∧ ∀ S2, Drd S S2 d → RS S2 (M2 (r + 1))) := by
  obtain ⟨⟨rs0, rs1, rs2, rs3, rs4, rs5, rs6, rs7, rs8, rs9, rs10, rs13⟩, rst, rsn, rsc⟩ := id hR
  have hs9 := hW.2.1
  unfold WFSs at hs9
  have hnr := fun (n : Int) (h : 0 ≤ n) => nwn_rng (S := S) (d := d) h
  refine Cn_of RX10 (plainFor_of_name (by decide)) rfl (Nat.le_of_ble_eq_true rfl) (fun X hX hQ => ?_)
  refine J_iconst hX dX10_removes_0 ?_
  refine J_istore_n hX dX10_removes_1 (by decide) ?_
  refine J_iconst hX dX10_removes_2 ?_
  refine J_istore_n hX dX10_removes_3 (by decide) ?_
  have HL4 : ∀ k : Nat, k ≤ (S 1 0).toNat → ∀ (s : Int) (M3 : MM), (s = nwn S d k ∧ (∀ i, i ≠ r + 5 → M3 i = M i) ∧ ∀ n : Int, 0 ≤ n → n < k → M3 (r + 5) n = if gne S d n then -1000 else nwn S d n) → J E X 4 [(0, .ref r), (1, vI d), (2, vI s), (3, vI (k : Int))] [] K M3 0 0 := by
    refine up_ind ((S 1 0).toNat) (fun k hk4 ih4 => ?_)
    intro s  M3  hi4
    have hR1 : RS S (M3 (r + 1)) := by rw [hi4.2.1 _ (by omega)]; exact hR
    have w2 : M3 (r + 1) 2 = S 1 0 := by rw [hi4.2.1 _ (by omega)]; exact rs2
    have nk0 := hnr (k : Int) (by omega)
    refine J_iload_n hX dX10_removes_4 rfl ?_
    refine J_aload_n hX dX10_removes_5 rfl ?_
    refine J_gr hX (r + 1) fr_RX10_7 dX10_removes_6 (show K (r) = 9 from hM 0 (by decide)) rfl ?_
    refine J_iconst hX dX10_removes_9 ?_
    refine J_iald hX dX10_removes_10 (show K (r + 1) = 1000 + 198 from hM 1 (by decide)) ⟨by omega, by omega⟩ (by decide) (fun r10 => ?_)
    refine J_icmp_ge hX 62 dX10_removes_11 (by omega) (by omega) (by decide) (fun c11 => ?_) (fun c11 => ?_)
    · refine J_iconst hX dX10_removes_62 ?_
      refine J_istore_n hX dX10_removes_63 (by decide) ?_
      have HL64 : ∀ n : Nat, n ≤ (S 1 0).toNat → ∀ (M4 : MM), ((∀ i, i ≠ r + 1 → M4 i = M3 i) ∧ (∀ j : Int, j < 14 ∨ 174 ≤ j → M4 (r + 1) j = M (r + 1) j) ∧ (∀ a w : Int, 0 ≤ a → a < n → ¬ gne S d a → 0 ≤ w → w < 7 → M4 (r + 1) (14 + 8 * nwn S d a + w) = rwv S d (M (r + 1)) a w) ∧ (∀ a w : Int, n ≤ a → a < 20 → 0 ≤ w → w < 8 → M4 (r + 1) (14 + 8 * a + w) = M (r + 1) (14 + 8 * a + w))) → J E X 64 [(0, .ref r), (1, vI d), (2, vI s), (3, vI (n : Int))] [] K M4 0 0 := by
        refine up_ind ((S 1 0).toNat) (fun n hk64 ih64 => ?_)
        intro M4  hi64
        have w2b : M4 (r + 1) 2 = S 1 0 := by rw [hi64.2.1 2 (by decide)]; exact rs2
        refine J_iload_n hX dX10_removes_64 rfl ?_
        refine J_aload_n hX dX10_removes_65 rfl ?_
        refine J_gr hX (r + 1) fr_RX10_7 dX10_removes_66 (show K (r) = 9 from hM 0 (by decide)) rfl ?_
        refine J_iconst hX dX10_removes_69 ?_
        refine J_iald hX dX10_removes_70 (show K (r + 1) = 1000 + 198 from hM 1 (by decide)) ⟨by omega, by omega⟩ (by decide) (fun r70 => ?_)
        refine J_icmp_ge hX 175 dX10_removes_71 (by omega) (by omega) (by decide) (fun c71 => ?_) (fun c71 => ?_)
        · refine J_aload_n hX dX10_removes_175 rfl ?_
          refine J_gr hX (r + 1) fr_RX10_7 dX10_removes_176 (show K (r) = 9 from hM 0 (by decide)) rfl ?_
          refine J_iconst hX dX10_removes_179 ?_
          refine J_iload_n hX dX10_removes_180 rfl ?_
          refine J_istA hX dX10_removes_181 (show K (r + 1) = 1000 + 198 from hM 1 (by decide)) ⟨by omega, by omega⟩ (by decide) (by omega) (fun m181 hm181 => ?_)
          have fm181 : ∀ i, i ≠ r + 1 → m181 i = M4 i := fun i h => by rw [hm181]; exact mset_ne h
          have gm181 : ∀ i j, j ≠ 2 → m181 i j = M4 i j := fun i j h => by rw [hm181]; exact mset_nj h
          have vm181 := (congrFun (congrFun hm181 (r + 1)) (2)).trans mset_eq
          refine J_iload_n hX dX10_removes_182 rfl ?_
          exact J_iret hX hQ dX10_removes_183 ⟨rfl, by exact ⟨by rw [hi4.1, show (k : Int) = S 1 0 by omega], fun i i1 i2 => by rw [fm181 i i1, hi64.1 i i1]; exact hi4.2.1 i i2, fun S2 hD => RS_drop hW hR hD (fun j j1 j2 => by rw [gm181 _ j j2]; exact hi64.2.1 j (Or.inl j1)) (by rw [vm181, hi4.1, show (k : Int) = S 1 0 by omega]) (fun j j1 => by rw [gm181 _ j (by omega)]; exact hi64.2.1 j (Or.inr j1)) (fun a w h0 h1 h2 h3 h4 => by have z := hnr a h0; rw [gm181 _ _ (by omega)]; exact hi64.2.2.1 a w h0 (by omega) h2 h3 h4)⟩⟩ (Nat.zero_le _) (Nat.zero_le _)
        · have e5 : M4 (r + 5) n = if gne S d (n : Int) then -1000 else nwn S d n := by rw [hi64.1 _ (by omega)]; exact hi4.2.2 n (by omega) (by omega)
          have nk := hnr (n : Int) (by omega)
          have hwk := hW.2.2.1 (n : Int) (by omega) (by omega)
          have qk := rsn (n : Int) (by omega) (by omega)
          refine J_aload_n hX dX10_removes_74 rfl ?_
          refine J_gr hX (r + 5) fr_RX10_22 dX10_removes_75 (show K (r) = 9 from hM 0 (by decide)) rfl ?_
          refine J_iload_n hX dX10_removes_78 rfl ?_
          refine J_iald hX dX10_removes_79 (show K (r + 5) = 1000 + 20 from hM 5 (by decide)) ⟨by omega, by omega⟩ (by decide) (fun r79 => ?_)
          refine J_sipush hX dX10_removes_80 rfl ?_
          refine J_icmp_eq hX 169 dX10_removes_83 (by omega) (by decide) (by decide) (fun c83 => ?_) (fun c83 => ?_)
          · refine J_iinc hX dX10_removes_169 rfl (by decide) ?_
            refine J_goto hX 64 dX10_removes_172 (by decide) ?_
            exact J_locI (ih64 (n + 1) (by omega) (by omega) _ (by
                        first
                          | (have gg : gne S d (n : Int) := (by by_cases g : gne S d (n : Int); exact g; (rw [if_neg g] at e5; exfalso; omega))
                             exact ⟨hi64.1, hi64.2.1, fun a w h0 h1 h2 h3 h4 => by by_cases e : a = n; (rw [e] at h2; exact absurd gg h2); exact hi64.2.2.1 a w h0 (by omega) h2 h3 h4, fun a w h0 h1 h2 h3 => hi64.2.2.2 a w (by omega) h1 h2 h3⟩)
                          | (have q8 : (q : Int) = 8 := (by omega)
                             exact ⟨fun i hi => by rw [fm168 i hi, hi111.1 i hi]; exact hi64.1 i hi, fun j hj => by rw [gm168 _ j (by omega), hi111.2.2.2 j, if_neg (by omega)]; exact hi64.2.1 j hj, fun a w h0 h1 h2 h3 h4 => by
                               by_cases e : a = n
                               · subst e
                                 unfold rwv
                                 by_cases w0 : w = 0
                                 · rw [if_pos w0, w0, Int.add_zero, show (14 : Int) + 8 * nwn S d n = t by omega, vm168]
                                   first
                                     | (rw [if_pos (by omega)])
                                     | (rw [if_neg (by omega)]; exact e5p)
                                 · rw [if_neg w0, gm168 _ _ (by omega), hi111.2.2.2, if_pos (by omega), show (14 : Int) + 8 * (n : Int) + (14 + 8 * nwn S d n + w - t) = 14 + 8 * n + w by omega]
                                   exact hi64.2.2.2 n w (by omega) (by omega) (by omega) (by omega)
                               · have lt := nwn_lt (S := S) (d := d) n a h0 (by omega) h2
                                 rw [gm168 _ _ (by omega), hi111.2.2.2, if_neg (by omega)]
                                 exact hi64.2.2.1 a w h0 (by omega) h2 h3 h4, fun a w h0 h1 h2 h3 => by rw [gm168 _ _ (by omega), hi111.2.2.2, if_neg (by omega)]; exact hi64.2.2.2 a w (by omega) h1 h2 h3⟩))) rfl
          · have ng : ¬ gne S d (n : Int) := fun g => c83 (by rw [e5, if_pos g])
            have en : M4 (r + 5) n = nwn S d n := by rw [e5, if_neg ng]
            have ep : M4 (r + 1) (14 + 8 * (n : Int) + 0) = S 2 n := by rw [hi64.2.2.2 (n : Int) 0 (by omega) (by omega) (by omega) (by omega), Int.add_zero]; exact qk.1
            have gi := gne_iff hW (d := d) (n := (n : Int)) (by omega) (by omega)
            refine J_aload_n hX dX10_removes_86 rfl ?_
            refine J_iload_n hX dX10_removes_87 rfl ?_
            refine J_iconst hX dX10_removes_88 ?_
            refine J_callVI hX _ dX10_removes_89 cw_RX10_62 (m_X10_of hM (by omega) (by omega) (by rw [ep]; omega)) ⟨(show K (r) = 9 from hM 0 (by decide)), by decide, by decide, rfl⟩ rfl (Nat.le_of_ble_eq_true rfl) (by decide) ⟨Nat.zero_le _, Nat.zero_le _⟩ (fun r89 => ?_)
            refine J_istore hX dX10_removes_92 (by decide) ?_
            refine J_bipush hX dX10_removes_94 rfl ?_
            refine J_bipush hX dX10_removes_96 rfl ?_
            refine J_aload_n hX dX10_removes_98 rfl ?_
            refine J_gr hX (r + 5) fr_RX10_22 dX10_removes_99 (show K (r) = 9 from hM 0 (by decide)) rfl ?_
            refine J_iload_n hX dX10_removes_102 rfl ?_
            refine J_iald hX dX10_removes_103 (show K (r + 5) = 1000 + 20 from hM 5 (by decide)) ⟨by omega, by omega⟩ (by decide) (fun r103 => ?_)
            rw [en]
            refine J_imul hX dX10_removes_104 ?_
            refine J_iadd hX dX10_removes_105 ?_
            refine J_istore hX dX10_removes_106 (by decide) ?_
            refine J_iconst hX dX10_removes_108 ?_
            refine J_istore hX dX10_removes_109 (by decide) ?_
            have HL111 : ∀ q : Nat, q ≤ 8 → ∀ (p t : Int) (M5 : MM), ((∀ i, i ≠ r + 1 → M5 i = M4 i) ∧ p = M4 (r + 1) (14 + 8 * (n : Int) + 0) ∧ t = 14 + 8 * nwn S d n ∧ ∀ j : Int, M5 (r + 1) j = if t ≤ j ∧ j < t + q then M4 (r + 1) (14 + 8 * n + (j - t)) else M4 (r + 1) j) → J E X 111 [(0, .ref r), (1, vI d), (2, vI s), (3, vI (n : Int)), (4, vI p), (5, vI t), (6, vI (q : Int))] [] K M5 0 0 := by
              refine up_ind (8) (fun q hk111 ih111 => ?_)
              intro p t  M5  hi111
              have ht9 := hi111.2.2.1
              refine J_iload hX dX10_removes_111 rfl ?_
              refine J_bipush hX dX10_removes_113 rfl ?_
              refine J_icmp_ge hX 141 dX10_removes_115 (by omega) (by decide) (by decide) (fun c115 => ?_) (fun c115 => ?_)
              · have ep2 : p = S 2 n := by rw [hi111.2.1]; exact ep
                refine J_aload_n hX dX10_removes_141 rfl ?_
                refine J_gr hX (r + 1) fr_RX10_7 dX10_removes_142 (show K (r) = 9 from hM 0 (by decide)) rfl ?_
                refine J_iload hX dX10_removes_145 rfl ?_
                refine J_iload hX dX10_removes_147 rfl ?_
                refine J_sipush hX dX10_removes_149 rfl ?_
                refine J_icmp_ne hX 161 dX10_removes_152 (by omega) (by decide) (by decide) (fun c152 => ?_) (fun c152 => ?_)
                · refine J_aload_n hX dX10_removes_161 rfl ?_
                  have hp0 : 0 ≤ S 2 n := by omega
                  have ngp : ¬ gne S d (S 2 n) := fun g => ng (gi.mpr (Or.inr ⟨hp0, g⟩))
                  have e5p : M5 (r + 5) p = nwn S d (S 2 n) := by rw [hi111.1 _ (by omega), hi64.1 _ (by omega), ep2, hi4.2.2 _ hp0 (by omega), if_neg ngp]
                  have npr := hnr (S 2 n) hp0
                  refine J_gr hX (r + 5) fr_RX10_22 dX10_removes_162 (show K (r) = 9 from hM 0 (by decide)) rfl ?_
                  refine J_iload hX dX10_removes_165 rfl ?_
                  refine J_iald hX dX10_removes_167 (show K (r + 5) = 1000 + 20 from hM 5 (by decide)) ⟨by omega, by omega⟩ (by decide) (fun r167 => ?_)
                  refine J_istA hX dX10_removes_168 (show K (r + 1) = 1000 + 198 from hM 1 (by decide)) ⟨by omega, by omega⟩ (by decide) (by omega) (fun m168 hm168 => ?_)
                  have fm168 : ∀ i, i ≠ r + 1 → m168 i = M5 i := fun i h => by rw [hm168]; exact mset_ne h
                  have gm168 : ∀ i j, j ≠ t → m168 i j = M5 i j := fun i j h => by rw [hm168]; exact mset_nj h
                  have vm168 := (congrFun (congrFun hm168 (r + 1)) (t)).trans mset_eq
                  refine J_iinc hX dX10_removes_169 rfl (by decide) ?_
                  refine J_goto hX 64 dX10_removes_172 (by decide) ?_
                  exact J_locI (ih64 (n + 1) (by omega) (by omega) _ (by
                              first
                                | (have gg : gne S d (n : Int) := (by by_cases g : gne S d (n : Int); exact g; (rw [if_neg g] at e5; exfalso; omega))
                                   exact ⟨hi64.1, hi64.2.1, fun a w h0 h1 h2 h3 h4 => by by_cases e : a = n; (rw [e] at h2; exact absurd gg h2); exact hi64.2.2.1 a w h0 (by omega) h2 h3 h4, fun a w h0 h1 h2 h3 => hi64.2.2.2 a w (by omega) h1 h2 h3⟩)
                                | (have q8 : (q : Int) = 8 := (by omega)
                                   exact ⟨fun i hi => by rw [fm168 i hi, hi111.1 i hi]; exact hi64.1 i hi, fun j hj => by rw [gm168 _ j (by omega), hi111.2.2.2 j, if_neg (by omega)]; exact hi64.2.1 j hj, fun a w h0 h1 h2 h3 h4 => by
                                     by_cases e : a = n
                                     · subst e
                                       unfold rwv
                                       by_cases w0 : w = 0
                                       · rw [if_pos w0, w0, Int.add_zero, show (14 : Int) + 8 * nwn S d n = t by omega, vm168]
                                         first
                                           | (rw [if_pos (by omega)])
                                           | (rw [if_neg (by omega)]; exact e5p)
                                       · rw [if_neg w0, gm168 _ _ (by omega), hi111.2.2.2, if_pos (by omega), show (14 : Int) + 8 * (n : Int) + (14 + 8 * nwn S d n + w - t) = 14 + 8 * n + w by omega]
                                         exact hi64.2.2.2 n w (by omega) (by omega) (by omega) (by omega)
                                     · have lt := nwn_lt (S := S) (d := d) n a h0 (by omega) h2
                                       rw [gm168 _ _ (by omega), hi111.2.2.2, if_neg (by omega)]
                                       exact hi64.2.2.1 a w h0 (by omega) h2 h3 h4, fun a w h0 h1 h2 h3 => by rw [gm168 _ _ (by omega), hi111.2.2.2, if_neg (by omega)]; exact hi64.2.2.2 a w (by omega) h1 h2 h3⟩))) rfl
                · refine J_sipush hX dX10_removes_155 rfl ?_
                  refine J_goto hX 168 dX10_removes_158 (by decide) ?_
                  refine J_istA hX dX10_removes_168 (show K (r + 1) = 1000 + 198 from hM 1 (by decide)) ⟨by omega, by omega⟩ (by decide) (by omega) (fun m168 hm168 => ?_)
                  have fm168 : ∀ i, i ≠ r + 1 → m168 i = M5 i := fun i h => by rw [hm168]; exact mset_ne h
                  have gm168 : ∀ i j, j ≠ t → m168 i j = M5 i j := fun i j h => by rw [hm168]; exact mset_nj h
                  have vm168 := (congrFun (congrFun hm168 (r + 1)) (t)).trans mset_eq
                  refine J_iinc hX dX10_removes_169 rfl (by decide) ?_
                  refine J_goto hX 64 dX10_removes_172 (by decide) ?_
                  exact J_locI (ih64 (n + 1) (by omega) (by omega) _ (by
                              first
                                | (have gg : gne S d (n : Int) := (by by_cases g : gne S d (n : Int); exact g; (rw [if_neg g] at e5; exfalso; omega))
                                   exact ⟨hi64.1, hi64.2.1, fun a w h0 h1 h2 h3 h4 => by by_cases e : a = n; (rw [e] at h2; exact absurd gg h2); exact hi64.2.2.1 a w h0 (by omega) h2 h3 h4, fun a w h0 h1 h2 h3 => hi64.2.2.2 a w (by omega) h1 h2 h3⟩)
                                | (have q8 : (q : Int) = 8 := (by omega)
                                   exact ⟨fun i hi => by rw [fm168 i hi, hi111.1 i hi]; exact hi64.1 i hi, fun j hj => by rw [gm168 _ j (by omega), hi111.2.2.2 j, if_neg (by omega)]; exact hi64.2.1 j hj, fun a w h0 h1 h2 h3 h4 => by
                                     by_cases e : a = n
                                     · subst e
                                       unfold rwv
                                       by_cases w0 : w = 0
                                       · rw [if_pos w0, w0, Int.add_zero, show (14 : Int) + 8 * nwn S d n = t by omega, vm168]
                                         first
                                           | (rw [if_pos (by omega)])
                                           | (rw [if_neg (by omega)]; exact e5p)
                                       · rw [if_neg w0, gm168 _ _ (by omega), hi111.2.2.2, if_pos (by omega), show (14 : Int) + 8 * (n : Int) + (14 + 8 * nwn S d n + w - t) = 14 + 8 * n + w by omega]
                                         exact hi64.2.2.2 n w (by omega) (by omega) (by omega) (by omega)
                                     · have lt := nwn_lt (S := S) (d := d) n a h0 (by omega) h2
                                       rw [gm168 _ _ (by omega), hi111.2.2.2, if_neg (by omega)]
                                       exact hi64.2.2.1 a w h0 (by omega) h2 h3 h4, fun a w h0 h1 h2 h3 => by rw [gm168 _ _ (by omega), hi111.2.2.2, if_neg (by omega)]; exact hi64.2.2.2 a w (by omega) h1 h2 h3⟩))) rfl
              · refine J_i32 (show K (r + 1) = 1000 + 198 from hM 1 (by decide)) (fun hi32 => ?_)
                refine J_aload_n hX dX10_removes_118 rfl ?_
                refine J_gr hX (r + 1) fr_RX10_7 dX10_removes_119 (show K (r) = 9 from hM 0 (by decide)) rfl ?_
                refine J_iload hX dX10_removes_122 rfl ?_
                refine J_iload hX dX10_removes_124 rfl ?_
                refine J_iadd hX dX10_removes_126 ?_
                refine J_aload_n hX dX10_removes_127 rfl ?_
                refine J_iload_n hX dX10_removes_128 rfl ?_
                refine J_iload hX dX10_removes_129 rfl ?_
                refine J_callVI hX _ dX10_removes_131 cw_RX10_62 (m_X10_of hM (by omega) (by omega) (hi32 _)) ⟨(show K (r) = 9 from hM 0 (by decide)), by decide, by decide, rfl⟩ rfl (Nat.le_of_ble_eq_true rfl) (by decide) ⟨Nat.zero_le _, Nat.zero_le _⟩ (fun r131 => ?_)
                refine J_istA hX dX10_removes_134 (show K (r + 1) = 1000 + 198 from hM 1 (by decide)) ⟨by omega, by omega⟩ (by decide) (by omega) (fun m134 hm134 => ?_)
                have fm134 : ∀ i, i ≠ r + 1 → m134 i = M5 i := fun i h => by rw [hm134]; exact mset_ne h
                refine J_iinc hX dX10_removes_135 rfl (by decide) ?_
                refine J_goto hX 111 dX10_removes_138 (by decide) ?_
                exact J_locI (ih111 (q + 1) (by omega) (by omega) _ _ _ ⟨fun i hi => by rw [hm134, mset_ne hi]; exact hi111.1 i hi, hi111.2.1, hi111.2.2.1, fun j => by
                              by_cases e : j = t + (q : Int)
                              · rw [e, hm134, mset_eq, if_pos (by omega), hi111.2.2.2, if_neg (by omega)]; congr 1; omega
                              · rw [hm134, mset_nj e, hi111.2.2.2 j]
                                by_cases h9 : t ≤ j ∧ j < t + (q : Int)
                                · rw [if_pos h9, if_pos (by omega)]
                                · rw [if_neg h9, if_neg (by omega)]⟩) rfl
            exact J_locI (HL111 0 (Nat.zero_le _) _ _ _ ⟨fun _ _ => rfl, rfl, rfl, fun j => by rw [if_neg (by omega)]⟩) rfl
      exact J_locI (HL64 0 (Nat.zero_le _) _ ⟨fun _ _ => rfl, fun j _ => by rw [hi4.2.1 _ (by omega)], fun a w h0 h1 => absurd h1 (by omega), fun a w _ _ _ _ => by rw [hi4.2.1 _ (by omega)]⟩) rfl
    · have nk := hnr (k : Int) (by omega)
      refine J_aload_n hX dX10_removes_14 rfl ?_
      refine J_gr hX (r + 5) fr_RX10_22 dX10_removes_15 (show K (r) = 9 from hM 0 (by decide)) rfl ?_
      refine J_iload_n hX dX10_removes_18 rfl ?_
      refine J_aload_n hX dX10_removes_19 rfl ?_
      refine J_iload_n hX dX10_removes_20 rfl ?_
      refine J_iload_n hX dX10_removes_21 rfl ?_
      refine J_callVB hX _ dX10_removes_22 cw_RX10_106 (m_X10_isWithin hM hR1 hW (show hs S (k : Int) by omega) (by omega)) ⟨(show K (r) = 9 from hM 0 (by decide)), by decide, by decide, rfl⟩ rfl (Nat.le_of_ble_eq_true rfl) (by decide) ⟨Nat.zero_le _, Nat.zero_le _⟩ ?_
      refine J_ifb_eq hX 34 dX10_removes_25 (by decide) (fun c25 => ?_) (fun c25 => ?_)
      · refine J_iload_n hX dX10_removes_34 rfl ?_
        refine J_istA hX dX10_removes_35 (show K (r + 5) = 1000 + 20 from hM 5 (by decide)) ⟨by omega, by omega⟩ (by decide) (by omega) (fun m35 hm35 => ?_)
        have fm35 : ∀ i, i ≠ r + 5 → m35 i = M3 i := fun i h => by rw [hm35]; exact mset_ne h
        have gm35 : ∀ i j, j ≠ (k : Int) → m35 i j = M3 i j := fun i j h => by rw [hm35]; exact mset_nj h
        have vm35 := (congrFun (congrFun hm35 (r + 5)) ((k : Int))).trans mset_eq
        refine J_iload_n hX dX10_removes_36 rfl ?_
        refine J_aload_n hX dX10_removes_37 rfl ?_
        refine J_gr hX (r + 5) fr_RX10_22 dX10_removes_38 (show K (r) = 9 from hM 0 (by decide)) rfl ?_
        refine J_iload_n hX dX10_removes_41 rfl ?_
        refine J_iald hX dX10_removes_42 (show K (r + 5) = 1000 + 20 from hM 5 (by decide)) ⟨by omega, by omega⟩ (by decide) (fun r42 => ?_)
        refine J_sipush hX dX10_removes_43 rfl ?_
        refine J_icmp_ne hX 53 dX10_removes_46 (by omega) (by decide) (by decide) (fun c46 => ?_) (fun c46 => ?_)
        · refine J_iconst hX dX10_removes_53 ?_
          refine J_iadd hX dX10_removes_54 ?_
          refine J_istore_n hX dX10_removes_55 (by decide) ?_
          refine J_iinc hX dX10_removes_56 rfl (by decide) ?_
          refine J_goto hX 4 dX10_removes_59 (by decide) ?_
          exact J_locI (ih4 (k + 1) (by omega) (by omega) _ _ (by
                      first
                        | (exfalso; omega)
                        | exact ⟨by rw [nwn_f c25]; omega, fun i hi => by rw [fm35 i hi]; exact hi4.2.1 i hi, fun n h0 h1 => by by_cases e : n = k; (rw [e, vm35, if_pos c25]); (rw [gm35 _ n e]; exact hi4.2.2 n h0 (by omega))⟩
                        | exact ⟨by rw [nwn_t c25]; omega, fun i hi => by rw [fm35 i hi]; exact hi4.2.1 i hi, fun n h0 h1 => by by_cases e : n = k; (rw [e, vm35, if_neg c25]; exact hi4.1); (rw [gm35 _ n e]; exact hi4.2.2 n h0 (by omega))⟩)) rfl
        · refine J_iconst hX dX10_removes_49 ?_
          refine J_goto hX 54 dX10_removes_50 (by decide) ?_
          refine J_iadd hX dX10_removes_54 ?_
          refine J_istore_n hX dX10_removes_55 (by decide) ?_
          refine J_iinc hX dX10_removes_56 rfl (by decide) ?_
          refine J_goto hX 4 dX10_removes_59 (by decide) ?_
          exact J_locI (ih4 (k + 1) (by omega) (by omega) _ _ (by
                      first
                        | (exfalso; omega)
                        | exact ⟨by rw [nwn_f c25]; omega, fun i hi => by rw [fm35 i hi]; exact hi4.2.1 i hi, fun n h0 h1 => by by_cases e : n = k; (rw [e, vm35, if_pos c25]); (rw [gm35 _ n e]; exact hi4.2.2 n h0 (by omega))⟩
                        | exact ⟨by rw [nwn_t c25]; omega, fun i hi => by rw [fm35 i hi]; exact hi4.2.1 i hi, fun n h0 h1 => by by_cases e : n = k; (rw [e, vm35, if_neg c25]; exact hi4.1); (rw [gm35 _ n e]; exact hi4.2.2 n h0 (by omega))⟩)) rfl
      · refine J_sipush hX dX10_removes_28 rfl ?_
        refine J_goto hX 35 dX10_removes_31 (by decide) ?_
        refine J_istA hX dX10_removes_35 (show K (r + 5) = 1000 + 20 from hM 5 (by decide)) ⟨by omega, by omega⟩ (by decide) (by omega) (fun m35 hm35 => ?_)
        have fm35 : ∀ i, i ≠ r + 5 → m35 i = M3 i := fun i h => by rw [hm35]; exact mset_ne h
        have gm35 : ∀ i j, j ≠ (k : Int) → m35 i j = M3 i j := fun i j h => by rw [hm35]; exact mset_nj h
        have vm35 := (congrFun (congrFun hm35 (r + 5)) ((k : Int))).trans mset_eq
        refine J_iload_n hX dX10_removes_36 rfl ?_
        refine J_aload_n hX dX10_removes_37 rfl ?_
        refine J_gr hX (r + 5) fr_RX10_22 dX10_removes_38 (show K (r) = 9 from hM 0 (by decide)) rfl ?_
        refine J_iload_n hX dX10_removes_41 rfl ?_
        refine J_iald hX dX10_removes_42 (show K (r + 5) = 1000 + 20 from hM 5 (by decide)) ⟨by omega, by omega⟩ (by decide) (fun r42 => ?_)
        refine J_sipush hX dX10_removes_43 rfl ?_
        refine J_icmp_ne hX 53 dX10_removes_46 (by omega) (by decide) (by decide) (fun c46 => ?_) (fun c46 => ?_)
        · refine J_iconst hX dX10_removes_53 ?_
          refine J_iadd hX dX10_removes_54 ?_
          refine J_istore_n hX dX10_removes_55 (by decide) ?_
          refine J_iinc hX dX10_removes_56 rfl (by decide) ?_
          refine J_goto hX 4 dX10_removes_59 (by decide) ?_
          exact J_locI (ih4 (k + 1) (by omega) (by omega) _ _ (by
                      first
                        | (exfalso; omega)
                        | exact ⟨by rw [nwn_f c25]; omega, fun i hi => by rw [fm35 i hi]; exact hi4.2.1 i hi, fun n h0 h1 => by by_cases e : n = k; (rw [e, vm35, if_pos c25]); (rw [gm35 _ n e]; exact hi4.2.2 n h0 (by omega))⟩
                        | exact ⟨by rw [nwn_t c25]; omega, fun i hi => by rw [fm35 i hi]; exact hi4.2.1 i hi, fun n h0 h1 => by by_cases e : n = k; (rw [e, vm35, if_neg c25]; exact hi4.1); (rw [gm35 _ n e]; exact hi4.2.2 n h0 (by omega))⟩)) rfl
        · refine J_iconst hX dX10_removes_49 ?_
          refine J_goto hX 54 dX10_removes_50 (by decide) ?_
          refine J_iadd hX dX10_removes_54 ?_
          refine J_istore_n hX dX10_removes_55 (by decide) ?_
          refine J_iinc hX dX10_removes_56 rfl (by decide) ?_
          refine J_goto hX 4 dX10_removes_59 (by decide) ?_
          exact J_locI (ih4 (k + 1) (by omega) (by omega) _ _ (by
                      first
                        | (exfalso; omega)
                        | exact ⟨by rw [nwn_f c25]; omega, fun i hi => by rw [fm35 i hi]; exact hi4.2.1 i hi, fun n h0 h1 => by by_cases e : n = k; (rw [e, vm35, if_pos c25]); (rw [gm35 _ n e]; exact hi4.2.2 n h0 (by omega))⟩
                        | exact ⟨by rw [nwn_t c25]; omega, fun i hi => by rw [fm35 i hi]; exact hi4.2.1 i hi, fun n h0 h1 => by by_cases e : n = k; (rw [e, vm35, if_neg c25]; exact hi4.1); (rw [gm35 _ n e]; exact hi4.2.2 n h0 (by omega))⟩)) rfl
  exact J_locI (HL4 0 (Nat.zero_le _) _ _ ⟨rfl, fun _ _ => rfl, fun n h0 h1 => absurd h1 (by omega)⟩) rfl
