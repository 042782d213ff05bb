/-! edges: nothing that is cut is ahead of the window; the title is ahead of what it covers -/
theorem cutF {T : Int} {S : MM} (hW : WFS T S) {n : Int} (hb : bx S n) : (pos S 5 n < S 0 4 → 0 < pos S 5 n + S 8 n → ((col S 1 n < wnd S 1 ∧ wnd S 1 < col S 1 n + S 7 n → shf S n ≤ wnd S 1) ∧ (col S 0 n < 0 ∧ 0 < col S 0 n + S 7 n → shf S n ≤ wnd S 1)) ∧ ((col S 1 n < S 0 3 ∧ S 0 3 < col S 1 n + S 7 n → shf S n ≤ wnd S 0) ∧ (col S 0 n < S 0 3 - wnd S 0 ∧ S 0 3 - wnd S 0 < col S 0 n + S 7 n → shf S n ≤ wnd S 0))) := by
  intro h1 h2
  have f1 := wnd_fix hW 1 hb.1
  have f0 := wnd_fix hW 0 hb.1
  refine ⟨⟨fun h => ?_, fun h => ?_⟩, ⟨fun h => ?_, fun h => ?_⟩⟩
  · exact Int.not_lt.mp (fun z => f1 ⟨z, ⟨hb, h1, h2⟩, by rw [if_neg (by decide)]; exact Or.inl h⟩)
  · exact Int.not_lt.mp (fun z => f1 ⟨z, ⟨hb, h1, h2⟩, by rw [if_neg (by decide)]; exact Or.inr h⟩)
  · exact Int.not_lt.mp (fun z => f0 ⟨z, ⟨hb, h1, h2⟩, by rw [if_pos rfl]; exact Or.inl h⟩)
  · exact Int.not_lt.mp (fun z => f0 ⟨z, ⟨hb, h1, h2⟩, by rw [if_pos rfl]; exact Or.inr h⟩)
theorem coF (p s : Int) : co 1 p s = p + (s + 1) / 2 ∧ co 0 p s = p - s / 2 := ⟨if_neg (by decide), if_pos rfl⟩
theorem csnF {T : Int} {S : MM} (hW : WFS T S) {l r t : Int} (h : cst S l r t = true) {n : Int} (hb : bx S n) : ¬ (t ≤ shf S n ∧ (pos S 5 n ≤ r ∧ r < pos S 5 n + S 8 n) ∧ col S l n < co l (S 0 5) t + S 0 7 ∧ co l (S 0 5) t < col S l n + S 7 n) := fun q => by
  have h2 := csn_all.mp (cst_iff.mp h).2
  have hn := hb.1
  have hc : (n.toNat : Nat) < cnt S := by unfold cnt; omega
  have h3 := h2 n.toNat hc
  rw [show ((n.toNat : Nat) : Int) = n by omega] at h3
  exact h3 ⟨q.1, ⟨hb, q.2.1⟩, q.2.2⟩
/-- the title's case: shown, or not -/
theorem titF {T : Int} {S : MM} (hW : WFS T S) : (tvl S 3 = -1000 ∧ tvl S 4 = -1000 ∧ tvl S 5 = -1000 ∧ tvl S 6 = -1000 ∧ (ttl S).1 = -1000) ∨ (S 0 7 ≠ 0 ∧ (0 ≤ (ttl S).1 ∧ (ttl S).1 ≤ S 0 6) ∧ (0 ≤ (ttl S).2 ∧ (ttl S).2 ≤ S 11 3) ∧ (cst S 1 (ttl S).1 (ttl S).2 = true ∧ cst S 0 (ttl S).1 (ttl S).2 = true) ∧ tco S 1 = S 0 5 + ((ttl S).2 + 1) / 2 ∧ tco S 0 = S 0 5 - (ttl S).2 / 2 ∧ (wnd S 1 ≤ tco S 1 ∧ tco S 1 + S 0 7 ≤ S 0 3) ∧ (0 ≤ tco S 0 ∧ tco S 0 + S 0 7 ≤ S 0 3 - wnd S 0)) := by
  have hw := hW.2.1
  unfold WFSs at hw
  rcases ttl_ok hW with ⟨h1, h2⟩ | ⟨h1, h2, h3, h4, h5, h6, h7⟩
  · refine Or.inl ?_
    by_cases q : S 0 7 = 0
    · exact ⟨if_pos q, if_pos q, if_pos q, if_pos q, h1⟩
    · have t : ∀ l, tco S l = -1000 := fun l => by unfold tco; rw [if_pos (by omega)]
      exact ⟨(if_neg q).trans h1, (if_neg q).trans h2, (if_neg q).trans (t 1), (if_neg q).trans (t 0), h1⟩
  · refine Or.inr ?_
    have t : ∀ l, tco S l = co l (S 0 5) (ttl S).2 := fun l => by unfold tco; rw [if_neg (by omega)]
    have a1 := (cst_iff.mp h6).1
    have a0 := (cst_iff.mp h7).1
    have c := coF (S 0 5) (ttl S).2
    have o1 : opn S 1 = wnd S 1 := if_neg (by decide)
    have o0 : opn S 0 = 0 := if_pos rfl
    have l1 : cls S 1 = S 0 3 := if_neg (by decide)
    have l0 : cls S 0 = S 0 3 - wnd S 0 := if_pos rfl
    rw [o1, l1, ← t 1] at a1
    rw [o0, l0, ← t 0] at a0
    exact ⟨h1, ⟨h2, h3⟩, ⟨h4, h5⟩, ⟨h6, h7⟩, (t 1).trans c.1, (t 0).trans c.2, a1, a0⟩

set_option maxHeartbeats 16000000 in
set_option maxRecDepth 100000 in
theorem m_L_edges {E : EE} {x : Nat} {T : Int} {S : MM} {c : Int} {P : MM} {K : Nat → Nat} {M : MM} {n0 : Nat}  (hE : ∀ U, SF E U → ThF E U ∧ NcF U) (hI : IV n0 T K M x S c P)  : CnL E 10 yL_edges cL_edges 16 (some .boolean) [.ref x] K M (fun r K2 M2 => K2 = K ∧ r = some (vI 1) ∧ ∃ n2, IV n2 T K2 M2 x S c P) 1400 8400 := by
  refine CnL_of RL (plainFor_of_name (by decide)) rfl (Nat.le_of_ble_eq_true rfl) (fun X hX0 hQ hXK hP hl => ?_)
  obtain ⟨Z, hZ⟩ : ∃ Z : QZ, Z = (x, T, S, c, P, 1400, 8400) := ⟨_, rfl⟩
  have hX : XO E X cL_edges RL 16 10 Z.c0 Z.s0 := by rw [hZ]; exact hX0
  have hW := hI.wfs
  have w9 := hW.2.1
  unfold WFSs at w9
  have fin : ∀ (q pc : Nat) (L : List (Nat × Value)), decode cL_edges pc = .ok (.ireturn, 1) → QJ E X Z K q pc L [vI 1] := by
    intro q pc L hd n M2 a b hI2 ha hb
    rw [hZ] at hI2 ha hb
    exact J_zret hX0 hQ hd (Or.inr rfl) ⟨rfl, rfl, n, hI2⟩ (by have h2 : a + 2 * q ≤ 1400 := ha; omega) (by have h2 : b + 12 * q ≤ 8400 := hb; omega)
  have main : QJ E X Z K 700 0 [(0, .ref x)] [] := by
    subst hZ
    obtain ⟨PS, hPS⟩ : ∃ f : Nat → Int → Int, pos S = f := ⟨_, rfl⟩
    obtain ⟨RW, hRW⟩ : ∃ f : Int → Int, rawg S (S 15 0) = f := ⟨_, rfl⟩
    obtain ⟨SH, hSH⟩ : ∃ f : Int → Int, shf S = f := ⟨_, rfl⟩
    obtain ⟨CL, hCL⟩ : ∃ f : Int → Int → Int, col S = f := ⟨_, rfl⟩
    obtain ⟨PC, hPC⟩ : ∃ f : Int, pct S = f := ⟨_, rfl⟩
    obtain ⟨WA, hWA⟩ : ∃ f : Int, wnd S 1 = f := ⟨_, rfl⟩
    obtain ⟨WB, hWB⟩ : ∃ f : Int, wnd S 0 = f := ⟨_, rfl⟩
    obtain ⟨TR, hTR⟩ : ∃ f : Int, (ttl S).1 = f := ⟨_, rfl⟩
    obtain ⟨TS, hTS⟩ : ∃ f : Int, (ttl S).2 = f := ⟨_, rfl⟩
    obtain ⟨TA, hTA⟩ : ∃ f : Int, tco S 1 = f := ⟨_, rfl⟩
    obtain ⟨TB, hTB⟩ : ∃ f : Int, tco S 0 = f := ⟨_, rfl⟩
    obtain ⟨CT, hCT⟩ : ∃ f : Int, ct (bx S) (cnt S) = f := ⟨_, rfl⟩
    obtain ⟨NX, hNX⟩ : ∃ f : Nat → Nat, nbx S = f := ⟨_, rfl⟩
    obtain ⟨NB, hNB⟩ : ∃ f : Nat, nb S = f := ⟨_, rfl⟩
    obtain ⟨OR, hOR⟩ : ∃ f : Int → Int, ord S = f := ⟨_, rfl⟩
    refine Q_aload_n hX dL_edges_0 rfl ?_
    refine Q_iconst hX dL_edges_1 ?_
    refine Q_ask hX hl (u := 1) _ dL_edges_2 cwL_whole (a_whole (k := 0) hE (by decide) (by decide) (v := S 0 3) (wv_0 (by decide))) rfl (Nat.le_of_ble_eq_true rfl) ⟨by decide, by decide⟩ ?_
    refine Q_istore_n hX dL_edges_5 (by decide) ?_
    refine Q_aload_n hX dL_edges_6 rfl ?_
    refine Q_bipush hX dL_edges_7 rfl ?_
    refine Q_ask hX hl (u := 1) _ dL_edges_9 cwL_whole (a_whole (k := 10) hE (by decide) (by decide) (v := WA) ((wv_10 (by decide)).trans hWA)) rfl (Nat.le_of_ble_eq_true rfl) ⟨by decide, by decide⟩ ?_
    refine Q_istore_n hX dL_edges_12 (by decide) ?_
    refine Q_aload_n hX dL_edges_13 rfl ?_
    refine Q_bipush hX dL_edges_14 rfl ?_
    refine Q_ask hX hl (u := 1) _ dL_edges_16 cwL_whole (a_whole (k := 11) hE (by decide) (by decide) (v := WB) ((wv_11 (by decide)).trans hWB)) rfl (Nat.le_of_ble_eq_true rfl) ⟨by decide, by decide⟩ ?_
    refine Q_istore_n hX dL_edges_19 (by decide) ?_
    have a9 := wnd_rng hW 1
    try simp only [hPS, hRW, hSH, hCL, hPC, hWA, hWB, hTR, hTS, hTA, hTB, hCT, hNX, hNB, hOR] at a9
    have b9 := wnd_rng hW 0
    try simp only [hPS, hRW, hSH, hCL, hPC, hWA, hWB, hTR, hTS, hTA, hTB, hCT, hNX, hNB, hOR] at b9
    have a8 := wnd_hi hW 1
    try simp only [hPS, hRW, hSH, hCL, hPC, hWA, hWB, hTR, hTS, hTA, hTB, hCT, hNX, hNB, hOR] at a8
    have b8 := wnd_hi hW 0
    try simp only [hPS, hRW, hSH, hCL, hPC, hWA, hWB, hTR, hTS, hTA, hTB, hCT, hNX, hNB, hOR] at b8
    have tt9 := titF hW
    try simp only [hPS, hRW, hSH, hCL, hPC, hWA, hWB, hTR, hTS, hTA, hTB, hCT, hNX, hNB, hOR] at tt9
    refine Q_iload_n hX dL_edges_20 rfl ?_
    refine Q_if_lt hX 48 dL_edges_21 (by omega) (by decide) (fun c21 => ?_) (fun c21 => ?_)
    · skip
      exfalso
      omega
    · refine Q_iload_n hX dL_edges_24 rfl ?_
      refine Q_aload_n hX dL_edges_25 rfl ?_
      refine Q_bipush hX dL_edges_26 rfl ?_
      refine Q_ask hX hl (u := 1) _ dL_edges_28 cwL_whole (a_whole (k := 8) hE (by decide) (by decide) (v := S 11 3) (wv_8 (by decide))) rfl (Nat.le_of_ble_eq_true rfl) ⟨by decide, by decide⟩ ?_
      refine Q_icmp_gt hX 48 dL_edges_31 (by omega) (by omega) (by decide) (fun c31 => ?_) (fun c31 => ?_)
      · skip
        exfalso
        omega
      · refine Q_iload_n hX dL_edges_34 rfl ?_
        refine Q_if_lt hX 48 dL_edges_35 (by omega) (by decide) (fun c35 => ?_) (fun c35 => ?_)
        · skip
          exfalso
          omega
        · refine Q_iload_n hX dL_edges_38 rfl ?_
          refine Q_aload_n hX dL_edges_39 rfl ?_
          refine Q_bipush hX dL_edges_40 rfl ?_
          refine Q_ask hX hl (u := 1) _ dL_edges_42 cwL_whole (a_whole (k := 8) hE (by decide) (by decide) (v := S 11 3) (wv_8 (by decide))) rfl (Nat.le_of_ble_eq_true rfl) ⟨by decide, by decide⟩ ?_
          refine Q_icmp_le hX 50 dL_edges_45 (by omega) (by omega) (by decide) (fun c45 => ?_) (fun c45 => ?_)
          · skip
            rcases tt9 with ht | ht
            · skip
              refine Q_aload_n hX dL_edges_50 rfl ?_
              refine Q_iconst hX dL_edges_51 ?_
              refine Q_ask hX hl (u := 1) _ dL_edges_52 cwL_title (a_title hE (by decide) (by decide) (v := -1000) ht.1) rfl (Nat.le_of_ble_eq_true rfl) ⟨by decide, by decide⟩ ?_
              refine Q_istore hX dL_edges_55 (by decide) ?_
              refine Q_aload_n hX dL_edges_57 rfl ?_
              refine Q_iconst hX dL_edges_58 ?_
              refine Q_ask hX hl (u := 1) _ dL_edges_59 cwL_title (a_title hE (by decide) (by decide) (v := -1000) ht.2.1) rfl (Nat.le_of_ble_eq_true rfl) ⟨by decide, by decide⟩ ?_
              refine Q_istore hX dL_edges_62 (by decide) ?_
              refine Q_iload hX dL_edges_64 rfl ?_
              refine Q_sipush hX dL_edges_66 rfl ?_
              refine Q_icmp_ne hX 94 dL_edges_69 (by decide) (by decide) (by decide) (fun h => absurd (by decide) h) (fun _ => ?_)
              refine Q_iload hX dL_edges_72 rfl ?_
              refine Q_sipush hX dL_edges_74 rfl ?_
              refine Q_icmp_ne hX 188 dL_edges_77 (by decide) (by decide) (by decide) (fun h => absurd (by decide) h) (fun _ => ?_)
              refine Q_aload_n hX dL_edges_80 rfl ?_
              refine Q_iconst hX dL_edges_81 ?_
              refine Q_ask hX hl (u := 1) _ dL_edges_82 cwL_title (a_title hE (by decide) (by decide) (v := -1000) ht.2.2.1) rfl (Nat.le_of_ble_eq_true rfl) ⟨by decide, by decide⟩ ?_
              refine Q_sipush hX dL_edges_85 rfl ?_
              refine Q_icmp_eq hX 190 dL_edges_88 (by decide) (by decide) (by decide) (fun _ => ?_) (fun h => absurd (by decide) h)
              refine Q_iconst hX dL_edges_190 ?_
              refine Q_istore hX dL_edges_191 (by decide) ?_
              have HL193 : ∀ k : Nat, k ≤ (S 1 0).toNat → ∀ (n : Int), (n = k) → QJ E X (x, T, S, c, P, 1400, 8400) K (25 * (20 - k) + 10) 193 [(0, .ref x), (1, vI (S 0 3)), (2, vI (WA)), (3, vI (WB)), (4, vI (-1000)), (5, vI (-1000)), (6, vI n)] [] := by
                refine up_ind ((S 1 0).toNat) (fun k hk193 ih193 => ?_)
                intro n  hi193
                have en := hi193
                refine Q_le (q2 := 25 * (20 - k) + 9 + 1) (by omega) ?_
                refine Q_iload hX dL_edges_193 rfl ?_
                refine Q_aload_n hX dL_edges_195 rfl ?_
                refine Q_iconst hX dL_edges_196 ?_
                refine Q_ask hX hl (u := 1) _ dL_edges_197 cwL_whole (a_whole (k := 2) hE (by decide) (by decide) (v := S 1 0) (wv_2 (by decide))) rfl (Nat.le_of_ble_eq_true rfl) ⟨by decide, by decide⟩ ?_
                refine Q_icmp_ge hX 476 dL_edges_200 (by omega) (by omega) (by decide) (fun c200 => ?_) (fun c200 => ?_)
                · refine Q_iconst hX dL_edges_476 ?_
                  exact fin _ _ _ dL_edges_477
                · have hn : hs S n := ⟨by omega, by omega, by omega⟩
                  obtain ⟨-, -, g4n, g5n, g6n, g7n, g8n, -, g9n⟩ := hW.2.2.1 n hn.1 hn.2.1
                  have pn := posF hW hn
                  try simp only [hPS, hRW, hSH, hCL, hPC, hWA, hWB, hTR, hTS, hTA, hTB, hCT, hNX, hNB, hOR] at pn
                  refine Q_le (q2 := 25 * (20 - (k + 1)) + 34) (by omega) ?_
                  refine Q_aload_n hX dL_edges_203 rfl ?_
                  refine Q_iload hX dL_edges_204 rfl ?_
                  refine Q_bipush hX dL_edges_206 rfl ?_
                  by_cases hb : 0 < S 7 n
                  · skip
                    have hbx : bx S n := ⟨hn, hb⟩
                    have bf := boxF hW hbx
                    try simp only [hPS, hRW, hSH, hCL, hPC, hWA, hWB, hTR, hTS, hTA, hTB, hCT, hNX, hNB, hOR] at bf
                    obtain ⟨-, bf2, -, -, -, -, -, bf8, bf9⟩ := bf
                    have cf := cutF hW hbx
                    try simp only [hPS, hRW, hSH, hCL, hPC, hWA, hWB, hTR, hTS, hTA, hTB, hCT, hNX, hNB, hOR] at cf
                    replace cf := Hid.mk cf
                    refine Q_ask hX hl (u := 1) _ dL_edges_208 cwL_node (a_node (n9 := n) (k := 9) hE (by omega) (by decide) (nodeOK hn (by decide)) (v := S 7 n) (nv_9 (by decide) hn hb)) rfl (Nat.le_of_ble_eq_true rfl) ⟨by decide, by decide⟩ ?_
                    refine Q_istore hX dL_edges_211 (by decide) ?_
                    refine Q_aload_n hX dL_edges_213 rfl ?_
                    refine Q_iload hX dL_edges_214 rfl ?_
                    refine Q_iconst hX dL_edges_216 ?_
                    refine Q_ask hX hl (u := 1) _ dL_edges_217 cwL_node (a_node (n9 := n) (k := 5) hE (by omega) (by decide) (nodeOK hn (by decide)) (v := PS 5 n) ((nv_5 (by decide) hn).trans (congrFun (congrFun hPS 5) n))) rfl (Nat.le_of_ble_eq_true rfl) ⟨by decide, by decide⟩ ?_
                    refine Q_istore hX dL_edges_220 (by decide) ?_
                    refine Q_aload_n hX dL_edges_222 rfl ?_
                    refine Q_iload hX dL_edges_223 rfl ?_
                    refine Q_bipush hX dL_edges_225 rfl ?_
                    refine Q_ask hX hl (u := 1) _ dL_edges_227 cwL_node (a_node (n9 := n) (k := 13) hE (by omega) (by decide) (nodeOK hn (by decide)) (v := SH n) ((nv_13 (by decide) hn hb).trans (congrFun hSH n))) rfl (Nat.le_of_ble_eq_true rfl) ⟨by decide, by decide⟩ ?_
                    refine Q_istore hX dL_edges_230 (by decide) ?_
                    refine Q_iconst hX dL_edges_232 ?_
                    refine Q_istore hX dL_edges_233 (by decide) ?_
                    refine Q_iload hX dL_edges_235 rfl ?_
                    refine Q_iconst hX dL_edges_237 ?_
                    refine Q_icmp_ge hX 470 dL_edges_238 (by decide) (by decide) (by decide) (fun h => absurd h (by decide)) (fun _ => ?_)
                    refine Q_iload hX dL_edges_241 rfl ?_
                    refine Q_sipush hX dL_edges_243 rfl ?_
                    refine Q_icmp_eq hX 470 dL_edges_246 (by omega) (by decide) (by decide) (fun c246 => ((by omega : False)).elim) (fun c246 => ?_)
                    refine Q_aload_n hX dL_edges_249 rfl ?_
                    refine Q_iload hX dL_edges_250 rfl ?_
                    refine Q_bipush hX dL_edges_252 rfl ?_
                    refine Q_iload hX dL_edges_254 rfl ?_
                    refine Q_iadd hX dL_edges_256 ?_
                    refine Q_ask hX hl (u := 1) _ dL_edges_257 cwL_node (a_node (n9 := n) (k := (14 + 0)) hE (by omega) (by decide) (nodeOK hn (by decide)) (v := CL 1 n) ((nv_14 (by decide) hn hb).trans (congrFun (congrFun hCL 1) n))) rfl (Nat.le_of_ble_eq_true rfl) ⟨by decide, by decide⟩ ?_
                    refine Q_istore hX dL_edges_260 (by decide) ?_
                    refine Q_iload hX dL_edges_262 rfl ?_
                    refine Q_if_ne hX 271 dL_edges_264 (by decide) (by decide) (fun h => absurd (by decide) h) (fun _ => ?_)
                    refine Q_iload_n hX dL_edges_267 rfl ?_
                    refine Q_goto hX 272 dL_edges_268 (by decide) ?_
                    refine Q_istore hX dL_edges_272 (by decide) ?_
                    refine Q_iload hX dL_edges_274 rfl ?_
                    refine Q_if_ne hX 283 dL_edges_276 (by decide) (by decide) (fun h => absurd (by decide) h) (fun _ => ?_)
                    refine Q_iload_n hX dL_edges_279 rfl ?_
                    refine Q_goto hX 286 dL_edges_280 (by decide) ?_
                    refine Q_istore hX dL_edges_286 (by decide) ?_
                    have JN317 : ∀ (rw9 : Int), (Hid (rw9 = 1 ∧ PS 5 n < S 0 4 ∧ 0 < PS 5 n + S 8 n ∨ rw9 = 0 ∧ ¬ (PS 5 n < S 0 4 ∧ 0 < PS 5 n + S 8 n))) → QJ E X (x, T, S, c, P, 1400, 8400) K (25 * (20 - (k + 1)) + 26) 317 [(0, .ref x), (1, vI (S 0 3)), (2, vI (WA)), (3, vI (WB)), (4, vI (-1000)), (5, vI (-1000)), (6, vI n), (7, vI (S 7 n)), (8, vI (PS 5 n)), (9, vI (SH n)), (10, vI 0), (11, vI (CL 1 n)), (12, vI (WA)), (13, vI (S 0 3))] [vI rw9] := by
                      intro rw9  hj317
                      refine Q_istore hX dL_edges_317 (by decide) ?_
                      have JN347 : QJ E X (x, T, S, c, P, 1400, 8400) K (25 * (20 - (k + 1)) + 26) 347 [(0, .ref x), (1, vI (S 0 3)), (2, vI (WA)), (3, vI (WB)), (4, vI (-1000)), (5, vI (-1000)), (6, vI n), (7, vI (S 7 n)), (8, vI (PS 5 n)), (9, vI (SH n)), (10, vI 0), (11, vI (CL 1 n)), (12, vI (WA)), (13, vI (S 0 3)), (14, vI rw9)] [] := by
                        have JN377 : QJ E X (x, T, S, c, P, 1400, 8400) K (25 * (20 - (k + 1)) + 26) 377 [(0, .ref x), (1, vI (S 0 3)), (2, vI (WA)), (3, vI (WB)), (4, vI (-1000)), (5, vI (-1000)), (6, vI n), (7, vI (S 7 n)), (8, vI (PS 5 n)), (9, vI (SH n)), (10, vI 0), (11, vI (CL 1 n)), (12, vI (WA)), (13, vI (S 0 3))] [] := by
                          have JN448 : ∀ (mt : Int), (Hid (mt = 1 ∧ (0 : Int) = 1 ∨ mt = 0)) → QJ E X (x, T, S, c, P, 1400, 8400) K (25 * (20 - (k + 1)) + 20) 448 [(0, .ref x), (1, vI (S 0 3)), (2, vI (WA)), (3, vI (WB)), (4, vI (-1000)), (5, vI (-1000)), (6, vI n), (7, vI (S 7 n)), (8, vI (PS 5 n)), (9, vI (SH n)), (10, vI 0), (11, vI (CL 1 n)), (12, vI (WA)), (13, vI (S 0 3))] [vI mt] := by
                            intro mt  hj448
                            refine Q_istore hX dL_edges_448 (by decide) ?_
                            have JN464 : QJ E X (x, T, S, c, P, 1400, 8400) K (25 * (20 - (k + 1)) + 20) 464 [(0, .ref x), (1, vI (S 0 3)), (2, vI (WA)), (3, vI (WB)), (4, vI (-1000)), (5, vI (-1000)), (6, vI n), (7, vI (S 7 n)), (8, vI (PS 5 n)), (9, vI (SH n)), (10, vI 0)] [] := by
                              refine Q_iinc hX dL_edges_464 rfl (by decide) ?_
                              refine Q_goto hX 235 dL_edges_467 (by decide) ?_
                              refine Q_iload hX dL_edges_235 rfl ?_
                              refine Q_iconst hX dL_edges_237 ?_
                              refine Q_icmp_ge hX 470 dL_edges_238 (by decide) (by decide) (by decide) (fun h => absurd h (by decide)) (fun _ => ?_)
                              refine Q_iload hX dL_edges_241 rfl ?_
                              refine Q_sipush hX dL_edges_243 rfl ?_
                              refine Q_icmp_eq hX 470 dL_edges_246 (by omega) (by decide) (by decide) (fun c246 => ((by omega : False)).elim) (fun c246 => ?_)
                              refine Q_aload_n hX dL_edges_249 rfl ?_
                              refine Q_iload hX dL_edges_250 rfl ?_
                              refine Q_bipush hX dL_edges_252 rfl ?_
                              refine Q_iload hX dL_edges_254 rfl ?_
                              refine Q_iadd hX dL_edges_256 ?_
                              refine Q_ask hX hl (u := 1) _ dL_edges_257 cwL_node (a_node (n9 := n) (k := (14 + (0 + 1))) hE (by omega) (by decide) (nodeOK hn (by decide)) (v := CL 0 n) ((nv_15 (by decide) hn hb).trans (congrFun (congrFun hCL 0) n))) rfl (Nat.le_of_ble_eq_true rfl) ⟨by decide, by decide⟩ ?_
                              refine Q_istore hX dL_edges_260 (by decide) ?_
                              refine Q_iload hX dL_edges_262 rfl ?_
                              refine Q_if_ne hX 271 dL_edges_264 (by decide) (by decide) (fun _ => ?_) (fun h => absurd h (by decide))
                              refine Q_iconst hX dL_edges_271 ?_
                              refine Q_istore hX dL_edges_272 (by decide) ?_
                              refine Q_iload hX dL_edges_274 rfl ?_
                              refine Q_if_ne hX 283 dL_edges_276 (by decide) (by decide) (fun _ => ?_) (fun h => absurd h (by decide))
                              refine Q_iload_n hX dL_edges_283 rfl ?_
                              refine Q_iload_n hX dL_edges_284 rfl ?_
                              refine Q_isub hX dL_edges_285 ?_
                              refine Q_istore hX dL_edges_286 (by decide) ?_
                              have JN317 : ∀ (rw9 : Int), (Hid (rw9 = 1 ∧ PS 5 n < S 0 4 ∧ 0 < PS 5 n + S 8 n ∨ rw9 = 0 ∧ ¬ (PS 5 n < S 0 4 ∧ 0 < PS 5 n + S 8 n))) → QJ E X (x, T, S, c, P, 1400, 8400) K (25 * (20 - (k + 1)) + 17) 317 [(0, .ref x), (1, vI (S 0 3)), (2, vI (WA)), (3, vI (WB)), (4, vI (-1000)), (5, vI (-1000)), (6, vI n), (7, vI (S 7 n)), (8, vI (PS 5 n)), (9, vI (SH n)), (10, vI 1), (11, vI (CL 0 n)), (12, vI (0)), (13, vI ((S 0 3 - WB)))] [vI rw9] := by
                                intro rw9  hj317
                                refine Q_istore hX dL_edges_317 (by decide) ?_
                                have JN347 : QJ E X (x, T, S, c, P, 1400, 8400) K (25 * (20 - (k + 1)) + 17) 347 [(0, .ref x), (1, vI (S 0 3)), (2, vI (WA)), (3, vI (WB)), (4, vI (-1000)), (5, vI (-1000)), (6, vI n), (7, vI (S 7 n)), (8, vI (PS 5 n)), (9, vI (SH n)), (10, vI 1), (11, vI (CL 0 n)), (12, vI (0)), (13, vI ((S 0 3 - WB))), (14, vI rw9)] [] := by
                                  have JN377 : QJ E X (x, T, S, c, P, 1400, 8400) K (25 * (20 - (k + 1)) + 17) 377 [(0, .ref x), (1, vI (S 0 3)), (2, vI (WA)), (3, vI (WB)), (4, vI (-1000)), (5, vI (-1000)), (6, vI n), (7, vI (S 7 n)), (8, vI (PS 5 n)), (9, vI (SH n)), (10, vI 1), (11, vI (CL 0 n)), (12, vI (0)), (13, vI ((S 0 3 - WB)))] [] := by
                                    have JN448 : ∀ (mt : Int), (Hid (mt = 1 ∧ (0 : Int) = 1 ∨ mt = 0)) → QJ E X (x, T, S, c, P, 1400, 8400) K (25 * (20 - (k + 1)) + 10) 448 [(0, .ref x), (1, vI (S 0 3)), (2, vI (WA)), (3, vI (WB)), (4, vI (-1000)), (5, vI (-1000)), (6, vI n), (7, vI (S 7 n)), (8, vI (PS 5 n)), (9, vI (SH n)), (10, vI 1), (11, vI (CL 0 n)), (12, vI (0)), (13, vI ((S 0 3 - WB)))] [vI mt] := by
                                      intro mt  hj448
                                      refine Q_istore hX dL_edges_448 (by decide) ?_
                                      have JN464 : QJ E X (x, T, S, c, P, 1400, 8400) K (25 * (20 - (k + 1)) + 10) 464 [(0, .ref x), (1, vI (S 0 3)), (2, vI (WA)), (3, vI (WB)), (4, vI (-1000)), (5, vI (-1000)), (6, vI n), (7, vI (S 7 n)), (8, vI (PS 5 n)), (9, vI (SH n)), (10, vI 1)] [] := by
                                        refine Q_iinc hX dL_edges_464 rfl (by decide) ?_
                                        refine Q_goto hX 235 dL_edges_467 (by decide) ?_
                                        refine Q_iload hX dL_edges_235 rfl ?_
                                        refine Q_iconst hX dL_edges_237 ?_
                                        refine Q_icmp_ge hX 470 dL_edges_238 (by decide) (by decide) (by decide) (fun _ => ?_) (fun h => absurd (by decide) h)
                                        refine Q_iinc hX dL_edges_470 rfl (by decide) ?_
                                        refine Q_goto hX 193 dL_edges_473 (by decide) ?_
                                        exact Q_to (ih193 (k + 1) (by omega) (by omega) _ (by omega)) rfl (by omega) rfl
                                      refine Q_iload hX dL_edges_450 rfl ?_
                                      have hm9 := hj448.out
                                      refine Q_if_eq hX 464 dL_edges_452 (by omega) (by decide) (fun c452 => ?_) (fun c452 => ?_)
                                      · skip
                                        exact Q_to (JN464 ) rfl (by omega) rfl
                                      · refine Q_iload hX dL_edges_455 rfl ?_
                                        refine Q_iload hX dL_edges_457 rfl ?_
                                        refine Q_icmp_lt hX 464 dL_edges_459 (by omega) (by decide) (by decide) (fun c459 => ?_) (fun c459 => ?_)
                                        · skip
                                          exact Q_to (JN464 ) rfl (by omega) rfl
                                        · skip
                                          exfalso
                                          omega
                                    refine Q_iload hX dL_edges_377 rfl ?_
                                    refine Q_sipush hX dL_edges_379 rfl ?_
                                    refine Q_icmp_eq hX 447 dL_edges_382 (by decide) (by decide) (by decide) (fun _ => ?_) (fun h => absurd (by decide) h)
                                    refine Q_iconst hX dL_edges_447 ?_
                                    exact Q_to (JN448 _ (Hid.mk (by omega))) rfl (by omega) rfl
                                  refine Q_iload hX dL_edges_347 rfl ?_
                                  have hr1 := hj317.out
                                  refine Q_if_eq hX 377 dL_edges_349 (by omega) (by decide) (fun c349 => ?_) (fun c349 => ?_)
                                  · skip
                                    exact Q_to (JN377 ) rfl (by omega) rfl
                                  · refine Q_iload hX dL_edges_352 rfl ?_
                                    refine Q_iload hX dL_edges_354 rfl ?_
                                    refine Q_icmp_ge hX 377 dL_edges_356 (by omega) (by omega) (by decide) (fun c356 => ?_) (fun c356 => ?_)
                                    · skip
                                      exact Q_to (JN377 ) rfl (by omega) rfl
                                    · refine Q_iload hX dL_edges_359 rfl ?_
                                      refine Q_iload hX dL_edges_361 rfl ?_
                                      refine Q_iadd hX dL_edges_363 ?_
                                      refine Q_iload hX dL_edges_364 rfl ?_
                                      refine Q_icmp_le hX 377 dL_edges_366 (by omega) (by omega) (by decide) (fun c366 => ?_) (fun c366 => ?_)
                                      · skip
                                        exact Q_to (JN377 ) rfl (by omega) rfl
                                      · refine Q_iload hX dL_edges_369 rfl ?_
                                        refine Q_iload_n hX dL_edges_371 rfl ?_
                                        refine Q_icmp_le hX 377 dL_edges_372 (by omega) (by omega) (by decide) (fun c372 => ?_) (fun c372 => ?_)
                                        · skip
                                          exact Q_to (JN377 ) rfl (by omega) rfl
                                        · skip
                                          exfalso
                                          have q9 := cf.out (by omega) (by omega)
                                          omega
                                refine Q_iload hX dL_edges_319 rfl ?_
                                have hr1 := hj317.out
                                refine Q_if_eq hX 347 dL_edges_321 (by omega) (by decide) (fun c321 => ?_) (fun c321 => ?_)
                                · skip
                                  exact Q_to (JN347 ) rfl (by omega) rfl
                                · refine Q_iload hX dL_edges_324 rfl ?_
                                  refine Q_iload hX dL_edges_326 rfl ?_
                                  refine Q_icmp_ge hX 347 dL_edges_328 (by omega) (by decide) (by decide) (fun c328 => ?_) (fun c328 => ?_)
                                  · skip
                                    exact Q_to (JN347 ) rfl (by omega) rfl
                                  · refine Q_iload hX dL_edges_331 rfl ?_
                                    refine Q_iload hX dL_edges_333 rfl ?_
                                    refine Q_iadd hX dL_edges_335 ?_
                                    refine Q_iload hX dL_edges_336 rfl ?_
                                    refine Q_icmp_le hX 347 dL_edges_338 (by omega) (by decide) (by decide) (fun c338 => ?_) (fun c338 => ?_)
                                    · skip
                                      exact Q_to (JN347 ) rfl (by omega) rfl
                                    · refine Q_iload hX dL_edges_341 rfl ?_
                                      refine Q_iload_n hX dL_edges_343 rfl ?_
                                      refine Q_icmp_gt hX 375 dL_edges_344 (by omega) (by omega) (by decide) (fun c344 => ?_) (fun c344 => ?_)
                                      · skip
                                        exfalso
                                        have q9 := cf.out (by omega) (by omega)
                                        omega
                                      · skip
                                        exact Q_to (JN347 ) rfl (by omega) rfl
                              refine Q_iload hX dL_edges_288 rfl ?_
                              refine Q_aload_n hX dL_edges_290 rfl ?_
                              refine Q_iconst hX dL_edges_291 ?_
                              refine Q_ask hX hl (u := 1) _ dL_edges_292 cwL_whole (a_whole (k := 1) hE (by decide) (by decide) (v := S 0 4) (wv_1 (by decide))) rfl (Nat.le_of_ble_eq_true rfl) ⟨by decide, by decide⟩ ?_
                              refine Q_icmp_ge hX 316 dL_edges_295 (by omega) (by omega) (by decide) (fun c295 => ?_) (fun c295 => ?_)
                              · refine Q_iconst hX dL_edges_316 ?_
                                exact Q_to (JN317 _ (Hid.mk (by omega))) rfl (by omega) rfl
                              · refine Q_iload hX dL_edges_298 rfl ?_
                                refine Q_aload_n hX dL_edges_300 rfl ?_
                                refine Q_iload hX dL_edges_301 rfl ?_
                                refine Q_bipush hX dL_edges_303 rfl ?_
                                refine Q_ask hX hl (u := 1) _ dL_edges_305 cwL_node (a_node (n9 := n) (k := 10) hE (by omega) (by decide) (nodeOK hn (by decide)) (v := S 8 n) (nv_10 (by decide) hn hb)) rfl (Nat.le_of_ble_eq_true rfl) ⟨by decide, by decide⟩ ?_
                                refine Q_iadd hX dL_edges_308 ?_
                                refine Q_if_le hX 316 dL_edges_309 (by omega) (by decide) (fun c309 => ?_) (fun c309 => ?_)
                                · refine Q_iconst hX dL_edges_316 ?_
                                  exact Q_to (JN317 _ (Hid.mk (by omega))) rfl (by omega) rfl
                                · refine Q_iconst hX dL_edges_312 ?_
                                  refine Q_goto hX 317 dL_edges_313 (by decide) ?_
                                  exact Q_to (JN317 _ (Hid.mk (by omega))) rfl (by omega) rfl
                            refine Q_iload hX dL_edges_450 rfl ?_
                            have hm9 := hj448.out
                            refine Q_if_eq hX 464 dL_edges_452 (by omega) (by decide) (fun c452 => ?_) (fun c452 => ?_)
                            · skip
                              exact Q_to (JN464 ) rfl (by omega) rfl
                            · refine Q_iload hX dL_edges_455 rfl ?_
                              refine Q_iload hX dL_edges_457 rfl ?_
                              refine Q_icmp_lt hX 464 dL_edges_459 (by omega) (by decide) (by decide) (fun c459 => ?_) (fun c459 => ?_)
                              · skip
                                exact Q_to (JN464 ) rfl (by omega) rfl
                              · skip
                                exfalso
                                omega
                          refine Q_iload hX dL_edges_377 rfl ?_
                          refine Q_sipush hX dL_edges_379 rfl ?_
                          refine Q_icmp_eq hX 447 dL_edges_382 (by decide) (by decide) (by decide) (fun _ => ?_) (fun h => absurd (by decide) h)
                          refine Q_iconst hX dL_edges_447 ?_
                          exact Q_to (JN448 _ (Hid.mk (by omega))) rfl (by omega) rfl
                        refine Q_iload hX dL_edges_347 rfl ?_
                        have hr1 := hj317.out
                        refine Q_if_eq hX 377 dL_edges_349 (by omega) (by decide) (fun c349 => ?_) (fun c349 => ?_)
                        · skip
                          exact Q_to (JN377 ) rfl (by omega) rfl
                        · refine Q_iload hX dL_edges_352 rfl ?_
                          refine Q_iload hX dL_edges_354 rfl ?_
                          refine Q_icmp_ge hX 377 dL_edges_356 (by omega) (by omega) (by decide) (fun c356 => ?_) (fun c356 => ?_)
                          · skip
                            exact Q_to (JN377 ) rfl (by omega) rfl
                          · refine Q_iload hX dL_edges_359 rfl ?_
                            refine Q_iload hX dL_edges_361 rfl ?_
                            refine Q_iadd hX dL_edges_363 ?_
                            refine Q_iload hX dL_edges_364 rfl ?_
                            refine Q_icmp_le hX 377 dL_edges_366 (by omega) (by omega) (by decide) (fun c366 => ?_) (fun c366 => ?_)
                            · skip
                              exact Q_to (JN377 ) rfl (by omega) rfl
                            · refine Q_iload hX dL_edges_369 rfl ?_
                              refine Q_iload_n hX dL_edges_371 rfl ?_
                              refine Q_icmp_le hX 377 dL_edges_372 (by omega) (by omega) (by decide) (fun c372 => ?_) (fun c372 => ?_)
                              · skip
                                exact Q_to (JN377 ) rfl (by omega) rfl
                              · skip
                                exfalso
                                have q9 := cf.out (by omega) (by omega)
                                omega
                      refine Q_iload hX dL_edges_319 rfl ?_
                      have hr1 := hj317.out
                      refine Q_if_eq hX 347 dL_edges_321 (by omega) (by decide) (fun c321 => ?_) (fun c321 => ?_)
                      · skip
                        exact Q_to (JN347 ) rfl (by omega) rfl
                      · refine Q_iload hX dL_edges_324 rfl ?_
                        refine Q_iload hX dL_edges_326 rfl ?_
                        refine Q_icmp_ge hX 347 dL_edges_328 (by omega) (by omega) (by decide) (fun c328 => ?_) (fun c328 => ?_)
                        · skip
                          exact Q_to (JN347 ) rfl (by omega) rfl
                        · refine Q_iload hX dL_edges_331 rfl ?_
                          refine Q_iload hX dL_edges_333 rfl ?_
                          refine Q_iadd hX dL_edges_335 ?_
                          refine Q_iload hX dL_edges_336 rfl ?_
                          refine Q_icmp_le hX 347 dL_edges_338 (by omega) (by omega) (by decide) (fun c338 => ?_) (fun c338 => ?_)
                          · skip
                            exact Q_to (JN347 ) rfl (by omega) rfl
                          · refine Q_iload hX dL_edges_341 rfl ?_
                            refine Q_iload_n hX dL_edges_343 rfl ?_
                            refine Q_icmp_gt hX 375 dL_edges_344 (by omega) (by omega) (by decide) (fun c344 => ?_) (fun c344 => ?_)
                            · skip
                              exfalso
                              have q9 := cf.out (by omega) (by omega)
                              omega
                            · skip
                              exact Q_to (JN347 ) rfl (by omega) rfl
                    refine Q_iload hX dL_edges_288 rfl ?_
                    refine Q_aload_n hX dL_edges_290 rfl ?_
                    refine Q_iconst hX dL_edges_291 ?_
                    refine Q_ask hX hl (u := 1) _ dL_edges_292 cwL_whole (a_whole (k := 1) hE (by decide) (by decide) (v := S 0 4) (wv_1 (by decide))) rfl (Nat.le_of_ble_eq_true rfl) ⟨by decide, by decide⟩ ?_
                    refine Q_icmp_ge hX 316 dL_edges_295 (by omega) (by omega) (by decide) (fun c295 => ?_) (fun c295 => ?_)
                    · refine Q_iconst hX dL_edges_316 ?_
                      exact Q_to (JN317 _ (Hid.mk (by omega))) rfl (by omega) rfl
                    · refine Q_iload hX dL_edges_298 rfl ?_
                      refine Q_aload_n hX dL_edges_300 rfl ?_
                      refine Q_iload hX dL_edges_301 rfl ?_
                      refine Q_bipush hX dL_edges_303 rfl ?_
                      refine Q_ask hX hl (u := 1) _ dL_edges_305 cwL_node (a_node (n9 := n) (k := 10) hE (by omega) (by decide) (nodeOK hn (by decide)) (v := S 8 n) (nv_10 (by decide) hn hb)) rfl (Nat.le_of_ble_eq_true rfl) ⟨by decide, by decide⟩ ?_
                      refine Q_iadd hX dL_edges_308 ?_
                      refine Q_if_le hX 316 dL_edges_309 (by omega) (by decide) (fun c309 => ?_) (fun c309 => ?_)
                      · refine Q_iconst hX dL_edges_316 ?_
                        exact Q_to (JN317 _ (Hid.mk (by omega))) rfl (by omega) rfl
                      · refine Q_iconst hX dL_edges_312 ?_
                        refine Q_goto hX 317 dL_edges_313 (by decide) ?_
                        exact Q_to (JN317 _ (Hid.mk (by omega))) rfl (by omega) rfl
                  · skip
                    refine Q_ask hX hl (u := 1) _ dL_edges_208 cwL_node (a_node (n9 := n) (k := 9) hE (by omega) (by decide) (nodeOK hn (by decide)) (v := (-1000)) (nv_g hb (by decide))) rfl (Nat.le_of_ble_eq_true rfl) ⟨by decide, by decide⟩ ?_
                    refine Q_istore hX dL_edges_211 (by decide) ?_
                    refine Q_aload_n hX dL_edges_213 rfl ?_
                    refine Q_iload hX dL_edges_214 rfl ?_
                    refine Q_iconst hX dL_edges_216 ?_
                    refine Q_ask hX hl (u := 1) _ dL_edges_217 cwL_node (a_node (n9 := n) (k := 5) hE (by omega) (by decide) (nodeOK hn (by decide)) (v := PS 5 n) ((nv_5 (by decide) hn).trans (congrFun (congrFun hPS 5) n))) rfl (Nat.le_of_ble_eq_true rfl) ⟨by decide, by decide⟩ ?_
                    refine Q_istore hX dL_edges_220 (by decide) ?_
                    refine Q_aload_n hX dL_edges_222 rfl ?_
                    refine Q_iload hX dL_edges_223 rfl ?_
                    refine Q_bipush hX dL_edges_225 rfl ?_
                    refine Q_ask hX hl (u := 1) _ dL_edges_227 cwL_node (a_node (n9 := n) (k := 13) hE (by omega) (by decide) (nodeOK hn (by decide)) (v := (-1000)) (nv_g hb (by decide))) rfl (Nat.le_of_ble_eq_true rfl) ⟨by decide, by decide⟩ ?_
                    refine Q_istore hX dL_edges_230 (by decide) ?_
                    refine Q_iconst hX dL_edges_232 ?_
                    refine Q_istore hX dL_edges_233 (by decide) ?_
                    refine Q_iload hX dL_edges_235 rfl ?_
                    refine Q_iconst hX dL_edges_237 ?_
                    refine Q_icmp_ge hX 470 dL_edges_238 (by decide) (by decide) (by decide) (fun h => absurd h (by decide)) (fun _ => ?_)
                    refine Q_iload hX dL_edges_241 rfl ?_
                    refine Q_sipush hX dL_edges_243 rfl ?_
                    refine Q_icmp_eq hX 470 dL_edges_246 (by decide) (by decide) (by decide) (fun _ => ?_) (fun h => absurd (by decide) h)
                    refine Q_iinc hX dL_edges_470 rfl (by decide) ?_
                    refine Q_goto hX 193 dL_edges_473 (by decide) ?_
                    exact Q_to (ih193 (k + 1) (by omega) (by omega) _ (by omega)) rfl (by omega) rfl
              exact Q_to (HL193 0 (Nat.zero_le _) 0 rfl) rfl (by omega) rfl
            · skip
              obtain ⟨hn7, ht1, ht2, ht4, ht5, ht6, ht7, ht8⟩ := ht
              replace hn7 := Hid.mk hn7
              refine Q_aload_n hX dL_edges_50 rfl ?_
              refine Q_iconst hX dL_edges_51 ?_
              refine Q_ask hX hl (u := 1) _ dL_edges_52 cwL_title (a_title (k := 3) hE (by decide) (by decide) (v := TR) ((tv_3 (by decide) hn7.out).trans hTR)) rfl (Nat.le_of_ble_eq_true rfl) ⟨by decide, by decide⟩ ?_
              refine Q_istore hX dL_edges_55 (by decide) ?_
              refine Q_aload_n hX dL_edges_57 rfl ?_
              refine Q_iconst hX dL_edges_58 ?_
              refine Q_ask hX hl (u := 1) _ dL_edges_59 cwL_title (a_title (k := 4) hE (by decide) (by decide) (v := TS) ((tv_4 (by decide) hn7.out).trans hTS)) rfl (Nat.le_of_ble_eq_true rfl) ⟨by decide, by decide⟩ ?_
              refine Q_istore hX dL_edges_62 (by decide) ?_
              refine Q_iload hX dL_edges_64 rfl ?_
              refine Q_sipush hX dL_edges_66 rfl ?_
              refine Q_icmp_ne hX 94 dL_edges_69 (by omega) (by decide) (by decide) (fun c69 => ?_) (fun c69 => ((by omega : False)).elim)
              refine Q_iload hX dL_edges_94 rfl ?_
              refine Q_if_lt hX 188 dL_edges_96 (by omega) (by decide) (fun c96 => ?_) (fun c96 => ?_)
              · skip
                exfalso
                omega
              · refine Q_iload hX dL_edges_99 rfl ?_
                refine Q_aload_n hX dL_edges_101 rfl ?_
                refine Q_bipush hX dL_edges_102 rfl ?_
                refine Q_ask hX hl (u := 1) _ dL_edges_104 cwL_whole (a_whole (k := 8) hE (by decide) (by decide) (v := S 11 3) (wv_8 (by decide))) rfl (Nat.le_of_ble_eq_true rfl) ⟨by decide, by decide⟩ ?_
                refine Q_icmp_gt hX 188 dL_edges_107 (by omega) (by omega) (by decide) (fun c107 => ?_) (fun c107 => ?_)
                · skip
                  exfalso
                  omega
                · refine Q_iload hX dL_edges_110 rfl ?_
                  refine Q_aload_n hX dL_edges_112 rfl ?_
                  refine Q_iconst hX dL_edges_113 ?_
                  refine Q_ask hX hl (u := 1) _ dL_edges_114 cwL_title (a_title (k := 1) hE (by decide) (by decide) (v := S 0 6) (tv_1 (by decide) hn7.out)) rfl (Nat.le_of_ble_eq_true rfl) ⟨by decide, by decide⟩ ?_
                  refine Q_icmp_gt hX 188 dL_edges_117 (by omega) (by omega) (by decide) (fun c117 => ?_) (fun c117 => ?_)
                  · skip
                    exfalso
                    omega
                  · refine Q_aload_n hX dL_edges_120 rfl ?_
                    refine Q_iconst hX dL_edges_121 ?_
                    refine Q_ask hX hl (u := 1) _ dL_edges_122 cwL_title (a_title (k := 5) hE (by decide) (by decide) (v := TA) ((tv_5 (by decide) hn7.out).trans hTA)) rfl (Nat.le_of_ble_eq_true rfl) ⟨by decide, by decide⟩ ?_
                    refine Q_aload_n hX dL_edges_125 rfl ?_
                    refine Q_bipush hX dL_edges_126 rfl ?_
                    refine Q_ask hX hl (u := 1) _ dL_edges_128 cwL_title (a_title (k := 6) hE (by decide) (by decide) (v := TB) ((tv_6 (by decide) hn7.out).trans hTB)) rfl (Nat.le_of_ble_eq_true rfl) ⟨by decide, by decide⟩ ?_
                    refine Q_isub hX dL_edges_131 ?_
                    refine Q_iload hX dL_edges_132 rfl ?_
                    refine Q_icmp_ne hX 188 dL_edges_134 (by omega) (by omega) (by decide) (fun c134 => ?_) (fun c134 => ?_)
                    · skip
                      exfalso
                      omega
                    · refine Q_aload_n hX dL_edges_137 rfl ?_
                      refine Q_iconst hX dL_edges_138 ?_
                      refine Q_ask hX hl (u := 1) _ dL_edges_139 cwL_title (a_title (k := 5) hE (by decide) (by decide) (v := TA) ((tv_5 (by decide) hn7.out).trans hTA)) rfl (Nat.le_of_ble_eq_true rfl) ⟨by decide, by decide⟩ ?_
                      refine Q_iload_n hX dL_edges_142 rfl ?_
                      refine Q_icmp_lt hX 188 dL_edges_143 (by omega) (by omega) (by decide) (fun c143 => ?_) (fun c143 => ?_)
                      · skip
                        exfalso
                        omega
                      · refine Q_aload_n hX dL_edges_146 rfl ?_
                        refine Q_bipush hX dL_edges_147 rfl ?_
                        refine Q_ask hX hl (u := 1) _ dL_edges_149 cwL_title (a_title (k := 6) hE (by decide) (by decide) (v := TB) ((tv_6 (by decide) hn7.out).trans hTB)) rfl (Nat.le_of_ble_eq_true rfl) ⟨by decide, by decide⟩ ?_
                        refine Q_if_lt hX 188 dL_edges_152 (by omega) (by decide) (fun c152 => ?_) (fun c152 => ?_)
                        · skip
                          exfalso
                          omega
                        · refine Q_aload_n hX dL_edges_155 rfl ?_
                          refine Q_iconst hX dL_edges_156 ?_
                          refine Q_ask hX hl (u := 1) _ dL_edges_157 cwL_title (a_title (k := 5) hE (by decide) (by decide) (v := TA) ((tv_5 (by decide) hn7.out).trans hTA)) rfl (Nat.le_of_ble_eq_true rfl) ⟨by decide, by decide⟩ ?_
                          refine Q_aload_n hX dL_edges_160 rfl ?_
                          refine Q_iconst hX dL_edges_161 ?_
                          refine Q_ask hX hl (u := 1) _ dL_edges_162 cwL_title (a_title (k := 2) hE (by decide) (by decide) (v := S 0 7) (tv_2 (by decide) hn7.out)) rfl (Nat.le_of_ble_eq_true rfl) ⟨by decide, by decide⟩ ?_
                          refine Q_iadd hX dL_edges_165 ?_
                          refine Q_iload_n hX dL_edges_166 rfl ?_
                          refine Q_icmp_gt hX 188 dL_edges_167 (by omega) (by omega) (by decide) (fun c167 => ?_) (fun c167 => ?_)
                          · skip
                            exfalso
                            omega
                          · refine Q_aload_n hX dL_edges_170 rfl ?_
                            refine Q_bipush hX dL_edges_171 rfl ?_
                            refine Q_ask hX hl (u := 1) _ dL_edges_173 cwL_title (a_title (k := 6) hE (by decide) (by decide) (v := TB) ((tv_6 (by decide) hn7.out).trans hTB)) rfl (Nat.le_of_ble_eq_true rfl) ⟨by decide, by decide⟩ ?_
                            refine Q_aload_n hX dL_edges_176 rfl ?_
                            refine Q_iconst hX dL_edges_177 ?_
                            refine Q_ask hX hl (u := 1) _ dL_edges_178 cwL_title (a_title (k := 2) hE (by decide) (by decide) (v := S 0 7) (tv_2 (by decide) hn7.out)) rfl (Nat.le_of_ble_eq_true rfl) ⟨by decide, by decide⟩ ?_
                            refine Q_iadd hX dL_edges_181 ?_
                            refine Q_iload_n hX dL_edges_182 rfl ?_
                            refine Q_iload_n hX dL_edges_183 rfl ?_
                            refine Q_isub hX dL_edges_184 ?_
                            refine Q_icmp_le hX 190 dL_edges_185 (by omega) (by omega) (by decide) (fun c185 => ?_) (fun c185 => ?_)
                            · refine Q_iconst hX dL_edges_190 ?_
                              refine Q_istore hX dL_edges_191 (by decide) ?_
                              have HL193 : ∀ k : Nat, k ≤ (S 1 0).toNat → ∀ (n : Int), (n = k) → QJ E X (x, T, S, c, P, 1400, 8400) K (25 * (20 - k) + 10) 193 [(0, .ref x), (1, vI (S 0 3)), (2, vI (WA)), (3, vI (WB)), (4, vI (TR)), (5, vI (TS)), (6, vI n)] [] := by
                                refine up_ind ((S 1 0).toNat) (fun k hk193 ih193 => ?_)
                                intro n  hi193
                                have en := hi193
                                refine Q_le (q2 := 25 * (20 - k) + 9 + 1) (by omega) ?_
                                refine Q_iload hX dL_edges_193 rfl ?_
                                refine Q_aload_n hX dL_edges_195 rfl ?_
                                refine Q_iconst hX dL_edges_196 ?_
                                refine Q_ask hX hl (u := 1) _ dL_edges_197 cwL_whole (a_whole (k := 2) hE (by decide) (by decide) (v := S 1 0) (wv_2 (by decide))) rfl (Nat.le_of_ble_eq_true rfl) ⟨by decide, by decide⟩ ?_
                                refine Q_icmp_ge hX 476 dL_edges_200 (by omega) (by omega) (by decide) (fun c200 => ?_) (fun c200 => ?_)
                                · refine Q_iconst hX dL_edges_476 ?_
                                  exact fin _ _ _ dL_edges_477
                                · have hn : hs S n := ⟨by omega, by omega, by omega⟩
                                  obtain ⟨-, -, g4n, g5n, g6n, g7n, g8n, -, g9n⟩ := hW.2.2.1 n hn.1 hn.2.1
                                  have pn := posF hW hn
                                  try simp only [hPS, hRW, hSH, hCL, hPC, hWA, hWB, hTR, hTS, hTA, hTB, hCT, hNX, hNB, hOR] at pn
                                  refine Q_le (q2 := 25 * (20 - (k + 1)) + 34) (by omega) ?_
                                  refine Q_aload_n hX dL_edges_203 rfl ?_
                                  refine Q_iload hX dL_edges_204 rfl ?_
                                  refine Q_bipush hX dL_edges_206 rfl ?_
                                  by_cases hb : 0 < S 7 n
                                  · skip
                                    have hbx : bx S n := ⟨hn, hb⟩
                                    have bf := boxF hW hbx
                                    try simp only [hPS, hRW, hSH, hCL, hPC, hWA, hWB, hTR, hTS, hTA, hTB, hCT, hNX, hNB, hOR] at bf
                                    obtain ⟨-, bf2, -, -, -, -, -, bf8, bf9⟩ := bf
                                    have cf := cutF hW hbx
                                    try simp only [hPS, hRW, hSH, hCL, hPC, hWA, hWB, hTR, hTS, hTA, hTB, hCT, hNX, hNB, hOR] at cf
                                    replace cf := Hid.mk cf
                                    refine Q_ask hX hl (u := 1) _ dL_edges_208 cwL_node (a_node (n9 := n) (k := 9) hE (by omega) (by decide) (nodeOK hn (by decide)) (v := S 7 n) (nv_9 (by decide) hn hb)) rfl (Nat.le_of_ble_eq_true rfl) ⟨by decide, by decide⟩ ?_
                                    refine Q_istore hX dL_edges_211 (by decide) ?_
                                    refine Q_aload_n hX dL_edges_213 rfl ?_
                                    refine Q_iload hX dL_edges_214 rfl ?_
                                    refine Q_iconst hX dL_edges_216 ?_
                                    refine Q_ask hX hl (u := 1) _ dL_edges_217 cwL_node (a_node (n9 := n) (k := 5) hE (by omega) (by decide) (nodeOK hn (by decide)) (v := PS 5 n) ((nv_5 (by decide) hn).trans (congrFun (congrFun hPS 5) n))) rfl (Nat.le_of_ble_eq_true rfl) ⟨by decide, by decide⟩ ?_
                                    refine Q_istore hX dL_edges_220 (by decide) ?_
                                    refine Q_aload_n hX dL_edges_222 rfl ?_
                                    refine Q_iload hX dL_edges_223 rfl ?_
                                    refine Q_bipush hX dL_edges_225 rfl ?_
                                    refine Q_ask hX hl (u := 1) _ dL_edges_227 cwL_node (a_node (n9 := n) (k := 13) hE (by omega) (by decide) (nodeOK hn (by decide)) (v := SH n) ((nv_13 (by decide) hn hb).trans (congrFun hSH n))) rfl (Nat.le_of_ble_eq_true rfl) ⟨by decide, by decide⟩ ?_
                                    refine Q_istore hX dL_edges_230 (by decide) ?_
                                    refine Q_iconst hX dL_edges_232 ?_
                                    refine Q_istore hX dL_edges_233 (by decide) ?_
                                    refine Q_iload hX dL_edges_235 rfl ?_
                                    refine Q_iconst hX dL_edges_237 ?_
                                    refine Q_icmp_ge hX 470 dL_edges_238 (by decide) (by decide) (by decide) (fun h => absurd h (by decide)) (fun _ => ?_)
                                    refine Q_iload hX dL_edges_241 rfl ?_
                                    refine Q_sipush hX dL_edges_243 rfl ?_
                                    refine Q_icmp_eq hX 470 dL_edges_246 (by omega) (by decide) (by decide) (fun c246 => ((by omega : False)).elim) (fun c246 => ?_)
                                    refine Q_aload_n hX dL_edges_249 rfl ?_
                                    refine Q_iload hX dL_edges_250 rfl ?_
                                    refine Q_bipush hX dL_edges_252 rfl ?_
                                    refine Q_iload hX dL_edges_254 rfl ?_
                                    refine Q_iadd hX dL_edges_256 ?_
                                    refine Q_ask hX hl (u := 1) _ dL_edges_257 cwL_node (a_node (n9 := n) (k := (14 + 0)) hE (by omega) (by decide) (nodeOK hn (by decide)) (v := CL 1 n) ((nv_14 (by decide) hn hb).trans (congrFun (congrFun hCL 1) n))) rfl (Nat.le_of_ble_eq_true rfl) ⟨by decide, by decide⟩ ?_
                                    refine Q_istore hX dL_edges_260 (by decide) ?_
                                    refine Q_iload hX dL_edges_262 rfl ?_
                                    refine Q_if_ne hX 271 dL_edges_264 (by decide) (by decide) (fun h => absurd (by decide) h) (fun _ => ?_)
                                    refine Q_iload_n hX dL_edges_267 rfl ?_
                                    refine Q_goto hX 272 dL_edges_268 (by decide) ?_
                                    refine Q_istore hX dL_edges_272 (by decide) ?_
                                    refine Q_iload hX dL_edges_274 rfl ?_
                                    refine Q_if_ne hX 283 dL_edges_276 (by decide) (by decide) (fun h => absurd (by decide) h) (fun _ => ?_)
                                    refine Q_iload_n hX dL_edges_279 rfl ?_
                                    refine Q_goto hX 286 dL_edges_280 (by decide) ?_
                                    refine Q_istore hX dL_edges_286 (by decide) ?_
                                    have JN317 : ∀ (rw9 : Int), (Hid (rw9 = 1 ∧ PS 5 n < S 0 4 ∧ 0 < PS 5 n + S 8 n ∨ rw9 = 0 ∧ ¬ (PS 5 n < S 0 4 ∧ 0 < PS 5 n + S 8 n))) → QJ E X (x, T, S, c, P, 1400, 8400) K (25 * (20 - (k + 1)) + 26) 317 [(0, .ref x), (1, vI (S 0 3)), (2, vI (WA)), (3, vI (WB)), (4, vI (TR)), (5, vI (TS)), (6, vI n), (7, vI (S 7 n)), (8, vI (PS 5 n)), (9, vI (SH n)), (10, vI 0), (11, vI (CL 1 n)), (12, vI (WA)), (13, vI (S 0 3))] [vI rw9] := by
                                      intro rw9  hj317
                                      refine Q_istore hX dL_edges_317 (by decide) ?_
                                      have JN347 : QJ E X (x, T, S, c, P, 1400, 8400) K (25 * (20 - (k + 1)) + 26) 347 [(0, .ref x), (1, vI (S 0 3)), (2, vI (WA)), (3, vI (WB)), (4, vI (TR)), (5, vI (TS)), (6, vI n), (7, vI (S 7 n)), (8, vI (PS 5 n)), (9, vI (SH n)), (10, vI 0), (11, vI (CL 1 n)), (12, vI (WA)), (13, vI (S 0 3)), (14, vI rw9)] [] := by
                                        have JN377 : QJ E X (x, T, S, c, P, 1400, 8400) K (25 * (20 - (k + 1)) + 26) 377 [(0, .ref x), (1, vI (S 0 3)), (2, vI (WA)), (3, vI (WB)), (4, vI (TR)), (5, vI (TS)), (6, vI n), (7, vI (S 7 n)), (8, vI (PS 5 n)), (9, vI (SH n)), (10, vI 0), (11, vI (CL 1 n)), (12, vI (WA)), (13, vI (S 0 3))] [] := by
                                          have JN448 : ∀ (mt : Int), (Hid (mt = 1 ∧ (PS 5 n ≤ TR ∧ TR < PS 5 n + S 8 n) ∧ CL 1 n < TA + S 0 7 ∧ TA < CL 1 n + S 7 n ∨ mt = 0)) → QJ E X (x, T, S, c, P, 1400, 8400) K (25 * (20 - (k + 1)) + 20) 448 [(0, .ref x), (1, vI (S 0 3)), (2, vI (WA)), (3, vI (WB)), (4, vI (TR)), (5, vI (TS)), (6, vI n), (7, vI (S 7 n)), (8, vI (PS 5 n)), (9, vI (SH n)), (10, vI 0), (11, vI (CL 1 n)), (12, vI (WA)), (13, vI (S 0 3))] [vI mt] := by
                                            intro mt  hj448
                                            refine Q_istore hX dL_edges_448 (by decide) ?_
                                            have JN464 : QJ E X (x, T, S, c, P, 1400, 8400) K (25 * (20 - (k + 1)) + 20) 464 [(0, .ref x), (1, vI (S 0 3)), (2, vI (WA)), (3, vI (WB)), (4, vI (TR)), (5, vI (TS)), (6, vI n), (7, vI (S 7 n)), (8, vI (PS 5 n)), (9, vI (SH n)), (10, vI 0)] [] := by
                                              refine Q_iinc hX dL_edges_464 rfl (by decide) ?_
                                              refine Q_goto hX 235 dL_edges_467 (by decide) ?_
                                              refine Q_iload hX dL_edges_235 rfl ?_
                                              refine Q_iconst hX dL_edges_237 ?_
                                              refine Q_icmp_ge hX 470 dL_edges_238 (by decide) (by decide) (by decide) (fun h => absurd h (by decide)) (fun _ => ?_)
                                              refine Q_iload hX dL_edges_241 rfl ?_
                                              refine Q_sipush hX dL_edges_243 rfl ?_
                                              refine Q_icmp_eq hX 470 dL_edges_246 (by omega) (by decide) (by decide) (fun c246 => ((by omega : False)).elim) (fun c246 => ?_)
                                              refine Q_aload_n hX dL_edges_249 rfl ?_
                                              refine Q_iload hX dL_edges_250 rfl ?_
                                              refine Q_bipush hX dL_edges_252 rfl ?_
                                              refine Q_iload hX dL_edges_254 rfl ?_
                                              refine Q_iadd hX dL_edges_256 ?_
                                              refine Q_ask hX hl (u := 1) _ dL_edges_257 cwL_node (a_node (n9 := n) (k := (14 + (0 + 1))) hE (by omega) (by decide) (nodeOK hn (by decide)) (v := CL 0 n) ((nv_15 (by decide) hn hb).trans (congrFun (congrFun hCL 0) n))) rfl (Nat.le_of_ble_eq_true rfl) ⟨by decide, by decide⟩ ?_
                                              refine Q_istore hX dL_edges_260 (by decide) ?_
                                              refine Q_iload hX dL_edges_262 rfl ?_
                                              refine Q_if_ne hX 271 dL_edges_264 (by decide) (by decide) (fun _ => ?_) (fun h => absurd h (by decide))
                                              refine Q_iconst hX dL_edges_271 ?_
                                              refine Q_istore hX dL_edges_272 (by decide) ?_
                                              refine Q_iload hX dL_edges_274 rfl ?_
                                              refine Q_if_ne hX 283 dL_edges_276 (by decide) (by decide) (fun _ => ?_) (fun h => absurd h (by decide))
                                              refine Q_iload_n hX dL_edges_283 rfl ?_
                                              refine Q_iload_n hX dL_edges_284 rfl ?_
                                              refine Q_isub hX dL_edges_285 ?_
                                              refine Q_istore hX dL_edges_286 (by decide) ?_
                                              have JN317 : ∀ (rw9 : Int), (Hid (rw9 = 1 ∧ PS 5 n < S 0 4 ∧ 0 < PS 5 n + S 8 n ∨ rw9 = 0 ∧ ¬ (PS 5 n < S 0 4 ∧ 0 < PS 5 n + S 8 n))) → QJ E X (x, T, S, c, P, 1400, 8400) K (25 * (20 - (k + 1)) + 17) 317 [(0, .ref x), (1, vI (S 0 3)), (2, vI (WA)), (3, vI (WB)), (4, vI (TR)), (5, vI (TS)), (6, vI n), (7, vI (S 7 n)), (8, vI (PS 5 n)), (9, vI (SH n)), (10, vI 1), (11, vI (CL 0 n)), (12, vI (0)), (13, vI ((S 0 3 - WB)))] [vI rw9] := by
                                                intro rw9  hj317
                                                refine Q_istore hX dL_edges_317 (by decide) ?_
                                                have JN347 : QJ E X (x, T, S, c, P, 1400, 8400) K (25 * (20 - (k + 1)) + 17) 347 [(0, .ref x), (1, vI (S 0 3)), (2, vI (WA)), (3, vI (WB)), (4, vI (TR)), (5, vI (TS)), (6, vI n), (7, vI (S 7 n)), (8, vI (PS 5 n)), (9, vI (SH n)), (10, vI 1), (11, vI (CL 0 n)), (12, vI (0)), (13, vI ((S 0 3 - WB))), (14, vI rw9)] [] := by
                                                  have JN377 : QJ E X (x, T, S, c, P, 1400, 8400) K (25 * (20 - (k + 1)) + 17) 377 [(0, .ref x), (1, vI (S 0 3)), (2, vI (WA)), (3, vI (WB)), (4, vI (TR)), (5, vI (TS)), (6, vI n), (7, vI (S 7 n)), (8, vI (PS 5 n)), (9, vI (SH n)), (10, vI 1), (11, vI (CL 0 n)), (12, vI (0)), (13, vI ((S 0 3 - WB)))] [] := by
                                                    have JN448 : ∀ (mt : Int), (Hid (mt = 1 ∧ (PS 5 n ≤ TR ∧ TR < PS 5 n + S 8 n) ∧ CL 0 n < TB + S 0 7 ∧ TB < CL 0 n + S 7 n ∨ mt = 0)) → QJ E X (x, T, S, c, P, 1400, 8400) K (25 * (20 - (k + 1)) + 10) 448 [(0, .ref x), (1, vI (S 0 3)), (2, vI (WA)), (3, vI (WB)), (4, vI (TR)), (5, vI (TS)), (6, vI n), (7, vI (S 7 n)), (8, vI (PS 5 n)), (9, vI (SH n)), (10, vI 1), (11, vI (CL 0 n)), (12, vI (0)), (13, vI ((S 0 3 - WB)))] [vI mt] := by
                                                      intro mt  hj448
                                                      refine Q_istore hX dL_edges_448 (by decide) ?_
                                                      have JN464 : QJ E X (x, T, S, c, P, 1400, 8400) K (25 * (20 - (k + 1)) + 10) 464 [(0, .ref x), (1, vI (S 0 3)), (2, vI (WA)), (3, vI (WB)), (4, vI (TR)), (5, vI (TS)), (6, vI n), (7, vI (S 7 n)), (8, vI (PS 5 n)), (9, vI (SH n)), (10, vI 1)] [] := by
                                                        refine Q_iinc hX dL_edges_464 rfl (by decide) ?_
                                                        refine Q_goto hX 235 dL_edges_467 (by decide) ?_
                                                        refine Q_iload hX dL_edges_235 rfl ?_
                                                        refine Q_iconst hX dL_edges_237 ?_
                                                        refine Q_icmp_ge hX 470 dL_edges_238 (by decide) (by decide) (by decide) (fun _ => ?_) (fun h => absurd (by decide) h)
                                                        refine Q_iinc hX dL_edges_470 rfl (by decide) ?_
                                                        refine Q_goto hX 193 dL_edges_473 (by decide) ?_
                                                        exact Q_to (ih193 (k + 1) (by omega) (by omega) _ (by omega)) rfl (by omega) rfl
                                                      refine Q_iload hX dL_edges_450 rfl ?_
                                                      have hm9 := hj448.out
                                                      refine Q_if_eq hX 464 dL_edges_452 (by omega) (by decide) (fun c452 => ?_) (fun c452 => ?_)
                                                      · skip
                                                        exact Q_to (JN464 ) rfl (by omega) rfl
                                                      · have cs := csnF hW ht4.2 hbx
                                                        try simp only [hPS, hRW, hSH, hCL, hPC, hWA, hWB, hTR, hTS, hTA, hTB, hCT, hNX, hNB, hOR] at cs
                                                        have cc9 := coF (S 0 5) TS
                                                        rw [cc9.2, ← ht6] at cs
                                                        refine Q_iload hX dL_edges_455 rfl ?_
                                                        refine Q_iload hX dL_edges_457 rfl ?_
                                                        refine Q_icmp_lt hX 464 dL_edges_459 (by omega) (by omega) (by decide) (fun c459 => ?_) (fun c459 => ?_)
                                                        · skip
                                                          exact Q_to (JN464 ) rfl (by omega) rfl
                                                        · skip
                                                          exfalso
                                                          omega
                                                    refine Q_iload hX dL_edges_377 rfl ?_
                                                    refine Q_sipush hX dL_edges_379 rfl ?_
                                                    refine Q_icmp_eq hX 447 dL_edges_382 (by omega) (by decide) (by decide) (fun c382 => ((by omega : False)).elim) (fun c382 => ?_)
                                                    refine Q_iload hX dL_edges_385 rfl ?_
                                                    refine Q_iload hX dL_edges_387 rfl ?_
                                                    refine Q_icmp_lt hX 447 dL_edges_389 (by omega) (by omega) (by decide) (fun c389 => ?_) (fun c389 => ?_)
                                                    · refine Q_iconst hX dL_edges_447 ?_
                                                      exact Q_to (JN448 _ (Hid.mk (by omega))) rfl (by omega) rfl
                                                    · refine Q_iload hX dL_edges_392 rfl ?_
                                                      refine Q_iload hX dL_edges_394 rfl ?_
                                                      refine Q_aload_n hX dL_edges_396 rfl ?_
                                                      refine Q_iload hX dL_edges_397 rfl ?_
                                                      refine Q_bipush hX dL_edges_399 rfl ?_
                                                      refine Q_ask hX hl (u := 1) _ dL_edges_401 cwL_node (a_node (n9 := n) (k := 10) hE (by omega) (by decide) (nodeOK hn (by decide)) (v := S 8 n) (nv_10 (by decide) hn hb)) rfl (Nat.le_of_ble_eq_true rfl) ⟨by decide, by decide⟩ ?_
                                                      refine Q_iadd hX dL_edges_404 ?_
                                                      refine Q_icmp_ge hX 447 dL_edges_405 (by omega) (by omega) (by decide) (fun c405 => ?_) (fun c405 => ?_)
                                                      · refine Q_iconst hX dL_edges_447 ?_
                                                        exact Q_to (JN448 _ (Hid.mk (by omega))) rfl (by omega) rfl
                                                      · refine Q_iload hX dL_edges_408 rfl ?_
                                                        refine Q_aload_n hX dL_edges_410 rfl ?_
                                                        refine Q_iconst hX dL_edges_411 ?_
                                                        refine Q_iload hX dL_edges_412 rfl ?_
                                                        refine Q_iadd hX dL_edges_414 ?_
                                                        refine Q_ask hX hl (u := 1) _ dL_edges_415 cwL_title (a_title (k := (5 + 1)) hE (by decide) (by decide) (v := TB) ((tv_6 (by decide) hn7.out).trans hTB)) rfl (Nat.le_of_ble_eq_true rfl) ⟨by decide, by decide⟩ ?_
                                                        refine Q_aload_n hX dL_edges_418 rfl ?_
                                                        refine Q_iconst hX dL_edges_419 ?_
                                                        refine Q_ask hX hl (u := 1) _ dL_edges_420 cwL_title (a_title (k := 2) hE (by decide) (by decide) (v := S 0 7) (tv_2 (by decide) hn7.out)) rfl (Nat.le_of_ble_eq_true rfl) ⟨by decide, by decide⟩ ?_
                                                        refine Q_iadd hX dL_edges_423 ?_
                                                        refine Q_icmp_ge hX 447 dL_edges_424 (by omega) (by omega) (by decide) (fun c424 => ?_) (fun c424 => ?_)
                                                        · refine Q_iconst hX dL_edges_447 ?_
                                                          exact Q_to (JN448 _ (Hid.mk (by omega))) rfl (by omega) rfl
                                                        · refine Q_iload hX dL_edges_427 rfl ?_
                                                          refine Q_iload hX dL_edges_429 rfl ?_
                                                          refine Q_iadd hX dL_edges_431 ?_
                                                          refine Q_aload_n hX dL_edges_432 rfl ?_
                                                          refine Q_iconst hX dL_edges_433 ?_
                                                          refine Q_iload hX dL_edges_434 rfl ?_
                                                          refine Q_iadd hX dL_edges_436 ?_
                                                          refine Q_ask hX hl (u := 1) _ dL_edges_437 cwL_title (a_title (k := (5 + 1)) hE (by decide) (by decide) (v := TB) ((tv_6 (by decide) hn7.out).trans hTB)) rfl (Nat.le_of_ble_eq_true rfl) ⟨by decide, by decide⟩ ?_
                                                          refine Q_icmp_le hX 447 dL_edges_440 (by omega) (by omega) (by decide) (fun c440 => ?_) (fun c440 => ?_)
                                                          · refine Q_iconst hX dL_edges_447 ?_
                                                            exact Q_to (JN448 _ (Hid.mk (by omega))) rfl (by omega) rfl
                                                          · refine Q_iconst hX dL_edges_443 ?_
                                                            refine Q_goto hX 448 dL_edges_444 (by decide) ?_
                                                            exact Q_to (JN448 _ (Hid.mk (by omega))) rfl (by omega) rfl
                                                  refine Q_iload hX dL_edges_347 rfl ?_
                                                  have hr1 := hj317.out
                                                  refine Q_if_eq hX 377 dL_edges_349 (by omega) (by decide) (fun c349 => ?_) (fun c349 => ?_)
                                                  · skip
                                                    exact Q_to (JN377 ) rfl (by omega) rfl
                                                  · refine Q_iload hX dL_edges_352 rfl ?_
                                                    refine Q_iload hX dL_edges_354 rfl ?_
                                                    refine Q_icmp_ge hX 377 dL_edges_356 (by omega) (by omega) (by decide) (fun c356 => ?_) (fun c356 => ?_)
                                                    · skip
                                                      exact Q_to (JN377 ) rfl (by omega) rfl
                                                    · refine Q_iload hX dL_edges_359 rfl ?_
                                                      refine Q_iload hX dL_edges_361 rfl ?_
                                                      refine Q_iadd hX dL_edges_363 ?_
                                                      refine Q_iload hX dL_edges_364 rfl ?_
                                                      refine Q_icmp_le hX 377 dL_edges_366 (by omega) (by omega) (by decide) (fun c366 => ?_) (fun c366 => ?_)
                                                      · skip
                                                        exact Q_to (JN377 ) rfl (by omega) rfl
                                                      · refine Q_iload hX dL_edges_369 rfl ?_
                                                        refine Q_iload_n hX dL_edges_371 rfl ?_
                                                        refine Q_icmp_le hX 377 dL_edges_372 (by omega) (by omega) (by decide) (fun c372 => ?_) (fun c372 => ?_)
                                                        · skip
                                                          exact Q_to (JN377 ) rfl (by omega) rfl
                                                        · skip
                                                          exfalso
                                                          have q9 := cf.out (by omega) (by omega)
                                                          omega
                                                refine Q_iload hX dL_edges_319 rfl ?_
                                                have hr1 := hj317.out
                                                refine Q_if_eq hX 347 dL_edges_321 (by omega) (by decide) (fun c321 => ?_) (fun c321 => ?_)
                                                · skip
                                                  exact Q_to (JN347 ) rfl (by omega) rfl
                                                · refine Q_iload hX dL_edges_324 rfl ?_
                                                  refine Q_iload hX dL_edges_326 rfl ?_
                                                  refine Q_icmp_ge hX 347 dL_edges_328 (by omega) (by decide) (by decide) (fun c328 => ?_) (fun c328 => ?_)
                                                  · skip
                                                    exact Q_to (JN347 ) rfl (by omega) rfl
                                                  · refine Q_iload hX dL_edges_331 rfl ?_
                                                    refine Q_iload hX dL_edges_333 rfl ?_
                                                    refine Q_iadd hX dL_edges_335 ?_
                                                    refine Q_iload hX dL_edges_336 rfl ?_
                                                    refine Q_icmp_le hX 347 dL_edges_338 (by omega) (by decide) (by decide) (fun c338 => ?_) (fun c338 => ?_)
                                                    · skip
                                                      exact Q_to (JN347 ) rfl (by omega) rfl
                                                    · refine Q_iload hX dL_edges_341 rfl ?_
                                                      refine Q_iload_n hX dL_edges_343 rfl ?_
                                                      refine Q_icmp_gt hX 375 dL_edges_344 (by omega) (by omega) (by decide) (fun c344 => ?_) (fun c344 => ?_)
                                                      · skip
                                                        exfalso
                                                        have q9 := cf.out (by omega) (by omega)
                                                        omega
                                                      · skip
                                                        exact Q_to (JN347 ) rfl (by omega) rfl
                                              refine Q_iload hX dL_edges_288 rfl ?_
                                              refine Q_aload_n hX dL_edges_290 rfl ?_
                                              refine Q_iconst hX dL_edges_291 ?_
                                              refine Q_ask hX hl (u := 1) _ dL_edges_292 cwL_whole (a_whole (k := 1) hE (by decide) (by decide) (v := S 0 4) (wv_1 (by decide))) rfl (Nat.le_of_ble_eq_true rfl) ⟨by decide, by decide⟩ ?_
                                              refine Q_icmp_ge hX 316 dL_edges_295 (by omega) (by omega) (by decide) (fun c295 => ?_) (fun c295 => ?_)
                                              · refine Q_iconst hX dL_edges_316 ?_
                                                exact Q_to (JN317 _ (Hid.mk (by omega))) rfl (by omega) rfl
                                              · refine Q_iload hX dL_edges_298 rfl ?_
                                                refine Q_aload_n hX dL_edges_300 rfl ?_
                                                refine Q_iload hX dL_edges_301 rfl ?_
                                                refine Q_bipush hX dL_edges_303 rfl ?_
                                                refine Q_ask hX hl (u := 1) _ dL_edges_305 cwL_node (a_node (n9 := n) (k := 10) hE (by omega) (by decide) (nodeOK hn (by decide)) (v := S 8 n) (nv_10 (by decide) hn hb)) rfl (Nat.le_of_ble_eq_true rfl) ⟨by decide, by decide⟩ ?_
                                                refine Q_iadd hX dL_edges_308 ?_
                                                refine Q_if_le hX 316 dL_edges_309 (by omega) (by decide) (fun c309 => ?_) (fun c309 => ?_)
                                                · refine Q_iconst hX dL_edges_316 ?_
                                                  exact Q_to (JN317 _ (Hid.mk (by omega))) rfl (by omega) rfl
                                                · refine Q_iconst hX dL_edges_312 ?_
                                                  refine Q_goto hX 317 dL_edges_313 (by decide) ?_
                                                  exact Q_to (JN317 _ (Hid.mk (by omega))) rfl (by omega) rfl
                                            refine Q_iload hX dL_edges_450 rfl ?_
                                            have hm9 := hj448.out
                                            refine Q_if_eq hX 464 dL_edges_452 (by omega) (by decide) (fun c452 => ?_) (fun c452 => ?_)
                                            · skip
                                              exact Q_to (JN464 ) rfl (by omega) rfl
                                            · have cs := csnF hW ht4.1 hbx
                                              try simp only [hPS, hRW, hSH, hCL, hPC, hWA, hWB, hTR, hTS, hTA, hTB, hCT, hNX, hNB, hOR] at cs
                                              have cc9 := coF (S 0 5) TS
                                              rw [cc9.1, ← ht5] at cs
                                              refine Q_iload hX dL_edges_455 rfl ?_
                                              refine Q_iload hX dL_edges_457 rfl ?_
                                              refine Q_icmp_lt hX 464 dL_edges_459 (by omega) (by omega) (by decide) (fun c459 => ?_) (fun c459 => ?_)
                                              · skip
                                                exact Q_to (JN464 ) rfl (by omega) rfl
                                              · skip
                                                exfalso
                                                omega
                                          refine Q_iload hX dL_edges_377 rfl ?_
                                          refine Q_sipush hX dL_edges_379 rfl ?_
                                          refine Q_icmp_eq hX 447 dL_edges_382 (by omega) (by decide) (by decide) (fun c382 => ((by omega : False)).elim) (fun c382 => ?_)
                                          refine Q_iload hX dL_edges_385 rfl ?_
                                          refine Q_iload hX dL_edges_387 rfl ?_
                                          refine Q_icmp_lt hX 447 dL_edges_389 (by omega) (by omega) (by decide) (fun c389 => ?_) (fun c389 => ?_)
                                          · refine Q_iconst hX dL_edges_447 ?_
                                            exact Q_to (JN448 _ (Hid.mk (by omega))) rfl (by omega) rfl
                                          · refine Q_iload hX dL_edges_392 rfl ?_
                                            refine Q_iload hX dL_edges_394 rfl ?_
                                            refine Q_aload_n hX dL_edges_396 rfl ?_
                                            refine Q_iload hX dL_edges_397 rfl ?_
                                            refine Q_bipush hX dL_edges_399 rfl ?_
                                            refine Q_ask hX hl (u := 1) _ dL_edges_401 cwL_node (a_node (n9 := n) (k := 10) hE (by omega) (by decide) (nodeOK hn (by decide)) (v := S 8 n) (nv_10 (by decide) hn hb)) rfl (Nat.le_of_ble_eq_true rfl) ⟨by decide, by decide⟩ ?_
                                            refine Q_iadd hX dL_edges_404 ?_
                                            refine Q_icmp_ge hX 447 dL_edges_405 (by omega) (by omega) (by decide) (fun c405 => ?_) (fun c405 => ?_)
                                            · refine Q_iconst hX dL_edges_447 ?_
                                              exact Q_to (JN448 _ (Hid.mk (by omega))) rfl (by omega) rfl
                                            · refine Q_iload hX dL_edges_408 rfl ?_
                                              refine Q_aload_n hX dL_edges_410 rfl ?_
                                              refine Q_iconst hX dL_edges_411 ?_
                                              refine Q_iload hX dL_edges_412 rfl ?_
                                              refine Q_iadd hX dL_edges_414 ?_
                                              refine Q_ask hX hl (u := 1) _ dL_edges_415 cwL_title (a_title (k := (5 + 0)) hE (by decide) (by decide) (v := TA) ((tv_5 (by decide) hn7.out).trans hTA)) rfl (Nat.le_of_ble_eq_true rfl) ⟨by decide, by decide⟩ ?_
                                              refine Q_aload_n hX dL_edges_418 rfl ?_
                                              refine Q_iconst hX dL_edges_419 ?_
                                              refine Q_ask hX hl (u := 1) _ dL_edges_420 cwL_title (a_title (k := 2) hE (by decide) (by decide) (v := S 0 7) (tv_2 (by decide) hn7.out)) rfl (Nat.le_of_ble_eq_true rfl) ⟨by decide, by decide⟩ ?_
                                              refine Q_iadd hX dL_edges_423 ?_
                                              refine Q_icmp_ge hX 447 dL_edges_424 (by omega) (by omega) (by decide) (fun c424 => ?_) (fun c424 => ?_)
                                              · refine Q_iconst hX dL_edges_447 ?_
                                                exact Q_to (JN448 _ (Hid.mk (by omega))) rfl (by omega) rfl
                                              · refine Q_iload hX dL_edges_427 rfl ?_
                                                refine Q_iload hX dL_edges_429 rfl ?_
                                                refine Q_iadd hX dL_edges_431 ?_
                                                refine Q_aload_n hX dL_edges_432 rfl ?_
                                                refine Q_iconst hX dL_edges_433 ?_
                                                refine Q_iload hX dL_edges_434 rfl ?_
                                                refine Q_iadd hX dL_edges_436 ?_
                                                refine Q_ask hX hl (u := 1) _ dL_edges_437 cwL_title (a_title (k := (5 + 0)) hE (by decide) (by decide) (v := TA) ((tv_5 (by decide) hn7.out).trans hTA)) rfl (Nat.le_of_ble_eq_true rfl) ⟨by decide, by decide⟩ ?_
                                                refine Q_icmp_le hX 447 dL_edges_440 (by omega) (by omega) (by decide) (fun c440 => ?_) (fun c440 => ?_)
                                                · refine Q_iconst hX dL_edges_447 ?_
                                                  exact Q_to (JN448 _ (Hid.mk (by omega))) rfl (by omega) rfl
                                                · refine Q_iconst hX dL_edges_443 ?_
                                                  refine Q_goto hX 448 dL_edges_444 (by decide) ?_
                                                  exact Q_to (JN448 _ (Hid.mk (by omega))) rfl (by omega) rfl
                                        refine Q_iload hX dL_edges_347 rfl ?_
                                        have hr1 := hj317.out
                                        refine Q_if_eq hX 377 dL_edges_349 (by omega) (by decide) (fun c349 => ?_) (fun c349 => ?_)
                                        · skip
                                          exact Q_to (JN377 ) rfl (by omega) rfl
                                        · refine Q_iload hX dL_edges_352 rfl ?_
                                          refine Q_iload hX dL_edges_354 rfl ?_
                                          refine Q_icmp_ge hX 377 dL_edges_356 (by omega) (by omega) (by decide) (fun c356 => ?_) (fun c356 => ?_)
                                          · skip
                                            exact Q_to (JN377 ) rfl (by omega) rfl
                                          · refine Q_iload hX dL_edges_359 rfl ?_
                                            refine Q_iload hX dL_edges_361 rfl ?_
                                            refine Q_iadd hX dL_edges_363 ?_
                                            refine Q_iload hX dL_edges_364 rfl ?_
                                            refine Q_icmp_le hX 377 dL_edges_366 (by omega) (by omega) (by decide) (fun c366 => ?_) (fun c366 => ?_)
                                            · skip
                                              exact Q_to (JN377 ) rfl (by omega) rfl
                                            · refine Q_iload hX dL_edges_369 rfl ?_
                                              refine Q_iload_n hX dL_edges_371 rfl ?_
                                              refine Q_icmp_le hX 377 dL_edges_372 (by omega) (by omega) (by decide) (fun c372 => ?_) (fun c372 => ?_)
                                              · skip
                                                exact Q_to (JN377 ) rfl (by omega) rfl
                                              · skip
                                                exfalso
                                                have q9 := cf.out (by omega) (by omega)
                                                omega
                                      refine Q_iload hX dL_edges_319 rfl ?_
                                      have hr1 := hj317.out
                                      refine Q_if_eq hX 347 dL_edges_321 (by omega) (by decide) (fun c321 => ?_) (fun c321 => ?_)
                                      · skip
                                        exact Q_to (JN347 ) rfl (by omega) rfl
                                      · refine Q_iload hX dL_edges_324 rfl ?_
                                        refine Q_iload hX dL_edges_326 rfl ?_
                                        refine Q_icmp_ge hX 347 dL_edges_328 (by omega) (by omega) (by decide) (fun c328 => ?_) (fun c328 => ?_)
                                        · skip
                                          exact Q_to (JN347 ) rfl (by omega) rfl
                                        · refine Q_iload hX dL_edges_331 rfl ?_
                                          refine Q_iload hX dL_edges_333 rfl ?_
                                          refine Q_iadd hX dL_edges_335 ?_
                                          refine Q_iload hX dL_edges_336 rfl ?_
                                          refine Q_icmp_le hX 347 dL_edges_338 (by omega) (by omega) (by decide) (fun c338 => ?_) (fun c338 => ?_)
                                          · skip
                                            exact Q_to (JN347 ) rfl (by omega) rfl
                                          · refine Q_iload hX dL_edges_341 rfl ?_
                                            refine Q_iload_n hX dL_edges_343 rfl ?_
                                            refine Q_icmp_gt hX 375 dL_edges_344 (by omega) (by omega) (by decide) (fun c344 => ?_) (fun c344 => ?_)
                                            · skip
                                              exfalso
                                              have q9 := cf.out (by omega) (by omega)
                                              omega
                                            · skip
                                              exact Q_to (JN347 ) rfl (by omega) rfl
                                    refine Q_iload hX dL_edges_288 rfl ?_
                                    refine Q_aload_n hX dL_edges_290 rfl ?_
                                    refine Q_iconst hX dL_edges_291 ?_
                                    refine Q_ask hX hl (u := 1) _ dL_edges_292 cwL_whole (a_whole (k := 1) hE (by decide) (by decide) (v := S 0 4) (wv_1 (by decide))) rfl (Nat.le_of_ble_eq_true rfl) ⟨by decide, by decide⟩ ?_
                                    refine Q_icmp_ge hX 316 dL_edges_295 (by omega) (by omega) (by decide) (fun c295 => ?_) (fun c295 => ?_)
                                    · refine Q_iconst hX dL_edges_316 ?_
                                      exact Q_to (JN317 _ (Hid.mk (by omega))) rfl (by omega) rfl
                                    · refine Q_iload hX dL_edges_298 rfl ?_
                                      refine Q_aload_n hX dL_edges_300 rfl ?_
                                      refine Q_iload hX dL_edges_301 rfl ?_
                                      refine Q_bipush hX dL_edges_303 rfl ?_
                                      refine Q_ask hX hl (u := 1) _ dL_edges_305 cwL_node (a_node (n9 := n) (k := 10) hE (by omega) (by decide) (nodeOK hn (by decide)) (v := S 8 n) (nv_10 (by decide) hn hb)) rfl (Nat.le_of_ble_eq_true rfl) ⟨by decide, by decide⟩ ?_
                                      refine Q_iadd hX dL_edges_308 ?_
                                      refine Q_if_le hX 316 dL_edges_309 (by omega) (by decide) (fun c309 => ?_) (fun c309 => ?_)
                                      · refine Q_iconst hX dL_edges_316 ?_
                                        exact Q_to (JN317 _ (Hid.mk (by omega))) rfl (by omega) rfl
                                      · refine Q_iconst hX dL_edges_312 ?_
                                        refine Q_goto hX 317 dL_edges_313 (by decide) ?_
                                        exact Q_to (JN317 _ (Hid.mk (by omega))) rfl (by omega) rfl
                                  · skip
                                    refine Q_ask hX hl (u := 1) _ dL_edges_208 cwL_node (a_node (n9 := n) (k := 9) hE (by omega) (by decide) (nodeOK hn (by decide)) (v := (-1000)) (nv_g hb (by decide))) rfl (Nat.le_of_ble_eq_true rfl) ⟨by decide, by decide⟩ ?_
                                    refine Q_istore hX dL_edges_211 (by decide) ?_
                                    refine Q_aload_n hX dL_edges_213 rfl ?_
                                    refine Q_iload hX dL_edges_214 rfl ?_
                                    refine Q_iconst hX dL_edges_216 ?_
                                    refine Q_ask hX hl (u := 1) _ dL_edges_217 cwL_node (a_node (n9 := n) (k := 5) hE (by omega) (by decide) (nodeOK hn (by decide)) (v := PS 5 n) ((nv_5 (by decide) hn).trans (congrFun (congrFun hPS 5) n))) rfl (Nat.le_of_ble_eq_true rfl) ⟨by decide, by decide⟩ ?_
                                    refine Q_istore hX dL_edges_220 (by decide) ?_
                                    refine Q_aload_n hX dL_edges_222 rfl ?_
                                    refine Q_iload hX dL_edges_223 rfl ?_
                                    refine Q_bipush hX dL_edges_225 rfl ?_
                                    refine Q_ask hX hl (u := 1) _ dL_edges_227 cwL_node (a_node (n9 := n) (k := 13) hE (by omega) (by decide) (nodeOK hn (by decide)) (v := (-1000)) (nv_g hb (by decide))) rfl (Nat.le_of_ble_eq_true rfl) ⟨by decide, by decide⟩ ?_
                                    refine Q_istore hX dL_edges_230 (by decide) ?_
                                    refine Q_iconst hX dL_edges_232 ?_
                                    refine Q_istore hX dL_edges_233 (by decide) ?_
                                    refine Q_iload hX dL_edges_235 rfl ?_
                                    refine Q_iconst hX dL_edges_237 ?_
                                    refine Q_icmp_ge hX 470 dL_edges_238 (by decide) (by decide) (by decide) (fun h => absurd h (by decide)) (fun _ => ?_)
                                    refine Q_iload hX dL_edges_241 rfl ?_
                                    refine Q_sipush hX dL_edges_243 rfl ?_
                                    refine Q_icmp_eq hX 470 dL_edges_246 (by decide) (by decide) (by decide) (fun _ => ?_) (fun h => absurd (by decide) h)
                                    refine Q_iinc hX dL_edges_470 rfl (by decide) ?_
                                    refine Q_goto hX 193 dL_edges_473 (by decide) ?_
                                    exact Q_to (ih193 (k + 1) (by omega) (by omega) _ (by omega)) rfl (by omega) rfl
                              exact Q_to (HL193 0 (Nat.zero_le _) 0 rfl) rfl (by omega) rfl
                            · skip
                              exfalso
                              omega
          · skip
            exfalso
            omega
  rw [hZ] at main
  exact main n0 M 0 0 hI (Nat.le_of_ble_eq_true rfl) (Nat.le_of_ble_eq_true rfl)
