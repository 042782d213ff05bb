set_option maxHeartbeats 16000000 in
set_option maxRecDepth 100000 in
theorem lc_tick {E : EE} {X : JX} {x : Nat} {T : Int} {S : MM} {c : Int} {P : MM} {c0 s0 q : Nat} {n xx yy k : Int} (hX : XO E X cL_law RL 17 12 c0 s0) (hl : XL X) (hE : ∀ U, SF E U → ThF E U ∧ NcF U) (hE2 : ∀ U, SF E U → CF E U) (hW : WFS T S) (hT : T + 1000 ≤ 1000000000) (h80 : S 0 3 ≤ 80) (hxx : i32 xx) (hyy : i32 yy) (hk : 0 ≤ k ∧ (S 1 0 ≠ 0 → k < S 1 0))
    (k1 : ∀ S2 c2 P2, WFS (T + 200) S2 → S2 0 3 ≤ 80 → LJ E X (x, T + 200, S2, c2, P2, c0, s0) q 1381 [(0, .ref (1000000 + 50)), (1, .ref x), (3, vI n), (5, vI yy)] []) : LJ E X (x, T, S, c, P, c0, s0) (q + 120) 1200 [(0, .ref (1000000 + 50)), (1, .ref x), (3, vI n), (4, vI xx), (5, vI yy), (6, vI (S 1 0)), (8, vI k)] [] := by
  have w9 := hW.2.1
  unfold WFSs at w9
  refine L_iconst hX hl dL_law_1200 ?_
  refine L_iload hX hl dL_law_1201 rfl ?_
  refine L_bipush hX hl dL_law_1203 rfl ?_
  refine L_low hX hl dL_law_1205 (by first | omega | exact shrI_r _ _) ⟨by omega, by omega⟩ (Nat.le_of_ble_eq_true rfl) (by decide) ?_
  obtain ⟨lw1, elw1⟩ : ∃ v : Int, low yy 12 = v := ⟨_, rfl⟩
  have rlw1 : 0 ≤ lw1 ∧ lw1 < 12 := elw1 ▸ low_r (by omega)
  rw [elw1]
  refine L_iadd hX hl dL_law_1208 ?_
  obtain ⟨tk, etk⟩ : ∃ v : Int, (1 + lw1) = v := ⟨_, rfl⟩
  rw [etk]
  have htk : 1 ≤ tk ∧ tk ≤ 12 := by omega
  have fu := fuF (S := S) htk.1
  obtain ⟨z0, ez⟩ : ∃ v : Int, faF S (tk + 1).toNat 0 = v := ⟨_, rfl⟩
  rw [ez] at fu
  have mt := mul_tk (t := tk) (r := S 15 1) htk (by omega)
  have tf := tknF (S := S) (by omega) tk.toNat
  rw [show ((tk.toNat : Nat) : Int) = tk by omega] at tf
  refine L_istore hX hl dL_law_1209 (by decide) ?_
  refine L_aload_n hX hl dL_law_1211 rfl ?_
  refine L_iconst hX hl dL_law_1212 ?_
  refine L_ask hX hl (u := 1) _ dL_law_1213 cwL_whole (a_whole (k := 5) hE (by decide) (by decide) (v := S 11 1) (wv_5 (by decide))) rfl (Nat.le_of_ble_eq_true rfl) ⟨by decide, by decide⟩ (fun _ _ => rfl) (fun K9 h1 h2 => ⟨⟨h2, ⟨h1, trivial⟩⟩, trivial⟩) ?_
  refine L_istore hX hl dL_law_1216 (by decide) ?_
  refine L_aload_n hX hl dL_law_1218 rfl ?_
  refine L_bipush hX hl dL_law_1219 rfl ?_
  refine L_ask hX hl (u := 1) _ dL_law_1221 cwL_whole (a_whole (k := 7) hE (by decide) (by decide) (v := S 11 2) (wv_7 (by decide))) rfl (Nat.le_of_ble_eq_true rfl) ⟨by decide, by decide⟩ (fun _ _ => rfl) (fun K9 h1 h2 => ⟨⟨h2, ⟨h1, trivial⟩⟩, trivial⟩) ?_
  refine L_istore hX hl dL_law_1224 (by decide) ?_
  refine L_aload_n hX hl dL_law_1226 rfl ?_
  refine L_bipush hX hl dL_law_1227 rfl ?_
  refine L_ask hX hl (u := 1) _ dL_law_1229 cwL_whole (a_whole (k := 8) hE (by decide) (by decide) (v := S 11 3) (wv_8 (by decide))) rfl (Nat.le_of_ble_eq_true rfl) ⟨by decide, by decide⟩ (fun _ _ => rfl) (fun K9 h1 h2 => ⟨⟨h2, ⟨h1, trivial⟩⟩, trivial⟩) ?_
  refine L_istore hX hl dL_law_1232 (by decide) ?_
  refine L_aload_n hX hl dL_law_1234 rfl ?_
  refine L_iload hX hl dL_law_1235 rfl ?_
  refine L_ask hX hl (u := 1) _ dL_law_1237 cwL_fullAfter (a_fullAfter hE (by omega) (by omega) (if_pos ⟨by omega, by omega⟩) (v := z0) ez) rfl (Nat.le_of_ble_eq_true rfl) ⟨by decide, by decide⟩ (fun _ _ => rfl) (fun K9 h1 h2 => ⟨⟨h2, ⟨h1, trivial⟩⟩, trivial⟩) ?_
  refine L_istore hX hl dL_law_1240 (by decide) ?_
  refine L_iload hX hl dL_law_1242 rfl ?_
  refine L_aload_n hX hl dL_law_1244 rfl ?_
  refine L_bipush hX hl dL_law_1245 rfl ?_
  refine L_ask hX hl (u := 1) _ dL_law_1247 cwL_whole (a_whole (k := 13) hE (by decide) (by decide) (v := S 15 1) (wv_13 (by decide))) rfl (Nat.le_of_ble_eq_true rfl) ⟨by decide, by decide⟩ (fun _ _ => rfl) (fun K9 h1 h2 => ⟨⟨h2, ⟨h1, trivial⟩⟩, trivial⟩) ?_
  refine L_imul hX hl dL_law_1250 ?_
  refine L_istore hX hl dL_law_1251 (by decide) ?_
  refine L_aload_n hX hl dL_law_1253 rfl ?_
  refine L_iload hX hl dL_law_1254 rfl ?_
  refine L_do hX hl _ dL_law_1256 cwL_tick (d_tick hE (by omega) (by omega) ⟨by omega, by omega⟩) rfl (Nat.le_of_ble_eq_true rfl) ⟨by decide, by decide⟩ (fun K9 h1 h2 => ⟨⟨h2, ⟨h1, trivial⟩⟩, trivial⟩) (fun tv S2 c2 P2 hφ hW2 => ?_)
  obtain ⟨⟨hv, hS2⟩, -, -⟩ := hφ
  rw [← hS2] at tf hv fu
  obtain ⟨pc2, ep2⟩ : ∃ v : Int, pct S2 = v := ⟨_, rfl⟩
  rw [ep2] at fu
  have pr2 : 0 ≤ pc2 ∧ pc2 ≤ 100 := ep2 ▸ pctW_rng S2 (S2 11 2) (S2 11 3)
  have w92 := hW2.2.1
  unfold WFSs at w92
  have e03 : S2 0 = S 0 := by rw [hS2]; exact tkSn_row (by decide) _
  refine L_iload hX hl dL_law_1259 rfl ?_
  refine L_iload hX hl dL_law_1261 rfl ?_
  refine L_iadd hX hl dL_law_1263 ?_
  refine L_icmp_ne hX hl 1379 dL_law_1264 (by first | omega | exact shrI_r _ _) (by first | omega | exact shrI_r _ _) (by decide) (fun c1264 => ?_) (fun c1264 => ?_)
  · skip
    exfalso
    omega
  · refine L_aload_n hX hl dL_law_1267 rfl ?_
    refine L_bipush hX hl dL_law_1268 rfl ?_
    refine L_ask hX hl (u := 1) _ dL_law_1270 cwL_whole (a_whole (k := 7) hE (by decide) (by decide) (v := S2 11 2) (wv_7 (by decide))) rfl (Nat.le_of_ble_eq_true rfl) ⟨by decide, by decide⟩ (fun _ _ => rfl) (fun K9 h1 h2 => ⟨⟨h2, ⟨h1, trivial⟩⟩, trivial⟩) ?_
    refine L_iload hX hl dL_law_1273 rfl ?_
    refine L_iload hX hl dL_law_1275 rfl ?_
    refine L_iadd hX hl dL_law_1277 ?_
    refine L_icmp_gt hX hl 1379 dL_law_1278 (by first | omega | exact shrI_r _ _) (by first | omega | exact shrI_r _ _) (by decide) (fun c1278 => ?_) (fun c1278 => ?_)
    · skip
      exfalso
      omega
    · refine L_aload_n hX hl dL_law_1281 rfl ?_
      refine L_bipush hX hl dL_law_1282 rfl ?_
      refine L_ask hX hl (u := 1) _ dL_law_1284 cwL_whole (a_whole (k := 7) hE (by decide) (by decide) (v := S2 11 2) (wv_7 (by decide))) rfl (Nat.le_of_ble_eq_true rfl) ⟨by decide, by decide⟩ (fun _ _ => rfl) (fun K9 h1 h2 => ⟨⟨h2, ⟨h1, trivial⟩⟩, trivial⟩) ?_
      refine L_iload hX hl dL_law_1287 rfl ?_
      refine L_iload hX hl dL_law_1289 rfl ?_
      refine L_isub hX hl dL_law_1291 ?_
      refine L_icmp_lt hX hl 1379 dL_law_1292 (by first | omega | exact shrI_r _ _) (by first | omega | exact shrI_r _ _) (by decide) (fun c1292 => ?_) (fun c1292 => ?_)
      · skip
        exfalso
        omega
      · refine L_aload_n hX hl dL_law_1295 rfl ?_
        refine L_bipush hX hl dL_law_1296 rfl ?_
        refine L_ask hX hl (u := 1) _ dL_law_1298 cwL_whole (a_whole (k := 8) hE (by decide) (by decide) (v := S2 11 3) (wv_8 (by decide))) rfl (Nat.le_of_ble_eq_true rfl) ⟨by decide, by decide⟩ (fun _ _ => rfl) (fun K9 h1 h2 => ⟨⟨h2, ⟨h1, trivial⟩⟩, trivial⟩) ?_
        refine L_iload hX hl dL_law_1301 rfl ?_
        refine L_iload hX hl dL_law_1303 rfl ?_
        refine L_iadd hX hl dL_law_1305 ?_
        refine L_icmp_gt hX hl 1379 dL_law_1306 (by first | omega | exact shrI_r _ _) (by first | omega | exact shrI_r _ _) (by decide) (fun c1306 => ?_) (fun c1306 => ?_)
        · skip
          exfalso
          omega
        · refine L_aload_n hX hl dL_law_1309 rfl ?_
          refine L_bipush hX hl dL_law_1310 rfl ?_
          refine L_ask hX hl (u := 1) _ dL_law_1312 cwL_whole (a_whole (k := 8) hE (by decide) (by decide) (v := S2 11 3) (wv_8 (by decide))) rfl (Nat.le_of_ble_eq_true rfl) ⟨by decide, by decide⟩ (fun _ _ => rfl) (fun K9 h1 h2 => ⟨⟨h2, ⟨h1, trivial⟩⟩, trivial⟩) ?_
          refine L_iload hX hl dL_law_1315 rfl ?_
          refine L_iload hX hl dL_law_1317 rfl ?_
          refine L_isub hX hl dL_law_1319 ?_
          refine L_icmp_lt hX hl 1379 dL_law_1320 (by first | omega | exact shrI_r _ _) (by first | omega | exact shrI_r _ _) (by decide) (fun c1320 => ?_) (fun c1320 => ?_)
          · skip
            exfalso
            omega
          · refine L_aload_n hX hl dL_law_1323 rfl ?_
            refine L_iconst hX hl dL_law_1324 ?_
            refine L_ask hX hl (u := 1) _ dL_law_1325 cwL_whole (a_whole (k := 4) hE (by decide) (by decide) (v := S2 11 0) (wv_4 (by decide))) rfl (Nat.le_of_ble_eq_true rfl) ⟨by decide, by decide⟩ (fun _ _ => rfl) (fun K9 h1 h2 => ⟨⟨h2, ⟨h1, trivial⟩⟩, trivial⟩) ?_
            refine L_if_ne hX hl 1354 dL_law_1328 (by first | omega | exact shrI_r _ _) (by decide) (fun c1328 => ?_) (fun c1328 => ?_)
            · refine L_iload hX hl dL_law_1354 rfl ?_
              refine L_iload hX hl dL_law_1356 rfl ?_
              refine L_icmp_ne hX hl 1372 dL_law_1358 (by first | omega | exact shrI_r _ _) (by first | omega | exact shrI_r _ _) (by decide) (fun c1358 => ?_) (fun c1358 => ?_)
              · refine L_iload hX hl dL_law_1372 rfl ?_
                refine L_iload hX hl dL_law_1374 rfl ?_
                refine L_icmp_le hX hl 1381 dL_law_1376 (by first | omega | exact shrI_r _ _) (by first | omega | exact shrI_r _ _) (by decide) (fun c1376 => ?_) (fun c1376 => ?_)
                · skip
                  exact L_to hX hl (L_mo (by omega) (by omega) (k1 S2 _ _ (WFS_mono hW2 (by omega) (by omega)) (by rw [e03]; exact h80))) rfl (by omega) rfl
                · skip
                  exfalso
                  omega
              · refine L_aload_n hX hl dL_law_1361 rfl ?_
                refine L_bipush hX hl dL_law_1362 rfl ?_
                refine L_ask hX hl (u := 1) _ dL_law_1364 cwL_whole (a_whole (k := 9) hE (by decide) (by decide) (v := pc2) ((wv_9 (by decide)).trans ep2)) rfl (Nat.le_of_ble_eq_true rfl) ⟨by decide, by decide⟩ (fun _ _ => rfl) (fun K9 h1 h2 => ⟨⟨h2, ⟨h1, trivial⟩⟩, trivial⟩) ?_
                refine L_bipush hX hl dL_law_1367 rfl ?_
                refine L_icmp_ne hX hl 1379 dL_law_1369 (by first | omega | exact shrI_r _ _) (by decide) (by decide) (fun c1369 => ?_) (fun c1369 => ?_)
                · skip
                  exfalso
                  omega
                · refine L_iload hX hl dL_law_1372 rfl ?_
                  refine L_iload hX hl dL_law_1374 rfl ?_
                  refine L_icmp_le hX hl 1381 dL_law_1376 (by first | omega | exact shrI_r _ _) (by first | omega | exact shrI_r _ _) (by decide) (fun c1376 => ?_) (fun c1376 => ?_)
                  · skip
                    exact L_to hX hl (L_mo (by omega) (by omega) (k1 S2 _ _ (WFS_mono hW2 (by omega) (by omega)) (by rw [e03]; exact h80))) rfl (by omega) rfl
                  · skip
                    exfalso
                    omega
            · refine L_aload_n hX hl dL_law_1331 rfl ?_
              refine L_bipush hX hl dL_law_1332 rfl ?_
              refine L_ask hX hl (u := 1) _ dL_law_1334 cwL_whole (a_whole (k := 7) hE (by decide) (by decide) (v := S2 11 2) (wv_7 (by decide))) rfl (Nat.le_of_ble_eq_true rfl) ⟨by decide, by decide⟩ (fun _ _ => rfl) (fun K9 h1 h2 => ⟨⟨h2, ⟨h1, trivial⟩⟩, trivial⟩) ?_
              refine L_iload hX hl dL_law_1337 rfl ?_
              refine L_icmp_ne hX hl 1379 dL_law_1339 (by first | omega | exact shrI_r _ _) (by first | omega | exact shrI_r _ _) (by decide) (fun c1339 => ?_) (fun c1339 => ?_)
              · skip
                exfalso
                omega
              · have hno : now S2 0 = -1000 := if_pos (show S2 11 0 = 0 by omega)
                refine L_aload_n hX hl dL_law_1342 rfl ?_
                refine L_bipush hX hl dL_law_1343 rfl ?_
                refine L_ask hX hl (u := 1) _ dL_law_1345 cwL_whole (a_whole (k := 6) hE (by decide) (by decide) (v := now S2 0) (wv_6 (by decide))) rfl (Nat.le_of_ble_eq_true rfl) ⟨by decide, by decide⟩ (fun _ _ => rfl) (fun K9 h1 h2 => ⟨⟨h2, ⟨h1, trivial⟩⟩, trivial⟩) ?_
                refine L_sipush hX hl dL_law_1348 rfl ?_
                refine L_icmp_ne hX hl 1379 dL_law_1351 (by first | omega | exact shrI_r _ _) (by decide) (by decide) (fun c1351 => ?_) (fun c1351 => ?_)
                · skip
                  exfalso
                  omega
                · refine L_iload hX hl dL_law_1354 rfl ?_
                  refine L_iload hX hl dL_law_1356 rfl ?_
                  refine L_icmp_ne hX hl 1372 dL_law_1358 (by first | omega | exact shrI_r _ _) (by first | omega | exact shrI_r _ _) (by decide) (fun c1358 => ?_) (fun c1358 => ?_)
                  · refine L_iload hX hl dL_law_1372 rfl ?_
                    refine L_iload hX hl dL_law_1374 rfl ?_
                    refine L_icmp_le hX hl 1381 dL_law_1376 (by first | omega | exact shrI_r _ _) (by first | omega | exact shrI_r _ _) (by decide) (fun c1376 => ?_) (fun c1376 => ?_)
                    · skip
                      exact L_to hX hl (L_mo (by omega) (by omega) (k1 S2 _ _ (WFS_mono hW2 (by omega) (by omega)) (by rw [e03]; exact h80))) rfl (by omega) rfl
                    · skip
                      exfalso
                      omega
                  · refine L_aload_n hX hl dL_law_1361 rfl ?_
                    refine L_bipush hX hl dL_law_1362 rfl ?_
                    refine L_ask hX hl (u := 1) _ dL_law_1364 cwL_whole (a_whole (k := 9) hE (by decide) (by decide) (v := pc2) ((wv_9 (by decide)).trans ep2)) rfl (Nat.le_of_ble_eq_true rfl) ⟨by decide, by decide⟩ (fun _ _ => rfl) (fun K9 h1 h2 => ⟨⟨h2, ⟨h1, trivial⟩⟩, trivial⟩) ?_
                    refine L_bipush hX hl dL_law_1367 rfl ?_
                    refine L_icmp_ne hX hl 1379 dL_law_1369 (by first | omega | exact shrI_r _ _) (by decide) (by decide) (fun c1369 => ?_) (fun c1369 => ?_)
                    · skip
                      exfalso
                      omega
                    · refine L_iload hX hl dL_law_1372 rfl ?_
                      refine L_iload hX hl dL_law_1374 rfl ?_
                      refine L_icmp_le hX hl 1381 dL_law_1376 (by first | omega | exact shrI_r _ _) (by first | omega | exact shrI_r _ _) (by decide) (fun c1376 => ?_) (fun c1376 => ?_)
                      · skip
                        exact L_to hX hl (L_mo (by omega) (by omega) (k1 S2 _ _ (WFS_mono hW2 (by omega) (by omega)) (by rw [e03]; exact h80))) rfl (by omega) rfl
                      · skip
                        exfalso
                        omega
