/-! the law's cases -/
theorem fGC {S : MM} {p u v w : Int} (hp : p = -1000 ∨ hs S p) (hpl : plc u v w) : (bx S p ∧ fGS S p u v w = 2) ∨ (¬ bx S p ∧ (20 ≤ S 1 0 ∨ 5 < arS S p) ∧ fGS S p u v w = 3) ∨ (¬ bx S p ∧ ¬ (20 ≤ S 1 0 ∨ 5 < arS S p) ∧ fGS S p u v w = 0) := by
  have e1 : ¬ (p ≠ -1000 ∧ ¬ hs S p) := fun z => hp.elim (fun q => z.1 q) (fun q => z.2 q)
  unfold fGS
  rw [if_neg e1]
  by_cases b : bx S p
  · rw [if_pos (Or.inl b)]; exact Or.inl ⟨b, rfl⟩
  · rw [if_neg (fun z => z.elim b (fun q => q hpl))]
    by_cases c : 20 ≤ S 1 0 ∨ 5 < arS S p
    · rw [if_pos c]; exact Or.inr (Or.inl ⟨b, c, rfl⟩)
    · rw [if_neg c]; exact Or.inr (Or.inr ⟨b, c, rfl⟩)
theorem fBC {S : MM} {p u v w wd hg : Int} (hp : p = -1000 ∨ hs S p) (hpl : plc u v w) (h1 : (1 ≤ wd ∧ wd ≤ 100) ∧ (1 ≤ hg ∧ hg ≤ 100)) : (bx S p ∧ fBS S p u v w wd hg = 2) ∨ (¬ bx S p ∧ (20 ≤ S 1 0 ∨ 5 < arS S p) ∧ fBS S p u v w wd hg = 3) ∨ (¬ bx S p ∧ ¬ (20 ≤ S 1 0 ∨ 5 < arS S p) ∧ fBS S p u v w wd hg = 0) := by
  have e : fBS S p u v w wd hg = fGS S p u v w := if_neg (fun z => z.2 h1)
  rw [e]
  exact fGC hp hpl

set_option maxHeartbeats 16000000 in
set_option maxRecDepth 100000 in
theorem lc_add {E : EE} {X : JX} {x : Nat} {T : Int} {S : MM} {c : Int} {P : MM} {c0 s0 q : Nat} {n xx yy k : Int} (hX : XO E X cL_law RL 17 12 c0 s0) (hl : XL X) (hE : ∀ U, SF E U → ThF E U ∧ NcF U) (hE2 : ∀ U, SF E U → CF E U) (hW : WFS T S) (hT : T + 1000 ≤ 1000000000) (h80 : S 0 3 ≤ 80) (hxx : i32 xx) (hyy : i32 yy) (hk : 0 ≤ k ∧ (S 1 0 ≠ 0 → k < S 1 0))
    (k1 : ∀ S2 c2 P2, WFS (T + 200) S2 → S2 0 3 ≤ 80 → LJ E X (x, T + 200, S2, c2, P2, c0, s0) q 1381 [(0, .ref (1000000 + 50)), (1, .ref x), (3, vI n), (5, vI yy)] []) : LJ E X (x, T, S, c, P, c0, s0) (q + 120) 172 [(0, .ref (1000000 + 50)), (1, .ref x), (3, vI n), (4, vI xx), (5, vI yy), (6, vI (S 1 0)), (8, vI k)] [] := by
  have w9 := hW.2.1
  unfold WFSs at w9
  have JN197 : ∀ (u : Int), (Hid (u = -1000 ∨ hs S u)) → LJ E X (x, T, S, c, P, c0, s0) (q + 120) 197 [(0, .ref (1000000 + 50)), (1, .ref x), (3, vI n), (4, vI xx), (5, vI yy), (6, vI (S 1 0))] [vI u] := by
    intro u  hj197
    have hu := hj197.out
    clear hj197
    refine L_istore hX hl dL_law_197 (by decide) ?_
    have JN216 : ∀ (bx9 : Int), (0 ≤ bx9 ∧ bx9 ≤ 1) → LJ E X (x, T, S, c, P, c0, s0) (q + 120) 216 [(0, .ref (1000000 + 50)), (1, .ref x), (3, vI n), (4, vI xx), (5, vI yy), (6, vI (S 1 0)), (9, vI u)] [vI bx9] := by
      intro bx9  hj216
      refine L_istore hX hl dL_law_216 (by decide) ?_
      rcases (show u = -1000 ∨ (hs S u ∧ 0 < S 7 u) ∨ (hs S u ∧ ¬ 0 < S 7 u) from hu.elim Or.inl (fun z => Or.inr (Classical.em (0 < S 7 u) |>.elim (fun y => Or.inl ⟨z, y⟩) (fun y => Or.inr ⟨z, y⟩)))) with hu1 | ⟨hsu, hbu⟩ | ⟨hsu, hbu⟩
      · skip
        subst hu1
        have har : arS S (-1000) = 0 := if_neg (fun z => absurd z.1 (by decide))
        have hnb : ¬ bx S (-1000) := fun z => absurd z.1.1 (by decide)
        refine L_iload hX hl dL_law_218 rfl ?_
        refine L_sipush hX hl dL_law_220 rfl ?_
        refine L_icmp_eq hX hl 244 dL_law_223 (by decide) (by decide) (by decide) (fun _ => ?_) (fun h => absurd (by decide) h)
        refine L_iconst hX hl dL_law_244 ?_
        refine L_istore hX hl dL_law_245 (by decide) ?_
        have JN279 : ∀ (fu : Int), (Hid (fu = 1 ∧ (S 1 0 = 20 ∨ (0 : Int) = 1) ∨ fu = 0 ∧ ¬ (S 1 0 = 20 ∨ (0 : Int) = 1)) ∧ 0 ≤ fu ∧ fu ≤ 1) → LJ E X (x, T, S, c, P, c0, s0) (q + 100) 279 [(0, .ref (1000000 + 50)), (1, .ref x), (3, vI n), (4, vI xx), (5, vI yy), (6, vI (S 1 0)), (9, vI (-1000)), (10, vI bx9), (11, vI 0)] [vI fu] := by
          intro fu  hj279
          obtain ⟨hfu, hfu0, hfu1⟩ := hj279
          refine L_istore hX hl dL_law_279 (by decide) ?_
          refine L_iload hX hl dL_law_281 rfl ?_
          refine L_bipush hX hl dL_law_283 rfl ?_
          refine L_low hX hl dL_law_285 (by first | omega | exact shrI_r _ _) ⟨by omega, by omega⟩ (Nat.le_of_ble_eq_true rfl) (by decide) ?_
          obtain ⟨lw1, elw1⟩ : ∃ v : Int, low yy 50 = v := ⟨_, rfl⟩
          have rlw1 : 0 ≤ lw1 ∧ lw1 < 50 := elw1 ▸ low_r (by omega)
          rw [elw1]
          refine L_bipush hX hl dL_law_288 rfl ?_
          refine L_isub hX hl dL_law_290 ?_
          refine L_istore hX hl dL_law_291 (by decide) ?_
          refine L_iload hX hl dL_law_293 rfl ?_
          refine L_bipush hX hl dL_law_295 rfl ?_
          refine L_ishr hX hl dL_law_297 ?_
          refine L_bipush hX hl dL_law_298 rfl ?_
          refine L_low hX hl dL_law_300 (by first | omega | exact shrI_r _ _) ⟨by omega, by omega⟩ (Nat.le_of_ble_eq_true rfl) (by decide) ?_
          obtain ⟨lw2, elw2⟩ : ∃ v : Int, low (shrI yy 6) 16 = v := ⟨_, rfl⟩
          have rlw2 : 0 ≤ lw2 ∧ lw2 < 16 := elw2 ▸ low_r (by omega)
          rw [elw2]
          refine L_iconst hX hl dL_law_303 ?_
          refine L_isub hX hl dL_law_304 ?_
          refine L_istore hX hl dL_law_305 (by decide) ?_
          refine L_iload hX hl dL_law_307 rfl ?_
          refine L_bipush hX hl dL_law_309 rfl ?_
          refine L_ishr hX hl dL_law_311 ?_
          refine L_sipush hX hl dL_law_312 rfl ?_
          refine L_low hX hl dL_law_315 (by first | omega | exact shrI_r _ _) ⟨by omega, by omega⟩ (Nat.le_of_ble_eq_true rfl) (by decide) ?_
          obtain ⟨lw3, elw3⟩ : ∃ v : Int, low (shrI yy 10) 141 = v := ⟨_, rfl⟩
          have rlw3 : 0 ≤ lw3 ∧ lw3 < 141 := elw3 ▸ low_r (by omega)
          rw [elw3]
          refine L_bipush hX hl dL_law_318 rfl ?_
          refine L_isub hX hl dL_law_320 ?_
          refine L_istore hX hl dL_law_321 (by decide) ?_
          refine L_iload hX hl dL_law_323 rfl ?_
          refine L_if_eq hX hl 367 dL_law_325 (by first | omega | exact shrI_r _ _) (by decide) (fun c325 => ?_) (fun c325 => ?_)
          · refine L_aload_n hX hl dL_law_367 rfl ?_
            refine L_iload hX hl dL_law_368 rfl ?_
            refine L_iload hX hl dL_law_370 rfl ?_
            refine L_iload hX hl dL_law_372 rfl ?_
            refine L_iload hX hl dL_law_374 rfl ?_
            rcases fGC (S := S) (p := (-1000)) (u := (lw1 - 8)) (v := (lw2 - 4)) (w := (lw3 - 70)) (Or.inl rfl) (by unfold plc; omega) with ⟨f1, f2⟩ | ⟨f1, f2, f3⟩ | ⟨f1, f2, f3⟩
            · skip
              exact absurd f1 hnb
            · skip
              rw [har] at f2
              refine L_ask hX hl (u := 20) _ dL_law_376 cwL_addGroup (AskH_v (no_addGroup hE (by omega) (by omega) (by omega) (by omega) (by rw [f3]; decide)) (v2 := -90200) (by rw [f3]; rfl)) rfl (Nat.le_of_ble_eq_true rfl) ⟨by decide, by decide⟩ (fun _ _ => rfl) (fun K9 h1 h2 => ⟨⟨h2, ⟨h1, trivial⟩⟩, trivial⟩) ?_
              refine L_istore hX hl dL_law_379 (by decide) ?_
              refine L_iload hX hl dL_law_381 rfl ?_
              refine L_iload hX hl dL_law_383 rfl ?_
              refine L_if_eq hX hl 393 dL_law_385 (by decide) (by decide) (fun _ => ?_) (fun h => absurd (by decide) h)
              refine L_iload hX hl dL_law_393 rfl ?_
              refine L_if_eq hX hl 403 dL_law_395 (by first | omega | exact shrI_r _ _) (by decide) (fun c395 => ((by have hfo := hfu.out; omega : False)).elim) (fun c395 => ?_)
              refine L_ldcI hX hl kI_27 dL_law_398 ?_
              refine L_goto hX hl 405 dL_law_400 (by decide) ?_
              refine L_icmp_ne hX hl 467 dL_law_405 (by decide) (by decide) (by decide) (fun h => absurd (by decide) h) (fun _ => ?_)
              refine L_iload hX hl dL_law_408 rfl ?_
              refine L_if_lt hX hl 469 dL_law_410 (by decide) (by decide) (fun _ => ?_) (fun h => absurd (by decide) h)
              refine L_goto hX hl 1381 dL_law_469 (by decide) ?_
              exact L_to hX hl (L_mo (by omega) (by omega) (k1 S _ _ (WFS_mono hW (by omega) (by omega)) h80)) rfl (by omega) rfl
            · skip
              rw [har] at f2
              refine L_do hX hl _ dL_law_376 cwL_addGroup (d_addGroup hE (by omega) (by omega) (by omega) (by omega) f3) rfl (Nat.le_of_ble_eq_true rfl) ⟨by decide, by decide⟩ (fun K9 h1 h2 => ⟨⟨h2, ⟨h1, trivial⟩⟩, trivial⟩) (fun tv S2 c2 P2 hφ hW2 => ?_)
              obtain ⟨⟨hv, hS2⟩, -, -⟩ := hφ
              have af := adF S (arS S ((-1000))) ((-1000)) ((lw1 - 8)) ((lw2 - 4)) ((lw3 - 70)) 0 0
              rw [← hS2, ← hv] at af
              have hn2 : hs S2 tv := ⟨by omega, by omega, by omega⟩
              refine L_istore hX hl dL_law_379 (by decide) ?_
              refine L_iload hX hl dL_law_381 rfl ?_
              refine L_iload hX hl dL_law_383 rfl ?_
              refine L_if_eq hX hl 393 dL_law_385 (by decide) (by decide) (fun _ => ?_) (fun h => absurd (by decide) h)
              refine L_iload hX hl dL_law_393 rfl ?_
              refine L_if_eq hX hl 403 dL_law_395 (by first | omega | exact shrI_r _ _) (by decide) (fun c395 => ?_) (fun c395 => ((by have hfo := hfu.out; omega : False)).elim)
              refine L_iload hX hl dL_law_403 rfl ?_
              refine L_icmp_ne hX hl 467 dL_law_405 (by first | omega | exact shrI_r _ _) (by first | omega | exact shrI_r _ _) (by decide) (fun c405 => ((by omega : False)).elim) (fun c405 => ?_)
              refine L_iload hX hl dL_law_408 rfl ?_
              refine L_if_lt hX hl 469 dL_law_410 (by first | omega | exact shrI_r _ _) (by decide) (fun c410 => ((by omega : False)).elim) (fun c410 => ?_)
              refine L_aload_n hX hl dL_law_413 rfl ?_
              refine L_iload hX hl dL_law_414 rfl ?_
              refine L_iconst hX hl dL_law_416 ?_
              refine L_ask hX hl (u := 1) _ dL_law_417 cwL_node (a_node (n9 := tv) (k := 0) hE (by first | omega | exact shrI_r _ _) (by decide) (nodeOK hn2 (by decide)) (v := S2 2 tv) (nv_0 (by decide) hn2)) rfl (Nat.le_of_ble_eq_true rfl) ⟨by decide, by decide⟩ (fun _ _ => rfl) (fun K9 h1 h2 => ⟨⟨h2, ⟨h1, trivial⟩⟩, trivial⟩) ?_
              refine L_iload hX hl dL_law_420 rfl ?_
              refine L_icmp_ne hX hl 467 dL_law_422 (by first | omega | exact shrI_r _ _) (by decide) (by decide) (fun c422 => ?_) (fun c422 => ?_)
              · skip
                exfalso
                omega
              · refine L_aload_n hX hl dL_law_425 rfl ?_
                refine L_iload hX hl dL_law_426 rfl ?_
                refine L_iconst hX hl dL_law_428 ?_
                refine L_ask hX hl (u := 1) _ dL_law_429 cwL_node (a_node (n9 := tv) (k := 1) hE (by first | omega | exact shrI_r _ _) (by decide) (nodeOK hn2 (by decide)) (v := S2 4 tv) (nv_1 (by decide) hn2)) rfl (Nat.le_of_ble_eq_true rfl) ⟨by decide, by decide⟩ (fun _ _ => rfl) (fun K9 h1 h2 => ⟨⟨h2, ⟨h1, trivial⟩⟩, trivial⟩) ?_
                refine L_iload hX hl dL_law_432 rfl ?_
                refine L_icmp_ne hX hl 467 dL_law_434 (by first | omega | exact shrI_r _ _) (by first | omega | exact shrI_r _ _) (by decide) (fun c434 => ?_) (fun c434 => ?_)
                · skip
                  exfalso
                  omega
                · refine L_aload_n hX hl dL_law_437 rfl ?_
                  refine L_iload hX hl dL_law_438 rfl ?_
                  refine L_iconst hX hl dL_law_440 ?_
                  refine L_ask hX hl (u := 1) _ dL_law_441 cwL_node (a_node (n9 := tv) (k := 3) hE (by first | omega | exact shrI_r _ _) (by decide) (nodeOK hn2 (by decide)) (v := S2 6 tv) (nv_3 (by decide) hn2)) rfl (Nat.le_of_ble_eq_true rfl) ⟨by decide, by decide⟩ (fun _ _ => rfl) (fun K9 h1 h2 => ⟨⟨h2, ⟨h1, trivial⟩⟩, trivial⟩) ?_
                  refine L_iload hX hl dL_law_444 rfl ?_
                  refine L_icmp_ne hX hl 467 dL_law_446 (by first | omega | exact shrI_r _ _) (by first | omega | exact shrI_r _ _) (by decide) (fun c446 => ?_) (fun c446 => ?_)
                  · skip
                    exfalso
                    omega
                  · refine L_iload hX hl dL_law_449 rfl ?_
                    refine L_if_eq hX hl 469 dL_law_451 (by first | omega | exact shrI_r _ _) (by decide) (fun c451 => ?_) (fun c451 => ((by omega : False)).elim)
                    refine L_goto hX hl 1381 dL_law_469 (by decide) ?_
                    exact L_to hX hl (L_mo (by omega) (by omega) (k1 S2 _ _ (WFS_mono hW2 (by omega) (by omega)) (by rw [af.2.2.2.2.2.2]; exact h80))) rfl (by omega) rfl
          · refine L_aload_n hX hl dL_law_328 rfl ?_
            refine L_iload hX hl dL_law_329 rfl ?_
            refine L_iload hX hl dL_law_331 rfl ?_
            refine L_iload hX hl dL_law_333 rfl ?_
            refine L_iload hX hl dL_law_335 rfl ?_
            refine L_iconst hX hl dL_law_337 ?_
            refine L_iload hX hl dL_law_338 rfl ?_
            refine L_bipush hX hl dL_law_340 rfl ?_
            refine L_ishr hX hl dL_law_342 ?_
            refine L_bipush hX hl dL_law_343 rfl ?_
            refine L_low hX hl dL_law_345 (by first | omega | exact shrI_r _ _) ⟨by omega, by omega⟩ (Nat.le_of_ble_eq_true rfl) (by decide) ?_
            obtain ⟨lw4, elw4⟩ : ∃ v : Int, low (shrI yy 18) 20 = v := ⟨_, rfl⟩
            have rlw4 : 0 ≤ lw4 ∧ lw4 < 20 := elw4 ▸ low_r (by omega)
            rw [elw4]
            refine L_iadd hX hl dL_law_348 ?_
            refine L_iconst hX hl dL_law_349 ?_
            refine L_iload hX hl dL_law_350 rfl ?_
            refine L_bipush hX hl dL_law_352 rfl ?_
            refine L_ishr hX hl dL_law_354 ?_
            refine L_bipush hX hl dL_law_355 rfl ?_
            refine L_low hX hl dL_law_357 (by first | omega | exact shrI_r _ _) ⟨by omega, by omega⟩ (Nat.le_of_ble_eq_true rfl) (by decide) ?_
            obtain ⟨lw5, elw5⟩ : ∃ v : Int, low (shrI yy 23) 8 = v := ⟨_, rfl⟩
            have rlw5 : 0 ≤ lw5 ∧ lw5 < 8 := elw5 ▸ low_r (by omega)
            rw [elw5]
            refine L_iadd hX hl dL_law_360 ?_
            rcases fBC (S := S) (p := (-1000)) (u := (lw1 - 8)) (v := (lw2 - 4)) (w := (lw3 - 70)) (wd := (1 + lw4)) (hg := (1 + lw5)) (Or.inl rfl) (by unfold plc; omega) (by omega) with ⟨f1, f2⟩ | ⟨f1, f2, f3⟩ | ⟨f1, f2, f3⟩
            · skip
              exact absurd f1 hnb
            · skip
              rw [har] at f2
              refine L_ask hX hl (u := 20) _ dL_law_361 cwL_addBox (AskH_v (no_addBox hE (by omega) (by omega) (by omega) (by omega) (by omega) (by omega) (by rw [f3]; decide)) (v2 := -90200) (by rw [f3]; rfl)) rfl (Nat.le_of_ble_eq_true rfl) ⟨by decide, by decide⟩ (fun _ _ => rfl) (fun K9 h1 h2 => ⟨⟨h2, ⟨h1, trivial⟩⟩, trivial⟩) ?_
              refine L_goto hX hl 379 dL_law_364 (by decide) ?_
              refine L_istore hX hl dL_law_379 (by decide) ?_
              refine L_iload hX hl dL_law_381 rfl ?_
              refine L_iload hX hl dL_law_383 rfl ?_
              refine L_if_eq hX hl 393 dL_law_385 (by decide) (by decide) (fun _ => ?_) (fun h => absurd (by decide) h)
              refine L_iload hX hl dL_law_393 rfl ?_
              refine L_if_eq hX hl 403 dL_law_395 (by first | omega | exact shrI_r _ _) (by decide) (fun c395 => ((by have hfo := hfu.out; omega : False)).elim) (fun c395 => ?_)
              refine L_ldcI hX hl kI_27 dL_law_398 ?_
              refine L_goto hX hl 405 dL_law_400 (by decide) ?_
              refine L_icmp_ne hX hl 467 dL_law_405 (by decide) (by decide) (by decide) (fun h => absurd (by decide) h) (fun _ => ?_)
              refine L_iload hX hl dL_law_408 rfl ?_
              refine L_if_lt hX hl 469 dL_law_410 (by decide) (by decide) (fun _ => ?_) (fun h => absurd (by decide) h)
              refine L_goto hX hl 1381 dL_law_469 (by decide) ?_
              exact L_to hX hl (L_mo (by omega) (by omega) (k1 S _ _ (WFS_mono hW (by omega) (by omega)) h80)) rfl (by omega) rfl
            · skip
              rw [har] at f2
              refine L_do hX hl _ dL_law_361 cwL_addBox (d_addBox hE (by omega) (by omega) (by omega) (by omega) (by omega) (by omega) f3) rfl (Nat.le_of_ble_eq_true rfl) ⟨by decide, by decide⟩ (fun K9 h1 h2 => ⟨⟨h2, ⟨h1, trivial⟩⟩, trivial⟩) (fun tv S2 c2 P2 hφ hW2 => ?_)
              obtain ⟨⟨hv, hS2⟩, -, -⟩ := hφ
              have af := adF S (arS S ((-1000))) ((-1000)) ((lw1 - 8)) ((lw2 - 4)) ((lw3 - 70)) ((1 + lw4)) ((1 + lw5))
              rw [← hS2, ← hv] at af
              have hn2 : hs S2 tv := ⟨by omega, by omega, by omega⟩
              have hb2 : 0 < S2 7 tv := by omega
              refine L_goto hX hl 379 dL_law_364 (by decide) ?_
              refine L_istore hX hl dL_law_379 (by decide) ?_
              refine L_iload hX hl dL_law_381 rfl ?_
              refine L_iload hX hl dL_law_383 rfl ?_
              refine L_if_eq hX hl 393 dL_law_385 (by decide) (by decide) (fun _ => ?_) (fun h => absurd (by decide) h)
              refine L_iload hX hl dL_law_393 rfl ?_
              refine L_if_eq hX hl 403 dL_law_395 (by first | omega | exact shrI_r _ _) (by decide) (fun c395 => ?_) (fun c395 => ((by have hfo := hfu.out; omega : False)).elim)
              refine L_iload hX hl dL_law_403 rfl ?_
              refine L_icmp_ne hX hl 467 dL_law_405 (by first | omega | exact shrI_r _ _) (by first | omega | exact shrI_r _ _) (by decide) (fun c405 => ((by omega : False)).elim) (fun c405 => ?_)
              refine L_iload hX hl dL_law_408 rfl ?_
              refine L_if_lt hX hl 469 dL_law_410 (by first | omega | exact shrI_r _ _) (by decide) (fun c410 => ((by omega : False)).elim) (fun c410 => ?_)
              refine L_aload_n hX hl dL_law_413 rfl ?_
              refine L_iload hX hl dL_law_414 rfl ?_
              refine L_iconst hX hl dL_law_416 ?_
              refine L_ask hX hl (u := 1) _ dL_law_417 cwL_node (a_node (n9 := tv) (k := 0) hE (by first | omega | exact shrI_r _ _) (by decide) (nodeOK hn2 (by decide)) (v := S2 2 tv) (nv_0 (by decide) hn2)) rfl (Nat.le_of_ble_eq_true rfl) ⟨by decide, by decide⟩ (fun _ _ => rfl) (fun K9 h1 h2 => ⟨⟨h2, ⟨h1, trivial⟩⟩, trivial⟩) ?_
              refine L_iload hX hl dL_law_420 rfl ?_
              refine L_icmp_ne hX hl 467 dL_law_422 (by first | omega | exact shrI_r _ _) (by decide) (by decide) (fun c422 => ?_) (fun c422 => ?_)
              · skip
                exfalso
                omega
              · refine L_aload_n hX hl dL_law_425 rfl ?_
                refine L_iload hX hl dL_law_426 rfl ?_
                refine L_iconst hX hl dL_law_428 ?_
                refine L_ask hX hl (u := 1) _ dL_law_429 cwL_node (a_node (n9 := tv) (k := 1) hE (by first | omega | exact shrI_r _ _) (by decide) (nodeOK hn2 (by decide)) (v := S2 4 tv) (nv_1 (by decide) hn2)) rfl (Nat.le_of_ble_eq_true rfl) ⟨by decide, by decide⟩ (fun _ _ => rfl) (fun K9 h1 h2 => ⟨⟨h2, ⟨h1, trivial⟩⟩, trivial⟩) ?_
                refine L_iload hX hl dL_law_432 rfl ?_
                refine L_icmp_ne hX hl 467 dL_law_434 (by first | omega | exact shrI_r _ _) (by first | omega | exact shrI_r _ _) (by decide) (fun c434 => ?_) (fun c434 => ?_)
                · skip
                  exfalso
                  omega
                · refine L_aload_n hX hl dL_law_437 rfl ?_
                  refine L_iload hX hl dL_law_438 rfl ?_
                  refine L_iconst hX hl dL_law_440 ?_
                  refine L_ask hX hl (u := 1) _ dL_law_441 cwL_node (a_node (n9 := tv) (k := 3) hE (by first | omega | exact shrI_r _ _) (by decide) (nodeOK hn2 (by decide)) (v := S2 6 tv) (nv_3 (by decide) hn2)) rfl (Nat.le_of_ble_eq_true rfl) ⟨by decide, by decide⟩ (fun _ _ => rfl) (fun K9 h1 h2 => ⟨⟨h2, ⟨h1, trivial⟩⟩, trivial⟩) ?_
                  refine L_iload hX hl dL_law_444 rfl ?_
                  refine L_icmp_ne hX hl 467 dL_law_446 (by first | omega | exact shrI_r _ _) (by first | omega | exact shrI_r _ _) (by decide) (fun c446 => ?_) (fun c446 => ?_)
                  · skip
                    exfalso
                    omega
                  · refine L_iload hX hl dL_law_449 rfl ?_
                    refine L_if_eq hX hl 469 dL_law_451 (by first | omega | exact shrI_r _ _) (by decide) (fun c451 => ?_) (fun c451 => ?_)
                    · refine L_goto hX hl 1381 dL_law_469 (by decide) ?_
                      exact L_to hX hl (L_mo (by omega) (by omega) (k1 S2 _ _ (WFS_mono hW2 (by omega) (by omega)) (by rw [af.2.2.2.2.2.2]; exact h80))) rfl (by omega) rfl
                    · refine L_aload_n hX hl dL_law_454 rfl ?_
                      refine L_iload hX hl dL_law_455 rfl ?_
                      refine L_bipush hX hl dL_law_457 rfl ?_
                      refine L_ask hX hl (u := 1) _ dL_law_459 cwL_node (a_node (n9 := tv) (k := 11) hE (by first | omega | exact shrI_r _ _) (by decide) (nodeOK hn2 (by decide)) (v := S2 9 tv) (nv_11 (by decide) hn2 hb2)) rfl (Nat.le_of_ble_eq_true rfl) ⟨by decide, by decide⟩ (fun _ _ => rfl) (fun K9 h1 h2 => ⟨⟨h2, ⟨h1, trivial⟩⟩, trivial⟩) ?_
                      refine L_bipush hX hl dL_law_462 rfl ?_
                      refine L_icmp_eq hX hl 469 dL_law_464 (by first | omega | exact shrI_r _ _) (by decide) (by decide) (fun c464 => ?_) (fun c464 => ?_)
                      · refine L_goto hX hl 1381 dL_law_469 (by decide) ?_
                        exact L_to hX hl (L_mo (by omega) (by omega) (k1 S2 _ _ (WFS_mono hW2 (by omega) (by omega)) (by rw [af.2.2.2.2.2.2]; exact h80))) rfl (by omega) rfl
                      · skip
                        exfalso
                        omega
        refine L_iload hX hl dL_law_247 rfl ?_
        refine L_bipush hX hl dL_law_249 rfl ?_
        refine L_icmp_eq hX hl 274 dL_law_251 (by first | omega | exact shrI_r _ _) (by decide) (by decide) (fun c251 => ?_) (fun c251 => ?_)
        · refine L_iconst hX hl dL_law_274 ?_
          refine L_goto hX hl 279 dL_law_275 (by decide) ?_
          exact L_to hX hl (JN279 _ ⟨Hid.mk (by omega), by omega, by omega⟩) rfl (by omega) rfl
        · refine L_iload hX hl dL_law_254 rfl ?_
          refine L_sipush hX hl dL_law_256 rfl ?_
          refine L_icmp_eq hX hl 278 dL_law_259 (by decide) (by decide) (by decide) (fun _ => ?_) (fun h => absurd (by decide) h)
          refine L_iconst hX hl dL_law_278 ?_
          exact L_to hX hl (JN279 _ ⟨Hid.mk (by omega), by omega, by omega⟩) rfl (by omega) rfl
      · skip
        have hbx : bx S u := ⟨hsu, hbu⟩
        obtain ⟨-, g3, -, -, -, g7, -, -, -⟩ := hW.2.2.1 u hsu.1 hsu.2.1
        refine L_iload hX hl dL_law_218 rfl ?_
        refine L_sipush hX hl dL_law_220 rfl ?_
        refine L_icmp_eq hX hl 244 dL_law_223 (by first | omega | exact shrI_r _ _) (by decide) (by decide) (fun c223 => ((by omega : False)).elim) (fun c223 => ?_)
        refine L_aload_n hX hl dL_law_226 rfl ?_
        refine L_iload hX hl dL_law_227 rfl ?_
        refine L_bipush hX hl dL_law_229 rfl ?_
        refine L_ask hX hl (u := 1) _ dL_law_231 cwL_node (a_node (n9 := u) (k := 9) hE (by first | omega | exact shrI_r _ _) (by decide) (nodeOK hsu (by decide)) (v := S 7 u) (nv_9 (by decide) hsu hbu)) rfl (Nat.le_of_ble_eq_true rfl) ⟨by decide, by decide⟩ (fun _ _ => rfl) (fun K9 h1 h2 => ⟨⟨h2, ⟨h1, trivial⟩⟩, trivial⟩) ?_
        refine L_sipush hX hl dL_law_234 rfl ?_
        refine L_icmp_eq hX hl 244 dL_law_237 (by first | omega | exact shrI_r _ _) (by decide) (by decide) (fun c237 => ((by omega : False)).elim) (fun c237 => ?_)
        refine L_iconst hX hl dL_law_240 ?_
        refine L_goto hX hl 245 dL_law_241 (by decide) ?_
        refine L_istore hX hl dL_law_245 (by decide) ?_
        have JN279 : ∀ (fu : Int), (Hid (fu = 1 ∧ (S 1 0 = 20 ∨ 5 ≤ S 3 u) ∨ fu = 0 ∧ ¬ (S 1 0 = 20 ∨ 5 ≤ S 3 u)) ∧ 0 ≤ fu ∧ fu ≤ 1) → LJ E X (x, T, S, c, P, c0, s0) (q + 100) 279 [(0, .ref (1000000 + 50)), (1, .ref x), (3, vI n), (4, vI xx), (5, vI yy), (6, vI (S 1 0)), (9, vI (u)), (10, vI bx9), (11, vI 1)] [vI fu] := by
          intro fu  hj279
          obtain ⟨hfu, hfu0, hfu1⟩ := hj279
          refine L_istore hX hl dL_law_279 (by decide) ?_
          refine L_iload hX hl dL_law_281 rfl ?_
          refine L_bipush hX hl dL_law_283 rfl ?_
          refine L_low hX hl dL_law_285 (by first | omega | exact shrI_r _ _) ⟨by omega, by omega⟩ (Nat.le_of_ble_eq_true rfl) (by decide) ?_
          obtain ⟨lw6, elw6⟩ : ∃ v : Int, low yy 50 = v := ⟨_, rfl⟩
          have rlw6 : 0 ≤ lw6 ∧ lw6 < 50 := elw6 ▸ low_r (by omega)
          rw [elw6]
          refine L_bipush hX hl dL_law_288 rfl ?_
          refine L_isub hX hl dL_law_290 ?_
          refine L_istore hX hl dL_law_291 (by decide) ?_
          refine L_iload hX hl dL_law_293 rfl ?_
          refine L_bipush hX hl dL_law_295 rfl ?_
          refine L_ishr hX hl dL_law_297 ?_
          refine L_bipush hX hl dL_law_298 rfl ?_
          refine L_low hX hl dL_law_300 (by first | omega | exact shrI_r _ _) ⟨by omega, by omega⟩ (Nat.le_of_ble_eq_true rfl) (by decide) ?_
          obtain ⟨lw7, elw7⟩ : ∃ v : Int, low (shrI yy 6) 16 = v := ⟨_, rfl⟩
          have rlw7 : 0 ≤ lw7 ∧ lw7 < 16 := elw7 ▸ low_r (by omega)
          rw [elw7]
          refine L_iconst hX hl dL_law_303 ?_
          refine L_isub hX hl dL_law_304 ?_
          refine L_istore hX hl dL_law_305 (by decide) ?_
          refine L_iload hX hl dL_law_307 rfl ?_
          refine L_bipush hX hl dL_law_309 rfl ?_
          refine L_ishr hX hl dL_law_311 ?_
          refine L_sipush hX hl dL_law_312 rfl ?_
          refine L_low hX hl dL_law_315 (by first | omega | exact shrI_r _ _) ⟨by omega, by omega⟩ (Nat.le_of_ble_eq_true rfl) (by decide) ?_
          obtain ⟨lw8, elw8⟩ : ∃ v : Int, low (shrI yy 10) 141 = v := ⟨_, rfl⟩
          have rlw8 : 0 ≤ lw8 ∧ lw8 < 141 := elw8 ▸ low_r (by omega)
          rw [elw8]
          refine L_bipush hX hl dL_law_318 rfl ?_
          refine L_isub hX hl dL_law_320 ?_
          refine L_istore hX hl dL_law_321 (by decide) ?_
          refine L_iload hX hl dL_law_323 rfl ?_
          refine L_if_eq hX hl 367 dL_law_325 (by first | omega | exact shrI_r _ _) (by decide) (fun c325 => ?_) (fun c325 => ?_)
          · refine L_aload_n hX hl dL_law_367 rfl ?_
            refine L_iload hX hl dL_law_368 rfl ?_
            refine L_iload hX hl dL_law_370 rfl ?_
            refine L_iload hX hl dL_law_372 rfl ?_
            refine L_iload hX hl dL_law_374 rfl ?_
            rcases fGC (S := S) (p := u) (u := (lw6 - 8)) (v := (lw7 - 4)) (w := (lw8 - 70)) (Or.inr hsu) (by unfold plc; omega) with ⟨f1, f2⟩ | ⟨f1, f2, f3⟩ | ⟨f1, f2, f3⟩
            · skip
              refine L_ask hX hl (u := 20) _ dL_law_376 cwL_addGroup (AskH_v (no_addGroup hE (by omega) (by omega) (by omega) (by omega) (by rw [f2]; decide)) (v2 := -90100) (by rw [f2]; rfl)) rfl (Nat.le_of_ble_eq_true rfl) ⟨by decide, by decide⟩ (fun _ _ => rfl) (fun K9 h1 h2 => ⟨⟨h2, ⟨h1, trivial⟩⟩, trivial⟩) ?_
              refine L_istore hX hl dL_law_379 (by decide) ?_
              refine L_iload hX hl dL_law_381 rfl ?_
              refine L_iload hX hl dL_law_383 rfl ?_
              refine L_if_eq hX hl 393 dL_law_385 (by decide) (by decide) (fun h => absurd h (by decide)) (fun _ => ?_)
              refine L_ldcI hX hl kI_17 dL_law_388 ?_
              refine L_goto hX hl 405 dL_law_390 (by decide) ?_
              refine L_icmp_ne hX hl 467 dL_law_405 (by decide) (by decide) (by decide) (fun h => absurd (by decide) h) (fun _ => ?_)
              refine L_iload hX hl dL_law_408 rfl ?_
              refine L_if_lt hX hl 469 dL_law_410 (by decide) (by decide) (fun _ => ?_) (fun h => absurd (by decide) h)
              refine L_goto hX hl 1381 dL_law_469 (by decide) ?_
              exact L_to hX hl (L_mo (by omega) (by omega) (k1 S _ _ (WFS_mono hW (by omega) (by omega)) h80)) rfl (by omega) rfl
            · skip
              exact absurd hbx f1
            · skip
              exact absurd hbx f1
          · refine L_aload_n hX hl dL_law_328 rfl ?_
            refine L_iload hX hl dL_law_329 rfl ?_
            refine L_iload hX hl dL_law_331 rfl ?_
            refine L_iload hX hl dL_law_333 rfl ?_
            refine L_iload hX hl dL_law_335 rfl ?_
            refine L_iconst hX hl dL_law_337 ?_
            refine L_iload hX hl dL_law_338 rfl ?_
            refine L_bipush hX hl dL_law_340 rfl ?_
            refine L_ishr hX hl dL_law_342 ?_
            refine L_bipush hX hl dL_law_343 rfl ?_
            refine L_low hX hl dL_law_345 (by first | omega | exact shrI_r _ _) ⟨by omega, by omega⟩ (Nat.le_of_ble_eq_true rfl) (by decide) ?_
            obtain ⟨lw9, elw9⟩ : ∃ v : Int, low (shrI yy 18) 20 = v := ⟨_, rfl⟩
            have rlw9 : 0 ≤ lw9 ∧ lw9 < 20 := elw9 ▸ low_r (by omega)
            rw [elw9]
            refine L_iadd hX hl dL_law_348 ?_
            refine L_iconst hX hl dL_law_349 ?_
            refine L_iload hX hl dL_law_350 rfl ?_
            refine L_bipush hX hl dL_law_352 rfl ?_
            refine L_ishr hX hl dL_law_354 ?_
            refine L_bipush hX hl dL_law_355 rfl ?_
            refine L_low hX hl dL_law_357 (by first | omega | exact shrI_r _ _) ⟨by omega, by omega⟩ (Nat.le_of_ble_eq_true rfl) (by decide) ?_
            obtain ⟨lw10, elw10⟩ : ∃ v : Int, low (shrI yy 23) 8 = v := ⟨_, rfl⟩
            have rlw10 : 0 ≤ lw10 ∧ lw10 < 8 := elw10 ▸ low_r (by omega)
            rw [elw10]
            refine L_iadd hX hl dL_law_360 ?_
            rcases fBC (S := S) (p := u) (u := (lw6 - 8)) (v := (lw7 - 4)) (w := (lw8 - 70)) (wd := (1 + lw9)) (hg := (1 + lw10)) (Or.inr hsu) (by unfold plc; omega) (by omega) with ⟨f1, f2⟩ | ⟨f1, f2, f3⟩ | ⟨f1, f2, f3⟩
            · skip
              refine L_ask hX hl (u := 20) _ dL_law_361 cwL_addBox (AskH_v (no_addBox hE (by omega) (by omega) (by omega) (by omega) (by omega) (by omega) (by rw [f2]; decide)) (v2 := -90100) (by rw [f2]; rfl)) rfl (Nat.le_of_ble_eq_true rfl) ⟨by decide, by decide⟩ (fun _ _ => rfl) (fun K9 h1 h2 => ⟨⟨h2, ⟨h1, trivial⟩⟩, trivial⟩) ?_
              refine L_goto hX hl 379 dL_law_364 (by decide) ?_
              refine L_istore hX hl dL_law_379 (by decide) ?_
              refine L_iload hX hl dL_law_381 rfl ?_
              refine L_iload hX hl dL_law_383 rfl ?_
              refine L_if_eq hX hl 393 dL_law_385 (by decide) (by decide) (fun h => absurd h (by decide)) (fun _ => ?_)
              refine L_ldcI hX hl kI_17 dL_law_388 ?_
              refine L_goto hX hl 405 dL_law_390 (by decide) ?_
              refine L_icmp_ne hX hl 467 dL_law_405 (by decide) (by decide) (by decide) (fun h => absurd (by decide) h) (fun _ => ?_)
              refine L_iload hX hl dL_law_408 rfl ?_
              refine L_if_lt hX hl 469 dL_law_410 (by decide) (by decide) (fun _ => ?_) (fun h => absurd (by decide) h)
              refine L_goto hX hl 1381 dL_law_469 (by decide) ?_
              exact L_to hX hl (L_mo (by omega) (by omega) (k1 S _ _ (WFS_mono hW (by omega) (by omega)) h80)) rfl (by omega) rfl
            · skip
              exact absurd hbx f1
            · skip
              exact absurd hbx f1
        refine L_iload hX hl dL_law_247 rfl ?_
        refine L_bipush hX hl dL_law_249 rfl ?_
        refine L_icmp_eq hX hl 274 dL_law_251 (by first | omega | exact shrI_r _ _) (by decide) (by decide) (fun c251 => ?_) (fun c251 => ?_)
        · refine L_iconst hX hl dL_law_274 ?_
          refine L_goto hX hl 279 dL_law_275 (by decide) ?_
          exact L_to hX hl (JN279 _ ⟨Hid.mk (by omega), by omega, by omega⟩) rfl (by omega) rfl
        · refine L_iload hX hl dL_law_254 rfl ?_
          refine L_sipush hX hl dL_law_256 rfl ?_
          refine L_icmp_eq hX hl 278 dL_law_259 (by first | omega | exact shrI_r _ _) (by decide) (by decide) (fun c259 => ((by omega : False)).elim) (fun c259 => ?_)
          refine L_aload_n hX hl dL_law_262 rfl ?_
          refine L_iload hX hl dL_law_263 rfl ?_
          refine L_bipush hX hl dL_law_265 rfl ?_
          refine L_ask hX hl (u := 1) _ dL_law_267 cwL_node (a_node (n9 := u) (k := 7) hE (by first | omega | exact shrI_r _ _) (by decide) (nodeOK hsu (by decide)) (v := S 3 u) (nv_7 (by decide) hsu)) rfl (Nat.le_of_ble_eq_true rfl) ⟨by decide, by decide⟩ (fun _ _ => rfl) (fun K9 h1 h2 => ⟨⟨h2, ⟨h1, trivial⟩⟩, trivial⟩) ?_
          refine L_iconst hX hl dL_law_270 ?_
          refine L_icmp_lt hX hl 278 dL_law_271 (by first | omega | exact shrI_r _ _) (by decide) (by decide) (fun c271 => ?_) (fun c271 => ?_)
          · refine L_iconst hX hl dL_law_278 ?_
            exact L_to hX hl (JN279 _ ⟨Hid.mk (by omega), by omega, by omega⟩) rfl (by omega) rfl
          · refine L_iconst hX hl dL_law_274 ?_
            refine L_goto hX hl 279 dL_law_275 (by decide) ?_
            exact L_to hX hl (JN279 _ ⟨Hid.mk (by omega), by omega, by omega⟩) rfl (by omega) rfl
      · skip
        have hnb : ¬ bx S u := fun z => hbu z.2
        have har : arS S u = S 3 u + 1 := if_pos hsu
        obtain ⟨-, g3, -, -, -, g7, -, -, -⟩ := hW.2.2.1 u hsu.1 hsu.2.1
        refine L_iload hX hl dL_law_218 rfl ?_
        refine L_sipush hX hl dL_law_220 rfl ?_
        refine L_icmp_eq hX hl 244 dL_law_223 (by first | omega | exact shrI_r _ _) (by decide) (by decide) (fun c223 => ((by omega : False)).elim) (fun c223 => ?_)
        refine L_aload_n hX hl dL_law_226 rfl ?_
        refine L_iload hX hl dL_law_227 rfl ?_
        refine L_bipush hX hl dL_law_229 rfl ?_
        refine L_ask hX hl (u := 1) _ dL_law_231 cwL_node (a_node (n9 := u) (k := 9) hE (by first | omega | exact shrI_r _ _) (by decide) (nodeOK hsu (by decide)) (v := (-1000)) (nv_g hbu (by decide))) rfl (Nat.le_of_ble_eq_true rfl) ⟨by decide, by decide⟩ (fun _ _ => rfl) (fun K9 h1 h2 => ⟨⟨h2, ⟨h1, trivial⟩⟩, trivial⟩) ?_
        refine L_sipush hX hl dL_law_234 rfl ?_
        refine L_icmp_eq hX hl 244 dL_law_237 (by decide) (by decide) (by decide) (fun _ => ?_) (fun h => absurd (by decide) h)
        refine L_iconst hX hl dL_law_244 ?_
        refine L_istore hX hl dL_law_245 (by decide) ?_
        have JN279 : ∀ (fu : Int), (Hid (fu = 1 ∧ (S 1 0 = 20 ∨ 5 ≤ S 3 u) ∨ fu = 0 ∧ ¬ (S 1 0 = 20 ∨ 5 ≤ S 3 u)) ∧ 0 ≤ fu ∧ fu ≤ 1) → LJ E X (x, T, S, c, P, c0, s0) (q + 100) 279 [(0, .ref (1000000 + 50)), (1, .ref x), (3, vI n), (4, vI xx), (5, vI yy), (6, vI (S 1 0)), (9, vI (u)), (10, vI bx9), (11, vI 0)] [vI fu] := by
          intro fu  hj279
          obtain ⟨hfu, hfu0, hfu1⟩ := hj279
          refine L_istore hX hl dL_law_279 (by decide) ?_
          refine L_iload hX hl dL_law_281 rfl ?_
          refine L_bipush hX hl dL_law_283 rfl ?_
          refine L_low hX hl dL_law_285 (by first | omega | exact shrI_r _ _) ⟨by omega, by omega⟩ (Nat.le_of_ble_eq_true rfl) (by decide) ?_
          obtain ⟨lw11, elw11⟩ : ∃ v : Int, low yy 50 = v := ⟨_, rfl⟩
          have rlw11 : 0 ≤ lw11 ∧ lw11 < 50 := elw11 ▸ low_r (by omega)
          rw [elw11]
          refine L_bipush hX hl dL_law_288 rfl ?_
          refine L_isub hX hl dL_law_290 ?_
          refine L_istore hX hl dL_law_291 (by decide) ?_
          refine L_iload hX hl dL_law_293 rfl ?_
          refine L_bipush hX hl dL_law_295 rfl ?_
          refine L_ishr hX hl dL_law_297 ?_
          refine L_bipush hX hl dL_law_298 rfl ?_
          refine L_low hX hl dL_law_300 (by first | omega | exact shrI_r _ _) ⟨by omega, by omega⟩ (Nat.le_of_ble_eq_true rfl) (by decide) ?_
          obtain ⟨lw12, elw12⟩ : ∃ v : Int, low (shrI yy 6) 16 = v := ⟨_, rfl⟩
          have rlw12 : 0 ≤ lw12 ∧ lw12 < 16 := elw12 ▸ low_r (by omega)
          rw [elw12]
          refine L_iconst hX hl dL_law_303 ?_
          refine L_isub hX hl dL_law_304 ?_
          refine L_istore hX hl dL_law_305 (by decide) ?_
          refine L_iload hX hl dL_law_307 rfl ?_
          refine L_bipush hX hl dL_law_309 rfl ?_
          refine L_ishr hX hl dL_law_311 ?_
          refine L_sipush hX hl dL_law_312 rfl ?_
          refine L_low hX hl dL_law_315 (by first | omega | exact shrI_r _ _) ⟨by omega, by omega⟩ (Nat.le_of_ble_eq_true rfl) (by decide) ?_
          obtain ⟨lw13, elw13⟩ : ∃ v : Int, low (shrI yy 10) 141 = v := ⟨_, rfl⟩
          have rlw13 : 0 ≤ lw13 ∧ lw13 < 141 := elw13 ▸ low_r (by omega)
          rw [elw13]
          refine L_bipush hX hl dL_law_318 rfl ?_
          refine L_isub hX hl dL_law_320 ?_
          refine L_istore hX hl dL_law_321 (by decide) ?_
          refine L_iload hX hl dL_law_323 rfl ?_
          refine L_if_eq hX hl 367 dL_law_325 (by first | omega | exact shrI_r _ _) (by decide) (fun c325 => ?_) (fun c325 => ?_)
          · refine L_aload_n hX hl dL_law_367 rfl ?_
            refine L_iload hX hl dL_law_368 rfl ?_
            refine L_iload hX hl dL_law_370 rfl ?_
            refine L_iload hX hl dL_law_372 rfl ?_
            refine L_iload hX hl dL_law_374 rfl ?_
            rcases fGC (S := S) (p := u) (u := (lw11 - 8)) (v := (lw12 - 4)) (w := (lw13 - 70)) (Or.inr hsu) (by unfold plc; omega) with ⟨f1, f2⟩ | ⟨f1, f2, f3⟩ | ⟨f1, f2, f3⟩
            · skip
              exact absurd f1 hnb
            · skip
              rw [har] at f2
              refine L_ask hX hl (u := 20) _ dL_law_376 cwL_addGroup (AskH_v (no_addGroup hE (by omega) (by omega) (by omega) (by omega) (by rw [f3]; decide)) (v2 := -90200) (by rw [f3]; rfl)) rfl (Nat.le_of_ble_eq_true rfl) ⟨by decide, by decide⟩ (fun _ _ => rfl) (fun K9 h1 h2 => ⟨⟨h2, ⟨h1, trivial⟩⟩, trivial⟩) ?_
              refine L_istore hX hl dL_law_379 (by decide) ?_
              refine L_iload hX hl dL_law_381 rfl ?_
              refine L_iload hX hl dL_law_383 rfl ?_
              refine L_if_eq hX hl 393 dL_law_385 (by decide) (by decide) (fun _ => ?_) (fun h => absurd (by decide) h)
              refine L_iload hX hl dL_law_393 rfl ?_
              refine L_if_eq hX hl 403 dL_law_395 (by first | omega | exact shrI_r _ _) (by decide) (fun c395 => ((by have hfo := hfu.out; omega : False)).elim) (fun c395 => ?_)
              refine L_ldcI hX hl kI_27 dL_law_398 ?_
              refine L_goto hX hl 405 dL_law_400 (by decide) ?_
              refine L_icmp_ne hX hl 467 dL_law_405 (by decide) (by decide) (by decide) (fun h => absurd (by decide) h) (fun _ => ?_)
              refine L_iload hX hl dL_law_408 rfl ?_
              refine L_if_lt hX hl 469 dL_law_410 (by decide) (by decide) (fun _ => ?_) (fun h => absurd (by decide) h)
              refine L_goto hX hl 1381 dL_law_469 (by decide) ?_
              exact L_to hX hl (L_mo (by omega) (by omega) (k1 S _ _ (WFS_mono hW (by omega) (by omega)) h80)) rfl (by omega) rfl
            · skip
              rw [har] at f2
              refine L_do hX hl _ dL_law_376 cwL_addGroup (d_addGroup hE (by omega) (by omega) (by omega) (by omega) f3) rfl (Nat.le_of_ble_eq_true rfl) ⟨by decide, by decide⟩ (fun K9 h1 h2 => ⟨⟨h2, ⟨h1, trivial⟩⟩, trivial⟩) (fun tv S2 c2 P2 hφ hW2 => ?_)
              obtain ⟨⟨hv, hS2⟩, -, -⟩ := hφ
              have af := adF S (arS S (u)) (u) ((lw11 - 8)) ((lw12 - 4)) ((lw13 - 70)) 0 0
              rw [← hS2, ← hv] at af
              have hn2 : hs S2 tv := ⟨by omega, by omega, by omega⟩
              refine L_istore hX hl dL_law_379 (by decide) ?_
              refine L_iload hX hl dL_law_381 rfl ?_
              refine L_iload hX hl dL_law_383 rfl ?_
              refine L_if_eq hX hl 393 dL_law_385 (by decide) (by decide) (fun _ => ?_) (fun h => absurd (by decide) h)
              refine L_iload hX hl dL_law_393 rfl ?_
              refine L_if_eq hX hl 403 dL_law_395 (by first | omega | exact shrI_r _ _) (by decide) (fun c395 => ?_) (fun c395 => ((by have hfo := hfu.out; omega : False)).elim)
              refine L_iload hX hl dL_law_403 rfl ?_
              refine L_icmp_ne hX hl 467 dL_law_405 (by first | omega | exact shrI_r _ _) (by first | omega | exact shrI_r _ _) (by decide) (fun c405 => ((by omega : False)).elim) (fun c405 => ?_)
              refine L_iload hX hl dL_law_408 rfl ?_
              refine L_if_lt hX hl 469 dL_law_410 (by first | omega | exact shrI_r _ _) (by decide) (fun c410 => ((by omega : False)).elim) (fun c410 => ?_)
              refine L_aload_n hX hl dL_law_413 rfl ?_
              refine L_iload hX hl dL_law_414 rfl ?_
              refine L_iconst hX hl dL_law_416 ?_
              refine L_ask hX hl (u := 1) _ dL_law_417 cwL_node (a_node (n9 := tv) (k := 0) hE (by first | omega | exact shrI_r _ _) (by decide) (nodeOK hn2 (by decide)) (v := S2 2 tv) (nv_0 (by decide) hn2)) rfl (Nat.le_of_ble_eq_true rfl) ⟨by decide, by decide⟩ (fun _ _ => rfl) (fun K9 h1 h2 => ⟨⟨h2, ⟨h1, trivial⟩⟩, trivial⟩) ?_
              refine L_iload hX hl dL_law_420 rfl ?_
              refine L_icmp_ne hX hl 467 dL_law_422 (by first | omega | exact shrI_r _ _) (by first | omega | exact shrI_r _ _) (by decide) (fun c422 => ?_) (fun c422 => ?_)
              · skip
                exfalso
                omega
              · refine L_aload_n hX hl dL_law_425 rfl ?_
                refine L_iload hX hl dL_law_426 rfl ?_
                refine L_iconst hX hl dL_law_428 ?_
                refine L_ask hX hl (u := 1) _ dL_law_429 cwL_node (a_node (n9 := tv) (k := 1) hE (by first | omega | exact shrI_r _ _) (by decide) (nodeOK hn2 (by decide)) (v := S2 4 tv) (nv_1 (by decide) hn2)) rfl (Nat.le_of_ble_eq_true rfl) ⟨by decide, by decide⟩ (fun _ _ => rfl) (fun K9 h1 h2 => ⟨⟨h2, ⟨h1, trivial⟩⟩, trivial⟩) ?_
                refine L_iload hX hl dL_law_432 rfl ?_
                refine L_icmp_ne hX hl 467 dL_law_434 (by first | omega | exact shrI_r _ _) (by first | omega | exact shrI_r _ _) (by decide) (fun c434 => ?_) (fun c434 => ?_)
                · skip
                  exfalso
                  omega
                · refine L_aload_n hX hl dL_law_437 rfl ?_
                  refine L_iload hX hl dL_law_438 rfl ?_
                  refine L_iconst hX hl dL_law_440 ?_
                  refine L_ask hX hl (u := 1) _ dL_law_441 cwL_node (a_node (n9 := tv) (k := 3) hE (by first | omega | exact shrI_r _ _) (by decide) (nodeOK hn2 (by decide)) (v := S2 6 tv) (nv_3 (by decide) hn2)) rfl (Nat.le_of_ble_eq_true rfl) ⟨by decide, by decide⟩ (fun _ _ => rfl) (fun K9 h1 h2 => ⟨⟨h2, ⟨h1, trivial⟩⟩, trivial⟩) ?_
                  refine L_iload hX hl dL_law_444 rfl ?_
                  refine L_icmp_ne hX hl 467 dL_law_446 (by first | omega | exact shrI_r _ _) (by first | omega | exact shrI_r _ _) (by decide) (fun c446 => ?_) (fun c446 => ?_)
                  · skip
                    exfalso
                    omega
                  · refine L_iload hX hl dL_law_449 rfl ?_
                    refine L_if_eq hX hl 469 dL_law_451 (by first | omega | exact shrI_r _ _) (by decide) (fun c451 => ?_) (fun c451 => ((by omega : False)).elim)
                    refine L_goto hX hl 1381 dL_law_469 (by decide) ?_
                    exact L_to hX hl (L_mo (by omega) (by omega) (k1 S2 _ _ (WFS_mono hW2 (by omega) (by omega)) (by rw [af.2.2.2.2.2.2]; exact h80))) rfl (by omega) rfl
          · refine L_aload_n hX hl dL_law_328 rfl ?_
            refine L_iload hX hl dL_law_329 rfl ?_
            refine L_iload hX hl dL_law_331 rfl ?_
            refine L_iload hX hl dL_law_333 rfl ?_
            refine L_iload hX hl dL_law_335 rfl ?_
            refine L_iconst hX hl dL_law_337 ?_
            refine L_iload hX hl dL_law_338 rfl ?_
            refine L_bipush hX hl dL_law_340 rfl ?_
            refine L_ishr hX hl dL_law_342 ?_
            refine L_bipush hX hl dL_law_343 rfl ?_
            refine L_low hX hl dL_law_345 (by first | omega | exact shrI_r _ _) ⟨by omega, by omega⟩ (Nat.le_of_ble_eq_true rfl) (by decide) ?_
            obtain ⟨lw14, elw14⟩ : ∃ v : Int, low (shrI yy 18) 20 = v := ⟨_, rfl⟩
            have rlw14 : 0 ≤ lw14 ∧ lw14 < 20 := elw14 ▸ low_r (by omega)
            rw [elw14]
            refine L_iadd hX hl dL_law_348 ?_
            refine L_iconst hX hl dL_law_349 ?_
            refine L_iload hX hl dL_law_350 rfl ?_
            refine L_bipush hX hl dL_law_352 rfl ?_
            refine L_ishr hX hl dL_law_354 ?_
            refine L_bipush hX hl dL_law_355 rfl ?_
            refine L_low hX hl dL_law_357 (by first | omega | exact shrI_r _ _) ⟨by omega, by omega⟩ (Nat.le_of_ble_eq_true rfl) (by decide) ?_
            obtain ⟨lw15, elw15⟩ : ∃ v : Int, low (shrI yy 23) 8 = v := ⟨_, rfl⟩
            have rlw15 : 0 ≤ lw15 ∧ lw15 < 8 := elw15 ▸ low_r (by omega)
            rw [elw15]
            refine L_iadd hX hl dL_law_360 ?_
            rcases fBC (S := S) (p := u) (u := (lw11 - 8)) (v := (lw12 - 4)) (w := (lw13 - 70)) (wd := (1 + lw14)) (hg := (1 + lw15)) (Or.inr hsu) (by unfold plc; omega) (by omega) with ⟨f1, f2⟩ | ⟨f1, f2, f3⟩ | ⟨f1, f2, f3⟩
            · skip
              exact absurd f1 hnb
            · skip
              rw [har] at f2
              refine L_ask hX hl (u := 20) _ dL_law_361 cwL_addBox (AskH_v (no_addBox hE (by omega) (by omega) (by omega) (by omega) (by omega) (by omega) (by rw [f3]; decide)) (v2 := -90200) (by rw [f3]; rfl)) rfl (Nat.le_of_ble_eq_true rfl) ⟨by decide, by decide⟩ (fun _ _ => rfl) (fun K9 h1 h2 => ⟨⟨h2, ⟨h1, trivial⟩⟩, trivial⟩) ?_
              refine L_goto hX hl 379 dL_law_364 (by decide) ?_
              refine L_istore hX hl dL_law_379 (by decide) ?_
              refine L_iload hX hl dL_law_381 rfl ?_
              refine L_iload hX hl dL_law_383 rfl ?_
              refine L_if_eq hX hl 393 dL_law_385 (by decide) (by decide) (fun _ => ?_) (fun h => absurd (by decide) h)
              refine L_iload hX hl dL_law_393 rfl ?_
              refine L_if_eq hX hl 403 dL_law_395 (by first | omega | exact shrI_r _ _) (by decide) (fun c395 => ((by have hfo := hfu.out; omega : False)).elim) (fun c395 => ?_)
              refine L_ldcI hX hl kI_27 dL_law_398 ?_
              refine L_goto hX hl 405 dL_law_400 (by decide) ?_
              refine L_icmp_ne hX hl 467 dL_law_405 (by decide) (by decide) (by decide) (fun h => absurd (by decide) h) (fun _ => ?_)
              refine L_iload hX hl dL_law_408 rfl ?_
              refine L_if_lt hX hl 469 dL_law_410 (by decide) (by decide) (fun _ => ?_) (fun h => absurd (by decide) h)
              refine L_goto hX hl 1381 dL_law_469 (by decide) ?_
              exact L_to hX hl (L_mo (by omega) (by omega) (k1 S _ _ (WFS_mono hW (by omega) (by omega)) h80)) rfl (by omega) rfl
            · skip
              rw [har] at f2
              refine L_do hX hl _ dL_law_361 cwL_addBox (d_addBox hE (by omega) (by omega) (by omega) (by omega) (by omega) (by omega) f3) rfl (Nat.le_of_ble_eq_true rfl) ⟨by decide, by decide⟩ (fun K9 h1 h2 => ⟨⟨h2, ⟨h1, trivial⟩⟩, trivial⟩) (fun tv S2 c2 P2 hφ hW2 => ?_)
              obtain ⟨⟨hv, hS2⟩, -, -⟩ := hφ
              have af := adF S (arS S (u)) (u) ((lw11 - 8)) ((lw12 - 4)) ((lw13 - 70)) ((1 + lw14)) ((1 + lw15))
              rw [← hS2, ← hv] at af
              have hn2 : hs S2 tv := ⟨by omega, by omega, by omega⟩
              have hb2 : 0 < S2 7 tv := by omega
              refine L_goto hX hl 379 dL_law_364 (by decide) ?_
              refine L_istore hX hl dL_law_379 (by decide) ?_
              refine L_iload hX hl dL_law_381 rfl ?_
              refine L_iload hX hl dL_law_383 rfl ?_
              refine L_if_eq hX hl 393 dL_law_385 (by decide) (by decide) (fun _ => ?_) (fun h => absurd (by decide) h)
              refine L_iload hX hl dL_law_393 rfl ?_
              refine L_if_eq hX hl 403 dL_law_395 (by first | omega | exact shrI_r _ _) (by decide) (fun c395 => ?_) (fun c395 => ((by have hfo := hfu.out; omega : False)).elim)
              refine L_iload hX hl dL_law_403 rfl ?_
              refine L_icmp_ne hX hl 467 dL_law_405 (by first | omega | exact shrI_r _ _) (by first | omega | exact shrI_r _ _) (by decide) (fun c405 => ((by omega : False)).elim) (fun c405 => ?_)
              refine L_iload hX hl dL_law_408 rfl ?_
              refine L_if_lt hX hl 469 dL_law_410 (by first | omega | exact shrI_r _ _) (by decide) (fun c410 => ((by omega : False)).elim) (fun c410 => ?_)
              refine L_aload_n hX hl dL_law_413 rfl ?_
              refine L_iload hX hl dL_law_414 rfl ?_
              refine L_iconst hX hl dL_law_416 ?_
              refine L_ask hX hl (u := 1) _ dL_law_417 cwL_node (a_node (n9 := tv) (k := 0) hE (by first | omega | exact shrI_r _ _) (by decide) (nodeOK hn2 (by decide)) (v := S2 2 tv) (nv_0 (by decide) hn2)) rfl (Nat.le_of_ble_eq_true rfl) ⟨by decide, by decide⟩ (fun _ _ => rfl) (fun K9 h1 h2 => ⟨⟨h2, ⟨h1, trivial⟩⟩, trivial⟩) ?_
              refine L_iload hX hl dL_law_420 rfl ?_
              refine L_icmp_ne hX hl 467 dL_law_422 (by first | omega | exact shrI_r _ _) (by first | omega | exact shrI_r _ _) (by decide) (fun c422 => ?_) (fun c422 => ?_)
              · skip
                exfalso
                omega
              · refine L_aload_n hX hl dL_law_425 rfl ?_
                refine L_iload hX hl dL_law_426 rfl ?_
                refine L_iconst hX hl dL_law_428 ?_
                refine L_ask hX hl (u := 1) _ dL_law_429 cwL_node (a_node (n9 := tv) (k := 1) hE (by first | omega | exact shrI_r _ _) (by decide) (nodeOK hn2 (by decide)) (v := S2 4 tv) (nv_1 (by decide) hn2)) rfl (Nat.le_of_ble_eq_true rfl) ⟨by decide, by decide⟩ (fun _ _ => rfl) (fun K9 h1 h2 => ⟨⟨h2, ⟨h1, trivial⟩⟩, trivial⟩) ?_
                refine L_iload hX hl dL_law_432 rfl ?_
                refine L_icmp_ne hX hl 467 dL_law_434 (by first | omega | exact shrI_r _ _) (by first | omega | exact shrI_r _ _) (by decide) (fun c434 => ?_) (fun c434 => ?_)
                · skip
                  exfalso
                  omega
                · refine L_aload_n hX hl dL_law_437 rfl ?_
                  refine L_iload hX hl dL_law_438 rfl ?_
                  refine L_iconst hX hl dL_law_440 ?_
                  refine L_ask hX hl (u := 1) _ dL_law_441 cwL_node (a_node (n9 := tv) (k := 3) hE (by first | omega | exact shrI_r _ _) (by decide) (nodeOK hn2 (by decide)) (v := S2 6 tv) (nv_3 (by decide) hn2)) rfl (Nat.le_of_ble_eq_true rfl) ⟨by decide, by decide⟩ (fun _ _ => rfl) (fun K9 h1 h2 => ⟨⟨h2, ⟨h1, trivial⟩⟩, trivial⟩) ?_
                  refine L_iload hX hl dL_law_444 rfl ?_
                  refine L_icmp_ne hX hl 467 dL_law_446 (by first | omega | exact shrI_r _ _) (by first | omega | exact shrI_r _ _) (by decide) (fun c446 => ?_) (fun c446 => ?_)
                  · skip
                    exfalso
                    omega
                  · refine L_iload hX hl dL_law_449 rfl ?_
                    refine L_if_eq hX hl 469 dL_law_451 (by first | omega | exact shrI_r _ _) (by decide) (fun c451 => ?_) (fun c451 => ?_)
                    · refine L_goto hX hl 1381 dL_law_469 (by decide) ?_
                      exact L_to hX hl (L_mo (by omega) (by omega) (k1 S2 _ _ (WFS_mono hW2 (by omega) (by omega)) (by rw [af.2.2.2.2.2.2]; exact h80))) rfl (by omega) rfl
                    · refine L_aload_n hX hl dL_law_454 rfl ?_
                      refine L_iload hX hl dL_law_455 rfl ?_
                      refine L_bipush hX hl dL_law_457 rfl ?_
                      refine L_ask hX hl (u := 1) _ dL_law_459 cwL_node (a_node (n9 := tv) (k := 11) hE (by first | omega | exact shrI_r _ _) (by decide) (nodeOK hn2 (by decide)) (v := S2 9 tv) (nv_11 (by decide) hn2 hb2)) rfl (Nat.le_of_ble_eq_true rfl) ⟨by decide, by decide⟩ (fun _ _ => rfl) (fun K9 h1 h2 => ⟨⟨h2, ⟨h1, trivial⟩⟩, trivial⟩) ?_
                      refine L_bipush hX hl dL_law_462 rfl ?_
                      refine L_icmp_eq hX hl 469 dL_law_464 (by first | omega | exact shrI_r _ _) (by decide) (by decide) (fun c464 => ?_) (fun c464 => ?_)
                      · refine L_goto hX hl 1381 dL_law_469 (by decide) ?_
                        exact L_to hX hl (L_mo (by omega) (by omega) (k1 S2 _ _ (WFS_mono hW2 (by omega) (by omega)) (by rw [af.2.2.2.2.2.2]; exact h80))) rfl (by omega) rfl
                      · skip
                        exfalso
                        omega
        refine L_iload hX hl dL_law_247 rfl ?_
        refine L_bipush hX hl dL_law_249 rfl ?_
        refine L_icmp_eq hX hl 274 dL_law_251 (by first | omega | exact shrI_r _ _) (by decide) (by decide) (fun c251 => ?_) (fun c251 => ?_)
        · refine L_iconst hX hl dL_law_274 ?_
          refine L_goto hX hl 279 dL_law_275 (by decide) ?_
          exact L_to hX hl (JN279 _ ⟨Hid.mk (by omega), by omega, by omega⟩) rfl (by omega) rfl
        · refine L_iload hX hl dL_law_254 rfl ?_
          refine L_sipush hX hl dL_law_256 rfl ?_
          refine L_icmp_eq hX hl 278 dL_law_259 (by first | omega | exact shrI_r _ _) (by decide) (by decide) (fun c259 => ((by omega : False)).elim) (fun c259 => ?_)
          refine L_aload_n hX hl dL_law_262 rfl ?_
          refine L_iload hX hl dL_law_263 rfl ?_
          refine L_bipush hX hl dL_law_265 rfl ?_
          refine L_ask hX hl (u := 1) _ dL_law_267 cwL_node (a_node (n9 := u) (k := 7) hE (by first | omega | exact shrI_r _ _) (by decide) (nodeOK hsu (by decide)) (v := S 3 u) (nv_7 (by decide) hsu)) rfl (Nat.le_of_ble_eq_true rfl) ⟨by decide, by decide⟩ (fun _ _ => rfl) (fun K9 h1 h2 => ⟨⟨h2, ⟨h1, trivial⟩⟩, trivial⟩) ?_
          refine L_iconst hX hl dL_law_270 ?_
          refine L_icmp_lt hX hl 278 dL_law_271 (by first | omega | exact shrI_r _ _) (by decide) (by decide) (fun c271 => ?_) (fun c271 => ?_)
          · refine L_iconst hX hl dL_law_278 ?_
            exact L_to hX hl (JN279 _ ⟨Hid.mk (by omega), by omega, by omega⟩) rfl (by omega) rfl
          · refine L_iconst hX hl dL_law_274 ?_
            refine L_goto hX hl 279 dL_law_275 (by decide) ?_
            exact L_to hX hl (JN279 _ ⟨Hid.mk (by omega), by omega, by omega⟩) rfl (by omega) rfl
    refine L_iload hX hl dL_law_199 rfl ?_
    refine L_bipush hX hl dL_law_201 rfl ?_
    refine L_ishr hX hl dL_law_203 ?_
    refine L_iconst hX hl dL_law_204 ?_
    refine L_low hX hl dL_law_205 (by first | omega | exact shrI_r _ _) ⟨by omega, by omega⟩ (Nat.le_of_ble_eq_true rfl) (by decide) ?_
    obtain ⟨lw16, elw16⟩ : ∃ v : Int, low (shrI xx 12) 4 = v := ⟨_, rfl⟩
    have rlw16 : 0 ≤ lw16 ∧ lw16 < 4 := elw16 ▸ low_r (by omega)
    rw [elw16]
    refine L_if_le hX hl 215 dL_law_208 (by first | omega | exact shrI_r _ _) (by decide) (fun c208 => ?_) (fun c208 => ?_)
    · refine L_iconst hX hl dL_law_215 ?_
      exact L_to hX hl (JN216 _ (by omega)) rfl (by omega) rfl
    · refine L_iconst hX hl dL_law_211 ?_
      refine L_goto hX hl 216 dL_law_212 (by decide) ?_
      exact L_to hX hl (JN216 _ (by omega)) rfl (by omega) rfl
  refine L_iload hX hl dL_law_172 rfl ?_
  refine L_if_eq hX hl 189 dL_law_174 (by first | omega | exact shrI_r _ _) (by decide) (fun c174 => ?_) (fun c174 => ?_)
  · refine L_sipush hX hl dL_law_189 rfl ?_
    refine L_goto hX hl 197 dL_law_192 (by decide) ?_
    exact L_to hX hl (JN197 _ (Hid.mk (Or.inl rfl))) rfl (by omega) rfl
  · refine L_iload hX hl dL_law_177 rfl ?_
    refine L_bipush hX hl dL_law_179 rfl ?_
    refine L_ishr hX hl dL_law_181 ?_
    refine L_iconst hX hl dL_law_182 ?_
    refine L_low hX hl dL_law_183 (by first | omega | exact shrI_r _ _) ⟨by omega, by omega⟩ (Nat.le_of_ble_eq_true rfl) (by decide) ?_
    obtain ⟨lw17, elw17⟩ : ∃ v : Int, low (shrI xx 11) 2 = v := ⟨_, rfl⟩
    have rlw17 : 0 ≤ lw17 ∧ lw17 < 2 := elw17 ▸ low_r (by omega)
    rw [elw17]
    refine L_if_ne hX hl 195 dL_law_186 (by first | omega | exact shrI_r _ _) (by decide) (fun c186 => ?_) (fun c186 => ?_)
    · refine L_iload hX hl dL_law_195 rfl ?_
      exact L_to hX hl (JN197 _ (Hid.mk (Or.inr ⟨by omega, by omega, by omega⟩))) rfl (by omega) rfl
    · refine L_sipush hX hl dL_law_189 rfl ?_
      refine L_goto hX hl 197 dL_law_192 (by decide) ?_
      exact L_to hX hl (JN197 _ (Hid.mk (Or.inl rfl))) rfl (by omega) rfl
