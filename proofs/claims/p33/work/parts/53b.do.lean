/-! the law's changes, over the class's page -/
theorem fGS_0 {S : MM} {p u v w : Int} (h : fGS S p u v w = 0) : (p = -1000 ∨ hs S p) ∧ ¬ bx S p ∧ plc u v w ∧ S 1 0 < 20 ∧ arS S p ≤ 5 := by
  unfold fGS at h
  split at h
  · cases h
  · split at h
    · cases h
    · split at h
      · cases h
      · rename_i h1 h2 h3
        refine ⟨?_, fun q => h2 (Or.inl q), Classical.byContradiction (fun q => h2 (Or.inr q)), by omega, by omega⟩
        by_cases q : p = -1000
        · exact Or.inl q
        · exact Or.inr (Classical.byContradiction (fun z => h1 ⟨q, z⟩))
theorem fBS_0 {S : MM} {p u v w wd hg : Int} (h : fBS S p u v w wd hg = 0) : fGS S p u v w = 0 ∧ (1 ≤ wd ∧ wd ≤ 100) ∧ (1 ≤ hg ∧ hg ≤ 100) := by
  unfold fBS at h
  split at h
  · cases h
  · rename_i q
    refine ⟨h, Classical.byContradiction (fun z => q ⟨by rw [h]; decide, z⟩)⟩
set_option maxHeartbeats 4000000 in
theorem d_begin {E : EE} {x : Nat} {T : Int} {S : MM} {c : Int} {P : MM} {c0 s0 : Nat} (hE : ∀ U, SF E U → ThF E U ∧ NcF U) {w h : Int} (hw : i32 w) (hh : i32 h) (hf : (20 ≤ w ∧ w ≤ 200) ∧ (10 ≤ h ∧ h ≤ 120)) : DoH E (x, T, S, c, P, c0, s0) T yL_begin cL_begin 4 hh_begin [.ref x, vI w, vI h] (fun v S2 c2 P2 => (v = S 11 1 ∧ S2 = begS S w h) ∧ 0 < c2 ∧ P2 = S) := fun n K M h0 => by
  have h9 : IV n T K M x S c P := h0
  have hpg := h9.pg
  try dsimp only at hpg
  subst hpg
  refine m_L_begin hE h9.eye h9.wf h9.hv h9.cl hw hh (fun r K2 Mc z => ?_) (fun z => absurd ?_ z)
  · obtain ⟨-, hr9, M9, hkept, hMc⟩ := z
    have hst : stg M9 (x + 3) = stg M (x + 3) := stg_eq (fun k hk => hkept.stage k hk)
    have hfr : ∀ i, i < x + 3 ∨ x + 18 < i → Mc i = M9 i := fun i hi => by rw [hMc]; unfold begM clM; (repeat rw [mset_ne (by omega)])
    have hSS : stg Mc (x + 3) = begS (stg M (x + 3)) w h := by rw [hMc, ← hst]; exact stg_beg
    have hWS := WFS_beg h9.wfs hf.1 hf.2
    obtain ⟨n2, c2, hI2, hc2, -⟩ := IV_ch (T2 := T) h9 hkept hfr (WF_iS.mpr (by rw [hSS]; exact hWS)) (Int.le_refl _)
    exact ⟨_, n2, _, c2, _, ⟨⟨rfl, hSS⟩, hc2, rfl⟩, hr9, hI2⟩
  · exact if_pos hf
set_option maxHeartbeats 4000000 in
theorem d_addGroup {E : EE} {x : Nat} {T : Int} {S : MM} {c : Int} {P : MM} {c0 s0 : Nat} (hE : ∀ U, SF E U → ThF E U ∧ NcF U) {p u v9 w : Int} (hp : i32 p) (hu : i32 u) (hv : i32 v9) (hw : i32 w) (hf : fGS S p u v9 w = 0) : DoH E (x, T, S, c, P, c0, s0) T yL_addGroup cL_addGroup 6 hh_addGroup [.ref x, vI p, vI u, vI v9, vI w] (fun v S2 c2 P2 => (v = S 1 0 ∧ S2 = adS S (arS S p) p u v9 w 0 0) ∧ 0 < c2 ∧ P2 = S) := fun n K M h0 => by
  have h9 : IV n T K M x S c P := h0
  have hpg := h9.pg
  try dsimp only at hpg
  subst hpg
  refine m_L_addGroup hE h9.eye h9.wf h9.hv h9.cl hp hu hv hw (fun r K2 Mc z => ?_) (fun z => absurd ?_ z)
  · obtain ⟨-, hr9, M9, hkept, hMc⟩ := z
    have hst : stg M9 (x + 3) = stg M (x + 3) := stg_eq (fun k hk => hkept.stage k hk)
    have hfr : ∀ i, i < x + 3 ∨ x + 18 < i → Mc i = M9 i := fun i hi => by rw [hMc]; unfold addM; (repeat rw [mset_ne (by omega)])
    have g0 := fGS_0 hf
    have hSS : stg Mc (x + 3) = adS (stg M (x + 3)) (arS (stg M (x + 3)) p) p u v9 w 0 0 := by rw [hMc, ← hst]; exact stg_add
    have hWS := WFS_add (wd := 0) (hg := 0) h9.wfs g0.2.2.2.1 (gA_ar h9.wfs g0.1 g0.2.1) g0.2.2.2.2 g0.2.2.1 (by decide) (by decide) (Or.inl rfl)
    obtain ⟨n2, c2, hI2, hc2, -⟩ := IV_ch (T2 := T) h9 hkept hfr (WF_iS.mpr (by rw [hSS]; exact hWS)) (Int.le_refl _)
    exact ⟨_, n2, _, c2, _, ⟨⟨rfl, hSS⟩, hc2, rfl⟩, hr9, hI2⟩
  · exact hf
set_option maxHeartbeats 4000000 in
theorem d_addBox {E : EE} {x : Nat} {T : Int} {S : MM} {c : Int} {P : MM} {c0 s0 : Nat} (hE : ∀ U, SF E U → ThF E U ∧ NcF U) {p u v9 w wd hg : Int} (hp : i32 p) (hu : i32 u) (hv : i32 v9) (hw : i32 w) (hwd : i32 wd) (hhg : i32 hg) (hf : fBS S p u v9 w wd hg = 0) : DoH E (x, T, S, c, P, c0, s0) T yL_addBox cL_addBox 8 hh_addBox [.ref x, vI p, vI u, vI v9, vI w, vI wd, vI hg] (fun v S2 c2 P2 => (v = S 1 0 ∧ S2 = adS S (arS S p) p u v9 w wd hg) ∧ 0 < c2 ∧ P2 = S) := fun n K M h0 => by
  have h9 : IV n T K M x S c P := h0
  have hpg := h9.pg
  try dsimp only at hpg
  subst hpg
  refine m_L_addBox hE h9.eye h9.wf h9.hv h9.cl hp hu hv hw hwd hhg (fun r K2 Mc z => ?_) (fun z => absurd ?_ z)
  · obtain ⟨-, hr9, M9, hkept, hMc⟩ := z
    have hst : stg M9 (x + 3) = stg M (x + 3) := stg_eq (fun k hk => hkept.stage k hk)
    have hfr : ∀ i, i < x + 3 ∨ x + 18 < i → Mc i = M9 i := fun i hi => by rw [hMc]; unfold addM; (repeat rw [mset_ne (by omega)])
    have g1 := fBS_0 hf
    have g0 := fGS_0 g1.1
    have hSS : stg Mc (x + 3) = adS (stg M (x + 3)) (arS (stg M (x + 3)) p) p u v9 w wd hg := by rw [hMc, ← hst]; exact stg_add
    have hWS := WFS_add (wd := wd) (hg := hg) h9.wfs g0.2.2.2.1 (gA_ar h9.wfs g0.1 g0.2.1) g0.2.2.2.2 g0.2.2.1 (by omega) (by omega) (Or.inr (by omega))
    obtain ⟨n2, c2, hI2, hc2, -⟩ := IV_ch (T2 := T) h9 hkept hfr (WF_iS.mpr (by rw [hSS]; exact hWS)) (Int.le_refl _)
    exact ⟨_, n2, _, c2, _, ⟨⟨rfl, hSS⟩, hc2, rfl⟩, hr9, hI2⟩
  · exact hf
set_option maxHeartbeats 4000000 in
theorem d_move {E : EE} {x : Nat} {T : Int} {S : MM} {c : Int} {P : MM} {c0 s0 : Nat} (hE : ∀ U, SF E U → ThF E U ∧ NcF U) {n9 u v9 w : Int} (hn9 : i32 n9) (hu : i32 u) (hv : i32 v9) (hw : i32 w) (hf : hs S n9 ∧ plc u v9 w) : DoH E (x, T, S, c, P, c0, s0) T yL_move cL_move 6 hh_move [.ref x, vI n9, vI u, vI v9, vI w] (fun v S2 c2 P2 => (v = S 6 n9 ∧ S2 = mset (mset (mset S 4 n9 u) 5 n9 v9) 6 n9 w) ∧ 0 < c2 ∧ P2 = S) := fun n K M h0 => by
  have h9 : IV n T K M x S c P := h0
  have hpg := h9.pg
  try dsimp only at hpg
  subst hpg
  refine m_L_move hE h9.eye h9.wf h9.hv h9.cl hn9 hu hv hw (fun r K2 Mc z => ?_) (fun z => absurd ?_ z)
  · obtain ⟨-, hr9, M9, hkept, hMc⟩ := z
    have hst : stg M9 (x + 3) = stg M (x + 3) := stg_eq (fun k hk => hkept.stage k hk)
    have hfr : ∀ i, i < x + 3 ∨ x + 18 < i → Mc i = M9 i := fun i hi => by rw [hMc]; unfold movM; (repeat rw [mset_ne (by omega)])
    have hSS : stg Mc (x + 3) = mset (mset (mset (stg M (x + 3)) 4 n9 u) 5 n9 v9) 6 n9 w := by rw [hMc, ← hst]; exact stg_mov
    have hWS := WFS_mov (n := n9) h9.wfs hf.2
    obtain ⟨n2, c2, hI2, hc2, -⟩ := IV_ch (T2 := T) h9 hkept hfr (WF_iS.mpr (by rw [hSS]; exact hWS)) (Int.le_refl _)
    exact ⟨_, n2, _, c2, _, ⟨⟨rfl, hSS⟩, hc2, rfl⟩, hr9, hI2⟩
  · exact (if_neg (not_not_intro hf.1)).trans (if_pos hf.2)
set_option maxHeartbeats 4000000 in
theorem d_setShade {E : EE} {x : Nat} {T : Int} {S : MM} {c : Int} {P : MM} {c0 s0 : Nat} (hE : ∀ U, SF E U → ThF E U ∧ NcF U) {n9 s : Int} (hn9 : i32 n9) (hs9 : i32 s) (hf : hs S n9 ∧ bx S n9 ∧ (0 ≤ s ∧ s ≤ 15)) : DoH E (x, T, S, c, P, c0, s0) T yL_setShade cL_setShade 4 hh_setShade [.ref x, vI n9, vI s] (fun v S2 c2 P2 => (v = S 9 n9 ∧ S2 = mset S 9 n9 s) ∧ 0 < c2 ∧ P2 = S) := fun n K M h0 => by
  have h9 : IV n T K M x S c P := h0
  have hpg := h9.pg
  try dsimp only at hpg
  subst hpg
  refine m_L_setShade hE h9.eye h9.wf h9.hv h9.cl hn9 hs9 (fun r K2 Mc z => ?_) (fun z => absurd ?_ z)
  · obtain ⟨-, hr9, M9, hkept, hMc⟩ := z
    have hst : stg M9 (x + 3) = stg M (x + 3) := stg_eq (fun k hk => hkept.stage k hk)
    have hfr : ∀ i, i < x + 3 ∨ x + 18 < i → Mc i = M9 i := fun i hi => by rw [hMc]; (repeat rw [mset_ne (by omega)])
    have hSS : stg Mc (x + 3) = mset (stg M (x + 3)) 9 n9 s := by rw [hMc, ← hst]; exact stg_mset (k := 9) (by decide)
    have hWS := WFS_col (n := n9) h9.wfs hf.2.2
    obtain ⟨n2, c2, hI2, hc2, -⟩ := IV_ch (T2 := T) h9 hkept hfr (WF_iS.mpr (by rw [hSS]; exact hWS)) (Int.le_refl _)
    exact ⟨_, n2, _, c2, _, ⟨⟨rfl, hSS⟩, hc2, rfl⟩, hr9, hI2⟩
  · exact (if_neg (not_not_intro hf.1)).trans (if_pos hf.2)
set_option maxHeartbeats 4000000 in
theorem d_removeNode {E : EE} {x : Nat} {T : Int} {S : MM} {c : Int} {P : MM} {c0 s0 : Nat} (hE : ∀ U, SF E U → ThF E U ∧ NcF U) {n9 : Int} (hn9 : i32 n9) (hf : hs S n9) : DoH E (x, T, S, c, P, c0, s0) T yL_removeNode cL_removeNode 3 hh_removeNode [.ref x, vI n9] (fun v S2 c2 P2 => (v = nwn S n9 (S 1 0) ∧ Drd S S2 n9) ∧ 0 < c2 ∧ P2 = S) := fun n K M h0 => by
  have h9 : IV n T K M x S c P := h0
  have hpg := h9.pg
  try dsimp only at hpg
  subst hpg
  refine m_L_removeNode hE h9.eye h9.wf h9.hv h9.cl hn9 (fun r K2 Mc z => ?_) (fun z => absurd ?_ z)
  · obtain ⟨-, hr9, M9, hkept, hMc⟩ := z
    have hst : stg M9 (x + 3) = stg M (x + 3) := stg_eq (fun k hk => hkept.stage k hk)
    have hfr : ∀ i, i < x + 3 ∨ x + 18 < i → Mc i = M9 i := fun i hi => hMc.2 i (by omega)
    have hWS := WFS_drop h9.wfs hMc.1
    obtain ⟨n2, c2, hI2, hc2, -⟩ := IV_ch (T2 := T) h9 hkept hfr (WF_iS.mpr hWS) (Int.le_refl _)
    exact ⟨_, n2, _, c2, _, ⟨⟨rfl, hMc.1⟩, hc2, rfl⟩, hr9, hI2⟩
  · exact if_pos hf
set_option maxHeartbeats 4000000 in
theorem d_addScene {E : EE} {x : Nat} {T : Int} {S : MM} {c : Int} {P : MM} {c0 s0 : Nat} (hE : ∀ U, SF E U → ThF E U ∧ NcF U) {l g t : Int} (hl : i32 l) (hg : i32 g) (ht : i32 t) (hf : (((-20 ≤ l ∧ l ≤ 0) ∧ (0 ≤ g ∧ g ≤ 20)) ∧ (1 ≤ t ∧ t ≤ 50)) ∧ S 11 0 < 8) : DoH E (x, T, S, c, P, c0, s0) T yL_addScene cL_addScene 5 hh_addScene [.ref x, vI l, vI g, vI t] (fun v S2 c2 P2 => (v = S 11 0 ∧ S2 = scS S l g t) ∧ 0 < c2 ∧ P2 = S) := fun n K M h0 => by
  have h9 : IV n T K M x S c P := h0
  have hpg := h9.pg
  try dsimp only at hpg
  subst hpg
  refine m_L_addScene hE h9.eye h9.wf h9.hv h9.cl hl hg ht (fun r K2 Mc z => ?_) (fun z => absurd ?_ z)
  · obtain ⟨-, hr9, M9, hkept, hMc⟩ := z
    have hst : stg M9 (x + 3) = stg M (x + 3) := stg_eq (fun k hk => hkept.stage k hk)
    have hfr : ∀ i, i < x + 3 ∨ x + 18 < i → Mc i = M9 i := fun i hi => by rw [hMc]; unfold scM; (repeat rw [mset_ne (by omega)])
    have hSS : stg Mc (x + 3) = scS (stg M (x + 3)) l g t := by rw [hMc, ← hst]; exact stg_sc
    have hWS := WFS_sc h9.wfs hf.2 hf.1.1 hf.1.2
    obtain ⟨n2, c2, hI2, hc2, -⟩ := IV_ch (T2 := T) h9 hkept hfr (WF_iS.mpr (by rw [hSS]; exact hWS)) (Int.le_refl _)
    exact ⟨_, n2, _, c2, _, ⟨⟨rfl, hSS⟩, hc2, rfl⟩, hr9, hI2⟩
  · exact (if_pos hf.1).trans (if_neg (Int.not_le.mpr hf.2))
set_option maxHeartbeats 4000000 in
theorem d_set {E : EE} {x : Nat} {T : Int} {S : MM} {c : Int} {P : MM} {c0 s0 : Nat} (hE : ∀ U, SF E U → ThF E U ∧ NcF U) {w v9 : Int} (hw : i32 w) (hv : i32 v9) (hE2 : ∀ U, SF E U → CF E U) (hf : fSe w v9) : DoH E (x, T, S, c, P, c0, s0) T yL_set cL_set 4 hh_set [.ref x, vI w, vI v9] (fun v S2 c2 P2 => (v = S 15 w ∧ S2 = mset S 15 w v9) ∧ 0 < c2 ∧ P2 = S) := fun n K M h0 => by
  have h9 : IV n T K M x S c P := h0
  have hpg := h9.pg
  try dsimp only at hpg
  subst hpg
  refine m_L_set hE h9.eye h9.wf h9.hv h9.cl hw hv hE2 h9.zz (fun r K2 Mc z => ?_) (fun z => absurd ?_ z)
  · obtain ⟨-, hr9, M9, hkept, hMc⟩ := z
    have hst : stg M9 (x + 3) = stg M (x + 3) := stg_eq (fun k hk => hkept.stage k hk)
    have hfr : ∀ i, i < x + 3 ∨ x + 18 < i → Mc i = M9 i := fun i hi => by rw [hMc]; (repeat rw [mset_ne (by omega)])
    have hSS : stg Mc (x + 3) = mset (stg M (x + 3)) 15 w v9 := by rw [hMc, ← hst]; exact stg_mset (k := 15) (by decide)
    have hWS := WFS_set h9.wfs hf
    obtain ⟨n2, c2, hI2, hc2, -⟩ := IV_ch (T2 := T) h9 hkept hfr (WF_iS.mpr (by rw [hSS]; exact hWS)) (Int.le_refl _)
    exact ⟨_, n2, _, c2, _, ⟨⟨rfl, hSS⟩, hc2, rfl⟩, hr9, hI2⟩
  · exact if_pos hf
set_option maxHeartbeats 4000000 in
theorem d_setTitle {E : EE} {x : Nat} {T : Int} {S : MM} {c : Int} {P : MM} {c0 s0 : Nat} (hE : ∀ U, SF E U → ThF E U ∧ NcF U) {u v9 l : Int} (hu : i32 u) (hv : i32 v9) (hl : i32 l) (hf : ((0 ≤ u ∧ u ≤ S 0 3 - 1) ∧ (0 ≤ v9 ∧ v9 ≤ S 0 4 - 1)) ∧ (1 ≤ l ∧ l ≤ 40)) : DoH E (x, T, S, c, P, c0, s0) T yL_setTitle cL_setTitle 5 hh_setTitle [.ref x, vI u, vI v9, vI l] (fun v S2 c2 P2 => (v = S 0 7 ∧ S2 = mset (mset (mset S 0 5 u) 0 6 v9) 0 7 l) ∧ 0 < c2 ∧ P2 = S) := fun n K M h0 => by
  have h9 : IV n T K M x S c P := h0
  have hpg := h9.pg
  try dsimp only at hpg
  subst hpg
  refine m_L_setTitle hE h9.eye h9.wf h9.hv h9.cl hu hv hl (fun r K2 Mc z => ?_) (fun z => absurd ?_ z)
  · obtain ⟨-, hr9, M9, hkept, hMc⟩ := z
    have hst : stg M9 (x + 3) = stg M (x + 3) := stg_eq (fun k hk => hkept.stage k hk)
    have hfr : ∀ i, i < x + 3 ∨ x + 18 < i → Mc i = M9 i := fun i hi => by rw [hMc]; unfold entM; (repeat rw [mset_ne (by omega)])
    have hSS : stg Mc (x + 3) = mset (mset (mset (stg M (x + 3)) 0 5 u) 0 6 v9) 0 7 l := by rw [hMc, ← hst]; exact stg_ent
    have hWS := WFS_tit h9.wfs ⟨hf.1.1.1, Int.lt_of_le_sub_one hf.1.1.2⟩ ⟨hf.1.2.1, Int.lt_of_le_sub_one hf.1.2.2⟩ ⟨Int.le_trans (by decide) hf.2.1, hf.2.2⟩
    obtain ⟨n2, c2, hI2, hc2, -⟩ := IV_ch (T2 := T) h9 hkept hfr (WF_iS.mpr (by rw [hSS]; exact hWS)) (Int.le_refl _)
    exact ⟨_, n2, _, c2, _, ⟨⟨rfl, hSS⟩, hc2, rfl⟩, hr9, hI2⟩
  · exact if_pos hf
set_option maxHeartbeats 4000000 in
theorem d_tick {E : EE} {x : Nat} {T : Int} {S : MM} {c : Int} {P : MM} {c0 s0 : Nat} (hE : ∀ U, SF E U → ThF E U ∧ NcF U) {t : Int} (ht : i32 t) (hTm : T + 200 ≤ 1000000000) (hf : 1 ≤ t ∧ t ≤ 200) : DoH E (x, T, S, c, P, c0, s0) (T + (t.toNat : Int)) yL_tick cL_tick 3 hh_tick [.ref x, vI t] (fun v S2 c2 P2 => (v = tkSn t.toNat S 11 1 ∧ S2 = tkSn t.toNat S) ∧ 0 < c2 ∧ P2 = S) := fun n K M h0 => by
  have h9 : IV n T K M x S c P := h0
  have hpg := h9.pg
  try dsimp only at hpg
  subst hpg
  refine m_L_tick hE h9.eye h9.wf h9.hv h9.cl ht hTm (fun r K2 Mc z => ?_) (fun z => absurd ?_ z)
  · obtain ⟨-, hr9, M9, hkept, hMc⟩ := z
    have hst : stg M9 (x + 3) = stg M (x + 3) := stg_eq (fun k hk => hkept.stage k hk)
    have hfr : ∀ i, i < x + 3 ∨ x + 18 < i → Mc i = M9 i := fun i hi => by rw [hMc]; exact tkN_out (by omega) _
    have hW9 : WF T M9 (x + 3) := WF_fr hst h9.wf
    have e15 : M9 (x + 3 + 15) 1 = M (x + 3 + 15) 1 := congrFun (congrFun hst 15) 1
    have hSS : stg Mc (x + 3) = tkSn t.toNat (stg M (x + 3)) := by rw [hMc, ← hst]; show stg (tkN (x + 3) (M (x + 3 + 15) 1) t.toNat M9) (x + 3) = _; rw [← e15]; exact tkN_S hW9 t.toNat (by omega)
    have hWS : WFS (T + (t.toNat : Int)) (tkSn t.toNat (stg M (x + 3))) := WFS_tkSn h9.wfs (fun k h => stg_hi h) t.toNat (by omega)
    have e11 : Mc (x + 1 + 2 + 11) 1 = tkSn t.toNat (stg M (x + 3)) 11 1 := congrFun (congrFun hSS 11) 1
    obtain ⟨n2, c2, hI2, hc2, -⟩ := IV_ch (T2 := T + (t.toNat : Int)) h9 hkept hfr (WF_iS.mpr (by rw [hSS]; exact hWS)) (by omega)
    exact ⟨_, n2, _, c2, _, ⟨⟨e11, hSS⟩, hc2, rfl⟩, hr9, hI2⟩
  · exact if_pos hf
set_option maxHeartbeats 4000000 in
theorem d_undo {E : EE} {x : Nat} {T : Int} {S : MM} {c : Int} {P : MM} {c0 s0 : Nat} (hE : ∀ U, SF E U → ThF E U ∧ NcF U) (hf : 0 < c) : DoH E (x, T, S, c, P, c0, s0) T yL_undo cL_undo 2 hh_undo [.ref x] (fun v S2 c2 P2 => v = c - 1 ∧ c2 = c - 1 ∧ ∀ k, k ≠ 10 → S2 k = P k) := fun n K M h0 => by
  have h9 : IV n T K M x S c P := h0
  have hct := h9.ct
  try dsimp only at hct
  refine m_L_undo hE h9.eye h9.wf h9.hv h9.cl (fun r K2 Mc z => ?_) (fun z => absurd (if_neg (by rw [hct]; omega)) z)
  obtain ⟨-, hK, hr9, hu⟩ := z
  obtain ⟨P2, hI2, hal⟩ := IV_undo h9 hu hf
  rw [hct] at hr9
  exact ⟨c - 1, n, _, _, P2, ⟨rfl, rfl, hal⟩, hr9, by rw [hK]; exact hI2⟩
