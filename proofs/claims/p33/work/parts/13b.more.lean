/-! hashes, removal, copies: words -/
def hrw (S : MM) (r : Int) : Nat → Int → Int
  | 0, h => h
  | k + 1, h => 31 * (31 * hrw S r k h + shd S 1 k r) + shd S 0 k r
def him (S : MM) : Nat → Int → Int
  | 0, h => h
  | k + 1, h => hrw S k (S 0 3).toNat (him S k h)
def gon (S : MM) (d : Int) : Nat → Int → Bool
  | 0, _ => false
  | f + 1, n => decide (n = d) || (decide (0 ≤ S 2 n) && gon S d f (S 2 n))
abbrev gne (S : MM) (d n : Int) : Prop := gon S d 21 n = true
def nwn (S : MM) (d n : Int) : Int := ct (fun j => ¬ gne S d j) n.toNat
theorem gon_st {T : Int} {S : MM} (hW : WFS T S) (d : Int) : ∀ (m : Nat) (n : Int), n < m → 0 ≤ n → n < S 1 0 → ∀ f g : Nat, n < f → n < g → gon S d f n = gon S d g n
  | 0, n, h, h0, _, _, _, _, _ => absurd h (by omega)
  | m + 1, n, h, h0, hc, f, g, hf, hg => by
    obtain ⟨f1, rfl⟩ : ∃ f1, f = f1 + 1 := ⟨f - 1, by omega⟩
    obtain ⟨g1, rfl⟩ : ∃ g1, g = g1 + 1 := ⟨g - 1, by omega⟩
    have hn := (hW.2.2.1 n h0 hc).1
    simp only [gon]
    by_cases hp : 0 ≤ S 2 n
    · rw [gon_st hW d m (S 2 n) (by omega) hp (by omega) f1 g1 (by omega) (by omega)]
    · rw [decide_eq_false hp, Bool.false_and, Bool.false_and]
theorem gne_iff {T : Int} {S : MM} (hW : WFS T S) {d n : Int} (h0 : 0 ≤ n) (h1 : n < S 1 0) : gne S d n ↔ n = d ∨ (0 ≤ S 2 n ∧ gne S d (S 2 n)) := by
  have hs := hW.2.1
  unfold WFSs at hs
  have hn := (hW.2.2.1 n h0 h1).1
  have e : gon S d 21 n = (decide (n = d) || (decide (0 ≤ S 2 n) && gon S d 20 (S 2 n))) := rfl
  unfold gne
  rw [e]
  by_cases hp : 0 ≤ S 2 n
  · rw [gon_st hW d 20 (S 2 n) (by omega) hp (by omega) 20 21 (by omega) (by omega)]
    simp [hp]
  · simp [hp]
theorem nwn_k {S : MM} {d : Int} (k : Nat) : nwn S d k = ct (fun j => ¬ gne S d j) k := by unfold nwn; rw [Int.toNat_natCast]
theorem nwn_t {S : MM} {d : Int} {k : Nat} (h : ¬ gne S d k) : nwn S d ((k + 1 : Nat) : Int) = nwn S d k + 1 := by rw [nwn_k, nwn_k, ct_t (p := fun j => ¬ gne S d j) h]
theorem nwn_f {S : MM} {d : Int} {k : Nat} (h : gne S d k) : nwn S d ((k + 1 : Nat) : Int) = nwn S d k := by rw [nwn_k, nwn_k, ct_f (p := fun j => ¬ gne S d j) (fun q => q h)]
theorem nwn_rng {S : MM} {d n : Int} (h : 0 ≤ n) : 0 ≤ nwn S d n ∧ nwn S d n ≤ n := by
  have := ct_rng (fun j => ¬ gne S d j) n.toNat
  unfold nwn; omega
theorem nwn_lt {S : MM} {d : Int} : ∀ (k : Nat) (n : Int), 0 ≤ n → n < k → ¬ gne S d n → nwn S d n < nwn S d k
  | 0, n, h0, h1, _ => absurd h1 (by omega)
  | k + 1, n, h0, h1, hg => by
    by_cases e : n = k
    · subst e; rw [nwn_t hg]; omega
    · have ih := nwn_lt k n h0 (by omega) hg
      by_cases q : gne S d k
      · rw [nwn_f q]; exact ih
      · rw [nwn_t q]; omega
/-- the rows of one node moved -/
def shM (M : MM) (b : Nat) (f t : Int) : MM := fun i j => if (b + 3 ≤ i ∧ i ≤ b + 9) ∧ j = t then M i f else M i j
/-- after the first k nodes of a removal -/
def Drp (S M M2 : MM) (b : Nat) (d : Int) (k : Nat) : Prop :=
  (∀ n : Int, 0 ≤ n → n < k → M2 (b + 10) n = if gne S d n then -1000 else nwn S d n) ∧
  (∀ r : Nat, 2 ≤ r → r ≤ 9 → ∀ j : Int, nwn S d k ≤ j → M2 (b + r) j = M (b + r) j) ∧
  (∀ n : Int, 0 ≤ n → n < k → ¬ gne S d n → (∀ r : Nat, 3 ≤ r → r ≤ 9 → M2 (b + r) (nwn S d n) = M (b + r) n) ∧ M2 (b + 2) (nwn S d n) = if 0 ≤ M (b + 2) n then nwn S d (M (b + 2) n) else -1000) ∧
  (∀ i : Nat, i < b + 2 ∨ b + 10 < i → M2 i = M i)
theorem Drp_skip {S M M2 M3 : MM} {b : Nat} {d : Int} {k : Nat} (h : Drp S M M2 b d k) (hg : gne S d k) (hf : ∀ i, i ≠ b + 10 → M3 i = M2 i) (hn : ∀ j : Int, j ≠ k → M3 (b + 10) j = M2 (b + 10) j) (hv : M3 (b + 10) k = -1000) : Drp S M M3 b d (k + 1) := by
  obtain ⟨h1, h2, h3, h4⟩ := h
  refine ⟨fun n n0 n1 => ?_, fun r r0 r1 j hj => ?_, fun n n0 n1 ng => ?_, fun i hi => ?_⟩
  · by_cases e : n = k
    · subst e; rw [hv, if_pos hg]
    · rw [hn n e]; exact h1 n n0 (by omega)
  · rw [nwn_f hg] at hj
    rw [hf _ (by omega)]; exact h2 r r0 r1 j hj
  · have e : n ≠ k := fun e => by subst e; exact ng hg
    have q := h3 n n0 (by omega) ng
    exact ⟨fun r r0 r1 => by rw [hf _ (by omega)]; exact q.1 r r0 r1, by rw [hf _ (by omega)]; exact q.2⟩
  · rw [hf i (by omega)]; exact h4 i hi
theorem Drp_keep {S M M2 M3 M4 M5 : MM} {b : Nat} {d : Int} {k : Nat} {x : Int} (h : Drp S M M2 b d k) (hg : ¬ gne S d k) (hf : ∀ i, i ≠ b + 10 → M3 i = M2 i) (hn : ∀ j : Int, j ≠ k → M3 (b + 10) j = M2 (b + 10) j) (hv : M3 (b + 10) k = nwn S d k)
    (hs : M4 = shM M3 b k (nwn S d k)) (hf5 : ∀ i, i ≠ b + 2 → M5 i = M4 i) (hn5 : ∀ j : Int, j ≠ nwn S d k → M5 (b + 2) j = M4 (b + 2) j) (hv5 : M5 (b + 2) (nwn S d k) = x) (hx : x = if 0 ≤ M (b + 2) k then nwn S d (M (b + 2) k) else -1000) : Drp S M M5 b d (k + 1) := by
  obtain ⟨h1, h2, h3, h4⟩ := h
  have hk := nwn_rng (S := S) (d := d) (n := k) (by omega)
  have a4 : ∀ i j, ¬ ((b + 3 ≤ i ∧ i ≤ b + 9) ∧ j = nwn S d k) → M4 i j = M3 i j := fun i j q => by rw [hs]; unfold shM; rw [if_neg q]
  have b4 : ∀ r : Nat, 3 ≤ r → r ≤ 9 → M4 (b + r) (nwn S d k) = M3 (b + r) k := fun r r0 r1 => by rw [hs]; unfold shM; rw [if_pos ⟨by omega, rfl⟩]
  refine ⟨fun n n0 n1 => ?_, fun r r0 r1 j hj => ?_, fun n n0 n1 ng => ?_, fun i hi => ?_⟩
  · rw [hf5 _ (by omega), a4 _ _ (by omega)]
    by_cases e : n = k
    · subst e; rw [hv, if_neg hg]
    · rw [hn n e]; exact h1 n n0 (by omega)
  · rw [nwn_t hg] at hj
    have q := h2 r r0 r1 j (by omega)
    by_cases e : r = 2
    · subst e; rw [hn5 _ (by omega), a4 _ _ (by omega), hf _ (by omega)]; exact q
    · rw [hf5 _ (by omega), a4 _ _ (by omega), hf _ (by omega)]; exact q
  · by_cases e : n = k
    · subst e
      refine ⟨fun r r0 r1 => ?_, by rw [hv5, hx]⟩
      rw [hf5 _ (by omega), b4 r r0 r1, hf _ (by omega)]
      exact h2 r (by omega) r1 k hk.2
    · have q := h3 n n0 (by omega) ng
      have l := nwn_lt k n n0 (by omega) ng
      refine ⟨fun r r0 r1 => ?_, ?_⟩
      · rw [hf5 _ (by omega), a4 _ _ (by omega), hf _ (by omega)]; exact q.1 r r0 r1
      · rw [hn5 _ (by omega), a4 _ _ (by omega), hf _ (by omega)]; exact q.2
  · rw [hf5 i (by omega)]; funext j
    rw [a4 i j (by omega), hf i (by omega), h4 i hi]

-- X5_pass
set_option maxHeartbeats 4000000 in
set_option maxRecDepth 100000 in
theorem m_X5_pass {E : EE} {K : Nat → Nat} {M : MM} {b : Nat} {T t : Int} (hS : StageK K b) (hW : WF T M b) (hT : T + t ≤ 1000000000) (ht : 1 ≤ t ∧ t ≤ 200) : CnM E 3 yX5_pass cX5_pass 3 (Option.some FieldType.int) [.ref b, vI t] K M (fun r9 M2 => r9 = some (vI (M2 (b + 11) 1)) ∧ M2 = tkN b (M (b + 15) 1) t.toNat M) := by
  have hW0 := hW
  obtain ⟨hT0, ⟨ws1, ws2, ws3, ws4, ws5, ws6, ws7, ws8, ws9, ws10, ws11, ws12, ws13, ws14⟩, hWn, hWc⟩ := hW0
  refine Cn_of RX5 (plainFor_of_name (by decide)) rfl (Nat.le_of_ble_eq_true rfl) (fun X hX hQ => ?_)
  refine J_iconst hX dX5_pass_0 ?_
  refine J_istore_n hX dX5_pass_1 (by decide) ?_
  have HL2 : ∀ k : Nat, k ≤ t.toNat → ∀ (M2 : MM), (M2 = tkN b (M (b + 15) 1) k M) → J E X 2 [(0, .ref b), (1, vI t), (2, vI (k : Int))] [] K M2 0 0 := by
    refine up_ind (t.toNat) (fun k hk2 ih2 => ?_)
    intro M2  hi2
    have hWk := WF_tkN hW (r := M (b + 15) 1) (by omega) k (by omega)
    rw [← hi2] at hWk
    refine J_iload_n hX dX5_pass_2 rfl ?_
    refine J_iload_n hX dX5_pass_3 rfl ?_
    refine J_icmp_ge hX 26 dX5_pass_4 (by omega) (by omega) (by decide) (fun c4 => ?_) (fun c4 => ?_)
    · refine J_aload_n hX dX5_pass_26 rfl ?_
      refine J_gr hX (b + 11) fr_RX5_21 dX5_pass_27 (show K (b) = 5 from hS 0 (by decide)) rfl ?_
      refine J_geti hX fi_RX5_40 dX5_pass_30 (show K (b + 11) = 3 from hS 11 (by decide)) (fun r30 => ?_)
      exact J_iret hX hQ dX5_pass_33 ⟨rfl, by exact ⟨rfl, by rw [hi2, show k = t.toNat by omega]⟩⟩ (Nat.zero_le _) (Nat.zero_le _)
    · refine J_aload_n hX dX5_pass_7 rfl ?_
      refine J_gr hX (b + 11) fr_RX5_21 dX5_pass_8 (show K (b) = 5 from hS 0 (by decide)) rfl ?_
      refine J_aload_n hX dX5_pass_11 rfl ?_
      refine J_gr hX (b + 15) fr_RX5_25 dX5_pass_12 (show K (b) = 5 from hS 0 (by decide)) rfl ?_
      refine J_iconst hX dX5_pass_15 ?_
      refine J_iald hX dX5_pass_16 (show K (b + 15) = 1000 + 4 from hS 15 (by decide)) ⟨by omega, by omega⟩ (by decide) (fun r16 => ?_)
      have hr5 : (M2 (b + 15) 1) = M (b + 15) 1 := by rw [hi2, tkN_rate k 15 (by decide)]
      rw [hr5]
      refine J_callVM hX _ dX5_pass_17 cw_RX5_71 (m_X3_passTick hS hWk (by omega) (by omega)) ⟨(show K (b + 11) = 3 from hS 11 (by decide)), by decide, by decide, rfl⟩ rfl (Nat.le_of_ble_eq_true rfl) (by decide) ⟨Nat.zero_le _, Nat.zero_le _⟩ (fun r9 M17 q17 => ?_)
      obtain ⟨rfl, rfl⟩ := q17
      refine J_iinc hX dX5_pass_20 rfl (by decide) ?_
      refine J_goto hX 2 dX5_pass_23 (by decide) ?_
      exact J_locI (ih2 (k + 1) (by omega) (by omega) _ (by rw [hi2]; rfl)) rfl
  exact J_locI (HL2 0 (Nat.zero_le _) _ rfl) rfl
def scv (S : MM) (n w : Int) : Int := if w = 0 then S 12 n else if w = 1 then S 13 n else if w = 2 then S 14 n else sm (S 14) n.toNat
-- X3_valueOf
set_option maxHeartbeats 4000000 in
set_option maxRecDepth 100000 in
theorem m_X3_valueOf {E : EE} {K : Nat → Nat} {M : MM} {b : Nat} {T n w : Int} (hS : StageK K b) (hW : WF T M b) (hn : hsc M b n) (hw : 0 ≤ w ∧ w ≤ 3) : CnI E 1 yX3_valueOf cX3_valueOf 3 (Option.some FieldType.int) [.ref (b + 11), vI n, vI w] K M (scv (stg M b) n w) := by
  have hW0 := hW
  obtain ⟨hT0, ⟨ws1, ws2, ws3, ws4, ws5, ws6, ws7, ws8, ws9, ws10, ws11, ws12, ws13, ws14⟩, hWn, hWc⟩ := hW0
  have hq := hWc n hn.1 hn.2.1
  refine ⟨Cn_of RX3 (plainFor_of_name (by decide)) rfl (Nat.le_of_ble_eq_true rfl) (fun X hX hQ => ?_), by have hq := hW.2.2.2 n hn.1 hn.2.1; have h5 := sm_tk hW n.toNat (by omega); have e2 : stg M b 12 n = M (b + 12) n := rfl; have e3 : stg M b 13 n = M (b + 13) n := rfl; have e4 : stg M b 14 n = M (b + 14) n := rfl; have e5 : stg M b 14 = M (b + 14) := rfl; unfold scv; rw [e5]; (repeat' split) <;> omega⟩
  refine J_aload_n hX dX3_valueOf_0 rfl ?_
  refine J_iload_n hX dX3_valueOf_1 rfl ?_
  refine J_callVB hX _ dX3_valueOf_2 cw_RX3_46 (m_X3_has hS (by omega)) ⟨(show K (b + 11) = 3 from hS 11 (by decide)), by decide, by decide, rfl⟩ rfl (Nat.le_of_ble_eq_true rfl) (by decide) ⟨Nat.zero_le _, Nat.zero_le _⟩ ?_
  refine J_ifb_ne hX 12 dX3_valueOf_5 (by decide) (fun c5 => ?_) (fun c5 => ?_)
  · refine J_iload_n hX dX3_valueOf_12 rfl ?_
    rcases (show (w = 0) ∨ (w = 1) ∨ (w = 2) ∨ (w < 0 ∨ 2 < w) by omega) with e0 | e0 | e0 | e0
    · skip
      refine J_tin hX (27) 40 dX3_valueOf_13 (by omega) (by omega) (by rw [e0]; rfl) (by decide) ?_
      refine J_aload_n hX dX3_valueOf_40 rfl ?_
      refine J_gr hX (b + 12) fr_RX3_18 dX3_valueOf_41 (show K (b + 11) = 3 from hS 11 (by decide)) rfl ?_
      refine J_iload_n hX dX3_valueOf_44 rfl ?_
      refine J_iald hX dX3_valueOf_45 (show K (b + 12) = 1000 + 8 from hS 12 (by decide)) ⟨by omega, by omega⟩ (by decide) (fun r45 => ?_)
      exact J_retI hX hQ dX3_valueOf_46 (by first | (exfalso; omega) | (unfold scv; first | (rw [if_pos (by omega)]; rfl) | (rw [if_neg (by omega), if_pos (by omega)]; rfl) | (rw [if_neg (by omega), if_neg (by omega), if_pos (by omega)]; rfl) | (rw [if_neg (by omega), if_neg (by omega), if_neg (by omega)]; rfl))) rfl rfl (Nat.zero_le _) (Nat.zero_le _)
    · skip
      refine J_tin hX (34) 47 dX3_valueOf_13 (by omega) (by omega) (by rw [e0]; rfl) (by decide) ?_
      refine J_aload_n hX dX3_valueOf_47 rfl ?_
      refine J_gr hX (b + 13) fr_RX3_22 dX3_valueOf_48 (show K (b + 11) = 3 from hS 11 (by decide)) rfl ?_
      refine J_iload_n hX dX3_valueOf_51 rfl ?_
      refine J_iald hX dX3_valueOf_52 (show K (b + 13) = 1000 + 8 from hS 13 (by decide)) ⟨by omega, by omega⟩ (by decide) (fun r52 => ?_)
      exact J_retI hX hQ dX3_valueOf_53 (by first | (exfalso; omega) | (unfold scv; first | (rw [if_pos (by omega)]; rfl) | (rw [if_neg (by omega), if_pos (by omega)]; rfl) | (rw [if_neg (by omega), if_neg (by omega), if_pos (by omega)]; rfl) | (rw [if_neg (by omega), if_neg (by omega), if_neg (by omega)]; rfl))) rfl rfl (Nat.zero_le _) (Nat.zero_le _)
    · skip
      refine J_tin hX (41) 54 dX3_valueOf_13 (by omega) (by omega) (by rw [e0]; rfl) (by decide) ?_
      refine J_aload_n hX dX3_valueOf_54 rfl ?_
      refine J_gr hX (b + 14) fr_RX3_25 dX3_valueOf_55 (show K (b + 11) = 3 from hS 11 (by decide)) rfl ?_
      refine J_iload_n hX dX3_valueOf_58 rfl ?_
      refine J_iald hX dX3_valueOf_59 (show K (b + 14) = 1000 + 8 from hS 14 (by decide)) ⟨by omega, by omega⟩ (by decide) (fun r59 => ?_)
      exact J_retI hX hQ dX3_valueOf_60 (by first | (exfalso; omega) | (unfold scv; first | (rw [if_pos (by omega)]; rfl) | (rw [if_neg (by omega), if_pos (by omega)]; rfl) | (rw [if_neg (by omega), if_neg (by omega), if_pos (by omega)]; rfl) | (rw [if_neg (by omega), if_neg (by omega), if_neg (by omega)]; rfl))) rfl rfl (Nat.zero_le _) (Nat.zero_le _)
    · skip
      refine J_tout hX 61 dX3_valueOf_13 (by omega) (by omega) (by decide) ?_
      refine J_aload_n hX dX3_valueOf_61 rfl ?_
      refine J_iload_n hX dX3_valueOf_62 rfl ?_
      refine J_callVI hX _ dX3_valueOf_63 cw_RX3_61 (m_X3_beginOf hS hW (by omega)) ⟨(show K (b + 11) = 3 from hS 11 (by decide)), by decide, by decide, rfl⟩ rfl (Nat.le_of_ble_eq_true rfl) (by decide) ⟨Nat.zero_le _, Nat.zero_le _⟩ (fun r63 => ?_)
      exact J_retI hX hQ dX3_valueOf_66 (by first | (exfalso; omega) | (unfold scv; first | (rw [if_pos (by omega)]; rfl) | (rw [if_neg (by omega), if_pos (by omega)]; rfl) | (rw [if_neg (by omega), if_neg (by omega), if_pos (by omega)]; rfl) | (rw [if_neg (by omega), if_neg (by omega), if_neg (by omega)]; rfl))) rfl rfl (Nat.zero_le _) (Nat.zero_le _)
  · refine J_sipush hX dX3_valueOf_8 rfl ?_
    exact J_retI hX hQ dX3_valueOf_11 (by first | (exfalso; omega) | (unfold scv; first | (rw [if_pos (by omega)]; rfl) | (rw [if_neg (by omega), if_pos (by omega)]; rfl) | (rw [if_neg (by omega), if_neg (by omega), if_pos (by omega)]; rfl) | (rw [if_neg (by omega), if_neg (by omega), if_neg (by omega)]; rfl))) rfl rfl (Nat.zero_le _) (Nat.zero_le _)
-- X6_shiftDown
set_option maxHeartbeats 4000000 in
set_option maxRecDepth 100000 in
theorem m_X6_shiftDown {E : EE} {K : Nat → Nat} {M : MM} {b : Nat} {f t : Int} (hS : StageK K b) (hf : has M b f) (ht : has M b t) (hrg : ∀ r, 3 ≤ r → r ≤ 9 → i32 (M (b + r) f)) : CnM E 1 yX6_shiftDown cX6_shiftDown 3 none [.ref (b + 1), vI f, vI t] K M (fun r9 M2 => r9 = none ∧ M2 = shM M b f t) := by
  refine Cn_of RX6 (plainFor_of_name (by decide)) rfl (Nat.le_of_ble_eq_true rfl) (fun X hX hQ => ?_)
  refine J_aload_n hX dX6_shiftDown_0 rfl ?_
  refine J_iload_n hX dX6_shiftDown_1 rfl ?_
  refine J_callVB hX _ dX6_shiftDown_2 cw_RX6_47 (m_X6_has hS (by omega)) ⟨(show K (b + 1) = 6 from hS 1 (by decide)), by decide, by decide, rfl⟩ rfl (Nat.le_of_ble_eq_true rfl) (by decide) ⟨Nat.zero_le _, Nat.zero_le _⟩ ?_
  refine J_ifb_eq hX 100 dX6_shiftDown_5 (by decide) (fun c5 => ?_) (fun c5 => ?_)
  · exact J_vret hX hQ dX6_shiftDown_100 ⟨rfl, by first | (exfalso; omega) | (refine ⟨rfl, ?_⟩; funext i j; unfold shM; by_cases hj : j = t; (subst hj; (by_cases h3 : i = b + 3; (subst h3; rw [if_pos (by omega), fm99 _ (by omega), fm87 _ (by omega), fm75 _ (by omega), fm63 _ (by omega), fm51 _ (by omega), fm39 _ (by omega), vm27]); (by_cases h4 : i = b + 4; (subst h4; rw [if_pos (by omega), fm99 _ (by omega), fm87 _ (by omega), fm75 _ (by omega), fm63 _ (by omega), fm51 _ (by omega), vm39, fm27 _ (by omega)]); (by_cases h5 : i = b + 5; (subst h5; rw [if_pos (by omega), fm99 _ (by omega), fm87 _ (by omega), fm75 _ (by omega), fm63 _ (by omega), vm51, fm39 _ (by omega), fm27 _ (by omega)]); (by_cases h6 : i = b + 6; (subst h6; rw [if_pos (by omega), fm99 _ (by omega), fm87 _ (by omega), fm75 _ (by omega), vm63, fm51 _ (by omega), fm39 _ (by omega), fm27 _ (by omega)]); (by_cases h7 : i = b + 7; (subst h7; rw [if_pos (by omega), fm99 _ (by omega), fm87 _ (by omega), vm75, fm63 _ (by omega), fm51 _ (by omega), fm39 _ (by omega), fm27 _ (by omega)]); (by_cases h8 : i = b + 8; (subst h8; rw [if_pos (by omega), fm99 _ (by omega), vm87, fm75 _ (by omega), fm63 _ (by omega), fm51 _ (by omega), fm39 _ (by omega), fm27 _ (by omega)]); (by_cases h9 : i = b + 9; (subst h9; rw [if_pos (by omega), vm99, fm87 _ (by omega), fm75 _ (by omega), fm63 _ (by omega), fm51 _ (by omega), fm39 _ (by omega), fm27 _ (by omega)]); (rw [if_neg (by omega), fm99 _ (by omega), fm87 _ (by omega), fm75 _ (by omega), fm63 _ (by omega), fm51 _ (by omega), fm39 _ (by omega), fm27 _ (by omega)]))))))))); (rw [if_neg (by omega), gm99 _ _ hj, gm87 _ _ hj, gm75 _ _ hj, gm63 _ _ hj, gm51 _ _ hj, gm39 _ _ hj, gm27 _ _ hj]))⟩ (Nat.zero_le _) (Nat.zero_le _)
  · refine J_aload_n hX dX6_shiftDown_8 rfl ?_
    refine J_iload_n hX dX6_shiftDown_9 rfl ?_
    refine J_callVB hX _ dX6_shiftDown_10 cw_RX6_47 (m_X6_has hS (by omega)) ⟨(show K (b + 1) = 6 from hS 1 (by decide)), by decide, by decide, rfl⟩ rfl (Nat.le_of_ble_eq_true rfl) (by decide) ⟨Nat.zero_le _, Nat.zero_le _⟩ ?_
    refine J_ifb_eq hX 100 dX6_shiftDown_13 (by decide) (fun c13 => ?_) (fun c13 => ?_)
    · exact J_vret hX hQ dX6_shiftDown_100 ⟨rfl, by first | (exfalso; omega) | (refine ⟨rfl, ?_⟩; funext i j; unfold shM; by_cases hj : j = t; (subst hj; (by_cases h3 : i = b + 3; (subst h3; rw [if_pos (by omega), fm99 _ (by omega), fm87 _ (by omega), fm75 _ (by omega), fm63 _ (by omega), fm51 _ (by omega), fm39 _ (by omega), vm27]); (by_cases h4 : i = b + 4; (subst h4; rw [if_pos (by omega), fm99 _ (by omega), fm87 _ (by omega), fm75 _ (by omega), fm63 _ (by omega), fm51 _ (by omega), vm39, fm27 _ (by omega)]); (by_cases h5 : i = b + 5; (subst h5; rw [if_pos (by omega), fm99 _ (by omega), fm87 _ (by omega), fm75 _ (by omega), fm63 _ (by omega), vm51, fm39 _ (by omega), fm27 _ (by omega)]); (by_cases h6 : i = b + 6; (subst h6; rw [if_pos (by omega), fm99 _ (by omega), fm87 _ (by omega), fm75 _ (by omega), vm63, fm51 _ (by omega), fm39 _ (by omega), fm27 _ (by omega)]); (by_cases h7 : i = b + 7; (subst h7; rw [if_pos (by omega), fm99 _ (by omega), fm87 _ (by omega), vm75, fm63 _ (by omega), fm51 _ (by omega), fm39 _ (by omega), fm27 _ (by omega)]); (by_cases h8 : i = b + 8; (subst h8; rw [if_pos (by omega), fm99 _ (by omega), vm87, fm75 _ (by omega), fm63 _ (by omega), fm51 _ (by omega), fm39 _ (by omega), fm27 _ (by omega)]); (by_cases h9 : i = b + 9; (subst h9; rw [if_pos (by omega), vm99, fm87 _ (by omega), fm75 _ (by omega), fm63 _ (by omega), fm51 _ (by omega), fm39 _ (by omega), fm27 _ (by omega)]); (rw [if_neg (by omega), fm99 _ (by omega), fm87 _ (by omega), fm75 _ (by omega), fm63 _ (by omega), fm51 _ (by omega), fm39 _ (by omega), fm27 _ (by omega)]))))))))); (rw [if_neg (by omega), gm99 _ _ hj, gm87 _ _ hj, gm75 _ _ hj, gm63 _ _ hj, gm51 _ _ hj, gm39 _ _ hj, gm27 _ _ hj]))⟩ (Nat.zero_le _) (Nat.zero_le _)
    · refine J_aload_n hX dX6_shiftDown_16 rfl ?_
      refine J_gr hX (b + 3) fr_RX6_15 dX6_shiftDown_17 (show K (b + 1) = 6 from hS 1 (by decide)) rfl ?_
      refine J_iload_n hX dX6_shiftDown_20 rfl ?_
      refine J_aload_n hX dX6_shiftDown_21 rfl ?_
      refine J_gr hX (b + 3) fr_RX6_15 dX6_shiftDown_22 (show K (b + 1) = 6 from hS 1 (by decide)) rfl ?_
      refine J_iload_n hX dX6_shiftDown_25 rfl ?_
      refine J_iald hX dX6_shiftDown_26 (show K (b + 3) = 1000 + 20 from hS 3 (by decide)) ⟨by omega, by omega⟩ (by decide) (fun r26 => ?_)
      refine J_istA hX dX6_shiftDown_27 (show K (b + 3) = 1000 + 20 from hS 3 (by decide)) ⟨by omega, by omega⟩ (by decide) (by omega) (fun m27 hm27 => ?_)
      have fm27 : ∀ i, i ≠ b + 3 → m27 i = M i := fun i h => by rw [hm27]; exact mset_ne h
      have gm27 : ∀ i j, j ≠ t → m27 i j = M i j := fun i j h => by rw [hm27]; exact mset_nj h
      have vm27 := (congrFun (congrFun hm27 (b + 3)) (t)).trans mset_eq
      refine J_aload_n hX dX6_shiftDown_28 rfl ?_
      refine J_gr hX (b + 4) fr_RX6_18 dX6_shiftDown_29 (show K (b + 1) = 6 from hS 1 (by decide)) rfl ?_
      refine J_iload_n hX dX6_shiftDown_32 rfl ?_
      refine J_aload_n hX dX6_shiftDown_33 rfl ?_
      refine J_gr hX (b + 4) fr_RX6_18 dX6_shiftDown_34 (show K (b + 1) = 6 from hS 1 (by decide)) rfl ?_
      refine J_iload_n hX dX6_shiftDown_37 rfl ?_
      refine J_iald hX dX6_shiftDown_38 (show K (b + 4) = 1000 + 20 from hS 4 (by decide)) ⟨by omega, by omega⟩ (by decide) (fun r38 => ?_)
      refine J_istA hX dX6_shiftDown_39 (show K (b + 4) = 1000 + 20 from hS 4 (by decide)) ⟨by omega, by omega⟩ (by decide) (by omega) (fun m39 hm39 => ?_)
      have fm39 : ∀ i, i ≠ b + 4 → m39 i = m27 i := fun i h => by rw [hm39]; exact mset_ne h
      have gm39 : ∀ i j, j ≠ t → m39 i j = m27 i j := fun i j h => by rw [hm39]; exact mset_nj h
      have vm39 := (congrFun (congrFun hm39 (b + 4)) (t)).trans mset_eq
      refine J_aload_n hX dX6_shiftDown_40 rfl ?_
      refine J_gr hX (b + 5) fr_RX6_21 dX6_shiftDown_41 (show K (b + 1) = 6 from hS 1 (by decide)) rfl ?_
      refine J_iload_n hX dX6_shiftDown_44 rfl ?_
      refine J_aload_n hX dX6_shiftDown_45 rfl ?_
      refine J_gr hX (b + 5) fr_RX6_21 dX6_shiftDown_46 (show K (b + 1) = 6 from hS 1 (by decide)) rfl ?_
      refine J_iload_n hX dX6_shiftDown_49 rfl ?_
      refine J_iald hX dX6_shiftDown_50 (show K (b + 5) = 1000 + 20 from hS 5 (by decide)) ⟨by omega, by omega⟩ (by decide) (fun r50 => ?_)
      refine J_istA hX dX6_shiftDown_51 (show K (b + 5) = 1000 + 20 from hS 5 (by decide)) ⟨by omega, by omega⟩ (by decide) (by omega) (fun m51 hm51 => ?_)
      have fm51 : ∀ i, i ≠ b + 5 → m51 i = m39 i := fun i h => by rw [hm51]; exact mset_ne h
      have gm51 : ∀ i j, j ≠ t → m51 i j = m39 i j := fun i j h => by rw [hm51]; exact mset_nj h
      have vm51 := (congrFun (congrFun hm51 (b + 5)) (t)).trans mset_eq
      refine J_aload_n hX dX6_shiftDown_52 rfl ?_
      refine J_gr hX (b + 6) fr_RX6_24 dX6_shiftDown_53 (show K (b + 1) = 6 from hS 1 (by decide)) rfl ?_
      refine J_iload_n hX dX6_shiftDown_56 rfl ?_
      refine J_aload_n hX dX6_shiftDown_57 rfl ?_
      refine J_gr hX (b + 6) fr_RX6_24 dX6_shiftDown_58 (show K (b + 1) = 6 from hS 1 (by decide)) rfl ?_
      refine J_iload_n hX dX6_shiftDown_61 rfl ?_
      refine J_iald hX dX6_shiftDown_62 (show K (b + 6) = 1000 + 20 from hS 6 (by decide)) ⟨by omega, by omega⟩ (by decide) (fun r62 => ?_)
      refine J_istA hX dX6_shiftDown_63 (show K (b + 6) = 1000 + 20 from hS 6 (by decide)) ⟨by omega, by omega⟩ (by decide) (by omega) (fun m63 hm63 => ?_)
      have fm63 : ∀ i, i ≠ b + 6 → m63 i = m51 i := fun i h => by rw [hm63]; exact mset_ne h
      have gm63 : ∀ i j, j ≠ t → m63 i j = m51 i j := fun i j h => by rw [hm63]; exact mset_nj h
      have vm63 := (congrFun (congrFun hm63 (b + 6)) (t)).trans mset_eq
      refine J_aload_n hX dX6_shiftDown_64 rfl ?_
      refine J_gr hX (b + 7) fr_RX6_27 dX6_shiftDown_65 (show K (b + 1) = 6 from hS 1 (by decide)) rfl ?_
      refine J_iload_n hX dX6_shiftDown_68 rfl ?_
      refine J_aload_n hX dX6_shiftDown_69 rfl ?_
      refine J_gr hX (b + 7) fr_RX6_27 dX6_shiftDown_70 (show K (b + 1) = 6 from hS 1 (by decide)) rfl ?_
      refine J_iload_n hX dX6_shiftDown_73 rfl ?_
      refine J_iald hX dX6_shiftDown_74 (show K (b + 7) = 1000 + 20 from hS 7 (by decide)) ⟨by omega, by omega⟩ (by decide) (fun r74 => ?_)
      refine J_istA hX dX6_shiftDown_75 (show K (b + 7) = 1000 + 20 from hS 7 (by decide)) ⟨by omega, by omega⟩ (by decide) (by omega) (fun m75 hm75 => ?_)
      have fm75 : ∀ i, i ≠ b + 7 → m75 i = m63 i := fun i h => by rw [hm75]; exact mset_ne h
      have gm75 : ∀ i j, j ≠ t → m75 i j = m63 i j := fun i j h => by rw [hm75]; exact mset_nj h
      have vm75 := (congrFun (congrFun hm75 (b + 7)) (t)).trans mset_eq
      refine J_aload_n hX dX6_shiftDown_76 rfl ?_
      refine J_gr hX (b + 8) fr_RX6_30 dX6_shiftDown_77 (show K (b + 1) = 6 from hS 1 (by decide)) rfl ?_
      refine J_iload_n hX dX6_shiftDown_80 rfl ?_
      refine J_aload_n hX dX6_shiftDown_81 rfl ?_
      refine J_gr hX (b + 8) fr_RX6_30 dX6_shiftDown_82 (show K (b + 1) = 6 from hS 1 (by decide)) rfl ?_
      refine J_iload_n hX dX6_shiftDown_85 rfl ?_
      refine J_iald hX dX6_shiftDown_86 (show K (b + 8) = 1000 + 20 from hS 8 (by decide)) ⟨by omega, by omega⟩ (by decide) (fun r86 => ?_)
      refine J_istA hX dX6_shiftDown_87 (show K (b + 8) = 1000 + 20 from hS 8 (by decide)) ⟨by omega, by omega⟩ (by decide) (by omega) (fun m87 hm87 => ?_)
      have fm87 : ∀ i, i ≠ b + 8 → m87 i = m75 i := fun i h => by rw [hm87]; exact mset_ne h
      have gm87 : ∀ i j, j ≠ t → m87 i j = m75 i j := fun i j h => by rw [hm87]; exact mset_nj h
      have vm87 := (congrFun (congrFun hm87 (b + 8)) (t)).trans mset_eq
      refine J_aload_n hX dX6_shiftDown_88 rfl ?_
      refine J_gr hX (b + 9) fr_RX6_33 dX6_shiftDown_89 (show K (b + 1) = 6 from hS 1 (by decide)) rfl ?_
      refine J_iload_n hX dX6_shiftDown_92 rfl ?_
      refine J_aload_n hX dX6_shiftDown_93 rfl ?_
      refine J_gr hX (b + 9) fr_RX6_33 dX6_shiftDown_94 (show K (b + 1) = 6 from hS 1 (by decide)) rfl ?_
      refine J_iload_n hX dX6_shiftDown_97 rfl ?_
      refine J_iald hX dX6_shiftDown_98 (show K (b + 9) = 1000 + 20 from hS 9 (by decide)) ⟨by omega, by omega⟩ (by decide) (fun r98 => ?_)
      refine J_istA hX dX6_shiftDown_99 (show K (b + 9) = 1000 + 20 from hS 9 (by decide)) ⟨by omega, by omega⟩ (by decide) (by omega) (fun m99 hm99 => ?_)
      have fm99 : ∀ i, i ≠ b + 9 → m99 i = m87 i := fun i h => by rw [hm99]; exact mset_ne h
      have gm99 : ∀ i j, j ≠ t → m99 i j = m87 i j := fun i j h => by rw [hm99]; exact mset_nj h
      have vm99 := (congrFun (congrFun hm99 (b + 9)) (t)).trans mset_eq
      exact J_vret hX hQ dX6_shiftDown_100 ⟨rfl, by first | (exfalso; omega) | (refine ⟨rfl, ?_⟩; funext i j; unfold shM; by_cases hj : j = t; (subst hj; (by_cases h3 : i = b + 3; (subst h3; rw [if_pos (by omega), fm99 _ (by omega), fm87 _ (by omega), fm75 _ (by omega), fm63 _ (by omega), fm51 _ (by omega), fm39 _ (by omega), vm27]); (by_cases h4 : i = b + 4; (subst h4; rw [if_pos (by omega), fm99 _ (by omega), fm87 _ (by omega), fm75 _ (by omega), fm63 _ (by omega), fm51 _ (by omega), vm39, fm27 _ (by omega)]); (by_cases h5 : i = b + 5; (subst h5; rw [if_pos (by omega), fm99 _ (by omega), fm87 _ (by omega), fm75 _ (by omega), fm63 _ (by omega), vm51, fm39 _ (by omega), fm27 _ (by omega)]); (by_cases h6 : i = b + 6; (subst h6; rw [if_pos (by omega), fm99 _ (by omega), fm87 _ (by omega), fm75 _ (by omega), vm63, fm51 _ (by omega), fm39 _ (by omega), fm27 _ (by omega)]); (by_cases h7 : i = b + 7; (subst h7; rw [if_pos (by omega), fm99 _ (by omega), fm87 _ (by omega), vm75, fm63 _ (by omega), fm51 _ (by omega), fm39 _ (by omega), fm27 _ (by omega)]); (by_cases h8 : i = b + 8; (subst h8; rw [if_pos (by omega), fm99 _ (by omega), vm87, fm75 _ (by omega), fm63 _ (by omega), fm51 _ (by omega), fm39 _ (by omega), fm27 _ (by omega)]); (by_cases h9 : i = b + 9; (subst h9; rw [if_pos (by omega), vm99, fm87 _ (by omega), fm75 _ (by omega), fm63 _ (by omega), fm51 _ (by omega), fm39 _ (by omega), fm27 _ (by omega)]); (rw [if_neg (by omega), fm99 _ (by omega), fm87 _ (by omega), fm75 _ (by omega), fm63 _ (by omega), fm51 _ (by omega), fm39 _ (by omega), fm27 _ (by omega)]))))))))); (rw [if_neg (by omega), gm99 _ _ hj, gm87 _ _ hj, gm75 _ _ hj, gm63 _ _ hj, gm51 _ _ hj, gm39 _ _ hj, gm27 _ _ hj]))⟩ (Nat.zero_le _) (Nat.zero_le _)
