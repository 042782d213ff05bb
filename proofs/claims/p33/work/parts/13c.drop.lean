/-! removal and copies -/
theorem cell_congr {c : ClassId} {n : Nat} {f g : Nat → Int32} (h : ∀ j, j < n → f j = g j) : vp_cell c (n, .inl f) = vp_cell c (n, .inl g) := by
  show arrV c n (fun j => .int (f j)) = arrV c n (fun j => .int (g j))
  unfold arrV
  congr 2
  funext j
  show Value.int (f j.val) = Value.int (g j.val)
  rw [h j.val j.isLt]
theorem ceS_congr {E : EE} {ad : Nat → Nat} {k i : Nat} {M M3 : MM} (hk : k < 10) (h4 : k ≠ 4) (h : ∀ f : Nat, f < nf k → ro k f = none → M3 i f = M i f) : ce E ad k i M3 = ce E ad k i M := by
  unfold ce
  rw [if_pos hk, if_pos hk]
  congr 2
  apply List.map_congr_left
  intro f hf
  unfold fv
  cases hr : ro k f with
  | some o => rfl
  | none =>
    dsimp only
    rw [if_neg (fun q : k = 4 ∧ f = 4 => h4 q.1), if_neg (fun q : k = 4 ∧ f = 4 => h4 q.1), h f (List.mem_range.mp hf) hr]
/-- which places of a row of a stage count -/
def rel (k : Nat) (j : Int) : Prop := (k = 0 ∧ 3 ≤ j ∧ j ≤ 7) ∨ (k = 1 ∧ j = 0) ∨ (2 ≤ k ∧ k ≤ 10 ∧ 0 ≤ j ∧ j < 20) ∨ (k = 11 ∧ 0 ≤ j ∧ j ≤ 3) ∨ (12 ≤ k ∧ k ≤ 14 ∧ 0 ≤ j ∧ j < 8) ∨ (k = 15 ∧ 0 ≤ j ∧ j < 4)
theorem rel_ce {E : EE} {ad : Nat → Nat} {H : Heap} {b k : Nat} {M M3 : MM} (hk : k < 16) (h : ∀ j, rel k j → M3 (b + k) j = M (b + k) j) (ha : va_at E.1 vwCl (ad (b + k), ce E ad (kS k) (b + k) M) H) : va_at E.1 vwCl (ad (b + k), ce E ad (kS k) (b + k) M3) H := by
  have arr : ∀ n : Nat, kS k = 1000 + n → (∀ j : Int, 0 ≤ j → j < n → rel k j) → va_at E.1 vwCl (ad (b + k), ce E ad (kS k) (b + k) M3) H := by
    intro n hn hr
    rw [hn, ce_arr] at ha ⊢
    show H[ad (b + k)]? = some (vp_cell _ _)
    rw [show vp_cell E.2.1.1 (n, .inl (fun j => Int32.ofInt (M3 (b + k) j))) = vp_cell E.2.1.1 (n, .inl (fun j => Int32.ofInt (M (b + k) j))) from cell_congr (fun j hj => by rw [h j (hr j (by omega) (by omega))])]
    exact ha
  have obj : kS k < 10 → kS k ≠ 4 → (∀ f : Nat, f < nf (kS k) → ro (kS k) f = none → rel k f) → va_at E.1 vwCl (ad (b + k), ce E ad (kS k) (b + k) M3) H := by
    intro h1 h2 hr
    rw [ceS_congr h1 h2 (fun f hf hn => h f (hr f hf hn))]
    exact ha
  have hc : k = 0 ∨ k = 1 ∨ (2 ≤ k ∧ k ≤ 10) ∨ k = 11 ∨ (12 ≤ k ∧ k ≤ 14) ∨ k = 15 := by omega
  rcases hc with e | e | e | e | e | e
  · subst e
    refine obj (by decide) (by decide) (fun f hf hn => Or.inl ⟨rfl, ?_⟩)
    have : ∀ f : Nat, f < 8 → ro 5 f = none → 3 ≤ f ∧ f ≤ 7 := by decide
    have := this f hf hn; omega
  · subst e
    refine obj (by decide) (by decide) (fun f hf hn => Or.inr (Or.inl ⟨rfl, ?_⟩))
    have : ∀ f : Nat, f < 10 → ro 6 f = none → f = 0 := by decide
    have := this f hf hn; omega
  · refine arr 20 ?_ (fun j j0 j1 => ?_)
    · have : ∀ k : Nat, k < 16 → 2 ≤ k → k ≤ 10 → kS k = 1000 + 20 := by decide
      exact this k hk e.1 e.2
    · unfold rel; omega
  · subst e
    refine obj (by decide) (by decide) (fun f hf hn => ?_)
    have : ∀ f : Nat, f < 7 → ro 3 f = none → f ≤ 3 := by decide
    have := this f hf hn
    unfold rel; omega
  · refine arr 8 ?_ (fun j j0 j1 => ?_)
    · have : ∀ k : Nat, k < 16 → 12 ≤ k → k ≤ 14 → kS k = 1000 + 8 := by decide
      exact this k hk e.1 e.2
    · unfold rel; omega
  · subst e
    refine arr 4 (by decide) (fun j j0 j1 => ?_)
    unfold rel; omega
theorem rg_S {k : Nat} {j x : Int} (hk : k < 16) (h : rg (kS k) j x) : i32 x := by
  have : ∀ k : Nat, k < 16 → kS k ≠ 9 ∧ kS k ≠ 11 ∧ kS k ≠ 12 := by decide
  have q := this k hk
  exact rg_i h (fun z => q.1 z.1) q.2.1 q.2.2
/-- pages are alike but for the row of new numbers -/
def Alk (M : MM) (b : Nat) (M2 : MM) (b2 : Nat) : Prop := ∀ k, k < 16 → k ≠ 10 → M2 (b2 + k) = M (b + k)
theorem J_page {E : EE} {X : JX} {pc : Nat} {L : List (Nat × Value)} {st : List Value} {K : Nat → Nat} {M : MM} {a c b b2 : Nat} (hS : StageK K b) (hS2 : StageK K b2) (hd : b + 16 ≤ b2 ∨ b2 + 16 ≤ b) (hag : ∀ k, k < 16 → k ≠ 10 → ∀ j, rel k j → M (b2 + k) j = M (b + k) j)
    (k1 : ∀ M3, (∀ i, i < b2 ∨ b2 + 16 ≤ i → M3 i = M i) → Alk M b M3 b2 → J E X pc L st K M3 a c) : J E X pc L st K M a c := by
  let M3 : MM := fun i => if b2 ≤ i ∧ i < b2 + 16 ∧ i ≠ b2 + 10 then M (b + (i - b2)) else M i
  have e1 : ∀ i, i < b2 ∨ b2 + 16 ≤ i → M3 i = M i := fun i hi => if_neg (by omega)
  have e2 : Alk M b M3 b2 := fun k hk h10 => by
    show (if _ then _ else _) = _
    rw [if_pos (by omega), show b2 + k - b2 = k by omega]
  have e3 : M3 (b2 + 10) = M (b2 + 10) := if_neg (by omega)
  refine fun ad H locs ls hR he hs hv => k1 M3 e1 e2 ad H locs ls ?_ he hs hv
  obtain ⟨r1, r2, r3, r4, r5⟩ := hR
  refine ⟨fun i hi => ?_, r2, r3, r4, fun i j hi => ?_⟩
  · by_cases h : b2 ≤ i ∧ i < b2 + 16
    · obtain ⟨k, rfl⟩ : ∃ k, i = b2 + k := ⟨i - b2, by omega⟩
      have q := r1 _ hi
      rw [hS2 k (by omega)] at q ⊢
      refine rel_ce (by omega) (fun j hj => ?_) q
      by_cases z : k = 10
      · subst z; rw [e3]
      · rw [e2 k (by omega) z, hag k (by omega) z j hj]
    · have q := r1 i hi
      have em : M3 i = M i := e1 i (by omega)
      by_cases h9 : K i < 10
      · by_cases h4 : K i = 4
        · have : ce E ad (K i) i M3 = ce E ad (K i) i M := by unfold ce fvr fv; rw [em]
          rw [this]; exact q
        · rw [ceS_congr h9 h4 (fun f _ _ => by rw [em])]; exact q
      · have : ce E ad (K i) i M3 = ce E ad (K i) i M := by unfold ce fvr fv; rw [if_neg h9, if_neg h9, em]
        rw [this]; exact q
  · by_cases h : b2 ≤ i ∧ i < b2 + 16 ∧ i ≠ b2 + 10
    · obtain ⟨k, rfl⟩ : ∃ k, i = b2 + k := ⟨i - b2, by omega⟩
      rw [e2 k (by omega) (by omega), hS2 k (by omega), ← hS k (by omega)]
      exact r5 _ j (by rw [hS k (by omega), ← hS2 k (by omega)]; exact hi)
    · have em : M3 i = M i := if_neg h
      rw [em]; exact r5 i j hi
theorem Alk.wf {T : Int} {M M2 : MM} {b b2 : Nat} (h : Alk M b M2 b2) (hW : WF T M b) : WF T M2 b2 := by
  have e0 : M2 b2 = M b := h 0 (by decide) (by decide)
  unfold WF WFs WFn WFc
  simp only [e0, h 1 (by decide) (by decide), h 2 (by decide) (by decide), h 3 (by decide) (by decide), h 4 (by decide) (by decide), h 5 (by decide) (by decide), h 6 (by decide) (by decide), h 7 (by decide) (by decide), h 8 (by decide) (by decide), h 9 (by decide) (by decide), h 11 (by decide) (by decide), h 12 (by decide) (by decide), h 13 (by decide) (by decide), h 14 (by decide) (by decide), h 15 (by decide) (by decide)]
  exact hW
/-- S2 is S with node d and what is in it taken out -/
def Drd (S S2 : MM) (d : Int) : Prop := S2 1 0 = nwn S d (S 1 0) ∧ (∀ n : Int, 0 ≤ n → n < S 1 0 → ¬ gne S d n → (∀ r : Nat, 3 ≤ r → r ≤ 9 → S2 r (nwn S d n) = S r n) ∧ S2 2 (nwn S d n) = if 0 ≤ S 2 n then nwn S d (S 2 n) else -1000) ∧ S2 0 = S 0 ∧ ∀ r, 11 ≤ r → S2 r = S r
theorem Drp_end {M M2 M3 : MM} {b : Nat} {d : Int} {k : Nat} (h : Drp (stg M b) M M2 b d k) (hk : (k : Int) = M (b + 1) 0) (hf : ∀ i, i ≠ b + 1 → M3 i = M2 i) (hv : M3 (b + 1) 0 = nwn (stg M b) d k) : Drd (stg M b) (stg M3 b) d ∧ ∀ i, i < b + 1 ∨ b + 10 < i → M3 i = M i := by
  obtain ⟨h1, h2, h3, h4⟩ := h
  have hx : ∀ i, i < b + 1 ∨ b + 10 < i → M3 i = M i := fun i hi => by rw [hf i (by omega)]; exact h4 i (by omega)
  refine ⟨⟨?_, fun n n0 n1 ng => ?_, ?_, fun r hr => ?_⟩, hx⟩
  · show M3 (b + 1) 0 = nwn _ d (M (b + 1) 0)
    rw [hv, hk]
  · have n2 : n < M (b + 1) 0 := n1
    have q := h3 n n0 (by omega) ng
    refine ⟨fun r r0 r1 => ?_, ?_⟩
    · have s2 : stg M3 b r = M3 (b + r) := if_pos (by omega)
      have s1 : stg M b r = M (b + r) := if_pos (by omega)
      rw [s2, s1, hf _ (by omega)]; exact q.1 r r0 r1
    · show M3 (b + 2) _ = if 0 ≤ M (b + 2) n then nwn _ d (M (b + 2) n) else -1000
      rw [hf _ (by omega)]; exact q.2
  · exact hx b (by omega)
  · unfold stg
    by_cases q : r < 16
    · rw [if_pos q, if_pos q, hx _ (by omega)]
    · rw [if_neg q, if_neg q]
theorem nwn_on {S : MM} {d : Int} : ∀ (k : Nat) (j : Int), 0 ≤ j → j < nwn S d k → ∃ n : Int, 0 ≤ n ∧ n < k ∧ ¬ gne S d n ∧ nwn S d n = j
  | 0, j, h0, h1 => by
    have : nwn S d ((0 : Nat) : Int) = 0 := rfl
    omega
  | k + 1, j, h0, h1 => by
    by_cases q : gne S d k
    · rw [nwn_f q] at h1
      obtain ⟨n, a1, a2, a3⟩ := nwn_on (S := S) (d := d) k j h0 h1
      exact ⟨n, a1, by omega, a3⟩
    · rw [nwn_t q] at h1
      by_cases e : j = nwn S d k
      · exact ⟨k, by omega, by omega, q, e.symm⟩
      · obtain ⟨n, a1, a2, a3⟩ := nwn_on (S := S) (d := d) k j h0 (by omega)
        exact ⟨n, a1, by omega, a3⟩
theorem Drd.wf {T : Int} {S S2 : MM} {d : Int} (h : Drd S S2 d) (hW : WFS T S) : WFS T S2 := by
  obtain ⟨h1, h2, h3, h4⟩ := h
  obtain ⟨hT, hs, hn, hc⟩ := id hW
  have hcn : ((S 1 0).toNat : Int) = S 1 0 := by unfold WFSs at hs; omega
  have hr := nwn_rng (S := S) (d := d) (n := S 1 0) (by unfold WFSs at hs; omega)
  refine ⟨hT, ?_, fun j j0 j1 => ?_, ?_⟩
  · unfold WFSs at hs ⊢
    rw [h3, h4 11 (by decide), h4 15 (by decide), h1]
    omega
  · rw [h1] at j1
    obtain ⟨n, n0, n1, ng, rfl⟩ := nwn_on (S := S) (d := d) (S 1 0).toNat j j0 (by rw [hcn]; exact j1)
    rw [hcn] at n1
    have q := h2 n n0 n1 ng
    have w := hn n n0 n1
    have r0 := q.1 3 (by decide) (by decide)
    rw [r0, q.1 4 (by decide) (by decide), q.1 5 (by decide) (by decide), q.1 6 (by decide) (by decide), q.1 7 (by decide) (by decide), q.1 8 (by decide) (by decide), q.1 9 (by decide) (by decide), q.2]
    refine ⟨?_, w.2⟩
    rcases w.1 with w1 | w1
    · rw [if_neg (by omega)]; exact Or.inl ⟨rfl, w1.2⟩
    · have pg : ¬ gne S d (S 2 n) := fun g => ng ((gne_iff hW n0 n1).mpr (Or.inr ⟨w1.1, g⟩))
      have q2 := h2 (S 2 n) w1.1 (by omega) pg
      have l := nwn_lt (S := S) (d := d) n.toNat (S 2 n) w1.1 (by omega) pg
      rw [show ((n.toNat : Nat) : Int) = n by omega] at l
      rw [if_pos w1.1]
      exact Or.inr ⟨(nwn_rng w1.1).1, l, by rw [q2.1 7 (by decide) (by decide)]; exact w1.2.2.1, by rw [q2.1 3 (by decide) (by decide)]; exact w1.2.2.2⟩
  · unfold WFSc at hc ⊢
    rw [h4 11 (by decide), h4 12 (by decide), h4 13 (by decide), h4 14 (by decide)]
    exact hc

-- X6_drop
set_option maxHeartbeats 4000000 in
set_option maxRecDepth 100000 in
theorem m_X6_drop {E : EE} {K : Nat → Nat} {M : MM} {b : Nat} {T d : Int} (hS : StageK K b) (hW : WF T M b) (hd : i32 d) : CnM E 2 yX6_drop cX6_drop 6 (Option.some FieldType.int) [.ref (b + 1), vI d] K M (fun r9 M2 => r9 = some (vI (nwn (stg M b) d (M (b + 1) 0))) ∧ Drd (stg M b) (stg M2 b) d ∧ ∀ i, i < b + 1 ∨ b + 10 < i → M2 i = M i) := by
  have hW0 := hW
  obtain ⟨hT0, ⟨ws1, ws2, ws3, ws4, ws5, ws6, ws7, ws8, ws9, ws10, ws11, ws12, ws13, ws14⟩, hWn, hWc⟩ := hW0
  refine Cn_of RX6 (plainFor_of_name (by decide)) rfl (Nat.le_of_ble_eq_true rfl) (fun X hX hQ => ?_)
  refine J_iconst hX dX6_drop_0 ?_
  refine J_istore_n hX dX6_drop_1 (by decide) ?_
  refine J_iconst hX dX6_drop_2 ?_
  refine J_istore_n hX dX6_drop_3 (by decide) ?_
  have HL4 : ∀ k : Nat, k ≤ (M (b + 1) 0).toNat → ∀ (q : Int) (M2 : MM), (q = nwn (stg M b) d k ∧ Drp (stg M b) M M2 b d k) → J E X 4 [(0, .ref (b + 1)), (1, vI d), (2, vI q), (3, vI (k : Int))] [] K M2 0 0 := by
    refine up_ind ((M (b + 1) 0).toNat) (fun k hk4 ih4 => ?_)
    intro q  M2  hi4
    obtain ⟨hq4, hD⟩ := hi4
    subst hq4
    have d4 := hD.2.2.2 (b + 1) (by omega)
    have w0 := congrFun d4 0
    have hk := nwn_rng (S := stg M b) (d := d) (n := (k : Int)) (by omega)
    have p2 := hD.2.1 2 (by decide) (by decide) (k : Int) hk.2
    refine J_iload_n hX dX6_drop_4 rfl ?_
    refine J_aload_n hX dX6_drop_5 rfl ?_
    refine J_geti hX fi_RX6_39 dX6_drop_6 (show K (b + 1) = 6 from hS 1 (by decide)) (fun r6 => ?_)
    refine J_icmp_ge hX 125 dX6_drop_9 (by omega) (by omega) (by decide) (fun c9 => ?_) (fun c9 => ?_)
    · refine J_aload_n hX dX6_drop_125 rfl ?_
      refine J_iload_n hX dX6_drop_126 rfl ?_
      refine J_putA hX fw_RX6_39 dX6_drop_127 (show K (b + 1) = 6 from hS 1 (by decide)) (by omega) (Or.inl rfl) (fun m127 hm127 => ?_)
      have fm127 : ∀ i, i ≠ b + 1 → m127 i = M2 i := fun i h => by rw [hm127]; exact mset_ne h
      have gm127 : ∀ i j, j ≠ 0 → m127 i j = M2 i j := fun i j h => by rw [hm127]; exact mset_nj h
      have vm127 := (congrFun (congrFun hm127 (b + 1)) 0).trans mset_eq
      refine J_iload_n hX dX6_drop_130 rfl ?_
      exact J_iret hX hQ dX6_drop_131 ⟨rfl, by exact ⟨by rw [show M (b + 1) 0 = (k : Int) by omega], Drp_end hD (by omega) fm127 vm127⟩⟩ (Nat.zero_le _) (Nat.zero_le _)
    · refine J_iload_n hX dX6_drop_12 rfl ?_
      refine J_bipush hX dX6_drop_13 rfl ?_
      refine J_icmp_ge hX 125 dX6_drop_15 (by omega) (by decide) (by decide) (fun c15 => ?_) (fun c15 => ?_)
      · refine J_aload_n hX dX6_drop_125 rfl ?_
        refine J_iload_n hX dX6_drop_126 rfl ?_
        refine J_putA hX fw_RX6_39 dX6_drop_127 (show K (b + 1) = 6 from hS 1 (by decide)) (by omega) (Or.inl rfl) (fun m127 hm127 => ?_)
        have fm127 : ∀ i, i ≠ b + 1 → m127 i = M2 i := fun i h => by rw [hm127]; exact mset_ne h
        have gm127 : ∀ i j, j ≠ 0 → m127 i j = M2 i j := fun i j h => by rw [hm127]; exact mset_nj h
        have vm127 := (congrFun (congrFun hm127 (b + 1)) 0).trans mset_eq
        refine J_iload_n hX dX6_drop_130 rfl ?_
        exact J_iret hX hQ dX6_drop_131 ⟨rfl, by exact ⟨by rw [show M (b + 1) 0 = (k : Int) by omega], Drp_end hD (by omega) fm127 vm127⟩⟩ (Nat.zero_le _) (Nat.zero_le _)
      · have hn := hWn (k : Int) (by omega) (by omega)
        have gi := gne_iff hW.S (d := d) (n := (k : Int)) (by omega) (by show (k : Int) < M (b + 1) 0; omega)
        have sp : stg M b 2 (k : Int) = M (b + 2) (k : Int) := rfl
        rw [sp, ← p2] at gi
        have dr := hD.1 (M2 (b + 2) k)
        refine J_aload_n hX dX6_drop_18 rfl ?_
        refine J_gr hX (b + 2) fr_RX6_9 dX6_drop_19 (show K (b + 1) = 6 from hS 1 (by decide)) rfl ?_
        refine J_iload_n hX dX6_drop_22 rfl ?_
        refine J_iald hX dX6_drop_23 (show K (b + 2) = 1000 + 20 from hS 2 (by decide)) ⟨by omega, by omega⟩ (by decide) (fun r23 => ?_)
        refine J_istore hX dX6_drop_24 (by decide) ?_
        refine J_iload hX dX6_drop_26 rfl ?_
        refine J_if_lt hX 41 dX6_drop_28 (by omega) (by decide) (fun c28 => ?_) (fun c28 => ?_)
        · refine J_iconst hX dX6_drop_41 ?_
          refine J_istore hX dX6_drop_42 (by decide) ?_
          refine J_iload_n hX dX6_drop_44 rfl ?_
          refine J_iload_n hX dX6_drop_45 rfl ?_
          refine J_icmp_eq hX 67 dX6_drop_46 (by omega) (by omega) (by decide) (fun c46 => ?_) (fun c46 => ?_)
          · have hg : gne (stg M b) d k := gi.mpr (by first | exact Or.inl (by omega) | exact Or.inr ⟨by omega, by
                      by_cases g : gne (stg M b) d (M2 (b + 2) k)
                      · exact g
                      · have z := dr (by omega) (by omega)
                        rw [if_neg g] at z
                        have := (nwn_rng (S := stg M b) (d := d) (n := M2 (b + 2) k) (by omega)).1
                        omega⟩)
            refine J_aload_n hX dX6_drop_67 rfl ?_
            refine J_gr hX (b + 10) fr_RX6_36 dX6_drop_68 (show K (b + 1) = 6 from hS 1 (by decide)) rfl ?_
            refine J_iload_n hX dX6_drop_71 rfl ?_
            refine J_sipush hX dX6_drop_72 rfl ?_
            refine J_istA hX dX6_drop_75 (show K (b + 10) = 1000 + 20 from hS 10 (by decide)) ⟨by omega, by omega⟩ (by decide) (by omega) (fun m75 hm75 => ?_)
            have fm75 : ∀ i, i ≠ b + 10 → m75 i = M2 i := fun i h => by rw [hm75]; exact mset_ne h
            have gm75 : ∀ i j, j ≠ (k : Int) → m75 i j = M2 i j := fun i j h => by rw [hm75]; exact mset_nj h
            have vm75 := (congrFun (congrFun hm75 (b + 10)) ((k : Int))).trans mset_eq
            refine J_goto hX 119 dX6_drop_76 (by decide) ?_
            refine J_iinc hX dX6_drop_119 rfl (by decide) ?_
            refine J_goto hX 4 dX6_drop_122 (by decide) ?_
            exact J_locI (ih4 (k + 1) (by omega) (by omega) _ _ ⟨by first | (rw [nwn_f hg]; done) | (rw [nwn_t hg]; done), by first | exact Drp_skip hD hg fm75 (fun j h => gm75 _ j h) vm75 | exact Drp_keep hD hg fm85 (fun j h => gm85 _ j h) vm85 hsd fm115 (fun j h => gm115 _ j h) vm115 hx⟩) rfl
          · refine J_iload hX dX6_drop_49 rfl ?_
            refine J_if_eq hX 79 dX6_drop_51 (by decide) (by decide) (fun _ => ?_) (fun h => absurd (by decide) h)
            have hg : ¬ gne (stg M b) d k := fun g => (gi.mp g).elim (fun e => by omega) (fun e => by first | omega | exact c64 ((dr (by omega) (by omega)).trans (if_pos e.2)))
            refine J_aload_n hX dX6_drop_79 rfl ?_
            refine J_gr hX (b + 10) fr_RX6_36 dX6_drop_80 (show K (b + 1) = 6 from hS 1 (by decide)) rfl ?_
            refine J_iload_n hX dX6_drop_83 rfl ?_
            refine J_iload_n hX dX6_drop_84 rfl ?_
            refine J_istA hX dX6_drop_85 (show K (b + 10) = 1000 + 20 from hS 10 (by decide)) ⟨by omega, by omega⟩ (by decide) (by omega) (fun m85 hm85 => ?_)
            have fm85 : ∀ i, i ≠ b + 10 → m85 i = M2 i := fun i h => by rw [hm85]; exact mset_ne h
            have gm85 : ∀ i j, j ≠ (k : Int) → m85 i j = M2 i j := fun i j h => by rw [hm85]; exact mset_nj h
            have vm85 := (congrFun (congrFun hm85 (b + 10)) ((k : Int))).trans mset_eq
            have w85 := congrFun (fm85 (b + 1) (by omega)) 0
            have hrg : ∀ r : Nat, 3 ≤ r → r ≤ 9 → i32 (m85 (b + r) (k : Int)) := fun r r0 r1 => by
                      rw [fm85 _ (by omega), hD.2.1 r (by omega) r1 k hk.2]
                      have hr : r = 3 ∨ r = 4 ∨ r = 5 ∨ r = 6 ∨ r = 7 ∨ r = 8 ∨ r = 9 := by omega
                      rcases hr with rfl | rfl | rfl | rfl | rfl | rfl | rfl <;> omega
            refine J_aload_n hX dX6_drop_86 rfl ?_
            refine J_iload_n hX dX6_drop_87 rfl ?_
            refine J_iload_n hX dX6_drop_88 rfl ?_
            refine J_callVM hX _ dX6_drop_89 cw_RX6_72 (m_X6_shiftDown hS (by omega) (by omega) hrg) ⟨(show K (b + 1) = 6 from hS 1 (by decide)), by decide, by decide, rfl⟩ rfl (Nat.le_of_ble_eq_true rfl) (by decide) ⟨Nat.zero_le _, Nat.zero_le _⟩ (fun r9 M89 q89 => ?_)
            obtain ⟨rfl, hsd⟩ := q89
            refine J_aload_n hX dX6_drop_92 rfl ?_
            refine J_gr hX (b + 2) fr_RX6_9 dX6_drop_93 (show K (b + 1) = 6 from hS 1 (by decide)) rfl ?_
            refine J_iload_n hX dX6_drop_96 rfl ?_
            refine J_iload hX dX6_drop_97 rfl ?_
            refine J_if_eq hX 112 dX6_drop_99 (by decide) (by decide) (fun _ => ?_) (fun h => absurd (by decide) h)
            have hx : (-1000 : Int) = if 0 ≤ M (b + 2) k then nwn (stg M b) d (M (b + 2) k) else -1000 := by rw [if_neg (by omega)]
            refine J_sipush hX dX6_drop_112 rfl ?_
            refine J_istA hX dX6_drop_115 (show K (b + 2) = 1000 + 20 from hS 2 (by decide)) ⟨by omega, by omega⟩ (by decide) (by omega) (fun m115 hm115 => ?_)
            have fm115 : ∀ i, i ≠ b + 2 → m115 i = M89 i := fun i h => by rw [hm115]; exact mset_ne h
            have gm115 : ∀ i j, j ≠ (nwn (stg M b) d (k : Int)) → m115 i j = M89 i j := fun i j h => by rw [hm115]; exact mset_nj h
            have vm115 := (congrFun (congrFun hm115 (b + 2)) ((nwn (stg M b) d (k : Int)))).trans mset_eq
            refine J_iinc hX dX6_drop_116 rfl (by decide) ?_
            refine J_iinc hX dX6_drop_119 rfl (by decide) ?_
            refine J_goto hX 4 dX6_drop_122 (by decide) ?_
            exact J_locI (ih4 (k + 1) (by omega) (by omega) _ _ ⟨by first | (rw [nwn_f hg]; done) | (rw [nwn_t hg]; done), by first | exact Drp_skip hD hg fm75 (fun j h => gm75 _ j h) vm75 | exact Drp_keep hD hg fm85 (fun j h => gm85 _ j h) vm85 hsd fm115 (fun j h => gm115 _ j h) vm115 hx⟩) rfl
        · refine J_iload hX dX6_drop_31 rfl ?_
          refine J_iload_n hX dX6_drop_33 rfl ?_
          refine J_icmp_ge hX 41 dX6_drop_34 (by omega) (by omega) (by decide) (fun c34 => ?_) (fun c34 => ?_)
          · refine J_iconst hX dX6_drop_41 ?_
            refine J_istore hX dX6_drop_42 (by decide) ?_
            refine J_iload_n hX dX6_drop_44 rfl ?_
            refine J_iload_n hX dX6_drop_45 rfl ?_
            refine J_icmp_eq hX 67 dX6_drop_46 (by omega) (by omega) (by decide) (fun c46 => ?_) (fun c46 => ?_)
            · have hg : gne (stg M b) d k := gi.mpr (by first | exact Or.inl (by omega) | exact Or.inr ⟨by omega, by
                        by_cases g : gne (stg M b) d (M2 (b + 2) k)
                        · exact g
                        · have z := dr (by omega) (by omega)
                          rw [if_neg g] at z
                          have := (nwn_rng (S := stg M b) (d := d) (n := M2 (b + 2) k) (by omega)).1
                          omega⟩)
              refine J_aload_n hX dX6_drop_67 rfl ?_
              refine J_gr hX (b + 10) fr_RX6_36 dX6_drop_68 (show K (b + 1) = 6 from hS 1 (by decide)) rfl ?_
              refine J_iload_n hX dX6_drop_71 rfl ?_
              refine J_sipush hX dX6_drop_72 rfl ?_
              refine J_istA hX dX6_drop_75 (show K (b + 10) = 1000 + 20 from hS 10 (by decide)) ⟨by omega, by omega⟩ (by decide) (by omega) (fun m75 hm75 => ?_)
              have fm75 : ∀ i, i ≠ b + 10 → m75 i = M2 i := fun i h => by rw [hm75]; exact mset_ne h
              have gm75 : ∀ i j, j ≠ (k : Int) → m75 i j = M2 i j := fun i j h => by rw [hm75]; exact mset_nj h
              have vm75 := (congrFun (congrFun hm75 (b + 10)) ((k : Int))).trans mset_eq
              refine J_goto hX 119 dX6_drop_76 (by decide) ?_
              refine J_iinc hX dX6_drop_119 rfl (by decide) ?_
              refine J_goto hX 4 dX6_drop_122 (by decide) ?_
              exact J_locI (ih4 (k + 1) (by omega) (by omega) _ _ ⟨by first | (rw [nwn_f hg]; done) | (rw [nwn_t hg]; done), by first | exact Drp_skip hD hg fm75 (fun j h => gm75 _ j h) vm75 | exact Drp_keep hD hg fm85 (fun j h => gm85 _ j h) vm85 hsd fm115 (fun j h => gm115 _ j h) vm115 hx⟩) rfl
            · refine J_iload hX dX6_drop_49 rfl ?_
              refine J_if_eq hX 79 dX6_drop_51 (by decide) (by decide) (fun _ => ?_) (fun h => absurd (by decide) h)
              have hg : ¬ gne (stg M b) d k := fun g => (gi.mp g).elim (fun e => by omega) (fun e => by first | omega | exact c64 ((dr (by omega) (by omega)).trans (if_pos e.2)))
              refine J_aload_n hX dX6_drop_79 rfl ?_
              refine J_gr hX (b + 10) fr_RX6_36 dX6_drop_80 (show K (b + 1) = 6 from hS 1 (by decide)) rfl ?_
              refine J_iload_n hX dX6_drop_83 rfl ?_
              refine J_iload_n hX dX6_drop_84 rfl ?_
              refine J_istA hX dX6_drop_85 (show K (b + 10) = 1000 + 20 from hS 10 (by decide)) ⟨by omega, by omega⟩ (by decide) (by omega) (fun m85 hm85 => ?_)
              have fm85 : ∀ i, i ≠ b + 10 → m85 i = M2 i := fun i h => by rw [hm85]; exact mset_ne h
              have gm85 : ∀ i j, j ≠ (k : Int) → m85 i j = M2 i j := fun i j h => by rw [hm85]; exact mset_nj h
              have vm85 := (congrFun (congrFun hm85 (b + 10)) ((k : Int))).trans mset_eq
              have w85 := congrFun (fm85 (b + 1) (by omega)) 0
              have hrg : ∀ r : Nat, 3 ≤ r → r ≤ 9 → i32 (m85 (b + r) (k : Int)) := fun r r0 r1 => by
                        rw [fm85 _ (by omega), hD.2.1 r (by omega) r1 k hk.2]
                        have hr : r = 3 ∨ r = 4 ∨ r = 5 ∨ r = 6 ∨ r = 7 ∨ r = 8 ∨ r = 9 := by omega
                        rcases hr with rfl | rfl | rfl | rfl | rfl | rfl | rfl <;> omega
              refine J_aload_n hX dX6_drop_86 rfl ?_
              refine J_iload_n hX dX6_drop_87 rfl ?_
              refine J_iload_n hX dX6_drop_88 rfl ?_
              refine J_callVM hX _ dX6_drop_89 cw_RX6_72 (m_X6_shiftDown hS (by omega) (by omega) hrg) ⟨(show K (b + 1) = 6 from hS 1 (by decide)), by decide, by decide, rfl⟩ rfl (Nat.le_of_ble_eq_true rfl) (by decide) ⟨Nat.zero_le _, Nat.zero_le _⟩ (fun r9 M89 q89 => ?_)
              obtain ⟨rfl, hsd⟩ := q89
              refine J_aload_n hX dX6_drop_92 rfl ?_
              refine J_gr hX (b + 2) fr_RX6_9 dX6_drop_93 (show K (b + 1) = 6 from hS 1 (by decide)) rfl ?_
              refine J_iload_n hX dX6_drop_96 rfl ?_
              refine J_iload hX dX6_drop_97 rfl ?_
              refine J_if_eq hX 112 dX6_drop_99 (by decide) (by decide) (fun _ => ?_) (fun h => absurd (by decide) h)
              have hx : (-1000 : Int) = if 0 ≤ M (b + 2) k then nwn (stg M b) d (M (b + 2) k) else -1000 := by rw [if_neg (by omega)]
              refine J_sipush hX dX6_drop_112 rfl ?_
              refine J_istA hX dX6_drop_115 (show K (b + 2) = 1000 + 20 from hS 2 (by decide)) ⟨by omega, by omega⟩ (by decide) (by omega) (fun m115 hm115 => ?_)
              have fm115 : ∀ i, i ≠ b + 2 → m115 i = M89 i := fun i h => by rw [hm115]; exact mset_ne h
              have gm115 : ∀ i j, j ≠ (nwn (stg M b) d (k : Int)) → m115 i j = M89 i j := fun i j h => by rw [hm115]; exact mset_nj h
              have vm115 := (congrFun (congrFun hm115 (b + 2)) ((nwn (stg M b) d (k : Int)))).trans mset_eq
              refine J_iinc hX dX6_drop_116 rfl (by decide) ?_
              refine J_iinc hX dX6_drop_119 rfl (by decide) ?_
              refine J_goto hX 4 dX6_drop_122 (by decide) ?_
              exact J_locI (ih4 (k + 1) (by omega) (by omega) _ _ ⟨by first | (rw [nwn_f hg]; done) | (rw [nwn_t hg]; done), by first | exact Drp_skip hD hg fm75 (fun j h => gm75 _ j h) vm75 | exact Drp_keep hD hg fm85 (fun j h => gm85 _ j h) vm85 hsd fm115 (fun j h => gm115 _ j h) vm115 hx⟩) rfl
          · refine J_iconst hX dX6_drop_37 ?_
            refine J_goto hX 42 dX6_drop_38 (by decide) ?_
            refine J_istore hX dX6_drop_42 (by decide) ?_
            refine J_iload_n hX dX6_drop_44 rfl ?_
            refine J_iload_n hX dX6_drop_45 rfl ?_
            refine J_icmp_eq hX 67 dX6_drop_46 (by omega) (by omega) (by decide) (fun c46 => ?_) (fun c46 => ?_)
            · have hg : gne (stg M b) d k := gi.mpr (by first | exact Or.inl (by omega) | exact Or.inr ⟨by omega, by
                        by_cases g : gne (stg M b) d (M2 (b + 2) k)
                        · exact g
                        · have z := dr (by omega) (by omega)
                          rw [if_neg g] at z
                          have := (nwn_rng (S := stg M b) (d := d) (n := M2 (b + 2) k) (by omega)).1
                          omega⟩)
              refine J_aload_n hX dX6_drop_67 rfl ?_
              refine J_gr hX (b + 10) fr_RX6_36 dX6_drop_68 (show K (b + 1) = 6 from hS 1 (by decide)) rfl ?_
              refine J_iload_n hX dX6_drop_71 rfl ?_
              refine J_sipush hX dX6_drop_72 rfl ?_
              refine J_istA hX dX6_drop_75 (show K (b + 10) = 1000 + 20 from hS 10 (by decide)) ⟨by omega, by omega⟩ (by decide) (by omega) (fun m75 hm75 => ?_)
              have fm75 : ∀ i, i ≠ b + 10 → m75 i = M2 i := fun i h => by rw [hm75]; exact mset_ne h
              have gm75 : ∀ i j, j ≠ (k : Int) → m75 i j = M2 i j := fun i j h => by rw [hm75]; exact mset_nj h
              have vm75 := (congrFun (congrFun hm75 (b + 10)) ((k : Int))).trans mset_eq
              refine J_goto hX 119 dX6_drop_76 (by decide) ?_
              refine J_iinc hX dX6_drop_119 rfl (by decide) ?_
              refine J_goto hX 4 dX6_drop_122 (by decide) ?_
              exact J_locI (ih4 (k + 1) (by omega) (by omega) _ _ ⟨by first | (rw [nwn_f hg]; done) | (rw [nwn_t hg]; done), by first | exact Drp_skip hD hg fm75 (fun j h => gm75 _ j h) vm75 | exact Drp_keep hD hg fm85 (fun j h => gm85 _ j h) vm85 hsd fm115 (fun j h => gm115 _ j h) vm115 hx⟩) rfl
            · refine J_iload hX dX6_drop_49 rfl ?_
              refine J_if_eq hX 79 dX6_drop_51 (by decide) (by decide) (fun h => absurd h (by decide)) (fun _ => ?_)
              refine J_aload_n hX dX6_drop_54 rfl ?_
              refine J_gr hX (b + 10) fr_RX6_36 dX6_drop_55 (show K (b + 1) = 6 from hS 1 (by decide)) rfl ?_
              refine J_iload hX dX6_drop_58 rfl ?_
              refine J_iald hX dX6_drop_60 (show K (b + 10) = 1000 + 20 from hS 10 (by decide)) ⟨by omega, by omega⟩ (by decide) (fun r60 => ?_)
              refine J_sipush hX dX6_drop_61 rfl ?_
              refine J_icmp_ne hX 79 dX6_drop_64 (by omega) (by decide) (by decide) (fun c64 => ?_) (fun c64 => ?_)
              · have hg : ¬ gne (stg M b) d k := fun g => (gi.mp g).elim (fun e => by omega) (fun e => by first | omega | exact c64 ((dr (by omega) (by omega)).trans (if_pos e.2)))
                refine J_aload_n hX dX6_drop_79 rfl ?_
                refine J_gr hX (b + 10) fr_RX6_36 dX6_drop_80 (show K (b + 1) = 6 from hS 1 (by decide)) rfl ?_
                refine J_iload_n hX dX6_drop_83 rfl ?_
                refine J_iload_n hX dX6_drop_84 rfl ?_
                refine J_istA hX dX6_drop_85 (show K (b + 10) = 1000 + 20 from hS 10 (by decide)) ⟨by omega, by omega⟩ (by decide) (by omega) (fun m85 hm85 => ?_)
                have fm85 : ∀ i, i ≠ b + 10 → m85 i = M2 i := fun i h => by rw [hm85]; exact mset_ne h
                have gm85 : ∀ i j, j ≠ (k : Int) → m85 i j = M2 i j := fun i j h => by rw [hm85]; exact mset_nj h
                have vm85 := (congrFun (congrFun hm85 (b + 10)) ((k : Int))).trans mset_eq
                have w85 := congrFun (fm85 (b + 1) (by omega)) 0
                have hrg : ∀ r : Nat, 3 ≤ r → r ≤ 9 → i32 (m85 (b + r) (k : Int)) := fun r r0 r1 => by
                          rw [fm85 _ (by omega), hD.2.1 r (by omega) r1 k hk.2]
                          have hr : r = 3 ∨ r = 4 ∨ r = 5 ∨ r = 6 ∨ r = 7 ∨ r = 8 ∨ r = 9 := by omega
                          rcases hr with rfl | rfl | rfl | rfl | rfl | rfl | rfl <;> omega
                refine J_aload_n hX dX6_drop_86 rfl ?_
                refine J_iload_n hX dX6_drop_87 rfl ?_
                refine J_iload_n hX dX6_drop_88 rfl ?_
                refine J_callVM hX _ dX6_drop_89 cw_RX6_72 (m_X6_shiftDown hS (by omega) (by omega) hrg) ⟨(show K (b + 1) = 6 from hS 1 (by decide)), by decide, by decide, rfl⟩ rfl (Nat.le_of_ble_eq_true rfl) (by decide) ⟨Nat.zero_le _, Nat.zero_le _⟩ (fun r9 M89 q89 => ?_)
                obtain ⟨rfl, hsd⟩ := q89
                refine J_aload_n hX dX6_drop_92 rfl ?_
                refine J_gr hX (b + 2) fr_RX6_9 dX6_drop_93 (show K (b + 1) = 6 from hS 1 (by decide)) rfl ?_
                refine J_iload_n hX dX6_drop_96 rfl ?_
                refine J_iload hX dX6_drop_97 rfl ?_
                refine J_if_eq hX 112 dX6_drop_99 (by decide) (by decide) (fun h => absurd h (by decide)) (fun _ => ?_)
                refine J_aload_n hX dX6_drop_102 rfl ?_
                refine J_gr hX (b + 10) fr_RX6_36 dX6_drop_103 (show K (b + 1) = 6 from hS 1 (by decide)) rfl ?_
                refine J_iload hX dX6_drop_106 rfl ?_
                have hx : M89 (b + 10) (M2 (b + 2) (k : Int)) = if 0 ≤ M (b + 2) k then nwn (stg M b) d (M (b + 2) k) else -1000 := by
                          rw [if_pos (by omega), hsd]; unfold shM; rw [if_neg (by omega), gm85 _ _ (by omega), dr (by omega) (by omega), if_neg (fun g => hg (gi.mpr (Or.inr ⟨by omega, g⟩))), p2]
                refine J_iald hX dX6_drop_108 (show K (b + 10) = 1000 + 20 from hS 10 (by decide)) ⟨by omega, by omega⟩ (by decide) (fun r108 => ?_)
                refine J_goto hX 115 dX6_drop_109 (by decide) ?_
                refine J_istA hX dX6_drop_115 (show K (b + 2) = 1000 + 20 from hS 2 (by decide)) ⟨by omega, by omega⟩ (by decide) (by omega) (fun m115 hm115 => ?_)
                have fm115 : ∀ i, i ≠ b + 2 → m115 i = M89 i := fun i h => by rw [hm115]; exact mset_ne h
                have gm115 : ∀ i j, j ≠ (nwn (stg M b) d (k : Int)) → m115 i j = M89 i j := fun i j h => by rw [hm115]; exact mset_nj h
                have vm115 := (congrFun (congrFun hm115 (b + 2)) ((nwn (stg M b) d (k : Int)))).trans mset_eq
                refine J_iinc hX dX6_drop_116 rfl (by decide) ?_
                refine J_iinc hX dX6_drop_119 rfl (by decide) ?_
                refine J_goto hX 4 dX6_drop_122 (by decide) ?_
                exact J_locI (ih4 (k + 1) (by omega) (by omega) _ _ ⟨by first | (rw [nwn_f hg]; done) | (rw [nwn_t hg]; done), by first | exact Drp_skip hD hg fm75 (fun j h => gm75 _ j h) vm75 | exact Drp_keep hD hg fm85 (fun j h => gm85 _ j h) vm85 hsd fm115 (fun j h => gm115 _ j h) vm115 hx⟩) rfl
              · have hg : gne (stg M b) d k := gi.mpr (by first | exact Or.inl (by omega) | exact Or.inr ⟨by omega, by
                          by_cases g : gne (stg M b) d (M2 (b + 2) k)
                          · exact g
                          · have z := dr (by omega) (by omega)
                            rw [if_neg g] at z
                            have := (nwn_rng (S := stg M b) (d := d) (n := M2 (b + 2) k) (by omega)).1
                            omega⟩)
                refine J_aload_n hX dX6_drop_67 rfl ?_
                refine J_gr hX (b + 10) fr_RX6_36 dX6_drop_68 (show K (b + 1) = 6 from hS 1 (by decide)) rfl ?_
                refine J_iload_n hX dX6_drop_71 rfl ?_
                refine J_sipush hX dX6_drop_72 rfl ?_
                refine J_istA hX dX6_drop_75 (show K (b + 10) = 1000 + 20 from hS 10 (by decide)) ⟨by omega, by omega⟩ (by decide) (by omega) (fun m75 hm75 => ?_)
                have fm75 : ∀ i, i ≠ b + 10 → m75 i = M2 i := fun i h => by rw [hm75]; exact mset_ne h
                have gm75 : ∀ i j, j ≠ (k : Int) → m75 i j = M2 i j := fun i j h => by rw [hm75]; exact mset_nj h
                have vm75 := (congrFun (congrFun hm75 (b + 10)) ((k : Int))).trans mset_eq
                refine J_goto hX 119 dX6_drop_76 (by decide) ?_
                refine J_iinc hX dX6_drop_119 rfl (by decide) ?_
                refine J_goto hX 4 dX6_drop_122 (by decide) ?_
                exact J_locI (ih4 (k + 1) (by omega) (by omega) _ _ ⟨by first | (rw [nwn_f hg]; done) | (rw [nwn_t hg]; done), by first | exact Drp_skip hD hg fm75 (fun j h => gm75 _ j h) vm75 | exact Drp_keep hD hg fm85 (fun j h => gm85 _ j h) vm85 hsd fm115 (fun j h => gm115 _ j h) vm115 hx⟩) rfl
  exact J_locI (HL4 0 (Nat.zero_le _) _ _ ⟨rfl, fun n n0 n1 => absurd n1 (by omega), fun r _ _ j _ => rfl, fun n n0 n1 => absurd n1 (by omega), fun i _ => rfl⟩) rfl
