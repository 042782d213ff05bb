/-! the law, case by case: what all cases use -/
theorem cwL_begin : CWH RL 102 yL_begin cL_begin 5 (some .int) hh_begin 4 := ⟨ml_RL_102, sm_L_begin, in_RL, cd_L_begin, by decide +kernel⟩
theorem cwL_addGroup : CWH RL 111 yL_addGroup cL_addGroup 7 (some .int) hh_addGroup 6 := ⟨ml_RL_111, sm_L_addGroup, in_RL, cd_L_addGroup, by decide +kernel⟩
theorem cwL_addBox : CWH RL 115 yL_addBox cL_addBox 9 (some .int) hh_addBox 8 := ⟨ml_RL_115, sm_L_addBox, in_RL, cd_L_addBox, by decide +kernel⟩
theorem cwL_move : CWH RL 119 yL_move cL_move 7 (some .int) hh_move 6 := ⟨ml_RL_119, sm_L_move, in_RL, cd_L_move, by decide +kernel⟩
theorem cwL_setShade : CWH RL 122 yL_setShade cL_setShade 5 (some .int) hh_setShade 4 := ⟨ml_RL_122, sm_L_setShade, in_RL, cd_L_setShade, by decide +kernel⟩
theorem cwL_removeNode : CWH RL 125 yL_removeNode cL_removeNode 4 (some .int) hh_removeNode 3 := ⟨ml_RL_125, sm_L_removeNode, in_RL, cd_L_removeNode, by decide +kernel⟩
theorem cwL_addScene : CWH RL 129 yL_addScene cL_addScene 6 (some .int) hh_addScene 5 := ⟨ml_RL_129, sm_L_addScene, in_RL, cd_L_addScene, by decide +kernel⟩
theorem cwL_set : CWH RL 133 yL_set cL_set 5 (some .int) hh_set 4 := ⟨ml_RL_133, sm_L_set, in_RL, cd_L_set, by decide +kernel⟩
theorem cwL_setTitle : CWH RL 136 yL_setTitle cL_setTitle 6 (some .int) hh_setTitle 5 := ⟨ml_RL_136, sm_L_setTitle, in_RL, cd_L_setTitle, by decide +kernel⟩
theorem cwL_tick : CWH RL 143 yL_tick cL_tick 4 (some .int) hh_tick 3 := ⟨ml_RL_143, sm_L_tick, in_RL, cd_L_tick, by decide +kernel⟩
theorem cwL_node : CWH RL 146 yL_node cL_node 5 (some .int) hh_node 4 := ⟨ml_RL_146, sm_L_node, in_RL, cd_L_node, by decide +kernel⟩
theorem cwL_painted : CWH RL 149 yL_painted cL_painted 4 (some .int) hh_painted 3 := ⟨ml_RL_149, sm_L_painted, in_RL, cd_L_painted, by decide +kernel⟩
theorem cwL_scene : CWH RL 152 yL_scene cL_scene 5 (some .int) hh_scene 4 := ⟨ml_RL_152, sm_L_scene, in_RL, cd_L_scene, by decide +kernel⟩
theorem cwL_title : CWH RL 155 yL_title cL_title 4 (some .int) hh_title 3 := ⟨ml_RL_155, sm_L_title, in_RL, cd_L_title, by decide +kernel⟩
theorem cwL_whole : CWH RL 158 yL_whole cL_whole 4 (some .int) hh_whole 3 := ⟨ml_RL_158, sm_L_whole, in_RL, cd_L_whole, by decide +kernel⟩
theorem cwL_shade : CWH RL 161 yL_shade cL_shade 6 (some .int) hh_shade 5 := ⟨ml_RL_161, sm_L_shade, in_RL, cd_L_shade, by decide +kernel⟩
theorem cwL_shown : CWH RL 165 yL_shown cL_shown 6 (some .int) hh_shown 5 := ⟨ml_RL_165, sm_L_shown, in_RL, cd_L_shown, by decide +kernel⟩
theorem cwL_ghost : CWH RL 168 yL_ghost cL_ghost 5 (some .int) hh_ghost 4 := ⟨ml_RL_168, sm_L_ghost, in_RL, cd_L_ghost, by decide +kernel⟩
theorem cwL_ghosts : CWH RL 171 yL_ghosts cL_ghosts 4 (some .int) hh_ghosts 3 := ⟨ml_RL_171, sm_L_ghosts, in_RL, cd_L_ghosts, by decide +kernel⟩
theorem cwL_meanGhost : CWH RL 174 yL_meanGhost cL_meanGhost 4 (some .int) hh_meanGhost 3 := ⟨ml_RL_174, sm_L_meanGhost, in_RL, cd_L_meanGhost, by decide +kernel⟩
theorem cwL_percentageFor : CWH RL 178 yL_percentageFor cL_percentageFor 5 (some .int) hh_percentageFor 4 := ⟨ml_RL_178, sm_L_percentageFor, in_RL, cd_L_percentageFor, by decide +kernel⟩
theorem cwL_fullAfter : CWH RL 185 yL_fullAfter cL_fullAfter 4 (some .int) hh_fullAfter 3 := ⟨ml_RL_185, sm_L_fullAfter, in_RL, cd_L_fullAfter, by decide +kernel⟩
theorem cwL_ghostsWithout : CWH RL 188 yL_ghostsWithout cL_ghostsWithout 5 (some .int) hh_ghostsWithout 4 := ⟨ml_RL_188, sm_L_ghostsWithout, in_RL, cd_L_ghostsWithout, by decide +kernel⟩
theorem cwL_type : CWH RL 191 yL_type cL_type 4 (some .int) hh_type 3 := ⟨ml_RL_191, sm_L_type, in_RL, cd_L_type, by decide +kernel⟩
theorem cwL_undo : CWH RL 202 yL_undo cL_undo 3 (some .int) hh_undo 2 := ⟨ml_RL_202, sm_L_undo, in_RL, cd_L_undo, by decide +kernel⟩
/-- what the walk knows of the start: N cells of the script, what they hold -/
def LF (E : EE) (N : Nat) (sc : Int → Int) : Prop := (∀ U, SF E U → ThF E U ∧ NcF U) ∧ (∀ U, SF E U → CF E U) ∧ (∀ U, SF E U → va_AO RX5 U) ∧ (∀ U, SF E U → va_T .int (E.2.2.2.1 50) N (fun j => vI (sc (j : Int))) (AS E) U E.2.2.1) ∧ ∀ j, i32 (sc j)
theorem LF.th {E : EE} {N : Nat} {sc : Int → Int} (h : LF E N sc) : ∀ U, SF E U → ThF E U ∧ NcF U := h.1
theorem LF.cf {E : EE} {N : Nat} {sc : Int → Int} (h : LF E N sc) : ∀ U, SF E U → CF E U := h.2.1
theorem LF.ao {E : EE} {N : Nat} {sc : Int → Int} (h : LF E N sc) : ∀ U, SF E U → va_AO RX5 U := h.2.2.1
theorem LF.cell {E : EE} {N : Nat} {sc : Int → Int} (h : LF E N sc) : ∀ U, SF E U → va_T .int (E.2.2.2.1 50) N (fun j => vI (sc (j : Int))) (AS E) U E.2.2.1 := h.2.2.2.1
theorem LF.rg {E : EE} {N : Nat} {sc : Int → Int} (h : LF E N sc) : ∀ j, i32 (sc j) := h.2.2.2.2
theorem Inv.wf {n : Nat} {T : Int} {K : Nat → Nat} {M : MM} {x r o : Nat} (h : Inv n T K M x r o) : WF T M (x + 3) := h.2.2.2.1
theorem Inv.ot {n : Nat} {T : Int} {K : Nat → Nat} {M : MM} {x r o : Nat} (h : Inv n T K M x r o) : ∃ To, WF To M (x + 30) := h.2.2.2.2.1
theorem Inv.fr {n : Nat} {T : Int} {K : Nat → Nat} {M : MM} {x r o : Nat} (h : Inv n T K M x r o) : Frs M x := h.2.2.2.2.2.1
theorem Inv.rs {n : Nat} {T : Int} {K : Nat → Nat} {M : MM} {x r o : Nat} (h : Inv n T K M x r o) : RS (stg M (x + 3)) (M (r + 1)) := h.2.2.2.2.2.2.1
theorem Inv.sv {n : Nat} {T : Int} {K : Nat → Nat} {M : MM} {x r o : Nat} (h : Inv n T K M x r o) : SvR M x r := h.2.2.2.2.2.2.2.1
theorem Inv.sw {n : Nat} {T : Int} {K : Nat → Nat} {M : MM} {x r o : Nat} (h : Inv n T K M x r o) : SvW T M x := h.2.2.2.2.2.2.2.2.1
theorem Inv.tx {n : Nat} {T : Int} {K : Nat → Nat} {M : MM} {x r o : Nat} (h : Inv n T K M x r o) : TxE M x r := h.2.2.2.2.2.2.2.2.2.1
theorem Inv.h3 {n : Nat} {T : Int} {K : Nat → Nat} {M : MM} {x r o : Nat} (h : Inv n T K M x r o) : 0 ≤ M r 3 ∧ M r 3 ≤ 4 := by
  have h1 := h.sv.1
  have h2 := h.2.1.1
  have h3 := h.2.1.2.1
  omega
theorem i32_eq {c k : Int} (h : c = k) (hk : i32 k) : i32 c := h ▸ hk
theorem XKc_32 {f p q s k : Int} (h : XKc f p q s k) (hp : i32 p) (hq : i32 q) (hs : i32 s) : i32 k := by
  rcases h with ⟨-, rfl⟩ | ⟨-, rfl⟩ | ⟨-, rfl⟩ <;> assumption
theorem mset_id {M : MM} {i : Nat} {j : Int} : mset M i j (M i j) = M := by
  funext i2 j2
  unfold mset
  split
  · rename_i h; rw [h.1, h.2]
  · rfl
theorem lvs_LL {n : Nat} {T : Int} {K : Nat → Nat} {M : MM} {x r o : Nat} {i : Int} (hI : Inv n T K M x r o) (hS : Sep x r o) : lvs (pinK K) ((LL x r o i).map (fun q => q.2)) := by
  obtain ⟨⟨k1, k2, ⟨k3, k4⟩, k5⟩, -⟩ := hI
  obtain ⟨e1, e2, e3⟩ := hS
  have hx := k1.1
  have hr := k2.k0
  have p : ∀ j, j < 1000000 → K j ≠ 0 → pinK K j ≠ 0 := fun j h1 h2 => by unfold pinK; rw [if_neg (by omega)]; exact h2
  exact ⟨by unfold pinK; rw [if_pos (by omega)]; decide, p x (by omega) (by omega), p r (by omega) (by omega), p o (by omega) (by omega), p (o + 1) (by omega) (by omega), trivial⟩
theorem kept_K {n : Nat} {K K1 : Nat → Nat} {M M1 : MM} {x r o : Nat} (hK : InvK K x r o) (hS : Sep x r o) (hk : KeptX n K M x K1 M1) : InvK K1 x r o := by
  obtain ⟨e1, e2, e3⟩ := hS
  obtain ⟨k1, k2, ⟨k3, k4⟩, k5⟩ := hK
  have j2 := hk.2.1
  exact ⟨hk.eye k1, fun j hj => by rw [j2 _ (by omega)]; exact k2 j hj, ⟨by rw [j2 _ (by omega)]; exact k3, by rw [j2 _ (by omega)]; exact k4⟩, fun i hi => by rw [j2 _ (by omega)]; exact k5 i hi⟩
theorem ints_k {k : Int} : ∀ v ∈ (some (vI k)).toList, ∀ ad1 ad2 : Nat → Nat, cv ad1 v = cv ad2 v := fun v hv _ _ => by
  have : v = vI k := List.mem_singleton.mp hv
  rw [this]; rfl
/-- what a small method of a changing face leaves -/
theorem wr_ch {n : Nat} {T : Int} {K K1 : Nat → Nat} {M M9 : MM} {x r o : Nat} {f : Int} {rv : MM → Int} {Pg : MM → MM → Prop} {xk : Int → Prop} {r9 : Option Value} (hI : Inv n T K M x r o) (hS : Sep x r o) (hPg : ∀ M1 Mc, Pg M1 Mc → ∀ i, i < x + 3 ∨ x + 18 < i → Mc i = M1 i)
    (h : WrP o K M (fun r K' M' => f = 0 ∧ r = some (vI (rv M')) ∧ ∃ M1, KeptX n K M x K' M1 ∧ Pg M1 M') xk r9 K1 M9) : Cl K1 M9 ∧ (∀ i, 1000000 ≤ i → K1 i = 0) ∧ ∀ v ∈ r9.toList, ∀ ad1 ad2 : Nat → Nat, cv ad1 v = cv ad2 v := by
  obtain ⟨e1, e2, e3⟩ := id hS
  rcases h with ⟨k, -, rfl, h1, h2⟩ | ⟨rfl, v, -, Mc, ⟨-, -, M1, hk, hp⟩, h2⟩
  · rw [h1, h2]
    exact ⟨hI.2.2.1, fun i hi => hI.1.2.2.2 i (by omega), ints_k⟩
  · have hK := kept_K hI.1 hS hk
    exact ⟨Cl_inv hS hK hk.2.2.1 (fun i hi => by rw [h2, mset_ne (by omega), hPg _ _ hp i (by omega)]), fun i hi => hK.2.2.2 i (by omega), ints_k⟩
/-- .. of a face that makes no ids -/
theorem wr_q {n : Nat} {T : Int} {K K1 : Nat → Nat} {M M9 : MM} {x r o : Nat} {f : Int} {P : Option Value → MM → Prop} {xk : Int → Prop} {r9 : Option Value} (hI : Inv n T K M x r o) (hS : Sep x r o) (hP : ∀ r M', P r M' → ∀ i, i < x ∨ i = x + 56 ∨ x + 60 ≤ i → M' i = M i)
    (h : WrP o K M (fun r K' M' => f = 0 ∧ K' = K ∧ P r M') xk r9 K1 M9) : Cl K1 M9 ∧ (∀ i, 1000000 ≤ i → K1 i = 0) ∧ ∀ v ∈ r9.toList, ∀ ad1 ad2 : Nat → Nat, cv ad1 v = cv ad2 v := by
  obtain ⟨e1, e2, e3⟩ := id hS
  rcases h with ⟨k, -, rfl, h1, h2⟩ | ⟨rfl, v, -, Mc, ⟨-, h1, hp⟩, h2⟩
  · rw [h1, h2]
    exact ⟨hI.2.2.1, fun i hi => hI.1.2.2.2 i (by omega), ints_k⟩
  · rw [h1]
    exact ⟨Cl_inv hS hI.1 hI.2.2.1 (fun i hi => by rw [h2, mset_ne (by omega), hP _ _ hp i (by omega)]), fun i hi => hI.1.2.2.2 i (by omega), ints_k⟩
theorem wr_d {n : Nat} {T : Int} {K K1 : Nat → Nat} {M M9 : MM} {x r o : Nat} {f : Int} {P : Option Value → MM → Prop} {xk : Int → Prop} {r9 : Option Value} (hI : Inv n T K M x r o) (hS : Sep x r o) (hP : ∀ r M', P r M' → ∀ i, i < x ∨ i = x + 56 ∨ x + 60 ≤ i → M' i = M i)
    (h : WrD (o + 1) K M (fun r K' M' => f = 0 ∧ K' = K ∧ P r M') xk r9 K1 M9) : Cl K1 M9 ∧ (∀ i, 1000000 ≤ i → K1 i = 0) ∧ ∀ v ∈ r9.toList, ∀ ad1 ad2 : Nat → Nat, cv ad1 v = cv ad2 v := by
  obtain ⟨e1, e2, e3⟩ := id hS
  rcases h with ⟨k, -, rfl, h1, h2⟩ | ⟨rfl, v, Mc, ⟨-, h1, hp⟩, h2⟩
  · rw [h1, h2]
    exact ⟨hI.2.2.1, fun i hi => hI.1.2.2.2 i (by omega), ints_k⟩
  · rw [h1]
    exact ⟨Cl_inv hS hI.1 hI.2.2.1 (fun i hi => by rw [h2, mset_ne (by omega), hP _ _ hp i (by omega)]), fun i hi => hI.1.2.2.2 i (by omega), ints_k⟩
def Qs (M : MM) (x : Nat) (Mc : MM) : Prop := Frs Mc x ∧ stg Mc (x + 3) = stg M (x + 3) ∧ (∃ To, WF To Mc (x + 30)) ∧ ∀ i, i < x ∨ x + 55 ≤ i → Mc i = M i
theorem qs_refl {n : Nat} {T : Int} {K : Nat → Nat} {M : MM} {x r o : Nat} (hI : Inv n T K M x r o) : Qs M x M := ⟨hI.fr, rfl, hI.ot, fun _ _ => rfl⟩
theorem lkd_fr {M Mc : MM} {x : Nat} (h : Lkd M x Mc) : ∀ i, i < x ∨ x + 27 < i → Mc i = M i := fun i hi => h.1 i (by omega) (by omega) (by omega) (by omega)
theorem lkd_frs {M Mc : MM} {x : Nat} (h : Lkd M x Mc) : Frs Mc x := by
  obtain ⟨-, -, a3, a4, a5, a6⟩ := h
  unfold Frs
  rw [a6]
  exact Or.inr ⟨a3, a4, a5⟩
theorem lkd_q {n : Nat} {T : Int} {K : Nat → Nat} {M Mc : MM} {x r o : Nat} (hI : Inv n T K M x r o) (h : Lkd M x Mc) : Qs M x Mc := by
  obtain ⟨To, hTo⟩ := hI.ot
  exact ⟨lkd_frs h, h.2.2.2.2.2, ⟨To, WF_fr (stg_of (fun i a1 a2 => lkd_fr h i (by omega))) hTo⟩, fun i hi => lkd_fr h i (by omega)⟩
/-- the other view's stage changed, nothing else -/
theorem Frs_fr {M Mc : MM} {x : Nat} (h : ∀ i, x ≤ i → i < x + 28 → Mc i = M i) (hF : Frs M x) : Frs Mc x := by
  unfold Frs at hF ⊢
  rw [h x (by omega) (by omega), stg_of (M := M) (M2 := Mc) (b := x + 3) (fun i a1 a2 => h i (by omega) (by omega))]
  rcases hF with w3 | ⟨w3, w4, w5⟩
  · exact Or.inl w3
  · exact Or.inr ⟨w3, Vwt_fr (fun i a1 a2 => h i (by omega) (by omega)) w4, HOK_fr (fun i a1 a2 => h i (by omega) (by omega)) w5⟩
theorem oth_q {M Mc : MM} {x : Nat} {T : Int} (hF : Frs M x) (h : ∀ i, i < x + 28 ∨ x + 54 < i → Mc i = M i) (hW : WF T Mc (x + 30)) : Qs M x Mc := ⟨Frs_fr (fun i _ a2 => h i (by omega)) hF, stg_of (fun i a1 a2 => h i (by omega)), ⟨T, hW⟩, fun i hi => h i (by omega)⟩
theorem oth_q2 {M M1 Mc : MM} {x : Nat} {T : Int} (hL : Lkd M x M1) (h : ∀ i, i < x + 28 ∨ x + 54 < i → Mc i = M1 i) (hW : WF T Mc (x + 30)) : Qs M x Mc := by
  obtain ⟨a1, a2, a3, a4⟩ := oth_q (lkd_frs hL) h hW
  exact ⟨a1, a2.trans hL.2.2.2.2.2, a3, fun i hi => by rw [h i (by omega), lkd_fr hL i (by omega)]⟩
/-- a question that both sides refuse -/
theorem inv_qno {n : Nat} {T : Int} {K : Nat → Nat} {M M2 : MM} {x r o : Nat} {c w : Int} {r9 : Option Value} (hI : Inv n T K M x r o) (hS : Sep x r o) (hm : VlM M r c w r9 M2) (hc : c ≠ 0) (hc3 : i32 c) : Inv n T K M2 x r o ∧ M2 r 6 = c ∧ r9 = some (vI 0) := by
  obtain ⟨h1, h2, h3, h4, h5⟩ := inv_q (Mc := M) (v := M o 0) hI hS (Or.inl rfl) (qs_refl hI) (by rw [mset_id]; exact hm) hc3
  exact ⟨h1, h3, h5 hc⟩
section RULES
variable {E : EE} {X : JX} {cc : ByteArray} {own : String} {nl d c0 s0 : Nat} {pc : Nat} {L : List (Nat × Value)} {st : List Value} {K : Nat → Nat} {M : MM} {a b : Nat}
theorem J_cellq (hX : XO E X cc own nl d c0 s0) (hP : XP E X) (hXK : XK X = K) {N : Nat} {sc : Int → Int} (hT : ∀ U, SF E U → va_T .int (E.2.2.2.1 50) N (fun j => vI (sc (j : Int))) (AS E) U E.2.2.1) {i q : Int} (j : Int) (hq : sc (i + j) = q) (hl0 : lget L 0 = some (.ref (1000000 + 50))) (hl5 : lget L 5 = some (vI i)) (h : 0 ≤ i + j ∧ i + j < N) (hN : N < 1000000)
    (d0 : decode cc pc = .ok (.aload_n 0, 1)) (d1 : decode cc (pc + 1) = .ok (.iload 5, 2)) (d3 : decode cc (pc + 3) = .ok (.iconst j, 1)) (d4 : decode cc (pc + 4) = .ok (.iadd, 1)) (d5 : decode cc (pc + 5) = .ok (.iaload, 1))
    (k1 : J E X (pc + 6) L (vI q :: st) K M a b) : J E X pc L st K M a b := by
  subst hq
  exact J_cell hX hP hXK hT j hl0 hl5 h hN d0 d1 d3 d4 d5 k1
theorem J_cellBq (hX : XO E X cc own nl d c0 s0) (hP : XP E X) (hXK : XK X = K) {N : Nat} {sc : Int → Int} (hT : ∀ U, SF E U → va_T .int (E.2.2.2.1 50) N (fun j => vI (sc (j : Int))) (AS E) U E.2.2.1) {i q : Int} (j : Int) (hj : (Int8.ofInt j).toInt32 = Int32.ofInt j) (hq : sc (i + j) = q) (hl0 : lget L 0 = some (.ref (1000000 + 50))) (hl5 : lget L 5 = some (vI i)) (h : 0 ≤ i + j ∧ i + j < N) (hN : N < 1000000)
    (d0 : decode cc pc = .ok (.aload_n 0, 1)) (d1 : decode cc (pc + 1) = .ok (.iload 5, 2)) (d3 : decode cc (pc + 3) = .ok (.bipush j, 2)) (d4 : decode cc (pc + 5) = .ok (.iadd, 1)) (d5 : decode cc (pc + 6) = .ok (.iaload, 1))
    (k1 : J E X (pc + 7) L (vI q :: st) K M a b) : J E X pc L st K M a b := by
  subst hq
  exact J_cellB hX hP hXK hT j hj hl0 hl5 h hN d0 d1 d3 d4 d5 k1
theorem J_bool (hX : XO E X cc own nl d c0 s0) {q : Int} (hq : i32 q) (d0 : decode cc pc = .ok (.ifCond .eq 7, 3)) (d3 : decode cc (pc + 3) = .ok (.iconst 1, 1)) (d4 : decode cc (pc + 4) = .ok (.goto 4, 3)) (d7 : decode cc (pc + 7) = .ok (.iconst 0, 1)) (k1 : J E X (pc + 8) L (vI (bI (q ≠ 0)) :: st) K M a b) : J E X pc L (vI q :: st) K M a b := by
  refine J_if_eq hX (pc + 7) d0 hq (by push_cast; omega) (fun h => ?_) (fun h => ?_)
  · refine J_iconst hX d7 ?_
    rw [bI_f (fun n => n h)] at k1
    exact k1
  · refine J_iconst hX d3 ?_
    refine J_goto hX (pc + 8) d4 (by push_cast; omega) ?_
    rw [bI_t h] at k1
    exact k1
end RULES
/- which numbers mean the same refusal -/
theorem cd_a {P : Prop} [Decidable P] {k : Int} : (XKc (if P then 0 else 2) (-1) 1 (-1) k → (if P then 0 else 1 : Int) = k ∧ k ≠ 0) ∧ ((if P then 0 else 2 : Int) = 0 → (if P then 0 else 1 : Int) = 0) := by
  by_cases h : P <;> simp [h, XKc] <;> omega
theorem cd_p {P : Prop} [Decidable P] {k : Int} : (XKc (if P then 2 else 0) (-1) 1 (-1) k → (if P then 1 else 0 : Int) = k ∧ k ≠ 0) ∧ ((if P then 2 else 0 : Int) = 0 → (if P then 1 else 0 : Int) = 0) := by
  by_cases h : P <;> simp [h, XKc] <;> omega
theorem cd_i {P : Prop} [Decidable P] {k : Int} : (XKc (if P then 0 else 1) 1 (-1) (-1) k → (if P then 0 else 1 : Int) = k ∧ k ≠ 0) ∧ ((if P then 0 else 1 : Int) = 0 → (if P then 0 else 1 : Int) = 0) := by
  by_cases h : P <;> simp [h, XKc] <;> omega
theorem cd_s {P : Prop} [Decidable P] {k : Int} : (XKc (if P then 3 else 0) (-1) (-1) 1 k → (if P then 1 else 0 : Int) = k ∧ k ≠ 0) ∧ ((if P then 3 else 0 : Int) = 0 → (if P then 1 else 0 : Int) = 0) := by
  by_cases h : P <;> simp [h, XKc] <;> omega
theorem cd_k {f k : Int} : (XKc f 1 2 3 k → f = k ∧ k ≠ 0) ∧ (f = 0 → f = 0) := by
  refine ⟨fun h => ?_, id⟩
  unfold XKc at h
  omega
theorem cd_m {P Q : Prop} [Decidable P] [Decidable Q] {k : Int} : (XKc (if ¬ P then 1 else if Q then 0 else 2) 1 2 (-1) k → (if ¬ P then 1 else if Q then 0 else 2 : Int) = k ∧ k ≠ 0) ∧ ((if ¬ P then 1 else if Q then 0 else 2 : Int) = 0 → (if ¬ P then 1 else if Q then 0 else 2 : Int) = 0) := by
  by_cases h : P <;> by_cases h2 : Q <;> simp [h, h2, XKc, f2l] <;> omega
theorem cd_t {P Q : Prop} [Decidable P] [Decidable Q] {k : Int} : (XKc (if P then (if Q then 3 else 0) else 2) (-1) 1 2 k → (if P then (if Q then 2 else 0) else 1 : Int) = k ∧ k ≠ 0) ∧ ((if P then (if Q then 3 else 0) else 2 : Int) = 0 → (if P then (if Q then 2 else 0) else 1 : Int) = 0) := by
  by_cases h : P <;> by_cases h2 : Q <;> simp [h, h2, XKc, f2l] <;> omega
theorem cd_f {P Q : Prop} [Decidable P] [Decidable Q] {k : Int} : (XKc (f2l (if P then 0 else 1) (if Q then 0 else 2)) 1 2 (-1) k → (if ¬ P then 1 else if Q then 0 else 2 : Int) = k ∧ k ≠ 0) ∧ (f2l (if P then 0 else 1) (if Q then 0 else 2) = (0 : Int) → (if ¬ P then 1 else if Q then 0 else 2 : Int) = 0) := by
  by_cases h : P <;> by_cases h2 : Q <;> simp [h, h2, XKc, f2l] <;> omega
theorem cd_y {P Q Q2 : Prop} [Decidable P] [Decidable Q] [Decidable Q2] {k : Int} (hq : Q ↔ Q2) : (XKc (f2l (if P then 0 else 2) (if Q then 3 else 0)) (-1) 1 2 k → (if ¬ P then 1 else if Q2 then 2 else 0 : Int) = k ∧ k ≠ 0) ∧ (f2l (if P then 0 else 2) (if Q then 3 else 0) = (0 : Int) → (if ¬ P then 1 else if Q2 then 2 else 0 : Int) = 0) := by
  by_cases h : P <;> by_cases h2 : Q2 <;> simp [h, hq, h2, XKc, f2l] <;> omega

