/-! the environment of the whole run -/
theorem nfb {s : State} {b : Nat} (hgv : (Jvm.Cond.and given_1 narrow_1).before #[Value.ref b] s = true) {k : Nat} {w : Cond} (h : NFl[k]? = some w) : w.before #[Value.ref b] s = true := flat_of_before _ hgv _ (List.mem_of_getElem? h)
theorem ltb {s : State} {b : Nat} (hts : ∀ w ∈ lw_tbl, w.before #[Value.ref b] s = true) {k : Nat} {w : Cond} (h : lw_tbl[k]? = some w) : w.before #[Value.ref b] s = true := hts _ (List.mem_of_getElem? h)
abbrev AH (s : State) : Nat → Prop := fun q => s.heap.size ≤ q
theorem AH_no {s : State} : ∀ a : Nat, a < s.heap.size → ¬ AH s a := fun a h1 h2 => by
  have h3 : s.heap.size ≤ a := h2
  omega
theorem ex_O {s : State} {b : Nat} {t : Term} {C : String} (h : (Cond.exactly t C).before #[Value.ref b] s = true) : ∃ a : Nat, t.eval #[Value.ref b] s none [] s = some (.ref a) ∧ va_O C a (AH s) s s.heap := by
  obtain ⟨a, c, cA, kA, q1, q2, q3, q4, q5, q6, -⟩ := Cond.exactly_spec (args := #[Value.ref b]) (first := s) (o := none) (s := s) (idx := []) h
  exact ⟨a, q1, ⟨cA, q3, q5, by rw [q6]; exact q2, AH_no a (Array.getElem?_eq_some_iff.mp q3).1⟩⟩
theorem st_words {s : State} {b : Nat} (hts : ∀ w ∈ lw_tbl, w.before #[Value.ref b] s = true) (hgv : (Jvm.Cond.and given_1 narrow_1).before #[Value.ref b] s = true) : ∃ wa : Nat → Nat, ∀ i : Nat, i < 9 → (wT i).eval #[Value.ref b] s none [] s = some (.ref (wa i)) ∧ va_O RX8 (wa i) (AH s) s s.heap := by
  have h0 : ∀ i : Nat, ∃ a : Nat, i < 9 → (wT i).eval #[Value.ref b] s none [] s = some (.ref a) ∧ va_O RX8 a (AH s) s s.heap := fun i => by
    by_cases hi : i < 9
    · obtain ⟨a, h⟩ := ex_O (nfb hgv (nf_ex i hi))
      exact ⟨a, fun _ => h⟩
    · exact ⟨0, fun h => absurd h hi⟩
  exact Classical.axiomOfChoice h0
theorem st_texts {s : State} {b : Nat} (hts : ∀ w ∈ lw_tbl, w.before #[Value.ref b] s = true) (hgv : (Jvm.Cond.and given_1 narrow_1).before #[Value.ref b] s = true) : ∃ q : Nat → Nat × Nat, ∀ i : Nat, i < 9 → (sT i).eval #[Value.ref b] s none [] s = some (.ref (q i).1) ∧ va_O RJ0 (q i).1 (AH s) s s.heap ∧ va_OF RJ0 "coder" "B" (vI 0) (q i).1 (AH s) s s.heap ∧ va_OF RJ0 "value" "[B" (.ref (q i).2) (q i).1 (AH s) s s.heap ∧ va_T .byte (q i).2 (wtx i).length (fun j => vI ((wtx i).getD j 0)) (AH s) s s.heap := by
  have h0 : ∀ i : Nat, ∃ q : Nat × Nat, i < 9 → (sT i).eval #[Value.ref b] s none [] s = some (.ref q.1) ∧ va_O RJ0 q.1 (AH s) s s.heap ∧ va_OF RJ0 "coder" "B" (vI 0) q.1 (AH s) s s.heap ∧ va_OF RJ0 "value" "[B" (.ref q.2) q.1 (AH s) s s.heap ∧ va_T .byte q.2 (wtx i).length (fun j => vI ((wtx i).getD j 0)) (AH s) s s.heap := fun i => by
    by_cases hi : i < 9
    · obtain ⟨a, h1, h2⟩ := ex_O (nfb hgv (nf_sx i hi))
      obtain ⟨t, ht, hT⟩ := va_Tof (f := fun j => vI ((wtx i).getD j 0)) (A := AH s) (N := (wtx i).length) (by have := wtx_len i hi; omega) (nfb hgv (nf_sa i hi)) (va_eqt (nfb hgv (nf_sl i hi))) (fun j hj => va_eqt (nfb hgv (nf_se i hi j hj))) AH_no
      exact ⟨(a, t), fun _ => ⟨h1, h2, vk_OFof h1 (va_eqt (nfb hgv (nf_sc i hi))) AH_no, vk_OFof h1 ht AH_no, hT⟩⟩
    · exact ⟨(0, 0), fun h => absurd h hi⟩
  exact Classical.axiomOfChoice h0
def adZ (wa ta tv : Nat → Nat) (aW aS aL aG b aF : Nat) : Nat → Nat := fun k => if k < 9 then wa k else if k = 10 then aW else if k = 11 then aS else if k = 12 then aL else if k = 13 then aG else if k < 29 then ta (k - 20) else if k < 49 then tv (k - 40) else if k = 50 then b else aF
theorem adZ_w {wa ta tv : Nat → Nat} {aW aS aL aG b aF i : Nat} (hi : i < 9) : adZ wa ta tv aW aS aL aG b aF i = wa i := if_pos hi
theorem adZ_t {wa ta tv : Nat → Nat} {aW aS aL aG b aF i : Nat} (hi : i < 9) : adZ wa ta tv aW aS aL aG b aF (20 + i) = ta i := by
  unfold adZ
  rw [if_neg (by omega), if_neg (by omega), if_neg (by omega), if_neg (by omega), if_neg (by omega), if_pos (by omega), show 20 + i - 20 = i by omega]
theorem adZ_v {wa ta tv : Nat → Nat} {aW aS aL aG b aF i : Nat} (hi : i < 9) : adZ wa ta tv aW aS aL aG b aF (40 + i) = tv i := by
  unfold adZ
  rw [if_neg (by omega), if_neg (by omega), if_neg (by omega), if_neg (by omega), if_neg (by omega), if_neg (by omega), if_pos (by omega), show 40 + i - 40 = i by omega]
def E00 (D : va_G) (cls : ClassId × ClassId × ClassId × ClassId) (H : Heap) (ad : Nat → Nat) : EE := (D, cls, H, ad, ⟨fun _ => True, fun _ _ _ _ => trivial⟩)
def PPs (E0 : EE) (N : Nat) (sc : Int → Int) (U : State) : Prop := (ThF E0 U ∧ NcF U) ∧ CF E0 U ∧ va_AO RX5 U ∧ va_T .int (E0.2.2.2.1 50) N (fun j => vI (sc (j : Int))) (AS E0) U E0.2.2.1
theorem exw_warm {u U : State} (hW : u.WarmedH U.vm) (h : ∀ w ∈ exW, va_Nw w u) : ∀ w ∈ exW, va_Nw w U := by
  intro w hw
  have h1 := h w hw
  simp only [exW, List.mem_cons, List.not_mem_nil, or_false] at hw
  rcases hw with rfl | rfl | rfl | rfl | rfl | rfl
  · exact va_Nw.warmC hW h1
  · exact va_Nw.warmC hW h1
  · exact va_Nw.warmC hW h1
  · exact va_Nw.warmD hW h1
  · exact va_Nw.warmD hW h1
  · exact va_Nw.warmD hW h1
theorem CF_moved {E : EE} {u U : State} (hvm : u.vm.Alike U.vm) (h : CF E u) : CF E U := by
  obtain ⟨h1, h2, h3, h4, h5, h6, h7, h8, h9, h10, h11, h12, h13, h14, h15, h16, h17, h18⟩ := h
  exact ⟨va_Z.moved hvm h1, va_Z.moved hvm h2, va_Z.moved hvm h3, va_Z.moved hvm h4, va_Z.moved hvm h5, h6.elim (fun z => Or.inl (va_Z.moved hvm z)) (fun z => Or.inr (va_Z.moved hvm z)), va_T.moved hvm h7, va_T.moved hvm h8, va_T.moved hvm h9, va_T.moved hvm h10, fun i hi => va_O.moved hvm (h11 i hi), fun i hi => va_OF.moved hvm (h12 i hi), fun i hi => va_OF.moved hvm (h13 i hi), fun i hi => va_OF.moved hvm (h14 i hi), fun i hi => va_O.moved hvm (h15 i hi), fun i hi => va_OF.moved hvm (h16 i hi), fun i hi => va_OF.moved hvm (h17 i hi), fun i hi => va_T.moved hvm (h18 i hi)⟩
theorem PPs_warm {E0 : EE} {N : Nat} {sc : Int → Int} (u U : State) (hW : u.WarmedH U.vm) (h : PPs E0 N sc u) : PPs E0 N sc U := by
  obtain ⟨⟨⟨h1, ⟨h2, h3⟩, ⟨a1, h4⟩, ⟨a2, h5⟩, a3, h6⟩, h7⟩, h8, h9, h10⟩ := h
  have hvm := hW.alike
  exact ⟨⟨⟨exw_warm hW h1, ⟨vx_Zq.moved hvm h2, vx_Zq.moved hvm h3⟩, ⟨a1, vk_R.warm hW h4⟩, ⟨a2, vk_R.warm hW h5⟩, a3, vk_R.warm hW h6⟩, fun C D hq => va_Nc.moved hvm (h7 C D hq)⟩, CF_moved hvm h8, va_AO.moved hvm h9, va_T.moved hvm h10⟩
def mkE (E0 : EE) (N : Nat) (sc : Int → Int) : EE := (E0.1, E0.2.1, E0.2.2.1, E0.2.2.2.1, ⟨PPs E0 N sc, PPs_warm⟩)
theorem LF_mk {E0 : EE} {N : Nat} {sc : Int → Int} (h : ∀ j, i32 (sc j)) : LF (mkE E0 N sc) N sc := ⟨fun U hU => hU.1, fun U hU => hU.2.1, fun U hU => hU.2.2.1, fun U hU => hU.2.2.2, h⟩
theorem st_prim {s : State} {b : Nat} {ty : FieldType} (h : (Cond.arrayClass ty).before #[Value.ref b] s = true) : ∃ c : ClassId, ArrOfT s c ty ∧ s.vm.findClass ("[" ++ ty.toString) = some c := by
  obtain ⟨c, k, comp, h1, h2, h3⟩ := Cond.arrayClass_spec (args := #[Value.ref b]) (first := s) (o := none) (s := s) (idx := []) h
  exact ⟨c, fun n z => ⟨fun k h => (by cases h), k, h2, comp, h3⟩, h1⟩
theorem st_over {s : State} {b : Nat} {C : String} (h : (Cond.arrayOver (.object C)).before #[Value.ref b] s = true) : ∃ c : ClassId, ArrOfT s c (.object C) ∧ va_RA s c (.object C) := by
  obtain ⟨comp, c, k, h1, -, h3, h4, h5⟩ := Cond.arrayOver_spec (args := #[Value.ref b]) (first := s) (o := none) (s := s) (idx := []) h
  exact ⟨c, fun n z => ⟨fun k h => (by cases h), k, h3, comp, h4⟩, k, comp, h3, h4, h1, h5⟩
theorem st_KN {s : State} {b : Nat} (hts : ∀ w ∈ lw_tbl, w.before #[Value.ref b] s = true) : KN s := ⟨fun q hq => va_Nw.of rfl (hts _ (lt_nm q hq)), fun q hq => va_Nw.of rfl (hts _ (lt_nf q hq))⟩
theorem st_cls {s : State} {b : Nat} (hts : ∀ w ∈ lw_tbl, w.before #[Value.ref b] s = true) : ∃ D : va_G, ∀ (c : Nat) (q : vw_C), vwCl[c]? = some q → u_Kn s q.1 q.2.1 q.2.2 (D.1 c) (D.2 c) := by
  have htb : ∀ w ∈ tb, w.before #[Value.ref b] s = true := fun w hw => hts w (tb_good hw).1
  have mk : ∀ {C : String} {T : u_T} {N n : Nat}, (∀ w ∈ u_ws C T N, w ∈ tb) → Cond.instantiable C n ∈ tb → ∃ d : ClassId × (Nat → Nat), u_Kn s C T N d.1 d.2 := by
    intro C T N n h1 h2
    obtain ⟨c, i, h⟩ := u_known htb h1 (htb _ h2)
    exact ⟨(c, i), h⟩
  have h0 : ∀ c : Nat, ∃ d : ClassId × (Nat → Nat), ∀ q : vw_C, vwCl[c]? = some q → u_Kn s q.1 q.2.1 q.2.2 d.1 d.2 := by
    intro c
    have hc : c = 0 ∨ c = 1 ∨ c = 2 ∨ c = 3 ∨ c = 4 ∨ c = 5 ∨ c = 6 ∨ c = 7 ∨ 8 ≤ c := by omega
    rcases hc with rfl | rfl | rfl | rfl | rfl | rfl | rfl | rfl | hc
    · obtain ⟨d, h⟩ := mk inw_X1 it_RX1
      exact ⟨d, fun q hq => by cases hq; exact h⟩
    · obtain ⟨d, h⟩ := mk inw_X2 it_RX2
      exact ⟨d, fun q hq => by cases hq; exact h⟩
    · obtain ⟨d, h⟩ := mk inw_X3 it_RX3
      exact ⟨d, fun q hq => by cases hq; exact h⟩
    · obtain ⟨d, h⟩ := mk inw_X4 it_RX4
      exact ⟨d, fun q hq => by cases hq; exact h⟩
    · obtain ⟨d, h⟩ := mk inw_X5 it_RX5
      exact ⟨d, fun q hq => by cases hq; exact h⟩
    · obtain ⟨d, h⟩ := mk inw_X6 it_RX6
      exact ⟨d, fun q hq => by cases hq; exact h⟩
    · obtain ⟨d, h⟩ := mk inw_X7 it_RX7
      exact ⟨d, fun q hq => by cases hq; exact h⟩
    · obtain ⟨d, h⟩ := mk inw_X9 it_RX9
      exact ⟨d, fun q hq => by cases hq; exact h⟩
    · refine ⟨(0, fun _ => 0), fun q hq => ?_⟩
      rw [List.getElem?_eq_none (by show 8 ≤ c; exact hc)] at hq
      cases hq
  obtain ⟨d, hd⟩ := Classical.axiomOfChoice h0
  exact ⟨(fun c => (d c).1, fun c => (d c).2), hd⟩

set_option maxHeartbeats 4000000 in
set_option maxRecDepth 100000 in
theorem st_env {s : State} {b : Nat} (hts : ∀ w ∈ lw_tbl, w.before #[Value.ref b] s = true) (hgv : (Jvm.Cond.and given_1 narrow_1).before #[Value.ref b] s = true) {N : Nat} {xs : Nat → Int32} (hN : N ≤ 260) (hX : va_X b N xs s s.heap) : ∃ E : EE, E.2.2.1 = s.heap ∧ E.2.2.2.1 50 = b ∧ KF E s ∧ LF E N (fun j => (xs j.toNat).toInt) := by
  obtain ⟨wa, hwa⟩ := st_words hts hgv
  obtain ⟨tq, htq⟩ := st_texts hts hgv
  obtain ⟨D, hD⟩ := st_cls hts
  obtain ⟨cI, hI1, hI2⟩ := st_prim (ltb hts lt_ar.1)
  obtain ⟨cQ, hQ1, hQ2⟩ := st_over (ltb hts lt_ar.2)
  obtain ⟨aW, haW, hTW⟩ := va_Tof (f := fun j => Value.ref (wa j)) (A := AH s) (N := 9) (by decide) (nfb hgv nf_W.1) (va_eqt (nfb hgv nf_W.2.1)) (fun j hj => va_eqv (nfb hgv (nf_W.2.2 j hj)) (hwa j hj).1) AH_no
  obtain ⟨aS, haS, hTS⟩ := va_Tof (f := fun j => vI (([1, 2, 3, 4, 5, 6, 7, 8, 0] : List Int).getD j 0)) (A := AH s) (N := 9) (by decide) (nfb hgv nf_S.1) (va_eqt (nfb hgv nf_S.2.1)) (fun j hj => va_eqt (nfb hgv (nf_S.2.2 j hj))) AH_no
  obtain ⟨aL, haL, hTL⟩ := va_Tof (f := fun j => vI (([0, 1, 0, 0] : List Int).getD j 0)) (A := AH s) (N := 4) (by decide) (nfb hgv nf_L.1) (va_eqt (nfb hgv nf_L.2.1)) (fun j hj => va_eqt (nfb hgv (nf_L.2.2 j hj))) AH_no
  obtain ⟨aG, haG, hTG⟩ := va_Tof (f := fun j => vI (([100, 5, 15, 100] : List Int).getD j 0)) (A := AH s) (N := 4) (by decide) (nfb hgv nf_G.1) (va_eqt (nfb hgv nf_G.2.1)) (fun j hj => va_eqt (nfb hgv (nf_G.2.2 j hj))) AH_no
  obtain ⟨aF, hF⟩ : ∃ aF : Nat, va_Z RJ3 "SIOOBE_FORMATTER" "Ljava/util/function/BiFunction;" .null (AH s) s s.heap ∨ va_Z RJ3 "SIOOBE_FORMATTER" "Ljava/util/function/BiFunction;" (.ref aF) (AH s) s s.heap := by
    rcases va_Zqof (A := AH s) (ltb hts lt_st.2.2.2.2.2.1) (ltb hts lt_in.2.2.2.1) (nfb hgv nf_fo) AH_no with h | ⟨t, h⟩
    · exact ⟨0, Or.inl h⟩
    · exact ⟨t, Or.inr h⟩
  obtain ⟨m1, hm1, -⟩ := ex_O (nfb hgv nf_m1)
  obtain ⟨m2, hm2, -⟩ := ex_O (nfb hgv nf_m2)
  obtain ⟨m3, hm3, -⟩ := ex_O (nfb hgv nf_m3)
  obtain ⟨scr, hx1, hx2, hx3, hx4, hx5⟩ := hX
  let ad := adZ wa (fun i => (tq i).1) (fun i => (tq i).2) aW aS aL aG b aF
  let E0 : EE := E00 D (cI, cQ, cI, cI) s.heap ad
  have hcf : CF E0 s := by
    refine ⟨va_Zof (ltb hts lt_st.1) (ltb hts lt_in.1) haW AH_no, va_Zof (ltb hts lt_st.2.1) (ltb hts lt_in.2.1) haS AH_no, va_Zof (ltb hts lt_st.2.2.1) (ltb hts lt_in.1) haL AH_no, va_Zof (ltb hts lt_st.2.2.2.1) (ltb hts lt_in.1) haG AH_no, va_Zof (ltb hts lt_st.2.2.2.2.1) (ltb hts lt_in.2.2.1) (va_eqt (nfb hgv nf_cs)) AH_no, hF, ?_, hTS, hTL, hTG, fun i hi => ?_, fun i hi => ?_, fun i hi => ?_, fun i hi => ?_, fun i hi => ?_, fun i hi => ?_, fun i hi => ?_, fun i hi => ?_⟩
    · obtain ⟨cell, q1, q2, q3, q4, q5, q6, q7⟩ := hTW
      exact ⟨cell, q1, q2, q3, q4, q5, fun j hj => by
        show cell.slots[j]? = some (Value.ref (ad j))
        rw [show ad j = wa j from adZ_w hj]
        exact q6 j hj, q7⟩
    · show va_O RX8 (ad i) (AH s) s s.heap
      rw [show ad i = wa i from adZ_w hi]
      exact (hwa i hi).2
    · show va_OF RJx29ce0 "ordinal" "I" (vI i) (ad i) (AH s) s s.heap
      rw [show ad i = wa i from adZ_w hi]
      exact vk_OFof (hwa i hi).1 (va_eqt (nfb hgv (nf_or i hi))) AH_no
    · show va_OF RX8 "text" "Ljava/lang/String;" (.ref (ad (20 + i))) (ad i) (AH s) s s.heap
      rw [show ad i = wa i from adZ_w hi, show ad (20 + i) = (tq i).1 from adZ_t hi]
      exact vk_OFof (hwa i hi).1 (va_eqv (nfb hgv (nf_te i hi)) (htq i hi).1) AH_no
    · show va_OF RX8 "numbers" "I" (vI (wnm i)) (ad i) (AH s) s s.heap
      rw [show ad i = wa i from adZ_w hi]
      exact vk_OFof (hwa i hi).1 (va_eqt (nfb hgv (nf_nu i hi))) AH_no
    · show va_O RJ0 (ad (20 + i)) (AH s) s s.heap
      rw [show ad (20 + i) = (tq i).1 from adZ_t hi]
      exact (htq i hi).2.1
    · show va_OF RJ0 "coder" "B" (vI 0) (ad (20 + i)) (AH s) s s.heap
      rw [show ad (20 + i) = (tq i).1 from adZ_t hi]
      exact (htq i hi).2.2.1
    · show va_OF RJ0 "value" "[B" (.ref (ad (40 + i))) (ad (20 + i)) (AH s) s s.heap
      rw [show ad (20 + i) = (tq i).1 from adZ_t hi, show ad (40 + i) = (tq i).2 from adZ_v hi]
      exact (htq i hi).2.2.2.1
    · show va_T .byte (ad (40 + i)) (wtx i).length (fun j => vI ((wtx i).getD j 0)) (AH s) s s.heap
      rw [show ad (40 + i) = (tq i).2 from adZ_v hi]
      exact (htq i hi).2.2.2.2
  have hpp : PPs E0 N (fun j => (xs j.toNat).toInt) s := by
    refine ⟨⟨⟨fun w hw => va_Nw.of (exW_ot w hw) (hts w (lt_ex w hw)), ⟨vx_Zqof (ltb hts lt_st.2.2.2.2.2.2.1) (ltb hts lt_in.2.2.2.2) (nfb hgv nf_us) AH_no, vx_Zqof (ltb hts lt_st.2.2.2.2.2.2.2) (ltb hts lt_in.2.2.2.2) (nfb hgv nf_ss) AH_no⟩, ⟨m1, vk_R.of (ltb hts lt_sr.1) hm1⟩, ⟨m2, vk_R.of (ltb hts lt_sr.2.1) hm2⟩, m3, vk_R.of (ltb hts lt_sr.2.2) hm3⟩, ?_⟩, hcf, va_AO.of (ltb hts lt_ar.2), ?_⟩
    · rintro C Dd ⟨h1, h2, h3⟩
      rcases h1 with rfl | rfl | rfl <;> rcases h2 with rfl | rfl | rfl
      · exact absurd rfl h3
      · exact va_Nc.of (nfb hgv nf_nc.1)
      · exact va_Nc.of (nfb hgv nf_nc.2.2.2.2.1)
      · exact va_Nc.of (nfb hgv nf_nc.2.2.1)
      · exact absurd rfl h3
      · exact va_Nc.of (nfb hgv nf_nc.2.2.2.2.2)
      · exact va_Nc.of (nfb hgv nf_nc.2.2.2.1)
      · exact va_Nc.of (nfb hgv nf_nc.2.1)
      · exact absurd rfl h3
    · refine ⟨scr, hx1, hx2, hx3, Nat.le_of_eq hx4.symm, by rw [hx4], fun j hj => ?_, AH_no b (Array.getElem?_eq_some_iff.mp hx1).1⟩
      rw [hx5 j hj]
      show some (Value.int (xs j)) = some (Value.int (Int32.ofInt (xs ((j : Int)).toNat).toInt))
      rw [Int.toNat_natCast, Int32.ofInt_toInt]
  refine ⟨mkE E0 N (fun j => (xs j.toNat).toInt), rfl, rfl, ⟨⟨hD, fun k q hq => ?_⟩, st_KN hts, hpp⟩, LF_mk (fun j => i32_z _)⟩
  have hq2 : ([(cI, .int), (cQ, .object RX5)] : List (ClassId × FieldType))[k]? = some q := hq
  have hk : k = 0 ∨ k = 1 ∨ 2 ≤ k := by omega
  rcases hk with rfl | rfl | hk
  · cases hq2; exact ⟨hI1, hI2⟩
  · cases hq2; exact ⟨hQ1, hQ2⟩
  · rw [List.getElem?_eq_none (by show 2 ≤ k; exact hk)] at hq2
    cases hq2

