/-! new ids: objects and arrays that are made -/
theorem ac_int : Cond.arrayClass .int ∈ tb := inT 130 (by decide +kernel)
def XK (X : JX) : Nat → Nat := match X with | (_, _, _, _, _, _, _, _, _, _, _, _, K0, _) => K0
def upK (K : Nat → Nat) (i k : Nat) : Nat → Nat := fun j => if j = i then k else K j
def upM (M : MM) (i : Nat) (f : Int → Int) : MM := fun j => if j = i then f else M j
theorem upK_eq {K : Nat → Nat} {i k : Nat} : upK K i k i = k := if_pos rfl
theorem upK_ne {K : Nat → Nat} {i k j : Nat} (h : j ≠ i) : upK K i k j = K j := if_neg h
theorem upM_eq {M : MM} {i : Nat} {f : Int → Int} : upM M i f i = f := if_pos rfl
theorem upM_ne {M : MM} {i j : Nat} {f : Int → Int} (h : j ≠ i) : upM M i f j = M j := if_neg h
def lvs (K : Nat → Nat) : List Value → Prop
  | [] => True
  | .ref i :: t => K i ≠ 0 ∧ lvs K t
  | _ :: t => lvs K t
theorem cv_keep {K ad ad2 : Nat → Nat} (h : ∀ i, K i ≠ 0 → ad2 i = ad i) : ∀ (st : List Value), lvs K st → st.map (cv ad2) = st.map (cv ad)
  | [], _ => rfl
  | v :: t, hl => by
    cases v
    case ref i => rw [List.map_cons, List.map_cons, cv_keep h t hl.2]; show Value.ref (ad2 i) :: _ = _; rw [h i hl.1]; rfl
    all_goals (rw [List.map_cons, List.map_cons, cv_keep h t hl]; rfl)
theorem mlv_keep {K ad ad2 : Nat → Nat} (h : ∀ i, K i ≠ 0 → ad2 i = ad i) : ∀ (L : List (Nat × Value)), lvs K (L.map (fun q => q.2)) → mlv ad2 L = mlv ad L
  | [], _ => rfl
  | (n, v) :: t, hl => by
    have e : (n, cv ad2 v) = (n, cv ad v) ∧ lvs K (t.map (fun q => q.2)) := by
      cases v
      case ref i => exact ⟨by show (n, Value.ref (ad2 i)) = (n, Value.ref (ad i)); rw [h i hl.1], hl.2⟩
      all_goals exact ⟨rfl, hl⟩
    show (n, cv ad2 v) :: mlv ad2 t = (n, cv ad v) :: mlv ad t
    rw [e.1, mlv_keep h t e.2]
/-- what a live object points to is live -/
def Cl (K : Nat → Nat) (M : MM) : Prop := ∀ i, K i ≠ 0 → (∀ f o, K i < 10 → f < nf (K i) → ro (K i) f = some o → K (i + o) ≠ 0) ∧ (K i = 10 → ∀ j : Nat, 0 ≤ M i j → K (M i j).toNat ≠ 0) ∧ (∀ f o, 12 < K i → K i < 1000 → f < nf (K i - 100) → ro (K i - 100) f = some o → M i (100 + (f : Int)) ≠ 0 → K (i + o) ≠ 0)
theorem ce_keep {E : EE} {K ad ad2 : Nat → Nat} {M : MM} (hC : Cl K M) (h : ∀ i, K i ≠ 0 → ad2 i = ad i) {i : Nat} (hi : K i ≠ 0) : ce E ad2 (K i) i M = ce E ad (K i) i M := by
  obtain ⟨c1, c2, c3⟩ := hC i hi
  have hf : ∀ k f, (∀ o, ro k f = some o → ad2 (i + o) = ad (i + o)) → fv E ad2 k i f M = fv E ad k i f M := by
    intro k f q
    unfold fv
    cases hr : ro k f with
    | some o => dsimp only; rw [q o hr]
    | none => rfl
  unfold ce
  by_cases h1 : K i < 10
  · rw [if_pos h1, if_pos h1]
    congr 2
    apply List.map_congr_left
    intro f hm
    exact hf _ _ (fun o hr => h _ (c1 f o h1 (List.mem_range.mp hm) hr))
  · rw [if_neg h1, if_neg h1]
    by_cases h2 : K i = 10
    · rw [if_pos h2, if_pos h2]
      congr 7
      funext j
      by_cases q : M i j < 0
      · rw [if_pos q, if_pos q]
      · rw [if_neg q, if_neg q, h _ (c2 h2 j (by omega))]
    · rw [if_neg h2, if_neg h2]
      by_cases h3 : K i = 11
      · rw [if_pos h3, if_pos h3]
      · rw [if_neg h3, if_neg h3]
        by_cases h4 : K i = 12
        · rw [if_pos h4, if_pos h4]
        · rw [if_neg h4, if_neg h4]
          by_cases h5 : K i < 1000
          · rw [if_pos h5, if_pos h5]
            congr 2
            apply List.map_congr_left
            intro f hm
            unfold fvr
            cases hr : ro (K i - 100) f with
            | some o =>
              dsimp only
              by_cases q : M i (100 + (f : Int)) = 0
              · rw [if_pos q, if_pos q]
              · rw [if_neg q, if_neg q, h _ (c3 f o (by omega) h5 (List.mem_range.mp hm) hr q)]
            | none => exact hf _ _ (fun o q => by rw [hr] at q; cases q)
          · rw [if_neg h5, if_neg h5]
theorem Rep_ext {E : EE} {ad K : Nat → Nat} {M : MM} {H H2 : Heap} {i k : Nat} {f : Int → Int} (hR : Rep E ad K M H) (hC : Cl K M) (hi : K i = 0) (h1 : H2.size = H.size + 1) (h2 : ∀ q : Nat, q < H.size → H2[q]? = H[q]?) (hat : va_at E.1 vwCl (H.size, ce E (upK ad i H.size) k i (upM M i f)) H2) (hr : ∀ j, rg k j (f j)) : Rep E (upK ad i H.size) (upK K i k) (upM M i f) H2 := by
  obtain ⟨r1, r2, r3, ⟨r4, r5⟩, r6⟩ := hR
  have hlt : ∀ j, K j ≠ 0 → ad j < H.size := fun j hj => (r1 j hj).lt
  refine ⟨fun j hj => ?_, fun j j2 hj hj2 e => ?_, fun j hj => ?_, ⟨by omega, fun q hq => ?_⟩, fun j x hj => ?_⟩
  · by_cases e : j = i
    · subst e; rw [upK_eq, upK_eq]; exact hat
    · rw [upK_ne e] at hj ⊢
      rw [upK_ne e, ce_congr (M2 := M) (upM_ne e), ce_keep (ad := ad) hC (fun j2 h2 => upK_ne (fun q => h2 (by rw [q]; exact hi))) hj]
      exact (r1 j hj).kept (h2 _ (hlt j hj))
  · by_cases e1 : j = i
    · by_cases e2 : j2 = i
      · rw [e1, e2]
      · rw [upK_ne e2] at hj2 e
        rw [e1, upK_eq] at e
        have := hlt j2 hj2; omega
    · rw [upK_ne e1] at hj e
      by_cases e2 : j2 = i
      · rw [e2, upK_eq] at e
        have := hlt j hj; omega
      · rw [upK_ne e2] at hj2 e
        exact r2 j j2 hj hj2 e
  · by_cases e : j = i
    · rw [e, upK_eq]; exact r4
    · rw [upK_ne e] at hj ⊢; exact r3 j hj
  · rw [h2 q (by omega)]; exact r5 q hq
  · by_cases e : j = i
    · rw [e, upK_eq, upM_eq]; exact hr x
    · rw [upK_ne e] at hj ⊢; rw [upM_ne e]; exact r6 j x hj
theorem adE_ext {K0 ad0 K ad : Nat → Nat} {i k q : Nat} (h : adE K0 ad0 K ad) (hg : ∀ j, K0 j ≠ 0 → K j ≠ 0) (hi : K i = 0) (hk : k ≠ 0) : adE K0 ad0 (upK K i k) (upK ad i q) := by
  have hi0 : K0 i = 0 := by
    by_cases e : K0 i = 0
    · exact e
    · exact absurd hi (hg i e)
  refine ⟨fun j hj => ?_, fun e => ?_⟩
  · rw [upK_ne (fun e => by rw [e] at hj; exact hj hi0)]; exact h.1 j hj
  · have := congrFun e i
    rw [upK_eq] at this
    omega
theorem Cl_ext {K : Nat → Nat} {M : MM} {i k : Nat} {f : Int → Int} (hC : Cl K M) (hi : K i = 0) (hk : k ≠ 0) (hkk : (10 < k ∧ k < 13) ∨ 1000 ≤ k ∨ (k = 10 ∧ ∀ j : Nat, f j < 0) ∨ (12 < k ∧ k < 1000 ∧ ∀ g : Nat, f (100 + (g : Int)) = 0)) : Cl (upK K i k) (upM M i f) := by
  intro j hj
  have up : ∀ n, K n ≠ 0 → upK K i k n ≠ 0 := fun n hn => by
    by_cases e : n = i
    · rw [e, upK_eq]; exact hk
    · rw [upK_ne e]; exact hn
  by_cases e : j = i
  · subst e
    rw [upK_eq, upM_eq]
    refine ⟨fun g o h1 _ _ => by omega, fun h1 j2 h2 => ?_, fun g o h1 h2 h3 h4 h5 => ?_⟩
    · rcases hkk with q | q | q | q
      · omega
      · omega
      · have := q.2 j2; omega
      · omega
    · rcases hkk with q | q | q | q
      · omega
      · omega
      · omega
      · exact absurd (q.2.2 g) h5
  · rw [upK_ne e] at hj ⊢
    rw [upM_ne e]
    obtain ⟨c1, c2, c3⟩ := hC j hj
    exact ⟨fun g o h1 h2 h3 => up _ (c1 g o h1 h2 h3), fun h1 j2 h2 => up _ (c2 h1 j2 h2), fun g o h1 h2 h3 h4 h5 => up _ (c3 g o h1 h2 h3 h4 h5)⟩
def df (k : Nat) : Int → Int := fun j => if k = 4 ∧ j = 4 then -1 else 0
/-- the class of kind k is made at idx of own -/
def FN (own : String) (idx k : Nat) : Prop := ∃ (C : String) (T : u_T) (N : Nat) (ty0 : Nat → FieldType), vwCl[k - 1]? = some (C, T, N) ∧ (0 < k ∧ k < 10) ∧ nf k = N ∧ (∀ w ∈ u_ws C T N, w ∈ tb) ∧ (∀ j, j < N → parseFieldDescriptor (T j).2.2.1 = some (ty0 j)) ∧ Cond.classLink own idx C ∈ tb ∧ Cond.instantiable C N ∈ tb ∧ Cond.initialized C ∈ tb ∧
  ∀ j, j < N → defaultValue (ty0 j) = (match ro k j with | some _ => .null | none => if k = 9 ∧ j = 23 then .long 0 else if k = 4 ∧ j = 4 then .null else .int 0)
section RULES
variable {E : EE} {X : JX} {cc : ByteArray} {own : String} {nl d c0 s0 : Nat} {pc : Nat} {L : List (Nat × Value)} {st : List Value} {K : Nat → Nat} {M : MM} {a b : Nat}
theorem J_new (hX : XO E X cc own nl d c0 s0) {idx k : Nat} (i : Nat) (hF : FN own idx k) (hd : decode cc pc = .ok (.new idx, 3)) (hi : K i = 0) (hg : ∀ j, XK X j ≠ 0 → K j ≠ 0) (hC : Cl K M) (hL : lvs K (L.map (fun q => q.2))) (hst : lvs K st) (hcs : a + 1 ≤ c0 ∧ b + nf k ≤ s0)
    (k1 : ∀ K2 M2, K2 = upK K i (100 + k) → M2 = upM M i (df k) → Cl K2 M2 → J E X (pc + 3) L (.ref i :: st) K2 M2 (a + 1) (b + nf k)) : J E X pc L st K M a b := by
  obtain ⟨p, l, e, R, s, m, args, below, meth, c, Q, nL, K0, ad0⟩ := X
  intro ad H locs ls hR he hs hv
  obtain ⟨hx, hb, ⟨hml, hnl⟩, hown, hts, hroom, hKF⟩ := hX
  obtain ⟨C, T, N, ty0, h1, hk, hN, hin, hty, w1, w2, w3, hdf⟩ := hF
  have hKn := hKF.1.1 _ _ h1
  have hkeep : ∀ j, K j ≠ 0 → upK ad i H.size j = ad j := fun j hj => upK_ne (fun q => hj (by rw [q]; exact hi))
  refine W.newcK (n := N) hx hb hown (hts _ w1) (hts _ w2) (hts _ w3) rfl hd (by omega) (by omega) hKn.2.1 rfl fun H1 kC hkC e1 z1 o1 => ?_
  have hat : va_at E.1 vwCl (H.size, ce E (upK ad i H.size) (100 + k) i (upM M i (df k))) H1 := by
    unfold ce
    rw [if_neg (by omega), if_neg (by omega), if_neg (by omega), if_neg (by omega), if_pos (by omega), show 100 + k - 101 = k - 1 by omega, show 100 + k - 100 = k by omega]
    refine ⟨_, h1, (u_born ty0 hts hin hKn hkC e1 hty).to (fun j hj => ?_)⟩
    show defaultValue (ty0 j) = ((List.range (nf k)).map (fun f => fvr E (upK ad i H.size) k i f (upM M i (df k)))).getD j .null
    have e2 : ((List.range (nf k)).map (fun f => fvr E (upK ad i H.size) k i f (upM M i (df k)))).getD j .null = fvr E (upK ad i H.size) k i j (upM M i (df k)) := by
      rw [List.getD_eq_getElem?_getD, List.getElem?_map, List.getElem?_range (by omega)]; rfl
    rw [e2, hdf j hj]
    unfold fvr fv
    rw [upM_eq]
    unfold df
    cases hr : ro k j with
    | some o => dsimp only; rw [if_pos (if_neg (by omega))]
    | none =>
      dsimp only
      by_cases h9 : k = 9 ∧ j = 23
      · rw [if_pos h9, if_pos h9, if_neg (by omega)]; rfl
      · rw [if_neg h9, if_neg h9]
        by_cases h4 : k = 4 ∧ j = 4
        · rw [if_pos h4, if_pos h4, if_pos (by rw [if_pos ⟨h4.1, rfl⟩]; decide)]
        · rw [if_neg h4, if_neg h4, if_neg (by omega)]; rfl
  have hR2 := Rep_ext hR hC hi z1 o1 hat (fun j => Or.inr (by unfold df; split <;> omega))
  have hfin := k1 _ _ rfl rfl (Cl_ext hC hi (by omega) (Or.inr (Or.inr (Or.inr ⟨by omega, by omega, fun g => by unfold df; rw [if_neg (by omega)]⟩)))) _ H1 locs ls hR2 (adE_ext he hg hi (by omega)) hs (by rw [mlv_keep hkeep L hL]; exact hv)
  rw [hN] at hfin
  have e3 : (Value.ref i :: st).map (cv (upK ad i H.size)) = .ref H.size :: st.map (cv ad) := by
    rw [List.map_cons, cv_keep hkeep st hst]
    show Value.ref (upK ad i H.size i) :: _ = _
    rw [upK_eq]
  rw [e3] at hfin
  exact hfin
theorem J_newi (hX : XO E X cc own nl d c0 s0) {n : Int} (i : Nat) (hd : decode cc pc = .ok (.newarray .int, 2)) (hn : 0 ≤ n ∧ n < 100000) (hi : K i = 0) (hg : ∀ j, XK X j ≠ 0 → K j ≠ 0) (hC : Cl K M) (hL : lvs K (L.map (fun q => q.2))) (hst : lvs K st) (hcs : a + 1 ≤ c0 ∧ b + n.toNat ≤ s0)
    (k1 : ∀ K2 M2, K2 = upK K i (1000 + n.toNat) → M2 = upM M i (fun _ => 0) → Cl K2 M2 → J E X (pc + 2) L (.ref i :: st) K2 M2 (a + 1) (b + n.toNat)) : J E X pc L (vI n :: st) K M a b := by
  obtain ⟨p, l, e, R, s, m, args, below, meth, c, Q, nL, K0, ad0⟩ := X
  intro ad H locs ls hR he hs hv
  obtain ⟨hx, hb, ⟨hml, hnl⟩, hown, hts, hroom, hKF⟩ := hX
  have hkeep : ∀ j, K j ≠ 0 → upK ad i H.size j = ad j := fun j hj => upK_ne (fun q => hj (by rw [q]; exact hi))
  have hti := (hKF.1.2 0 _ tys_0).2
  refine va_newaK (atype := .int) (n := Int32.ofInt n) (N := n.toNat) (h := H.size) hx hb (hts _ ac_int) rfl hd rfl ?_ (oi_cl (by omega)) ?_ (by omega) (by omega) rfl fun H1 cA e1 z1 o1 hA hf => ?_
  · rw [oi_0, oi_lt (by omega) (by omega)]; omega
  · show n.toNat * 4 ≤ _; omega
  have hcA : cA = E.2.1.1 := Option.some.inj (hf.symm.trans hti)
  subst hcA
  have hat : va_at E.1 vwCl (H.size, ce E (upK ad i H.size) (1000 + n.toNat) i (upM M i (fun _ => 0))) H1 := by
    rw [ce_arr]
    show H1[H.size]? = some (vp_cell _ _)
    rw [e1, upM_eq]; rfl
  have hR2 := Rep_ext hR hC hi z1 o1 hat (fun j => Or.inr (by omega))
  have hfin := k1 _ _ rfl rfl (Cl_ext hC hi (by omega) (Or.inr (Or.inl (by omega)))) _ H1 locs ls hR2 (adE_ext he hg hi (by omega)) hs (by rw [mlv_keep hkeep L hL]; exact hv)
  have e3 : (Value.ref i :: st).map (cv (upK ad i H.size)) = .ref H.size :: st.map (cv ad) := by
    rw [List.map_cons, cv_keep hkeep st hst]
    show Value.ref (upK ad i H.size i) :: _ = _
    rw [upK_eq]
  rw [e3] at hfin
  exact hfin
end RULES
