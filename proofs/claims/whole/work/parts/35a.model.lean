/-! the reference's faces: words, rules -/
/-- a new code -/
def CdM (M : MM) (r : Nat) (c : Int) (M0 : MM) : Prop := M0 r 6 = c ∧ (∀ i, i ≠ r → M0 i = M i) ∧ ∀ j, j ≠ 6 → M0 r j = M r j
theorem KpM.row {M M2 : MM} {r i : Nat} (h : KpM M r M2) (h1 : i ≠ r) (h2 : i ≠ r + 3) : M2 i = M i := by
  obtain ⟨z, c, -, -, -, -, h5, -⟩ := h
  exact h5 i h1 h2
theorem KpM.fld {M M2 : MM} {r : Nat} {j : Int} (h : KpM M r M2) (h1 : j ≠ 3) : M2 r j = M r j := by
  obtain ⟨z, c, -, -, -, -, -, h6⟩ := h
  exact h6 j h1
/-- of a change: the code is c; refused, or the state is kept and then the page is S2 -/
def ChM (M : MM) (r : Nat) (c v : Int) (S2 : MM) (r9 : Option Value) (M2 : MM) : Prop := ∃ M0, CdM M r c M0 ∧ (c ≠ 0 ∧ r9 = some (vI 0) ∧ M2 = M0 ∨ c = 0 ∧ r9 = some (vI v) ∧ ∃ M1, KpM M0 r M1 ∧ (∀ i, i ≠ r + 1 → i ≠ r + 5 → M2 i = M1 i) ∧ RS S2 (M2 (r + 1)))
theorem RS_an {S : MM} {M : MM} {r : Nat} {w h : Int} (hR : RS S (M (r + 1))) : RS (begS S w h) (anM M r w h (r + 1)) := by
  simp only [anM, mset_row]; exact RS_beg hR
theorem an_row {M : MM} {r i : Nat} {w h : Int} (hi : i ≠ r + 1) : anM M r w h i = M i := by
  unfold anM; rw [mset_ne hi, mset_ne hi, mset_ne hi, mset_ne hi, mset_ne hi, mset_ne hi, mset_ne hi, mset_ne hi]
theorem RS_as {S : MM} {M : MM} {r : Nat} {l g t : Int} (hR : RS S (M (r + 1))) (hc : 0 ≤ S 11 0 ∧ S 11 0 < 8) (hn : S 1 0 ≤ 20) : RS (scS S l g t) (asM M r l g t (r + 1)) := by
  have e3 : M (r + 1) 3 = S 11 0 := hR.1.2.2.2.1
  simp only [asM, mset_row]
  rw [e3]
  exact RS_sc hR hc hn
theorem as_row {M : MM} {r i : Nat} {l g t : Int} (hi : i ≠ r + 1) : asM M r l g t i = M i := by
  unfold asM; rw [mset_ne hi, mset_ne hi, mset_ne hi, mset_ne hi]
theorem RS_ad {S : MM} {M : MM} {r : Nat} {p u v w wd hg : Int} (ar : Int) (hR : RS S (M (r + 1))) (hc : 0 ≤ S 1 0 ∧ S 1 0 < 20) : RS (adS S ar p u v w wd hg) (adM M r p u v w wd hg (r + 1)) := by
  have e2 : M (r + 1) 2 = S 1 0 := hR.1.2.2.1
  simp only [adM, mset_row]
  rw [e2]
  exact RS_add hR hc
theorem ad_row {M : MM} {r i : Nat} {p u v w wd hg : Int} (hi : i ≠ r + 1) : adM M r p u v w wd hg i = M i := by
  unfold adM; rw [mset_ne hi, mset_ne hi, mset_ne hi, mset_ne hi, mset_ne hi, mset_ne hi, mset_ne hi, mset_ne hi]
/-- what stands against a node, on the page -/
def gA (S : MM) (p u v w : Int) : Int := if p ≠ -1000 ∧ ¬ hs S p then 1 else if bx S p ∨ ¬ plc u v w then 2 else if 20 ≤ S 1 0 ∨ 5 < (if hs S p then S 3 p + 1 else 0) then 3 else 0
def gB (S : MM) (p u v w wd hg : Int) : Int := if gA S p u v w ≠ 1 ∧ ¬ ((1 ≤ wd ∧ wd ≤ 100) ∧ (1 ≤ hg ∧ hg ≤ 100)) then 2 else gA S p u v w
theorem fG_S {M : MM} {b : Nat} {p u v w : Int} : fG M b p u v w = gA (stg M b) p u v w := rfl
theorem fB_S {M : MM} {b : Nat} {p u v w wd hg : Int} : fB M b p u v w wd hg = gB (stg M b) p u v w wd hg := rfl
theorem gA_r (S : MM) (p u v w : Int) : 0 ≤ gA S p u v w ∧ gA S p u v w ≤ 3 := by unfold gA; (repeat' split) <;> omega
theorem gB_r (S : MM) (p u v w wd hg : Int) : 0 ≤ gB S p u v w wd hg ∧ gB S p u v w wd hg ≤ 3 := by
  have := gA_r S p u v w
  unfold gB; split <;> omega
section RULES
variable {E : EE} {X : JX} {cc : ByteArray} {own : String} {nl d c0 s0 : Nat} {pc : Nat} {L : List (Nat × Value)} {st : List Value} {K : Nat → Nat} {M : MM} {a b : Nat}
theorem J_getl (hX : XO E X cc own nl d c0 s0) {idx i : Nat} (hF : FL own idx 9 23) (hd : decode cc pc = .ok (.getfield idx, 3)) (hK : K i = 9) (k1 : J E X (pc + 3) L (vL (M i 23) :: st) K M a b) : J E X pc L (.ref i :: st) K M a b := by
  obtain ⟨p, l, e, R, s, m, args, below, meth, c, Q, nL, K0, ad0⟩ := X
  refine J_getv hX hF hd hK (fun ad H locs ls hR he hs hv => ?_)
  exact k1 ad H locs ls hR he hs hv
theorem J_putl (hX : XO E X cc own nl d c0 s0) {idx i : Nat} {x : Int} (hF : FL own idx 9 23) (hw : ∀ (C : String) (T : u_T) (N : Nat), vwCl[9 - 1]? = some (C, T, N) → (T 23).2.2.2 = false ∧ parseFieldDescriptor (T 23).2.2.1 = some .long) (hd : decode cc pc = .ok (.putfield idx, 3)) (hK : K i = 9) (k1 : ∀ M2, M2 = mset M i 23 x → J E X (pc + 3) L st K M2 a b) : J E X pc L (vL x :: .ref i :: st) K M a b := by
  obtain ⟨p, l, e, R, s, m, args, below, meth, c, Q, nL, K0, ad0⟩ := X
  intro ad H locs ls hR he hs hv
  obtain ⟨hx0, hb, hml, hown, hts, hroom, hKK, -⟩ := hX
  obtain ⟨C, T, N, ty0, h1, hk, hf, hN, hin, hlink, hty0, hnm⟩ := hF
  obtain ⟨hfin, hpd⟩ := hw C T N h1
  have hk0 : K i ≠ 0 := by omega
  have hat := hR.1 i hk0
  rw [hK, ce_obj hk.2] at hat
  obtain ⟨r, g1, cell, q1, q2, q3, q4⟩ := hat
  have hr : r = (C, T, N) := Option.some.inj (g1.symm.trans h1)
  subst hr
  have hap := va_apart (own := own) hts hin ty0 hty0 hnm hKK h1
  obtain ⟨hS, hfc, kC, hkC, hkind⟩ := hKK.1 (9 - 1) _ h1
  obtain ⟨cf, kf, fi, fd, hi, hsl⟩ := hS 23 hf
  have hlay := hts _ (hin _ (u_in_lay hf))
  unfold u_lay at hlay
  rw [if_neg (by rw [hfin]; decide)] at hlay
  have hst := (u_facts hfc hkC (u_lays hts hin hf) hi).1
  have h6 := u_store (v := vL x) hfc hkC hkind hlay hi hpd rfl rfl
  refine W.putK hx0 hb (f := fd) (v := vL x) ⟨hown, hts _ hlink, ⟨_, _, _, hi⟩, hst⟩ (by rw [q2]; exact h6) q1 q3 (by rw [hsl]; exact k2_hasslot (q4 23 hf)) rfl rfl hd fun H2 e1 e2 e3 => ?_
  rw [hsl] at e1 ⊢
  refine k1 _ rfl ad H2 _ ls (Rep_set hR hk0 ?_ e2 e3 (fun i2 h => mset_ne h) ?_) he ?_ hv
  · rw [hK, ce_obj hk.2]
    refine ⟨_, h1, t_OB.to (V := updV (vp_V ((List.range (nf 9)).map (fun f => fv E ad 9 i f M))) 23 (vL x)) ⟨_, e1, q2, q3, t_set q4 hap hf (vL x)⟩ (fun j2 _ => ?_)⟩
    have hl : 23 < ((List.range (nf 9)).map (fun f => fv E ad 9 i f M)).length := by simp; omega
    rw [vp_updV_set hl (vL x) j2]
    have e5 : fv E ad 9 i 23 (mset M i 23 x) = vL x := by
      show vL (mset M i 23 x i ((23 : Nat) : Int)) = vL x
      rw [show ((23 : Nat) : Int) = 23 from rfl, mset_eq]
    have e6 := List_map_set (N := nf 9) (f := 23) (g := fun f => fv E ad 9 i f M) (g2 := fun f => fv E ad 9 i f (mset M i 23 x)) (fun j3 hj3 hne => ?_) (by omega)
    · simp only [e5] at e6
      rw [e6]
    · show fv E ad 9 i j3 (mset M i 23 x) = fv E ad 9 i j3 M
      unfold fv
      rw [mset_nj (by omega)]
      rw [if_neg (c := 9 = 4 ∧ j3 = 4) (by omega), if_neg (c := 9 = 4 ∧ j3 = 4) (by omega)]
  · refine mset_rg (fun j2 => hR.2.2.2.2 i j2 hk0) ?_
    rw [hK]; exact Or.inl (Or.inr (Or.inr ⟨rfl, rfl⟩))
  · intro z hz
    rcases List.mem_append.mp hz with h | h
    · exact hs z h
    · rw [List.mem_singleton.mp h]; exact hR.2.2.1 i hk0
end RULES
theorem fw_hash : ∀ (C : String) (T : u_T) (N : Nat), vwCl[9 - 1]? = some (C, T, N) → (T 23).2.2.2 = false ∧ parseFieldDescriptor (T 23).2.2.1 = some .long := fun C T N h => by cases h; exact ⟨rfl, by decide +kernel⟩
-- X10_notAdd
set_option maxHeartbeats 4000000 in
set_option maxRecDepth 100000 in
theorem m_X10_notAdd {E : EE} {K : Nat → Nat} {M : MM} {r : Nat} {T : Int} {S : MM} {p u v w : Int} (hM : ModelK K r) (hR : RS S (M (r + 1))) (hW : WFS T S) (hp : i32 p) (hu : i32 u) (hv : i32 v) (hw : i32 w) : CnI E 2 yX10_notAdd cX10_notAdd 5 (Option.some FieldType.int) [.ref r, vI p, vI u, vI v, vI w] K M (gA S p u v w) := by
  obtain ⟨⟨rs0, rs1, rs2, rs3, rs4, rs5, rs6, rs7, rs8, rs9, rs10, rs13⟩, rst, rsn, rsc⟩ := id hR
  have hs9 := hW.2.1
  unfold WFSs at hs9
  refine ⟨Cn_of RX10 (plainFor_of_name (by decide)) rfl (Nat.le_of_ble_eq_true rfl) (fun X hX hQ => ?_), by have := gA_r S p u v w; omega⟩
  refine J_iload_n hX dX10_notAdd_0 rfl ?_
  refine J_sipush hX dX10_notAdd_1 rfl ?_
  refine J_icmp_eq hX 17 dX10_notAdd_4 (by omega) (by decide) (by decide) (fun c4 => ?_) (fun c4 => ?_)
  · refine J_iload_n hX dX10_notAdd_17 rfl ?_
    refine J_sipush hX dX10_notAdd_18 rfl ?_
    refine J_icmp_eq hX 32 dX10_notAdd_21 (by omega) (by decide) (by decide) (fun c21 => ?_) (fun c21 => ?_)
    · refine J_iload_n hX dX10_notAdd_32 rfl ?_
      refine J_callSB hX _ dX10_notAdd_33 cw_RX10_82 (m_X10_isFar (by omega)) rfl (Nat.le_of_ble_eq_true rfl) (by decide) ⟨Nat.zero_le _, Nat.zero_le _⟩ ?_
      refine J_ifb_eq hX 54 dX10_notAdd_36 (by decide) (fun c36 => ?_) (fun c36 => ?_)
      · refine J_iconst hX dX10_notAdd_54 ?_
        exact J_retI hX hQ dX10_notAdd_55 (by unfold gA; (repeat' split) <;> omega) rfl rfl (Nat.zero_le _) (Nat.zero_le _)
      · refine J_iload_n hX dX10_notAdd_39 rfl ?_
        refine J_callSB hX _ dX10_notAdd_40 cw_RX10_82 (m_X10_isFar (by omega)) rfl (Nat.le_of_ble_eq_true rfl) (by decide) ⟨Nat.zero_le _, Nat.zero_le _⟩ ?_
        refine J_ifb_eq hX 54 dX10_notAdd_43 (by decide) (fun c43 => ?_) (fun c43 => ?_)
        · refine J_iconst hX dX10_notAdd_54 ?_
          exact J_retI hX hQ dX10_notAdd_55 (by unfold gA; (repeat' split) <;> omega) rfl rfl (Nat.zero_le _) (Nat.zero_le _)
        · refine J_iload hX dX10_notAdd_46 rfl ?_
          refine J_callSB hX _ dX10_notAdd_48 cw_RX10_82 (m_X10_isFar (by omega)) rfl (Nat.le_of_ble_eq_true rfl) (by decide) ⟨Nat.zero_le _, Nat.zero_le _⟩ ?_
          refine J_ifb_ne hX 56 dX10_notAdd_51 (by decide) (fun c51 => ?_) (fun c51 => ?_)
          · refine J_aload_n hX dX10_notAdd_56 rfl ?_
            refine J_gr hX (r + 1) fr_RX10_7 dX10_notAdd_57 (show K (r) = 9 from hM 0 (by decide)) rfl ?_
            refine J_iconst hX dX10_notAdd_60 ?_
            refine J_iald hX dX10_notAdd_61 (show K (r + 1) = 1000 + 198 from hM 1 (by decide)) ⟨by omega, by omega⟩ (by decide) (fun r61 => ?_)
            refine J_bipush hX dX10_notAdd_62 rfl ?_
            refine J_icmp_eq hX 83 dX10_notAdd_64 (by omega) (by decide) (by decide) (fun c64 => ?_) (fun c64 => ?_)
            · refine J_iconst hX dX10_notAdd_83 ?_
              refine J_goto hX 88 dX10_notAdd_84 (by decide) ?_
              exact J_retI hX hQ dX10_notAdd_88 (by unfold gA; (repeat' split) <;> omega) rfl rfl (Nat.zero_le _) (Nat.zero_le _)
            · refine J_iload_n hX dX10_notAdd_67 rfl ?_
              refine J_sipush hX dX10_notAdd_68 rfl ?_
              refine J_icmp_eq hX 87 dX10_notAdd_71 (by omega) (by decide) (by decide) (fun c71 => ?_) (fun c71 => ?_)
              · refine J_iconst hX dX10_notAdd_87 ?_
                exact J_retI hX hQ dX10_notAdd_88 (by unfold gA; (repeat' split) <;> omega) rfl rfl (Nat.zero_le _) (Nat.zero_le _)
              · have hn9 : hs S p := by omega
                have hw9 := hW.2.2.1 p hn9.1 hn9.2.1
                refine J_aload_n hX dX10_notAdd_74 rfl ?_
                refine J_iload_n hX dX10_notAdd_75 rfl ?_
                refine J_callVI hX _ dX10_notAdd_76 cw_RX10_85 (m_X10_groupsAround hM hR hW hn9) ⟨(show K (r) = 9 from hM 0 (by decide)), by decide, by decide, rfl⟩ rfl (Nat.le_of_ble_eq_true rfl) (by decide) ⟨Nat.zero_le _, Nat.zero_le _⟩ (fun r76 => ?_)
                refine J_iconst hX dX10_notAdd_79 ?_
                refine J_icmp_lt hX 87 dX10_notAdd_80 (by omega) (by decide) (by decide) (fun c80 => ?_) (fun c80 => ?_)
                · refine J_iconst hX dX10_notAdd_87 ?_
                  exact J_retI hX hQ dX10_notAdd_88 (by unfold gA; (repeat' split) <;> omega) rfl rfl (Nat.zero_le _) (Nat.zero_le _)
                · refine J_iconst hX dX10_notAdd_83 ?_
                  refine J_goto hX 88 dX10_notAdd_84 (by decide) ?_
                  exact J_retI hX hQ dX10_notAdd_88 (by unfold gA; (repeat' split) <;> omega) rfl rfl (Nat.zero_le _) (Nat.zero_le _)
          · refine J_iconst hX dX10_notAdd_54 ?_
            exact J_retI hX hQ dX10_notAdd_55 (by unfold gA; (repeat' split) <;> omega) rfl rfl (Nat.zero_le _) (Nat.zero_le _)
    · have hn9 : hs S p := by omega
      have hw9 := hW.2.2.1 p hn9.1 hn9.2.1
      refine J_aload_n hX dX10_notAdd_24 rfl ?_
      refine J_iload_n hX dX10_notAdd_25 rfl ?_
      refine J_callVB hX _ dX10_notAdd_26 cw_RX10_79 (m_X10_isBox hM hR hW hn9) ⟨(show K (r) = 9 from hM 0 (by decide)), by decide, by decide, rfl⟩ rfl (Nat.le_of_ble_eq_true rfl) (by decide) ⟨Nat.zero_le _, Nat.zero_le _⟩ ?_
      refine J_ifb_ne hX 54 dX10_notAdd_29 (by decide) (fun c29 => ?_) (fun c29 => ?_)
      · refine J_iconst hX dX10_notAdd_54 ?_
        exact J_retI hX hQ dX10_notAdd_55 (by unfold gA; (repeat' split) <;> omega) rfl rfl (Nat.zero_le _) (Nat.zero_le _)
      · refine J_iload_n hX dX10_notAdd_32 rfl ?_
        refine J_callSB hX _ dX10_notAdd_33 cw_RX10_82 (m_X10_isFar (by omega)) rfl (Nat.le_of_ble_eq_true rfl) (by decide) ⟨Nat.zero_le _, Nat.zero_le _⟩ ?_
        refine J_ifb_eq hX 54 dX10_notAdd_36 (by decide) (fun c36 => ?_) (fun c36 => ?_)
        · refine J_iconst hX dX10_notAdd_54 ?_
          exact J_retI hX hQ dX10_notAdd_55 (by unfold gA; (repeat' split) <;> omega) rfl rfl (Nat.zero_le _) (Nat.zero_le _)
        · refine J_iload_n hX dX10_notAdd_39 rfl ?_
          refine J_callSB hX _ dX10_notAdd_40 cw_RX10_82 (m_X10_isFar (by omega)) rfl (Nat.le_of_ble_eq_true rfl) (by decide) ⟨Nat.zero_le _, Nat.zero_le _⟩ ?_
          refine J_ifb_eq hX 54 dX10_notAdd_43 (by decide) (fun c43 => ?_) (fun c43 => ?_)
          · refine J_iconst hX dX10_notAdd_54 ?_
            exact J_retI hX hQ dX10_notAdd_55 (by unfold gA; (repeat' split) <;> omega) rfl rfl (Nat.zero_le _) (Nat.zero_le _)
          · refine J_iload hX dX10_notAdd_46 rfl ?_
            refine J_callSB hX _ dX10_notAdd_48 cw_RX10_82 (m_X10_isFar (by omega)) rfl (Nat.le_of_ble_eq_true rfl) (by decide) ⟨Nat.zero_le _, Nat.zero_le _⟩ ?_
            refine J_ifb_ne hX 56 dX10_notAdd_51 (by decide) (fun c51 => ?_) (fun c51 => ?_)
            · refine J_aload_n hX dX10_notAdd_56 rfl ?_
              refine J_gr hX (r + 1) fr_RX10_7 dX10_notAdd_57 (show K (r) = 9 from hM 0 (by decide)) rfl ?_
              refine J_iconst hX dX10_notAdd_60 ?_
              refine J_iald hX dX10_notAdd_61 (show K (r + 1) = 1000 + 198 from hM 1 (by decide)) ⟨by omega, by omega⟩ (by decide) (fun r61 => ?_)
              refine J_bipush hX dX10_notAdd_62 rfl ?_
              refine J_icmp_eq hX 83 dX10_notAdd_64 (by omega) (by decide) (by decide) (fun c64 => ?_) (fun c64 => ?_)
              · refine J_iconst hX dX10_notAdd_83 ?_
                refine J_goto hX 88 dX10_notAdd_84 (by decide) ?_
                exact J_retI hX hQ dX10_notAdd_88 (by unfold gA; (repeat' split) <;> omega) rfl rfl (Nat.zero_le _) (Nat.zero_le _)
              · refine J_iload_n hX dX10_notAdd_67 rfl ?_
                refine J_sipush hX dX10_notAdd_68 rfl ?_
                refine J_icmp_eq hX 87 dX10_notAdd_71 (by omega) (by decide) (by decide) (fun c71 => ?_) (fun c71 => ?_)
                · refine J_iconst hX dX10_notAdd_87 ?_
                  exact J_retI hX hQ dX10_notAdd_88 (by unfold gA; (repeat' split) <;> omega) rfl rfl (Nat.zero_le _) (Nat.zero_le _)
                · have hn9 : hs S p := by omega
                  have hw9 := hW.2.2.1 p hn9.1 hn9.2.1
                  refine J_aload_n hX dX10_notAdd_74 rfl ?_
                  refine J_iload_n hX dX10_notAdd_75 rfl ?_
                  refine J_callVI hX _ dX10_notAdd_76 cw_RX10_85 (m_X10_groupsAround hM hR hW hn9) ⟨(show K (r) = 9 from hM 0 (by decide)), by decide, by decide, rfl⟩ rfl (Nat.le_of_ble_eq_true rfl) (by decide) ⟨Nat.zero_le _, Nat.zero_le _⟩ (fun r76 => ?_)
                  refine J_iconst hX dX10_notAdd_79 ?_
                  refine J_icmp_lt hX 87 dX10_notAdd_80 (by omega) (by decide) (by decide) (fun c80 => ?_) (fun c80 => ?_)
                  · refine J_iconst hX dX10_notAdd_87 ?_
                    exact J_retI hX hQ dX10_notAdd_88 (by unfold gA; (repeat' split) <;> omega) rfl rfl (Nat.zero_le _) (Nat.zero_le _)
                  · refine J_iconst hX dX10_notAdd_83 ?_
                    refine J_goto hX 88 dX10_notAdd_84 (by decide) ?_
                    exact J_retI hX hQ dX10_notAdd_88 (by unfold gA; (repeat' split) <;> omega) rfl rfl (Nat.zero_le _) (Nat.zero_le _)
            · refine J_iconst hX dX10_notAdd_54 ?_
              exact J_retI hX hQ dX10_notAdd_55 (by unfold gA; (repeat' split) <;> omega) rfl rfl (Nat.zero_le _) (Nat.zero_le _)
  · refine J_aload_n hX dX10_notAdd_7 rfl ?_
    refine J_iload_n hX dX10_notAdd_8 rfl ?_
    refine J_callVB hX _ dX10_notAdd_9 cw_RX10_75 (m_X10_isNode hM hR hW (by omega)) ⟨(show K (r) = 9 from hM 0 (by decide)), by decide, by decide, rfl⟩ rfl (Nat.le_of_ble_eq_true rfl) (by decide) ⟨Nat.zero_le _, Nat.zero_le _⟩ ?_
    refine J_ifb_ne hX 17 dX10_notAdd_12 (by decide) (fun c12 => ?_) (fun c12 => ?_)
    · refine J_iload_n hX dX10_notAdd_17 rfl ?_
      refine J_sipush hX dX10_notAdd_18 rfl ?_
      refine J_icmp_eq hX 32 dX10_notAdd_21 (by omega) (by decide) (by decide) (fun c21 => ?_) (fun c21 => ?_)
      · refine J_iload_n hX dX10_notAdd_32 rfl ?_
        refine J_callSB hX _ dX10_notAdd_33 cw_RX10_82 (m_X10_isFar (by omega)) rfl (Nat.le_of_ble_eq_true rfl) (by decide) ⟨Nat.zero_le _, Nat.zero_le _⟩ ?_
        refine J_ifb_eq hX 54 dX10_notAdd_36 (by decide) (fun c36 => ?_) (fun c36 => ?_)
        · refine J_iconst hX dX10_notAdd_54 ?_
          exact J_retI hX hQ dX10_notAdd_55 (by unfold gA; (repeat' split) <;> omega) rfl rfl (Nat.zero_le _) (Nat.zero_le _)
        · refine J_iload_n hX dX10_notAdd_39 rfl ?_
          refine J_callSB hX _ dX10_notAdd_40 cw_RX10_82 (m_X10_isFar (by omega)) rfl (Nat.le_of_ble_eq_true rfl) (by decide) ⟨Nat.zero_le _, Nat.zero_le _⟩ ?_
          refine J_ifb_eq hX 54 dX10_notAdd_43 (by decide) (fun c43 => ?_) (fun c43 => ?_)
          · refine J_iconst hX dX10_notAdd_54 ?_
            exact J_retI hX hQ dX10_notAdd_55 (by unfold gA; (repeat' split) <;> omega) rfl rfl (Nat.zero_le _) (Nat.zero_le _)
          · refine J_iload hX dX10_notAdd_46 rfl ?_
            refine J_callSB hX _ dX10_notAdd_48 cw_RX10_82 (m_X10_isFar (by omega)) rfl (Nat.le_of_ble_eq_true rfl) (by decide) ⟨Nat.zero_le _, Nat.zero_le _⟩ ?_
            refine J_ifb_ne hX 56 dX10_notAdd_51 (by decide) (fun c51 => ?_) (fun c51 => ?_)
            · refine J_aload_n hX dX10_notAdd_56 rfl ?_
              refine J_gr hX (r + 1) fr_RX10_7 dX10_notAdd_57 (show K (r) = 9 from hM 0 (by decide)) rfl ?_
              refine J_iconst hX dX10_notAdd_60 ?_
              refine J_iald hX dX10_notAdd_61 (show K (r + 1) = 1000 + 198 from hM 1 (by decide)) ⟨by omega, by omega⟩ (by decide) (fun r61 => ?_)
              refine J_bipush hX dX10_notAdd_62 rfl ?_
              refine J_icmp_eq hX 83 dX10_notAdd_64 (by omega) (by decide) (by decide) (fun c64 => ?_) (fun c64 => ?_)
              · refine J_iconst hX dX10_notAdd_83 ?_
                refine J_goto hX 88 dX10_notAdd_84 (by decide) ?_
                exact J_retI hX hQ dX10_notAdd_88 (by unfold gA; (repeat' split) <;> omega) rfl rfl (Nat.zero_le _) (Nat.zero_le _)
              · refine J_iload_n hX dX10_notAdd_67 rfl ?_
                refine J_sipush hX dX10_notAdd_68 rfl ?_
                refine J_icmp_eq hX 87 dX10_notAdd_71 (by omega) (by decide) (by decide) (fun c71 => ?_) (fun c71 => ?_)
                · refine J_iconst hX dX10_notAdd_87 ?_
                  exact J_retI hX hQ dX10_notAdd_88 (by unfold gA; (repeat' split) <;> omega) rfl rfl (Nat.zero_le _) (Nat.zero_le _)
                · have hn9 : hs S p := by omega
                  have hw9 := hW.2.2.1 p hn9.1 hn9.2.1
                  refine J_aload_n hX dX10_notAdd_74 rfl ?_
                  refine J_iload_n hX dX10_notAdd_75 rfl ?_
                  refine J_callVI hX _ dX10_notAdd_76 cw_RX10_85 (m_X10_groupsAround hM hR hW hn9) ⟨(show K (r) = 9 from hM 0 (by decide)), by decide, by decide, rfl⟩ rfl (Nat.le_of_ble_eq_true rfl) (by decide) ⟨Nat.zero_le _, Nat.zero_le _⟩ (fun r76 => ?_)
                  refine J_iconst hX dX10_notAdd_79 ?_
                  refine J_icmp_lt hX 87 dX10_notAdd_80 (by omega) (by decide) (by decide) (fun c80 => ?_) (fun c80 => ?_)
                  · refine J_iconst hX dX10_notAdd_87 ?_
                    exact J_retI hX hQ dX10_notAdd_88 (by unfold gA; (repeat' split) <;> omega) rfl rfl (Nat.zero_le _) (Nat.zero_le _)
                  · refine J_iconst hX dX10_notAdd_83 ?_
                    refine J_goto hX 88 dX10_notAdd_84 (by decide) ?_
                    exact J_retI hX hQ dX10_notAdd_88 (by unfold gA; (repeat' split) <;> omega) rfl rfl (Nat.zero_le _) (Nat.zero_le _)
            · refine J_iconst hX dX10_notAdd_54 ?_
              exact J_retI hX hQ dX10_notAdd_55 (by unfold gA; (repeat' split) <;> omega) rfl rfl (Nat.zero_le _) (Nat.zero_le _)
      · have hn9 : hs S p := by omega
        have hw9 := hW.2.2.1 p hn9.1 hn9.2.1
        refine J_aload_n hX dX10_notAdd_24 rfl ?_
        refine J_iload_n hX dX10_notAdd_25 rfl ?_
        refine J_callVB hX _ dX10_notAdd_26 cw_RX10_79 (m_X10_isBox hM hR hW hn9) ⟨(show K (r) = 9 from hM 0 (by decide)), by decide, by decide, rfl⟩ rfl (Nat.le_of_ble_eq_true rfl) (by decide) ⟨Nat.zero_le _, Nat.zero_le _⟩ ?_
        refine J_ifb_ne hX 54 dX10_notAdd_29 (by decide) (fun c29 => ?_) (fun c29 => ?_)
        · refine J_iconst hX dX10_notAdd_54 ?_
          exact J_retI hX hQ dX10_notAdd_55 (by unfold gA; (repeat' split) <;> omega) rfl rfl (Nat.zero_le _) (Nat.zero_le _)
        · refine J_iload_n hX dX10_notAdd_32 rfl ?_
          refine J_callSB hX _ dX10_notAdd_33 cw_RX10_82 (m_X10_isFar (by omega)) rfl (Nat.le_of_ble_eq_true rfl) (by decide) ⟨Nat.zero_le _, Nat.zero_le _⟩ ?_
          refine J_ifb_eq hX 54 dX10_notAdd_36 (by decide) (fun c36 => ?_) (fun c36 => ?_)
          · refine J_iconst hX dX10_notAdd_54 ?_
            exact J_retI hX hQ dX10_notAdd_55 (by unfold gA; (repeat' split) <;> omega) rfl rfl (Nat.zero_le _) (Nat.zero_le _)
          · refine J_iload_n hX dX10_notAdd_39 rfl ?_
            refine J_callSB hX _ dX10_notAdd_40 cw_RX10_82 (m_X10_isFar (by omega)) rfl (Nat.le_of_ble_eq_true rfl) (by decide) ⟨Nat.zero_le _, Nat.zero_le _⟩ ?_
            refine J_ifb_eq hX 54 dX10_notAdd_43 (by decide) (fun c43 => ?_) (fun c43 => ?_)
            · refine J_iconst hX dX10_notAdd_54 ?_
              exact J_retI hX hQ dX10_notAdd_55 (by unfold gA; (repeat' split) <;> omega) rfl rfl (Nat.zero_le _) (Nat.zero_le _)
            · refine J_iload hX dX10_notAdd_46 rfl ?_
              refine J_callSB hX _ dX10_notAdd_48 cw_RX10_82 (m_X10_isFar (by omega)) rfl (Nat.le_of_ble_eq_true rfl) (by decide) ⟨Nat.zero_le _, Nat.zero_le _⟩ ?_
              refine J_ifb_ne hX 56 dX10_notAdd_51 (by decide) (fun c51 => ?_) (fun c51 => ?_)
              · refine J_aload_n hX dX10_notAdd_56 rfl ?_
                refine J_gr hX (r + 1) fr_RX10_7 dX10_notAdd_57 (show K (r) = 9 from hM 0 (by decide)) rfl ?_
                refine J_iconst hX dX10_notAdd_60 ?_
                refine J_iald hX dX10_notAdd_61 (show K (r + 1) = 1000 + 198 from hM 1 (by decide)) ⟨by omega, by omega⟩ (by decide) (fun r61 => ?_)
                refine J_bipush hX dX10_notAdd_62 rfl ?_
                refine J_icmp_eq hX 83 dX10_notAdd_64 (by omega) (by decide) (by decide) (fun c64 => ?_) (fun c64 => ?_)
                · refine J_iconst hX dX10_notAdd_83 ?_
                  refine J_goto hX 88 dX10_notAdd_84 (by decide) ?_
                  exact J_retI hX hQ dX10_notAdd_88 (by unfold gA; (repeat' split) <;> omega) rfl rfl (Nat.zero_le _) (Nat.zero_le _)
                · refine J_iload_n hX dX10_notAdd_67 rfl ?_
                  refine J_sipush hX dX10_notAdd_68 rfl ?_
                  refine J_icmp_eq hX 87 dX10_notAdd_71 (by omega) (by decide) (by decide) (fun c71 => ?_) (fun c71 => ?_)
                  · refine J_iconst hX dX10_notAdd_87 ?_
                    exact J_retI hX hQ dX10_notAdd_88 (by unfold gA; (repeat' split) <;> omega) rfl rfl (Nat.zero_le _) (Nat.zero_le _)
                  · have hn9 : hs S p := by omega
                    have hw9 := hW.2.2.1 p hn9.1 hn9.2.1
                    refine J_aload_n hX dX10_notAdd_74 rfl ?_
                    refine J_iload_n hX dX10_notAdd_75 rfl ?_
                    refine J_callVI hX _ dX10_notAdd_76 cw_RX10_85 (m_X10_groupsAround hM hR hW hn9) ⟨(show K (r) = 9 from hM 0 (by decide)), by decide, by decide, rfl⟩ rfl (Nat.le_of_ble_eq_true rfl) (by decide) ⟨Nat.zero_le _, Nat.zero_le _⟩ (fun r76 => ?_)
                    refine J_iconst hX dX10_notAdd_79 ?_
                    refine J_icmp_lt hX 87 dX10_notAdd_80 (by omega) (by decide) (by decide) (fun c80 => ?_) (fun c80 => ?_)
                    · refine J_iconst hX dX10_notAdd_87 ?_
                      exact J_retI hX hQ dX10_notAdd_88 (by unfold gA; (repeat' split) <;> omega) rfl rfl (Nat.zero_le _) (Nat.zero_le _)
                    · refine J_iconst hX dX10_notAdd_83 ?_
                      refine J_goto hX 88 dX10_notAdd_84 (by decide) ?_
                      exact J_retI hX hQ dX10_notAdd_88 (by unfold gA; (repeat' split) <;> omega) rfl rfl (Nat.zero_le _) (Nat.zero_le _)
              · refine J_iconst hX dX10_notAdd_54 ?_
                exact J_retI hX hQ dX10_notAdd_55 (by unfold gA; (repeat' split) <;> omega) rfl rfl (Nat.zero_le _) (Nat.zero_le _)
    · refine J_iconst hX dX10_notAdd_15 ?_
      exact J_retI hX hQ dX10_notAdd_16 (by unfold gA; (repeat' split) <;> omega) rfl rfl (Nat.zero_le _) (Nat.zero_le _)
-- X10_notBox
set_option maxHeartbeats 4000000 in
set_option maxRecDepth 100000 in
theorem m_X10_notBox {E : EE} {K : Nat → Nat} {M : MM} {r : Nat} {T : Int} {S : MM} {p u v w wd hg : Int} (hM : ModelK K r) (hR : RS S (M (r + 1))) (hW : WFS T S) (hp : i32 p) (hu : i32 u) (hv : i32 v) (hw : i32 w) (hwd : i32 wd) (hhg : i32 hg) : CnI E 3 yX10_notBox cX10_notBox 8 (Option.some FieldType.int) [.ref r, vI p, vI u, vI v, vI w, vI wd, vI hg] K M (gB S p u v w wd hg) := by
  have gr := gA_r S p u v w
  refine ⟨Cn_of RX10 (plainFor_of_name (by decide)) rfl (Nat.le_of_ble_eq_true rfl) (fun X hX hQ => ?_), by have := gB_r S p u v w wd hg; omega⟩
  refine J_aload_n hX dX10_notBox_0 rfl ?_
  refine J_iload_n hX dX10_notBox_1 rfl ?_
  refine J_iload_n hX dX10_notBox_2 rfl ?_
  refine J_iload_n hX dX10_notBox_3 rfl ?_
  refine J_iload hX dX10_notBox_4 rfl ?_
  refine J_callVI hX _ dX10_notBox_6 cw_RX10_89 (m_X10_notAdd hM hR hW (by omega) (by omega) (by omega) (by omega)) ⟨(show K (r) = 9 from hM 0 (by decide)), by decide, by decide, rfl⟩ rfl (Nat.le_of_ble_eq_true rfl) (by decide) ⟨Nat.zero_le _, Nat.zero_le _⟩ (fun r6 => ?_)
  refine J_istore hX dX10_notBox_9 (by decide) ?_
  refine J_iload hX dX10_notBox_11 rfl ?_
  refine J_iconst hX dX10_notBox_13 ?_
  refine J_icmp_eq hX 43 dX10_notBox_14 (by omega) (by decide) (by decide) (fun c14 => ?_) (fun c14 => ?_)
  · refine J_iload hX dX10_notBox_43 rfl ?_
    exact J_retI hX hQ dX10_notBox_45 (by unfold gB; split <;> omega) rfl rfl (Nat.zero_le _) (Nat.zero_le _)
  · refine J_iload hX dX10_notBox_17 rfl ?_
    refine J_iconst hX dX10_notBox_19 ?_
    refine J_bipush hX dX10_notBox_20 rfl ?_
    refine J_callSB hX _ dX10_notBox_22 cw_RX10_58 (m_X10_in (by omega) (by omega) (by omega)) rfl (Nat.le_of_ble_eq_true rfl) (by decide) ⟨Nat.zero_le _, Nat.zero_le _⟩ ?_
    refine J_ifb_eq hX 39 dX10_notBox_25 (by decide) (fun c25 => ?_) (fun c25 => ?_)
    · refine J_iconst hX dX10_notBox_39 ?_
      refine J_goto hX 45 dX10_notBox_40 (by decide) ?_
      exact J_retI hX hQ dX10_notBox_45 (by unfold gB; split <;> omega) rfl rfl (Nat.zero_le _) (Nat.zero_le _)
    · refine J_iload hX dX10_notBox_28 rfl ?_
      refine J_iconst hX dX10_notBox_30 ?_
      refine J_bipush hX dX10_notBox_31 rfl ?_
      refine J_callSB hX _ dX10_notBox_33 cw_RX10_58 (m_X10_in (by omega) (by omega) (by omega)) rfl (Nat.le_of_ble_eq_true rfl) (by decide) ⟨Nat.zero_le _, Nat.zero_le _⟩ ?_
      refine J_ifb_ne hX 43 dX10_notBox_36 (by decide) (fun c36 => ?_) (fun c36 => ?_)
      · refine J_iload hX dX10_notBox_43 rfl ?_
        exact J_retI hX hQ dX10_notBox_45 (by unfold gB; split <;> omega) rfl rfl (Nat.zero_le _) (Nat.zero_le _)
      · refine J_iconst hX dX10_notBox_39 ?_
        refine J_goto hX 45 dX10_notBox_40 (by decide) ?_
        exact J_retI hX hQ dX10_notBox_45 (by unfold gB; split <;> omega) rfl rfl (Nat.zero_le _) (Nat.zero_le _)
