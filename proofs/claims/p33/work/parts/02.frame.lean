/-! MY OWN FRAME: memory as integers, objects and arrays by ids, one judgement J, one rule an instruction -/
abbrev MM : Type := Nat → Int → Int
abbrev vI (x : Int) : Value := .int (Int32.ofInt x)
abbrev vL (x : Int) : Value := .long (Int64.ofInt x)
abbrev i32 (x : Int) : Prop := -2147483648 ≤ x ∧ x ≤ 2147483647
def mset (M : MM) (i : Nat) (j x : Int) : MM := fun i' j' => if i' = i ∧ j' = j then x else M i' j'
def bI (P : Prop) [Decidable P] : Int := if P then 1 else 0
theorem bI_t {P : Prop} [Decidable P] (h : P) : bI P = 1 := if_pos h
theorem bI_f {P : Prop} [Decidable P] (h : ¬ P) : bI P = 0 := if_neg h
theorem bI_01 (P : Prop) [Decidable P] : bI P = 0 ∨ bI P = 1 := by unfold bI; split <;> simp
theorem bI_1 {P : Prop} [Decidable P] : bI P = 1 ↔ P := by unfold bI; split <;> simp [*]
theorem bI_0 {P : Prop} [Decidable P] : bI P = 0 ↔ ¬ P := by unfold bI; split <;> simp [*]
theorem bI_c {P Q : Prop} [Decidable P] [Decidable Q] (h : P ↔ Q) : bI P = bI Q := by unfold bI; by_cases q : Q <;> simp [h, q]
/- numbers -/
theorem oi_t {a : Int} (h : i32 a) : (Int32.ofInt a).toInt = a := Int32.toInt_ofInt_of_le (by omega) (by omega)
theorem oi_lt {a b : Int} (ha : i32 a) (hb : i32 b) : Int32.ofInt a < Int32.ofInt b ↔ a < b := by rw [Int32.lt_iff_toInt_lt, oi_t ha, oi_t hb]
theorem oi_le {a b : Int} (ha : i32 a) (hb : i32 b) : Int32.ofInt a ≤ Int32.ofInt b ↔ a ≤ b := by rw [Int32.le_iff_toInt_le, oi_t ha, oi_t hb]
theorem oi_eq {a b : Int} (ha : i32 a) (hb : i32 b) : Int32.ofInt a = Int32.ofInt b ↔ a = b := by rw [← Int32.toInt_inj, oi_t ha, oi_t hb]
theorem oi_0 : (0 : Int32) = Int32.ofInt 0 := rfl
theorem oi_cl {a : Int} (h : i32 a) : (Int32.ofInt a).toNatClampNeg = a.toNat := Int32.toNatClampNeg_ofInt_of_le (by omega) (by omega)
theorem oi_in {j : Int} {n : Nat} (h0 : 0 ≤ j) (h1 : j < n) (hn : n < 2147483648) : vp_in (Int32.ofInt j) n := by
  rw [vp_in_iff, oi_t (by omega)]
  exact ⟨h0, h1⟩
theorem oi_minV : Int32.minValue.toInt = -2147483648 := rfl
theorem oi_maxV : Int32.maxValue.toInt = 2147483647 := rfl
theorem oi_cast {j : Int} (h : 0 ≤ j) : ((j.toNat : Nat) : Int) = j := by omega
/- values -/
def cv (ad : Nat → Nat) : Value → Value
  | .ref i => .ref (ad i)
  | v => v
theorem cv_cat (ad : Nat → Nat) (v : Value) : (cv ad v).category = v.category := by cases v <;> rfl
theorem cv_cats (ad : Nat → Nat) (st : List Value) : ((st.map (cv ad)).map fun v => v.category) = st.map fun v => v.category := by
  rw [List.map_map]; exact List.map_congr_left (fun v _ => cv_cat ad v)
/- locals -/
def mlv (ad : Nat → Nat) (L : List (Nat × Value)) : List (Nat × Value) := L.map (fun q => (q.1, cv ad q.2))
def lget : List (Nat × Value) → Nat → Option Value
  | [], _ => none
  | q :: t, i => if q.1 == i then some q.2 else lget t i
def lset (L : List (Nat × Value)) (i : Nat) (v : Value) : List (Nat × Value) := (i, v) :: L.filter (fun q => !(q.1 == i) && !(q.1 + 1 == i && q.2.category == 2))
def lset2 (L : List (Nat × Value)) (i : Nat) (v : Value) : List (Nat × Value) := (i, v) :: L.filter (fun q => !(q.1 == i) && (!(q.1 == i + 1) && !(q.1 + 1 == i && q.2.category == 2)))
theorem lget_mem {L : List (Nat × Value)} {i : Nat} {v : Value} (h : lget L i = some v) : (i, v) ∈ L := by
  induction L with
  | nil => cases h
  | cons q t ih =>
    unfold lget at h
    split at h
    · rename_i hq
      have := beq_iff_eq.mp hq
      cases h
      subst this
      exact List.mem_cons_self
    · exact List.mem_cons_of_mem _ (ih h)
theorem lget_at {ad : Nat → Nat} {ls : Array Slot} {n : Nat} {L : List (Nat × Value)} {i : Nat} {v : Value} (h : lv_has ls n (mlv ad L)) (hl : lget L i = some v) : ls[i]? = some (.val (cv ad v)) :=
  h.2.2 (i, cv ad v) (List.mem_map.mpr ⟨(i, v), lget_mem hl, rfl⟩)
theorem mlv_place {ad : Nat → Nat} {L : List (Nat × Value)} {i : Nat} {v : Value} (hl : lget L i = some v) : ∃ k : Nat, (mlv ad L)[k]? = some (i, cv ad v) := by
  obtain ⟨k, hk, e⟩ := List.getElem_of_mem (lget_mem hl)
  exact ⟨k, by unfold mlv; rw [List.getElem?_map, List.getElem?_eq_getElem hk, e]; rfl⟩
theorem mlv_lset (ad : Nat → Nat) (L : List (Nat × Value)) (i : Nat) (v : Value) : (i, cv ad v) :: (mlv ad L).filter (fun q => !(q.1 == i) && !(q.1 + 1 == i && q.2.category == 2)) = mlv ad (lset L i v) := by
  unfold mlv lset
  rw [List.map_cons, List.filter_map]
  congr 2
  apply List.filter_congr
  intro q _
  simp only [Function.comp, cv_cat]
theorem mlv_lset2 (ad : Nat → Nat) (L : List (Nat × Value)) (i : Nat) (v : Value) : (i, cv ad v) :: (mlv ad L).filter (fun q => !(q.1 == i) && (!(q.1 == i + 1) && !(q.1 + 1 == i && q.2.category == 2))) = mlv ad (lset2 L i v) := by
  unfold mlv lset2
  rw [List.map_cons, List.filter_map]
  congr 2
  apply List.filter_congr
  intro q _
  simp only [Function.comp, cv_cat]
theorem mlv_sub {ad : Nat → Nat} {ls : Array Slot} {n : Nat} {L L' : List (Nat × Value)} (h : lv_has ls n (mlv ad L)) (hs : L'.map (fun q => lget L q.1) = L'.map (fun q => some q.2)) : lv_has ls n (mlv ad L') := by
  refine ⟨h.1, h.2.1, fun q hq => ?_⟩
  obtain ⟨q0, h0, rfl⟩ := List.mem_map.mp hq
  have hm : ∀ q ∈ L', lget L q.1 = some q.2 := by
    intro q hq
    exact List.map_inj_left.mp hs q hq
  exact lget_at h (hm q0 h0)
/- the environment of the whole run: where classes lie, the array classes, the heap at the law's start, the enum's constants -/
abbrev EE : Type := va_G × (ClassId × ClassId × ClassId × ClassId) × Heap × (Nat → Nat) × { P : State → Prop // ∀ u U : State, u.WarmedH U.vm → P u → P U }
def tys (E : EE) : List (ClassId × FieldType) := [(E.2.1.1, .int), (E.2.1.2.1, .object RX5)]
abbrev sz0 (E : EE) : Nat := E.2.2.1.size
/-- structural fields: a reference to the id that lies so far behind -/
def ro : Nat → Nat → Option Nat
  | 1, 1 => some 1
  | 2, 0 => some 1 | 2, 1 => some 2 | 2, 2 => some 17 | 2, 3 => some 18 | 2, 4 => some 19 | 2, 5 => some 20 | 2, 6 => some 21 | 2, 7 => some 22 | 2, 8 => some 23
  | 3, 4 => some 1 | 3, 5 => some 2 | 3, 6 => some 3
  | 4, 1 => some 1 | 4, 2 => some 2
  | 5, 0 => some 1 | 5, 1 => some 11 | 5, 2 => some 15
  | 6, 1 => some 1 | 6, 2 => some 2 | 6, 3 => some 3 | 6, 4 => some 4 | 6, 5 => some 5 | 6, 6 => some 6 | 6, 7 => some 7 | 6, 8 => some 8 | 6, 9 => some 9
  | 7, 0 => some 1 | 7, 1 => some 2 | 7, 2 => some 3 | 7, 7 => some 25 | 7, 8 => some 26
  | 8, 0 => some 1 | 8, 1 => some 3 | 8, 2 => some 28 | 8, 3 => some 30 | 8, 4 => some 55 | 8, 5 => some 57
  | 9, 0 => some 1 | 9, 1 => some 2 | 9, 2 => some 3 | 9, 4 => some 4 | 9, 7 => some 5 | 9, 8 => some 6 | 9, 9 => some 7 | 9, 10 => some 8 | 9, 11 => some 9 | 9, 13 => some 10 | 9, 22 => some 11
  | _, _ => none
def nf (k : Nat) : Nat := match k with
  | 1 => 2 | 2 => 11 | 3 => 7 | 4 => 5 | 5 => 8 | 6 => 10 | 7 => 10 | 8 => 7 | 9 => 24 | _ => 0
def fv (E : EE) (ad : Nat → Nat) (k i f : Nat) (M : MM) : Value :=
  match ro k f with
  | some o => .ref (ad (i + o))
  | none => if k = 9 ∧ f = 23 then vL (M i f) else if k = 4 ∧ f = 4 then (if M i 4 < 0 then .null else .ref (E.2.2.2.1 (M i 4).toNat)) else vI (M i f)
/-- of an object that is being made: what is not set yet is null -/
def fvr (E : EE) (ad : Nat → Nat) (k i f : Nat) (M : MM) : Value :=
  match ro k f with
  | some o => if M i (100 + (f : Int)) = 0 then .null else .ref (ad (i + o))
  | none => fv E ad k i f M
def ce (E : EE) (ad : Nat → Nat) (k i : Nat) (M : MM) : va_E :=
  if k < 10 then .inr (k - 1, (List.range (nf k)).map (fun f => fv E ad k i f M))
  else if k = 10 then .inl (E.2.1.2.1, 4, .inr (.inr (.inr (.inr (fun j => if M i j < 0 then none else some (ad (M i j).toNat))))))
  else if k = 11 then .inl (E.2.1.2.2.1, 1, .inr (.inl (fun j => Int64.ofInt (M i j))))
  else if k = 12 then .inl (E.2.1.2.2.2, 1, .inr (.inr (.inr (.inl (fun j => UInt64.ofNat (M i j).toNat)))))
  else if k < 1000 then .inr (k - 101, (List.range (nf (k - 100))).map (fun f => fvr E ad (k - 100) i f M))
  else .inl (E.2.1.1, k - 1000, .inl (fun j => Int32.ofInt (M i j)))
def rg (k : Nat) (j x : Int) : Prop := (k = 11 ∨ k = 12 ∨ (k = 9 ∧ j = 23)) ∨ i32 x
def Rep (E : EE) (ad K : Nat → Nat) (M : MM) (H : Heap) : Prop :=
  (∀ i, K i ≠ 0 → va_at E.1 vwCl (ad i, ce E ad (K i) i M) H) ∧ (∀ i j, K i ≠ 0 → K j ≠ 0 → ad i = ad j → i = j) ∧ (∀ i, K i ≠ 0 → sz0 E ≤ ad i) ∧
  (sz0 E ≤ H.size ∧ ∀ q : Nat, q < sz0 E → H[q]? = E.2.2.1[q]?) ∧ (∀ i j, K i ≠ 0 → rg (K i) j (M i j))
/-- the words of calls and fields between nest mates -/
def KN (U : State) : Prop := (∀ q ∈ nwM, va_Nw (.methodLinkNest q.1 q.2.1 q.2.2.1 q.2.2.2) U) ∧ ∀ q ∈ nwF, va_Nw (.fieldLinkNest q.1 q.2.1 q.2.2.1 q.2.2.2.1 q.2.2.2.2.1 q.2.2.2.2.2) U
theorem KN_warm {s U : State} (hW : s.WarmedH U.vm) (h : KN s) : KN U := ⟨fun q hq => va_Nw.warmM hW (h.1 q hq), fun q hq => va_Nw.warmF hW (h.2 q hq)⟩
theorem KN_same {u U : State} (hv : u.vm = U.vm) (h : KN u) : KN U := ⟨fun q hq => va_Nw.same rfl hv (h.1 q hq), fun q hq => va_Nw.same rfl hv (h.2 q hq)⟩
/-- what is known of the statics -/
def SF (E : EE) (U : State) : Prop := E.2.2.2.2.val U
theorem SF_warm {E : EE} {u U : State} (hv : u.WarmedH U.vm) (h : SF E u) : SF E U := E.2.2.2.2.property u U hv h
/-- what is known of the classes -/
def KF (E : EE) (U : State) : Prop := va_K E.1 vwCl (tys E) U ∧ KN U ∧ SF E U
theorem KF_warm {E : EE} {s U : State} (hW : s.WarmedH U.vm) (h : KF E s) : KF E U := ⟨va_K.moved hW.alike h.1, KN_warm hW h.2.1, SF_warm hW h.2.2⟩
theorem KF_same {E : EE} {u U : State} (hv : u.vm = U.vm) (h : KF E u) : KF E U := ⟨va_K.moved (hv ▸ Vm.Alike.refl u.vm) h.1, KN_same hv h.2.1, SF_warm (hv ▸ State.WarmedH.refl u) h.2.2⟩
/-- the ids that were live keep their places; no new ids, no other places -/
def adE (K0 ad0 K ad : Nat → Nat) : Prop := (∀ i, K0 i ≠ 0 → ad i = ad0 i) ∧ (K = K0 → ad = ad0)
/- the walk's fixed things -/
abbrev JX : Type := Program × Launch × Env × Room × State × MethodId × Array Value × List Frame × Method × Code × (State → Prop) × Nat × (Nat → Nat) × (Nat → Nat)
def J (E : EE) (X : JX) (pc : Nat) (L : List (Nat × Value)) (st : List Value) (K : Nat → Nat) (M : MM) (a b : Nat) : Prop :=
  match X with
  | (p, l, e, R, s, m, args, below, meth, c, Q, nL, K0, ad0) => ∀ (ad : Nat → Nat) (H : Heap) (locs : List Loc) (ls : Array Slot), Rep E ad K M H → adE K0 ad0 K ad → (∀ z ∈ locs, sz0 E ≤ z.base) → lv_has ls nL (mlv ad L) →
    W p l e R s m args below meth c H locs a b Q (F0 m pc ls (st.map (cv ad)))
def XO (E : EE) (X : JX) (cc : ByteArray) (own : String) (nl d c0 s0 : Nat) : Prop :=
  match X with
  | (p, l, e, R, s, m, args, below, meth, c, Q, nL, K0, ad0) => p.tables.exec = Jvm.exec ∧ c.code = cc ∧ (c.maxLocals = nL ∧ nL = nl) ∧ s.vm.findClass own = some m.cls ∧ (∀ w ∈ tb, w.before args s = true) ∧ (d ≤ R.frames ∧ 37 * d ≤ R.locals ∧ c0 ≤ R.cells ∧ s0 ≤ R.slots) ∧ KF E s
/-- a method's end: an answer, a memory -/
def CQ (E : EE) (ad0 K0 : Nat → Nat) (post : Option Value → (Nat → Nat) → MM → Prop) : Array Value → State → Outcome → State → Prop := fun _ st oc t =>
  ∃ (r : Option Value) (K' : Nat → Nat) (M' : MM) (ad' : Nat → Nat), oc = .returned (r.map (cv ad')) ∧ post r K' M' ∧ Rep E ad' K' M' t.heap ∧ adE K0 ad0 K' ad'
def XQ (E : EE) (X : JX) (rt : Option FieldType) (post : Option Value → (Nat → Nat) → MM → Prop) (c0 s0 : Nat) : Prop :=
  match X with
  | (p, l, e, R, s, m, args, below, meth, c, Q, nL, K0, ad0) => meth.sig.returnType = rt ∧ meth.locks = false ∧ Q = MQ below (CQ E ad0 K0 post) args s c0 s0 (fun q => sz0 E ≤ q)
def ww (y : MethodName) (cc : ByteArray) (n : Nat) (ret : Option FieldType) : List Cond := .code y cc n ret :: tb
def rmD (d mc ms : Nat) : Room := { frames := d, cells := mc, slots := ms, locals := 37 * d }
/-- a contract: the call of y on the arguments av in the memory M, K answers by post -/
def Cn (E : EE) (d : Nat) (y : MethodName) (cc : ByteArray) (n : Nat) (ret : Option FieldType) (av : List Value) (K : Nat → Nat) (M : MM) (post : Option Value → (Nat → Nat) → MM → Prop) (mc ms : Nat) : Prop :=
  ∀ (l : Launch) (ad : Nat → Nat), Met l y (ww y cc n ret) (rmD d mc ms) (va_Pc (av.map (cv ad)) (fun U => Rep E ad K M U.heap ∧ KF E U)) (CQ E ad K post) mc ms (fun q => sz0 E ≤ q)
/-- a reading contract: memory and ids stay -/
def CnP (E : EE) (d : Nat) (y : MethodName) (cc : ByteArray) (n : Nat) (ret : Option FieldType) (av : List Value) (K : Nat → Nat) (M : MM) (r : Option Value) : Prop :=
  Cn E d y cc n ret av K M (fun r' K' M' => r' = r ∧ K' = K ∧ M' = M) 0 0

section RULES
variable {E : EE} {X : JX} {cc : ByteArray} {own : String} {nl d c0 s0 : Nat} {pc : Nat} {L : List (Nat × Value)} {st : List Value} {K : Nat → Nat} {M : MM} {a b : Nat}
theorem J_iload_n (hX : XO E X cc own nl d c0 s0) {k : Fin 4} {v : Int} (hd : decode cc pc = .ok (.iload_n k, 1)) (hl : lget L k.val = some (vI v)) (k1 : J E X (pc + 1) L ((vI v) :: st) K M a b) : J E X pc L st K M a b := by
  obtain ⟨p, l, e, R, s, m, args, below, meth, c, Q, nL, K0, ad0⟩ := X
  intro ad H locs ls hR he hs hv
  exact lv_iload_n hX.1 hX.2.1 hd rfl (lget_at hv hl) (k1 ad H locs ls hR he hs hv)
theorem J_iload (hX : XO E X cc own nl d c0 s0) {i : Nat} {v : Int} (hd : decode cc pc = .ok (.iload i, 2)) (hl : lget L i = some (vI v)) (k1 : J E X (pc + 2) L ((vI v) :: st) K M a b) : J E X pc L st K M a b := by
  obtain ⟨p, l, e, R, s, m, args, below, meth, c, Q, nL, K0, ad0⟩ := X
  intro ad H locs ls hR he hs hv
  exact lv_iload hX.1 hX.2.1 hd (lget_at hv hl) (k1 ad H locs ls hR he hs hv)
theorem J_aload_n (hX : XO E X cc own nl d c0 s0) {k : Fin 4} {v : Nat} (hd : decode cc pc = .ok (.aload_n k, 1)) (hl : lget L k.val = some (.ref v)) (k1 : J E X (pc + 1) L ((.ref v) :: st) K M a b) : J E X pc L st K M a b := by
  obtain ⟨p, l, e, R, s, m, args, below, meth, c, Q, nL, K0, ad0⟩ := X
  intro ad H locs ls hR he hs hv
  exact lv_aload_n hX.1 hX.2.1 hd rfl (lget_at hv hl) (k1 ad H locs ls hR he hs hv)
theorem J_aload (hX : XO E X cc own nl d c0 s0) {i : Nat} {v : Nat} (hd : decode cc pc = .ok (.aload i, 2)) (hl : lget L i = some (.ref v)) (k1 : J E X (pc + 2) L ((.ref v) :: st) K M a b) : J E X pc L st K M a b := by
  obtain ⟨p, l, e, R, s, m, args, below, meth, c, Q, nL, K0, ad0⟩ := X
  intro ad H locs ls hR he hs hv
  exact lv_aload hX.1 hX.2.1 hd (lget_at hv hl) (k1 ad H locs ls hR he hs hv)
theorem J_lload_n (hX : XO E X cc own nl d c0 s0) {k : Fin 4} {v : Int} (hd : decode cc pc = .ok (.lload_n k, 1)) (hl : lget L k.val = some (vL v)) (k1 : J E X (pc + 1) L ((vL v) :: st) K M a b) : J E X pc L st K M a b := by
  obtain ⟨p, l, e, R, s, m, args, below, meth, c, Q, nL, K0, ad0⟩ := X
  intro ad H locs ls hR he hs hv
  exact lv_lload_n hX.1 hX.2.1 hd rfl (lget_at hv hl) (k1 ad H locs ls hR he hs hv)
theorem J_lload (hX : XO E X cc own nl d c0 s0) {i : Nat} {v : Int} (hd : decode cc pc = .ok (.lload i, 2)) (hl : lget L i = some (vL v)) (k1 : J E X (pc + 2) L ((vL v) :: st) K M a b) : J E X pc L st K M a b := by
  obtain ⟨p, l, e, R, s, m, args, below, meth, c, Q, nL, K0, ad0⟩ := X
  intro ad H locs ls hR he hs hv
  exact lv_lload hX.1 hX.2.1 hd (lget_at hv hl) (k1 ad H locs ls hR he hs hv)
theorem J_iconst (hX : XO E X cc own nl d c0 s0) {n : Int} (hd : decode cc pc = .ok (.iconst n, 1)) (k1 : J E X (pc + 1) L (vI n :: st) K M a b) : J E X pc L st K M a b := by
  obtain ⟨p, l, e, R, s, m, args, below, meth, c, Q, nL, K0, ad0⟩ := X
  intro ad H locs ls hR he hs hv
  exact lv_iconst hX.1 hX.2.1 hd rfl (k1 ad H locs ls hR he hs hv)
theorem J_bipush (hX : XO E X cc own nl d c0 s0) {n : Int} (hd : decode cc pc = .ok (.bipush n, 2)) (hn : (Int8.ofInt n).toInt32 = Int32.ofInt n) (k1 : J E X (pc + 2) L (vI n :: st) K M a b) : J E X pc L st K M a b := by
  obtain ⟨p, l, e, R, s, m, args, below, meth, c, Q, nL, K0, ad0⟩ := X
  intro ad H locs ls hR he hs hv
  exact lv_bipush hX.1 hX.2.1 hd hn (k1 ad H locs ls hR he hs hv)
theorem J_sipush (hX : XO E X cc own nl d c0 s0) {n : Int} (hd : decode cc pc = .ok (.sipush n, 3)) (hn : (Int16.ofInt n).toInt32 = Int32.ofInt n) (k1 : J E X (pc + 3) L (vI n :: st) K M a b) : J E X pc L st K M a b := by
  obtain ⟨p, l, e, R, s, m, args, below, meth, c, Q, nL, K0, ad0⟩ := X
  intro ad H locs ls hR he hs hv
  exact lv_sipush hX.1 hX.2.1 hd hn (k1 ad H locs ls hR he hs hv)
theorem J_istore_n (hX : XO E X cc own nl d c0 s0) {k : Fin 4} {v : Int} (hd : decode cc pc = .ok (.istore_n k, 1)) (hi : k.val < nl) (k1 : J E X (pc + 1) (lset L k.val (vI v)) st K M a b) : J E X pc L ((vI v) :: st) K M a b := by
  obtain ⟨p, l, e, R, s, m, args, below, meth, c, Q, nL, K0, ad0⟩ := X
  intro ad H locs ls hR he hs hv
  exact lv_istore_n hX.1 hX.2.1 hd rfl hv (by rw [hX.2.2.1.2]; exact hi) (mlv_lset ad L k.val (vI v)) (fun ls2 h2 => k1 ad H locs ls2 hR he hs h2)
theorem J_istore (hX : XO E X cc own nl d c0 s0) {i : Nat} {v : Int} (hd : decode cc pc = .ok (.istore i, 2)) (hi : i < nl) (k1 : J E X (pc + 2) (lset L i (vI v)) st K M a b) : J E X pc L ((vI v) :: st) K M a b := by
  obtain ⟨p, l, e, R, s, m, args, below, meth, c, Q, nL, K0, ad0⟩ := X
  intro ad H locs ls hR he hs hv
  exact lv_istore hX.1 hX.2.1 hd hv (by rw [hX.2.2.1.2]; exact hi) (mlv_lset ad L i (vI v)) (fun ls2 h2 => k1 ad H locs ls2 hR he hs h2)
theorem J_astore_n (hX : XO E X cc own nl d c0 s0) {k : Fin 4} {v : Nat} (hd : decode cc pc = .ok (.astore_n k, 1)) (hi : k.val < nl) (k1 : J E X (pc + 1) (lset L k.val (.ref v)) st K M a b) : J E X pc L ((.ref v) :: st) K M a b := by
  obtain ⟨p, l, e, R, s, m, args, below, meth, c, Q, nL, K0, ad0⟩ := X
  intro ad H locs ls hR he hs hv
  exact lv_astore_n hX.1 hX.2.1 hd rfl hv (by rw [hX.2.2.1.2]; exact hi) (mlv_lset ad L k.val (.ref v)) (fun ls2 h2 => k1 ad H locs ls2 hR he hs h2)
theorem J_astore (hX : XO E X cc own nl d c0 s0) {i : Nat} {v : Nat} (hd : decode cc pc = .ok (.astore i, 2)) (hi : i < nl) (k1 : J E X (pc + 2) (lset L i (.ref v)) st K M a b) : J E X pc L ((.ref v) :: st) K M a b := by
  obtain ⟨p, l, e, R, s, m, args, below, meth, c, Q, nL, K0, ad0⟩ := X
  intro ad H locs ls hR he hs hv
  exact lv_astore hX.1 hX.2.1 hd hv (by rw [hX.2.2.1.2]; exact hi) (mlv_lset ad L i (.ref v)) (fun ls2 h2 => k1 ad H locs ls2 hR he hs h2)
theorem J_iinc (hX : XO E X cc own nl d c0 s0) {i : Nat} {n v : Int} (hd : decode cc pc = .ok (.iinc i n, 3)) (hl : lget L i = some (vI v)) (hi : i < nl) (k1 : J E X (pc + 3) (lset L i (vI (v + n))) st K M a b) : J E X pc L st K M a b := by
  obtain ⟨p, l, e, R, s, m, args, below, meth, c, Q, nL, K0, ad0⟩ := X
  intro ad H locs ls hR he hs hv
  obtain ⟨k, hk⟩ := mlv_place (ad := ad) hl
  exact lv_iinc hX.1 hX.2.1 hd hv hk (Int32.ofInt_add v n).symm (by rw [hX.2.2.1.2]; exact hi) (mlv_lset ad L i (vI (v + n))) (fun ls2 h2 => k1 ad H locs ls2 hR he hs h2)
theorem J_iadd (hX : XO E X cc own nl d c0 s0) {x y : Int} (hd : decode cc pc = .ok (.iadd, 1)) (k1 : J E X (pc + 1) L (vI (x + y) :: st) K M a b) : J E X pc L (vI y :: vI x :: st) K M a b := by
  obtain ⟨p, l, e, R, s, m, args, below, meth, c, Q, nL, K0, ad0⟩ := X
  intro ad H locs ls hR he hs hv
  refine lv_iadd hX.1 hX.2.1 hd ?_
  rw [← Int32.ofInt_add]
  exact k1 ad H locs ls hR he hs hv
theorem J_isub (hX : XO E X cc own nl d c0 s0) {x y : Int} (hd : decode cc pc = .ok (.isub, 1)) (k1 : J E X (pc + 1) L (vI (x - y) :: st) K M a b) : J E X pc L (vI y :: vI x :: st) K M a b := by
  obtain ⟨p, l, e, R, s, m, args, below, meth, c, Q, nL, K0, ad0⟩ := X
  intro ad H locs ls hR he hs hv
  refine lv_isub hX.1 hX.2.1 hd ?_
  rw [← Int32.ofInt_sub]
  exact k1 ad H locs ls hR he hs hv
theorem J_imul (hX : XO E X cc own nl d c0 s0) {x y : Int} (hd : decode cc pc = .ok (.imul, 1)) (k1 : J E X (pc + 1) L (vI (x * y) :: st) K M a b) : J E X pc L (vI y :: vI x :: st) K M a b := by
  obtain ⟨p, l, e, R, s, m, args, below, meth, c, Q, nL, K0, ad0⟩ := X
  intro ad H locs ls hR he hs hv
  refine lv_imul hX.1 hX.2.1 hd ?_
  rw [← Int32.ofInt_mul]
  exact k1 ad H locs ls hR he hs hv
theorem J_ineg (hX : XO E X cc own nl d c0 s0) {x : Int} (hd : decode cc pc = .ok (.ineg, 1)) (k1 : J E X (pc + 1) L (vI (-x) :: st) K M a b) : J E X pc L (vI x :: st) K M a b := by
  obtain ⟨p, l, e, R, s, m, args, below, meth, c, Q, nL, K0, ad0⟩ := X
  intro ad H locs ls hR he hs hv
  refine lv_ineg hX.1 hX.2.1 hd ?_
  rw [← Int32.ofInt_neg]
  exact k1 ad H locs ls hR he hs hv
theorem J_idiv (hX : XO E X cc own nl d c0 s0) {x y : Int} (hd : decode cc pc = .ok (.idiv, 1)) (hx : i32 x) (hy : 0 < y ∧ y ≤ 2147483647) (k1 : J E X (pc + 1) L (vI (x.tdiv y) :: st) K M a b) : J E X pc L (vI y :: vI x :: st) K M a b := by
  obtain ⟨p, l, e, R, s, m, args, below, meth, c, Q, nL, K0, ad0⟩ := X
  intro ad H locs ls hR he hs hv
  refine lv_idiv hX.1 hX.2.1 hd (fun h => ?_) ?_
  · have h2 : y = 0 := (oi_eq (by omega) (by omega)).mp (h.trans oi_0)
    omega
  · rw [← Int32.ofInt_tdiv (by rw [oi_minV]; omega) (by rw [oi_maxV]; omega) (by rw [oi_minV]; omega) (by rw [oi_maxV]; omega)]
    exact k1 ad H locs ls hR he hs hv
theorem J_irem (hX : XO E X cc own nl d c0 s0) {x y : Int} (hd : decode cc pc = .ok (.irem, 1)) (hx : i32 x) (hy : 0 < y ∧ y ≤ 2147483647) (k1 : J E X (pc + 1) L (vI (x.tmod y) :: st) K M a b) : J E X pc L (vI y :: vI x :: st) K M a b := by
  obtain ⟨p, l, e, R, s, m, args, below, meth, c, Q, nL, K0, ad0⟩ := X
  intro ad H locs ls hR he hs hv
  refine lv_irem hX.1 hX.2.1 hd (fun h => ?_) ?_
  · have h2 : y = 0 := (oi_eq (by omega) (by omega)).mp (h.trans oi_0)
    omega
  · rw [← Int32.ofInt_tdiv (by rw [oi_minV]; omega) (by rw [oi_maxV]; omega) (by rw [oi_minV]; omega) (by rw [oi_maxV]; omega), ← Int32.ofInt_mul, ← Int32.ofInt_sub, show x - x.tdiv y * y = x.tmod y by rw [Int.tmod_def, Int.mul_comm]]
    exact k1 ad H locs ls hR he hs hv
theorem J_dup (hX : XO E X cc own nl d c0 s0) {v : Value} (hd : decode cc pc = .ok (.dup, 1)) (hc : v.category = 1) (k1 : J E X (pc + 1) L (v :: v :: st) K M a b) : J E X pc L (v :: st) K M a b := by
  obtain ⟨p, l, e, R, s, m, args, below, meth, c, Q, nL, K0, ad0⟩ := X
  intro ad H locs ls hR he hs hv
  exact lv_dup hX.1 hX.2.1 hd ((cv_cat ad v).trans hc) (k1 ad H locs ls hR he hs hv)
theorem J_pop (hX : XO E X cc own nl d c0 s0) {v : Value} (hd : decode cc pc = .ok (.pop, 1)) (hc : v.category = 1) (k1 : J E X (pc + 1) L st K M a b) : J E X pc L (v :: st) K M a b := by
  obtain ⟨p, l, e, R, s, m, args, below, meth, c, Q, nL, K0, ad0⟩ := X
  intro ad H locs ls hR he hs hv
  exact lv_pop hX.1 hX.2.1 hd ((cv_cat ad v).trans hc) (k1 ad H locs ls hR he hs hv)
theorem J_goto (hX : XO E X cc own nl d c0 s0) {off : Int} (t : Nat) (hd : decode cc pc = .ok (.goto off, 3)) (ht : (pc : Int) + off = (t : Int)) (k1 : J E X t L st K M a b) : J E X pc L st K M a b := by
  obtain ⟨p, l, e, R, s, m, args, below, meth, c, Q, nL, K0, ad0⟩ := X
  intro ad H locs ls hR he hs hv
  exact lv_goto hX.1 hX.2.1 hd ht (k1 ad H locs ls hR he hs hv)
theorem J_dup2 (hX : XO E X cc own nl d c0 s0) {v w : Value} (hd : decode cc pc = .ok (.dup2, 1)) (hc : v.category = 1 ∧ w.category = 1) (k1 : J E X (pc + 1) L (v :: w :: v :: w :: st) K M a b) : J E X pc L (v :: w :: st) K M a b := by
  obtain ⟨p, l, e, R, s, m, args, below, meth, c, Q, nL, K0, ad0⟩ := X
  intro ad H locs ls hR he hs hv
  exact lv_dup2_11 hX.1 hX.2.1 hd ((cv_cat ad v).trans hc.1) ((cv_cat ad w).trans hc.2) (k1 ad H locs ls hR he hs hv)
theorem J_if_eq (hX : XO E X cc own nl d c0 s0) {x : Int} {off : Int} (t : Nat) (hd : decode cc pc = .ok (.ifCond .eq off, 3)) (hx : i32 x) (ht : (pc : Int) + off = (t : Int)) (kt : x = 0 → J E X t L st K M a b) (kf : ¬ x = 0 → J E X (pc + 3) L st K M a b) : J E X pc L (vI x :: st) K M a b := by
  obtain ⟨p, l, e, R, s, m, args, below, meth, c, Q, nL, K0, ad0⟩ := X
  intro ad H locs ls hR he hs hv
  have e := (oi_eq (b := 0) hx (by omega))
  refine lv_if_eq hX.1 hX.2.1 hd ht (fun h => ?_) (fun h => ?_)
  · exact kt (e.mp h) ad H locs ls hR he hs hv
  · exact kf (fun q => h (e.mpr q)) ad H locs ls hR he hs hv
theorem J_icmp_eq (hX : XO E X cc own nl d c0 s0) {x y : Int} {off : Int} (t : Nat) (hd : decode cc pc = .ok (.if_icmp .eq off, 3)) (hx : i32 x) (hy : i32 y) (ht : (pc : Int) + off = (t : Int)) (kt : x = y → J E X t L st K M a b) (kf : ¬ x = y → J E X (pc + 3) L st K M a b) : J E X pc L (vI y :: vI x :: st) K M a b := by
  obtain ⟨p, l, e, R, s, m, args, below, meth, c, Q, nL, K0, ad0⟩ := X
  intro ad H locs ls hR he hs hv
  have e := (oi_eq hx hy)
  refine lv_icmp_eq hX.1 hX.2.1 hd ht (fun h => ?_) (fun h => ?_)
  · exact kt (e.mp h) ad H locs ls hR he hs hv
  · exact kf (fun q => h (e.mpr q)) ad H locs ls hR he hs hv
theorem J_if_ne (hX : XO E X cc own nl d c0 s0) {x : Int} {off : Int} (t : Nat) (hd : decode cc pc = .ok (.ifCond .ne off, 3)) (hx : i32 x) (ht : (pc : Int) + off = (t : Int)) (kt : ¬ x = 0 → J E X t L st K M a b) (kf : x = 0 → J E X (pc + 3) L st K M a b) : J E X pc L (vI x :: st) K M a b := by
  obtain ⟨p, l, e, R, s, m, args, below, meth, c, Q, nL, K0, ad0⟩ := X
  intro ad H locs ls hR he hs hv
  have e := (oi_eq (b := 0) hx (by omega))
  refine lv_if_ne hX.1 hX.2.1 hd ht (fun h => ?_) (fun h => ?_)
  · exact kt (fun q => h (e.mpr q)) ad H locs ls hR he hs hv
  · exact kf (e.mp h) ad H locs ls hR he hs hv
theorem J_icmp_ne (hX : XO E X cc own nl d c0 s0) {x y : Int} {off : Int} (t : Nat) (hd : decode cc pc = .ok (.if_icmp .ne off, 3)) (hx : i32 x) (hy : i32 y) (ht : (pc : Int) + off = (t : Int)) (kt : ¬ x = y → J E X t L st K M a b) (kf : x = y → J E X (pc + 3) L st K M a b) : J E X pc L (vI y :: vI x :: st) K M a b := by
  obtain ⟨p, l, e, R, s, m, args, below, meth, c, Q, nL, K0, ad0⟩ := X
  intro ad H locs ls hR he hs hv
  have e := (oi_eq hx hy)
  refine lv_icmp_ne hX.1 hX.2.1 hd ht (fun h => ?_) (fun h => ?_)
  · exact kt (fun q => h (e.mpr q)) ad H locs ls hR he hs hv
  · exact kf (e.mp h) ad H locs ls hR he hs hv
theorem J_if_lt (hX : XO E X cc own nl d c0 s0) {x : Int} {off : Int} (t : Nat) (hd : decode cc pc = .ok (.ifCond .lt off, 3)) (hx : i32 x) (ht : (pc : Int) + off = (t : Int)) (kt : x < 0 → J E X t L st K M a b) (kf : ¬ x < 0 → J E X (pc + 3) L st K M a b) : J E X pc L (vI x :: st) K M a b := by
  obtain ⟨p, l, e, R, s, m, args, below, meth, c, Q, nL, K0, ad0⟩ := X
  intro ad H locs ls hR he hs hv
  have e := (oi_lt (b := 0) hx (by omega))
  refine lv_if_lt hX.1 hX.2.1 hd ht (fun h => ?_) (fun h => ?_)
  · exact kt (e.mp h) ad H locs ls hR he hs hv
  · exact kf (fun q => h (e.mpr q)) ad H locs ls hR he hs hv
theorem J_icmp_lt (hX : XO E X cc own nl d c0 s0) {x y : Int} {off : Int} (t : Nat) (hd : decode cc pc = .ok (.if_icmp .lt off, 3)) (hx : i32 x) (hy : i32 y) (ht : (pc : Int) + off = (t : Int)) (kt : x < y → J E X t L st K M a b) (kf : ¬ x < y → J E X (pc + 3) L st K M a b) : J E X pc L (vI y :: vI x :: st) K M a b := by
  obtain ⟨p, l, e, R, s, m, args, below, meth, c, Q, nL, K0, ad0⟩ := X
  intro ad H locs ls hR he hs hv
  have e := (oi_lt hx hy)
  refine lv_icmp_lt hX.1 hX.2.1 hd ht (fun h => ?_) (fun h => ?_)
  · exact kt (e.mp h) ad H locs ls hR he hs hv
  · exact kf (fun q => h (e.mpr q)) ad H locs ls hR he hs hv
theorem J_if_ge (hX : XO E X cc own nl d c0 s0) {x : Int} {off : Int} (t : Nat) (hd : decode cc pc = .ok (.ifCond .ge off, 3)) (hx : i32 x) (ht : (pc : Int) + off = (t : Int)) (kt : 0 ≤ x → J E X t L st K M a b) (kf : ¬ 0 ≤ x → J E X (pc + 3) L st K M a b) : J E X pc L (vI x :: st) K M a b := by
  obtain ⟨p, l, e, R, s, m, args, below, meth, c, Q, nL, K0, ad0⟩ := X
  intro ad H locs ls hR he hs hv
  have e := (oi_le (a := 0) (by omega) hx)
  refine lv_if_ge hX.1 hX.2.1 hd ht (fun h => ?_) (fun h => ?_)
  · exact kt (e.mp h) ad H locs ls hR he hs hv
  · exact kf (fun q => h (e.mpr q)) ad H locs ls hR he hs hv
theorem J_icmp_ge (hX : XO E X cc own nl d c0 s0) {x y : Int} {off : Int} (t : Nat) (hd : decode cc pc = .ok (.if_icmp .ge off, 3)) (hx : i32 x) (hy : i32 y) (ht : (pc : Int) + off = (t : Int)) (kt : y ≤ x → J E X t L st K M a b) (kf : ¬ y ≤ x → J E X (pc + 3) L st K M a b) : J E X pc L (vI y :: vI x :: st) K M a b := by
  obtain ⟨p, l, e, R, s, m, args, below, meth, c, Q, nL, K0, ad0⟩ := X
  intro ad H locs ls hR he hs hv
  have e := (oi_le hy hx)
  refine lv_icmp_ge hX.1 hX.2.1 hd ht (fun h => ?_) (fun h => ?_)
  · exact kt (e.mp h) ad H locs ls hR he hs hv
  · exact kf (fun q => h (e.mpr q)) ad H locs ls hR he hs hv
theorem J_if_gt (hX : XO E X cc own nl d c0 s0) {x : Int} {off : Int} (t : Nat) (hd : decode cc pc = .ok (.ifCond .gt off, 3)) (hx : i32 x) (ht : (pc : Int) + off = (t : Int)) (kt : 0 < x → J E X t L st K M a b) (kf : ¬ 0 < x → J E X (pc + 3) L st K M a b) : J E X pc L (vI x :: st) K M a b := by
  obtain ⟨p, l, e, R, s, m, args, below, meth, c, Q, nL, K0, ad0⟩ := X
  intro ad H locs ls hR he hs hv
  have e := (oi_lt (a := 0) (by omega) hx)
  refine lv_if_gt hX.1 hX.2.1 hd ht (fun h => ?_) (fun h => ?_)
  · exact kt (e.mp h) ad H locs ls hR he hs hv
  · exact kf (fun q => h (e.mpr q)) ad H locs ls hR he hs hv
theorem J_icmp_gt (hX : XO E X cc own nl d c0 s0) {x y : Int} {off : Int} (t : Nat) (hd : decode cc pc = .ok (.if_icmp .gt off, 3)) (hx : i32 x) (hy : i32 y) (ht : (pc : Int) + off = (t : Int)) (kt : y < x → J E X t L st K M a b) (kf : ¬ y < x → J E X (pc + 3) L st K M a b) : J E X pc L (vI y :: vI x :: st) K M a b := by
  obtain ⟨p, l, e, R, s, m, args, below, meth, c, Q, nL, K0, ad0⟩ := X
  intro ad H locs ls hR he hs hv
  have e := (oi_lt hy hx)
  refine lv_icmp_gt hX.1 hX.2.1 hd ht (fun h => ?_) (fun h => ?_)
  · exact kt (e.mp h) ad H locs ls hR he hs hv
  · exact kf (fun q => h (e.mpr q)) ad H locs ls hR he hs hv
theorem J_if_le (hX : XO E X cc own nl d c0 s0) {x : Int} {off : Int} (t : Nat) (hd : decode cc pc = .ok (.ifCond .le off, 3)) (hx : i32 x) (ht : (pc : Int) + off = (t : Int)) (kt : x ≤ 0 → J E X t L st K M a b) (kf : ¬ x ≤ 0 → J E X (pc + 3) L st K M a b) : J E X pc L (vI x :: st) K M a b := by
  obtain ⟨p, l, e, R, s, m, args, below, meth, c, Q, nL, K0, ad0⟩ := X
  intro ad H locs ls hR he hs hv
  have e := (oi_le (b := 0) hx (by omega))
  refine lv_if_le hX.1 hX.2.1 hd ht (fun h => ?_) (fun h => ?_)
  · exact kt (e.mp h) ad H locs ls hR he hs hv
  · exact kf (fun q => h (e.mpr q)) ad H locs ls hR he hs hv
theorem J_icmp_le (hX : XO E X cc own nl d c0 s0) {x y : Int} {off : Int} (t : Nat) (hd : decode cc pc = .ok (.if_icmp .le off, 3)) (hx : i32 x) (hy : i32 y) (ht : (pc : Int) + off = (t : Int)) (kt : x ≤ y → J E X t L st K M a b) (kf : ¬ x ≤ y → J E X (pc + 3) L st K M a b) : J E X pc L (vI y :: vI x :: st) K M a b := by
  obtain ⟨p, l, e, R, s, m, args, below, meth, c, Q, nL, K0, ad0⟩ := X
  intro ad H locs ls hR he hs hv
  have e := (oi_le hx hy)
  refine lv_icmp_le hX.1 hX.2.1 hd ht (fun h => ?_) (fun h => ?_)
  · exact kt (e.mp h) ad H locs ls hR he hs hv
  · exact kf (fun q => h (e.mpr q)) ad H locs ls hR he hs hv
theorem J_loc (L2 : List (Nat × Value)) (hs2 : L2.map (fun q => lget L q.1) = L2.map (fun q => some q.2)) (k1 : J E X pc L2 st K M a b) : J E X pc L st K M a b := by
  obtain ⟨p, l, e, R, s, m, args, below, meth, c, Q, nL, K0, ad0⟩ := X
  intro ad H locs ls hR he hs hv
  exact k1 ad H locs ls hR he hs (mlv_sub hv hs2)
theorem J_widen {a2 b2 : Nat} (ha : a ≤ a2) (hb : b ≤ b2) (k1 : J E X pc L st K M a2 b2) : J E X pc L st K M a b := by
  obtain ⟨p, l, e, R, s, m, args, below, meth, c, Q, nL, K0, ad0⟩ := X
  intro ad H locs ls hR he hs hv
  exact W.widen ha hb (k1 ad H locs ls hR he hs hv)
theorem J_M {M2 : MM} (h : M = M2) (k1 : J E X pc L st K M2 a b) : J E X pc L st K M a b := h ▸ k1
theorem J_st {st2 : List Value} (h : st = st2) (k1 : J E X pc L st2 K M a b) : J E X pc L st K M a b := h ▸ k1
theorem J_tin (hX : XO E X cc own nl d c0 s0) {dflt lo hi : Int} {offs : Array Int} {len : Nat} {x : Int} (off : Int) (t : Nat) (hd : decode cc pc = .ok (.tableswitch dflt lo hi offs, len)) (hx : i32 x) (h1 : lo ≤ x ∧ x ≤ hi) (ho : offs[(x - lo).toNat]? = some off) (ht : (pc : Int) + off = (t : Int)) (k1 : J E X t L st K M a b) : J E X pc L (vI x :: st) K M a b := by
  obtain ⟨p, l, e, R, s, m, args, below, meth, c, Q, nL, K0, ad0⟩ := X
  intro ad H locs ls hR he hs hv
  exact lv_tableIn hX.1 hX.2.1 hd (by rw [oi_t hx]; omega) (by rw [oi_t hx]; omega) (by rw [oi_t hx]; exact ho) ht (k1 ad H locs ls hR he hs hv)
theorem J_tout (hX : XO E X cc own nl d c0 s0) {dflt lo hi : Int} {offs : Array Int} {len : Nat} {x : Int} (t : Nat) (hd : decode cc pc = .ok (.tableswitch dflt lo hi offs, len)) (hx : i32 x) (h1 : x < lo ∨ hi < x) (ht : (pc : Int) + dflt = (t : Int)) (k1 : J E X t L st K M a b) : J E X pc L (vI x :: st) K M a b := by
  obtain ⟨p, l, e, R, s, m, args, below, meth, c, Q, nL, K0, ad0⟩ := X
  intro ad H locs ls hR he hs hv
  exact lv_tableOut hX.1 hX.2.1 hd (by rw [oi_t hx]; exact h1) ht (k1 ad H locs ls hR he hs hv)
theorem J_abs (hX : XO E X cc own nl d c0 s0) {x : Int} (hx : i32 x) (k1 : ∀ y : Int, y = x → J E X pc L (vI y :: st) K M a b) : J E X pc L (vI x :: st) K M a b := k1 x rfl
theorem J_iret (hX : XO E X cc own nl d c0 s0) {post : Option Value → (Nat → Nat) → MM → Prop} (hQ : XQ E X (some .int) post c0 s0) {x : Int} (hd : decode cc pc = .ok (.ireturn, 1)) (hp : post (some (vI x)) K M) (ha : a ≤ c0) (hb : b ≤ s0) : J E X pc L [(vI x)] K M a b := by
  obtain ⟨p, l, e, R, s, m, args, below, meth, c, Q, nL, K0, ad0⟩ := X
  intro ad H locs ls hR he hs hv
  obtain ⟨hr, hlocks, rfl⟩ := hQ
  refine W.widen ha hb ?_
  exact W.iret hX.1 hX.2.1 hr (fun t ht hW => ⟨some (vI x), K, M, ad, rfl, hp, by rw [ht]; exact hR, he⟩) hs hd hlocks
theorem J_lret (hX : XO E X cc own nl d c0 s0) {post : Option Value → (Nat → Nat) → MM → Prop} (hQ : XQ E X (some .long) post c0 s0) {x : Int} (hd : decode cc pc = .ok (.lreturn, 1)) (hp : post (some (vL x)) K M) (ha : a ≤ c0) (hb : b ≤ s0) : J E X pc L [(vL x)] K M a b := by
  obtain ⟨p, l, e, R, s, m, args, below, meth, c, Q, nL, K0, ad0⟩ := X
  intro ad H locs ls hR he hs hv
  obtain ⟨hr, hlocks, rfl⟩ := hQ
  refine W.widen ha hb ?_
  exact W.lret hX.1 hX.2.1 hr (fun t ht hW => ⟨some (vL x), K, M, ad, rfl, hp, by rw [ht]; exact hR, he⟩) hs hd hlocks
theorem J_zret (hX : XO E X cc own nl d c0 s0) {post : Option Value → (Nat → Nat) → MM → Prop} (hQ : XQ E X (some .boolean) post c0 s0) {x : Int} (hd : decode cc pc = .ok (.ireturn, 1)) (h01 : x = 0 ∨ x = 1) (hp : post (some (vI x)) K M) (ha : a ≤ c0) (hb : b ≤ s0) : J E X pc L [vI x] K M a b := by
  obtain ⟨p, l, e, R, s, m, args, below, meth, c, Q, nL, K0, ad0⟩ := X
  intro ad H locs ls hR he hs hv
  obtain ⟨hr, hlocks, rfl⟩ := hQ
  refine W.widen ha hb ?_
  exact W.zret hX.1 hX.2.1 hr (by rcases h01 with rfl | rfl <;> rfl) (fun t ht hW => ⟨some (vI x), K, M, ad, rfl, hp, by rw [ht]; exact hR, he⟩) hs hd hlocks
theorem J_vret (hX : XO E X cc own nl d c0 s0) {post : Option Value → (Nat → Nat) → MM → Prop} (hQ : XQ E X none post c0 s0) (hd : decode cc pc = .ok (.return_, 1)) (hp : post none K M) (ha : a ≤ c0) (hb : b ≤ s0) : J E X pc L [] K M a b := by
  obtain ⟨p, l, e, R, s, m, args, below, meth, c, Q, nL, K0, ad0⟩ := X
  intro ad H locs ls hR he hs hv
  obtain ⟨hr, hlocks, rfl⟩ := hQ
  refine W.widen ha hb ?_
  exact W.vret hX.1 hX.2.1 hr (fun t ht hW => ⟨none, K, M, ad, rfl, hp, by rw [ht]; exact hR, he⟩) hs hd hlocks
theorem J_aret (hX : XO E X cc own nl d c0 s0) {post : Option Value → (Nat → Nat) → MM → Prop} {C : String} (hQ : XQ E X (some (.object C)) post c0 s0) {i : Nat} (hd : decode cc pc = .ok (.areturn, 1)) (hp : post (some (.ref i)) K M) (ha : a ≤ c0) (hb : b ≤ s0) : J E X pc L [.ref i] K M a b := by
  obtain ⟨p, l, e, R, s, m, args, below, meth, c, Q, nL, K0, ad0⟩ := X
  intro ad H locs ls hR he hs hv
  obtain ⟨hr, hlocks, rfl⟩ := hQ
  refine W.widen ha hb ?_
  exact W.aret hX.1 hX.2.1 hr (Or.inl ⟨C, rfl⟩) (Or.inr ⟨ad i, rfl⟩) (fun t ht hW => ⟨some (.ref i), K, M, ad, rfl, hp, by rw [ht]; exact hR, he⟩) hs hd hlocks
end RULES
