/-! the reference: order, columns -/
def Plc (M : MM) (r : Nat) (S : MM) : Prop := ∀ n : Int, 0 ≤ n → n < S 1 0 → M (r + 6) n = pos S 4 n ∧ M (r + 7) n = pos S 5 n ∧ M (r + 8) n = pos S 6 n
def Shs (M : MM) (r : Nat) (S : MM) : Prop := ∀ n : Int, 0 ≤ n → n < S 1 0 → M (r + 9) n = shf S n
def Srd (M : MM) (r : Nat) (S : MM) : Prop := M r 14 = (nb S : Nat) ∧ ∀ j : Nat, j < nb S → M (r + 10) j = ord S j
def Mdl (M : MM) (r : Nat) (S : MM) : Prop := Plc M r S ∧ Shs M r S ∧ Srd M r S