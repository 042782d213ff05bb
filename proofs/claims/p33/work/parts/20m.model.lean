def nowS (S : MM) : Int := if S 11 0 = 0 then -1000 else (prs (S 14) (S 11 1) ((S 11 0).toNat - 1) 0 : Nat)
theorem now_S {M : MM} {b : Nat} : now M b = nowS (stg M b) := rfl