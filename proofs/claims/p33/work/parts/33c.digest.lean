/-! the digest -/
def mixL (f : Int → Int) : Nat → Int → Int
  | 0, h => h
  | k + 1, h => 31 * mixL f k h + f k
def mixR (f : Int → Int → Int) (w : Nat) : Nat → Int → Int
  | 0, h => h
  | k + 1, h => mixL (f k) w (mixR f w k h)
def digA (S : MM) (a b : Int) : Int := mixL (wvl S) 16 (31 * (31 * 18767 + a) + b)
def digB (S : MM) (a b : Int) : Int := mixR (nvl S) 16 (S 1 0).toNat (digA S a b)
def digC (S : MM) (a b : Int) : Int := mixR (scv S) 4 (S 11 0).toNat (digB S a b)
def digD (S : MM) (a b : Int) : Int := mixL (tvl S) 7 (digC S a b)
def dig (S : MM) (a b : Int) : Int := him S (S 0 4).toNat (digD S a b)