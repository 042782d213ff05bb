/-! WHAT IS DRAWN: words over a page S (a stage's rows alone) -/
def stg (M : MM) (b : Nat) : MM := fun k => if k < 16 then M (b + k) else fun _ => 0
theorem stg_eq {M M2 : MM} {b b2 : Nat} (h : ∀ k, k < 16 → M (b + k) = M2 (b2 + k)) : stg M b = stg M2 b2 := by
  funext k
  unfold stg
  by_cases q : k < 16
  · rw [if_pos q, if_pos q, h k q]
  · rw [if_neg q, if_neg q]
abbrev hs (S : MM) (n : Int) : Prop := 0 ≤ n ∧ n < S 1 0 ∧ n < 20
abbrev bx (S : MM) (n : Int) : Prop := hs S n ∧ 0 < S 7 n
/-- the sum of component k (4 dx, 5 dy, 6 dz) of a node and the groups around it -/
def sumd (S : MM) (k : Nat) : Nat → Int → Int
  | 0, _ => 0
  | f + 1, n => if n < 0 then 0 else S k n + sumd S k f (S 2 n)
def pos (S : MM) (k : Nat) (n : Int) : Int := sumd S k 21 n
def rawg (S : MM) (g n : Int) : Int := g * pos S 6 n / 100
def ftn (S : MM) (g p lo hi : Int) : Nat → Bool
  | 0 => true
  | k + 1 => ftn S g p lo hi k && decide (¬ bx S k ∨ (lo ≤ rawg S g k * p / 100 ∧ rawg S g k * p / 100 ≤ hi))
def cnt (S : MM) : Nat := (S 1 0).toNat
def fits1 (S : MM) (g p lo hi : Int) : Bool := ftn S g p lo hi (cnt S)
def pctF (S : MM) (g lo hi : Int) : Nat → Nat
  | 0 => 0
  | p + 1 => if fits1 S g ((p + 1 : Nat) : Int) lo hi = true then p + 1 else pctF S g lo hi p
def pctW (S : MM) (lo hi : Int) : Int := (pctF S (S 15 0) lo hi 100 : Nat)
def pct (S : MM) : Int := pctW S (S 11 2) (S 11 3)
def gainF (S : MM) : Nat → Nat
  | 0 => 0
  | g + 1 => if fits1 S ((g + 1 : Nat) : Int) 100 (S 11 2) (S 11 3) = true then g + 1 else gainF S g
def shf (S : MM) (n : Int) : Int := rawg S (S 15 0) n * pct S / 100
def col (S : MM) (l n : Int) : Int := co l (pos S 4 n) (shf S n)
/- the order of painting -/
def scn (arr f : Int → Int) (x : Int) : Nat → Nat
  | 0 => 0
  | q + 1 => if x < f (arr q) then scn arr f x q else q + 1
def ins (arr f : Int → Int) (nb : Nat) (n : Int) : Int → Int := fun j =>
  if j < (scn arr f (f n) nb : Nat) then arr j else if j = (scn arr f (f n) nb : Nat) then n else arr (j - 1)
def nbx (S : MM) : Nat → Nat
  | 0 => 0
  | k + 1 => if bx S k then nbx S k + 1 else nbx S k
def ordf (S : MM) : Nat → Int → Int
  | 0 => fun _ => 0
  | k + 1 => if bx S k then ins (ordf S k) (shf S) (nbx S k) k else ordf S k
def nb (S : MM) : Nat := nbx S (cnt S)
def ord (S : MM) : Int → Int := ordf S (cnt S)
/- the window -/
abbrev inFr (S : MM) (n : Int) : Prop := bx S n ∧ pos S 5 n < S 0 4 ∧ 0 < pos S 5 n + S 8 n
abbrev crs (f w e : Int) : Prop := f < e ∧ e < f + w
abbrev cut (S : MM) (l e n : Int) : Prop := inFr S n ∧ (if l = 0 then crs (col S 1 n) (S 7 n) (S 0 3) ∨ crs (col S 0 n) (S 7 n) (S 0 3 - e) else crs (col S 1 n) (S 7 n) e ∨ crs (col S 0 n) (S 7 n) 0)
def gcut (S : MM) (l e : Int) : Nat → Int
  | 0 => e
  | k + 1 => if gcut S l e k < shf S k ∧ cut S l e k then shf S k else gcut S l e k
def gct (S : MM) (l e : Int) : Int := gcut S l e (cnt S)
def wndF (S : MM) (l : Int) : Nat → Int → Int
  | 0, e => e
  | r + 1, e => if gct S l e = e then e else wndF S l r (gct S l e)
def wnd (S : MM) (l : Int) : Int := wndF S l 21 0
/- the title -/
abbrev inRw (S : MM) (n r : Int) : Prop := bx S n ∧ pos S 5 n ≤ r ∧ r < pos S 5 n + S 8 n
def opn (S : MM) (l : Int) : Int := if l = 0 then 0 else wnd S 1
def cls (S : MM) (l : Int) : Int := if l = 0 then S 0 3 - wnd S 0 else S 0 3
def csn (S : MM) (l r t : Int) : Nat → Bool
  | 0 => true
  | k + 1 => csn S l r t k && decide (¬ (t ≤ shf S k ∧ inRw S k r ∧ col S l k < co l (S 0 5) t + S 0 7 ∧ co l (S 0 5) t < col S l k + S 7 k))
def cst (S : MM) (l r t : Int) : Bool := decide (opn S l ≤ co l (S 0 5) t ∧ co l (S 0 5) t + S 0 7 ≤ cls S l) && csn S l r t (cnt S)
def tsr (S : MM) (r : Int) : Nat → Nat → Int
  | 0, _ => -1
  | m + 1, t => if cst S 1 r t = true ∧ cst S 0 r t = true then (t : Nat) else tsr S r m (t + 1)
def trw (S : MM) : Nat → Int × Int
  | 0 => (-1000, -1000)
  | r + 1 => if 0 ≤ tsr S r (S 11 3 + 1).toNat 0 then ((r : Nat), tsr S r (S 11 3 + 1).toNat 0) else trw S r
def ttl (S : MM) : Int × Int := if S 0 7 = 0 then (-1000, -1000) else trw S (S 0 6 + 1).toNat
/- images -/
abbrev cov (S : MM) (l c r n : Int) : Prop := inRw S n r ∧ col S l n ≤ c ∧ c < col S l n + S 7 n
def frt (S : MM) (l c r : Int) : Nat → Int
  | 0 => -1000
  | k + 1 => if cov S l c r (ord S k) then ord S k else frt S l c r k
def front (S : MM) (l c r : Int) : Int := frt S l c r (nb S)
def tco (S : MM) (l : Int) : Int := if (ttl S).1 < 0 then -1000 else co l (S 0 5) (ttl S).2
def shd (S : MM) (l c r : Int) : Int :=
  if c < opn S l ∨ cls S l ≤ c then 0
  else if r = (ttl S).1 ∧ tco S l ≤ c ∧ c < tco S l + S 0 7 then 15
  else if hs S (front S l c r) then S 9 (front S l c r) else S 15 2
def gst (S : MM) (x y : Int) : Int := S 15 3 * (if x - y < 0 then -(x - y) else x - y) / 100
def ghs (S : MM) (c r : Int) : Int := gst S (shd S 1 c r) (shd S 0 c r)
/- ranges -/
def SFs (T : Int) (S : MM) : Prop := WF T S 0
