/-! ===== pure words: rows of a works, as both sides have them ===== -/
abbrev Row : Type := Nat → Int32
def oI (o : Option Nat) : Int32 := match o with
  | none => -9
  | some k => nI k
/-- the first k from k0 on, of m, with P -/
def fnd (P : Nat → Bool) : Nat → Nat → Option Nat
  | _, 0 => none
  | k, m + 1 => if P k then some k else fnd P (k + 1) m
def bsum (x : Int32) : Nat → Int32
  | 0 => 0
  | k + 1 => bsum x k + ((x >>> (nI k &&& 31)) &&& 1)
def least (a b : Int32) : Int32 := if a < b then a else b
def irm (a b : Int32) : Int32 := a - a / b * b
def pbh (kind f : Int32) : Int32 := if kind = 2 then f / 3 + 1 + 1 else if kind = 4 then 0 else if kind = 5 then 1 else f / 3 + 1
def wnt (r : Row) (p o : Nat) : Int32 := if p = o then 0 else r (5 + 5 * o) &&& (r (5 + 5 * p) ^^^ (-1))
def rndW (r : Row) (n p : Nat) : Option Nat := (fnd (fun k => !(wnt r p ((p + k) % n) == 0)) 1 (n - 1)).map (fun k => (p + k) % n)
def rndB (r : Row) (n p : Nat) : Option Nat := (fnd (fun k => !(wnt r p ((p + n * k - k) % n) == 0)) 1 (n - 1)).map (fun k => (p + n * k - k) % n)
def rich (r : Row) (p : Nat) : Nat → Option Nat
  | 0 => none
  | o + 1 => if wnt r p o ≠ 0 ∧ (∀ f, rich r p o = some f → bsum (r (5 + 5 * f)) 7 < bsum (r (5 + 5 * o)) 7) then some o else rich r p o
def lst (r : Row) (n p : Nat) : Option Nat := fnd (fun o => !(wnt r p o == 0)) 0 n
def fromW (r : Row) (n p : Nat) : Option Nat := if r (3 + 5 * p) = 1 ∨ r (3 + 5 * p) = 3 then rich r p n else if r (3 + 5 * p) = 2 ∨ r (3 + 5 * p) = 4 then rndB r n p else if r (3 + 5 * p) = 5 then lst r n p else rndW r n p
def isLst (k : Int32) : Bool := k == 3 || k == 5
def whc (last : Bool) (set : Int32) : Nat → Option Nat
  | 0 => none
  | d + 1 => if tb set (nI d) = true ∧ (whc last set d = none ∨ last = true) then some d else whc last set d
def mvd (r : Row) (f t : Nat) (d : Int32) : Row :=
  let r1 := upd r (5 + 5 * f) (r (5 + 5 * f) &&& ((1 <<< (d &&& 31)) ^^^ (-1)))
  upd r1 (5 + 5 * t) (r1 (5 + 5 * t) ||| (1 <<< (d &&& 31)))
def payR (r : Row) (n p : Nat) : Row := match fromW r n p with
  | none => r
  | some o =>
    let r1 := mvd r o p (oI (whc (isLst (r (3 + 5 * p))) (wnt r p o) 7))
    let r2 := upd r1 2 (least 9999 (r1 2 + 1))
    upd r2 (7 + 5 * p) 0
/-- is one paid on this day, as he stands -/
def payC (u : Int32) (r : Row) (p : Nat) : Bool := decide (0 < pbh (r (3 + 5 * p)) (r (4 + 5 * p))) && decide (pbh (r (3 + 5 * p)) (r (4 + 5 * p)) ≤ r (7 + 5 * p)) && !tb u (nI p)
def upW (r : Row) (p : Nat) : Row :=
  let r1 := upd r (6 + 5 * p) (least 30 (r (6 + 5 * p) + 1))
  upd r1 (7 + 5 * p) (least 9 (r1 (7 + 5 * p) + 1))
def wday (u : Int32) (n : Nat) (r : Row) (p : Nat) : Row :=
  if tb (r (5 + 5 * p)) (irm (r 1) 7) then upd r (6 + 5 * p) (if r (6 + 5 * p) < 2 then 0 else r (6 + 5 * p) - 2)
  else if payC u (upW r p) p then payR (upW r p) n p else upW r p
def wdays (u : Int32) (n : Nat) (r : Row) : Nat → Row
  | 0 => r
  | p + 1 => wday u n (wdays u n r p) p
def dayR (u : Int32) (n : Nat) (r : Row) : Row := wdays u n (upd r 1 (r 1 + 1)) n
def dayN (u : Int32) (n : Nat) (r : Row) : Nat → Row
  | 0 => r
  | k + 1 => dayR u n (dayN u n r k)
def inO (r : Row) (d : Int32) : Nat → Int32
  | 0 => 0
  | p + 1 => inO r d p ||| (if tb (r (5 + 5 * p)) d then 0 else (1 : Int32) <<< (nI p &&& 31))
def sumT (r : Row) : Nat → Int32
  | 0 => 0
  | p + 1 => sumT r p + r (6 + 5 * p)
