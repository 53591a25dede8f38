/-! WHAT A METHOD DOES, as functions: locals, the shape of the heap (kind, length, size), its contents -/
abbrev QL : Type := Nat → Int
abbrev QS : Type := (Int → Nat) × (Int → Int) × Nat
abbrev QV : Type := Int → Int → Int
abbrev QE : Type := QL → QS → QV → Option (Int × QV)
abbrev QC : Type := QL → QS → QV → Option (Bool × QV)
abbrev QT : Type := QL → QS → QV → Option ((Nat × Int) × QL × QV)
abbrev QM : Type := List Int → QS → QV → Option (Int × QV)
def lu (L : QL) (k : Nat) (z : Int) : QL := fun j => if j = k then z else L j
def vu (v : QV) (a i z : Int) : QV := fun b j => if b = a ∧ j = i then z else v b j
/-- what an array of a kind keeps of a number -/
def nr : Nat → Int → Int
  | 23, z => z % 65536
  | 24, z => z % 2
  | 42, z => w8 z
  | 44, z => z % 2
  | _, z => z
-- expressions
def eI (n : Int) : QE := fun _ _ v => some (n, v)
def eV (k : Nat) : QE := fun L _ v => some (L k, v)
def eF (ci : Nat) (k : Int) (e : QE) : QE := fun L S v => (e L S v).bind fun r => if S.1 r.1 = ci + 1 then some (r.2 r.1 k, r.2) else none
def eA (κ : Nat) (a i : QE) : QE := fun L S v => (a L S v).bind fun r => (i L S r.2).bind fun q => if S.1 r.1 = κ ∧ 0 ≤ q.1 ∧ q.1 < S.2.1 r.1 then some (q.2 r.1 q.1, q.2) else none
def eN (e : QE) : QE := fun L S v => (e L S v).bind fun r => if 20 ≤ S.1 r.1 then some (S.2.1 r.1, r.2) else none
def e1 (o : Int → Int) (a : QE) : QE := fun L S v => (a L S v).bind fun r => some (o r.1, r.2)
def e2 (o : Int → Int → Int) (a b : QE) : QE := fun L S v => (a L S v).bind fun r => (b L S r.2).bind fun q => some (o r.1 q.1, q.2)
def eD (o : Int → Int → Int) (a b : QE) : QE := fun L S v => (a L S v).bind fun r => (b L S r.2).bind fun q => if q.1 = 0 then none else some (o r.1 q.1, q.2)
def iA (x y : Int) : Int := w32 (x + y)
def iS (x y : Int) : Int := w32 (x - y)
def iM (x y : Int) : Int := w32 (x * y)
def iD (x y : Int) : Int := w32 (x.tdiv y)
def iR (x y : Int) : Int := w32 (x.tmod y)
def iN (x : Int) : Int := w32 (-x)
def lA (x y : Int) : Int := w64 (x + y)
def lS (x y : Int) : Int := w64 (x - y)
def lM (x y : Int) : Int := w64 (x * y)
def lD (x y : Int) : Int := w64 (x.tdiv y)
def lR (x y : Int) : Int := w64 (x.tmod y)
def iSh (x y : Int) : Int := w32 (x * 2 ^ (y % 32).toNat)
def lSh (x y : Int) : Int := w64 (x * 2 ^ (y % 64).toNat)
def iSr (x y : Int) : Int := x / 2 ^ (y % 32).toNat
def iUs (x y : Int) : Int := w32 (x % 4294967296 / 2 ^ (y % 32).toNat)
def iAn (x y : Int) : Int := w32 (((x % 4294967296).toNat &&& (y % 4294967296).toNat : Nat) : Int)
def iOr (x y : Int) : Int := w32 (((x % 4294967296).toNat ||| (y % 4294967296).toNat : Nat) : Int)
def iMax (x y : Int) : Int := if x < y then y else x
def iMin (x y : Int) : Int := if y < x then y else x
def lAbs (x : Int) : Int := if 0 < x then x else w64 (-x)
def i2c (x : Int) : Int := x % 65536
-- tests
def qeq (x y : Int) : Bool := decide (x = y)
def qne (x y : Int) : Bool := !decide (x = y)
def qlt (x y : Int) : Bool := decide (x < y)
def qge (x y : Int) : Bool := !decide (x < y)
def qgt (x y : Int) : Bool := decide (y < x)
def qle (x y : Int) : Bool := !decide (y < x)
def cB (o : Int → Int → Bool) (a b : QE) : QC := fun L S v => (a L S v).bind fun r => (b L S r.2).bind fun q => some (o r.1 q.1, q.2)
def cE (a : QE) : QC := fun L S v => (a L S v).bind fun r => some (!decide (r.1 = 0), r.2)
def cAnd (a b : QC) : QC := fun L S v => (a L S v).bind fun r => if r.1 then b L S r.2 else some (false, r.2)
def cOr (a b : QC) : QC := fun L S v => (a L S v).bind fun r => if r.1 then some (true, r.2) else b L S r.2
def cNot (a : QC) : QC := fun L S v => (a L S v).bind fun r => some (!r.1, r.2)
def eB (c : QC) : QE := fun L S v => (c L S v).bind fun r => some (if r.1 then 1 else 0, r.2)
def eIf (c : QC) (a b : QE) : QE := fun L S v => (c L S v).bind fun r => if r.1 then a L S r.2 else b L S r.2
-- calls
def eAs : List QE → QL → QS → QV → Option (List Int × QV)
  | [], _, _, v => some ([], v)
  | e :: es, L, S, v => (e L S v).bind fun r => (eAs es L S r.2).bind fun q => some (r.1 :: q.1, q.2)
def eCall (g : QM) (as : List QE) : QE := fun L S v => (eAs as L S v).bind fun r => g r.1 S r.2
def eCallV (ci : Nat) (g : QM) (as : List QE) : QE := fun L S v => (eAs as L S v).bind fun r => if S.1 (r.1.headD (-1)) = ci + 1 then g r.1 S r.2 else none
-- statements: 0 goes on, 1 break, 2 continue, 3 return
def sSkip : QT := fun L _ v => some ((0, 0), L, v)
def sBrk : QT := fun L _ v => some ((1, 0), L, v)
def sCnt : QT := fun L _ v => some ((2, 0), L, v)
def sRet (e : QE) : QT := fun L S v => (e L S v).bind fun r => some ((3, r.1), L, r.2)
def sRetV : QT := fun L _ v => some ((3, 0), L, v)
def sSeq (a b : QT) : QT := fun L S v => (a L S v).bind fun r => if r.1.1 = 0 then b r.2.1 S r.2.2 else some r
def sSet (k : Nat) (e : QE) : QT := fun L S v => (e L S v).bind fun r => some ((0, 0), lu L k r.1, r.2)
def sInc (k : Nat) (n : Int) : QT := fun L _ v => some ((0, 0), lu L k (w32 (L k + n)), v)
def sPut (ci : Nat) (k : Int) (a e : QE) : QT := fun L S v => (a L S v).bind fun r => (e L S r.2).bind fun q => if S.1 r.1 = ci + 1 then some ((0, 0), L, vu q.2 r.1 k q.1) else none
def sPutC (ci : Nat) (k : Int) (a : QE) (o : Int → Int → Int) (e : QE) : QT := fun L S v => (a L S v).bind fun r => if S.1 r.1 = ci + 1 then (e L S r.2).bind fun q => some ((0, 0), L, vu q.2 r.1 k (o (r.2 r.1 k) q.1)) else none
def sArr (κ : Nat) (a i e : QE) : QT := fun L S v => (a L S v).bind fun r => (i L S r.2).bind fun j => (e L S j.2).bind fun q => if S.1 r.1 = κ ∧ 0 ≤ j.1 ∧ j.1 < S.2.1 r.1 then some ((0, 0), L, vu q.2 r.1 j.1 (nr κ q.1)) else none
def sArrC (κ : Nat) (a i : QE) (o : Int → Int → Int) (e : QE) : QT := fun L S v => (a L S v).bind fun r => (i L S r.2).bind fun j => if S.1 r.1 = κ ∧ 0 ≤ j.1 ∧ j.1 < S.2.1 r.1 then (e L S j.2).bind fun q => some ((0, 0), L, vu q.2 r.1 j.1 (nr κ (o (j.2 r.1 j.1) q.1))) else none
def sDo (e : QE) : QT := fun L S v => (e L S v).bind fun r => some ((0, 0), L, r.2)
def sIf (c : QC) (a b : QT) : QT := fun L S v => (c L S v).bind fun r => if r.1 then a L S r.2 else b L S r.2
def sWh (c : QC) (b u : QT) : Nat → QT
  | 0 => fun _ _ _ => none
  | n + 1 => fun L S v => (c L S v).bind fun t => if t.1 then (b L S t.2).bind fun r => if r.1.1 = 0 ∨ r.1.1 = 2 then (u r.2.1 S r.2.2).bind fun q => if q.1.1 = 0 then sWh c b u n q.2.1 S q.2.2 else none else if r.1.1 = 1 then some ((0, 0), r.2.1, r.2.2) else some r else some ((0, 0), L, t.2)
def sWhile (c : QC) (b u : QT) : QT := sWh c b u 4294967296
def sSwF : List (List Int × QT) → QT → Int → QT
  | [], d, _ => d
  | (ks, s) :: cs, d, z => if z ∈ ks then s else sSwF cs d z
def sSw (e : QE) (cs : List (List Int × QT)) (d : QT) : QT := fun L S v => (e L S v).bind fun r => (sSwF cs d r.1 L S r.2).bind fun q => if q.1.1 = 1 then some ((0, 0), q.2) else some q
/-- System.arraycopy of a kind of primitives -/
def sCopy (κ : Nat) (a i b j n : QE) : QT := fun L S v => (a L S v).bind fun ra => (i L S ra.2).bind fun ri => (b L S ri.2).bind fun rb => (j L S rb.2).bind fun rj => (n L S rj.2).bind fun rn =>
  if S.1 ra.1 = κ ∧ S.1 rb.1 = κ ∧ 0 ≤ ri.1 ∧ 0 ≤ rj.1 ∧ 0 ≤ rn.1 ∧ ri.1 + rn.1 ≤ S.2.1 ra.1 ∧ rj.1 + rn.1 ≤ S.2.1 rb.1 then some ((0, 0), L, fun q k => if q = rb.1 ∧ rj.1 ≤ k ∧ k < rj.1 + rn.1 then rn.2 ra.1 (ri.1 + (k - rj.1)) else rn.2 q k) else none
-- methods: the arguments stand in the locals
def aL : Nat → List Nat → List Int → QL
  | i, τ :: τs, z :: zs => fun j => if j = i then z else aL (i + ct τ) τs zs j
  | _, _, _ => fun _ => 0
def gL : Nat → List Nat → List (Nat × Nat)
  | i, τ :: τs => (i, τ) :: gL (i + ct τ) τs
  | _, [] => []
def qM (τs : List Nat) (s : QT) : QM := fun zs S v => (s (aL 0 τs zs) S v).bind fun r => if r.1.1 = 3 then some (r.1.2, r.2.2) else none
