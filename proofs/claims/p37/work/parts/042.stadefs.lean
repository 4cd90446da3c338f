/-! THE CLASS: a state's book, read only: sentence i lies at X i, its region at rg i with the rows pa i, qa i; it holds lo i, hi i; ab, gv, us: about, given, used -/
def sSen (G : mG) (f : mE) (x r p q t : Nat) (lo hi : Nat → Int32) (ab gv us : Int32) : Prop :=
  f x = some (.inr (3, [.ref t, .ref r, .int ab, .int gv, .int us])) ∧ f r = some (.inr (2, [.ref p, .ref q])) ∧ f p = some (mI G 7 lo) ∧ f q = some (mI G 7 hi)
def StQ (G : mG) (f : mE) (q0 b fc pr n : Nat) (B : Nat → Option Nat) (X rg pa qa tk : Nat → Nat) (lo hi : Nat → Nat → Int32) (ab gv us : Nat → Int32) : Prop :=
  f q0 = some (.inr (4, [.int (nI n), .ref b, .ref fc, .ref pr])) ∧ f b = some (mQ G 2 16 B) ∧ n ≤ 16 ∧ ∀ i, i < n → B i = some (X i) ∧ sSen G f (X i) (rg i) (pa i) (qa i) (tk i) (lo i) (hi i) (ab i) (gv i) (us i)
def appD (g : Nat → Int32) (lo hi : Nat → Nat → Int32) (ab : Nat → Int32) (lf : Int32) (k : Nat) (r : Int32) : Bool := !decide (nI k = lf) && (decide (ab k = r) && allN (hasR g (lo k) (hi k)) 7)
def strD (lo hi : Nat → Nat → Int32) (x y : Nat) : Bool := allN (insR (lo x) (hi x) (lo y) (hi y)) 7 && !allN (insR (lo y) (hi y) (lo x) (hi x)) 7
def ovrQ (g : Nat → Int32) (lo hi : Nat → Nat → Int32) (ab : Nat → Int32) (lf : Int32) (k : Nat) (r : Int32) (j : Nat) : Bool := appD g lo hi ab lf j r && strD lo hi j k
def reaD (g : Nat → Int32) (lo hi : Nat → Nat → Int32) (ab : Nat → Int32) (lf : Int32) (n k : Nat) (r : Int32) : Bool := appD g lo hi ab lf k r && !exN (ovrQ g lo hi ab lf k r) n
/-- the first reason that differs from those before it ends the search -/
def ansD (g : Nat → Int32) (lo hi : Nat → Nat → Int32) (ab gv : Nat → Int32) (lf : Int32) (n : Nat) (r : Int32) : Nat → Nat → Int32 → Int32
  | 0, _, fo => fo
  | m + 1, k, fo => if reaD g lo hi ab lf n k r = true then (if fo = -100005 then ansD g lo hi ab gv lf n r m (k + 1) (gv k) else if fo = gv k then ansD g lo hi ab gv lf n r m (k + 1) (gv k) else -100006) else ansD g lo hi ab gv lf n r m (k + 1) fo
theorem ansD_no {g : Nat → Int32} {lo hi : Nat → Nat → Int32} {ab gv : Nat → Int32} {lf : Int32} {n k : Nat} {r fo : Int32} (hk : k < n) (h : reaD g lo hi ab lf n k r = false) : ansD g lo hi ab gv lf n r (n - k) k fo = ansD g lo hi ab gv lf n r (n - (k + 1)) (k + 1) fo := by
  rw [show n - k = (n - (k + 1)) + 1 by omega, ansD, if_neg (by rw [h]; decide)]
theorem ansD_go {g : Nat → Int32} {lo hi : Nat → Nat → Int32} {ab gv : Nat → Int32} {lf : Int32} {n k : Nat} {r fo : Int32} (hk : k < n) (h : reaD g lo hi ab lf n k r = true) (e : fo = -100005 ∨ fo = gv k) : ansD g lo hi ab gv lf n r (n - k) k fo = ansD g lo hi ab gv lf n r (n - (k + 1)) (k + 1) (gv k) := by
  rw [show n - k = (n - (k + 1)) + 1 by omega, ansD, if_pos h]
  by_cases e1 : fo = -100005
  · rw [if_pos e1]
  · rw [if_neg e1, if_pos (e.resolve_left e1)]
theorem ansD_ref {g : Nat → Int32} {lo hi : Nat → Nat → Int32} {ab gv : Nat → Int32} {lf : Int32} {n k : Nat} {r fo : Int32} (hk : k < n) (h : reaD g lo hi ab lf n k r = true) (e1 : ¬ fo = -100005) (e2 : ¬ fo = gv k) : (-100006) = ansD g lo hi ab gv lf n r (n - k) k fo := by
  rw [show n - k = (n - (k + 1)) + 1 by omega, ansD, if_pos h, if_neg e1, if_neg e2]
theorem ansD_end {g : Nat → Int32} {lo hi : Nat → Nat → Int32} {ab gv : Nat → Int32} {lf : Int32} {n k : Nat} {r fo : Int32} (hk : n ≤ k) : fo = ansD g lo hi ab gv lf n r (n - k) k fo := by
  rw [show n - k = 0 by omega, ansD]
def defD (ab : Nat → Int32) (w : Int32) (k : Nat) : Bool := decide (ab k = nI 10 + w)
def limD (lo hi : Nat → Nat → Int32) (k : Nat) : Nat := cntN (limR (lo k) (hi k)) 7
theorem limD_le (lo hi : Nat → Nat → Int32) (k : Nat) : limD lo hi k ≤ 7 := cntN_le _ 7
def befD (lo hi : Nat → Nat → Int32) (j k : Nat) : Bool := decide (limD lo hi k < limD lo hi j) || (decide (limD lo hi j = limD lo hi k) && decide (j < k))
def hrcQ (lo hi : Nat → Nat → Int32) (ab : Nat → Int32) (x y k : Nat) : Bool := decide (ab k = ab x) && allN (comR (lo k) (hi k) (lo x) (hi x) (lo y) (hi y)) 7
def conD (lo hi : Nat → Nat → Int32) (ab gv : Nat → Int32) (n x y : Nat) : Bool := decide (ab x < nI 10) && (decide (ab x = ab y) && (!decide (gv x = gv y) && (allN (meeR (lo x) (hi x) (lo y) (hi y)) 7 && (!strD lo hi x y && (!strD lo hi y x && !exN (hrcQ lo hi ab x y) n)))))
def neaS (b z x : Int32) : Int32 := if z ≤ x then b else if b = -100005 then z else if b ≤ z then b else z
def nbrD (lo hi : Nat → Nat → Int32) (ab : Nat → Int32) (r : Int32) (k : Nat) (x : Int32) : Nat → Int32
  | 0 => -100005
  | i + 1 => if ab i = r then neaS (neaS (nbrD lo hi ab r k x i) (lo i k) x) (hi i k + nI 1) x else nbrD lo hi ab r k x i
def nbrI (lo hi : Nat → Nat → Int32) (ab : Nat → Int32) (n : Nat) (r : Int32) (k : Nat) (x : Int32) : Int32 := if nbrD lo hi ab r k x n = -100005 ∨ greatestF (nI k) < nbrD lo hi ab r k x n then -100005 else nbrD lo hi ab r k x n

