def atlF (l v : Int32) : Int32 := if v ≤ l then l else v
def atmF (h v : Int32) : Int32 := if h ≤ v then h else v
def narLo (S : Nat → Int32) (n : Nat) (w : Int32) (lo : Nat → Int32) : Nat → Int32 := if firN (defQ S w) n < n then filN (fun i => atlF (lo i) (S (57 + 66 * (firN (defQ S w) n) + (52 + i)))) lo 7 else lo
def narHi (S : Nat → Int32) (n : Nat) (w : Int32) (hi : Nat → Int32) : Nat → Int32 := if firN (defQ S w) n < n then filN (fun i => atmF (hi i) (S (57 + 66 * (firN (defQ S w) n) + (59 + i)))) hi 7 else hi
def nfN (S : Nat → Int32) (k : Nat) : Bool := decide (S (7 + 25 + (k + 1)) = nI 7)
def nfK (S : Nat → Int32) (k : Nat) : Nat := k + 1 + if nfN S k = true then 1 else 0
def nfH (S : Nat → Int32) (k : Nat) : Int32 := S (7 + 25 + nfK S k)
def nfV (S : Nat → Int32) (k : Nat) : Int32 := S (7 + 25 + (nfK S k + 1))
theorem n54 : ¬ nI 5 = nI 4 := by decide
def nfLoP (nt : Bool) (w v : Int32) (t : Nat) (lo : Nat → Int32) : Nat → Int32 := if w = nI 4 then upd lo t (atlF (lo t) v) else if decide (w = nI 5) = nt then lo else upd lo t (atlF (lo t) (if nt = true then v else v + nI 1))
def nfHiP (nt : Bool) (w v : Int32) (t : Nat) (hi : Nat → Int32) : Nat → Int32 := if w = nI 4 then upd hi t (atmF (hi t) v) else if decide (w = nI 5) = nt then upd hi t (atmF (hi t) (if nt = true then v else v - nI 1)) else hi
def nfLo (S : Nat → Int32) (t k : Nat) (lo : Nat → Int32) : Nat → Int32 := nfLoP (nfN S k) (nfH S k) (nfV S k) t lo
def nfHi (S : Nat → Int32) (t k : Nat) (hi : Nat → Int32) : Nat → Int32 := nfHiP (nfN S k) (nfH S k) (nfV S k) t hi
