/-! THE REFERENCE: questions about the state -/
def insQ (S : Nat → Int32) (x y i : Nat) : Bool := !decide (S (57 + 66 * x + (52 + i)) < S (57 + 66 * y + (52 + i))) && !decide (S (57 + 66 * y + (59 + i)) < S (57 + 66 * x + (59 + i)))
def insB (S : Nat → Int32) (x y : Nat) : Bool := allN (insQ S x y) 7
def conQ (S : Nat → Int32) (k i : Nat) : Bool := inB (S i) (S (57 + 66 * k + (52 + i))) (S (57 + 66 * k + (59 + i)))
def conB (S : Nat → Int32) (k : Nat) : Bool := allN (conQ S k) 7
def strB (S : Nat → Int32) (x y : Nat) : Bool := insB S x y && !insB S y x
def appB (S : Nat → Int32) (wo : Int32) (k : Nat) (r : Int32) : Bool := !decide (nI k = wo) && decide (S (57 + 66 * k + 49) = r) && conB S k
def reaQ (S : Nat → Int32) (wo : Int32) (k : Nat) (r : Int32) (j : Nat) : Bool := !(appB S wo j r && strB S j k)
def reaB (S : Nat → Int32) (wo : Int32) (n k : Nat) (r : Int32) : Bool := appB S wo k r && allN (reaQ S wo k r) n
def ansL (S : Nat → Int32) (wo : Int32) (n : Nat) (r : Int32) : Nat → Int32
  | 0 => -100005
  | i + 1 => if reaB S wo n i r = true then (if ansL S wo n r i = -100005 then S (57 + 66 * i + 50) else if ansL S wo n r i = S (57 + 66 * i + 50) then S (57 + 66 * i + 50) else -100006) else ansL S wo n r i
def ansI (S : Nat → Int32) (wo : Int32) (n : Nat) (r : Int32) : Int32 := ansL S wo n r n
def shaQ (S : Nat → Int32) (k i : Nat) : Bool := !(decide (S (57 + 66 * k + (52 + i)) = leastF (nI i)) && decide (S (57 + 66 * k + (59 + i)) = greatestF (nI i)))
def shaN (S : Nat → Int32) (k : Nat) : Nat := cntN (shaQ S k) 7
theorem shaN_le (S : Nat → Int32) (k : Nat) : shaN S k ≤ 7 := cntN_le _ 7
