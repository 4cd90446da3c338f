/-! THE REFERENCE: small contracts -/
def thenF (x y : Int32) : Int32 := if y = 0 then x else 27 * x + y - 96
def spellF (x y z u v w : Int32) : Int32 := thenF (thenF (thenF (thenF (thenF (thenF 0 x) y) z) u) v) w
def leastF (k : Int32) : Int32 := if k < 4 then -9999 else 0
def greatestF (k : Int32) : Int32 := if k < 4 then 9999 else 73048
def leapB (y : Int32) : Bool := decide (y - y / 4 * 4 = 0) && !decide (y - y / 100 * 100 = 0) || decide (y - y / 400 * 400 = 0)
def daysF (y k : Int32) : Int32 := if k = 2 then (if leapB y then 29 else 28) else if k = 4 ∨ k = 6 ∨ k = 9 ∨ k = 11 then 30 else 31
def dateB (x y z : Int32) : Bool := inB x 1900 2099 && inB y 1 12 && inB z 1 (daysF x y)
def valB (k x : Int32) : Bool := inB k 0 6 && inB x (leastF k) (greatestF k)
