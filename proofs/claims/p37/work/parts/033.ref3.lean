/-! THE REFERENCE: more questions -/
def exN (q : Nat → Bool) : Nat → Bool
  | 0 => false
  | i + 1 => exN q i || q i
def defQ (S : Nat → Int32) (w : Int32) (k : Nat) : Bool := decide (S (57 + 66 * k + 49) = nI 10 + w)
def defI (S : Nat → Int32) (n : Nat) (w : Int32) : Int32 := if firN (defQ S w) n < n then nI (firN (defQ S w) n) else -100005
def useQ (S : Nat → Int32) (w : Int32) (k : Nat) : Bool := decide ((S (57 + 66 * k + 51) >>> (w &&& 31)) &&& nI 1 = nI 1)
def a6_answer (S : Nat → Int32) (wo : Int32) (n : Nat) (r : Int32) : Int32 := if inB r 0 3 = true then ansI S wo n r else -100002
def a6_reasons (S : Nat → Int32) (wo : Int32) (n : Nat) (r : Int32) : Int32 := if inB r 0 3 = true then nI (cntN (fun k => reaB S wo n k r) n) else -100002
def a6_overridden (S : Nat → Int32) (wo : Int32) (n : Nat) (r : Int32) : Int32 := if inB r 0 3 = true then nI (cntN (fun k => appB S wo k r && !reaB S wo n k r) n) else -100002
def firR (S : Nat → Int32) (j k : Nat) : Bool := decide (shaN S k < shaN S j) || (decide (shaN S j = shaN S k) && decide (j < k))
def aheQ (S : Nat → Int32) (wo : Int32) (n k : Nat) (r : Int32) (j : Nat) : Bool := firR S j k && reaB S wo n j r
def reasQ (S : Nat → Int32) (wo : Int32) (n : Nat) (r x : Int32) (k : Nat) : Bool := reaB S wo n k r && decide (nI (cntN (aheQ S wo n k r) n) = x)
def a6_reason (S : Nat → Int32) (wo : Int32) (n : Nat) (r x : Int32) : Int32 := if inB r 0 3 = true ∧ ¬ x < 0 then (if firN (reasQ S wo n r x) n < n then nI (firN (reasQ S wo n r x) n) else -100005) else -100002
theorem a6_reason_bad {S : Nat → Int32} {wo : Int32} {n : Nat} {r x : Int32} (h : inB r 0 3 = false) : (-100002) = a6_reason S wo n r x := by
  rw [a6_reason, if_neg (fun z => by rw [h] at z; exact absurd z.1 (by decide))]
theorem a6_reason_bad2 {S : Nat → Int32} {wo : Int32} {n : Nat} {r x : Int32} (h : ¬ 0 ≤ x) : (-100002) = a6_reason S wo n r x := by
  rw [a6_reason, if_neg (fun z => z.2 (Int32.not_le.mp h))]
theorem a6_reason_none {S : Nat → Int32} {wo : Int32} {n : Nat} {r x : Int32} (h : inB r 0 3 = true) (hx : 0 ≤ x) (hall : ∀ j, j < n → reasQ S wo n r x j = false) : (-100005) = a6_reason S wo n r x := by
  rw [a6_reason, if_pos ⟨h, Int32.not_lt.mpr hx⟩, firN_none hall, if_neg (Nat.lt_irrefl _)]
theorem a6_reason_at {S : Nat → Int32} {wo : Int32} {n k : Nat} {r x : Int32} (h : inB r 0 3 = true) (hx : 0 ≤ x) (hk : k < n) (hr : reaB S wo n k r = true) (he : nI (cntN (aheQ S wo n k r) n) = x) (hall : ∀ j, j < k → reasQ S wo n r x j = false) : nI k = a6_reason S wo n r x := by
  have hq : reasQ S wo n r x k = true := by rw [reasQ, hr, he]; simp
  rw [a6_reason, if_pos ⟨h, Int32.not_lt.mpr hx⟩, firN_eq hk hq hall, if_pos hk]
theorem reasQ_no {S : Nat → Int32} {wo : Int32} {n k : Nat} {r x : Int32} (h : reaB S wo n k r = false) : reasQ S wo n r x k = false := by rw [reasQ, h, Bool.false_and]
theorem reasQ_ne {S : Nat → Int32} {wo : Int32} {n k : Nat} {r x : Int32} (h : ¬ nI (cntN (aheQ S wo n k r) n) = x) : reasQ S wo n r x k = false := by
  rw [reasQ]; simp [h]
def a6_holds (S : Nat → Int32) (n : Nat) (w : Int32) : Int32 := if inB w 0 5 = true then (if firN (defQ S w) n < n then bI (conB S (firN (defQ S w) n)) else -100005) else -100002
