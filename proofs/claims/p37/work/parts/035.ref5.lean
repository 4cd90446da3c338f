def cmpS (S : Nat → Int32) (j i : Nat) : Int32 := if insB S j i = true then (if insB S i j = true then 0 else 1) else if insB S i j = true then 2 else if allN (meeQ S j i) 7 = true then 3 else 4
theorem cmp_no1 {S : Nat → Int32} {k x : Int32} {g : Nat → Nat → Int32} (h : inB k 0 (S 56 - 1) = false) : some (Value.int (-100001)) = some (Value.int (tolI S k (fun j => tolI S x (fun i => g j i)))) := by rw [← tol_no h]
theorem cmp_no2 {S : Nat → Int32} {n j : Nat} {x : Int32} {g : Nat → Nat → Int32} (hn : S 56 = nI n) (hn16 : n ≤ 16) (hj : j < n) (h : inB x 0 (S 56 - 1) = false) : some (Value.int (-100001)) = some (Value.int (tolI S (nI j) (fun j => tolI S x (fun i => g j i)))) :=
  congrArg (fun z => some (Value.int z)) (tol_at hn hn16 hj (tol_no h))
theorem cmp_at {S : Nat → Int32} {n j i : Nat} {v : Int32} {g : Nat → Nat → Int32} (hn : S 56 = nI n) (hn16 : n ≤ 16) (hj : j < n) (hi : i < n) (h : v = g j i) : some (Value.int v) = some (Value.int (tolI S (nI j) (fun j => tolI S (nI i) (fun i => g j i)))) :=
  congrArg (fun z => some (Value.int z)) (tol_at hn hn16 hj (tol_at hn hn16 hi h))
/-- along a row: the answer, or how many were met -/
def ctdI (D : Nat → Nat → Bool) (x : Int32) (a : Nat) : Nat → Nat → Nat → Option Int32 × Nat
  | 0, _, c => (none, c)
  | m + 1, b, c => if D a b = true then (if nI c = x then (some (nI (100 * a + b)), c) else ctdI D x a m (b + 1) (c + 1)) else ctdI D x a m (b + 1) c
def ctdO (D : Nat → Nat → Bool) (x : Int32) (n : Nat) : Nat → Nat → Nat → Int32
  | 0, _, _ => -100005
  | m + 1, a, c => match ctdI D x a (n - (a + 1)) (a + 1) c with
    | (some r, _) => r
    | (none, c2) => ctdO D x n m (a + 1) c2
def ctdX (S : Nat → Int32) (n : Nat) (x : Int32) : Int32 := if 0 ≤ x then ctdO (ctdB S n) x n n 0 0 else -100002
theorem ctdX_bad {S : Nat → Int32} {n : Nat} {x : Int32} (h : ¬ 0 ≤ x) : some (Value.int (-100002)) = some (Value.int (ctdX S n x)) := by rw [ctdX, if_neg h]
theorem ctdX_none {S : Nat → Int32} {n : Nat} {x : Int32} (h : 0 ≤ x) (e : ctdO (ctdB S n) x n n 0 0 = -100005) : some (Value.int (-100005)) = some (Value.int (ctdX S n x)) := by rw [ctdX, if_pos h, e]
theorem ctdX_hit {S : Nat → Int32} {n a c c2 : Nat} {x r : Int32} (h : 0 ≤ x) (ha : a < n) (hf : ctdO (ctdB S n) x n (n - a) a c = ctdO (ctdB S n) x n n 0 0) (e : ctdI (ctdB S n) x a (n - (a + 1)) (a + 1) c = (some r, c2)) : some (Value.int r) = some (Value.int (ctdX S n x)) := by
  rw [ctdX, if_pos h, ← hf, show n - a = (n - (a + 1)) + 1 by omega, ctdO, e]
theorem ctdO_none {D : Nat → Nat → Bool} {x : Int32} {n a c c2 : Nat} (ha : a < n) (e : ctdI D x a (n - (a + 1)) (a + 1) c = (none, c2)) : ctdO D x n (n - a) a c = ctdO D x n (n - (a + 1)) (a + 1) c2 := by
  rw [show n - a = (n - (a + 1)) + 1 by omega, ctdO, e]
theorem ctdI_end {D : Nat → Nat → Bool} {x : Int32} {n a b c : Nat} (h : n ≤ b) : ctdI D x a (n - b) b c = (none, c) := by
  rw [show n - b = 0 by omega, ctdI]
theorem ctdI_no {D : Nat → Nat → Bool} {x : Int32} {n a b c : Nat} (h : b < n) (hd : D a b = false) : ctdI D x a (n - b) b c = ctdI D x a (n - (b + 1)) (b + 1) c := by
  rw [show n - b = (n - (b + 1)) + 1 by omega, ctdI, if_neg (by rw [hd]; decide)]
theorem ctdI_go {D : Nat → Nat → Bool} {x : Int32} {n a b c : Nat} (h : b < n) (hd : D a b = true) (hc : ¬ nI c = x) : ctdI D x a (n - b) b c = ctdI D x a (n - (b + 1)) (b + 1) (c + 1) := by
  rw [show n - b = (n - (b + 1)) + 1 by omega, ctdI, if_pos hd, if_neg hc]
theorem ctdI_hit {D : Nat → Nat → Bool} {x : Int32} {n a b c : Nat} (h : b < n) (hd : D a b = true) (hc : nI c = x) : ctdI D x a (n - b) b c = (some (nI (100 * a + b)), c) := by
  rw [show n - b = (n - (b + 1)) + 1 by omega, ctdI, if_pos hd, if_pos hc]
theorem ctd_300 {n : Nat} (h : n ≤ 16) : 0 + (n - 0) * n ≤ 300 := by
  have := Nat.mul_le_mul h h
  simp; omega
theorem ctd_in {n p cn : Nat} (h : p < n) (hc : cn + (n - p) * n ≤ 300) : cn + (n - (p + 1)) + (n - (p + 1)) * n ≤ 300 := by
  have : (n - p) * n = (n - (p + 1)) * n + n := by
    rw [show n - p = (n - (p + 1)) + 1 by omega, Nat.add_mul, Nat.one_mul]
  omega
theorem upd_back (S : Nat → Int32) (k : Nat) (x : Int32) : upd (upd S k x) k (S k) = S := by
  funext j
  unfold upd
  by_cases h : j = k
  · subst h; simp
  · simp [h]
def a6_answerIf (S : Nat → Int32) (wo : Int32) (n : Nat) (r k x : Int32) : Int32 := if inB r 0 3 = true ∧ valB k x = true then ansI (upd S k.toNatClampNeg x) wo n r else -100002
theorem val_nat {k x : Int32} (h : valB k x = true) : ∃ i, i ≤ 6 ∧ k = nI i := by
  rw [valB, Bool.and_eq_true] at h
  exact inB_nat (by decide) h.1
/-- a step of the least border above x -/
def borS (x b z : Int32) : Int32 := if z ≤ x then b else if b = -100005 then z else if b ≤ z then b else z
theorem borS_1 {x b z : Int32} (h : z ≤ x) : borS x b z = b := if_pos h
theorem borS_2 {x b z : Int32} (h : ¬ z ≤ x) (h2 : b = -100005) : borS x b z = z := by rw [borS, if_neg h, if_pos h2]
theorem borS_3 {x b z : Int32} (h : ¬ z ≤ x) (h2 : ¬ b = -100005) (h3 : b ≤ z) : borS x b z = b := by rw [borS, if_neg h, if_neg h2, if_pos h3]
theorem borS_4 {x b z : Int32} (h : ¬ z ≤ x) (h2 : ¬ b = -100005) (h3 : ¬ b ≤ z) : borS x b z = z := by rw [borS, if_neg h, if_neg h2, if_neg h3]
def borL (S : Nat → Int32) (k : Nat) (x : Int32) : Nat → Int32
  | 0 => -100005
  | i + 1 => borS x (borS x (borL S k x i) (S (57 + 66 * i + (52 + k)))) (S (57 + 66 * i + (59 + k)) + nI 1)
theorem borL_s (S : Nat → Int32) (k : Nat) (x : Int32) (i : Nat) : borL S k x (i + 1) = borS x (borS x (borL S k x i) (S (57 + 66 * i + (52 + k)))) (S (57 + 66 * i + (59 + k)) + nI 1) := rfl
def borI (S : Nat → Int32) (n k : Nat) (x : Int32) : Int32 := if borL S k x n = -100005 ∨ greatestF (nI k) < borL S k x n then -100005 else borL S k x n
def matI (S : Nat → Int32) (n j : Nat) : Int32 := if ¬ S (57 + 66 * j + 49) < nI 10 then 0 else if ansI S (-100005) n (S (57 + 66 * j + 49)) = ansI S (nI j) n (S (57 + 66 * j + 49)) then 0 else 1
