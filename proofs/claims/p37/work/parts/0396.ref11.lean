/-! THE REFERENCE: telling, and along the borders -/
theorem allN_s (q : Nat → Bool) (i : Nat) : allN q (i + 1) = (allN q i && q i) := rfl
theorem bIfv {b : Bool} (h : b = false) : some (Value.int (nI 0)) = some (Value.int (bI b)) := by rw [h]; rfl
def caA (S : Nat → Int32) (n : Nat) (ab : Int32) : Bool := decide (ab < nI 10) || decide (defI S n (ab - nI 10) = -100005)
def caW (S : Nat → Int32) (n : Nat) (us : Int32) (w : Nat) : Bool := decide ((us >>> (nI w &&& 31)) &&& nI 1 = 0) || !decide (defI S n (nI w) = -100005)
def caF (lo hi : Nat → Int32) (i : Nat) : Bool := !decide (hi i < lo i)
def canB (S : Nat → Int32) (n cn : Nat) (ir wt : Bool) (lo hi : Nat → Int32) (ab : Int32) : Bool := decide ((errF S cn 0 ir wt 0).1 = -100005) && (caA S n (rsAll S n cn lo hi ab).2.2.2.1 && allN (caW S n (rsAll S n cn lo hi ab).2.2.1) 6 && allN (caF (rsAll S n cn lo hi ab).1 (rsAll S n cn lo hi ab).2.1) 7)
theorem canB_e {S : Nat → Int32} {n cn : Nat} {ir wt : Bool} {lo hi : Nat → Int32} {ab : Int32} (h : canB S n cn ir wt lo hi ab = true) : (errF S cn 0 ir wt 0).1 = -100005 := by
  rw [canB, Bool.and_eq_true] at h; exact of_decide_eq_true h.1
def telC (S : Nat → Int32) (n i : Nat) : Nat → Int32 := fun j => if 57 + 66 * n ≤ j ∧ j < 57 + 66 * n + i then S (7 + (j - (57 + 66 * n))) else S j
theorem telC_0 (S : Nat → Int32) (n : Nat) : telC S n 0 = S := by funext j; unfold telC; rw [if_neg (by omega)]
theorem telC_s {S : Nat → Int32} {n i : Nat} (hi : i < 49) : upd (telC S n i) (57 + 66 * n + i) (telC S n i (7 + i)) = telC S n (i + 1) := by
  funext j
  unfold upd telC
  by_cases h : j = 57 + 66 * n + i
  · subst h
    rw [if_pos rfl, if_neg (by omega), if_pos ⟨by omega, by omega⟩]
    congr 1; omega
  · rw [if_neg h]
    by_cases h2 : 57 + 66 * n ≤ j ∧ j < 57 + 66 * n + i
    · rw [if_pos h2, if_pos ⟨h2.1, by omega⟩]
    · rw [if_neg h2, if_neg (by omega)]
def telU (S : Nat → Int32) (n : Nat) (ab gi us : Int32) : Nat → Int32 := upd (upd (upd (telC S n 49) (57 + 66 * n + 49) ab) (57 + 66 * n + 50) gi) (57 + 66 * n + 51) us
theorem telU_lo {S : Nat → Int32} {n j : Nat} {ab gi us : Int32} (h : j < 57) : telU S n ab gi us j = S j := by
  rw [telU, pk_un (by omega), pk_un (by omega), pk_un (by omega), telC, if_neg (by omega)]
def telF (T lo hi : Nat → Int32) (b i : Nat) : Nat → Int32 := fun j => if b + 52 ≤ j ∧ j < b + 52 + i then lo (j - (b + 52)) else if b + 59 ≤ j ∧ j < b + 59 + i then hi (j - (b + 59)) else T j
theorem telF_0 (T lo hi : Nat → Int32) (b : Nat) : telF T lo hi b 0 = T := by funext j; unfold telF; rw [if_neg (by omega), if_neg (by omega)]
theorem telF_lo {T lo hi : Nat → Int32} {b i j : Nat} (h : j < b) : telF T lo hi b i j = T j := by unfold telF; rw [if_neg (by omega), if_neg (by omega)]
theorem telF_s {T lo hi : Nat → Int32} {b i : Nat} (hi7 : i < 7) : upd (upd (telF T lo hi b i) (b + 52 + i) (lo i)) (b + 59 + i) (hi i) = telF T lo hi b (i + 1) := by
  funext j
  unfold upd telF
  by_cases h : j = b + 59 + i
  · subst h
    rw [if_pos rfl, if_neg (by omega), if_pos ⟨by omega, by omega⟩]
    congr 1; omega
  · rw [if_neg h]
    by_cases h3 : j = b + 52 + i
    · subst h3
      rw [if_pos rfl, if_pos ⟨by omega, by omega⟩]
      congr 1; omega
    · rw [if_neg h3]
      by_cases h2 : b + 52 ≤ j ∧ j < b + 52 + i
      · rw [if_pos h2, if_pos ⟨h2.1, by omega⟩]
      · rw [if_neg h2]
        by_cases h4 : b + 59 ≤ j ∧ j < b + 59 + i
        · rw [if_pos h4, if_neg (by omega), if_pos ⟨h4.1, by omega⟩]
        · rw [if_neg h4, if_neg (by omega), if_neg (by omega)]
def telO (S : Nat → Int32) (n cn : Nat) (ir wt : Bool) (lo hi : Nat → Int32) (ab : Int32) : Bool := canB S n cn ir wt lo hi ab && !decide (n = 16)
def telV (S : Nat → Int32) (n cn : Nat) (ir wt : Bool) (lo hi : Nat → Int32) (ab : Int32) : Int32 := if canB S n cn ir wt lo hi ab = true then (if n = 16 then -100004 else nI n) else -100003
def telZ (S : Nat → Int32) (n : Nat) (z : (Nat → Int32) × (Nat → Int32) × Int32 × Int32 × Int32) : Nat → Int32 := upd (upd (telF (telU S n z.2.2.2.1 z.2.2.2.2 z.2.2.1) z.1 z.2.1 (57 + 66 * n) 7) 56 (nI (n + 1))) 7 (nI 0)
theorem borS_gt {x b z : Int32} (h : b = -100005 ∨ x < b) : borS x b z = -100005 ∨ x < borS x b z := by
  unfold borS
  by_cases h1 : z ≤ x
  · rw [if_pos h1]; exact h
  · rw [if_neg h1]
    by_cases h2 : b = -100005
    · rw [if_pos h2]; exact Or.inr (Int32.not_le.mp h1)
    · rw [if_neg h2]
      by_cases h3 : b ≤ z
      · rw [if_pos h3]; exact h
      · rw [if_neg h3]; exact Or.inr (Int32.not_le.mp h1)
theorem borL_gt (S : Nat → Int32) (k : Nat) (x : Int32) : ∀ n, borL S k x n = -100005 ∨ x < borL S k x n
  | 0 => Or.inl rfl
  | n + 1 => by rw [borL_s]; exact borS_gt (borS_gt (borL_gt S k x n))
theorem greatestF_le (z : Int32) : greatestF z ≤ 73048 := by unfold greatestF; split <;> decide
theorem borI_gt (S : Nat → Int32) (n k : Nat) (x : Int32) : borI S n k x = -100005 ∨ (x < borI S n k x ∧ borI S n k x ≤ greatestF (nI k)) := by
  unfold borI
  by_cases h : borL S k x n = -100005 ∨ greatestF (nI k) < borL S k x n
  · rw [if_pos h]; exact Or.inl rfl
  · rw [if_neg h]
    exact Or.inr ⟨(borL_gt S k x n).resolve_left (fun z => h (Or.inl z)), Int32.not_lt.mp (fun z => h (Or.inr z))⟩
def ncM (v : Int32) : Nat := if v = -100005 then 0 else (73050 - v.toInt).toNat + 1
theorem borI_M {S : Nat → Int32} {n k : Nat} {x : Int32} (h : ¬ x = -100005) : ncM (borI S n k x) < ncM x := by
  unfold ncM
  rw [if_neg h]
  rcases borI_gt S n k x with e | e
  · rw [if_pos e]; omega
  · split
    · omega
    · have h1 := Int32.lt_iff_toInt_lt.mp e.1
      have h2 := Int32.le_iff_toInt_le.mp (Int32.le_trans e.2 (greatestF_le _))
      have h3 : (73048 : Int32).toInt = 73048 := by decide
      omega
def ncF (S : Nat → Int32) (wo : Int32) (n : Nat) (r : Int32) (k : Nat) (stop : Int32 → Bool) : Nat → Int32 → Int32
  | 0, v => v
  | m + 1, v => if v = -100005 then v else if stop (ansI (upd S k v) wo n r) = true then v else ncF S wo n r k stop m (borI S n k v)
theorem ncF_st {S : Nat → Int32} {wo : Int32} {n : Nat} {r : Int32} {k : Nat} {stop : Int32 → Bool} : ∀ {m m2 : Nat} {v : Int32}, ncM v < m → ncM v < m2 → ncF S wo n r k stop m v = ncF S wo n r k stop m2 v
  | 0, _, v, h, _ => absurd h (Nat.not_lt_zero _)
  | _ + 1, 0, v, _, h => absurd h (Nat.not_lt_zero _)
  | m + 1, m2 + 1, v, h, h2 => by
    rw [ncF, ncF]
    split
    · rfl
    · rename_i hv
      split
      · rfl
      · have := borI_M (S := S) (n := n) (k := k) hv
        exact ncF_st (by omega) (by omega)
theorem ncF_1 {S : Nat → Int32} {wo : Int32} {n : Nat} {r : Int32} {k : Nat} {stop : Int32 → Bool} {m : Nat} {v : Int32} (h : v = -100005) : ncF S wo n r k stop (m + 1) v = v := by rw [ncF, if_pos h]
theorem ncF_2 {S : Nat → Int32} {wo : Int32} {n : Nat} {r : Int32} {k : Nat} {stop : Int32 → Bool} {m : Nat} {v : Int32} (h : ¬ v = -100005) (h2 : stop (ansI (upd S k v) wo n r) = true) : ncF S wo n r k stop (m + 1) v = v := by rw [ncF, if_neg h, if_pos h2]
theorem ncF_3 {S : Nat → Int32} {wo : Int32} {n : Nat} {r : Int32} {k : Nat} {stop : Int32 → Bool} {m : Nat} {v z : Int32} (h : ¬ v = -100005) (h2 : stop (ansI (upd S k v) wo n r) = false) (hf : ∀ m, ncM v < m → ncF S wo n r k stop m v = z) (hm : ncM (borI S n k v) < m) : ncF S wo n r k stop m (borI S n k v) = z := by
  have hb := borI_M (S := S) (n := n) (k := k) h
  rw [ncF_st hm (show ncM (borI S n k v) < ncM v from hb), ← hf (ncM v + 1) (Nat.lt_succ_self _), ncF, if_neg h, if_neg (by rw [h2]; decide)]
def ncZ (S : Nat → Int32) (wo : Int32) (n : Nat) (r : Int32) (k : Nat) (stop : Int32 → Bool) (v : Int32) : Int32 := ncF S wo n r k stop (ncM v + 1) v
def a6_nextChange (S : Nat → Int32) (wo : Int32) (n : Nat) (r k : Int32) : Int32 := if inB r 0 3 = true ∧ inB k 0 6 = true then ncZ S wo n r k.toNatClampNeg (fun z => !decide (z = ansI S wo n r)) (borI S n k.toNatClampNeg (S k.toNatClampNeg)) else -100002
def a6_leastFor (S : Nat → Int32) (wo : Int32) (n : Nat) (r k x : Int32) : Int32 := if inB r 0 3 = true ∧ inB k 0 6 = true ∧ inB x (-9999) 9999 = true then ncZ S wo n r k.toNatClampNeg (fun z => decide (z = x)) (leastF k) else -100002
