/-! THE REFERENCE: records, tokens, dates -/
def shK (P : Nat → Int32) (i : Nat) : Nat → Int32 := fun j => if j < i then P (j + 1113) else P j
theorem shK_0 (P : Nat → Int32) : shK P 0 = P := by funext j; simp [shK]
theorem shK_s (P : Nat → Int32) (i : Nat) : upd (shK P i) i (shK P i (1113 + i)) = shK P (i + 1) := by
  funext j
  unfold upd shK
  by_cases h : j = i
  · subst h
    have h1 : ¬ (1113 + j < j) := by omega
    have h2 : j < j + 1 := by omega
    simp [h1, h2, Nat.add_comm]; intro hq; omega
  · by_cases h2 : j < i
    · have h3 : j < i + 1 := by omega
      simp [h, h2, h3]
    · have h3 : ¬ j < i + 1 := by omega
      simp [h, h2, h3]
def cpK (S P : Nat → Int32) (q i : Nat) : Nat → Int32 := fun j => if 1113 * q ≤ j ∧ j < 1113 * q + i then S (j - 1113 * q) else P j
theorem cpK_0 (S P : Nat → Int32) (q : Nat) : cpK S P q 0 = P := by
  funext j; unfold cpK; rw [if_neg (by omega)]
theorem cpK_s (S P : Nat → Int32) (q i : Nat) : upd (cpK S P q i) (1113 * q + i) (S i) = cpK S P q (i + 1) := by
  funext j
  unfold upd cpK
  by_cases h : j = 1113 * q + i
  · subst h
    rw [if_pos rfl, if_pos ⟨by omega, by omega⟩]
    congr 1; omega
  · rw [if_neg h]
    by_cases h2 : 1113 * q ≤ j ∧ j < 1113 * q + i
    · rw [if_pos h2, if_pos ⟨h2.1, by omega⟩]
    · rw [if_neg h2, if_neg (by omega)]
def addS (S : Nat → Int32) (c : Nat) (x y : Int32) : Nat → Int32 := upd (upd (upd S (8 + c) x) (32 + c) y) 7 (nI (c + 1))
def daysN (y m : Nat) : Nat := if m = 2 then (if leapB (nI y) = true then 29 else 28) else if m = 4 ∨ m = 6 ∨ m = 9 ∨ m = 11 then 30 else 31
theorem daysF_nI {y m : Nat} (hm : m < 2 ^ 31) : daysF (nI y) (nI m) = nI (daysN y m) := by
  unfold daysF daysN
  simp only [show (2 : Int32) = nI 2 from rfl, show (4 : Int32) = nI 4 from rfl, show (6 : Int32) = nI 6 from rfl, show (9 : Int32) = nI 9 from rfl, show (11 : Int32) = nI 11 from rfl, nI_eq hm (show 2 < 2 ^ 31 by decide), nI_eq hm (show 4 < 2 ^ 31 by decide), nI_eq hm (show 6 < 2 ^ 31 by decide), nI_eq hm (show 9 < 2 ^ 31 by decide), nI_eq hm (show 11 < 2 ^ 31 by decide)]
  split
  · split <;> rfl
  · split <;> rfl
theorem daysN_le (y m : Nat) : 28 ≤ daysN y m ∧ daysN y m ≤ 31 := by
  unfold daysN; split
  · split <;> omega
  · split <;> omega
def yrN : Nat → Nat
  | 0 => 0
  | i + 1 => yrN i + if leapB (nI (1900 + i)) = true then 366 else 365
theorem yrN_le : ∀ i, yrN i ≤ 366 * i
  | 0 => Nat.le_refl 0
  | i + 1 => by
    have := yrN_le i
    rw [yrN]; split <;> omega
def moN (y : Nat) : Nat → Nat
  | 0 => 0
  | i + 1 => moN y i + daysN y (1 + i)
theorem moN_le (y : Nat) : ∀ i, moN y i ≤ 31 * i
  | 0 => Nat.le_refl 0
  | i + 1 => by
    have := moN_le y i
    have := daysN_le y (1 + i)
    rw [moN]; omega
def dayN (y m d : Nat) : Nat := d - 1 + yrN (y - 1900) + moN y (m - 1)
