/-! THE REFERENCE: more of the state's changes -/
def addI (c : Nat) : Int32 := if c = 24 then -100004 else nI (c + 1)
def addT (S : Nat → Int32) (c : Nat) (x y : Int32) : Nat → Int32 := if c = 24 then S else addS S c x y
def recP (S P : Nat → Int32) (q : Nat) : Nat → Int32 := if q = 8 then cpK S (shK P 7791) 7 1113 else cpK S P q 1113
def recN (q : Nat) : Nat := if q = 8 then 8 else q + 1
def dayI (x1 x2 x3 : Int32) : Int32 := nI (dayN x1.toNatClampNeg x2.toNatClampNeg x3.toNatClampNeg)
theorem dayI_nI {y m d : Nat} (hy : y ≤ 2099) (hm : m ≤ 12) (hd : d ≤ 31) : dayI (nI y) (nI m) (nI d) = nI (dayN y m d) := by
  rw [dayI, nI_clamp (by omega), nI_clamp (by omega), nI_clamp (by omega)]
theorem inB_nat2 {k : Int32} {L K : Nat} (hL : L < 2 ^ 31) (hK : K < 2 ^ 31) (h : inB k (nI L) (nI K) = true) : ∃ i, L ≤ i ∧ i ≤ K ∧ k = nI i := by
  rw [inB, Bool.and_eq_true, decide_eq_true_eq, decide_eq_true_eq] at h
  have h1 : ¬ k < 0 := by
    have := Int32.le_iff_toInt_le.mp h.1
    rw [nI_toInt hL] at this
    rw [Int32.lt_iff_toInt_lt, Int32.toInt_zero]; omega
  obtain ⟨i, hi, e⟩ := nI_of2 (nI_toInt hK) h1 h.2
  refine ⟨i, ?_, hi, e⟩
  have h2 := h.1
  rw [e] at h2
  exact (nI_leI hL (by omega)).mp h2
theorem date_nat {x1 x2 x3 : Int32} (h : dateB x1 x2 x3 = true) : ∃ y m d : Nat, 1900 ≤ y ∧ y ≤ 2099 ∧ 1 ≤ m ∧ m ≤ 12 ∧ 1 ≤ d ∧ d ≤ 31 ∧ x1 = nI y ∧ x2 = nI m ∧ x3 = nI d := by
  rw [dateB, Bool.and_eq_true, Bool.and_eq_true] at h
  obtain ⟨y, y1, y2, rfl⟩ := inB_nat2 (L := 1900) (K := 2099) (by decide) (by decide) h.1.1
  obtain ⟨m, m1, m2, rfl⟩ := inB_nat2 (L := 1) (K := 12) (by decide) (by decide) h.1.2
  have h3 := h.2
  rw [daysF_nI (by omega)] at h3
  have hb := daysN_le y m
  obtain ⟨d, d1, d2, rfl⟩ := inB_nat2 (L := 1) (K := daysN y m) (by decide) (by omega) h3
  exact ⟨y, m, d, y1, y2, m1, m2, d1, by omega, rfl, rfl, rfl⟩
/-- month by month -/
def codG : Nat → Nat → Nat → Nat → Nat × Nat × Nat
  | 0, lf, y, m => (lf, y, m)
  | k + 1, lf, y, m => if daysN y m ≤ lf then codG k (lf - daysN y m) (if m = 12 then y + 1 else y) (if m = 12 then 1 else m + 1) else (lf, y, m)
def codeN (x : Nat) : Nat := 10000 * (codG (x + 1) x 1900 1).2.1 + 100 * (codG (x + 1) x 1900 1).2.2 + (codG (x + 1) x 1900 1).1 + 1
theorem codG_st : ∀ {k k2 lf y m : Nat}, lf < k → lf < k2 → codG k lf y m = codG k2 lf y m
  | 0, _, lf, _, _, h, _ => absurd h (Nat.not_lt_zero lf)
  | _ + 1, 0, lf, _, _, _, h => absurd h (Nat.not_lt_zero lf)
  | k + 1, k2 + 1, lf, y, m, h, h2 => by
    have hd := daysN_le y m
    rw [codG, codG]
    split
    · exact codG_st (by omega) (by omega)
    · rfl
theorem codG_go {k lf y m : Nat} {yy mm : Nat} (h : daysN y m ≤ lf) (hy : yy = if m = 12 then y + 1 else y) (hm : mm = if m = 12 then 1 else m + 1) : codG (k + 1) lf y m = codG k (lf - daysN y m) yy mm := by
  rw [codG, if_pos h, hy, hm]
theorem codeN_at {x lf y m : Nat} (h : codG (lf + 1) lf y m = codG (x + 1) x 1900 1) (h2 : lf < daysN y m) : 10000 * y + 100 * m + lf + 1 = codeN x := by
  rw [codeN, ← h, codG, if_neg (by omega)]
def retK (S : Nat → Int32) (j i : Nat) : Nat → Int32 := fun m => if 57 + 66 * j ≤ m ∧ m < 57 + 66 * j + i then S (m + 66) else S m
theorem retK_0 (S : Nat → Int32) (j : Nat) : retK S j 0 = S := by funext m; unfold retK; rw [if_neg (by omega)]
theorem retK_s (S : Nat → Int32) (j i : Nat) : upd (retK S j i) (57 + 66 * j + i) (retK S j i (57 + 66 * j + 66 + i)) = retK S j (i + 1) := by
  funext m
  unfold upd retK
  by_cases h : m = 57 + 66 * j + i
  · subst h
    rw [if_pos rfl, if_neg (by omega), if_pos ⟨by omega, by omega⟩]
    congr 1; omega
  · rw [if_neg h]
    by_cases h2 : 57 + 66 * j ≤ m ∧ m < 57 + 66 * j + i
    · rw [if_pos h2, if_pos ⟨h2.1, by omega⟩]
    · rw [if_neg h2, if_neg (by omega)]
theorem retK_lo {S : Nat → Int32} {j i m : Nat} (h : m < 57) : retK S j i m = S m := by unfold retK; rw [if_neg (by omega)]
def retS (S : Nat → Int32) (n j : Nat) : Nat → Int32 := upd (retK S j (1113 - (57 + 66 * j + 66))) 56 (nI (n - 1))
theorem retS_of {S : Nat → Int32} {n j i : Nat} (h : 57 + 66 * j + 66 + i = 1113) : upd (retK S j i) 56 (nI (n - 1)) = retS S n j := by
  rw [retS, show 1113 - (57 + 66 * j + 66) = i by omega]
def retP (S : Nat → Int32) (n j : Nat) : Bool := !decide (S (57 + 66 * j + 49) < nI 10) && exN (useQ S (S (57 + 66 * j + 49) - nI 10)) n
theorem retP_1 {S : Nat → Int32} {n j : Nat} (h : S (57 + 66 * j + 49) < nI 10) : retP S n j = false := by rw [retP]; simp [h]
theorem retP_2 {S : Nat → Int32} {n j : Nat} (h : exN (useQ S (S (57 + 66 * j + 49) - nI 10)) n = false) : retP S n j = false := by rw [retP, h]; simp
def retV (S : Nat → Int32) (n : Nat) (k : Int32) : Int32 := tolI S k (fun j => if retP S n j = true then -100003 else nI (n - 1))
theorem retV_no {S : Nat → Int32} {n : Nat} {k : Int32} (h : inB k 0 (S 56 - 1) = false) : (-100001) = retV S n k := tol_no h
theorem retV_neg1 {S : Nat → Int32} {n : Nat} {k : Int32} (h : inB k 0 (S 56 - 1) = false) : retV S n k < 0 := by rw [← retV_no h]; decide
theorem retV_us {S : Nat → Int32} {n j : Nat} (hn : S 56 = nI n) (hn16 : n ≤ 16) (hj : j < n) (h1 : ¬ S (57 + 66 * j + 49) < nI 10) (h2 : exN (useQ S (S (57 + 66 * j + 49) - nI 10)) n = true) : (-100003) = retV S n (nI j) :=
  tol_at hn hn16 hj (by rw [if_pos]; rw [retP, h2]; simp [h1])
theorem retV_neg2 {S : Nat → Int32} {n j : Nat} (hn : S 56 = nI n) (hn16 : n ≤ 16) (hj : j < n) (h1 : ¬ S (57 + 66 * j + 49) < nI 10) (h2 : exN (useQ S (S (57 + 66 * j + 49) - nI 10)) n = true) : retV S n (nI j) < 0 := by rw [← retV_us hn hn16 hj h1 h2]; decide
