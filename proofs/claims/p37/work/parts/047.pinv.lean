/-! THE CLASS'S READER AND THE REFERENCE'S: what the places mean -/
theorem filN_in {g f : Nat → Int32} {n j : Nat} (h : j < n) : filN g f n j = g j := by rw [filN, if_pos h]
def fixV (z : Int32) : Int32 := if z = -1 then -100005 else z
theorem inB_m1 (a : Nat) (b : Int32) (h : a < 2 ^ 31) : inB (-1) (nI a) b = false := by
  rw [inB, decide_eq_false, Bool.false_and]
  intro z
  have := Int32.le_iff_toInt_le.mp z
  rw [nI_toInt h, show (-1 : Int32).toInt = -1 from by decide] at this
  omega
theorem cdF_0 (x : Int32) : cdF (nI 0) x = x := if_pos rfl
theorem cdF_1 (x : Int32) : cdF (nI 1) x = -1 := if_neg (by decide)
theorem cdF_2 (x : Int32) : cdF (nI 2) x = -1 := if_neg (by decide)
def kdB (kd : Int32) : Prop := kd = nI 0 ∨ kd = nI 1 ∨ kd = nI 2
theorem m1_aff : affV (-1) = -1 := by decide
theorem m1_afs : afsV (-1) = -1 := by decide
theorem m1_afc : afcV (-1) = -1 := by decide
theorem m1_afo : afoV (-1) = -1 := by decide
theorem m1_afe (ir : Bool) : afeV ir (-1) = -1 := by cases ir <;> decide
theorem m1_afr : afrV (-1) = -1 := by decide
theorem m1_afu : afuV (-1) = -1 := by decide
theorem bw0 (ir : Bool) (x : Int32) : bwV ir 0 x = fixV (affV x) := by
  unfold bwV affV afrV
  rw [if_pos rfl]
  by_cases h0 : x = 0
  · subst h0; decide
  · by_cases h1 : inB x 16 21 = true
    · rw [if_pos h1, if_neg h0, if_pos h1]; decide
    · rw [if_neg h1, if_neg h0, if_neg h0, if_neg h1]
      by_cases h2 : inB x 22 25 = true
      · rw [if_pos h2, if_pos h2]; decide
      · rw [if_neg h2, if_neg h2]; decide
theorem bw2 (ir : Bool) (x : Int32) : bwV ir 2 x = fixV (afsV x) := by
  unfold bwV afsV
  rw [if_neg (by decide), if_neg (by decide), if_pos rfl]
  by_cases h1 : inB x 16 21 = true
  · rw [if_pos h1, if_pos h1]; decide
  · rw [if_neg h1, if_neg h1]
    by_cases h2 : inB x 10 15 = true
    · rw [if_pos h2, if_pos h2]; decide
    · rw [if_neg h2, if_neg h2]; decide
theorem bnd_afo (x : Int32) : (if bndB x = true then nI 5 else -100005) = fixV (afoV x) := by
  unfold bndB afoV
  by_cases h5 : x = nI 5
  · subst h5; decide
  · by_cases h6 : x = nI 6
    · subst h6; decide
    · rw [decide_eq_false h5, decide_eq_false h6, if_neg h5, if_neg h6]; decide
theorem bw3 (ir : Bool) (x : Int32) : bwV ir 3 x = fixV (afcV x) := by
  unfold bwV afcV
  rw [if_neg (by decide), if_neg (by decide), if_neg (by decide), if_pos rfl]
  by_cases h7 : x = nI 7
  · subst h7; decide
  · rw [if_neg h7]
    by_cases h4 : x = nI 4
    · rw [if_pos h4, if_pos h4]; decide
    · rw [if_neg h4, if_neg h4, if_neg h7]; exact bnd_afo x
theorem bw4 (ir : Bool) (x : Int32) : bwV ir 4 x = fixV (afoV x) := by
  unfold bwV
  rw [if_neg (by decide), if_neg (by decide), if_neg (by decide), if_neg (by decide), if_pos rfl]; exact bnd_afo x
theorem bw6 (ir : Bool) (x : Int32) : bwV ir 6 x = fixV (afeV ir x) := by
  unfold bwV afeV
  rw [if_neg (by decide), if_neg (by decide), if_neg (by decide), if_neg (by decide), if_neg (by decide), if_pos rfl]
  by_cases h1 : x = nI 1
  · rw [if_pos h1, if_pos h1]; decide
  · rw [if_neg h1, if_neg h1]
    by_cases h2 : x = nI 2
    · cases ir
      · rw [if_neg (fun z => Bool.false_ne_true z.2), if_pos h2, if_neg Bool.false_ne_true]; decide
      · rw [if_pos ⟨h2, rfl⟩, if_pos h2, if_pos rfl]; decide
    · rw [if_neg (fun z => h2 z.1), if_neg h2]; decide
theorem bw7 (ir : Bool) (x : Int32) : bwV ir 7 x = fixV (afrV x) := by
  unfold bwV afrV
  rw [if_neg (by decide), if_neg (by decide), if_neg (by decide), if_neg (by decide), if_neg (by decide), if_neg (by decide), if_pos rfl]
  by_cases h : inB x 22 25 = true
  · rw [if_pos h, if_pos h]; decide
  · rw [if_neg h, if_neg h]; decide
theorem fix_ite {p : Prop} [Decidable p] {a : Int32} (h : fixV a = a) : (if p then a else -100005) = fixV (if p then a else -1) := by
  split
  · exact h.symm
  · decide
theorem fix_it2 {p p2 : Prop} [Decidable p] [Decidable p2] {a b : Int32} (h : fixV a = a) (h2 : fixV b = b) : (if p then a else if p2 then b else -100005) = fixV (if p then a else if p2 then b else -1) := by
  split
  · exact h.symm
  · exact fix_ite h2
theorem kov_lt {t : Nat} (h : t < 4) : kovV (nI t) = nI 1 := by rw [kovV, if_neg (nI_ge h (by decide))]
theorem kov_ge {t : Nat} (h : 4 ≤ t) (h2 : t < 6) : kovV (nI t) = nI 2 := by rw [kovV, if_pos (nI_le h (by omega))]
theorem kov_p5 {jr jt ir : Bool} {t : Nat} {kd x : Int32} (hk : kdB kd) (ht : t < 6) (hj : jt = decide (4 ≤ t)) : behV jr jt 5 kd x = fixV (plV 5 kd x ir t) := by
  have e : plV 5 kd x ir t = if kd = kovV (nI t) then nI 6 else -1 := rfl
  rw [e]
  rcases hk with rfl | rfl | rfl
  · rw [behV, if_pos (by decide), show bwV jr 5 x = -100005 from rfl]
    rcases Nat.lt_or_ge t 4 with h | h
    · rw [kov_lt h]; decide
    · rw [kov_ge h ht]; decide
  · rw [behV, if_neg (by decide), if_pos (by decide)]
    rcases Nat.lt_or_ge t 4 with h | h
    · rw [kov_lt h, hj, decide_eq_false (by omega)]; rfl
    · rw [kov_ge h ht, hj, decide_eq_true h]; decide
  · rw [behV, if_neg (by decide), if_neg (by decide)]
    rcases Nat.lt_or_ge t 4 with h | h
    · rw [kov_lt h, hj, decide_eq_false (by omega)]; decide
    · rw [kov_ge h ht, hj, decide_eq_true h]; rfl
theorem beh_pl {jr jt ir : Bool} {p t : Nat} {kd x : Int32} (hk : kdB kd) (hp : p ≤ 14) (ht : t < 6) (h1 : 1 ≤ p → p ≤ 7 → jr = ir) (h3 : 3 ≤ p → p ≤ 5 → jt = decide (4 ≤ t)) : behV jr jt p kd x = fixV (plV p kd x ir t) := by
  by_cases h5 : p = 5
  · subst h5; exact kov_p5 hk ht (h3 (by omega) (by omega))
  have hp15 : p = 0 ∨ p = 1 ∨ p = 2 ∨ p = 3 ∨ p = 4 ∨ p = 6 ∨ p = 7 ∨ p = 8 ∨ p = 9 ∨ p = 10 ∨ p = 11 ∨ p = 12 ∨ p = 13 ∨ p = 14 := by omega
  rcases hk with rfl | rfl | rfl
  · rw [behV, if_pos (by decide)]
    rcases hp15 with rfl | rfl | rfl | rfl | rfl | rfl | rfl | rfl | rfl | rfl | rfl | rfl | rfl | rfl
    · exact bw0 jr x
    · exact fix_ite (by decide)
    · exact bw2 jr x
    · exact bw3 jr x
    · exact bw4 jr x
    · rw [h1 (by omega) (by omega)]; exact bw6 ir x
    · exact bw7 jr x
    · exact fix_ite (by decide)
    · rfl
    · exact fix_it2 (by decide) (by decide)
    · rfl
    · exact fix_ite (by decide)
    · rfl
    · rfl
  · rw [behV, if_neg (by decide), if_pos (by decide)]
    rcases hp15 with rfl | rfl | rfl | rfl | rfl | rfl | rfl | rfl | rfl | rfl | rfl | rfl | rfl | rfl
    case inr.inr.inr.inr.inr.inl => show (-100005 : Int32) = fixV (afeV ir (cdF (nI 1) x)); rw [cdF_1, m1_afe]; decide
    all_goals rfl
  · rw [behV, if_neg (by decide), if_neg (by decide)]
    rcases hp15 with rfl | rfl | rfl | rfl | rfl | rfl | rfl | rfl | rfl | rfl | rfl | rfl | rfl | rfl
    case inr.inr.inr.inr.inr.inl => show (-100005 : Int32) = fixV (afeV ir (cdF (nI 2) x)); rw [cdF_2, m1_afe]; decide
    all_goals rfl

