/-! REGIONS COMPARED, CONTRADICTIONS: pure -/
def NES (S : Nat → Int32) (n : Nat) : Prop := ∀ i, i < n → ∀ j, j < 7 → S (57 + 66 * i + (52 + j)) ≤ S (57 + 66 * i + (59 + j))
/-- the law's meeting of two regions at a fact -/
def lmQ (S : Nat → Int32) (x y j : Nat) : Bool := decide (S (57 + 66 * x + (52 + j)) ≤ S (57 + 66 * y + (59 + j))) && decide (S (57 + 66 * y + (52 + j)) ≤ S (57 + 66 * x + (59 + j)))
theorem mee_lm {S : Nat → Int32} {n x y : Nat} (h : NES S n) (hx : x < n) (hy : y < n) : allN (meeQ S x y) 7 = allN (lmQ S x y) 7 := by
  refine allN_cong (fun j hj => ?_)
  have e1 := h x hx j hj
  have e2 := h y hy j hj
  rw [meeQ, lmQ, metHi, metLo]
  generalize S (57 + 66 * x + (52 + j)) = a at *
  generalize S (57 + 66 * x + (59 + j)) = b at *
  generalize S (57 + 66 * y + (52 + j)) = c at *
  generalize S (57 + 66 * y + (59 + j)) = d at *
  rw [Int32.le_iff_toInt_le] at e1 e2
  by_cases h1 : b < d
  · by_cases h2 : c < a
    · rw [if_pos h1, if_pos h2]
      rw [Int32.lt_iff_toInt_lt] at h1 h2
      have q1 : ¬ b < a := by rw [Int32.lt_iff_toInt_lt]; omega
      have q2 : a ≤ d := by rw [Int32.le_iff_toInt_le]; omega
      have q3 : c ≤ b := by rw [Int32.le_iff_toInt_le]; omega
      rw [decide_eq_false q1, decide_eq_true q2, decide_eq_true q3]; rfl
    · rw [if_pos h1, if_neg h2]
      rw [Int32.lt_iff_toInt_lt] at h1 h2
      have q2 : a ≤ d := by rw [Int32.le_iff_toInt_le]; omega
      rw [decide_eq_true q2, Bool.true_and]
      by_cases q : b < c
      · have q3 : ¬ c ≤ b := Int32.not_le.mpr q
        rw [decide_eq_true q, decide_eq_false q3]; rfl
      · rw [decide_eq_false q, decide_eq_true (Int32.not_lt.mp q)]; rfl
  · by_cases h2 : c < a
    · rw [if_neg h1, if_pos h2]
      rw [Int32.lt_iff_toInt_lt] at h1 h2
      have q2 : c ≤ b := by rw [Int32.le_iff_toInt_le]; omega
      rw [decide_eq_true q2, Bool.and_true]
      by_cases q : d < a
      · have q3 : ¬ a ≤ d := Int32.not_le.mpr q
        rw [decide_eq_true q, decide_eq_false q3]; rfl
      · rw [decide_eq_false q, decide_eq_true (Int32.not_lt.mp q)]; rfl
    · rw [if_neg h1, if_neg h2]
      rw [Int32.lt_iff_toInt_lt] at h1 h2
      have q1 : ¬ d < c := by rw [Int32.lt_iff_toInt_lt]; omega
      have q2 : a ≤ d := by rw [Int32.le_iff_toInt_le]; omega
      have q3 : c ≤ b := by rw [Int32.le_iff_toInt_le]; omega
      rw [decide_eq_false q1, decide_eq_true q2, decide_eq_true q3]; rfl
theorem lm_sym (S : Nat → Int32) (x y : Nat) : allN (lmQ S x y) 7 = allN (lmQ S y x) 7 := allN_cong (fun j _ => by rw [lmQ, lmQ, Bool.and_comm])
theorem ins_mee {S : Nat → Int32} {n x y : Nat} (h : NES S n) (hx : x < n) (hy : y < n) (hi : insB S x y = true) : allN (lmQ S x y) 7 = true := by
  rw [allN_iff]
  intro j hj
  have e1 := h x hx j hj
  have q := allN_iff.mp hi j hj
  rw [insQ, Bool.and_eq_true, Bool.not_eq_true', Bool.not_eq_true', decide_eq_false_iff_not, decide_eq_false_iff_not] at q
  have q1 := Int32.not_lt.mp q.1
  have q2 := Int32.not_lt.mp q.2
  rw [lmQ, decide_eq_true (Int32.le_trans e1 q2), decide_eq_true (Int32.le_trans q1 e1)]; rfl
/-- the law's three sayings of two compared regions -/
theorem cmp_all {S : Nat → Int32} {n x y : Nat} (h : NES S n) (hx : x < n) (hy : y < n) :
    (decide (cmpS S x y = 0 ∨ cmpS S x y = 1) = insB S x y) ∧ (decide (cmpS S x y = 4) = !allN (lmQ S x y) 7) ∧ cmpS S y x = (if cmpS S x y = 1 then 2 else if cmpS S x y = 2 then 1 else cmpS S x y) := by
  have m1 := mee_lm h hx hy
  have m2 := mee_lm h hy hx
  have m3 := lm_sym S x y
  rw [cmpS, cmpS, m1, m2, ← m3]
  cases h1 : insB S x y with
  | true =>
    have l := ins_mee h hx hy h1
    cases h2 : insB S y x with
    | true => rw [l]; refine ⟨by decide, by decide, by decide⟩
    | false => rw [l]; refine ⟨by decide, by decide, by decide⟩
  | false =>
    cases h2 : insB S y x with
    | true =>
      have l := m3.trans (ins_mee h hy hx h2)
      rw [l]; refine ⟨by decide, by decide, by decide⟩
    | false =>
      cases l : allN (lmQ S x y) 7 with
      | true => refine ⟨by decide, by decide, by decide⟩
      | false => refine ⟨by decide, by decide, by decide⟩
/-! contradictions in a row -/
def cI (D : Nat → Bool) : Nat → Nat → List Nat
  | 0, _ => []
  | m + 1, b => if D b = true then b :: cI D m (b + 1) else cI D m (b + 1)
def cO (D : Nat → Nat → Bool) (n : Nat) : Nat → Nat → List Nat
  | 0, _ => []
  | m + 1, a => (cI (D a) (n - (a + 1)) (a + 1)).map (fun b => 100 * a + b) ++ cO D n m (a + 1)
theorem cI_len (D : Nat → Bool) : ∀ m b, (cI D m b).length ≤ m
  | 0, _ => Nat.le_refl 0
  | m + 1, b => by
    have := cI_len D m (b + 1)
    rw [cI]; split
    · rw [List.length_cons]; omega
    · omega
theorem cI_mem {D : Nat → Bool} : ∀ {m b v : Nat}, v ∈ cI D m b → b ≤ v ∧ v < b + m ∧ D v = true
  | 0, _, _, h => by cases h
  | m + 1, b, v, h => by
    rw [cI] at h
    by_cases e : D b = true
    · rw [if_pos e] at h
      rcases List.mem_cons.mp h with z | z
      · rw [z]; exact ⟨Nat.le_refl _, by omega, e⟩
      · have := cI_mem z; exact ⟨by omega, by omega, this.2.2⟩
    · rw [if_neg e] at h
      have := cI_mem h; exact ⟨by omega, by omega, this.2.2⟩
theorem cI_ord (D : Nat → Bool) : ∀ m b, (cI D m b).Pairwise (· < ·)
  | 0, _ => List.Pairwise.nil
  | m + 1, b => by
    rw [cI]; split
    · exact List.Pairwise.cons (fun v hv => by have := cI_mem hv; omega) (cI_ord D m (b + 1))
    · exact cI_ord D m (b + 1)
theorem cO_mem {D : Nat → Nat → Bool} {n : Nat} : ∀ {m a v : Nat}, v ∈ cO D n m a → ∃ x y, a ≤ x ∧ x < a + m ∧ x < y ∧ y < n ∧ D x y = true ∧ v = 100 * x + y
  | 0, _, _, h => by cases h
  | m + 1, a, v, h => by
    rw [cO] at h
    rcases List.mem_append.mp h with z | z
    · obtain ⟨y, hy, e⟩ := List.mem_map.mp z
      have := cI_mem hy
      exact ⟨a, y, Nat.le_refl _, by omega, by omega, by omega, this.2.2, e.symm⟩
    · obtain ⟨x, y, h1, h2, h3, h4, h5, h6⟩ := cO_mem z
      exact ⟨x, y, by omega, by omega, h3, h4, h5, h6⟩
theorem cO_ord {D : Nat → Nat → Bool} {n : Nat} (hn : n ≤ 100) : ∀ m a, (cO D n m a).Pairwise (· < ·)
  | 0, _ => List.Pairwise.nil
  | m + 1, a => by
    rw [cO, List.pairwise_append]
    refine ⟨?_, cO_ord hn m (a + 1), fun u hu v hv => ?_⟩
    · exact (cI_ord (D a) (n - (a + 1)) (a + 1)).map _ (fun x y (h : x < y) => by omega)
    · obtain ⟨y, hy, e⟩ := List.mem_map.mp hu
      have h1 := cI_mem hy
      obtain ⟨x2, y2, h2, h3, h4, h5, h6, h7⟩ := cO_mem hv
      omega
theorem cO_len {D : Nat → Nat → Bool} {n : Nat} (hn : n ≤ 16) : ∀ m a, (cO D n m a).length ≤ 16 * m
  | 0, _ => Nat.le_refl 0
  | m + 1, a => by
    have h1 := cI_len (D a) (n - (a + 1)) (a + 1)
    have h2 := cO_len hn (D := D) m (a + 1)
    rw [cO, List.length_append, List.length_map]; omega
theorem ctdI_at {D : Nat → Nat → Bool} {i a : Nat} (hi : i < 2 ^ 30) : ∀ m b c, c ≤ i → m < 2 ^ 29 → (ctdI D (nI i) a m b c).1 = ((cI (D a) m b)[i - c]?).map (fun v => nI (100 * a + v)) ∧ ((ctdI D (nI i) a m b c).1 = none → (ctdI D (nI i) a m b c).2 = c + (cI (D a) m b).length ∧ c + (cI (D a) m b).length ≤ i)
  | 0, b, c, hc, hm => ⟨rfl, fun _ => ⟨rfl, hc⟩⟩
  | m + 1, b, c, hc, hm => by
    rw [ctdI, cI]
    by_cases e : D a b = true
    · rw [if_pos e, if_pos e]
      by_cases e2 : c = i
      · subst e2
        rw [if_pos rfl, Nat.sub_self]
        exact ⟨rfl, fun z => by cases z⟩
      · rw [if_neg (fun z => e2 ((nI_eq (by omega) (by omega)).mp z))]
        obtain ⟨h1, h2⟩ := ctdI_at hi m (b + 1) (c + 1) (by omega) (by omega)
        refine ⟨?_, fun z => ?_⟩
        · rw [h1, show i - c = (i - (c + 1)) + 1 by omega, List.getElem?_cons_succ]
        · obtain ⟨q1, q2⟩ := h2 z
          rw [List.length_cons]; exact ⟨by omega, by omega⟩
    · rw [if_neg e, if_neg e]
      exact ctdI_at hi m (b + 1) c hc (by omega)
theorem ctdO_at {D : Nat → Nat → Bool} {n i : Nat} (hn : n ≤ 16) (hi : i < 2 ^ 30) : ∀ m a c, c ≤ i → ctdO D (nI i) n m a c = (((cO D n m a)[i - c]?).map nI).getD (-100005)
  | 0, a, c, hc => rfl
  | m + 1, a, c, hc => by
    obtain ⟨h1, h2⟩ := ctdI_at (D := D) (a := a) hi (n - (a + 1)) (a + 1) c hc (by omega)
    rw [ctdO, cO]
    cases hq : ctdI D (nI i) a (n - (a + 1)) (a + 1) c with
    | mk o c2 =>
      rw [hq] at h1 h2
      cases o with
      | some v =>
        have h1 : some v = ((cI (D a) (n - (a + 1)) (a + 1))[i - c]?).map (fun v => nI (100 * a + v)) := h1
        cases hg : (cI (D a) (n - (a + 1)) (a + 1))[i - c]? with
        | none => rw [hg] at h1; cases h1
        | some w =>
          rw [hg] at h1
          have hv : v = nI (100 * a + w) := Option.some.inj h1
          have hl : i - c < (cI (D a) (n - (a + 1)) (a + 1)).length := (List.getElem?_eq_some_iff.mp hg).1
          rw [List.getElem?_append_left (by rw [List.length_map]; exact hl), List.getElem?_map, hg]
          exact hv
      | none =>
        obtain ⟨q1, q2⟩ := h2 rfl
        have q1 : c2 = c + (cI (D a) (n - (a + 1)) (a + 1)).length := q1
        show ctdO D (nI i) n m (a + 1) c2 = _
        rw [ctdO_at hn hi m (a + 1) c2 (by omega), List.getElem?_append_right (by rw [List.length_map]; omega), List.length_map, q1]
        congr 3
        omega
/-- the contradictions, in a row -/
def ctdL (S : Nat → Int32) (n : Nat) : List Nat := cO (ctdB S n) n n 0
theorem ctdX_at {S : Nat → Int32} {n i : Nat} (hn : n ≤ 16) (hi : i < 2 ^ 30) : ctdX S n (nI i) = (((ctdL S n)[i]?).map nI).getD (-100005) := by
  rw [ctdX, if_pos (Int32.not_lt.mp (nI_pos (by omega))), ctdO_at hn hi n 0 0 (Nat.zero_le _)]; rfl
theorem ctdL_len {S : Nat → Int32} {n : Nat} (hn : n ≤ 16) : (ctdL S n).length ≤ 256 := by
  have := cO_len hn (D := ctdB S n) n 0
  rw [ctdL]; omega
theorem ctdL_lt {S : Nat → Int32} {n i : Nat} (hn : n ≤ 16) {u v : Nat} (h1 : (ctdL S n)[i]? = some u) (h2 : (ctdL S n)[i + 1]? = some v) : u < v := by
  obtain ⟨l1, e1⟩ := List.getElem?_eq_some_iff.mp h1
  obtain ⟨l2, e2⟩ := List.getElem?_eq_some_iff.mp h2
  have := (List.pairwise_iff_getElem.mp (cO_ord (D := ctdB S n) (n := n) (by omega) n 0)) i (i + 1) l1 l2 (by omega)
  rw [← e1, ← e2]; exact this
theorem ctdB_cmp {S : Nat → Int32} {n x y : Nat} (hx : x < n) (h : ctdB S n x y = true) : S (57 + 66 * y + 49) = S (57 + 66 * x + 49) ∧ S (57 + 66 * x + 49) < nI 10 ∧ ¬ S (57 + 66 * x + 50) = S (57 + 66 * y + 50) ∧ cmpS S x y = 3 := by
  rw [ctdB, ctdP, Bool.and_eq_true, Bool.and_eq_true, Bool.and_eq_true, Bool.and_eq_true, Bool.and_eq_true, Bool.and_eq_true, Bool.not_eq_true', Bool.not_eq_true', Bool.not_eq_true', Bool.not_eq_true', Bool.not_eq_true', decide_eq_false_iff_not, decide_eq_true_eq, decide_eq_false_iff_not] at h
  obtain ⟨⟨h1, h2, h3, h4, h5, h6⟩, h7⟩ := h
  refine ⟨h2, Int32.not_le.mp h1, h3, ?_⟩
  rw [cmpS]
  have both : ¬ (insB S x y = true ∧ insB S y x = true) := by
    rintro ⟨a, b⟩
    have hq : ctdQ S x y x = true := by
      rw [ctdQ, decide_eq_true rfl, Bool.true_and, allN_iff]
      intro j hj
      have qa := allN_iff.mp a j hj
      have qb := allN_iff.mp b j hj
      rw [insQ, Bool.and_eq_true, Bool.not_eq_true', Bool.not_eq_true', decide_eq_false_iff_not, decide_eq_false_iff_not] at qa qb
      have el := Int32.le_antisymm (Int32.not_lt.mp qb.1) (Int32.not_lt.mp qa.1)
      have eh := Int32.le_antisymm (Int32.not_lt.mp qa.2) (Int32.not_lt.mp qb.2)
      rw [hrgQ, metLo, metHi, ← el, ← eh, if_neg Int32.lt_irrefl, if_neg Int32.lt_irrefl, decide_eq_true rfl, decide_eq_true rfl]; rfl
    rw [exN_yes hx hq] at h7; cases h7
  cases i1 : insB S x y with
  | true =>
    cases i2 : insB S y x with
    | true => exact absurd ⟨i1, i2⟩ both
    | false => rw [strB, i1, i2] at h4; cases h4
  | false =>
    cases i2 : insB S y x with
    | true => rw [strB, i1, i2] at h5; cases h5
    | false => rw [h6]; rfl
