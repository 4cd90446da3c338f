/-! REASONS, ANSWERS: pure, on the words of a book -/
theorem firR_ord (S : Nat → Int32) : StO (firR S) := by
  refine ⟨fun a => ?_, fun a b c h1 h2 => ?_, fun a b h => ?_⟩
  · rw [firR, decide_eq_false (Nat.lt_irrefl _), decide_eq_false (Nat.lt_irrefl _), Bool.and_false]; rfl
  · rw [firR, Bool.or_eq_true, Bool.and_eq_true, decide_eq_true_eq, decide_eq_true_eq, decide_eq_true_eq] at h1 h2 ⊢
    omega
  · rw [firR, firR, Bool.or_eq_true, Bool.and_eq_true, decide_eq_true_eq, decide_eq_true_eq, decide_eq_true_eq, Bool.or_eq_true, Bool.and_eq_true, decide_eq_true_eq, decide_eq_true_eq, decide_eq_true_eq]
    omega
def reaF (S : Nat → Int32) (n : Nat) (r : Int32) (k : Nat) : Bool := reaB S (-100005) n k r
def rkS (S : Nat → Int32) (n : Nat) (r : Int32) (k : Nat) : Nat := rkN (firR S) (reaF S n r) n k
def mS_ (S : Nat → Int32) (n : Nat) (r : Int32) : Nat := cntN (reaF S n r) n
theorem mS_le (S : Nat → Int32) (n : Nat) (r : Int32) : mS_ S n r ≤ n := cntN_le _ n
theorem reason_at {S : Nat → Int32} {n : Nat} (hn : n ≤ 16) {r : Int32} (hr : inB r 0 3 = true) {i : Nat} (hi : i < mS_ S n r) : ∃ k, k < n ∧ reaF S n r k = true ∧ rkS S n r k = i ∧ a6_reason S (-100005) n r (nI i) = nI k := by
  have hm := mS_le S n r
  obtain ⟨k, k1, k2, k3⟩ := (rk_all (R := reaF S n r) (n := n) (firR_ord S) i (Nat.le_of_lt hi)).2 hi
  refine ⟨k, k1, k2, k3, ?_⟩
  have hf : firN (reasQ S (-100005) n r (nI i)) n = k := firN_eq k1 (by
    show (reaF S n r k && decide (nI (rkS S n r k) = nI i)) = true
    rw [k2, show rkS S n r k = i from k3, decide_eq_true rfl]; rfl) (fun j hj => by
    show (reaF S n r j && decide (nI (rkS S n r j) = nI i)) = false
    cases hR : reaF S n r j with
    | false => rfl
    | true =>
      rw [decide_eq_false (fun z => ?_)]; rfl
      have hb : rkS S n r j < mS_ S n r := rk_bd (R := reaF S n r) (n := n) (firR_ord S) (a := j) (by omega) hR
      have e := (nI_eq (by omega) (by omega)).mp z
      have := rk_inj (R := reaF S n r) (n := n) (firR_ord S) (by omega) k1 hR k2 (e.trans k3.symm)
      omega)
  rw [a6_reason, if_pos ⟨hr, nI_pos (by omega)⟩, hf, if_pos k1]
theorem reason_end {S : Nat → Int32} {n : Nat} (hn : n ≤ 16) {r : Int32} (hr : inB r 0 3 = true) : a6_reason S (-100005) n r (nI (mS_ S n r)) = -100005 := by
  have hm := mS_le S n r
  have hf : firN (reasQ S (-100005) n r (nI (mS_ S n r))) n = n := firN_none (fun j hj => by
    show (reaF S n r j && decide (nI (rkS S n r j) = nI (mS_ S n r))) = false
    cases hR : reaF S n r j with
    | false => rfl
    | true =>
      have hb : rkS S n r j < mS_ S n r := rk_bd (R := reaF S n r) (n := n) (firR_ord S) hj hR
      rw [decide_eq_false (fun z => ?_)]; rfl
      have e := (nI_eq (by omega) (by omega)).mp z
      omega)
  rw [a6_reason, if_pos ⟨hr, nI_pos (by omega)⟩, hf, if_neg (Nat.lt_irrefl n)]
theorem reason_ord {S : Nat → Int32} {n : Nat} {r : Int32} {a k : Nat} (hk : k < n) (hRk : reaF S n r k = true) (h : rkS S n r a < rkS S n r k) : shaN S k < shaN S a ∨ (shaN S a = shaN S k ∧ a < k) := by
  have e := rk_ord (R := reaF S n r) (n := n) (firR_ord S) hk hRk h
  rw [firR, Bool.or_eq_true, Bool.and_eq_true, decide_eq_true_eq, decide_eq_true_eq, decide_eq_true_eq] at e
  exact e
def AnsP (R : Nat → Bool) (g : Nat → Int32) (n : Nat) (a : Int32) : Prop := (a = -100005 ∧ ∀ k, k < n → R k = false) ∨ (∃ k, k < n ∧ R k = true ∧ a = g k ∧ ∀ j, j < n → R j = true → g j = g k) ∨ (a = -100006 ∧ ∃ j k, j < n ∧ k < n ∧ R j = true ∧ R k = true ∧ g j ≠ g k)
theorem AnsP.uniq {R : Nat → Bool} {g : Nat → Int32} {n : Nat} {a b : Int32} (h : AnsP R g n a) (h2 : AnsP R g n b) : a = b := by
  rcases h with ⟨e, h⟩ | ⟨k, k1, k2, e, h⟩ | ⟨e, i, k, i1, k1, i2, k2, h⟩
  · rcases h2 with ⟨e2, h2⟩ | ⟨k, k1, k2, e2, h2⟩ | ⟨e2, i, k, i1, k1, i2, k2, h2⟩
    · rw [e, e2]
    · rw [h k k1] at k2; cases k2
    · rw [h k k1] at k2; cases k2
  · rcases h2 with ⟨e2, h2⟩ | ⟨j, j1, j2, e2, h2⟩ | ⟨e2, i, j, i1, j1, i2, j2, h2⟩
    · rw [h2 k k1] at k2; cases k2
    · rw [e, e2, h j j1 j2]
    · exact absurd ((h i i1 i2).trans (h j j1 j2).symm) h2
  · rcases h2 with ⟨e2, h2⟩ | ⟨j, j1, j2, e2, h2⟩ | ⟨e2, _⟩
    · rw [h2 k k1] at k2; cases k2
    · exact absurd ((h2 i i1 i2).trans (h2 k k1 k2).symm) h
    · rw [e, e2]
theorem ansL_P {S : Nat → Int32} {wo r : Int32} {n : Nat} (hg : ∀ k, k < n → reaB S wo n k r = true → S (57 + 66 * k + 50) ≠ -100005 ∧ S (57 + 66 * k + 50) ≠ -100006) : ∀ i, i ≤ n → AnsP (fun k => reaB S wo n k r) (fun k => S (57 + 66 * k + 50)) i (ansL S wo n r i)
  | 0, _ => Or.inl ⟨rfl, fun k hk => absurd hk (Nat.not_lt_zero k)⟩
  | i + 1, hi => by
    have ih := ansL_P hg i (by omega)
    rw [ansL]
    by_cases hR : reaB S wo n i r = true
    · rw [if_pos hR]
      obtain ⟨g1, g2⟩ := hg i (by omega) hR
      by_cases e1 : ansL S wo n r i = -100005
      · rw [if_pos e1]
        refine Or.inr (Or.inl ⟨i, by omega, hR, rfl, fun j hj hRj => ?_⟩)
        rcases ih with ⟨-, h⟩ | ⟨k, k1, k2, e, -⟩ | ⟨e, -⟩
        · by_cases q : j = i
          · rw [q]
          · exact absurd ((show reaB S wo n j r = true from hRj).symm.trans (h j (by omega))) (by decide)
        · exact absurd (e.symm.trans e1) (hg k (by omega) k2).1
        · rw [e] at e1; exact absurd e1 (by decide)
      · rw [if_neg e1]
        by_cases e2 : ansL S wo n r i = S (57 + 66 * i + 50)
        · rw [if_pos e2]
          rcases ih with ⟨e, -⟩ | ⟨k, k1, k2, e, h⟩ | ⟨e, -⟩
          · exact absurd e e1
          · refine Or.inr (Or.inl ⟨i, by omega, hR, rfl, fun j hj hRj => ?_⟩)
            by_cases q : j = i
            · rw [q]
            · exact (h j (by omega) hRj).trans (e.symm.trans e2)
          · rw [e] at e2; exact absurd e2.symm g2
        · rw [if_neg e2]
          rcases ih with ⟨e, -⟩ | ⟨k, k1, k2, e, h⟩ | ⟨e, j, k, j1, k1, j2, k2, h⟩
          · exact absurd e e1
          · exact Or.inr (Or.inr ⟨rfl, k, i, by omega, by omega, k2, hR, fun z => e2 (e.trans z)⟩)
          · exact Or.inr (Or.inr ⟨rfl, j, k, by omega, by omega, j2, k2, h⟩)
    · rw [if_neg hR]
      have hR' : reaB S wo n i r = false := by cases hh : reaB S wo n i r; rfl; exact absurd hh hR
      rcases ih with ⟨e, h⟩ | ⟨k, k1, k2, e, h⟩ | ⟨e, j, k, j1, k1, j2, k2, h⟩
      · refine Or.inl ⟨e, fun k hk => ?_⟩
        by_cases q : k = i
        · rw [q]; exact hR'
        · exact h k (by omega)
      · refine Or.inr (Or.inl ⟨k, by omega, k2, e, fun j hj hRj => ?_⟩)
        by_cases q : j = i
        · rw [q] at hRj; exact absurd hRj hR
        · exact h j (by omega) hRj
      · exact Or.inr (Or.inr ⟨e, j, k, by omega, by omega, j2, k2, h⟩)
/-- the answer that the law puts together, behind the reasons ahead of the i-th -/
def LoA (S : Nat → Int32) (n : Nat) (r a0 : Int32) (i : Nat) (a : Int32) : Prop := (a = a0 ∧ ∀ k, k < n → reaF S n r k = true → rkS S n r k < i → S (57 + 66 * k + 50) = a0) ∨ (a = -100006 ∧ ∃ k, k < n ∧ reaF S n r k = true ∧ rkS S n r k < i ∧ S (57 + 66 * k + 50) ≠ a0)
theorem LoA.zero (S : Nat → Int32) (n : Nat) (r a0 : Int32) : LoA S n r a0 0 a0 := Or.inl ⟨rfl, fun _ _ _ h => absurd h (Nat.not_lt_zero _)⟩
theorem LoA.step {S : Nat → Int32} {n : Nat} {r a0 a : Int32} {i k : Nat} (h : LoA S n r a0 i a) (k1 : k < n) (k2 : reaF S n r k = true) (k3 : rkS S n r k = i) (k4 : S (57 + 66 * k + 50) ≠ -100006) : LoA S n r a0 (i + 1) (if S (57 + 66 * k + 50) = a then a else -100006) := by
  have un : ∀ j, j < n → reaF S n r j = true → rkS S n r j < i + 1 → rkS S n r j < i ∨ j = k := fun j hj hR hl => by
    by_cases q : rkS S n r j < i
    · exact Or.inl q
    · exact Or.inr (rk_inj (R := reaF S n r) (n := n) (firR_ord S) hj k1 hR k2 (show rkS S n r j = rkS S n r k by omega))
  rcases h with ⟨e, h⟩ | ⟨e, j, j1, j2, j3, j4⟩
  · by_cases q : S (57 + 66 * k + 50) = a
    · rw [if_pos q]
      refine Or.inl ⟨e, fun j hj hR hl => ?_⟩
      rcases un j hj hR hl with z | z
      · exact h j hj hR z
      · rw [z, q, e]
    · rw [if_neg q]
      exact Or.inr ⟨rfl, k, k1, k2, by omega, fun z => q (z.trans e.symm)⟩
  · rw [if_neg (fun z => k4 (z.trans e))]
    exact Or.inr ⟨rfl, j, j1, j2, by omega, j4⟩
theorem LoA.fin {S : Nat → Int32} {n : Nat} {r a : Int32} (hg : ∀ k, k < n → reaB S (-100005) n k r = true → S (57 + 66 * k + 50) ≠ -100005 ∧ S (57 + 66 * k + 50) ≠ -100006) {k : Nat} (k1 : k < n) (k2 : reaF S n r k = true) (h : LoA S n r (S (57 + 66 * k + 50)) (mS_ S n r) a) : ansI S (-100005) n r = a := by
  refine (ansL_P hg n (Nat.le_refl n)).uniq ?_
  have all : ∀ j, j < n → reaF S n r j = true → rkS S n r j < mS_ S n r := fun j hj hR => rk_bd (R := reaF S n r) (n := n) (firR_ord S) hj hR
  rcases h with ⟨e, h⟩ | ⟨e, j, j1, j2, j3, j4⟩
  · exact Or.inr (Or.inl ⟨k, k1, k2, e, fun j hj hR => h j hj hR (all j hj hR)⟩)
  · exact Or.inr (Or.inr ⟨e, j, k, j1, k1, j2, k2, j4⟩)
theorem ans_no {S : Nat → Int32} {n : Nat} {r : Int32} (h : mS_ S n r = 0) : ansI S (-100005) n r = -100005 := by
  have h0 : ∀ k, k < n → reaB S (-100005) n k r = false := fun k hk => by
    cases hR : reaB S (-100005) n k r with
    | false => rfl
    | true =>
      have := rk_bd (R := reaF S n r) (n := n) (firR_ord S) hk hR
      have h : cntN (reaF S n r) n = 0 := h
      omega
  have : ∀ i, i ≤ n → ansL S (-100005) n r i = -100005 := by
    intro i
    induction i with
    | zero => intro _; rfl
    | succ i ih => intro hi; rw [ansL, if_neg (by rw [h0 i (by omega)]; decide)]; exact ih (by omega)
  exact this n (Nat.le_refl n)
theorem app_no {S : Nat → Int32} {k : Nat} (hk : k < 2 ^ 16) (r : Int32) : appB S (-100005) k r = (decide (S (57 + 66 * k + 49) = r) && conB S k) := by
  rw [appB, decide_eq_false (nI_no5 (by omega))]; rfl
theorem rea_app {S : Nat → Int32} {n k : Nat} {r : Int32} (h : reaF S n r k = true) : appB S (-100005) k r = true := by
  rw [reaF, reaB, Bool.and_eq_true] at h; exact h.1
theorem app_sum {S : Nat → Int32} {n : Nat} (hn : n ≤ 16) (r : Int32) : mS_ S n r + cntN (fun k => appB S (-100005) k r && !reaB S (-100005) n k r) n = cntN (fun k => decide (S (57 + 66 * k + 49) = r) && conB S k) n := by
  rw [← cntN_cong (q := fun k => appB S (-100005) k r) (fun k hk => app_no (by omega) r), cntN_split (fun k => appB S (-100005) k r) (fun k => reaB S (-100005) n k r) n]
  congr 1
  refine cntN_cong (fun k _ => ?_)
  show reaF S n r k = (appB S (-100005) k r && reaF S n r k)
  cases hR : reaF S n r k with
  | false => rw [Bool.and_false]
  | true => rw [rea_app hR]; rfl
