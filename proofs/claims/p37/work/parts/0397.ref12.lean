def vocL : List Nat := [249, 1111, 399641, 7008274, 262, 311436, 11438892, 10631, 131638, 11450658, 923, 136650677, 381245, 1905275, 1253699, 2947858, 7096509, 275568984, 10354323, 6410291, 2690359, 237470, 4514, 355568, 6564179, 4075223]
def vocN (x : Nat) : Nat := vocL.getD x 0
theorem vocN_eq : ∀ {x : Nat}, x < 26 → vocF x = nI (vocN x) := by decide
theorem vocN_le (x : Nat) : vocN x ≤ 275568984 := by
  rcases Nat.lt_or_ge x 26 with h | h
  · revert x; decide
  · rw [vocN, List.getD_eq_getElem?_getD, List.getElem?_eq_none (by exact h)]; decide
def qd (b dg v e : Nat) : Bool := decide (dg ≤ e + 1) && decide (v / b ^ e < b)
def eN (b dg v : Nat) : Nat := firN (qd b dg v) 8
theorem qd_no {b dg v e : Nat} (h : e + 1 < dg ∨ b ≤ v / b ^ e) : qd b dg v e = false := by
  rw [qd]
  rcases h with h | h
  · rw [decide_eq_false (by omega)]; rfl
  · rw [decide_eq_false (p := v / b ^ e < b) (by omega), Bool.and_false]
theorem qd_yes {b dg v e : Nat} (h : dg ≤ e + 1) (h2 : v / b ^ e < b) : qd b dg v e = true := by
  rw [qd, decide_eq_true h, decide_eq_true h2]; rfl
theorem he7 (b : Nat) {e p v P : Nat} (hp : p = b ^ e) (hv : v ≤ P) (h : 26 < v / p) (hb : b = 27 := by rfl) (hP : P = 275568984 := by rfl) : e < 7 := by
  subst hb; subst hP
  rcases Nat.lt_or_ge e 6 with q | q
  · omega
  · exfalso
    have h1 : 27 ^ 6 ≤ p := by rw [hp]; exact Nat.pow_le_pow_right (by decide) q
    have h2 : v / p = 0 := Nat.div_eq_of_lt (by have : (27 : Nat) ^ 6 = 387420489 := by decide
                                                omega)
    omega
/-- the powers, from the greatest down, and then 0 -/
def pwN (b e i : Nat) : Nat := if i ≤ e then b ^ (e - i) else 0
theorem pwN_0 (b e : Nat) : pwN b e 0 = b ^ e := by rw [pwN, if_pos (Nat.zero_le _), Nat.sub_zero]
theorem pwN_s {b e i : Nat} (hb : 1 < b) (hi : i ≤ e) : pwN b e i / b = pwN b e (i + 1) := by
  rw [pwN, pwN, if_pos hi]
  by_cases h : i + 1 ≤ e
  · rw [if_pos h, show e - i = (e - (i + 1)) + 1 by omega, Nat.pow_succ, Nat.mul_div_cancel _ (by omega)]
  · rw [if_neg h, show e - i = 0 by omega, Nat.pow_zero, Nat.div_eq_of_lt hb]
theorem pwN_pos {b e i : Nat} (h : 0 < pwN b e i) : i ≤ e := by
  unfold pwN at h; split at h <;> omega
theorem pwN_z {b e i : Nat} (hb : 0 < b) (h : pwN b e i = 0) : e < i := by
  unfold pwN at h
  split at h
  · exact absurd h (Nat.ne_of_gt (Nat.pow_pos hb))
  · omega
theorem nI_z {p : Nat} (hp : p < 2 ^ 31) (h : nI p ≤ 0) : p = 0 := by
  rcases Nat.eq_zero_or_pos p with z | z
  · exact z
  · exact absurd h (nI_nle z hp)
def digL (b c v e i : Nat) : List Int32 := (List.range i).map (fun j => nI (c + v / b ^ (e - j) % b))
theorem digL_0 (b c v e : Nat) : digL b c v e 0 = [] := rfl
theorem digL_len (b c v e i : Nat) : (digL b c v e i).length = i := by simp [digL]
theorem digL_s (b c v e i : Nat) : digL b c v e (i + 1) = digL b c v e i ++ [nI (c + v / b ^ (e - i) % b)] := by
  rw [digL, List.range_succ, List.map_append]; rfl
def numL (b c dg v : Nat) : List Int32 := digL b c v (eN b dg v) (eN b dg v + 1)
theorem gD_l {L M : List Int32} {k : Nat} (h : k < L.length) : (L ++ M).getD k 0 = L.getD k 0 := by
  rw [List.getD_eq_getElem?_getD, List.getD_eq_getElem?_getD, List.getElem?_append_left h]
theorem gD_r {L M : List Int32} {k : Nat} (h : L.length ≤ k) : (L ++ M).getD k 0 = M.getD (k - L.length) 0 := by
  rw [List.getD_eq_getElem?_getD, List.getD_eq_getElem?_getD, List.getElem?_append_right h]
/-- a list, written from w on -/
def outW (ou : Nat → Int32) (w : Nat) (L : List Int32) : Nat → Int32 := fun j => if w ≤ j ∧ j < w + L.length then L.getD (j - w) 0 else ou j
theorem outW_0 (ou : Nat → Int32) (w : Nat) : outW ou w [] = ou := by
  funext j; rw [outW, if_neg]; rw [List.length_nil]; omega
theorem outW_1 (ou : Nat → Int32) (w : Nat) (L : List Int32) (x : Int32) : upd (outW ou w L) (w + L.length) x = outW ou w (L ++ [x]) := by
  funext j
  unfold upd outW
  rw [List.length_append, List.length_singleton]
  by_cases h : j = w + L.length
  · subst h
    rw [if_pos rfl, if_pos ⟨by omega, by omega⟩, Nat.add_sub_cancel_left, gD_r (Nat.le_refl _), Nat.sub_self]; rfl
  · rw [if_neg h]
    by_cases h2 : w ≤ j ∧ j < w + L.length
    · rw [if_pos h2, if_pos ⟨h2.1, by omega⟩, gD_l (by omega)]
    · rw [if_neg h2, if_neg (by omega)]
theorem outW_app (ou : Nat → Int32) (w : Nat) (L M : List Int32) : outW (outW ou w L) (w + L.length) M = outW ou w (L ++ M) := by
  funext j
  unfold outW
  rw [List.length_append]
  by_cases h : w + L.length ≤ j ∧ j < w + L.length + M.length
  · rw [if_pos h, if_pos ⟨by omega, by omega⟩, gD_r (by omega)]
    congr 1; omega
  · rw [if_neg h]
    by_cases h2 : w ≤ j ∧ j < w + L.length
    · rw [if_pos h2, if_pos ⟨h2.1, by omega⟩, gD_l (by omega)]
    · rw [if_neg h2, if_neg (by omega)]
theorem outW_dig {ou : Nat → Int32} {w b c v e i : Nat} (hi : i ≤ e) : upd (outW ou w (digL b c v e i)) (w + i) (nI (c + v / pwN b e i % b)) = outW ou w (digL b c v e (i + 1)) := by
  have h := outW_1 ou w (digL b c v e i) (nI (c + v / b ^ (e - i) % b))
  rw [digL_len] at h
  rw [digL_s, ← h, pwN, if_pos hi]
theorem pow10 : (10 : Nat) ^ 4 = 10000 := by decide
theorem he4 {e p x : Nat} (hp : p = 10 ^ e) (hx : x ≤ 9999) (h : 9 < x / p) : e ≤ 2 := by
  rcases Nat.lt_or_ge e 3 with q | q
  · omega
  · exfalso
    have h1 : 10 ^ 3 ≤ p := by rw [hp]; exact Nat.pow_le_pow_right (by decide) q
    have h3 : (10 : Nat) ^ 3 = 1000 := by decide
    have h2 := Nat.div_le_div_left (a := x) h1 (by decide)
    omega
theorem p10_le {e p : Nat} (hp : p = 10 ^ e) (h : e ≤ 3) : p * 10 ≤ 10000 := by
  have h1 : 10 ^ e ≤ 10 ^ 3 := Nat.pow_le_pow_right (by decide) h
  have h3 : (10 : Nat) ^ 3 = 1000 := by decide
  omega
theorem eN_le {x dg : Nat} (hx : x ≤ 9999) (hd : dg ≤ 4) : eN 10 dg x ≤ 3 := by
  rcases Nat.lt_or_ge 3 (eN 10 dg x) with q | q
  · have := firN_no q
    rw [qd_yes (by omega) (by have h3 : (10 : Nat) ^ 3 = 1000 := by decide
                              omega)] at this
    cases this
  · exact q
theorem numL_le (x dg : Nat) (hx : x ≤ 9999) (hd : dg ≤ 4) : (numL 10 48 dg x).length ≤ 4 := by
  have := eN_le hx hd
  rw [numL, digL_len]; omega
def sgnL (x : Int32) : List Int32 := if 0 ≤ x then numL 10 48 1 x.toInt.natAbs else nI 45 :: numL 10 48 1 x.toInt.natAbs
def datL (k : Nat) : List Int32 := numL 10 48 4 (k / 10000) ++ nI 45 :: (numL 10 48 2 (k / 100 % 100) ++ nI 45 :: numL 10 48 2 (k % 100))
theorem outW_one (ou : Nat → Int32) (w : Nat) (x : Int32) : upd ou w x = outW ou w [x] := by
  have h := outW_1 ou w [] x
  rw [outW_0] at h; exact h
theorem outW_cons (ou : Nat → Int32) (w : Nat) (x : Int32) (L : List Int32) : outW (upd ou w x) (w + 1) L = outW ou w (x :: L) := by
  rw [outW_one]; exact outW_app ou w [x] L
theorem len_cons (w : Nat) (x : Int32) (L : List Int32) : nI (w + 1 + L.length) = nI (w + (x :: L).length) := by
  rw [List.length_cons]; congr 1; omega
theorem outW_date (ou : Nat → Int32) (w : Nat) (x : Int32) (L M N : List Int32) : outW (upd (outW (upd (outW ou w L) (w + L.length) x) (w + L.length + 1) M) (w + L.length + 1 + M.length) x) (w + L.length + 1 + M.length + 1) N = outW ou w (L ++ x :: (M ++ x :: N)) := by
  rw [outW_cons, outW_app, outW_cons, outW_app]
theorem len_date (w : Nat) (x : Int32) (L M N : List Int32) : nI (w + L.length + 1 + M.length + 1 + N.length) = nI (w + (L ++ x :: (M ++ x :: N)).length) := by
  rw [List.length_append, List.length_cons, List.length_append, List.length_cons]; congr 1; omega
theorem abs_nn {x : Int32} (h : inB x (-9999) 9999 = true) (h0 : 0 ≤ x) : x = nI x.toInt.natAbs ∧ x.toInt.natAbs ≤ 9999 := by
  rw [inB, Bool.and_eq_true, decide_eq_true_eq, decide_eq_true_eq] at h
  have h1 := Int32.le_iff_toInt_le.mp h.2
  have h2 := Int32.le_iff_toInt_le.mp h0
  rw [Int32.toInt_zero] at h2
  rw [show (9999 : Int32).toInt = 9999 from by decide] at h1
  have h3 : x.toInt.natAbs ≤ 9999 := by omega
  exact ⟨Int32.toInt_inj.mp (by rw [nI_toInt (by omega)]; omega), h3⟩
theorem abs_neg {x : Int32} (h : inB x (-9999) 9999 = true) (h0 : ¬ 0 ≤ x) : -x = nI x.toInt.natAbs ∧ x.toInt.natAbs ≤ 9999 := by
  rw [inB, Bool.and_eq_true, decide_eq_true_eq, decide_eq_true_eq] at h
  have h1 := Int32.le_iff_toInt_le.mp h.1
  have h2 := Int32.lt_iff_toInt_lt.mp (Int32.not_le.mp h0)
  rw [Int32.toInt_zero] at h2
  rw [show (-9999 : Int32).toInt = -9999 from by decide] at h1
  have h3 : x.toInt.natAbs ≤ 9999 := by omega
  refine ⟨Int32.toInt_inj.mp ?_, h3⟩
  rw [nI_toInt (by omega), Int32.toInt_neg, Int.bmod_eq_of_le (by omega) (by omega)]
  omega
set_option maxRecDepth 100000 in
theorem codG_le (B : Nat) (hB : B ≤ 73048) : ∀ (k : Nat) {lf y m : Nat}, 1 ≤ m → m ≤ 12 → lf < k → 1900 ≤ y → 336 * (y - 1900) + 28 * (m - 1) + lf ≤ B → 1900 ≤ (codG k lf y m).2.1 ∧ (codG k lf y m).2.1 ≤ 2120 ∧ 1 ≤ (codG k lf y m).2.2 ∧ (codG k lf y m).2.2 ≤ 12 ∧ (codG k lf y m).1 ≤ 30 := by
  intro k
  induction k with
  | zero => intro lf y m h1 h2 h; exact absurd h (Nat.not_lt_zero lf)
  | succ k ihz =>
    intro lf y m h1 h2 h hy hv
    have hd := daysN_le y m
    rw [codG]
    by_cases hq : daysN y m ≤ lf
    · rw [if_pos hq]
      by_cases hm : m = 12
      · rw [if_pos hm, if_pos hm]
        exact ihz (by omega) (by omega) (by omega) (by omega) (by omega)
      · rw [if_neg hm, if_neg hm]
        exact ihz (by omega) (by omega) (by omega) hy (by omega)
    · rw [if_neg hq]
      exact ⟨hy, show y ≤ 2120 by omega, h1, h2, show lf ≤ 30 by omega⟩
theorem codeN_le {x : Nat} (h : x ≤ 73048) : codeN x ≤ 21201231 := by
  have := codG_le 73048 (by omega) (x + 1) (lf := x) (y := 1900) (m := 1) (by omega) (by omega) (by omega) (by omega) (by omega)
  rw [codeN]; omega
theorem numL_2 (x : Nat) (hx : x ≤ 99) : (numL 10 48 2 x).length ≤ 2 := by
  rw [numL, digL_len]
  rcases Nat.lt_or_ge 1 (eN 10 2 x) with q | q
  · have := firN_no q
    rw [qd_yes (by omega) (by rw [Nat.pow_one]; omega)] at this
    cases this
  · omega
theorem numL_w (b c dg v : Nat) : (numL b c dg v).length ≤ 9 := by
  have := firN_le (qd b dg v) 8
  rw [numL, digL_len, eN]; omega
theorem sgnL_le {x : Int32} (h : inB x (-9999) 9999 = true) : (sgnL x).length ≤ 5 := by
  rw [sgnL]
  split
  · rename_i h0; have := numL_le _ 1 (abs_nn h h0).2 (by omega); omega
  · rename_i h0; have := numL_le _ 1 (abs_neg h h0).2 (by omega); rw [List.length_cons]; omega
theorem datL_le {k : Nat} (h : k ≤ 21201231) : (datL k).length ≤ 10 := by
  have h1 := numL_le (k / 10000) 4 (by omega) (by omega)
  have h2 := numL_2 (k / 100 % 100) (by omega)
  have h3 := numL_2 (k % 100) (by omega)
  rw [datL, List.length_append, List.length_cons, List.length_append, List.length_cons]; omega
/-- what a token's kind and value can be -/
def vtB (kd x : Int32) : Bool := decide (kd = 0) && inB x 0 25 || (decide (kd = 1) && inB x (-9999) 9999 || decide (kd = 2) && inB x 0 73048)
theorem vt_cases {kd x : Int32} (h : vtB kd x = true) : (kd = nI 0 ∧ ∃ i, i < 26 ∧ x = nI i) ∨ (kd = nI 1 ∧ inB x (-9999) 9999 = true) ∨ (kd = nI 2 ∧ ∃ i, i ≤ 73048 ∧ x = nI i) := by
  rw [vtB, Bool.or_eq_true, Bool.or_eq_true, Bool.and_eq_true, Bool.and_eq_true, Bool.and_eq_true, decide_eq_true_eq, decide_eq_true_eq, decide_eq_true_eq] at h
  rcases h with h | h | h
  · obtain ⟨i, hi, e⟩ := inB_nat (K := 25) (by decide) h.2
    exact Or.inl ⟨h.1, i, by omega, e⟩
  · exact Or.inr (Or.inl h)
  · obtain ⟨i, hi, e⟩ := inB_nat (K := 73048) (by decide) h.2
    exact Or.inr (Or.inr ⟨h.1, i, hi, e⟩)
def tokL (kd x : Int32) : List Int32 := if kd = 0 then numL 27 96 1 (vocN x.toNatClampNeg) else if kd = 1 then sgnL x else datL (codeN x.toNatClampNeg)
theorem tokL_0 {i : Nat} (h : i < 26) : tokL (nI 0) (nI i) = numL 27 96 1 (vocN i) := by rw [tokL, if_pos (by decide), nI_clamp (by omega)]
theorem tokL_1 (x : Int32) : tokL (nI 1) x = sgnL x := by rw [tokL, if_neg (by decide), if_pos (by decide)]
theorem tokL_2 {i : Nat} (h : i ≤ 73048) : tokL (nI 2) (nI i) = datL (codeN i) := by rw [tokL, if_neg (by decide), if_neg (by decide), nI_clamp (by omega)]
theorem tokL_le {kd x : Int32} (h : vtB kd x = true) : (tokL kd x).length ≤ 10 := by
  rcases vt_cases h with ⟨rfl, i, hi, rfl⟩ | ⟨rfl, hx⟩ | ⟨rfl, i, hi, rfl⟩
  · rw [tokL_0 hi]; exact Nat.le_succ_of_le (numL_w _ _ _ _)
  · rw [tokL_1]; have := sgnL_le hx; omega
  · rw [tokL_2 hi]; exact datL_le (codeN_le hi)
/-- the text of the first tokens -/
def senL (S : Nat → Int32) (k : Nat) : Nat → List Int32
  | 0 => []
  | t + 1 => senL S k t ++ ((if t = 0 then [] else [nI 32]) ++ tokL (S (57 + 66 * k + (1 + t))) (S (57 + 66 * k + (25 + t))))
theorem senL_le {S : Nat → Int32} {k ct : Nat} (hv : ∀ t, t < ct → vtB (S (57 + 66 * k + (1 + t))) (S (57 + 66 * k + (25 + t))) = true) : ∀ {t : Nat}, t ≤ ct → (senL S k t).length ≤ 11 * t
  | 0, _ => Nat.le_refl 0
  | t + 1, h => by
    have h1 := senL_le hv (t := t) (by omega)
    have h2 := tokL_le (hv t (by omega))
    rw [senL, List.length_append, List.length_append]
    split
    · rw [List.length_nil]; omega
    · rw [List.length_singleton]; omega
theorem senL_0 {S : Nat → Int32} {k t : Nat} (h : t = 0) : senL S k (t + 1) = senL S k t ++ tokL (S (57 + 66 * k + (1 + t))) (S (57 + 66 * k + (25 + t))) := by
  rw [senL, if_pos h, List.nil_append]
theorem senL_s {S : Nat → Int32} {k t : Nat} (h : ¬ t = 0) : senL S k (t + 1) = senL S k t ++ ([nI 32] ++ tokL (S (57 + 66 * k + (1 + t))) (S (57 + 66 * k + (25 + t)))) := by
  rw [senL, if_neg h]
theorem senL_w0 {S ou : Nat → Int32} {k t : Nat} (h : t = 0) : outW (outW ou 0 (senL S k t)) (senL S k t).length (tokL (S (57 + 66 * k + (1 + t))) (S (57 + 66 * k + (25 + t)))) = outW ou 0 (senL S k (t + 1)) := by
  have q := outW_app ou 0 (senL S k t) (tokL (S (57 + 66 * k + (1 + t))) (S (57 + 66 * k + (25 + t))))
  rw [Nat.zero_add] at q
  rw [senL_0 h, q]
theorem senL_ws {S ou : Nat → Int32} {k t : Nat} (h : ¬ t = 0) : outW (upd (outW ou 0 (senL S k t)) (senL S k t).length (nI 32)) ((senL S k t).length + 1) (tokL (S (57 + 66 * k + (1 + t))) (S (57 + 66 * k + (25 + t)))) = outW ou 0 (senL S k (t + 1)) := by
  have q := outW_app ou 0 (senL S k t) (nI 32 :: tokL (S (57 + 66 * k + (1 + t))) (S (57 + 66 * k + (25 + t))))
  rw [Nat.zero_add] at q
  rw [senL_s h, outW_cons, q]; rfl
theorem senL_n0 {S : Nat → Int32} {k t : Nat} (h : t = 0) : nI ((senL S k t).length + (tokL (S (57 + 66 * k + (1 + t))) (S (57 + 66 * k + (25 + t)))).length) = nI (senL S k (t + 1)).length := by
  rw [senL_0 h, List.length_append]
theorem senL_ns {S : Nat → Int32} {k t : Nat} (h : ¬ t = 0) : nI ((senL S k t).length + 1 + (tokL (S (57 + 66 * k + (1 + t))) (S (57 + 66 * k + (25 + t)))).length) = nI (senL S k (t + 1)).length := by
  rw [senL_s h, List.length_append, List.length_append, List.length_singleton]; congr 1; omega
theorem outW_t (ou : Nat → Int32) (L : List Int32) (x : Int32) : upd (outW ou 0 L) L.length x = outW ou 0 (L ++ [x]) := by
  have q := outW_1 ou 0 L x
  rw [Nat.zero_add] at q; exact q
theorem outW_at {ou : Nat → Int32} {L : List Int32} {j : Nat} (h : j < L.length + 1) {x : Int32} : outW ou 0 (L ++ [x]) j = (L ++ [x]).getD j 0 := by
  rw [outW, if_pos ⟨Nat.zero_le _, by rw [List.length_append, List.length_singleton]; omega⟩, Nat.sub_zero]
def ctN (S : Nat → Int32) (k : Nat) : Nat := (S (57 + 66 * k + 0)).toNatClampNeg
