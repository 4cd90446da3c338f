/-! THE REFERENCE: the text -/
theorem RI.cO {G : mG} {f : mE} {o : Nat} {a : Nat → Nat} {S P lo hi ou z : Nat → Int32} {rc isr wd us ab gi wr wo : Int32} (h : RI G f o a S P lo hi ou rc isr wd us ab gi wr wo) (e : ou = z) : RI G f o a S P lo hi z rc isr wd us ab gi wr wo := e ▸ h
def vocL : List Nat := [249, 1111, 399641, 7008274, 262, 311436, 11438892, 10631, 131638, 11450658, 923, 136650677, 381245, 1905275, 1253699, 2947858, 7096509, 275568984, 10354323, 6410291, 2690359, 237470, 4514, 355568, 6564179, 4075223]
def vocN (x : Nat) : Nat := vocL.getD x 0
theorem vocN_eq : ∀ {x : Nat}, x < 26 → vocF x = nI (vocN x) := by decide
theorem vocN_le (x : Nat) : vocN x ≤ 275568984 := by
  rcases Nat.lt_or_ge x 26 with h | h
  · revert x; decide
  · rw [vocN, List.getD_eq_getElem?_getD, List.getElem?_eq_none (by exact h)]; decide
def qd (b dg v e : Nat) : Bool := decide (dg ≤ e + 1) && decide (v / b ^ e < b)
def eN (b dg v : Nat) : Nat := firN (qd b dg v) 8
theorem qd_no {b dg v e : Nat} (h : e + 1 < dg ∨ b ≤ v / b ^ e) : qd b dg v e = false := by
  rw [qd]
  rcases h with h | h
  · rw [decide_eq_false (by omega)]; rfl
  · rw [decide_eq_false (p := v / b ^ e < b) (by omega), Bool.and_false]
theorem qd_yes {b dg v e : Nat} (h : dg ≤ e + 1) (h2 : v / b ^ e < b) : qd b dg v e = true := by
  rw [qd, decide_eq_true h, decide_eq_true h2]; rfl
theorem he7 (b : Nat) {e p v P : Nat} (hp : p = b ^ e) (hv : v ≤ P) (h : 26 < v / p) (hb : b = 27 := by rfl) (hP : P = 275568984 := by rfl) : e < 7 := by
  subst hb; subst hP
  rcases Nat.lt_or_ge e 6 with q | q
  · omega
  · exfalso
    have h1 : 27 ^ 6 ≤ p := by rw [hp]; exact Nat.pow_le_pow_right (by decide) q
    have h2 : v / p = 0 := Nat.div_eq_of_lt (by have : (27 : Nat) ^ 6 = 387420489 := by decide
                                                omega)
    omega
/-- the powers, from the greatest down, and then 0 -/
def pwN (b e i : Nat) : Nat := if i ≤ e then b ^ (e - i) else 0
theorem pwN_0 (b e : Nat) : pwN b e 0 = b ^ e := by rw [pwN, if_pos (Nat.zero_le _), Nat.sub_zero]
theorem pwN_s {b e i : Nat} (hb : 1 < b) (hi : i ≤ e) : pwN b e i / b = pwN b e (i + 1) := by
  rw [pwN, pwN, if_pos hi]
  by_cases h : i + 1 ≤ e
  · rw [if_pos h, show e - i = (e - (i + 1)) + 1 by omega, Nat.pow_succ, Nat.mul_div_cancel _ (by omega)]
  · rw [if_neg h, show e - i = 0 by omega, Nat.pow_zero, Nat.div_eq_of_lt hb]
theorem pwN_pos {b e i : Nat} (h : 0 < pwN b e i) : i ≤ e := by
  unfold pwN at h; split at h <;> omega
theorem pwN_z {b e i : Nat} (hb : 0 < b) (h : pwN b e i = 0) : e < i := by
  unfold pwN at h
  split at h
  · exact absurd h (Nat.ne_of_gt (Nat.pow_pos hb))
  · omega
theorem nI_z {p : Nat} (hp : p < 2 ^ 31) (h : nI p ≤ 0) : p = 0 := by
  rcases Nat.eq_zero_or_pos p with z | z
  · exact z
  · exact absurd h (nI_nle z hp)
def digL (b c v e i : Nat) : List Int32 := (List.range i).map (fun j => nI (c + v / b ^ (e - j) % b))
theorem digL_0 (b c v e : Nat) : digL b c v e 0 = [] := rfl
theorem digL_len (b c v e i : Nat) : (digL b c v e i).length = i := by simp [digL]
theorem digL_s (b c v e i : Nat) : digL b c v e (i + 1) = digL b c v e i ++ [nI (c + v / b ^ (e - i) % b)] := by
  rw [digL, List.range_succ, List.map_append]; rfl
def numL (b c dg v : Nat) : List Int32 := digL b c v (eN b dg v) (eN b dg v + 1)
theorem gD_l {L M : List Int32} {k : Nat} (h : k < L.length) : (L ++ M).getD k 0 = L.getD k 0 := by
  rw [List.getD_eq_getElem?_getD, List.getD_eq_getElem?_getD, List.getElem?_append_left h]
theorem gD_r {L M : List Int32} {k : Nat} (h : L.length ≤ k) : (L ++ M).getD k 0 = M.getD (k - L.length) 0 := by
  rw [List.getD_eq_getElem?_getD, List.getD_eq_getElem?_getD, List.getElem?_append_right h]
/-- a list, written from w on -/
def outW (ou : Nat → Int32) (w : Nat) (L : List Int32) : Nat → Int32 := fun j => if w ≤ j ∧ j < w + L.length then L.getD (j - w) 0 else ou j
theorem outW_0 (ou : Nat → Int32) (w : Nat) : outW ou w [] = ou := by
  funext j; rw [outW, if_neg]; rw [List.length_nil]; omega
theorem outW_1 (ou : Nat → Int32) (w : Nat) (L : List Int32) (x : Int32) : upd (outW ou w L) (w + L.length) x = outW ou w (L ++ [x]) := by
  funext j
  unfold upd outW
  rw [List.length_append, List.length_singleton]
  by_cases h : j = w + L.length
  · subst h
    rw [if_pos rfl, if_pos ⟨by omega, by omega⟩, Nat.add_sub_cancel_left, gD_r (Nat.le_refl _), Nat.sub_self]; rfl
  · rw [if_neg h]
    by_cases h2 : w ≤ j ∧ j < w + L.length
    · rw [if_pos h2, if_pos ⟨h2.1, by omega⟩, gD_l (by omega)]
    · rw [if_neg h2, if_neg (by omega)]
theorem outW_app (ou : Nat → Int32) (w : Nat) (L M : List Int32) : outW (outW ou w L) (w + L.length) M = outW ou w (L ++ M) := by
  funext j
  unfold outW
  rw [List.length_append]
  by_cases h : w + L.length ≤ j ∧ j < w + L.length + M.length
  · rw [if_pos h, if_pos ⟨by omega, by omega⟩, gD_r (by omega)]
    congr 1; omega
  · rw [if_neg h]
    by_cases h2 : w ≤ j ∧ j < w + L.length
    · rw [if_pos h2, if_pos ⟨h2.1, by omega⟩, gD_l (by omega)]
    · rw [if_neg h2, if_neg (by omega)]
theorem outW_dig {ou : Nat → Int32} {w b c v e i : Nat} (hi : i ≤ e) : upd (outW ou w (digL b c v e i)) (w + i) (nI (c + v / pwN b e i % b)) = outW ou w (digL b c v e (i + 1)) := by
  have h := outW_1 ou w (digL b c v e i) (nI (c + v / b ^ (e - i) % b))
  rw [digL_len] at h
  rw [digL_s, ← h, pwN, if_pos hi]
theorem pow10 : (10 : Nat) ^ 4 = 10000 := by decide
theorem he4 {e p x : Nat} (hp : p = 10 ^ e) (hx : x ≤ 9999) (h : 9 < x / p) : e ≤ 2 := by
  rcases Nat.lt_or_ge e 3 with q | q
  · omega
  · exfalso
    have h1 : 10 ^ 3 ≤ p := by rw [hp]; exact Nat.pow_le_pow_right (by decide) q
    have h3 : (10 : Nat) ^ 3 = 1000 := by decide
    have h2 := Nat.div_le_div_left (a := x) h1 (by decide)
    omega
theorem p10_le {e p : Nat} (hp : p = 10 ^ e) (h : e ≤ 3) : p * 10 ≤ 10000 := by
  have h1 : 10 ^ e ≤ 10 ^ 3 := Nat.pow_le_pow_right (by decide) h
  have h3 : (10 : Nat) ^ 3 = 1000 := by decide
  omega
theorem eN_le {x dg : Nat} (hx : x ≤ 9999) (hd : dg ≤ 4) : eN 10 dg x ≤ 3 := by
  rcases Nat.lt_or_ge 3 (eN 10 dg x) with q | q
  · have := firN_no q
    rw [qd_yes (by omega) (by have h3 : (10 : Nat) ^ 3 = 1000 := by decide
                              omega)] at this
    cases this
  · exact q
theorem numL_le (x dg : Nat) (hx : x ≤ 9999) (hd : dg ≤ 4) : (numL 10 48 dg x).length ≤ 4 := by
  have := eN_le hx hd
  rw [numL, digL_len]; omega
def sgnL (x : Int32) : List Int32 := if 0 ≤ x then numL 10 48 1 x.toInt.natAbs else nI 45 :: numL 10 48 1 x.toInt.natAbs
def datL (k : Nat) : List Int32 := numL 10 48 4 (k / 10000) ++ nI 45 :: (numL 10 48 2 (k / 100 % 100) ++ nI 45 :: numL 10 48 2 (k % 100))
theorem RI.cWr {G : mG} {f : mE} {o : Nat} {a : Nat → Nat} {S P lo hi ou : Nat → Int32} {rc isr wd us ab gi wr wo z : Int32} (h : RI G f o a S P lo hi ou rc isr wd us ab gi wr wo) (e : wr = z) : RI G f o a S P lo hi ou rc isr wd us ab gi z wo := e ▸ h
theorem outW_one (ou : Nat → Int32) (w : Nat) (x : Int32) : upd ou w x = outW ou w [x] := by
  have h := outW_1 ou w [] x
  rw [outW_0] at h; exact h
theorem outW_cons (ou : Nat → Int32) (w : Nat) (x : Int32) (L : List Int32) : outW (upd ou w x) (w + 1) L = outW ou w (x :: L) := by
  rw [outW_one]; exact outW_app ou w [x] L
theorem len_cons (w : Nat) (x : Int32) (L : List Int32) : nI (w + 1 + L.length) = nI (w + (x :: L).length) := by
  rw [List.length_cons]; congr 1; omega
theorem outW_date (ou : Nat → Int32) (w : Nat) (x : Int32) (L M N : List Int32) : outW (upd (outW (upd (outW ou w L) (w + L.length) x) (w + L.length + 1) M) (w + L.length + 1 + M.length) x) (w + L.length + 1 + M.length + 1) N = outW ou w (L ++ x :: (M ++ x :: N)) := by
  rw [outW_cons, outW_app, outW_cons, outW_app]
theorem len_date (w : Nat) (x : Int32) (L M N : List Int32) : nI (w + L.length + 1 + M.length + 1 + N.length) = nI (w + (L ++ x :: (M ++ x :: N)).length) := by
  rw [List.length_append, List.length_cons, List.length_append, List.length_cons]; congr 1; omega
theorem abs_nn {x : Int32} (h : inB x (-9999) 9999 = true) (h0 : 0 ≤ x) : x = nI x.toInt.natAbs ∧ x.toInt.natAbs ≤ 9999 := by
  rw [inB, Bool.and_eq_true, decide_eq_true_eq, decide_eq_true_eq] at h
  have h1 := Int32.le_iff_toInt_le.mp h.2
  have h2 := Int32.le_iff_toInt_le.mp h0
  rw [Int32.toInt_zero] at h2
  rw [show (9999 : Int32).toInt = 9999 from by decide] at h1
  have h3 : x.toInt.natAbs ≤ 9999 := by omega
  exact ⟨Int32.toInt_inj.mp (by rw [nI_toInt (by omega)]; omega), h3⟩
theorem abs_neg {x : Int32} (h : inB x (-9999) 9999 = true) (h0 : ¬ 0 ≤ x) : -x = nI x.toInt.natAbs ∧ x.toInt.natAbs ≤ 9999 := by
  rw [inB, Bool.and_eq_true, decide_eq_true_eq, decide_eq_true_eq] at h
  have h1 := Int32.le_iff_toInt_le.mp h.1
  have h2 := Int32.lt_iff_toInt_lt.mp (Int32.not_le.mp h0)
  rw [Int32.toInt_zero] at h2
  rw [show (-9999 : Int32).toInt = -9999 from by decide] at h1
  have h3 : x.toInt.natAbs ≤ 9999 := by omega
  refine ⟨Int32.toInt_inj.mp ?_, h3⟩
  rw [nI_toInt (by omega), Int32.toInt_neg, Int.bmod_eq_of_le (by omega) (by omega)]
  omega
set_option maxRecDepth 100000 in
theorem codG_le (B : Nat) (hB : B ≤ 73048) : ∀ (k : Nat) {lf y m : Nat}, 1 ≤ m → m ≤ 12 → lf < k → 1900 ≤ y → 336 * (y - 1900) + 28 * (m - 1) + lf ≤ B → 1900 ≤ (codG k lf y m).2.1 ∧ (codG k lf y m).2.1 ≤ 2120 ∧ 1 ≤ (codG k lf y m).2.2 ∧ (codG k lf y m).2.2 ≤ 12 ∧ (codG k lf y m).1 ≤ 30 := by
  intro k
  induction k with
  | zero => intro lf y m h1 h2 h; exact absurd h (Nat.not_lt_zero lf)
  | succ k ihz =>
    intro lf y m h1 h2 h hy hv
    have hd := daysN_le y m
    rw [codG]
    by_cases hq : daysN y m ≤ lf
    · rw [if_pos hq]
      by_cases hm : m = 12
      · rw [if_pos hm, if_pos hm]
        exact ihz (by omega) (by omega) (by omega) (by omega) (by omega)
      · rw [if_neg hm, if_neg hm]
        exact ihz (by omega) (by omega) (by omega) hy (by omega)
    · rw [if_neg hq]
      exact ⟨hy, show y ≤ 2120 by omega, h1, h2, show lf ≤ 30 by omega⟩
theorem codeN_le {x : Nat} (h : x ≤ 73048) : codeN x ≤ 21201231 := by
  have := codG_le 73048 (by omega) (x + 1) (lf := x) (y := 1900) (m := 1) (by omega) (by omega) (by omega) (by omega) (by omega)
  rw [codeN]; omega
theorem numL_2 (x : Nat) (hx : x ≤ 99) : (numL 10 48 2 x).length ≤ 2 := by
  rw [numL, digL_len]
  rcases Nat.lt_or_ge 1 (eN 10 2 x) with q | q
  · have := firN_no q
    rw [qd_yes (by omega) (by rw [Nat.pow_one]; omega)] at this
    cases this
  · omega
theorem numL_w (b c dg v : Nat) : (numL b c dg v).length ≤ 9 := by
  have := firN_le (qd b dg v) 8
  rw [numL, digL_len, eN]; omega
theorem sgnL_le {x : Int32} (h : inB x (-9999) 9999 = true) : (sgnL x).length ≤ 5 := by
  rw [sgnL]
  split
  · rename_i h0; have := numL_le _ 1 (abs_nn h h0).2 (by omega); omega
  · rename_i h0; have := numL_le _ 1 (abs_neg h h0).2 (by omega); rw [List.length_cons]; omega
theorem datL_le {k : Nat} (h : k ≤ 21201231) : (datL k).length ≤ 10 := by
  have h1 := numL_le (k / 10000) 4 (by omega) (by omega)
  have h2 := numL_2 (k / 100 % 100) (by omega)
  have h3 := numL_2 (k % 100) (by omega)
  rw [datL, List.length_append, List.length_cons, List.length_append, List.length_cons]; omega
/-- what a token's kind and value can be -/
def vtB (kd x : Int32) : Bool := decide (kd = 0) && inB x 0 25 || (decide (kd = 1) && inB x (-9999) 9999 || decide (kd = 2) && inB x 0 73048)
theorem vt_cases {kd x : Int32} (h : vtB kd x = true) : (kd = nI 0 ∧ ∃ i, i < 26 ∧ x = nI i) ∨ (kd = nI 1 ∧ inB x (-9999) 9999 = true) ∨ (kd = nI 2 ∧ ∃ i, i ≤ 73048 ∧ x = nI i) := by
  rw [vtB, Bool.or_eq_true, Bool.or_eq_true, Bool.and_eq_true, Bool.and_eq_true, Bool.and_eq_true, decide_eq_true_eq, decide_eq_true_eq, decide_eq_true_eq] at h
  rcases h with h | h | h
  · obtain ⟨i, hi, e⟩ := inB_nat (K := 25) (by decide) h.2
    exact Or.inl ⟨h.1, i, by omega, e⟩
  · exact Or.inr (Or.inl h)
  · obtain ⟨i, hi, e⟩ := inB_nat (K := 73048) (by decide) h.2
    exact Or.inr (Or.inr ⟨h.1, i, hi, e⟩)
def tokL (kd x : Int32) : List Int32 := if kd = 0 then numL 27 96 1 (vocN x.toNatClampNeg) else if kd = 1 then sgnL x else datL (codeN x.toNatClampNeg)
theorem tokL_0 {i : Nat} (h : i < 26) : tokL (nI 0) (nI i) = numL 27 96 1 (vocN i) := by rw [tokL, if_pos (by decide), nI_clamp (by omega)]
theorem tokL_1 (x : Int32) : tokL (nI 1) x = sgnL x := by rw [tokL, if_neg (by decide), if_pos (by decide)]
theorem tokL_2 {i : Nat} (h : i ≤ 73048) : tokL (nI 2) (nI i) = datL (codeN i) := by rw [tokL, if_neg (by decide), if_neg (by decide), nI_clamp (by omega)]
theorem tokL_le {kd x : Int32} (h : vtB kd x = true) : (tokL kd x).length ≤ 10 := by
  rcases vt_cases h with ⟨rfl, i, hi, rfl⟩ | ⟨rfl, hx⟩ | ⟨rfl, i, hi, rfl⟩
  · rw [tokL_0 hi]; exact Nat.le_succ_of_le (numL_w _ _ _ _)
  · rw [tokL_1]; have := sgnL_le hx; omega
  · rw [tokL_2 hi]; exact datL_le (codeN_le hi)
/-- the text of the first tokens -/
def senL (S : Nat → Int32) (k : Nat) : Nat → List Int32
  | 0 => []
  | t + 1 => senL S k t ++ ((if t = 0 then [] else [nI 32]) ++ tokL (S (57 + 66 * k + (1 + t))) (S (57 + 66 * k + (25 + t))))
theorem senL_le {S : Nat → Int32} {k ct : Nat} (hv : ∀ t, t < ct → vtB (S (57 + 66 * k + (1 + t))) (S (57 + 66 * k + (25 + t))) = true) : ∀ {t : Nat}, t ≤ ct → (senL S k t).length ≤ 11 * t
  | 0, _ => Nat.le_refl 0
  | t + 1, h => by
    have h1 := senL_le hv (t := t) (by omega)
    have h2 := tokL_le (hv t (by omega))
    rw [senL, List.length_append, List.length_append]
    split
    · rw [List.length_nil]; omega
    · rw [List.length_singleton]; omega
theorem senL_0 {S : Nat → Int32} {k t : Nat} (h : t = 0) : senL S k (t + 1) = senL S k t ++ tokL (S (57 + 66 * k + (1 + t))) (S (57 + 66 * k + (25 + t))) := by
  rw [senL, if_pos h, List.nil_append]
theorem senL_s {S : Nat → Int32} {k t : Nat} (h : ¬ t = 0) : senL S k (t + 1) = senL S k t ++ ([nI 32] ++ tokL (S (57 + 66 * k + (1 + t))) (S (57 + 66 * k + (25 + t)))) := by
  rw [senL, if_neg h]
theorem senL_w0 {S ou : Nat → Int32} {k t : Nat} (h : t = 0) : outW (outW ou 0 (senL S k t)) (senL S k t).length (tokL (S (57 + 66 * k + (1 + t))) (S (57 + 66 * k + (25 + t)))) = outW ou 0 (senL S k (t + 1)) := by
  have q := outW_app ou 0 (senL S k t) (tokL (S (57 + 66 * k + (1 + t))) (S (57 + 66 * k + (25 + t))))
  rw [Nat.zero_add] at q
  rw [senL_0 h, q]
theorem senL_ws {S ou : Nat → Int32} {k t : Nat} (h : ¬ t = 0) : outW (upd (outW ou 0 (senL S k t)) (senL S k t).length (nI 32)) ((senL S k t).length + 1) (tokL (S (57 + 66 * k + (1 + t))) (S (57 + 66 * k + (25 + t)))) = outW ou 0 (senL S k (t + 1)) := by
  have q := outW_app ou 0 (senL S k t) (nI 32 :: tokL (S (57 + 66 * k + (1 + t))) (S (57 + 66 * k + (25 + t))))
  rw [Nat.zero_add] at q
  rw [senL_s h, outW_cons, q]; rfl
theorem senL_n0 {S : Nat → Int32} {k t : Nat} (h : t = 0) : nI ((senL S k t).length + (tokL (S (57 + 66 * k + (1 + t))) (S (57 + 66 * k + (25 + t)))).length) = nI (senL S k (t + 1)).length := by
  rw [senL_0 h, List.length_append]
theorem senL_ns {S : Nat → Int32} {k t : Nat} (h : ¬ t = 0) : nI ((senL S k t).length + 1 + (tokL (S (57 + 66 * k + (1 + t))) (S (57 + 66 * k + (25 + t)))).length) = nI (senL S k (t + 1)).length := by
  rw [senL_s h, List.length_append, List.length_append, List.length_singleton]; congr 1; omega
theorem outW_t (ou : Nat → Int32) (L : List Int32) (x : Int32) : upd (outW ou 0 L) L.length x = outW ou 0 (L ++ [x]) := by
  have q := outW_1 ou 0 L x
  rw [Nat.zero_add] at q; exact q
theorem outW_at {ou : Nat → Int32} {L : List Int32} {j : Nat} (h : j < L.length + 1) {x : Int32} : outW ou 0 (L ++ [x]) j = (L ++ [x]).getD j 0 := by
  rw [outW, if_pos ⟨Nat.zero_le _, by rw [List.length_append, List.length_singleton]; omega⟩, Nat.sub_zero]
def ctN (S : Nat → Int32) (k : Nat) : Nat := (S (57 + 66 * k + 0)).toNatClampNeg
set_option maxHeartbeats 4000000 in
set_option maxRecDepth 100000 in
theorem c6_write (l : Launch) (G : mG) {f : mE} {w : Nat} {o : Nat} {a : Nat → Nat} {S P lo hi ou : Nat → Int32} {rc isr wd us ab gi wo : Int32} (hI : RI G f o a S P lo hi ou rc isr wd us ab gi (nI w) wo) (hw : w < 300) (x : Int32) : mC l G yX6_write wsX6_write ({ frames := 0, cells := 0, slots := 0, locals := 0 } : Room) f [.ref o, .int x] (fun v f1 => v = none ∧ RI G f1 o a S P lo hi (upd ou w x) rc isr wd us ab gi (nI (w + 1)) wo) 0 0 := by
  refine mC.of (cc := cX6_write) (maxL := 2) (ret := none) (by decide) rfl (Nat.le_of_ble_eq_true rfl) ?_
  intro pgm env s mt args below meth c A ls hx hb hml hr hlocks hown hname hts hK hE hA hM hl
  have hl : lv_has ls 2 [(0, .ref o), (1, .int x)] := hl
  refine lv_aload_n hx hb dX6_write_0 rfl (lv_at hl 0 rfl) ?_
  refine mm_get (C := RX6) (T := TX6) (N := 14) (k := 11) hx hb hts (fun _ h => List.mem_cons_of_mem _ (List.mem_append_right _ h)) hown hK hM (hI.obj) rfl (by decide) (hts (.fieldLink RX6 25 "SentenceRulesModel" "out" "[I") (List.mem_of_getElem? (i := 1) rfl)) rfl rfl dX6_write_1 ?_
  refine lv_aload_n hx hb dX6_write_4 rfl (lv_at hl 0 rfl) ?_
  refine mm_get (C := RX6) (T := TX6) (N := 14) (k := 12) hx hb hts (fun _ h => List.mem_cons_of_mem _ (List.mem_append_right _ h)) hown hK hM (hI.obj) rfl (by decide) (hts (.fieldLink RX6 162 "SentenceRulesModel" "written" "I") (List.mem_of_getElem? (i := 2) rfl)) rfl rfl dX6_write_5 ?_
  refine lv_iload_n hx hb dX6_write_8 rfl (lv_at hl 1 rfl) ?_
  refine mn_iast hx hb hK hM (hI.out) w (by omega) (by decide) dX6_write_9 (fun Hp lcs hM => ?_)
  have hI := hI.setOut (upd ou w x)
  refine lv_aload_n hx hb dX6_write_10 rfl (lv_at hl 0 rfl) ?_
  refine lv_dup hx hb dX6_write_11 rfl ?_
  refine mm_get (C := RX6) (T := TX6) (N := 14) (k := 12) hx hb hts (fun _ h => List.mem_cons_of_mem _ (List.mem_append_right _ h)) hown hK hM (hI.obj) rfl (by decide) (hts (.fieldLink RX6 162 "SentenceRulesModel" "written" "I") (List.mem_of_getElem? (i := 2) rfl)) rfl rfl dX6_write_12 ?_
  refine lv_iconst (v := (nI 1)) hx hb dX6_write_15 (by decide +kernel) ?_
  refine ln_iadd w 1 hx hb dX6_write_16 ?_
  refine mm_put (C := RX6) (T := TX6) (N := 14) (k := 12) hx hb hts (fun _ h => List.mem_cons_of_mem _ (List.mem_append_right _ h)) tyX6 tyX6_ok nmX6 hown hK hM (hI.obj) rfl (by decide) (hts (.fieldLink RX6 162 "SentenceRulesModel" "written" "I") (List.mem_of_getElem? (i := 2) rfl)) rfl rfl rfl rfl (Nat.le_of_ble_eq_true rfl) dX6_write_17 (fun Hp lcs hM => ?_)
  have hI := hI.setObj rc isr wd us ab gi (nI (w + 1)) wo
  exact mm_vret hx hb hlocks hr (Nat.le_of_ble_eq_true rfl) (Nat.le_of_ble_eq_true rfl) hM (⟨rfl, hI⟩) dX6_write_20
set_option maxHeartbeats 4000000 in
set_option maxRecDepth 100000 in
theorem c6_writeWord (l : Launch) (G : mG) {f : mE} {w : Nat} {o : Nat} {a : Nat → Nat} {S P lo hi ou : Nat → Int32} {rc isr wd us ab gi wo : Int32} (hI : RI G f o a S P lo hi ou rc isr wd us ab gi (nI w) wo) (hw : w ≤ 290) (x : Nat) (hx6 : x < 26) : mC l G yX6_writeWord wsX6_writeWord ({ frames := 1, cells := 0, slots := 0, locals := 21 } : Room) f [.ref o, .int (nI x)] (fun v f1 => v = none ∧ RI G f1 o a S P lo hi (outW ou w (numL 27 96 1 (vocN x))) rc isr wd us ab gi (nI (w + (numL 27 96 1 (vocN x)).length)) wo) 0 0 := by
  refine mC.of (cc := cX6_writeWord) (maxL := 3) (ret := none) (by decide) rfl (Nat.le_of_ble_eq_true rfl) ?_
  intro pgm env s mt args below meth c A ls hx hb hml hr hlocks hown hname hts hK hE hA hM hl
  have hl : lv_has ls 3 [(0, .ref o), (1, .int (nI x))] := hl
  refine lv_iconst (v := (nI 1)) hx hb dX6_writeWord_0 (by decide +kernel) ?_
  refine lv_istore_n (lv' := [(2, .int (nI 1)), (0, .ref o), (1, .int (nI x))]) hx hb dX6_writeWord_1 rfl hl (by decide) rfl (fun ls hl => ?_)
  have loopY : ∀ (fuel : Nat) (e p : Nat) (Hp : Heap) (lcs : List Loc) (ls : Array Slot) (hpe : p = 27 ^ e) (he8 : e < 8) (hp1 : 1 ≤ p) (hp2 : p ≤ 387420489) (hno : ∀ j, j < e → qd 27 1 (vocN x) j = false) (hfu : 8 - e < fuel) (hM : mM G A s.heap f Hp lcs) (hl : lv_has ls 3 [(0, .ref o), (1, .int (nI x)), (2, .int (nI p))]), W pgm l env ({ frames := 1, cells := 0, slots := 0, locals := 21 } : Room) s mt args below meth c Hp lcs 0 0 (MQ below (mQc G A (fun v f1 => v = none ∧ RI G f1 o a S P lo hi (outW ou w (numL 27 96 1 (vocN x))) rc isr wd us ab gi (nI (w + (numL 27 96 1 (vocN x)).length)) wo)) args s 0 0 A) (F0 mt 2 ls []) := by
    intro fuel
    induction fuel with
    | zero => intro e p Hp lcs ls hpe he8 hp1 hp2 hno hfu; exact absurd hfu (Nat.not_lt_zero _)
    | succ fuel ih =>
      intro e p Hp lcs ls hpe he8 hp1 hp2 hno hfu hM hl
      refine lv_aload_n hx hb dX6_writeWord_2 rfl (lv_at hl 0 rfl) ?_
      refine mm_get (C := RX6) (T := TX6) (N := 14) (k := 1) hx hb hts (fun _ h => List.mem_cons_of_mem _ (List.mem_append_right _ h)) hown hK hM (hI.obj) rfl (by decide) (hts (.fieldLink RX6 13 "SentenceRulesModel" "vocabulary" "[I") (List.mem_of_getElem? (i := 1) rfl)) rfl rfl dX6_writeWord_3 ?_
      refine lv_iload_n hx hb dX6_writeWord_6 rfl (lv_at hl 1 rfl) ?_
      refine mn_iald hx hb hK hM (hI.voc) x (by omega) (by decide) dX6_writeWord_7 ?_
      refine mv_top (vocN_eq hx6) ?_
      have hvb := vocN_le x
      have hdv := Nat.div_le_self (vocN x) p
      refine lv_iload_n hx hb dX6_writeWord_8 rfl (lv_at hl 2 rfl) ?_
      refine ln_idiv (vocN x) p (by omega) (by omega) (by omega) hx hb dX6_writeWord_9 ?_
      refine lv_bipush (v := (nI 26)) hx hb dX6_writeWord_10 (by decide +kernel) ?_
      refine ln_icmp_le ((vocN x) / p) 26 (by omega) (by omega) (tgt := 23) hx hb dX6_writeWord_12 (by decide) (fun cz1 => ?_) (fun cz1 => ?_)
      · have heE : e = eN 27 1 (vocN x) := (firN_eq he8 (qd_yes (by omega) (by rw [← hpe]; omega)) hno).symm
        have loopZ : ∀ (fuelB : Nat) (i p : Nat) (fz : mE) (Hp : Heap) (lcs : List Loc) (ls : Array Slot) (hiN : i ≤ e + 1) (hpe : p = pwN 27 e i) (hp2 : p ≤ 387420489) (hIz : RI G fz o a S P lo hi (outW ou w (digL 27 96 (vocN x) e i)) rc isr wd us ab gi (nI (w + i)) wo) (hfuB : e + 1 - i < fuelB) (hM : mM G A s.heap fz Hp lcs) (hl : lv_has ls 3 [(0, .ref o), (1, .int (nI x)), (2, .int (nI p))]), W pgm l env ({ frames := 1, cells := 0, slots := 0, locals := 21 } : Room) s mt args below meth c Hp lcs 0 0 (MQ below (mQc G A (fun v f1 => v = none ∧ RI G f1 o a S P lo hi (outW ou w (numL 27 96 1 (vocN x))) rc isr wd us ab gi (nI (w + (numL 27 96 1 (vocN x)).length)) wo)) args s 0 0 A) (F0 mt 23 ls []) := by
          intro fuelB
          induction fuelB with
          | zero => intro i p fz Hp lcs ls hiN hpe hp2 hIz hfuB; exact absurd hfuB (Nat.not_lt_zero _)
          | succ fuelB ihB =>
            intro i p fz Hp lcs ls hiN hpe hp2 hIz hfuB hM hl
            have hI := hIz
            refine lv_iload_n hx hb dX6_writeWord_23 rfl (lv_at hl 2 rfl) ?_
            refine lv_if_le (tgt := 53) hx hb dX6_writeWord_24 (by decide) (fun cz2 => ?_) (fun cz2 => ?_)
            · exact mm_vret hx hb hlocks hr (Nat.le_of_ble_eq_true rfl) (Nat.le_of_ble_eq_true rfl) hM ((by have hz : i = e + 1 := (by have hz0 : p = 0 := nI_z (by omega) cz2; have hz1 := pwN_z (by decide) (hpe ▸ hz0); omega); subst hz; exact ⟨rfl, by rw [numL, ← heE, digL_len]; exact hI⟩)) dX6_writeWord_53
            have hpp : 0 < p := (Nat.pos_of_ne_zero (fun z => cz2 (by rw [z]; decide)))
            have hie := pwN_pos (hpe ▸ hpp)
            refine lv_aload_n hx hb dX6_writeWord_27 rfl (lv_at hl 0 rfl) ?_
            refine lv_bipush (v := (nI 96)) hx hb dX6_writeWord_28 (by decide +kernel) ?_
            refine lv_aload_n hx hb dX6_writeWord_30 rfl (lv_at hl 0 rfl) ?_
            refine mm_get (C := RX6) (T := TX6) (N := 14) (k := 1) hx hb hts (fun _ h => List.mem_cons_of_mem _ (List.mem_append_right _ h)) hown hK hM (hI.obj) rfl (by decide) (hts (.fieldLink RX6 13 "SentenceRulesModel" "vocabulary" "[I") (List.mem_of_getElem? (i := 1) rfl)) rfl rfl dX6_writeWord_31 ?_
            refine lv_iload_n hx hb dX6_writeWord_34 rfl (lv_at hl 1 rfl) ?_
            refine mn_iald hx hb hK hM (hI.voc) x (by omega) (by decide) dX6_writeWord_35 ?_
            refine mv_top (vocN_eq hx6) ?_
            refine lv_iload_n hx hb dX6_writeWord_36 rfl (lv_at hl 2 rfl) ?_
            have hvb := vocN_le x
            have hdv := Nat.div_le_self (vocN x) p
            refine ln_idiv (vocN x) p (by omega) (by omega) (by omega) hx hb dX6_writeWord_37 ?_
            refine lv_bipush (v := (nI 27)) hx hb dX6_writeWord_38 (by decide +kernel) ?_
            refine ln_irem ((vocN x) / p) 27 (by omega) (by omega) (by omega) hx hb dX6_writeWord_40 ?_
            refine ln_iadd 96 (((vocN x) / p) % 27) hx hb dX6_writeWord_41 ?_
            refine mm_V (As := [.int (nI (96 + (((vocN x) / p) % 27)))]) (rest := []) ⟨hx, hb, hml, hown, hts⟩ (c6_write l G hI (by omega) (nI (96 + (((vocN x) / p) % 27)))) (cwV 1 hts gX6_writeWord_X6_write rfl rfl rfl (by decide +kernel) ⟨Nat.le_of_ble_eq_true rfl, Nat.le_of_ble_eq_true rfl⟩) hK hE hA hM (mm_recv hK hM (hI.obj) (q := (RX6, TX6, 14)) rfl) rfl hl.1 rfl (Nat.le_of_ble_eq_true rfl) dX6_writeWord_42 ⟨Nat.le_of_ble_eq_true rfl, Nat.le_of_ble_eq_true rfl⟩ (fun v gz3 Hp lcs hp hM => ?_)
            obtain ⟨rfl, hI⟩ := hp
            refine lv_iload_n hx hb dX6_writeWord_45 rfl (lv_at hl 2 rfl) ?_
            refine lv_bipush (v := (nI 27)) hx hb dX6_writeWord_46 (by decide +kernel) ?_
            refine ln_idiv p 27 (by omega) (by omega) (by omega) hx hb dX6_writeWord_48 ?_
            refine lv_istore_n (lv' := [(2, .int (nI (p / 27))), (0, .ref o), (1, .int (nI x))]) hx hb dX6_writeWord_49 rfl hl (by decide) rfl (fun ls hl => ?_)
            refine lv_goto (tgt := 23) hx hb dX6_writeWord_50 (by decide) ?_
            exact ihB (i + 1) _ _ _ _ ls (by omega) (hpe ▸ pwN_s (by omega) (by omega)) (Nat.le_trans (Nat.div_le_self _ _) hp2) (hI.cO (by rw [hpe]; exact outW_dig (by omega))) (by omega) hM (lv_sub hl [1, 2, 0] rfl)
        exact loopZ (e + 2) 0 _ _ _ _ ls (Nat.zero_le _) (hpe.trans (pwN_0 _ _).symm) (by omega) (by rw [digL_0, outW_0]; exact hI) (by omega) hM (lv_sub hl [0, 1, 2] rfl)
      refine lv_iload_n hx hb dX6_writeWord_15 rfl (lv_at hl 2 rfl) ?_
      refine lv_bipush (v := (nI 27)) hx hb dX6_writeWord_16 (by decide +kernel) ?_
      refine ln_imul p 27 hx hb dX6_writeWord_18 ?_
      refine lv_istore_n (lv' := [(2, .int (nI (p * 27))), (0, .ref o), (1, .int (nI x))]) hx hb dX6_writeWord_19 rfl hl (by decide) rfl (fun ls hl => ?_)
      refine lv_goto (tgt := 2) hx hb dX6_writeWord_20 (by decide) ?_
      exact ih (e + 1) _ _ _ ls (by rw [hpe]; exact (Nat.pow_succ 27 e).symm) (by have hz := he7 27 (v := vocN x) (P := 275568984) hpe (vocN_le x) cz1; omega) (by omega) (by have hz := (Nat.le_div_iff_mul_le hp1).mp cz1; have hz2 := vocN_le x; omega) (fun j hj => (Nat.lt_succ_iff_lt_or_eq.mp hj).elim (hno j) (fun z => by subst z; exact qd_no (by rw [← hpe]; exact Or.inr cz1))) (by omega) hM (lv_sub hl [1, 2, 0] rfl)
  exact loopY 9 0 1 _ _ ls rfl (by omega) (by omega) (by omega) (fun j hj => absurd hj (Nat.not_lt_zero j)) (by omega) hM (lv_sub hl [1, 2, 0] rfl)
set_option maxHeartbeats 4000000 in
set_option maxRecDepth 100000 in
theorem c6_writeNumber (l : Launch) (G : mG) {f : mE} {w : Nat} {o : Nat} {a : Nat → Nat} {S P lo hi ou : Nat → Int32} {rc isr wd us ab gi wo : Int32} (hI : RI G f o a S P lo hi ou rc isr wd us ab gi (nI w) wo) (hw : w ≤ 296) (x dg : Nat) (hx4 : x ≤ 9999) (hdg : dg ≤ 4) : mC l G yX6_writeNumber wsX6_writeNumber ({ frames := 1, cells := 0, slots := 0, locals := 21 } : Room) f [.ref o, .int (nI x), .int (nI dg)] (fun v f1 => v = none ∧ RI G f1 o a S P lo hi (outW ou w (numL 10 48 dg x)) rc isr wd us ab gi (nI (w + (numL 10 48 dg x).length)) wo) 0 0 := by
  refine mC.of (cc := cX6_writeNumber) (maxL := 5) (ret := none) (by decide) rfl (Nat.le_of_ble_eq_true rfl) ?_
  intro pgm env s mt args below meth c A ls hx hb hml hr hlocks hown hname hts hK hE hA hM hl
  have hl : lv_has ls 5 [(0, .ref o), (1, .int (nI x)), (2, .int (nI dg))] := hl
  refine lv_iconst (v := (nI 1)) hx hb dX6_writeNumber_0 (by decide +kernel) ?_
  refine lv_istore_n (lv' := [(3, .int (nI 1)), (0, .ref o), (1, .int (nI x)), (2, .int (nI dg))]) hx hb dX6_writeNumber_1 rfl hl (by decide) rfl (fun ls hl => ?_)
  refine lv_iconst (v := (nI 1)) hx hb dX6_writeNumber_2 (by decide +kernel) ?_
  refine lv_istore (lv' := [(4, .int (nI 1)), (3, .int (nI 1)), (0, .ref o), (1, .int (nI x)), (2, .int (nI dg))]) hx hb dX6_writeNumber_3 hl (by decide) rfl (fun ls hl => ?_)
  have loopY : ∀ (fuel : Nat) (e p : Nat) (Hp : Heap) (lcs : List Loc) (ls : Array Slot) (hpe : p = 10 ^ e) (he8 : e < 8) (hp1 : 1 ≤ p) (hp2 : p ≤ 10000) (hno : ∀ j, j < e → qd 10 dg x j = false) (hfu : 8 - e < fuel) (hM : mM G A s.heap f Hp lcs) (hl : lv_has ls 5 [(0, .ref o), (1, .int (nI x)), (2, .int (nI dg)), (3, .int (nI p)), (4, .int (nI (e + 1)))]), W pgm l env ({ frames := 1, cells := 0, slots := 0, locals := 21 } : Room) s mt args below meth c Hp lcs 0 0 (MQ below (mQc G A (fun v f1 => v = none ∧ RI G f1 o a S P lo hi (outW ou w (numL 10 48 dg x)) rc isr wd us ab gi (nI (w + (numL 10 48 dg x).length)) wo)) args s 0 0 A) (F0 mt 5 ls []) := by
    intro fuel
    induction fuel with
    | zero => intro e p Hp lcs ls hpe he8 hp1 hp2 hno hfu; exact absurd hfu (Nat.not_lt_zero _)
    | succ fuel ih =>
      intro e p Hp lcs ls hpe he8 hp1 hp2 hno hfu hM hl
      refine lv_iload hx hb dX6_writeNumber_5 (lv_at hl 4 rfl) ?_
      refine lv_iload_n hx hb dX6_writeNumber_7 rfl (lv_at hl 2 rfl) ?_
      refine ln_icmp_lt (e + 1) dg (by omega) (by omega) (tgt := 19) hx hb dX6_writeNumber_8 (by decide) (fun cz1 => ?_) (fun cz1 => ?_)
      · refine lv_iload_n hx hb dX6_writeNumber_19 rfl (lv_at hl 3 rfl) ?_
        refine lv_bipush (v := (nI 10)) hx hb dX6_writeNumber_20 (by decide +kernel) ?_
        refine ln_imul p 10 hx hb dX6_writeNumber_22 ?_
        refine lv_istore_n (lv' := [(3, .int (nI (p * 10))), (0, .ref o), (1, .int (nI x)), (2, .int (nI dg)), (4, .int (nI (e + 1)))]) hx hb dX6_writeNumber_23 rfl hl (by decide) rfl (fun ls hl => ?_)
        refine lv_iinc (v := (nI (e + 1 + 1))) (lv' := [(4, .int (nI (e + 1 + 1))), (3, .int (nI (p * 10))), (0, .ref o), (1, .int (nI x)), (2, .int (nI dg))]) hx hb dX6_writeNumber_24 hl (k := 4) rfl (nI_add _ _) (by decide) rfl (fun ls hl => ?_)
        refine lv_goto (tgt := 5) hx hb dX6_writeNumber_27 (by decide) ?_
        exact ih (e + 1) _ _ _ ls (by rw [hpe]; exact (Nat.pow_succ 10 e).symm) (by omega) (by omega) (by have hz := p10_le hpe (show e ≤ 3 by omega); omega) (fun j hj => (Nat.lt_succ_iff_lt_or_eq.mp hj).elim (hno j) (fun z => by subst z; exact qd_no (Or.inl cz1))) (by omega) hM (lv_sub hl [2, 3, 4, 1, 0] rfl)
      refine lv_iload_n hx hb dX6_writeNumber_11 rfl (lv_at hl 1 rfl) ?_
      refine lv_iload_n hx hb dX6_writeNumber_12 rfl (lv_at hl 3 rfl) ?_
      have hdv := Nat.div_le_self x p
      refine ln_idiv x p (by omega) (by omega) (by omega) hx hb dX6_writeNumber_13 ?_
      refine lv_bipush (v := (nI 9)) hx hb dX6_writeNumber_14 (by decide +kernel) ?_
      refine ln_icmp_le (x / p) 9 (by omega) (by omega) (tgt := 30) hx hb dX6_writeNumber_16 (by decide) (fun cz2 => ?_) (fun cz2 => ?_)
      · have heE : e = eN 10 dg x := (firN_eq he8 (qd_yes (by omega) (by rw [← hpe]; omega)) hno).symm
        have he3 : e ≤ 3 := (by rw [heE]; exact eN_le hx4 hdg)
        have loopZ : ∀ (fuelB : Nat) (i p : Nat) (fz : mE) (Hp : Heap) (lcs : List Loc) (ls : Array Slot) (hiN : i ≤ e + 1) (hpe : p = pwN 10 e i) (hp2 : p ≤ 10000) (hIz : RI G fz o a S P lo hi (outW ou w (digL 10 48 x e i)) rc isr wd us ab gi (nI (w + i)) wo) (hfuB : e + 1 - i < fuelB) (hM : mM G A s.heap fz Hp lcs) (hl : lv_has ls 5 [(0, .ref o), (1, .int (nI x)), (2, .int (nI dg)), (3, .int (nI p))]), W pgm l env ({ frames := 1, cells := 0, slots := 0, locals := 21 } : Room) s mt args below meth c Hp lcs 0 0 (MQ below (mQc G A (fun v f1 => v = none ∧ RI G f1 o a S P lo hi (outW ou w (numL 10 48 dg x)) rc isr wd us ab gi (nI (w + (numL 10 48 dg x).length)) wo)) args s 0 0 A) (F0 mt 30 ls []) := by
          intro fuelB
          induction fuelB with
          | zero => intro i p fz Hp lcs ls hiN hpe hp2 hIz hfuB; exact absurd hfuB (Nat.not_lt_zero _)
          | succ fuelB ihB =>
            intro i p fz Hp lcs ls hiN hpe hp2 hIz hfuB hM hl
            have hI := hIz
            refine lv_iload_n hx hb dX6_writeNumber_30 rfl (lv_at hl 3 rfl) ?_
            refine lv_if_le (tgt := 55) hx hb dX6_writeNumber_31 (by decide) (fun cz3 => ?_) (fun cz3 => ?_)
            · exact mm_vret hx hb hlocks hr (Nat.le_of_ble_eq_true rfl) (Nat.le_of_ble_eq_true rfl) hM ((by have hz : i = e + 1 := (by have hz0 : p = 0 := nI_z (by omega) cz3; have hz1 := pwN_z (by decide) (hpe ▸ hz0); omega); subst hz; exact ⟨rfl, by rw [numL, ← heE, digL_len]; exact hI⟩)) dX6_writeNumber_55
            have hpp : 0 < p := (Nat.pos_of_ne_zero (fun z => cz3 (by rw [z]; decide)))
            have hie := pwN_pos (hpe ▸ hpp)
            refine lv_aload_n hx hb dX6_writeNumber_34 rfl (lv_at hl 0 rfl) ?_
            refine lv_bipush (v := (nI 48)) hx hb dX6_writeNumber_35 (by decide +kernel) ?_
            refine lv_iload_n hx hb dX6_writeNumber_37 rfl (lv_at hl 1 rfl) ?_
            refine lv_iload_n hx hb dX6_writeNumber_38 rfl (lv_at hl 3 rfl) ?_
            have hdv := Nat.div_le_self x p
            refine ln_idiv x p (by omega) (by omega) (by omega) hx hb dX6_writeNumber_39 ?_
            refine lv_bipush (v := (nI 10)) hx hb dX6_writeNumber_40 (by decide +kernel) ?_
            refine ln_irem (x / p) 10 (by omega) (by omega) (by omega) hx hb dX6_writeNumber_42 ?_
            refine ln_iadd 48 ((x / p) % 10) hx hb dX6_writeNumber_43 ?_
            refine mm_V (As := [.int (nI (48 + ((x / p) % 10)))]) (rest := []) ⟨hx, hb, hml, hown, hts⟩ (c6_write l G hI (by omega) (nI (48 + ((x / p) % 10)))) (cwV 1 hts gX6_writeNumber_X6_write rfl rfl rfl (by decide +kernel) ⟨Nat.le_of_ble_eq_true rfl, Nat.le_of_ble_eq_true rfl⟩) hK hE hA hM (mm_recv hK hM (hI.obj) (q := (RX6, TX6, 14)) rfl) rfl hl.1 rfl (Nat.le_of_ble_eq_true rfl) dX6_writeNumber_44 ⟨Nat.le_of_ble_eq_true rfl, Nat.le_of_ble_eq_true rfl⟩ (fun v gz4 Hp lcs hp hM => ?_)
            obtain ⟨rfl, hI⟩ := hp
            refine lv_iload_n hx hb dX6_writeNumber_47 rfl (lv_at hl 3 rfl) ?_
            refine lv_bipush (v := (nI 10)) hx hb dX6_writeNumber_48 (by decide +kernel) ?_
            refine ln_idiv p 10 (by omega) (by omega) (by omega) hx hb dX6_writeNumber_50 ?_
            refine lv_istore_n (lv' := [(3, .int (nI (p / 10))), (0, .ref o), (1, .int (nI x)), (2, .int (nI dg))]) hx hb dX6_writeNumber_51 rfl hl (by decide) rfl (fun ls hl => ?_)
            refine lv_goto (tgt := 30) hx hb dX6_writeNumber_52 (by decide) ?_
            exact ihB (i + 1) _ _ _ _ ls (by omega) (hpe ▸ pwN_s (by omega) (by omega)) (Nat.le_trans (Nat.div_le_self _ _) hp2) (hI.cO (by rw [hpe]; exact outW_dig (by omega))) (by omega) hM (lv_sub hl [1, 2, 3, 0] rfl)
        exact loopZ (e + 2) 0 _ _ _ _ ls (Nat.zero_le _) (hpe.trans (pwN_0 _ _).symm) (by omega) (by rw [digL_0, outW_0]; exact hI) (by omega) hM (lv_sub hl [0, 1, 2, 3] rfl)
      refine lv_iload_n hx hb dX6_writeNumber_19 rfl (lv_at hl 3 rfl) ?_
      refine lv_bipush (v := (nI 10)) hx hb dX6_writeNumber_20 (by decide +kernel) ?_
      refine ln_imul p 10 hx hb dX6_writeNumber_22 ?_
      refine lv_istore_n (lv' := [(3, .int (nI (p * 10))), (0, .ref o), (1, .int (nI x)), (2, .int (nI dg)), (4, .int (nI (e + 1)))]) hx hb dX6_writeNumber_23 rfl hl (by decide) rfl (fun ls hl => ?_)
      refine lv_iinc (v := (nI (e + 1 + 1))) (lv' := [(4, .int (nI (e + 1 + 1))), (3, .int (nI (p * 10))), (0, .ref o), (1, .int (nI x)), (2, .int (nI dg))]) hx hb dX6_writeNumber_24 hl (k := 4) rfl (nI_add _ _) (by decide) rfl (fun ls hl => ?_)
      refine lv_goto (tgt := 5) hx hb dX6_writeNumber_27 (by decide) ?_
      exact ih (e + 1) _ _ _ ls (by rw [hpe]; exact (Nat.pow_succ 10 e).symm) (by have hz := he4 hpe hx4 cz2; omega) (by omega) (by have hz := p10_le hpe (Nat.le_succ_of_le (he4 hpe hx4 cz2)); omega) (fun j hj => (Nat.lt_succ_iff_lt_or_eq.mp hj).elim (hno j) (fun z => by subst z; exact qd_no (by rw [← hpe]; exact Or.inr cz2))) (by omega) hM (lv_sub hl [2, 3, 4, 1, 0] rfl)
  exact loopY 9 0 1 _ _ ls rfl (by omega) (by omega) (by omega) (fun j hj => absurd hj (Nat.not_lt_zero j)) (by omega) hM (lv_sub hl [2, 3, 4, 1, 0] rfl)
set_option maxHeartbeats 4000000 in
set_option maxRecDepth 100000 in
theorem c6_writeToken0 (l : Launch) (G : mG) {f : mE} {w : Nat} {o : Nat} {a : Nat → Nat} {S P lo hi ou : Nat → Int32} {rc isr wd us ab gi wo : Int32} (hI : RI G f o a S P lo hi ou rc isr wd us ab gi (nI w) wo) (hw : w ≤ 286) (x : Nat) (hx6 : x < 26) : mC l G yX6_writeToken wsX6_writeToken ({ frames := 3, cells := 0, slots := 0, locals := 64 } : Room) f [.ref o, .int (nI 0), .int (nI x)] (fun v f1 => v = none ∧ RI G f1 o a S P lo hi (outW ou w (numL 27 96 1 (vocN x))) rc isr wd us ab gi (nI (w + (numL 27 96 1 (vocN x)).length)) wo) 0 0 := by
  refine mC.of (cc := cX6_writeToken) (maxL := 4) (ret := none) (by decide) rfl (Nat.le_of_ble_eq_true rfl) ?_
  intro pgm env s mt args below meth c A ls hx hb hml hr hlocks hown hname hts hK hE hA hM hl
  have hl : lv_has ls 4 [(0, .ref o), (1, .int (nI 0)), (2, .int (nI x))] := hl
  refine lv_iload_n hx hb dX6_writeToken_0 rfl (lv_at hl 1 rfl) ?_
  refine lv_if_ne (tgt := 12) hx hb dX6_writeToken_1 (by decide) (fun hq9 => absurd hq9 (by decide)) (fun _ => ?_)
  refine lv_aload_n hx hb dX6_writeToken_4 rfl (lv_at hl 0 rfl) ?_
  refine lv_iload_n hx hb dX6_writeToken_5 rfl (lv_at hl 2 rfl) ?_
  refine mm_V (As := [.int (nI x)]) (rest := []) ⟨hx, hb, hml, hown, hts⟩ (c6_writeWord l G hI (by omega) x (by omega)) (cwV 1 hts gX6_writeToken_X6_writeWord rfl rfl rfl (by decide +kernel) ⟨Nat.le_of_ble_eq_true rfl, Nat.le_of_ble_eq_true rfl⟩) hK hE hA hM (mm_recv hK hM (hI.obj) (q := (RX6, TX6, 14)) rfl) rfl hl.1 rfl (Nat.le_of_ble_eq_true rfl) dX6_writeToken_6 ⟨Nat.le_of_ble_eq_true rfl, Nat.le_of_ble_eq_true rfl⟩ (fun v gz1 Hp lcs hp hM => ?_)
  obtain ⟨rfl, hI⟩ := hp
  refine lv_goto (tgt := 93) hx hb dX6_writeToken_9 (by decide) ?_
  exact mm_vret hx hb hlocks hr (Nat.le_of_ble_eq_true rfl) (Nat.le_of_ble_eq_true rfl) hM (⟨rfl, hI⟩) dX6_writeToken_93
set_option maxHeartbeats 4000000 in
set_option maxRecDepth 100000 in
theorem c6_writeToken1 (l : Launch) (G : mG) {f : mE} {w : Nat} {o : Nat} {a : Nat → Nat} {S P lo hi ou : Nat → Int32} {rc isr wd us ab gi wo : Int32} (hI : RI G f o a S P lo hi ou rc isr wd us ab gi (nI w) wo) (hw : w ≤ 286) (x : Int32) (hx9 : inB x (-9999) 9999 = true) : mC l G yX6_writeToken wsX6_writeToken ({ frames := 3, cells := 0, slots := 0, locals := 64 } : Room) f [.ref o, .int (nI 1), .int x] (fun v f1 => v = none ∧ RI G f1 o a S P lo hi (outW ou w (sgnL x)) rc isr wd us ab gi (nI (w + (sgnL x).length)) wo) 0 0 := by
  refine mC.of (cc := cX6_writeToken) (maxL := 4) (ret := none) (by decide) rfl (Nat.le_of_ble_eq_true rfl) ?_
  intro pgm env s mt args below meth c A ls hx hb hml hr hlocks hown hname hts hK hE hA hM hl
  have hl : lv_has ls 4 [(0, .ref o), (1, .int (nI 1)), (2, .int x)] := hl
  refine lv_iload_n hx hb dX6_writeToken_0 rfl (lv_at hl 1 rfl) ?_
  refine lv_if_ne (tgt := 12) hx hb dX6_writeToken_1 (by decide) (fun _ => ?_) (fun hq9 => absurd hq9 (by decide))
  refine lv_iload_n hx hb dX6_writeToken_12 rfl (lv_at hl 1 rfl) ?_
  refine lv_iconst (v := (nI 1)) hx hb dX6_writeToken_13 (by decide +kernel) ?_
  refine ln_icmp_ne 1 1 (by omega) (by omega) (tgt := 45) hx hb dX6_writeToken_14 (by decide) (fun hq9 => absurd hq9 (by decide)) (fun _ => ?_)
  refine lv_iload_n hx hb dX6_writeToken_17 rfl (lv_at hl 2 rfl) ?_
  refine lv_if_ge (tgt := 27) hx hb dX6_writeToken_18 (by decide) (fun cz2 => ?_) (fun cz2 => ?_)
  · refine lv_aload_n hx hb dX6_writeToken_27 rfl (lv_at hl 0 rfl) ?_
    refine lv_iload_n hx hb dX6_writeToken_28 rfl (lv_at hl 2 rfl) ?_
    refine lv_if_ge (tgt := 37) hx hb dX6_writeToken_29 (by decide) (fun cz3 => ?_) (fun cz3 => ?_)
    · refine lv_iload_n hx hb dX6_writeToken_37 rfl (lv_at hl 2 rfl) ?_
      obtain ⟨hxa, hxb⟩ := abs_nn hx9 cz2
      refine mv_top hxa ?_
      refine lv_iconst (v := (nI 1)) hx hb dX6_writeToken_38 (by decide +kernel) ?_
      refine mm_V (As := [.int (nI x.toInt.natAbs), .int (nI 1)]) (rest := []) ⟨hx, hb, hml, hown, hts⟩ (c6_writeNumber l G hI (by omega) x.toInt.natAbs 1 (by omega) (by omega)) (cwV 2 hts gX6_writeToken_X6_writeNumber rfl rfl rfl (by decide +kernel) ⟨Nat.le_of_ble_eq_true rfl, Nat.le_of_ble_eq_true rfl⟩) hK hE hA hM (mm_recv hK hM (hI.obj) (q := (RX6, TX6, 14)) rfl) rfl hl.1 rfl (Nat.le_of_ble_eq_true rfl) dX6_writeToken_39 ⟨Nat.le_of_ble_eq_true rfl, Nat.le_of_ble_eq_true rfl⟩ (fun v gz4 Hp lcs hp hM => ?_)
      obtain ⟨rfl, hI⟩ := hp
      refine lv_goto (tgt := 93) hx hb dX6_writeToken_42 (by decide) ?_
      exact mm_vret hx hb hlocks hr (Nat.le_of_ble_eq_true rfl) (Nat.le_of_ble_eq_true rfl) hM (⟨rfl, by rw [sgnL, if_pos cz2]; exact hI⟩) dX6_writeToken_93
    exact absurd cz2 cz3
  refine lv_aload_n hx hb dX6_writeToken_21 rfl (lv_at hl 0 rfl) ?_
  refine lv_bipush (v := (nI 45)) hx hb dX6_writeToken_22 (by decide +kernel) ?_
  refine mm_V (As := [.int (nI 45)]) (rest := []) ⟨hx, hb, hml, hown, hts⟩ (c6_write l G hI (by omega) (nI 45)) (cwV 1 hts gX6_writeToken_X6_write rfl rfl rfl (by decide +kernel) ⟨Nat.le_of_ble_eq_true rfl, Nat.le_of_ble_eq_true rfl⟩) hK hE hA hM (mm_recv hK hM (hI.obj) (q := (RX6, TX6, 14)) rfl) rfl hl.1 rfl (Nat.le_of_ble_eq_true rfl) dX6_writeToken_24 ⟨Nat.le_of_ble_eq_true rfl, Nat.le_of_ble_eq_true rfl⟩ (fun v gz5 Hp lcs hp hM => ?_)
  obtain ⟨rfl, hI⟩ := hp
  refine lv_aload_n hx hb dX6_writeToken_27 rfl (lv_at hl 0 rfl) ?_
  refine lv_iload_n hx hb dX6_writeToken_28 rfl (lv_at hl 2 rfl) ?_
  refine lv_if_ge (tgt := 37) hx hb dX6_writeToken_29 (by decide) (fun cz6 => ?_) (fun cz6 => ?_)
  · exact absurd cz6 cz2
  refine lv_iload_n hx hb dX6_writeToken_32 rfl (lv_at hl 2 rfl) ?_
  refine lv_ineg hx hb dX6_writeToken_33 ?_
  obtain ⟨hxa, hxb⟩ := abs_neg hx9 cz2
  refine mv_top hxa ?_
  refine lv_goto (tgt := 38) hx hb dX6_writeToken_34 (by decide) ?_
  refine lv_iconst (v := (nI 1)) hx hb dX6_writeToken_38 (by decide +kernel) ?_
  refine mm_V (As := [.int (nI x.toInt.natAbs), .int (nI 1)]) (rest := []) ⟨hx, hb, hml, hown, hts⟩ (c6_writeNumber l G hI (by omega) x.toInt.natAbs 1 (by omega) (by omega)) (cwV 2 hts gX6_writeToken_X6_writeNumber rfl rfl rfl (by decide +kernel) ⟨Nat.le_of_ble_eq_true rfl, Nat.le_of_ble_eq_true rfl⟩) hK hE hA hM (mm_recv hK hM (hI.obj) (q := (RX6, TX6, 14)) rfl) rfl hl.1 rfl (Nat.le_of_ble_eq_true rfl) dX6_writeToken_39 ⟨Nat.le_of_ble_eq_true rfl, Nat.le_of_ble_eq_true rfl⟩ (fun v gz7 Hp lcs hp hM => ?_)
  obtain ⟨rfl, hI⟩ := hp
  refine lv_goto (tgt := 93) hx hb dX6_writeToken_42 (by decide) ?_
  exact mm_vret hx hb hlocks hr (Nat.le_of_ble_eq_true rfl) (Nat.le_of_ble_eq_true rfl) hM (⟨rfl, by rw [sgnL, if_neg cz2]; exact (hI.cO (outW_cons _ _ _ _)).cWr (len_cons _ _ _)⟩) dX6_writeToken_93
set_option maxHeartbeats 4000000 in
set_option maxRecDepth 100000 in
theorem c6_writeToken2 (l : Launch) (G : mG) {f : mE} {w : Nat} {o : Nat} {a : Nat → Nat} {S P lo hi ou : Nat → Int32} {rc isr wd us ab gi wo : Int32} (hI : RI G f o a S P lo hi ou rc isr wd us ab gi (nI w) wo) (hw : w ≤ 286) (x : Nat) (hx7 : x ≤ 73048) : mC l G yX6_writeToken wsX6_writeToken ({ frames := 3, cells := 0, slots := 0, locals := 64 } : Room) f [.ref o, .int (nI 2), .int (nI x)] (fun v f1 => v = none ∧ RI G f1 o a S P lo hi (outW ou w (datL (codeN x))) rc isr wd us ab gi (nI (w + (datL (codeN x)).length)) wo) 0 0 := by
  refine mC.of (cc := cX6_writeToken) (maxL := 4) (ret := none) (by decide) rfl (Nat.le_of_ble_eq_true rfl) ?_
  intro pgm env s mt args below meth c A ls hx hb hml hr hlocks hown hname hts hK hE hA hM hl
  have hl : lv_has ls 4 [(0, .ref o), (1, .int (nI 2)), (2, .int (nI x))] := hl
  refine lv_iload_n hx hb dX6_writeToken_0 rfl (lv_at hl 1 rfl) ?_
  refine lv_if_ne (tgt := 12) hx hb dX6_writeToken_1 (by decide) (fun _ => ?_) (fun hq9 => absurd hq9 (by decide))
  refine lv_iload_n hx hb dX6_writeToken_12 rfl (lv_at hl 1 rfl) ?_
  refine lv_iconst (v := (nI 1)) hx hb dX6_writeToken_13 (by decide +kernel) ?_
  refine ln_icmp_ne 2 1 (by omega) (by omega) (tgt := 45) hx hb dX6_writeToken_14 (by decide) (fun _ => ?_) (fun hq9 => absurd hq9 (by decide))
  refine lv_iload_n hx hb dX6_writeToken_45 rfl (lv_at hl 2 rfl) ?_
  refine mm_S (As := [.int (nI x)]) (rest := []) ⟨hx, hb, hml, hown, hts⟩ (c6_codeOf l G _ x (by omega)) (va_cwS 1 hts gX6_writeToken_X6_codeOf rfl rfl rfl (by decide +kernel) ⟨Nat.le_of_ble_eq_true rfl, Nat.le_of_ble_eq_true rfl⟩) hK hE hA hM rfl hl.1 rfl (Nat.le_of_ble_eq_true rfl) dX6_writeToken_46 ⟨Nat.le_of_ble_eq_true rfl, Nat.le_of_ble_eq_true rfl⟩ (fun v f1 Hp lcs hp hM => ?_)
  obtain ⟨rfl, hf⟩ := hp; subst hf
  refine lv_istore_n (lv' := [(3, .int (nI (codeN x))), (0, .ref o), (1, .int (nI 2)), (2, .int (nI x))]) hx hb dX6_writeToken_49 rfl hl (by decide) rfl (fun ls hl => ?_)
  have hcd := codeN_le (x := x) (by omega)
  refine lv_aload_n hx hb dX6_writeToken_50 rfl (lv_at hl 1 rfl) ?_
  refine lv_iload_n hx hb dX6_writeToken_51 rfl (lv_at hl 0 rfl) ?_
  refine lv_sipush (v := (nI 10000)) hx hb dX6_writeToken_52 (by decide +kernel) ?_
  refine ln_idiv (codeN x) 10000 (by omega) (by omega) (by omega) hx hb dX6_writeToken_55 ?_
  refine lv_iconst (v := (nI 4)) hx hb dX6_writeToken_56 (by decide +kernel) ?_
  refine mm_V (As := [.int (nI ((codeN x) / 10000)), .int (nI 4)]) (rest := []) ⟨hx, hb, hml, hown, hts⟩ (c6_writeNumber l G hI (by omega) ((codeN x) / 10000) 4 (by omega) (by omega)) (cwV 2 hts gX6_writeToken_X6_writeNumber rfl rfl rfl (by decide +kernel) ⟨Nat.le_of_ble_eq_true rfl, Nat.le_of_ble_eq_true rfl⟩) hK hE hA hM (mm_recv hK hM (hI.obj) (q := (RX6, TX6, 14)) rfl) rfl hl.1 rfl (Nat.le_of_ble_eq_true rfl) dX6_writeToken_57 ⟨Nat.le_of_ble_eq_true rfl, Nat.le_of_ble_eq_true rfl⟩ (fun v gz2 Hp lcs hp hM => ?_)
  obtain ⟨rfl, hI⟩ := hp
  have hnl := numL_le ((codeN x) / 10000) 4 (by omega) (by omega)
  refine lv_aload_n hx hb dX6_writeToken_60 rfl (lv_at hl 1 rfl) ?_
  refine lv_bipush (v := (nI 45)) hx hb dX6_writeToken_61 (by decide +kernel) ?_
  refine mm_V (As := [.int (nI 45)]) (rest := []) ⟨hx, hb, hml, hown, hts⟩ (c6_write l G hI (by omega) (nI 45)) (cwV 1 hts gX6_writeToken_X6_write rfl rfl rfl (by decide +kernel) ⟨Nat.le_of_ble_eq_true rfl, Nat.le_of_ble_eq_true rfl⟩) hK hE hA hM (mm_recv hK hM (hI.obj) (q := (RX6, TX6, 14)) rfl) rfl hl.1 rfl (Nat.le_of_ble_eq_true rfl) dX6_writeToken_63 ⟨Nat.le_of_ble_eq_true rfl, Nat.le_of_ble_eq_true rfl⟩ (fun v gz3 Hp lcs hp hM => ?_)
  obtain ⟨rfl, hI⟩ := hp
  refine lv_aload_n hx hb dX6_writeToken_66 rfl (lv_at hl 1 rfl) ?_
  refine lv_iload_n hx hb dX6_writeToken_67 rfl (lv_at hl 0 rfl) ?_
  refine lv_bipush (v := (nI 100)) hx hb dX6_writeToken_68 (by decide +kernel) ?_
  refine ln_idiv (codeN x) 100 (by omega) (by omega) (by omega) hx hb dX6_writeToken_70 ?_
  refine lv_bipush (v := (nI 100)) hx hb dX6_writeToken_71 (by decide +kernel) ?_
  refine ln_irem ((codeN x) / 100) 100 (by omega) (by omega) (by omega) hx hb dX6_writeToken_73 ?_
  refine lv_iconst (v := (nI 2)) hx hb dX6_writeToken_74 (by decide +kernel) ?_
  refine mm_V (As := [.int (nI (((codeN x) / 100) % 100)), .int (nI 2)]) (rest := []) ⟨hx, hb, hml, hown, hts⟩ (c6_writeNumber l G hI (by omega) (((codeN x) / 100) % 100) 2 (by omega) (by omega)) (cwV 2 hts gX6_writeToken_X6_writeNumber rfl rfl rfl (by decide +kernel) ⟨Nat.le_of_ble_eq_true rfl, Nat.le_of_ble_eq_true rfl⟩) hK hE hA hM (mm_recv hK hM (hI.obj) (q := (RX6, TX6, 14)) rfl) rfl hl.1 rfl (Nat.le_of_ble_eq_true rfl) dX6_writeToken_75 ⟨Nat.le_of_ble_eq_true rfl, Nat.le_of_ble_eq_true rfl⟩ (fun v gz4 Hp lcs hp hM => ?_)
  obtain ⟨rfl, hI⟩ := hp
  have hnl := numL_le (((codeN x) / 100) % 100) 2 (by omega) (by omega)
  refine lv_aload_n hx hb dX6_writeToken_78 rfl (lv_at hl 1 rfl) ?_
  refine lv_bipush (v := (nI 45)) hx hb dX6_writeToken_79 (by decide +kernel) ?_
  refine mm_V (As := [.int (nI 45)]) (rest := []) ⟨hx, hb, hml, hown, hts⟩ (c6_write l G hI (by omega) (nI 45)) (cwV 1 hts gX6_writeToken_X6_write rfl rfl rfl (by decide +kernel) ⟨Nat.le_of_ble_eq_true rfl, Nat.le_of_ble_eq_true rfl⟩) hK hE hA hM (mm_recv hK hM (hI.obj) (q := (RX6, TX6, 14)) rfl) rfl hl.1 rfl (Nat.le_of_ble_eq_true rfl) dX6_writeToken_81 ⟨Nat.le_of_ble_eq_true rfl, Nat.le_of_ble_eq_true rfl⟩ (fun v gz5 Hp lcs hp hM => ?_)
  obtain ⟨rfl, hI⟩ := hp
  refine lv_aload_n hx hb dX6_writeToken_84 rfl (lv_at hl 1 rfl) ?_
  refine lv_iload_n hx hb dX6_writeToken_85 rfl (lv_at hl 0 rfl) ?_
  refine lv_bipush (v := (nI 100)) hx hb dX6_writeToken_86 (by decide +kernel) ?_
  refine ln_irem (codeN x) 100 (by omega) (by omega) (by omega) hx hb dX6_writeToken_88 ?_
  refine lv_iconst (v := (nI 2)) hx hb dX6_writeToken_89 (by decide +kernel) ?_
  refine mm_V (As := [.int (nI ((codeN x) % 100)), .int (nI 2)]) (rest := []) ⟨hx, hb, hml, hown, hts⟩ (c6_writeNumber l G hI (by omega) ((codeN x) % 100) 2 (by omega) (by omega)) (cwV 2 hts gX6_writeToken_X6_writeNumber rfl rfl rfl (by decide +kernel) ⟨Nat.le_of_ble_eq_true rfl, Nat.le_of_ble_eq_true rfl⟩) hK hE hA hM (mm_recv hK hM (hI.obj) (q := (RX6, TX6, 14)) rfl) rfl hl.1 rfl (Nat.le_of_ble_eq_true rfl) dX6_writeToken_90 ⟨Nat.le_of_ble_eq_true rfl, Nat.le_of_ble_eq_true rfl⟩ (fun v gz6 Hp lcs hp hM => ?_)
  obtain ⟨rfl, hI⟩ := hp
  have hnl := numL_le ((codeN x) % 100) 2 (by omega) (by omega)
  exact mm_vret hx hb hlocks hr (Nat.le_of_ble_eq_true rfl) (Nat.le_of_ble_eq_true rfl) hM (⟨rfl, (hI.cO (outW_date _ _ _ _ _ _)).cWr (len_date _ _ _ _ _)⟩) dX6_writeToken_93
theorem c6_writeToken (l : Launch) (G : mG) {f : mE} {w : Nat} {o : Nat} {a : Nat → Nat} {S P lo hi ou : Nat → Int32} {rc isr wd us ab gi wo : Int32} (hI : RI G f o a S P lo hi ou rc isr wd us ab gi (nI w) wo) (hw : w ≤ 286) (kd x : Int32) (hv : vtB kd x = true) : mC l G yX6_writeToken wsX6_writeToken ({ frames := 3, cells := 0, slots := 0, locals := 64 } : Room) f [.ref o, .int kd, .int x] (fun v f1 => v = none ∧ RI G f1 o a S P lo hi (outW ou w (tokL kd x)) rc isr wd us ab gi (nI (w + (tokL kd x).length)) wo) 0 0 := by
  rcases vt_cases hv with ⟨rfl, i, hi, rfl⟩ | ⟨rfl, hx⟩ | ⟨rfl, i, hi, rfl⟩
  · rw [tokL_0 hi]; exact c6_writeToken0 l G hI hw i hi
  · rw [tokL_1]; exact c6_writeToken1 l G hI hw x hx
  · rw [tokL_2 hi]; exact c6_writeToken2 l G hI hw i hi
set_option maxHeartbeats 4000000 in
set_option maxRecDepth 100000 in
theorem c6_writeSentence (l : Launch) (G : mG) {f : mE} {o : Nat} {a : Nat → Nat} {S P lo hi ou : Nat → Int32} {rc isr wd us ab gi wr wo : Int32} (hI : RI G f o a S P lo hi ou rc isr wd us ab gi wr wo) (k : Nat) (hk : k < 16) {ct : Nat} (hct : S (57 + 66 * k + 0) = nI ct) (hc24 : ct ≤ 24) (hvt : ∀ t, t < ct → vtB (S (57 + 66 * k + (1 + t))) (S (57 + 66 * k + (25 + t))) = true) : mC l G yX6_writeSentence wsX6_writeSentence ({ frames := 4, cells := 0, slots := 0, locals := 87 } : Room) f [.ref o, .int (nI k)] (fun v f1 => v = none ∧ RI G f1 o a S P lo hi (outW ou 0 (senL S k ct ++ [nI 46])) rc isr wd us ab gi (nI ((senL S k ct).length + 1)) wo) 0 0 := by
  refine mC.of (cc := cX6_writeSentence) (maxL := 3) (ret := none) (by decide) rfl (Nat.le_of_ble_eq_true rfl) ?_
  intro pgm env s mt args below meth c A ls hx hb hml hr hlocks hown hname hts hK hE hA hM hl
  have hl : lv_has ls 3 [(0, .ref o), (1, .int (nI k))] := hl
  refine lv_aload_n hx hb dX6_writeSentence_0 rfl (lv_at hl 0 rfl) ?_
  refine lv_iconst (v := (nI 0)) hx hb dX6_writeSentence_1 (by decide +kernel) ?_
  refine mm_put (C := RX6) (T := TX6) (N := 14) (k := 12) hx hb hts (fun _ h => List.mem_cons_of_mem _ (List.mem_append_right _ h)) tyX6 tyX6_ok nmX6 hown hK hM (hI.obj) rfl (by decide) (hts (.fieldLink RX6 162 "SentenceRulesModel" "written" "I") (List.mem_of_getElem? (i := 1) rfl)) rfl rfl rfl rfl (Nat.le_of_ble_eq_true rfl) dX6_writeSentence_2 (fun Hp lcs hM => ?_)
  have hI := hI.setObj rc isr wd us ab gi (nI 0) wo
  refine lv_iconst (v := (nI 0)) hx hb dX6_writeSentence_5 (by decide +kernel) ?_
  refine lv_istore_n (lv' := [(2, .int (nI 0)), (0, .ref o), (1, .int (nI k))]) hx hb dX6_writeSentence_6 rfl hl (by decide) rfl (fun ls hl => ?_)
  have loopZ : ∀ (fuel : Nat) (t : Nat) (fz : mE) (Hp : Heap) (lcs : List Loc) (ls : Array Slot) (htN : t ≤ ct) (hIz : RI G fz o a S P lo hi (outW ou 0 (senL S k t)) rc isr wd us ab gi (nI (senL S k t).length) wo) (hfu : ct - t < fuel) (hM : mM G A s.heap fz Hp lcs) (hl : lv_has ls 3 [(0, .ref o), (1, .int (nI k)), (2, .int (nI t))]), W pgm l env ({ frames := 4, cells := 0, slots := 0, locals := 87 } : Room) s mt args below meth c Hp lcs 0 0 (MQ below (mQc G A (fun v f1 => v = none ∧ RI G f1 o a S P lo hi (outW ou 0 (senL S k ct ++ [nI 46])) rc isr wd us ab gi (nI ((senL S k ct).length + 1)) wo)) args s 0 0 A) (F0 mt 7 ls []) := by
    intro fuel
    induction fuel with
    | zero => intro t fz Hp lcs ls htN hIz hfu; exact absurd hfu (Nat.not_lt_zero _)
    | succ fuel ih =>
      intro t fz Hp lcs ls htN hIz hfu hM hl
      have hI := hIz
      have hsl := senL_le hvt (by omega : t ≤ ct)
      refine lv_iload_n hx hb dX6_writeSentence_7 rfl (lv_at hl 2 rfl) ?_
      refine lv_aload_n hx hb dX6_writeSentence_8 rfl (lv_at hl 0 rfl) ?_
      refine lv_iload_n hx hb dX6_writeSentence_9 rfl (lv_at hl 1 rfl) ?_
      refine lv_iconst (v := (nI 0)) hx hb dX6_writeSentence_10 (by decide +kernel) ?_
      refine mm_V (As := [.int (nI k), .int (nI 0)]) (rest := [.int (nI t)]) ⟨hx, hb, hml, hown, hts⟩ (c6_of l G hI k 0 (by omega)) (cwV 2 hts gX6_writeSentence_X6_of rfl rfl rfl (by decide +kernel) ⟨Nat.le_of_ble_eq_true rfl, Nat.le_of_ble_eq_true rfl⟩) hK hE hA hM (mm_recv hK hM (hI.obj) (q := (RX6, TX6, 14)) rfl) rfl hl.1 rfl (Nat.le_of_ble_eq_true rfl) dX6_writeSentence_11 ⟨Nat.le_of_ble_eq_true rfl, Nat.le_of_ble_eq_true rfl⟩ (fun v f1 Hp lcs hp hM => ?_)
      obtain ⟨rfl, hf⟩ := hp; subst hf
      refine mv_top hct ?_
      refine ln_icmp_ge t ct (by omega) (by omega) (tgt := 54) hx hb dX6_writeSentence_14 (by decide) (fun cz1 => ?_) (fun cz1 => ?_)
      · refine lv_aload_n hx hb dX6_writeSentence_54 rfl (lv_at hl 0 rfl) ?_
        refine lv_bipush (v := (nI 46)) hx hb dX6_writeSentence_55 (by decide +kernel) ?_
        refine mm_V (As := [.int (nI 46)]) (rest := []) ⟨hx, hb, hml, hown, hts⟩ (c6_write l G hI (by omega) (nI 46)) (cwV 1 hts gX6_writeSentence_X6_write rfl rfl rfl (by decide +kernel) ⟨Nat.le_of_ble_eq_true rfl, Nat.le_of_ble_eq_true rfl⟩) hK hE hA hM (mm_recv hK hM (hI.obj) (q := (RX6, TX6, 14)) rfl) rfl hl.1 rfl (Nat.le_of_ble_eq_true rfl) dX6_writeSentence_57 ⟨Nat.le_of_ble_eq_true rfl, Nat.le_of_ble_eq_true rfl⟩ (fun v gz2 Hp lcs hp hM => ?_)
        obtain ⟨rfl, hI⟩ := hp
        exact mm_vret hx hb hlocks hr (Nat.le_of_ble_eq_true rfl) (Nat.le_of_ble_eq_true rfl) hM ((by have hz : t = ct := (by omega); subst hz; exact ⟨rfl, hI.cO (outW_t _ _ _)⟩)) dX6_writeSentence_60
      refine lv_iload_n hx hb dX6_writeSentence_17 rfl (lv_at hl 2 rfl) ?_
      refine lv_if_le (tgt := 27) hx hb dX6_writeSentence_18 (by decide) (fun cz3 => ?_) (fun cz3 => ?_)
      · refine lv_aload_n hx hb dX6_writeSentence_27 rfl (lv_at hl 0 rfl) ?_
        refine lv_aload_n hx hb dX6_writeSentence_28 rfl (lv_at hl 0 rfl) ?_
        refine lv_iload_n hx hb dX6_writeSentence_29 rfl (lv_at hl 1 rfl) ?_
        refine lv_iconst (v := (nI 1)) hx hb dX6_writeSentence_30 (by decide +kernel) ?_
        refine lv_iload_n hx hb dX6_writeSentence_31 rfl (lv_at hl 2 rfl) ?_
        refine ln_iadd 1 t hx hb dX6_writeSentence_32 ?_
        refine mm_V (As := [.int (nI k), .int (nI (1 + t))]) (rest := [.ref o]) ⟨hx, hb, hml, hown, hts⟩ (c6_of l G hI k (1 + t) (by omega)) (cwV 2 hts gX6_writeSentence_X6_of rfl rfl rfl (by decide +kernel) ⟨Nat.le_of_ble_eq_true rfl, Nat.le_of_ble_eq_true rfl⟩) hK hE hA hM (mm_recv hK hM (hI.obj) (q := (RX6, TX6, 14)) rfl) rfl hl.1 rfl (Nat.le_of_ble_eq_true rfl) dX6_writeSentence_33 ⟨Nat.le_of_ble_eq_true rfl, Nat.le_of_ble_eq_true rfl⟩ (fun v f1 Hp lcs hp hM => ?_)
        obtain ⟨rfl, hf⟩ := hp; subst hf
        refine lv_aload_n hx hb dX6_writeSentence_36 rfl (lv_at hl 0 rfl) ?_
        refine lv_iload_n hx hb dX6_writeSentence_37 rfl (lv_at hl 1 rfl) ?_
        refine lv_bipush (v := (nI 25)) hx hb dX6_writeSentence_38 (by decide +kernel) ?_
        refine lv_iload_n hx hb dX6_writeSentence_40 rfl (lv_at hl 2 rfl) ?_
        refine ln_iadd 25 t hx hb dX6_writeSentence_41 ?_
        refine mm_V (As := [.int (nI k), .int (nI (25 + t))]) (rest := [.int (S (57 + 66 * k + (1 + t))), .ref o]) ⟨hx, hb, hml, hown, hts⟩ (c6_of l G hI k (25 + t) (by omega)) (cwV 2 hts gX6_writeSentence_X6_of rfl rfl rfl (by decide +kernel) ⟨Nat.le_of_ble_eq_true rfl, Nat.le_of_ble_eq_true rfl⟩) hK hE hA hM (mm_recv hK hM (hI.obj) (q := (RX6, TX6, 14)) rfl) rfl hl.1 rfl (Nat.le_of_ble_eq_true rfl) dX6_writeSentence_42 ⟨Nat.le_of_ble_eq_true rfl, Nat.le_of_ble_eq_true rfl⟩ (fun v f1 Hp lcs hp hM => ?_)
        obtain ⟨rfl, hf⟩ := hp; subst hf
        refine mm_V (As := [.int (S (57 + 66 * k + (1 + t))), .int (S (57 + 66 * k + (25 + t)))]) (rest := []) ⟨hx, hb, hml, hown, hts⟩ (c6_writeToken l G hI (by omega) (S (57 + 66 * k + (1 + t))) (S (57 + 66 * k + (25 + t))) (hvt t (by omega))) (cwV 2 hts gX6_writeSentence_X6_writeToken rfl rfl rfl (by decide +kernel) ⟨Nat.le_of_ble_eq_true rfl, Nat.le_of_ble_eq_true rfl⟩) hK hE hA hM (mm_recv hK hM (hI.obj) (q := (RX6, TX6, 14)) rfl) rfl hl.1 rfl (Nat.le_of_ble_eq_true rfl) dX6_writeSentence_45 ⟨Nat.le_of_ble_eq_true rfl, Nat.le_of_ble_eq_true rfl⟩ (fun v gz4 Hp lcs hp hM => ?_)
        obtain ⟨rfl, hI⟩ := hp
        refine lv_iinc (v := (nI (t + 1))) (lv' := [(2, .int (nI (t + 1))), (0, .ref o), (1, .int (nI k))]) hx hb dX6_writeSentence_48 hl (k := 2) rfl (nI_add _ _) (by decide) rfl (fun ls hl => ?_)
        refine lv_goto (tgt := 7) hx hb dX6_writeSentence_51 (by decide) ?_
        exact ih (t + 1) _ _ _ ls (by omega) ((hI.cO (senL_w0 (nI_z (by omega) cz3))).cWr (senL_n0 (nI_z (by omega) cz3))) (by omega) hM (lv_sub hl [1, 2, 0] rfl)
      refine lv_aload_n hx hb dX6_writeSentence_21 rfl (lv_at hl 0 rfl) ?_
      refine lv_bipush (v := (nI 32)) hx hb dX6_writeSentence_22 (by decide +kernel) ?_
      refine mm_V (As := [.int (nI 32)]) (rest := []) ⟨hx, hb, hml, hown, hts⟩ (c6_write l G hI (by omega) (nI 32)) (cwV 1 hts gX6_writeSentence_X6_write rfl rfl rfl (by decide +kernel) ⟨Nat.le_of_ble_eq_true rfl, Nat.le_of_ble_eq_true rfl⟩) hK hE hA hM (mm_recv hK hM (hI.obj) (q := (RX6, TX6, 14)) rfl) rfl hl.1 rfl (Nat.le_of_ble_eq_true rfl) dX6_writeSentence_24 ⟨Nat.le_of_ble_eq_true rfl, Nat.le_of_ble_eq_true rfl⟩ (fun v gz5 Hp lcs hp hM => ?_)
      obtain ⟨rfl, hI⟩ := hp
      refine lv_aload_n hx hb dX6_writeSentence_27 rfl (lv_at hl 0 rfl) ?_
      refine lv_aload_n hx hb dX6_writeSentence_28 rfl (lv_at hl 0 rfl) ?_
      refine lv_iload_n hx hb dX6_writeSentence_29 rfl (lv_at hl 1 rfl) ?_
      refine lv_iconst (v := (nI 1)) hx hb dX6_writeSentence_30 (by decide +kernel) ?_
      refine lv_iload_n hx hb dX6_writeSentence_31 rfl (lv_at hl 2 rfl) ?_
      refine ln_iadd 1 t hx hb dX6_writeSentence_32 ?_
      refine mm_V (As := [.int (nI k), .int (nI (1 + t))]) (rest := [.ref o]) ⟨hx, hb, hml, hown, hts⟩ (c6_of l G hI k (1 + t) (by omega)) (cwV 2 hts gX6_writeSentence_X6_of rfl rfl rfl (by decide +kernel) ⟨Nat.le_of_ble_eq_true rfl, Nat.le_of_ble_eq_true rfl⟩) hK hE hA hM (mm_recv hK hM (hI.obj) (q := (RX6, TX6, 14)) rfl) rfl hl.1 rfl (Nat.le_of_ble_eq_true rfl) dX6_writeSentence_33 ⟨Nat.le_of_ble_eq_true rfl, Nat.le_of_ble_eq_true rfl⟩ (fun v f1 Hp lcs hp hM => ?_)
      obtain ⟨rfl, hf⟩ := hp; subst hf
      refine lv_aload_n hx hb dX6_writeSentence_36 rfl (lv_at hl 0 rfl) ?_
      refine lv_iload_n hx hb dX6_writeSentence_37 rfl (lv_at hl 1 rfl) ?_
      refine lv_bipush (v := (nI 25)) hx hb dX6_writeSentence_38 (by decide +kernel) ?_
      refine lv_iload_n hx hb dX6_writeSentence_40 rfl (lv_at hl 2 rfl) ?_
      refine ln_iadd 25 t hx hb dX6_writeSentence_41 ?_
      refine mm_V (As := [.int (nI k), .int (nI (25 + t))]) (rest := [.int (S (57 + 66 * k + (1 + t))), .ref o]) ⟨hx, hb, hml, hown, hts⟩ (c6_of l G hI k (25 + t) (by omega)) (cwV 2 hts gX6_writeSentence_X6_of rfl rfl rfl (by decide +kernel) ⟨Nat.le_of_ble_eq_true rfl, Nat.le_of_ble_eq_true rfl⟩) hK hE hA hM (mm_recv hK hM (hI.obj) (q := (RX6, TX6, 14)) rfl) rfl hl.1 rfl (Nat.le_of_ble_eq_true rfl) dX6_writeSentence_42 ⟨Nat.le_of_ble_eq_true rfl, Nat.le_of_ble_eq_true rfl⟩ (fun v f1 Hp lcs hp hM => ?_)
      obtain ⟨rfl, hf⟩ := hp; subst hf
      refine mm_V (As := [.int (S (57 + 66 * k + (1 + t))), .int (S (57 + 66 * k + (25 + t)))]) (rest := []) ⟨hx, hb, hml, hown, hts⟩ (c6_writeToken l G hI (by omega) (S (57 + 66 * k + (1 + t))) (S (57 + 66 * k + (25 + t))) (hvt t (by omega))) (cwV 2 hts gX6_writeSentence_X6_writeToken rfl rfl rfl (by decide +kernel) ⟨Nat.le_of_ble_eq_true rfl, Nat.le_of_ble_eq_true rfl⟩) hK hE hA hM (mm_recv hK hM (hI.obj) (q := (RX6, TX6, 14)) rfl) rfl hl.1 rfl (Nat.le_of_ble_eq_true rfl) dX6_writeSentence_45 ⟨Nat.le_of_ble_eq_true rfl, Nat.le_of_ble_eq_true rfl⟩ (fun v gz6 Hp lcs hp hM => ?_)
      obtain ⟨rfl, hI⟩ := hp
      refine lv_iinc (v := (nI (t + 1))) (lv' := [(2, .int (nI (t + 1))), (0, .ref o), (1, .int (nI k))]) hx hb dX6_writeSentence_48 hl (k := 2) rfl (nI_add _ _) (by decide) rfl (fun ls hl => ?_)
      refine lv_goto (tgt := 7) hx hb dX6_writeSentence_51 (by decide) ?_
      exact ih (t + 1) _ _ _ ls (by omega) ((hI.cO (senL_ws (fun z => cz3 (by rw [z]; decide)))).cWr (senL_ns (fun z => cz3 (by rw [z]; decide)))) (by omega) hM (lv_sub hl [1, 2, 0] rfl)
  exact loopZ (ct + 1) 0 _ _ _ ls (Nat.zero_le _) (by rw [senL, outW_0]; exact hI) (by omega) hM (lv_sub hl [1, 2, 0] rfl)
set_option maxHeartbeats 4000000 in
set_option maxRecDepth 100000 in
theorem c6_length (l : Launch) (G : mG) {f : mE} {o : Nat} {a : Nat → Nat} {S P lo hi ou : Nat → Int32} {rc isr wd us ab gi wr wo : Int32} (hI : RI G f o a S P lo hi ou rc isr wd us ab gi wr wo) {n : Nat} (hn : S 56 = nI n) (hn16 : n ≤ 16) (hct : ∀ k, k < n → S (57 + 66 * k + 0) = nI (ctN S k) ∧ ctN S k ≤ 24) (hvt : ∀ k, k < n → ∀ t, t < ctN S k → vtB (S (57 + 66 * k + (1 + t))) (S (57 + 66 * k + (25 + t))) = true) (k : Int32) : mC l G yX6_length wsX6_length ({ frames := 5, cells := 0, slots := 0, locals := 109 } : Room) f [.ref o, .int k] (fun v f1 => v = some (.int (tolI S k (fun j => nI ((senL S j (ctN S j)).length + 1)))) ∧ ∃ ou1 wr1, RI G f1 o a S P lo hi ou1 rc isr wd us ab gi wr1 wo) 0 0 := by
  refine mC.of (cc := cX6_length) (maxL := 2) (ret := (some .int)) (by decide) rfl (Nat.le_of_ble_eq_true rfl) ?_
  intro pgm env s mt args below meth c A ls hx hb hml hr hlocks hown hname hts hK hE hA hM hl
  have hl : lv_has ls 2 [(0, .ref o), (1, .int k)] := hl
  refine lv_aload_n hx hb dX6_length_0 rfl (lv_at hl 0 rfl) ?_
  refine lv_iload_n hx hb dX6_length_1 rfl (lv_at hl 1 rfl) ?_
  refine mm_V (As := [.int k]) (rest := []) ⟨hx, hb, hml, hown, hts⟩ (c6_isSentence l G hI k) (cwV 1 hts gX6_length_X6_isSentence rfl rfl rfl (by decide +kernel) ⟨Nat.le_of_ble_eq_true rfl, Nat.le_of_ble_eq_true rfl⟩) hK hE hA hM (mm_recv hK hM (hI.obj) (q := (RX6, TX6, 14)) rfl) rfl hl.1 rfl (Nat.le_of_ble_eq_true rfl) dX6_length_2 ⟨Nat.le_of_ble_eq_true rfl, Nat.le_of_ble_eq_true rfl⟩ (fun v f1 Hp lcs hp hM => ?_)
  obtain ⟨rfl, hf⟩ := hp; subst hf
  refine lvb_ne (tgt := 11) hx hb dX6_length_5 (by decide) (fun cz1 => ?_) (fun cz1 => ?_)
  · obtain ⟨j, jN, rfl⟩ := isS_nat hn hn16 cz1
    refine lv_aload_n hx hb dX6_length_11 rfl (lv_at hl 0 rfl) ?_
    refine lv_iload_n hx hb dX6_length_12 rfl (lv_at hl 1 rfl) ?_
    have hsl := senL_le (hvt j (by omega)) (Nat.le_refl _)
    have hsc := (hct j (by omega)).2
    refine mm_V (As := [.int (nI j)]) (rest := []) ⟨hx, hb, hml, hown, hts⟩ (c6_writeSentence l G hI j (by omega) (hct j (by omega)).1 (hct j (by omega)).2 (hvt j (by omega))) (cwV 1 hts gX6_length_X6_writeSentence rfl rfl rfl (by decide +kernel) ⟨Nat.le_of_ble_eq_true rfl, Nat.le_of_ble_eq_true rfl⟩) hK hE hA hM (mm_recv hK hM (hI.obj) (q := (RX6, TX6, 14)) rfl) rfl hl.1 rfl (Nat.le_of_ble_eq_true rfl) dX6_length_13 ⟨Nat.le_of_ble_eq_true rfl, Nat.le_of_ble_eq_true rfl⟩ (fun v gz2 Hp lcs hp hM => ?_)
    obtain ⟨rfl, hI⟩ := hp
    refine lv_aload_n hx hb dX6_length_16 rfl (lv_at hl 0 rfl) ?_
    refine mm_get (C := RX6) (T := TX6) (N := 14) (k := 12) hx hb hts (fun _ h => List.mem_cons_of_mem _ (List.mem_append_right _ h)) hown hK hM (hI.obj) rfl (by decide) (hts (.fieldLink RX6 162 "SentenceRulesModel" "written" "I") (List.mem_of_getElem? (i := 2) rfl)) rfl rfl dX6_length_17 ?_
    exact mm_iret hx hb hlocks hr (Nat.le_of_ble_eq_true rfl) (Nat.le_of_ble_eq_true rfl) hM (⟨congrArg (fun z => some (Value.int z)) (tol_at hn hn16 jN rfl), _, _, hI⟩) dX6_length_20
  refine lv_ldc (v := (-100001)) hx hb hown (hts (.constant RX6 145 (-100001)) (List.mem_of_getElem? (i := 1) rfl)) dX6_length_8 ?_
  exact mm_iret hx hb hlocks hr (Nat.le_of_ble_eq_true rfl) (Nat.le_of_ble_eq_true rfl) hM (⟨congrArg (fun z => some (Value.int z)) (tol_no cz1), _, _, hI⟩) dX6_length_10
set_option maxHeartbeats 4000000 in
set_option maxRecDepth 100000 in
theorem c6_character (l : Launch) (G : mG) {f : mE} {o : Nat} {a : Nat → Nat} {S P lo hi ou : Nat → Int32} {rc isr wd us ab gi wr wo : Int32} (hI : RI G f o a S P lo hi ou rc isr wd us ab gi wr wo) {n : Nat} (hn : S 56 = nI n) (hn16 : n ≤ 16) (hct : ∀ k, k < n → S (57 + 66 * k + 0) = nI (ctN S k) ∧ ctN S k ≤ 24) (hvt : ∀ k, k < n → ∀ t, t < ctN S k → vtB (S (57 + 66 * k + (1 + t))) (S (57 + 66 * k + (25 + t))) = true) (k x : Int32) : mC l G yX6_character wsX6_character ({ frames := 5, cells := 0, slots := 0, locals := 109 } : Room) f [.ref o, .int k, .int x] (fun v f1 => v = some (.int (tolI S k (fun j => if inB x 0 (nI (senL S j (ctN S j)).length) = true then (senL S j (ctN S j) ++ [nI 46]).getD x.toNatClampNeg 0 else -100002))) ∧ ∃ ou1 wr1, RI G f1 o a S P lo hi ou1 rc isr wd us ab gi wr1 wo) 0 0 := by
  refine mC.of (cc := cX6_character) (maxL := 3) (ret := (some .int)) (by decide) rfl (Nat.le_of_ble_eq_true rfl) ?_
  intro pgm env s mt args below meth c A ls hx hb hml hr hlocks hown hname hts hK hE hA hM hl
  have hl : lv_has ls 3 [(0, .ref o), (1, .int k), (2, .int x)] := hl
  refine lv_aload_n hx hb dX6_character_0 rfl (lv_at hl 0 rfl) ?_
  refine lv_iload_n hx hb dX6_character_1 rfl (lv_at hl 1 rfl) ?_
  refine mm_V (As := [.int k]) (rest := []) ⟨hx, hb, hml, hown, hts⟩ (c6_isSentence l G hI k) (cwV 1 hts gX6_character_X6_isSentence rfl rfl rfl (by decide +kernel) ⟨Nat.le_of_ble_eq_true rfl, Nat.le_of_ble_eq_true rfl⟩) hK hE hA hM (mm_recv hK hM (hI.obj) (q := (RX6, TX6, 14)) rfl) rfl hl.1 rfl (Nat.le_of_ble_eq_true rfl) dX6_character_2 ⟨Nat.le_of_ble_eq_true rfl, Nat.le_of_ble_eq_true rfl⟩ (fun v f1 Hp lcs hp hM => ?_)
  obtain ⟨rfl, hf⟩ := hp; subst hf
  refine lvb_ne (tgt := 11) hx hb dX6_character_5 (by decide) (fun cz1 => ?_) (fun cz1 => ?_)
  · obtain ⟨j, jN, rfl⟩ := isS_nat hn hn16 cz1
    refine lv_aload_n hx hb dX6_character_11 rfl (lv_at hl 0 rfl) ?_
    refine lv_iload_n hx hb dX6_character_12 rfl (lv_at hl 1 rfl) ?_
    have hsl := senL_le (hvt j (by omega)) (Nat.le_refl _)
    have hsc := (hct j (by omega)).2
    refine mm_V (As := [.int (nI j)]) (rest := []) ⟨hx, hb, hml, hown, hts⟩ (c6_writeSentence l G hI j (by omega) (hct j (by omega)).1 (hct j (by omega)).2 (hvt j (by omega))) (cwV 1 hts gX6_character_X6_writeSentence rfl rfl rfl (by decide +kernel) ⟨Nat.le_of_ble_eq_true rfl, Nat.le_of_ble_eq_true rfl⟩) hK hE hA hM (mm_recv hK hM (hI.obj) (q := (RX6, TX6, 14)) rfl) rfl hl.1 rfl (Nat.le_of_ble_eq_true rfl) dX6_character_13 ⟨Nat.le_of_ble_eq_true rfl, Nat.le_of_ble_eq_true rfl⟩ (fun v gz2 Hp lcs hp hM => ?_)
    obtain ⟨rfl, hI⟩ := hp
    refine lv_iload_n hx hb dX6_character_16 rfl (lv_at hl 2 rfl) ?_
    refine lv_iconst (v := (nI 0)) hx hb dX6_character_17 (by decide +kernel) ?_
    refine lv_aload_n hx hb dX6_character_18 rfl (lv_at hl 0 rfl) ?_
    refine mm_get (C := RX6) (T := TX6) (N := 14) (k := 12) hx hb hts (fun _ h => List.mem_cons_of_mem _ (List.mem_append_right _ h)) hown hK hM (hI.obj) rfl (by decide) (hts (.fieldLink RX6 162 "SentenceRulesModel" "written" "I") (List.mem_of_getElem? (i := 2) rfl)) rfl rfl dX6_character_19 ?_
    refine lv_iconst (v := (nI 1)) hx hb dX6_character_22 (by decide +kernel) ?_
    refine ln_isub ((senL S j (ctN S j)).length + 1) 1 (by omega) hx hb dX6_character_23 ?_
    refine mv_top (y := (nI ((senL S j (ctN S j)).length))) (congrArg nI (by omega)) ?_
    refine mm_S (As := [.int x, .int (nI 0), .int (nI ((senL S j (ctN S j)).length))]) (rest := []) ⟨hx, hb, hml, hown, hts⟩ (c6_in l G _ x (nI 0) (nI ((senL S j (ctN S j)).length))) (va_cwS 3 hts gX6_character_X6_in rfl rfl rfl (by decide +kernel) ⟨Nat.le_of_ble_eq_true rfl, Nat.le_of_ble_eq_true rfl⟩) hK hE hA hM rfl hl.1 rfl (Nat.le_of_ble_eq_true rfl) dX6_character_24 ⟨Nat.le_of_ble_eq_true rfl, Nat.le_of_ble_eq_true rfl⟩ (fun v f1 Hp lcs hp hM => ?_)
    obtain ⟨rfl, hf⟩ := hp; subst hf
    refine mv_top (y := (bI (inB x 0 (nI ((senL S j (ctN S j)).length))))) rfl ?_
    refine lvb_eq (tgt := 39) hx hb dX6_character_27 (by decide) (fun cz3 => ?_) (fun cz3 => ?_)
    · refine lv_ldc (v := (-100002)) hx hb hown (hts (.constant RX6 64 (-100002)) (List.mem_of_getElem? (i := 4) rfl)) dX6_character_39 ?_
      exact mm_iret hx hb hlocks hr (Nat.le_of_ble_eq_true rfl) (Nat.le_of_ble_eq_true rfl) hM (⟨congrArg (fun z => some (Value.int z)) (tol_at hn hn16 jN (by rw [if_neg (by rw [cz3]; decide)])), _, _, hI⟩) dX6_character_41
    obtain ⟨i, iN, rfl⟩ := inB_nat (K := (senL S j (ctN S j)).length) (by omega) cz3
    refine lv_aload_n hx hb dX6_character_30 rfl (lv_at hl 0 rfl) ?_
    refine mm_get (C := RX6) (T := TX6) (N := 14) (k := 11) hx hb hts (fun _ h => List.mem_cons_of_mem _ (List.mem_append_right _ h)) hown hK hM (hI.obj) rfl (by decide) (hts (.fieldLink RX6 25 "SentenceRulesModel" "out" "[I") (List.mem_of_getElem? (i := 3) rfl)) rfl rfl dX6_character_31 ?_
    refine lv_iload_n hx hb dX6_character_34 rfl (lv_at hl 2 rfl) ?_
    refine mn_iald hx hb hK hM (hI.out) i (by omega) (by decide) dX6_character_35 ?_
    refine lv_goto (tgt := 41) hx hb dX6_character_36 (by decide) ?_
    exact mm_iret hx hb hlocks hr (Nat.le_of_ble_eq_true rfl) (Nat.le_of_ble_eq_true rfl) hM (⟨congrArg (fun z => some (Value.int z)) (tol_at hn hn16 jN (by rw [if_pos cz3, nI_clamp (by omega)]; exact outW_at (by omega))), _, _, hI⟩) dX6_character_41
  refine lv_ldc (v := (-100001)) hx hb hown (hts (.constant RX6 145 (-100001)) (List.mem_of_getElem? (i := 1) rfl)) dX6_character_8 ?_
  exact mm_iret hx hb hlocks hr (Nat.le_of_ble_eq_true rfl) (Nat.le_of_ble_eq_true rfl) hM (⟨congrArg (fun z => some (Value.int z)) (tol_no cz1), _, _, hI⟩) dX6_character_10
