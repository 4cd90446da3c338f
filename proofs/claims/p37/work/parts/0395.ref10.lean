/-! THE REFERENCE: a sentence, read -/
def leaN (i : Nat) : Int32 := leastF (nI i)
def greN (i : Nat) : Int32 := greatestF (nI i)
theorem nfK_le (S : Nat → Int32) (k : Nat) : nfK S k ≤ k + 2 := by unfold nfK; split <;> omega
theorem nfK_ge (S : Nat → Int32) (k : Nat) : k + 1 ≤ nfK S k := by unfold nfK; omega
theorem fact_nat {x : Int32} (h : inB x 10 15 = true) : ∃ t, t < 6 ∧ x = nI (10 + t) := by
  obtain ⟨i, h1, h2, e⟩ := inB_nat2 (L := 10) (K := 15) (by decide) (by decide) h
  exact ⟨i - 10, by omega, by rw [e]; congr 1; omega⟩
def rsK (S : Nat → Int32) (k : Nat) : Nat := if inB (S (7 + 25 + k)) 16 21 = true then k + 1 else if inB (S (7 + 25 + k)) 10 15 = true then nfK S k + 2 else if inB (S (7 + 25 + k)) 22 25 = true then k + 3 else if S (7 + 25 + k) = nI 8 then k + 2 else if S (7 + 25 + k) = nI 9 then k + 2 else k + 1
def rsLo (S : Nat → Int32) (n k : Nat) (lo : Nat → Int32) : Nat → Int32 := if inB (S (7 + 25 + k)) 16 21 = true then narLo S n (S (7 + 25 + k) - nI 16) lo else if inB (S (7 + 25 + k)) 10 15 = true then nfLo S ((S (7 + 25 + k)).toNatClampNeg - 10) k lo else if inB (S (7 + 25 + k)) 22 25 = true then lo else if S (7 + 25 + k) = nI 8 then upd lo 6 (atlF (lo 6) (S (7 + 25 + (k + 1)))) else if S (7 + 25 + k) = nI 9 then lo else lo
def rsHi (S : Nat → Int32) (n k : Nat) (hi : Nat → Int32) : Nat → Int32 := if inB (S (7 + 25 + k)) 16 21 = true then narHi S n (S (7 + 25 + k) - nI 16) hi else if inB (S (7 + 25 + k)) 10 15 = true then nfHi S ((S (7 + 25 + k)).toNatClampNeg - 10) k hi else if inB (S (7 + 25 + k)) 22 25 = true then hi else if S (7 + 25 + k) = nI 8 then hi else if S (7 + 25 + k) = nI 9 then upd hi 6 (atmF (hi 6) (S (7 + 25 + (k + 1)))) else hi
def rsU (S : Nat → Int32) (k : Nat) (us : Int32) : Int32 := if inB (S (7 + 25 + k)) 16 21 = true then us ||| (nI 1 <<< ((S (7 + 25 + k) - nI 16) &&& 31)) else if inB (S (7 + 25 + k)) 10 15 = true then us else if inB (S (7 + 25 + k)) 22 25 = true then us else if S (7 + 25 + k) = nI 8 then us else if S (7 + 25 + k) = nI 9 then us else us
def rsA (S : Nat → Int32) (k : Nat) (ab : Int32) : Int32 := if inB (S (7 + 25 + k)) 16 21 = true then ab else if inB (S (7 + 25 + k)) 10 15 = true then ab else if inB (S (7 + 25 + k)) 22 25 = true then S (7 + 25 + k) - nI 22 else if S (7 + 25 + k) = nI 8 then ab else if S (7 + 25 + k) = nI 9 then ab else ab
def rsG (S : Nat → Int32) (k : Nat) (gi : Int32) : Int32 := if inB (S (7 + 25 + k)) 16 21 = true then gi else if inB (S (7 + 25 + k)) 10 15 = true then gi else if inB (S (7 + 25 + k)) 22 25 = true then S (7 + 25 + (k + 2)) else if S (7 + 25 + k) = nI 8 then gi else if S (7 + 25 + k) = nI 9 then gi else gi
theorem rsK_gt (S : Nat → Int32) (k : Nat) : k < rsK S k := by
  have := nfK_ge S k
  unfold rsK
  repeat' split
  all_goals omega
def rsF (S : Nat → Int32) (n c : Nat) : Nat → Nat → (Nat → Int32) → (Nat → Int32) → Int32 → Int32 → Int32 → (Nat → Int32) × (Nat → Int32) × Int32 × Int32 × Int32
  | 0, _, lo, hi, us, ab, gi => (lo, hi, us, ab, gi)
  | m + 1, k, lo, hi, us, ab, gi => if k < c then rsF S n c m (rsK S k) (rsLo S n k lo) (rsHi S n k hi) (rsU S k us) (rsA S k ab) (rsG S k gi) else (lo, hi, us, ab, gi)
theorem rsF_st {S : Nat → Int32} {n c : Nat} : ∀ {m m2 k : Nat} {lo hi : Nat → Int32} {us ab gi : Int32}, c - k < m → c - k < m2 → rsF S n c m k lo hi us ab gi = rsF S n c m2 k lo hi us ab gi
  | 0, _, k, _, _, _, _, _, h, _ => absurd h (Nat.not_lt_zero _)
  | _ + 1, 0, k, _, _, _, _, _, _, h => absurd h (Nat.not_lt_zero _)
  | m + 1, m2 + 1, k, lo, hi, us, ab, gi, h, h2 => by
    have hg := rsK_gt S k
    rw [rsF, rsF]
    split
    · exact rsF_st (by omega) (by omega)
    · rfl
theorem rsF_end {S : Nat → Int32} {n c m k : Nat} {lo hi : Nat → Int32} {us ab gi : Int32} (h : c ≤ k) : rsF S n c (m + 1) k lo hi us ab gi = (lo, hi, us, ab, gi) := by rw [rsF, if_neg (by omega)]
theorem rsF_next {S : Nat → Int32} {n c k k2 : Nat} {lo hi l2 h2 : Nat → Int32} {us ab gi u2 a2 g2 : Int32} {Z : (Nat → Int32) × (Nat → Int32) × Int32 × Int32 × Int32} (hk : k < c) (_ : c - k2 < c - k + 1) (hfin : ∀ m, c - k < m → rsF S n c m k lo hi us ab gi = Z) (eK : k2 = rsK S k) (eL : l2 = rsLo S n k lo) (eH : h2 = rsHi S n k hi) (eU : u2 = rsU S k us) (eA : a2 = rsA S k ab) (eG : g2 = rsG S k gi) : ∀ m, c - k2 < m → rsF S n c m k2 l2 h2 u2 a2 g2 = Z := by
  subst eK; subst eL; subst eH; subst eU; subst eA; subst eG
  intro m hm
  have hg := rsK_gt S k
  rw [rsF_st hm (show c - rsK S k < c - k by omega), ← hfin (c - k + 1) (by omega), rsF, if_pos hk]
def rs0K (S : Nat → Int32) : Nat := if inB (S (7 + 25 + 0)) 16 21 = true ∧ S (7 + 1 + 0) = 0 then 2 else if S (7 + 25 + 0) = 0 then 1 else 0
def rs0A (S : Nat → Int32) (ab : Int32) : Int32 := if inB (S (7 + 25 + 0)) 16 21 = true ∧ S (7 + 1 + 0) = 0 then S (7 + 25 + 0) - nI 6 else ab
theorem rs0K_1 {S : Nat → Int32} (h : inB (S (7 + 25 + 0)) 16 21 = true) (h2 : S (7 + 1 + 0) = 0) : rs0K S = 2 := if_pos ⟨h, h2⟩
theorem rs0A_1 {S : Nat → Int32} {ab : Int32} (h : inB (S (7 + 25 + 0)) 16 21 = true) (h2 : S (7 + 1 + 0) = 0) : rs0A S ab = S (7 + 25 + 0) - nI 6 := if_pos ⟨h, h2⟩
theorem rs0K_2 {S : Nat → Int32} (h : ¬ (inB (S (7 + 25 + 0)) 16 21 = true ∧ S (7 + 1 + 0) = 0)) (h2 : S (7 + 25 + 0) = 0) : rs0K S = 1 := by rw [rs0K, if_neg h, if_pos h2]
theorem rs0K_3 {S : Nat → Int32} (h : ¬ (inB (S (7 + 25 + 0)) 16 21 = true ∧ S (7 + 1 + 0) = 0)) (h2 : ¬ S (7 + 25 + 0) = 0) : rs0K S = 0 := by rw [rs0K, if_neg h, if_neg h2]
theorem rs0A_2 {S : Nat → Int32} {ab : Int32} (h : ¬ (inB (S (7 + 25 + 0)) 16 21 = true ∧ S (7 + 1 + 0) = 0)) : rs0A S ab = ab := if_neg h
def rsAll (S : Nat → Int32) (n c : Nat) (lo hi : Nat → Int32) (ab : Int32) : (Nat → Int32) × (Nat → Int32) × Int32 × Int32 × Int32 := rsF S n c (c + 1) (rs0K S) (filN leaN lo 7) (filN greN hi 7) (nI 0) (rs0A S ab) (-100005)
