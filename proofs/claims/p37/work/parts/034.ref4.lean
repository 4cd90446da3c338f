/-! THE REFERENCE: what is told, meetings, contradictions -/
def tolI (S : Nat → Int32) (k : Int32) (g : Nat → Int32) : Int32 := if inB k 0 (S 56 - 1) = true then g k.toNatClampNeg else -100001
theorem inB_nat {k : Int32} {K : Nat} (hK : K < 2 ^ 31) (h : inB k 0 (nI K) = true) : ∃ i, i ≤ K ∧ k = nI i := by
  rw [inB, Bool.and_eq_true, decide_eq_true_eq, decide_eq_true_eq] at h
  exact nI_of2 (nI_toInt hK) (Int32.not_lt.mpr h.1) h.2
theorem isS_nat {S : Nat → Int32} {k : Int32} {n : Nat} (hn : S 56 = nI n) (hn16 : n ≤ 16) (h : inB k 0 (S 56 - 1) = true) : ∃ j, j < n ∧ k = nI j := by
  rw [hn] at h
  cases n with
  | zero =>
    rw [inB, Bool.and_eq_true, decide_eq_true_eq, decide_eq_true_eq] at h
    have h1 := Int32.le_iff_toInt_le.mp h.1
    have h2 := Int32.le_iff_toInt_le.mp h.2
    have e1 : (nI 0 - 1 : Int32).toInt = -1 := by decide
    rw [e1] at h2
    rw [Int32.toInt_zero] at h1
    omega
  | succ m =>
    rw [nI_pred m] at h
    obtain ⟨i, hi, e⟩ := inB_nat (by omega) h
    exact ⟨i, by omega, e⟩
theorem tol_no {S : Nat → Int32} {k : Int32} {g : Nat → Int32} (h : inB k 0 (S 56 - 1) = false) : (-100001) = tolI S k g := by
  rw [tolI, if_neg (by rw [h]; decide)]
theorem isS_t {S : Nat → Int32} {n j : Nat} (hn : S 56 = nI n) (hn16 : n ≤ 16) (hj : j < n) : inB (nI j) 0 (S 56 - 1) = true := by
  rw [hn]
  cases n with
  | zero => omega
  | succ m =>
    rw [nI_pred m, show (0 : Int32) = nI 0 from rfl, inB_nI (by omega) (by omega) (by omega)]
    simp; omega
theorem tol_at {S : Nat → Int32} {n j : Nat} {x : Int32} {g : Nat → Int32} (hn : S 56 = nI n) (hn16 : n ≤ 16) (hj : j < n) (e : x = g j) : x = tolI S (nI j) g := by
  rw [tolI, if_pos (isS_t hn hn16 hj), nI_clamp (by omega)]; exact e
def metLo (S : Nat → Int32) (x y i : Nat) : Int32 := if S (57 + 66 * y + (52 + i)) < S (57 + 66 * x + (52 + i)) then S (57 + 66 * x + (52 + i)) else S (57 + 66 * y + (52 + i))
def metHi (S : Nat → Int32) (x y i : Nat) : Int32 := if S (57 + 66 * x + (59 + i)) < S (57 + 66 * y + (59 + i)) then S (57 + 66 * x + (59 + i)) else S (57 + 66 * y + (59 + i))
def meeQ (S : Nat → Int32) (x y i : Nat) : Bool := !decide (metHi S x y i < metLo S x y i)
def hrgQ (S lo hi : Nat → Int32) (k i : Nat) : Bool := decide (S (57 + 66 * k + (52 + i)) = lo i) && decide (S (57 + 66 * k + (59 + i)) = hi i)
theorem hrg_fil (S g g2 lo hi : Nat → Int32) (k : Nat) : allN (hrgQ S (filN g lo 7) (filN g2 hi 7) k) 7 = allN (hrgQ S g g2 k) 7 :=
  allN_cong (fun i hi => by simp [hrgQ, filN, hi])
def ctdQ (S : Nat → Int32) (x y k : Nat) : Bool := decide (S (57 + 66 * k + 49) = S (57 + 66 * x + 49)) && allN (hrgQ S (metLo S x y) (metHi S x y) k) 7
def ctdP (S : Nat → Int32) (x y : Nat) : Bool := !decide (nI 10 ≤ S (57 + 66 * x + 49)) && (decide (S (57 + 66 * y + 49) = S (57 + 66 * x + 49)) && (!decide (S (57 + 66 * x + 50) = S (57 + 66 * y + 50)) && (!strB S x y && (!strB S y x && allN (meeQ S x y) 7))))
def ctdB (S : Nat → Int32) (n x y : Nat) : Bool := ctdP S x y && !exN (ctdQ S x y) n
theorem ctdB_t {S : Nat → Int32} {n x y : Nat} (h : ctdP S x y = true) (h2 : exN (ctdQ S x y) n = false) : ctdB S n x y = true := by rw [ctdB, h, h2]; rfl
theorem ctdB_f {S : Nat → Int32} {n x y : Nat} (h : ctdP S x y = false) : ctdB S n x y = false := by rw [ctdB, h]; rfl
theorem ctdB_x {S : Nat → Int32} {n x y : Nat} (h : exN (ctdQ S x y) n = true) : ctdB S n x y = false := by rw [ctdB, h]; simp
theorem exN_iff {q : Nat → Bool} : ∀ {n : Nat}, exN q n = true ↔ ∃ i, i < n ∧ q i = true
  | 0 => ⟨fun h => absurd (h : false = true) Bool.false_ne_true, fun ⟨i, h, _⟩ => absurd h (Nat.not_lt_zero i)⟩
  | n + 1 => by
    rw [exN, Bool.or_eq_true, exN_iff]
    exact ⟨fun h => h.elim (fun ⟨i, hi, e⟩ => ⟨i, Nat.lt_succ_of_lt hi, e⟩) (fun e => ⟨n, Nat.lt_succ_self n, e⟩), fun ⟨i, hi, e⟩ => (Nat.lt_succ_iff_lt_or_eq.mp hi).elim (fun z => Or.inl ⟨i, z, e⟩) (fun z => Or.inr (z ▸ e))⟩
theorem exN_yes {q : Nat → Bool} {n i : Nat} (hi : i < n) (h : q i = true) : exN q n = true := exN_iff.mpr ⟨i, hi, h⟩
theorem exN_no {q : Nat → Bool} {n : Nat} (h : ∀ i, i < n → q i = false) : exN q n = false := by
  cases e : exN q n with
  | false => rfl
  | true => obtain ⟨i, hi, z⟩ := exN_iff.mp e; rw [h i hi] at z; cases z
