/-! THE REFERENCE: its cells, and what it holds (a: the rows' places; S: the present state; P: the recorded ones) -/
def vocF : Nat → Int32 := fun j => ([249, 1111, 399641, 7008274, 262, 311436, 11438892, 10631, 131638, 11450658, 923, 136650677, 381245, 1905275, 1253699, 2947858, 7096509, 275568984, 10354323, 6410291, 2690359, 237470, 4514, 355568, 6564179, 4075223] : List Int32).getD j 0
theorem ne_oi {f : mE} {x y : Nat} {u : Nat × List Value} {v : ClassId × vp_A} (hx : f x = some (.inr u)) (hy : f y = some (.inl v)) : x ≠ y := fun h => by
  rw [h, hy] at hx; cases hx
theorem ne_len {G : mG} {f : mE} {x y n n2 : Nat} {g g2 : Nat → Int32} (hx : f x = some (mI G n g)) (hy : f y = some (mI G n2 g2)) (hn : n ≠ n2) : x ≠ y := fun h => by
  rw [h, hy] at hx
  have h1 := Sum.inl.inj (Option.some.inj hx)
  exact hn (congrArg (fun q => q.2.1) h1).symm
section RF
variable {G : mG} {f : mE} {o : Nat} {a : Nat → Nat} {S P lo hi ou : Nat → Int32} {rc isr wd us ab gi wr wo : Int32}
end RF
/-! words of the state -/
def inB (v x y : Int32) : Bool := decide (x ≤ v) && decide (v ≤ y)
def ofS (S : Nat → Int32) (k w : Nat) : Int32 := S (57 + 66 * k + w)
def leastI (k : Nat) : Int32 := if k < 4 then -9999 else 0
def greatestI (k : Nat) : Int32 := if k < 4 then 9999 else 73048
theorem ret_t {b : Bool} {f : mE} (h : b = true) : some (Value.int (nI 1)) = some (Value.int (bI b)) ∧ f = f := by rw [h]; exact ⟨rfl, rfl⟩
theorem ret_f {b : Bool} {f : mE} (h : b = false) : some (Value.int (nI 0)) = some (Value.int (bI b)) ∧ f = f := by rw [h]; exact ⟨rfl, rfl⟩
theorem ret_v {x y : Int32} {f : mE} (h : x = y) : some (Value.int x) = some (Value.int y) ∧ f = f := by rw [h]; exact ⟨rfl, rfl⟩
theorem inB_t {v x y : Int32} (h1 : ¬ v < x) (h2 : ¬ y < v) : inB v x y = true := by
  rw [inB, Bool.and_eq_true, decide_eq_true_eq, decide_eq_true_eq]; exact ⟨Int32.not_lt.mp h1, Int32.not_lt.mp h2⟩
theorem inB_f1 {v x y : Int32} (h : v < x) : inB v x y = false := by
  rw [inB, Bool.and_eq_false_iff, decide_eq_false_iff_not]; exact Or.inl (Int32.not_le.mpr h)
theorem inB_f2 {v x y : Int32} (h : y < v) : inB v x y = false := by
  rw [inB, Bool.and_eq_false_iff, decide_eq_false_iff_not, decide_eq_false_iff_not]; exact Or.inr (Int32.not_le.mpr h)
theorem accEnd {b : Bool} {q : Nat → Bool} {i n : Nat} (h : (b && allN q i) = false) (hin : i ≤ n) : (b && allN q i) = (b && allN q n) := by
  rw [h]
  cases b with
  | false => rfl
  | true =>
    cases e : allN q n with
    | false => rfl
    | true =>
      have : allN q i = true := allN_iff.mpr (fun j hj => allN_iff.mp e j (by omega))
      rw [this] at h; cases h
theorem inB_nI {k x y : Nat} (hk : k < 2 ^ 31) (hx : x < 2 ^ 31) (hy : y < 2 ^ 31) : inB (nI k) (nI x) (nI y) = (decide (x ≤ k) && decide (k ≤ y)) := by
  simp only [inB, nI_leI hx hk, nI_leI hk hy]
/-- g up to n, then f -/
def filN (g f : Nat → Int32) (n : Nat) : Nat → Int32 := fun j => if j < n then g j else f j
theorem filN_0 (g f : Nat → Int32) : filN g f 0 = f := rfl
theorem filN_s (g f : Nat → Int32) (n : Nat) : upd (filN g f n) n (g n) = filN g f (n + 1) := by
  funext j
  unfold upd filN
  by_cases h : j = n
  · subst h; simp
  · by_cases h2 : j < n
    · simp [h, h2, Nat.lt_succ_of_lt h2]
    · have : ¬ j < n + 1 := by omega
      simp [h, h2, this]
theorem filN_at (g f : Nat → Int32) (n : Nat) : filN g f n n = f n := by simp [filN]

