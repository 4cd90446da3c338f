/-! THE REFERENCE: its cells, and what it holds (a: the rows' places; S: the present state; P: the recorded ones) -/
def vocF : Nat → Int32 := fun j => ([249, 1111, 399641, 7008274, 262, 311436, 11438892, 10631, 131638, 11450658, 923, 136650677, 381245, 1905275, 1253699, 2947858, 7096509, 275568984, 10354323, 6410291, 2690359, 237470, 4514, 355568, 6564179, 4075223] : List Int32).getD j 0
def RI (G : mG) (f : mE) (o : Nat) (a : Nat → Nat) (S P lo hi ou : Nat → Int32) (rc isr wd us ab gi wr wo : Int32) : Prop :=
  f o = some (.inr (7, [.ref (a 0), .ref (a 1), .ref (a 2), .int rc, .int isr, .int wd, .ref (a 3), .ref (a 4), .int us, .int ab, .int gi, .ref (a 5), .int wr, .int wo])) ∧ f (a 0) = some (mI G 1113 S) ∧ f (a 1) = some (mI G 26 vocF) ∧ f (a 2) = some (mI G 8904 P) ∧ f (a 3) = some (mI G 7 lo) ∧ f (a 4) = some (mI G 7 hi) ∧ f (a 5) = some (mI G 300 ou) ∧ a 3 ≠ a 4
theorem ne_oi {f : mE} {x y : Nat} {u : Nat × List Value} {v : ClassId × vp_A} (hx : f x = some (.inr u)) (hy : f y = some (.inl v)) : x ≠ y := fun h => by
  rw [h, hy] at hx; cases hx
theorem ne_len {G : mG} {f : mE} {x y n n2 : Nat} {g g2 : Nat → Int32} (hx : f x = some (mI G n g)) (hy : f y = some (mI G n2 g2)) (hn : n ≠ n2) : x ≠ y := fun h => by
  rw [h, hy] at hx
  have h1 := Sum.inl.inj (Option.some.inj hx)
  exact hn (congrArg (fun q => q.2.1) h1).symm
section RF
variable {G : mG} {f : mE} {o : Nat} {a : Nat → Nat} {S P lo hi ou : Nat → Int32} {rc isr wd us ab gi wr wo : Int32}
theorem RI.obj (h : RI G f o a S P lo hi ou rc isr wd us ab gi wr wo) : f o = some (.inr (7, [.ref (a 0), .ref (a 1), .ref (a 2), .int rc, .int isr, .int wd, .ref (a 3), .ref (a 4), .int us, .int ab, .int gi, .ref (a 5), .int wr, .int wo])) := h.1
theorem RI.now (h : RI G f o a S P lo hi ou rc isr wd us ab gi wr wo) : f (a 0) = some (mI G 1113 S) := h.2.1
theorem RI.voc (h : RI G f o a S P lo hi ou rc isr wd us ab gi wr wo) : f (a 1) = some (mI G 26 vocF) := h.2.2.1
theorem RI.past (h : RI G f o a S P lo hi ou rc isr wd us ab gi wr wo) : f (a 2) = some (mI G 8904 P) := h.2.2.2.1
theorem RI.low (h : RI G f o a S P lo hi ou rc isr wd us ab gi wr wo) : f (a 3) = some (mI G 7 lo) := h.2.2.2.2.1
theorem RI.high (h : RI G f o a S P lo hi ou rc isr wd us ab gi wr wo) : f (a 4) = some (mI G 7 hi) := h.2.2.2.2.2.1
theorem RI.out (h : RI G f o a S P lo hi ou rc isr wd us ab gi wr wo) : f (a 5) = some (mI G 300 ou) := h.2.2.2.2.2.2.1
theorem RI.lohi (h : RI G f o a S P lo hi ou rc isr wd us ab gi wr wo) : a 3 ≠ a 4 := h.2.2.2.2.2.2.2
theorem RI.setNow (h : RI G f o a S P lo hi ou rc isr wd us ab gi wr wo) (T : Nat → Int32) : RI G (va_up f (a 0) (some (mI G 1113 T))) o a T P lo hi ou rc isr wd us ab gi wr wo :=
  ⟨(va_up_ne _ _ (ne_oi h.obj h.now)).trans h.obj, va_up_self _ _ _, (va_up_ne _ _ (ne_len h.voc h.now (by decide))).trans h.voc, (va_up_ne _ _ (ne_len h.past h.now (by decide))).trans h.past, (va_up_ne _ _ (ne_len h.low h.now (by decide))).trans h.low, (va_up_ne _ _ (ne_len h.high h.now (by decide))).trans h.high, (va_up_ne _ _ (ne_len h.out h.now (by decide))).trans h.out, h.lohi⟩
theorem RI.setPast (h : RI G f o a S P lo hi ou rc isr wd us ab gi wr wo) (T : Nat → Int32) : RI G (va_up f (a 2) (some (mI G 8904 T))) o a S T lo hi ou rc isr wd us ab gi wr wo :=
  ⟨(va_up_ne _ _ (ne_oi h.obj h.past)).trans h.obj, (va_up_ne _ _ (ne_len h.now h.past (by decide))).trans h.now, (va_up_ne _ _ (ne_len h.voc h.past (by decide))).trans h.voc, va_up_self _ _ _, (va_up_ne _ _ (ne_len h.low h.past (by decide))).trans h.low, (va_up_ne _ _ (ne_len h.high h.past (by decide))).trans h.high, (va_up_ne _ _ (ne_len h.out h.past (by decide))).trans h.out, h.lohi⟩
theorem RI.setLow (h : RI G f o a S P lo hi ou rc isr wd us ab gi wr wo) (T : Nat → Int32) : RI G (va_up f (a 3) (some (mI G 7 T))) o a S P T hi ou rc isr wd us ab gi wr wo :=
  ⟨(va_up_ne _ _ (ne_oi h.obj h.low)).trans h.obj, (va_up_ne _ _ (ne_len h.now h.low (by decide))).trans h.now, (va_up_ne _ _ (ne_len h.voc h.low (by decide))).trans h.voc, (va_up_ne _ _ (ne_len h.past h.low (by decide))).trans h.past, va_up_self _ _ _, (va_up_ne _ _ (Ne.symm h.lohi)).trans h.high, (va_up_ne _ _ (ne_len h.out h.low (by decide))).trans h.out, h.lohi⟩
theorem RI.setHigh (h : RI G f o a S P lo hi ou rc isr wd us ab gi wr wo) (T : Nat → Int32) : RI G (va_up f (a 4) (some (mI G 7 T))) o a S P lo T ou rc isr wd us ab gi wr wo :=
  ⟨(va_up_ne _ _ (ne_oi h.obj h.high)).trans h.obj, (va_up_ne _ _ (ne_len h.now h.high (by decide))).trans h.now, (va_up_ne _ _ (ne_len h.voc h.high (by decide))).trans h.voc, (va_up_ne _ _ (ne_len h.past h.high (by decide))).trans h.past, (va_up_ne _ _ h.lohi).trans h.low, va_up_self _ _ _, (va_up_ne _ _ (ne_len h.out h.high (by decide))).trans h.out, h.lohi⟩
theorem RI.setOut (h : RI G f o a S P lo hi ou rc isr wd us ab gi wr wo) (T : Nat → Int32) : RI G (va_up f (a 5) (some (mI G 300 T))) o a S P lo hi T rc isr wd us ab gi wr wo :=
  ⟨(va_up_ne _ _ (ne_oi h.obj h.out)).trans h.obj, (va_up_ne _ _ (ne_len h.now h.out (by decide))).trans h.now, (va_up_ne _ _ (ne_len h.voc h.out (by decide))).trans h.voc, (va_up_ne _ _ (ne_len h.past h.out (by decide))).trans h.past, (va_up_ne _ _ (ne_len h.low h.out (by decide))).trans h.low, (va_up_ne _ _ (ne_len h.high h.out (by decide))).trans h.high, va_up_self _ _ _, h.lohi⟩
theorem RI.setObj (h : RI G f o a S P lo hi ou rc isr wd us ab gi wr wo) (rc' isr' wd' us' ab' gi' wr' wo' : Int32) : RI G (va_up f o (some (.inr (7, [.ref (a 0), .ref (a 1), .ref (a 2), .int rc', .int isr', .int wd', .ref (a 3), .ref (a 4), .int us', .int ab', .int gi', .ref (a 5), .int wr', .int wo'])))) o a S P lo hi ou rc' isr' wd' us' ab' gi' wr' wo' :=
  ⟨va_up_self _ _ _, (va_up_ne _ _ (ne_oi h.obj h.now).symm).trans h.now, (va_up_ne _ _ (ne_oi h.obj h.voc).symm).trans h.voc, (va_up_ne _ _ (ne_oi h.obj h.past).symm).trans h.past, (va_up_ne _ _ (ne_oi h.obj h.low).symm).trans h.low, (va_up_ne _ _ (ne_oi h.obj h.high).symm).trans h.high, (va_up_ne _ _ (ne_oi h.obj h.out).symm).trans h.out, h.lohi⟩
end RF
/-! words of the state -/
def inB (v x y : Int32) : Bool := decide (x ≤ v) && decide (v ≤ y)
def ofS (S : Nat → Int32) (k w : Nat) : Int32 := S (57 + 66 * k + w)
def leastI (k : Nat) : Int32 := if k < 4 then -9999 else 0
def greatestI (k : Nat) : Int32 := if k < 4 then 9999 else 73048
theorem ret_t {b : Bool} {f : mE} (h : b = true) : some (Value.int (nI 1)) = some (Value.int (bI b)) ∧ f = f := by rw [h]; exact ⟨rfl, rfl⟩
theorem ret_f {b : Bool} {f : mE} (h : b = false) : some (Value.int (nI 0)) = some (Value.int (bI b)) ∧ f = f := by rw [h]; exact ⟨rfl, rfl⟩
theorem ret_v {x y : Int32} {f : mE} (h : x = y) : some (Value.int x) = some (Value.int y) ∧ f = f := by rw [h]; exact ⟨rfl, rfl⟩
theorem inB_t {v x y : Int32} (h1 : ¬ v < x) (h2 : ¬ y < v) : inB v x y = true := by
  rw [inB, Bool.and_eq_true, decide_eq_true_eq, decide_eq_true_eq]; exact ⟨Int32.not_lt.mp h1, Int32.not_lt.mp h2⟩
theorem inB_f1 {v x y : Int32} (h : v < x) : inB v x y = false := by
  rw [inB, Bool.and_eq_false_iff, decide_eq_false_iff_not]; exact Or.inl (Int32.not_le.mpr h)
theorem inB_f2 {v x y : Int32} (h : y < v) : inB v x y = false := by
  rw [inB, Bool.and_eq_false_iff, decide_eq_false_iff_not, decide_eq_false_iff_not]; exact Or.inr (Int32.not_le.mpr h)
theorem accEnd {b : Bool} {q : Nat → Bool} {i n : Nat} (h : (b && allN q i) = false) (hin : i ≤ n) : (b && allN q i) = (b && allN q n) := by
  rw [h]
  cases b with
  | false => rfl
  | true =>
    cases e : allN q n with
    | false => rfl
    | true =>
      have : allN q i = true := allN_iff.mpr (fun j hj => allN_iff.mp e j (by omega))
      rw [this] at h; cases h
theorem inB_nI {k x y : Nat} (hk : k < 2 ^ 31) (hx : x < 2 ^ 31) (hy : y < 2 ^ 31) : inB (nI k) (nI x) (nI y) = (decide (x ≤ k) && decide (k ≤ y)) := by
  simp only [inB, nI_leI hx hk, nI_leI hk hy]
/-- g up to n, then f -/
def filN (g f : Nat → Int32) (n : Nat) : Nat → Int32 := fun j => if j < n then g j else f j
theorem filN_0 (g f : Nat → Int32) : filN g f 0 = f := rfl
theorem filN_s (g f : Nat → Int32) (n : Nat) : upd (filN g f n) n (g n) = filN g f (n + 1) := by
  funext j
  unfold upd filN
  by_cases h : j = n
  · subst h; simp
  · by_cases h2 : j < n
    · simp [h, h2, Nat.lt_succ_of_lt h2]
    · have : ¬ j < n + 1 := by omega
      simp [h, h2, this]
theorem filN_at (g f : Nat → Int32) (n : Nat) : filN g f n n = f n := by simp [filN]
