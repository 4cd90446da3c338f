/-! THE CLASS: cells and small words -/
theorem mM.up {G : mG} {A : Nat → Prop} {H0 : Heap} {f : mE} {a : Nat} {e : va_E} {H : Heap} {locs : List Loc} (h : mM G A H0 (va_up f a (some e)) H locs) : ∃ f2, mM G A H0 f2 H locs ∧ f2 a = some e ∧ ∀ b, b ≠ a → f2 b = f b :=
  ⟨_, h, va_up_self _ _ _, fun b hb => va_up_ne _ _ hb⟩
theorem ne_oo {f : mE} {x y : Nat} {u v : Nat × List Value} (hx : f x = some (.inr u)) (hy : f y = some (.inr v)) (hn : u.1 ≠ v.1) : x ≠ y := fun h => by
  rw [h, hy] at hx
  exact hn (congrArg Prod.fst (Sum.inr.inj (Option.some.inj hx))).symm
theorem ne_e {f : mE} {x y : Nat} {u v : va_E} (hx : f x = some u) (hy : f y = some v) (hn : u ≠ v) : x ≠ y := fun h => by
  rw [h, hy] at hx
  exact hn (Option.some.inj hx).symm
theorem lt_nI (k : Int32) (n : Nat) (h : n + 1 < 2 ^ 31) : ¬ (nI (n + 1) ≤ k) ↔ k ≤ nI n := by
  rw [Int32.le_iff_toInt_le, Int32.le_iff_toInt_le, nI_toInt h, nI_toInt (by omega)]; omega
theorem fac_t {k : Nat} (h : k < 7) : inB (nI k) 0 6 = true := by
  have h1 := inB_nI (k := k) (x := 0) (y := 6) (by omega) (by decide) (by decide)
  rw [show (0 : Int32) = nI 0 from rfl, show (6 : Int32) = nI 6 from rfl, h1]
  simp; omega
def insR (lo hi lo2 hi2 : Nat → Int32) (i : Nat) : Bool := !decide (lo i < lo2 i) && decide (hi i ≤ hi2 i)
def hasR (g lo hi : Nat → Int32) (i : Nat) : Bool := !decide (g i < lo i) && decide (g i ≤ hi i)
def nonR (lo hi : Nat → Int32) (i : Nat) : Bool := decide (lo i ≤ hi i)
def meeR (lo hi lo2 hi2 : Nat → Int32) (i : Nat) : Bool := decide (mx (lo i) (lo2 i) ≤ mn (hi i) (hi2 i))
def comR (lo hi lo2 hi2 lo3 hi3 : Nat → Int32) (i : Nat) : Bool := decide (lo i = mx (lo2 i) (lo3 i)) && decide (hi i = mn (hi2 i) (hi3 i))
def limR (lo hi : Nat → Int32) (i : Nat) : Bool := !(decide (lo i = leastF (nI i)) && decide (hi i = greatestF (nI i)))
def wholeLo (i : Nat) : Int32 := leastF (nI i)
def wholeHi (i : Nat) : Int32 := greatestF (nI i)

