/-! COUNTS, RANKS, ANSWERS: pure -/
theorem cntN_zero {q : Nat → Bool} : ∀ {n : Nat}, (∀ k, k < n → q k = false) → cntN q n = 0
  | 0, _ => rfl
  | n + 1, h => by rw [cntN, cntN_zero (n := n) (fun k hk => h k (by omega)), h n (by omega)]; rfl
theorem cntN_split (p q : Nat → Bool) : ∀ n, cntN p n = cntN (fun k => p k && q k) n + cntN (fun k => p k && !q k) n
  | 0 => rfl
  | n + 1 => by
    rw [cntN, cntN, cntN, cntN_split p q n]
    cases p n <;> cases q n <;> simp <;> omega
theorem cntN_pos {q : Nat → Bool} : ∀ {n : Nat}, 0 < cntN q n → ∃ k, k < n ∧ q k = true
  | 0, h => absurd h (Nat.lt_irrefl 0)
  | n + 1, h => by
    by_cases e : q n = true
    · exact ⟨n, by omega, e⟩
    · rw [cntN, if_neg e] at h
      obtain ⟨k, h1, h2⟩ := cntN_pos (n := n) (by omega)
      exact ⟨k, by omega, h2⟩
theorem cntN_mono {p q : Nat → Bool} : ∀ {n : Nat}, (∀ k, k < n → p k = true → q k = true) → cntN p n ≤ cntN q n
  | 0, _ => Nat.le_refl 0
  | n + 1, h => by
    have i0 := cntN_mono (n := n) (fun k hk => h k (by omega))
    have i1 := h n (by omega)
    rw [cntN, cntN]
    by_cases e : p n = true
    · rw [if_pos e, if_pos (i1 e)]; omega
    · rw [if_neg e]; omega
theorem cntN_lt {p q : Nat → Bool} : ∀ {n : Nat}, (∀ k, k < n → p k = true → q k = true) → ∀ {a}, a < n → q a = true → p a = false → cntN p n < cntN q n
  | 0, _, a, ha, _, _ => absurd ha (Nat.not_lt_zero a)
  | n + 1, h, a, ha, h1, h2 => by
    have i1 := h n (by omega)
    rw [cntN, cntN]
    by_cases e : a = n
    · subst e
      have i0 := cntN_mono (n := a) (fun k hk => h k (by omega))
      rw [if_neg (by rw [h2]; decide), if_pos h1]; omega
    · have i0 := cntN_lt (n := n) (fun k hk => h k (by omega)) (a := a) (by omega) h1 h2
      by_cases e2 : p n = true
      · rw [if_pos e2, if_pos (i1 e2)]; omega
      · rw [if_neg e2]; omega
theorem cntN_one {q : Nat → Bool} : ∀ {n : Nat} {a}, a < n → q a = true → (∀ k, k < n → q k = true → k = a) → cntN q n = 1
  | 0, a, ha, _, _ => absurd ha (Nat.not_lt_zero a)
  | n + 1, a, ha, h1, h2 => by
    rw [cntN]
    by_cases e : a = n
    · subst e
      rw [if_pos h1, cntN_zero (fun k hk => by
        cases hq : q k with
        | false => rfl
        | true => have := h2 k (by omega) hq; omega)]
    · rw [cntN_one (n := n) (a := a) (by omega) h1 (fun k hk => h2 k (by omega)), if_neg (fun z => e (h2 n (by omega) z).symm)]
def rkN (F : Nat → Nat → Bool) (R : Nat → Bool) (n k : Nat) : Nat := cntN (fun j => F j k && R j) n
/-- a strict order of all -/
def StO (F : Nat → Nat → Bool) : Prop := (∀ a, F a a = false) ∧ (∀ a b c, F a b = true → F b c = true → F a c = true) ∧ ∀ a b, a ≠ b → F a b = true ∨ F b a = true
section RK
variable {F : Nat → Nat → Bool} {R : Nat → Bool} {n : Nat}
theorem rk_lt (hO : StO F) {a b : Nat} (ha : a < n) (hR : R a = true) (h : F a b = true) : rkN F R n a < rkN F R n b :=
  cntN_lt (fun k hk h1 => by
    have h1 : (F k a && R k) = true := h1
    rw [Bool.and_eq_true] at h1
    show (F k b && R k) = true
    rw [Bool.and_eq_true]; exact ⟨hO.2.1 k a b h1.1 h, h1.2⟩) ha (show (F a b && R a) = true by rw [h, hR]; rfl) (show (F a a && R a) = false by rw [hO.1 a]; rfl)
theorem rk_ord (hO : StO F) {a b : Nat} (hb : b < n) (hRb : R b = true) (h : rkN F R n a < rkN F R n b) : F a b = true := by
  by_cases e : a = b
  · subst e; omega
  · rcases hO.2.2 a b e with z | z
    · exact z
    · have := rk_lt hO hb hRb z; omega
theorem rk_inj (hO : StO F) {a b : Nat} (ha : a < n) (hb : b < n) (hRa : R a = true) (hRb : R b = true) (h : rkN F R n a = rkN F R n b) : a = b := by
  by_cases e : a = b
  · exact e
  · rcases hO.2.2 a b e with z | z
    · have := rk_lt hO ha hRa z; omega
    · have := rk_lt hO hb hRb z; omega
theorem rk_bd (hO : StO F) {a : Nat} (ha : a < n) (hRa : R a = true) : rkN F R n a < cntN R n :=
  cntN_lt (fun k hk h1 => by
    have h1 : (F k a && R k) = true := h1
    rw [Bool.and_eq_true] at h1; exact h1.2) ha hRa (show (F a a && R a) = false by rw [hO.1 a]; rfl)
theorem rk_min (i : Nat) : ∀ (w a : Nat), a < n → R a = true → i ≤ rkN F R n a → rkN F R n a ≤ w → ∃ k, k < n ∧ R k = true ∧ i ≤ rkN F R n k ∧ ∀ j, j < n → R j = true → rkN F R n j < rkN F R n k → rkN F R n j < i
  | 0, a, ha, hR, h, hw => ⟨a, ha, hR, h, fun j _ _ z => by omega⟩
  | w + 1, a, ha, hR, h, hw => by
    by_cases e : ∃ j, j < n ∧ R j = true ∧ rkN F R n j < rkN F R n a ∧ i ≤ rkN F R n j
    · obtain ⟨j, h1, h2, h3, h4⟩ := e
      exact rk_min i w j h1 h2 h4 (by omega)
    · exact ⟨a, ha, hR, h, fun j h1 h2 z => by
        by_cases q : rkN F R n j < i
        · exact q
        · exact absurd ⟨j, h1, h2, z, Nat.not_lt.mp q⟩ e⟩
theorem rk_all (hO : StO F) : ∀ i, i ≤ cntN R n → cntN (fun k => R k && decide (rkN F R n k < i)) n = i ∧ (i < cntN R n → ∃ k, k < n ∧ R k = true ∧ rkN F R n k = i) := by
  have ex : ∀ i, i < cntN R n → cntN (fun k => R k && decide (rkN F R n k < i)) n = i → ∃ k, k < n ∧ R k = true ∧ rkN F R n k = i := by
    intro i him hc
    have hs := cntN_split R (fun k => decide (rkN F R n k < i)) n
    rw [hc] at hs
    obtain ⟨a, ha, h1⟩ := cntN_pos (q := fun k => R k && !decide (rkN F R n k < i)) (n := n) (by omega)
    have h1 : (R a && !decide (rkN F R n a < i)) = true := h1
    rw [Bool.and_eq_true, Bool.not_eq_true', decide_eq_false_iff_not] at h1
    obtain ⟨k, k1, k2, k3, k4⟩ := rk_min (F := F) i (rkN F R n a) a ha h1.1 (by omega) (Nat.le_refl _)
    refine ⟨k, k1, k2, ?_⟩
    have e : rkN F R n k = cntN (fun j => R j && decide (rkN F R n j < i)) n := by
      show cntN (fun j => F j k && R j) n = _
      refine cntN_cong (fun j hj => ?_)
      by_cases hRj : R j = true
      · rw [hRj, Bool.and_true, Bool.true_and]
        by_cases q : F j k = true
        · rw [q, decide_eq_true (k4 j hj hRj (rk_lt hO hj hRj q))]
        · have q' : F j k = false := by cases hh : F j k; rfl; exact absurd hh q
          rw [q', decide_eq_false (fun z => q (rk_ord hO k1 k2 (by omega)))]
      · have q' : R j = false := by cases hh : R j; rfl; exact absurd hh hRj
        rw [q', Bool.and_false, Bool.false_and]
    rw [e, hc]
  intro i
  induction i with
  | zero =>
    intro h
    have c0 : cntN (fun k => R k && decide (rkN F R n k < 0)) n = 0 := cntN_zero (fun k _ => by rw [decide_eq_false (Nat.not_lt_zero _), Bool.and_false])
    exact ⟨c0, fun z => ex 0 z c0⟩
  | succ i ih =>
    intro h
    obtain ⟨c1, c2⟩ := ih (by omega)
    obtain ⟨k, k1, k2, k3⟩ := c2 (by omega)
    have c3 : cntN (fun k => R k && decide (rkN F R n k < i + 1)) n = i + 1 := by
      rw [cntN_split (fun k => R k && decide (rkN F R n k < i + 1)) (fun k => decide (rkN F R n k < i)) n]
      have e1 : cntN (fun x => (R x && decide (rkN F R n x < i + 1)) && decide (rkN F R n x < i)) n = i := (cntN_cong (fun j hj => by
        show ((R j && decide (rkN F R n j < i + 1)) && decide (rkN F R n j < i)) = (R j && decide (rkN F R n j < i))
        by_cases q : rkN F R n j < i
        · rw [decide_eq_true q, decide_eq_true (show rkN F R n j < i + 1 by omega), Bool.and_true]
        · rw [decide_eq_false q, Bool.and_false, Bool.and_false])).trans c1
      have e2 : cntN (fun x => (R x && decide (rkN F R n x < i + 1)) && !decide (rkN F R n x < i)) n = 1 := by
        refine cntN_one k1 ?_ (fun j hj hq => ?_)
        · show ((R k && decide (rkN F R n k < i + 1)) && !decide (rkN F R n k < i)) = true
          rw [k2, k3, decide_eq_true (Nat.lt_succ_self i), decide_eq_false (Nat.lt_irrefl i)]; rfl
        · have hq : ((R j && decide (rkN F R n j < i + 1)) && !decide (rkN F R n j < i)) = true := hq
          rw [Bool.and_eq_true, Bool.and_eq_true, Bool.not_eq_true', decide_eq_true_eq, decide_eq_false_iff_not] at hq
          exact rk_inj hO hj k1 hq.1.1 k2 (by omega)
      rw [e1, e2]
    exact ⟨c3, fun z => ex (i + 1) z c3⟩
end RK
