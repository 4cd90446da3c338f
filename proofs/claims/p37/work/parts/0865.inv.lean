/-! WHAT STAYS TRUE OF A BOOK under the law's changes: pure -/
def ABk (a : Int32) : Prop := inB a 0 3 = true ∨ ¬ a < nI 10
def ABs (S : Nat → Int32) (n : Nat) : Prop := ∀ i, i < n → ABk (S (57 + 66 * i + 49))
def VX (S : Nat → Int32) (n : Nat) : Prop := NES S n ∧ VFs S ∧ ABs S n
theorem inB_ex {x : Int32} {a b : Nat} (hb : b < 2 ^ 30) (ha : a ≤ b) (h : inB x (nI a) (nI b) = true) : ∃ k, a ≤ k ∧ k ≤ b ∧ x = nI k := by
  obtain ⟨h1, h2⟩ := inB_le h
  rw [Int32.le_iff_toInt_le, nI_toInt (by omega)] at h1
  rw [Int32.le_iff_toInt_le, nI_toInt (by omega)] at h2
  refine ⟨x.toInt.toNat, by omega, by omega, ?_⟩
  rw [← Int32.toInt_inj, nI_toInt (by omega)]; omega
theorem ab_s22 {x : Int32} (h : inB x 22 25 = true) : ABk (x - nI 22) := by
  obtain ⟨k, h1, h2, rfl⟩ := inB_ex (a := 22) (b := 25) (by decide) (by decide) h
  have : k = 22 ∨ k = 23 ∨ k = 24 ∨ k = 25 := by omega
  rcases this with rfl | rfl | rfl | rfl <;> exact Or.inl (by decide)
theorem ab_d16 {x : Int32} (h : inB x 16 21 = true) : ABk (x - nI 6) := by
  obtain ⟨k, h1, h2, rfl⟩ := inB_ex (a := 16) (b := 21) (by decide) (by decide) h
  have : k = 16 ∨ k = 17 ∨ k = 18 ∨ k = 19 ∨ k = 20 ∨ k = 21 := by omega
  rcases this with rfl | rfl | rfl | rfl | rfl | rfl <;> exact Or.inr (by decide)
theorem rsF_ab {S : Nat → Int32} {n c : Nat} : ∀ (m k : Nat) (lo hi : Nat → Int32) (us ab gi : Int32), ABk ab → ABk (rsF S n c m k lo hi us ab gi).2.2.2.1
  | 0, _, _, _, _, _, _, h => h
  | m + 1, k, lo, hi, us, ab, gi, h => by
    rw [rsF]
    by_cases hk : k < c
    · rw [if_pos hk]
      refine rsF_ab m _ _ _ _ _ _ ?_
      unfold rsA
      split
      · exact h
      · split
        · exact h
        · split
          · rename_i q; exact ab_s22 q
          · split
            · exact h
            · split <;> exact h
    · rw [if_neg hk]; exact h
theorem rsAll_ab (S : Nat → Int32) (n c : Nat) : ABk (rsAll S n c tZ0 tZ0 0).2.2.2.1 := by
  unfold rsAll
  refine rsF_ab _ _ _ _ _ _ _ ?_
  unfold rs0A
  split
  · rename_i q; exact ab_d16 q.1
  · exact Or.inl (by decide)
theorem VX.cong {S S2 : Nat → Int32} {n : Nat} (hn : n ≤ 16) (h : VX S n) (hf : ∀ j, j < 7 → S2 j = S j) (hs : ∀ i, i < n → ∀ w, w < 66 → S2 (57 + 66 * i + w) = S (57 + 66 * i + w)) : VX S2 n :=
  ⟨fun i hi j hj => by rw [hs i hi _ (by omega), hs i hi _ (by omega)]; exact h.1 i hi j hj, fun j hj => by rw [hf j hj]; exact h.2.1 j hj, fun i hi => by rw [hs i hi _ (by omega)]; exact h.2.2 i hi⟩
theorem VX.fact {S : Nat → Int32} {n k : Nat} {x : Int32} (h : VX S n) (hk : k < 7) (hx : valB (nI k) x = true) : VX (upd S k x) n :=
  ⟨fun i hi j hj => by rw [upd_hi2 hk, upd_hi2 hk]; exact h.1 i hi j hj, fun j hj => by
    by_cases e : j = k
    · subst e; unfold upd; rw [if_pos rfl]; exact hx
    · unfold upd; rw [if_neg e]; exact h.2.1 j hj, fun i hi => by rw [upd_hi2 hk]; exact h.2.2 i hi⟩
theorem VX.ret {S : Nat → Int32} {n k : Nat} (hn : n ≤ 16) (h : VX S n) (hk : k < n) : VX (retS S n k) (n - 1) := by
  have hs : ∀ i, i < n - 1 → sgN k i < n := fun i hi => by unfold sgN; split <;> omega
  exact ⟨fun i hi j hj => by rw [ret_w hn hk hi (by omega), ret_w hn hk hi (by omega)]; exact h.1 _ (hs i hi) j hj, fun j hj => by rw [ret_fa (by omega)]; exact h.2.1 j hj, fun i hi => by rw [ret_w hn hk hi (by omega)]; exact h.2.2 _ (hs i hi)⟩
theorem VX.tell {S : Nat → Int32} {n cn : Nat} (h : VX S n) (ht : tOk S n cn = true) : VX (tSt S n cn) (n + 1) := by
  rw [tOk, telO, Bool.and_eq_true, canB, Bool.and_eq_true, Bool.and_eq_true, Bool.and_eq_true] at ht
  have hlo : ∀ j, j < 7 → (rsAll S n cn tZ0 tZ0 0).1 j ≤ (rsAll S n cn tZ0 tZ0 0).2.1 j := fun j hj => by
    have := allN_iff.mp ht.1.2.2 j hj
    rw [caF, Bool.not_eq_true', decide_eq_false_iff_not] at this
    exact Int32.not_lt.mp this
  refine ⟨fun i hi j hj => ?_, fun j hj => by rw [tSt, telZ_lo (by omega) (by omega) (by omega)]; exact h.2.1 j hj, fun i hi => ?_⟩
  · by_cases e : i = n
    · subst e; rw [tSt, telZ_52 hj, telZ_59 hj]; exact hlo j hj
    · rw [tSt, telZ_old (by omega) (by omega), telZ_old (by omega) (by omega)]; exact h.1 i (by omega) j hj
  · by_cases e : i = n
    · subst e; rw [tSt, telZ_49]; exact rsAll_ab S i cn
    · rw [tSt, telZ_old (by omega) (by omega)]; exact h.2.2 i (by omega)
theorem addT_lo {S : Nat → Int32} {c j : Nat} (x y : Int32) (hc : c ≤ 24) (h : j < 7 ∨ 57 ≤ j) : addT S c x y j = S j := by
  unfold addT
  split
  · rfl
  · unfold addS upd
    rw [if_neg (by omega), if_neg (by omega), if_neg (by omega)]
theorem apT_lo : ∀ (L : List (Int32 × Int32)) (S : Nat → Int32) (c j : Nat), c ≤ 24 → (j < 7 ∨ 57 ≤ j) → apT S c L j = S j
  | [], _, _, _, _, _ => rfl
  | t :: L, S, c, j, hc, h => by
    rw [apT, apT_lo L _ (c1 c) j (by unfold c1; split <;> omega) h, addT_lo _ _ hc h]
theorem VX.tl {S : Nat → Int32} {n : Nat} (hn : n ≤ 16) (h : VX S n) (v m : Int32) : VX (tlS S n v m) (tlNn S n v m) := by
  have e : ∀ j, (j < 7 ∨ 57 ≤ j) → tlT S v m j = S j := fun j hj => by
    rw [tlT, apT_lo _ _ 0 j (by omega) hj]; unfold upd; rw [if_neg (by omega)]
  have h1 : VX (tlT S v m) n := h.cong hn (fun j hj => e j (Or.inl hj)) (fun i hi w hw => e _ (Or.inr (by omega)))
  rw [tlS, tlNn]
  by_cases g : tlG S n v m = true
  · rw [if_pos g, if_pos g]
    rw [tlG, Bool.and_eq_true] at g
    exact h1.tell g.2
  · rw [if_neg g, if_neg g]; exact h1
/-- how many answers change when sentence k is taken out -/
def chQ (S : Nat → Int32) (n k j : Nat) : Bool := !decide (ansI (retS S n k) (-100005) (n - 1) (nI j) = ansI S (-100005) n (nI j))
theorem mat_cnt {S : Nat → Int32} {n cn k : Nat} (hv : VSn S n cn) (hA : ABs S n) (hk : k < n) (hab : S (57 + 66 * k + 49) < nI 10) : nI (cntN (chQ S n k) 4) = matI S n k := by
  have hn := hv.2.1
  obtain ⟨r, -, hr, er⟩ : ∃ r, 0 ≤ r ∧ r ≤ 3 ∧ S (57 + 66 * k + 49) = nI r := by
    rcases hA k hk with h | h
    · exact inB_ex (a := 0) (b := 3) (by decide) (by decide) h
    · exact absurd hab h
  have hr4 : r < 4 := by omega
  have hret : ∀ j, j < 4 → ansI (retS S n k) (-100005) (n - 1) (nI j) = ansI S (nI k) n (nI j) := fun j hj => ret_ans hn hk (nI j) (g_ok hv hj)
  have hoth : ∀ j, j < 4 → j ≠ r → chQ S n k j = false := fun j hj hne => by
    rw [chQ, hret j hj, oth_ans hn hk (fun z => hne (nI_inj (by omega) (by omega) (z.symm.trans er))), decide_eq_true rfl]; rfl
  have hself : chQ S n k r = !decide (ansI S (nI k) n (nI r) = ansI S (-100005) n (nI r)) := by rw [chQ, hret r hr4]
  rw [matI, if_neg (fun z => z hab), er]
  by_cases e : ansI S (-100005) n (nI r) = ansI S (nI k) n (nI r)
  · rw [if_pos e]
    have : cntN (chQ S n k) 4 = 0 := cntN_zero (fun j hj => by
      by_cases q : j = r
      · rw [q, hself, decide_eq_true e.symm]; rfl
      · exact hoth j hj q)
    rw [this]; rfl
  · rw [if_neg e]
    have : cntN (chQ S n k) 4 = 1 := cntN_one hr4 (by rw [hself, decide_eq_false (fun z => e z.symm)]; rfl) (fun j hj hq => by
      by_cases q : j = r
      · exact q
      · rw [hoth j hj q] at hq; cases hq)
    rw [this]; rfl
