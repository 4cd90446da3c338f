/-! BOTH SIDES: narrowing by defined words, while reading or afterwards -/
def dN (S : Nat → Int32) (n w : Nat) : Nat := firN (defQ S (nI w)) n
def RN (S : Nat → Int32) (n : Nat) (us : Int32) (L' H' L H : Nat → Int32) : Prop :=
  ∀ j, j < 7 → (∀ z, L j ≤ z ↔ L' j ≤ z ∧ ∀ w, w < 6 → bitB us (nI w) = true → dN S n w < n → S (57 + 66 * dN S n w + (52 + j)) ≤ z) ∧ (∀ z, z ≤ H j ↔ z ≤ H' j ∧ ∀ w, w < 6 → bitB us (nI w) = true → dN S n w < n → z ≤ S (57 + 66 * dN S n w + (59 + j)))
theorem bits_or : ∀ u, u < 64 → ∀ a, a < 6 → (u ||| (1 <<< a)) < 64 ∧ nI u ||| (nI 1 <<< (nI a &&& 31)) = nI (u ||| (1 <<< a)) ∧ ∀ w, w < 6 → bitB (nI (u ||| (1 <<< a))) (nI w) = (bitB (nI u) (nI w) || decide (w = a)) := by decide +kernel
theorem bit_01 : ∀ u, u < 64 → ∀ w, w < 6 → decide ((nI u >>> (nI w &&& 31)) &&& nI 1 = 0) = !bitB (nI u) (nI w) := by decide +kernel
theorem bit_no : ∀ w, w < 6 → bitB (nI 0) (nI w) = false := by decide +kernel
theorem mx_iff (a b z : Int32) : mx a b ≤ z ↔ a ≤ z ∧ b ≤ z := by
  unfold mx
  by_cases h : a < b
  · rw [if_pos h]; exact ⟨fun q => ⟨Int32.le_trans (Int32.le_of_lt h) q, q⟩, fun q => q.2⟩
  · rw [if_neg h]; exact ⟨fun q => ⟨q, Int32.le_trans (Int32.not_lt.mp h) q⟩, fun q => q.1⟩
theorem mn_iff (a b z : Int32) : z ≤ mn a b ↔ z ≤ a ∧ z ≤ b := by
  unfold mn
  by_cases h : b < a
  · rw [if_pos h]; exact ⟨fun q => ⟨Int32.le_trans q (Int32.le_of_lt h), q⟩, fun q => q.2⟩
  · rw [if_neg h]; exact ⟨fun q => ⟨q, Int32.le_trans q (Int32.not_lt.mp h)⟩, fun q => q.1⟩
section RNS
variable {S : Nat → Int32} {n : Nat} {us : Int32} {L' H' L H : Nat → Int32}
theorem RN.updL (h : RN S n us L' H' L H) (t : Nat) (c : Int32) : RN S n us (upd L' t (atlF (L' t) c)) H' (upd L t (atlF (L t) c)) H := by
  intro j hj
  refine ⟨fun z => ?_, (h j hj).2⟩
  by_cases e : j = t
  · subst e
    rw [show upd L j (atlF (L j) c) j = mx (L j) c by unfold upd; rw [if_pos rfl, atl_mx], show upd L' j (atlF (L' j) c) j = mx (L' j) c by unfold upd; rw [if_pos rfl, atl_mx], mx_iff, mx_iff, (h j hj).1 z]
    exact ⟨fun q => ⟨⟨q.1.1, q.2⟩, q.1.2⟩, fun q => ⟨⟨q.1.1, q.2⟩, q.1.2⟩⟩
  · rw [show upd L t (atlF (L t) c) j = L j by unfold upd; rw [if_neg e], show upd L' t (atlF (L' t) c) j = L' j by unfold upd; rw [if_neg e]]
    exact (h j hj).1 z
theorem RN.updH (h : RN S n us L' H' L H) (t : Nat) (c : Int32) : RN S n us L' (upd H' t (atmF (H' t) c)) L (upd H t (atmF (H t) c)) := by
  intro j hj
  refine ⟨(h j hj).1, fun z => ?_⟩
  by_cases e : j = t
  · subst e
    rw [show upd H j (atmF (H j) c) j = mn (H j) c by unfold upd; rw [if_pos rfl, atm_mn], show upd H' j (atmF (H' j) c) j = mn (H' j) c by unfold upd; rw [if_pos rfl, atm_mn], mn_iff, mn_iff, (h j hj).2 z]
    exact ⟨fun q => ⟨⟨q.1.1, q.2⟩, q.1.2⟩, fun q => ⟨⟨q.1.1, q.2⟩, q.1.2⟩⟩
  · rw [show upd H t (atmF (H t) c) j = H j by unfold upd; rw [if_neg e], show upd H' t (atmF (H' t) c) j = H' j by unfold upd; rw [if_neg e]]
    exact (h j hj).2 z
theorem nar_0L (w : Int32) (L : Nat → Int32) : narLo S 0 w L = L := by rw [narLo, if_neg (Nat.not_lt_zero _)]
theorem nar_0H (w : Int32) (H : Nat → Int32) : narHi S 0 w H = H := by rw [narHi, if_neg (Nat.not_lt_zero _)]
theorem RN.word {u a : Nat} (h : RN S n (nI u) L' H' L H) (hu : u < 64) (ha : a < 6) : RN S n (nI (u ||| (1 <<< a))) L' H' (narLo S n (nI a) L) (narHi S n (nI a) H) := by
  have hb := (bits_or u hu a ha).2.2
  have hset : ∀ (P : Nat → Prop), (∀ w, w < 6 → bitB (nI (u ||| (1 <<< a))) (nI w) = true → dN S n w < n → P w) ↔ (∀ w, w < 6 → bitB (nI u) (nI w) = true → dN S n w < n → P w) ∧ (dN S n a < n → P a) := by
    intro P
    constructor
    · intro q
      refine ⟨fun w hw hbw hd => q w hw (by rw [hb w hw, hbw, Bool.true_or]) hd, fun hd => q a ha (by rw [hb a ha, decide_eq_true rfl, Bool.or_true]) hd⟩
    · rintro ⟨q1, q2⟩ w hw hbw hd
      rw [hb w hw, Bool.or_eq_true, decide_eq_true_eq] at hbw
      rcases hbw with hbw | hbw
      · exact q1 w hw hbw hd
      · subst hbw; exact q2 hd
  intro j hj
  refine ⟨fun z => ?_, fun z => ?_⟩
  · rw [hset (fun w => S (57 + 66 * dN S n w + (52 + j)) ≤ z)]
    by_cases hd : dN S n a < n
    · have e : narLo S n (nI a) L j = mx (L j) (S (57 + 66 * dN S n a + (52 + j))) := by
        rw [narLo, if_pos (show firN (defQ S (nI a)) n < n from hd)]; unfold filN; rw [if_pos hj]; show atlF _ _ = _; rw [atl_mx, dN]
      rw [e, mx_iff, (h j hj).1 z]
      exact ⟨fun q => ⟨q.1.1, q.1.2, fun _ => q.2⟩, fun q => ⟨⟨q.1, q.2.1⟩, q.2.2 hd⟩⟩
    · have e : narLo S n (nI a) L j = L j := by rw [narLo, if_neg (show ¬firN (defQ S (nI a)) n < n from hd)]
      rw [e, (h j hj).1 z]
      exact ⟨fun q => ⟨q.1, q.2, fun y => absurd y hd⟩, fun q => ⟨q.1, q.2.1⟩⟩
  · rw [hset (fun w => z ≤ S (57 + 66 * dN S n w + (59 + j)))]
    by_cases hd : dN S n a < n
    · have e : narHi S n (nI a) H j = mn (H j) (S (57 + 66 * dN S n a + (59 + j))) := by
        rw [narHi, if_pos (show firN (defQ S (nI a)) n < n from hd)]; unfold filN; rw [if_pos hj]; show atmF _ _ = _; rw [atm_mn, dN]
      rw [e, mn_iff, (h j hj).2 z]
      exact ⟨fun q => ⟨q.1.1, q.1.2, fun _ => q.2⟩, fun q => ⟨⟨q.1, q.2.1⟩, q.2.2 hd⟩⟩
    · have e : narHi S n (nI a) H j = H j := by rw [narHi, if_neg (show ¬firN (defQ S (nI a)) n < n from hd)]
      rw [e, (h j hj).2 z]
      exact ⟨fun q => ⟨q.1, q.2, fun y => absurd y hd⟩, fun q => ⟨q.1, q.2.1⟩⟩
theorem RN.nf (h : RN S n us L' H' L H) (t k : Nat) : RN S n us (nfLo S t k L') (nfHi S t k H') (nfLo S t k L) (nfHi S t k H) := by
  have h1 : RN S n us (nfLo S t k L') H' (nfLo S t k L) H := by
    unfold nfLo nfLoP
    by_cases c1 : nfH S k = nI 4
    · rw [if_pos c1, if_pos c1]; exact h.updL t _
    · rw [if_neg c1, if_neg c1]
      by_cases c2 : decide (nfH S k = nI 5) = nfN S k
      · rw [if_pos c2, if_pos c2]; exact h
      · rw [if_neg c2, if_neg c2]; exact h.updL t _
  unfold nfHi nfHiP
  by_cases c1 : nfH S k = nI 4
  · rw [if_pos c1, if_pos c1]; exact h1.updH t _
  · rw [if_neg c1, if_neg c1]
    by_cases c2 : decide (nfH S k = nI 5) = nfN S k
    · rw [if_pos c2, if_pos c2]; exact h1.updH t _
    · rw [if_neg c2, if_neg c2]; exact h1
theorem RN.step {u : Nat} (h : RN S n (nI u) L' H' L H) (hu : u < 64) (k : Nat) : ∃ u', u' < 64 ∧ rsU S k (nI u) = nI u' ∧ RN S n (nI u') (rsLo S 0 k L') (rsHi S 0 k H') (rsLo S n k L) (rsHi S n k H) := by
  unfold rsU rsLo rsHi
  by_cases c1 : inB (S (7 + 25 + k)) 16 21 = true
  · rw [if_pos c1, if_pos c1, if_pos c1, if_pos c1, if_pos c1, nar_0L, nar_0H]
    obtain ⟨i, h1, h2, e⟩ := inB_nat2 (L := 16) (K := 21) (by decide) (by decide) c1
    have ea : S (7 + 25 + k) - nI 16 = nI (i - 16) := by rw [e, pk_sub h1]
    rw [ea]
    obtain ⟨b1, b2, -⟩ := bits_or u hu (i - 16) (by omega)
    exact ⟨_, b1, b2, h.word hu (by omega)⟩
  · rw [if_neg c1, if_neg c1, if_neg c1, if_neg c1, if_neg c1]
    by_cases c2 : inB (S (7 + 25 + k)) 10 15 = true
    · rw [if_pos c2, if_pos c2, if_pos c2, if_pos c2, if_pos c2]
      exact ⟨u, hu, rfl, h.nf _ k⟩
    · rw [if_neg c2, if_neg c2, if_neg c2, if_neg c2, if_neg c2]
      by_cases c3 : inB (S (7 + 25 + k)) 22 25 = true
      · rw [if_pos c3, if_pos c3, if_pos c3, if_pos c3, if_pos c3]
        exact ⟨u, hu, rfl, h⟩
      · rw [if_neg c3, if_neg c3, if_neg c3, if_neg c3, if_neg c3]
        by_cases c4 : S (7 + 25 + k) = nI 8
        · rw [if_pos c4, if_pos c4, if_pos c4, if_pos c4, if_pos c4]
          exact ⟨u, hu, rfl, h.updL 6 _⟩
        · rw [if_neg c4, if_neg c4, if_neg c4, if_neg c4, if_neg c4]
          by_cases c5 : S (7 + 25 + k) = nI 9
          · rw [if_pos c5, if_pos c5, if_pos c5, if_pos c5, if_pos c5]
            exact ⟨u, hu, rfl, h.updH 6 _⟩
          · rw [if_neg c5, if_neg c5, if_neg c5, if_neg c5, if_neg c5]
            exact ⟨u, hu, rfl, h⟩
end RNS
theorem RN.run {S : Nat → Int32} {n cn : Nat} : ∀ (m k u : Nat) (L' H' L H : Nat → Int32) (ab gi : Int32), u < 64 → RN S n (nI u) L' H' L H → ∃ u', u' < 64 ∧ (rsF S 0 cn m k L' H' (nI u) ab gi).2.2.1 = nI u' ∧ (rsF S n cn m k L H (nI u) ab gi).2.2 = (rsF S 0 cn m k L' H' (nI u) ab gi).2.2 ∧ RN S n (nI u') (rsF S 0 cn m k L' H' (nI u) ab gi).1 (rsF S 0 cn m k L' H' (nI u) ab gi).2.1 (rsF S n cn m k L H (nI u) ab gi).1 (rsF S n cn m k L H (nI u) ab gi).2.1
  | 0, k, u, L', H', L, H, ab, gi, hu, h => ⟨u, hu, rfl, rfl, h⟩
  | m + 1, k, u, L', H', L, H, ab, gi, hu, h => by
    rw [rsF, rsF]
    by_cases hk : k < cn
    · rw [if_pos hk, if_pos hk]
      obtain ⟨u', h1, h2, h3⟩ := h.step hu k
      rw [h2]
      exact RN.run m (rsK S k) u' _ _ _ _ (rsA S k ab) (rsG S k gi) h1 h3
    · rw [if_neg hk, if_neg hk]
      exact ⟨u, hu, rfl, rfl, h⟩
theorem RN.all {S : Nat → Int32} {n cn : Nat} (lo0 hi0 : Nat → Int32) (ab0 : Int32) : ∃ u', u' < 64 ∧ (rsAll S 0 cn lo0 hi0 ab0).2.2.1 = nI u' ∧ (rsAll S n cn lo0 hi0 ab0).2.2 = (rsAll S 0 cn lo0 hi0 ab0).2.2 ∧ RN S n (nI u') (rsAll S 0 cn lo0 hi0 ab0).1 (rsAll S 0 cn lo0 hi0 ab0).2.1 (rsAll S n cn lo0 hi0 ab0).1 (rsAll S n cn lo0 hi0 ab0).2.1 := by
  unfold rsAll
  exact RN.run (cn + 1) _ 0 _ _ _ _ _ _ (by decide) (fun j hj => ⟨fun z => ⟨fun q => ⟨q, fun w hw hb => by rw [bit_no w hw] at hb; cases hb⟩, fun q => q.1⟩, fun z => ⟨fun q => ⟨q, fun w hw hb => by rw [bit_no w hw] at hb; cases hb⟩, fun q => q.1⟩⟩)
/-- afterwards, word by word, up to word i -/
def NA (S : Nat → Int32) (n : Nat) (us : Int32) (lo hi : Nat → Int32) (i : Nat) (lo1 hi1 : Nat → Int32) : Prop :=
  (∀ w, w < i → bitB us (nI w) = true → dN S n w < n) ∧ ∀ j, j < 7 → (∀ z, lo1 j ≤ z ↔ lo j ≤ z ∧ ∀ w, w < i → bitB us (nI w) = true → S (57 + 66 * dN S n w + (52 + j)) ≤ z) ∧ (∀ z, z ≤ hi1 j ↔ z ≤ hi j ∧ ∀ w, w < i → bitB us (nI w) = true → z ≤ S (57 + 66 * dN S n w + (59 + j)))
section NAS
variable {S : Nat → Int32} {n i : Nat} {us : Int32} {lo hi lo1 hi1 : Nat → Int32}
theorem NA.start (S : Nat → Int32) (n : Nat) (us : Int32) (lo hi : Nat → Int32) : NA S n us lo hi 0 lo hi :=
  ⟨fun w h => absurd h (Nat.not_lt_zero w), fun j _ => ⟨fun z => ⟨fun q => ⟨q, fun w h => absurd h (Nat.not_lt_zero w)⟩, fun q => q.1⟩, fun z => ⟨fun q => ⟨q, fun w h => absurd h (Nat.not_lt_zero w)⟩, fun q => q.1⟩⟩⟩
theorem NA.skip (h : NA S n us lo hi i lo1 hi1) (hb : bitB us (nI i) = false) : NA S n us lo hi (i + 1) lo1 hi1 := by
  have e : ∀ (P : Nat → Prop), (∀ w, w < i + 1 → bitB us (nI w) = true → P w) ↔ ∀ w, w < i → bitB us (nI w) = true → P w := fun P => ⟨fun q w hw => q w (by omega), fun q w hw hbw => (Nat.lt_succ_iff_lt_or_eq.mp hw).elim (fun y => q w y hbw) (fun y => by rw [y, hb] at hbw; cases hbw)⟩
  exact ⟨(e _).mpr h.1, fun j hj => ⟨fun z => by rw [e]; exact (h.2 j hj).1 z, fun z => by rw [e]; exact (h.2 j hj).2 z⟩⟩
theorem NA.word (h : NA S n us lo hi i lo1 hi1) (hb : bitB us (nI i) = true) (hd : dN S n i < n) {lo2 hi2 : Nat → Int32} (h1 : ∀ j, j < 7 → lo2 j = mx (lo1 j) (S (57 + 66 * dN S n i + (52 + j)))) (h2 : ∀ j, j < 7 → hi2 j = mn (hi1 j) (S (57 + 66 * dN S n i + (59 + j)))) : NA S n us lo hi (i + 1) lo2 hi2 := by
  have e : ∀ (P : Nat → Prop), (∀ w, w < i + 1 → bitB us (nI w) = true → P w) ↔ (∀ w, w < i → bitB us (nI w) = true → P w) ∧ P i := fun P => ⟨fun q => ⟨fun w hw => q w (by omega), q i (Nat.lt_succ_self i) hb⟩, fun q w hw hbw => (Nat.lt_succ_iff_lt_or_eq.mp hw).elim (fun y => q.1 w y hbw) (fun y => y ▸ q.2)⟩
  exact ⟨(e _).mpr ⟨h.1, hd⟩, fun j hj => ⟨fun z => by rw [e, h1 j hj, mx_iff, (h.2 j hj).1 z]; exact ⟨fun q => ⟨q.1.1, q.1.2, q.2⟩, fun q => ⟨⟨q.1, q.2.1⟩, q.2.2⟩⟩, fun z => by rw [e, h2 j hj, mn_iff, (h.2 j hj).2 z]; exact ⟨fun q => ⟨q.1.1, q.1.2, q.2⟩, fun q => ⟨⟨q.1, q.2.1⟩, q.2.2⟩⟩⟩⟩
/-- both ways of narrowing end alike -/
theorem NA.fin (h : NA S n us lo hi 6 lo1 hi1) {L' H' L H : Nat → Int32} (hR : RN S n us L' H' L H) (hlo : ∀ j, j < 7 → L' j = lo j ∧ H' j = hi j) : ∀ j, j < 7 → lo1 j = L j ∧ hi1 j = H j := by
  intro j hj
  have e1 : ∀ z, lo1 j ≤ z ↔ L j ≤ z := fun z => by
    rw [(h.2 j hj).1 z, (hR j hj).1 z, (hlo j hj).1]
    exact ⟨fun q => ⟨q.1, fun w hw hb _ => q.2 w hw hb⟩, fun q => ⟨q.1, fun w hw hb => q.2 w hw hb (h.1 w hw hb)⟩⟩
  have e2 : ∀ z, z ≤ hi1 j ↔ z ≤ H j := fun z => by
    rw [(h.2 j hj).2 z, (hR j hj).2 z, (hlo j hj).2]
    exact ⟨fun q => ⟨q.1, fun w hw hb _ => q.2 w hw hb⟩, fun q => ⟨q.1, fun w hw hb => q.2 w hw hb (h.1 w hw hb)⟩⟩
  exact ⟨Int32.le_antisymm ((e1 _).mpr (Int32.le_refl _)) ((e1 _).mp (Int32.le_refl _)), Int32.le_antisymm ((e2 _).mp (Int32.le_refl _)) ((e2 _).mpr (Int32.le_refl _))⟩
end NAS

