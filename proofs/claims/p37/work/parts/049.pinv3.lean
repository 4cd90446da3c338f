/-! what is read agrees -/
def rAt (S : Nat → Int32) (cn kb : Nat) (L H : Nat → Int32) (us ja gi : Int32) (Z : (Nat → Int32) × (Nat → Int32) × Int32 × Int32 × Int32) : Prop := ∀ m, cn - kb < m → rsF S 0 cn m kb L H us ja gi = Z
section RAT
variable {S : Nat → Int32} {cn kb : Nat} {L H : Nat → Int32} {us ja gi : Int32} {Z : (Nat → Int32) × (Nat → Int32) × Int32 × Int32 × Int32}
theorem rAt_16 (hk : kb < cn) (hv : inB (S (7 + 25 + kb)) 16 21 = true) (h : rAt S cn kb L H us ja gi Z) : rAt S cn (kb + 1) L H (us ||| (nI 1 <<< ((S (7 + 25 + kb) - nI 16) &&& 31))) ja gi Z :=
  rsF_next hk (by omega) h (by rw [rsK, if_pos hv]) (by rw [rsLo, if_pos hv, narLo, if_neg (Nat.not_lt_zero _)]) (by rw [rsHi, if_pos hv, narHi, if_neg (Nat.not_lt_zero _)]) (by rw [rsU, if_pos hv]) (by rw [rsA, if_pos hv]) (by rw [rsG, if_pos hv])
theorem in10_16 {t : Nat} (ht : t < 6) : inB (nI (10 + t)) 16 21 = false := by
  rw [show (16 : Int32) = nI 16 from rfl, show (21 : Int32) = nI 21 from rfl, inB_nI (by omega) (by decide) (by decide), decide_eq_false (by omega), Bool.false_and]
theorem in10_10 {t : Nat} (ht : t < 6) : inB (nI (10 + t)) 10 15 = true := by
  rw [show (10 : Int32) = nI 10 from rfl, show (15 : Int32) = nI 15 from rfl, inB_nI (by omega) (by decide) (by decide), decide_eq_true (by omega), decide_eq_true (by omega)]; rfl
theorem rAt_10 {t : Nat} (ht : t < 6) (hk : kb < cn) (hv : S (7 + 25 + kb) = nI (10 + t)) (h : rAt S cn kb L H us ja gi Z) : rAt S cn (nfK S kb + 2) (nfLo S t kb L) (nfHi S t kb H) us ja gi Z := by
  have a := in10_16 ht
  have b := in10_10 ht
  have hg := nfK_ge S kb
  exact rsF_next hk (by omega) h (by rw [rsK, hv, if_neg (by rw [a]; decide), if_pos b]) (by rw [rsLo, hv, if_neg (by rw [a]; decide), if_pos b, nI_clamp (by omega), Nat.add_sub_cancel_left]) (by rw [rsHi, hv, if_neg (by rw [a]; decide), if_pos b, nI_clamp (by omega), Nat.add_sub_cancel_left]) (by rw [rsU, hv, if_neg (by rw [a]; decide), if_pos b]) (by rw [rsA, hv, if_neg (by rw [a]; decide), if_pos b]) (by rw [rsG, hv, if_neg (by rw [a]; decide), if_pos b])
theorem in22_x {v : Int32} (h : inB v 22 25 = true) : inB v 16 21 = false ∧ inB v 10 15 = false ∧ v - nI 22 < nI 10 := by
  obtain ⟨i, h1, h2, rfl⟩ := inB_nat2 (L := 22) (K := 25) (by decide) (by decide) h
  have e : i = 22 ∨ i = 23 ∨ i = 24 ∨ i = 25 := by omega
  rcases e with rfl | rfl | rfl | rfl <;> decide
theorem rAt_22 (hk : kb < cn) (hv : inB (S (7 + 25 + kb)) 22 25 = true) (h : rAt S cn kb L H us ja gi Z) : rAt S cn (kb + 3) L H us (S (7 + 25 + kb) - nI 22) (S (7 + 25 + (kb + 2))) Z := by
  obtain ⟨a, b, _⟩ := in22_x hv
  exact rsF_next hk (by omega) h (by rw [rsK, if_neg (by rw [a]; decide), if_neg (by rw [b]; decide), if_pos hv]) (by rw [rsLo, if_neg (by rw [a]; decide), if_neg (by rw [b]; decide), if_pos hv]) (by rw [rsHi, if_neg (by rw [a]; decide), if_neg (by rw [b]; decide), if_pos hv]) (by rw [rsU, if_neg (by rw [a]; decide), if_neg (by rw [b]; decide), if_pos hv]) (by rw [rsA, if_neg (by rw [a]; decide), if_neg (by rw [b]; decide), if_pos hv]) (by rw [rsG, if_neg (by rw [a]; decide), if_neg (by rw [b]; decide), if_pos hv])
theorem rAt_8 (hk : kb < cn) (hv : S (7 + 25 + kb) = nI 8) (h : rAt S cn kb L H us ja gi Z) : rAt S cn (kb + 2) (upd L 6 (atlF (L 6) (S (7 + 25 + (kb + 1))))) H us ja gi Z :=
  rsF_next hk (by omega) h (by rw [rsK, hv, if_neg (by decide), if_neg (by decide), if_neg (by decide), if_pos rfl]) (by rw [rsLo, hv, if_neg (by decide), if_neg (by decide), if_neg (by decide), if_pos rfl]) (by rw [rsHi, hv, if_neg (by decide), if_neg (by decide), if_neg (by decide), if_pos rfl]) (by rw [rsU, hv, if_neg (by decide), if_neg (by decide), if_neg (by decide), if_pos rfl]) (by rw [rsA, hv, if_neg (by decide), if_neg (by decide), if_neg (by decide), if_pos rfl]) (by rw [rsG, hv, if_neg (by decide), if_neg (by decide), if_neg (by decide), if_pos rfl])
theorem rAt_9 (hk : kb < cn) (hv : S (7 + 25 + kb) = nI 9) (h : rAt S cn kb L H us ja gi Z) : rAt S cn (kb + 2) L (upd H 6 (atmF (H 6) (S (7 + 25 + (kb + 1))))) us ja gi Z :=
  rsF_next hk (by omega) h (by rw [rsK, hv, if_neg (by decide), if_neg (by decide), if_neg (by decide), if_neg (by decide), if_pos rfl]) (by rw [rsLo, hv, if_neg (by decide), if_neg (by decide), if_neg (by decide), if_neg (by decide), if_pos rfl]) (by rw [rsHi, hv, if_neg (by decide), if_neg (by decide), if_neg (by decide), if_neg (by decide), if_pos rfl]) (by rw [rsU, hv, if_neg (by decide), if_neg (by decide), if_neg (by decide), if_neg (by decide), if_pos rfl]) (by rw [rsA, hv, if_neg (by decide), if_neg (by decide), if_neg (by decide), if_neg (by decide), if_pos rfl]) (by rw [rsG, hv, if_neg (by decide), if_neg (by decide), if_neg (by decide), if_neg (by decide), if_pos rfl])
theorem rAt_e (hk : kb < cn) (hv : S (7 + 25 + kb) = nI 1 ∨ S (7 + 25 + kb) = nI 2) (h : rAt S cn kb L H us ja gi Z) : rAt S cn (kb + 1) L H us ja gi Z := by
  rcases hv with hv | hv
  · exact rsF_next hk (by omega) h (by rw [rsK, hv, if_neg (by decide), if_neg (by decide), if_neg (by decide), if_neg (by decide), if_neg (by decide)]) (by rw [rsLo, hv, if_neg (by decide), if_neg (by decide), if_neg (by decide), if_neg (by decide), if_neg (by decide)]) (by rw [rsHi, hv, if_neg (by decide), if_neg (by decide), if_neg (by decide), if_neg (by decide), if_neg (by decide)]) (by rw [rsU, hv, if_neg (by decide), if_neg (by decide), if_neg (by decide), if_neg (by decide), if_neg (by decide)]) (by rw [rsA, hv, if_neg (by decide), if_neg (by decide), if_neg (by decide), if_neg (by decide), if_neg (by decide)]) (by rw [rsG, hv, if_neg (by decide), if_neg (by decide), if_neg (by decide), if_neg (by decide), if_neg (by decide)])
  · exact rsF_next hk (by omega) h (by rw [rsK, hv, if_neg (by decide), if_neg (by decide), if_neg (by decide), if_neg (by decide), if_neg (by decide)]) (by rw [rsLo, hv, if_neg (by decide), if_neg (by decide), if_neg (by decide), if_neg (by decide), if_neg (by decide)]) (by rw [rsHi, hv, if_neg (by decide), if_neg (by decide), if_neg (by decide), if_neg (by decide), if_neg (by decide)]) (by rw [rsU, hv, if_neg (by decide), if_neg (by decide), if_neg (by decide), if_neg (by decide), if_neg (by decide)]) (by rw [rsA, hv, if_neg (by decide), if_neg (by decide), if_neg (by decide), if_neg (by decide), if_neg (by decide)]) (by rw [rsG, hv, if_neg (by decide), if_neg (by decide), if_neg (by decide), if_neg (by decide), if_neg (by decide)])
end RAT
def PCr (S : Nat → Int32) (k kb : Nat) (ab : Int32) (p t : Nat) (ng : Bool) (cp : Int32) : Prop :=
  ((p = 2 ∨ p = 6 ∨ p = 7 ∨ p = 10 ∨ p = 12 ∨ p = 14) ∧ kb = k) ∨
  (p = 3 ∧ kb + 1 = k ∧ S (7 + 25 + kb) = nI (10 + t) ∧ ng = false) ∨
  (p = 4 ∧ kb + 2 = k ∧ S (7 + 25 + kb) = nI (10 + t) ∧ S (7 + 25 + (kb + 1)) = nI 7 ∧ ng = true) ∨
  (p = 5 ∧ ng = false ∧ kb + 2 = k ∧ S (7 + 25 + kb) = nI (10 + t) ∧ S (7 + 25 + (kb + 1)) = cp ∧ (cp = nI 4 ∨ cp = nI 5 ∨ cp = nI 6)) ∨
  (p = 5 ∧ ng = true ∧ kb + 3 = k ∧ S (7 + 25 + kb) = nI (10 + t) ∧ S (7 + 25 + (kb + 1)) = nI 7 ∧ S (7 + 25 + (kb + 2)) = cp ∧ (cp = nI 5 ∨ cp = nI 6)) ∨
  (p = 8 ∧ kb + 1 = k ∧ inB (S (7 + 25 + kb)) 22 25 = true ∧ ab = S (7 + 25 + kb) - nI 22) ∨
  (p = 9 ∧ kb + 2 = k ∧ inB (S (7 + 25 + kb)) 22 25 = true ∧ ab = S (7 + 25 + kb) - nI 22) ∨
  (p = 11 ∧ kb + 1 = k ∧ S (7 + 25 + kb) = nI 8) ∨
  (p = 13 ∧ kb + 1 = k ∧ S (7 + 25 + kb) = nI 9)
/-- lo, hi, us and the words read so far are what the reference has read up to kb -/
def RIv (S : Nat → Int32) (cn k : Nat) (ab gv us : Int32) (p : Nat) (ir : Bool) (t : Nat) (ng : Bool) (cp : Int32) (lo hi : Nat → Int32) : Prop :=
  ∀ lo0 hi0 ab0, ∃ L H ja gi kb, (∀ j, j < 7 → lo j = L j ∧ hi j = H j) ∧
    ((p = 0 ∧ k = 0 ∧ us = nI 0 ∧ ir = true ∧ L = filN leaN lo0 7 ∧ H = filN greN hi0 7) ∨
     (p = 1 ∧ k = 1 ∧ us = nI 0 ∧ ir = false ∧ L = filN leaN lo0 7 ∧ H = filN greN hi0 7 ∧ inB (S (7 + 25 + 0)) 16 21 = true ∧ S (7 + 1 + 0) = 0 ∧ ab = S (7 + 25 + 0) - nI 6) ∨
     (2 ≤ p ∧ rAt S cn kb L H us ja gi (rsAll S 0 cn lo0 hi0 ab0) ∧ PCr S k kb ab p t ng cp ∧ (p < 10 → gi = -100005) ∧ (10 ≤ p → gi = gv ∧ ja = ab ∧ ab < nI 10) ∧ (p ≤ 7 → ir = false → ja = ab ∧ ¬ ab < nI 10)))
theorem RIv.start (S : Nat → Int32) (cn : Nat) (ab gv : Int32) (t : Nat) (ng : Bool) (cp : Int32) (lo hi : Nat → Int32) : RIv S cn 0 ab gv (nI 0) 0 true t ng cp (filN wholeLo lo 7) (filN wholeHi hi 7) :=
  fun lo0 hi0 _ => ⟨filN leaN lo0 7, filN greN hi0 7, 0, 0, 0, fun j hj => ⟨by rw [filN_in hj, filN_in hj]; rfl, by rw [filN_in hj, filN_in hj]; rfl⟩, Or.inl ⟨rfl, rfl, rfl, rfl, rfl, rfl⟩⟩
theorem atl_mx (a b : Int32) : atlF a b = mx a b := by
  unfold atlF mx
  by_cases h : a < b
  · rw [if_pos h, if_neg (Int32.not_le.mpr h)]
  · rw [if_neg h, if_pos (Int32.not_lt.mp h)]
theorem atm_mn (a b : Int32) : atmF a b = mn a b := by
  unfold atmF mn
  by_cases h : b < a
  · rw [if_pos h, if_neg (Int32.not_le.mpr h)]
  · rw [if_neg h, if_pos (Int32.not_lt.mp h)]
theorem upd_eq {f g : Nat → Int32} {x : Int32} {t j : Nat} (h : f j = g j) : upd f t x j = upd g t x j := by
  unfold upd; rw [h]
theorem afv_lo {cp x : Int32} {ng : Bool} {t : Nat} (ht : t < 7) {lo L : Nat → Int32} (h : ∀ j, j < 7 → lo j = L j) (hc : cp = nI 4 ∨ cp = nI 5 ∨ cp = nI 6) (hn : ng = true → ¬ cp = nI 4) {j : Nat} (hj : j < 7) : afvLo cp ng t x lo j = nfLoP ng cp x t L j := by
  unfold afvLo nfLoP
  rw [h t ht, atl_mx, atl_mx]
  rcases hc with rfl | rfl | rfl
  · rw [if_pos rfl, if_pos rfl]; exact upd_eq (h j hj)
  · cases ng
    · rw [if_neg (by decide), if_pos rfl, if_neg (by decide), if_neg (by decide), if_neg (by decide), if_neg (by decide)]; exact upd_eq (h j hj)
    · rw [if_neg (by decide), if_pos rfl, if_pos rfl, if_neg (by decide), if_pos (by decide)]; exact h j hj
  · cases ng
    · rw [if_neg (by decide), if_neg (by decide), if_neg (by decide), if_neg (by decide), if_pos (by decide)]; exact h j hj
    · rw [if_neg (by decide), if_neg (by decide), if_pos rfl, if_neg (by decide), if_neg (by decide), if_pos rfl]; exact upd_eq (h j hj)
theorem afv_hi {cp x : Int32} {ng : Bool} {t : Nat} (ht : t < 7) {hi H : Nat → Int32} (h : ∀ j, j < 7 → hi j = H j) (hc : cp = nI 4 ∨ cp = nI 5 ∨ cp = nI 6) (hn : ng = true → ¬ cp = nI 4) {j : Nat} (hj : j < 7) : afvHi cp ng t x hi j = nfHiP ng cp x t H j := by
  unfold afvHi nfHiP
  rw [h t ht, atm_mn, atm_mn]
  rcases hc with rfl | rfl | rfl
  · rw [if_pos rfl, if_pos rfl]; exact upd_eq (h j hj)
  · cases ng
    · rw [if_neg (by decide), if_pos rfl, if_neg (by decide), if_neg (by decide), if_neg (by decide)]; exact h j hj
    · rw [if_neg (by decide), if_pos rfl, if_pos rfl, if_neg (by decide), if_pos (by decide), if_pos rfl]; exact upd_eq (h j hj)
  · cases ng
    · rw [if_neg (by decide), if_neg (by decide), if_neg (by decide), if_neg (by decide), if_pos (by decide), if_neg (by decide)]; exact upd_eq (h j hj)
    · rw [if_neg (by decide), if_neg (by decide), if_pos rfl, if_neg (by decide), if_neg (by decide)]; exact h j hj

