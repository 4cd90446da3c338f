/-! BOTH SIDES: the class's questions are the reference's -/
section FVS
variable {S : Nat → Int32} {n : Nat} {g : Nat → Int32} {lo hi : Nat → Nat → Int32} {ab gv us : Nat → Int32}
theorem FlatV.ab_ (h : FlatV S n lo hi ab gv us) {i : Nat} (hi' : i < n) : ab i = S (57 + 66 * i + 49) := (h i hi').1
theorem FlatV.gv_ (h : FlatV S n lo hi ab gv us) {i : Nat} (hi' : i < n) : S (57 + 66 * i + 50) = if ab i < nI 10 then gv i else -100005 := (h i hi').2.1
theorem FlatV.us_ (h : FlatV S n lo hi ab gv us) {i : Nat} (hi' : i < n) : us i = S (57 + 66 * i + 51) := (h i hi').2.2.1
theorem FlatV.lo_ (h : FlatV S n lo hi ab gv us) {i j : Nat} (hi' : i < n) (hj : j < 7) : lo i j = S (57 + 66 * i + (52 + j)) := ((h i hi').2.2.2 j hj).1
theorem FlatV.hi_ (h : FlatV S n lo hi ab gv us) {i j : Nat} (hi' : i < n) (hj : j < 7) : hi i j = S (57 + 66 * i + (59 + j)) := ((h i hi').2.2.2 j hj).2
theorem nlt_le (a b : Int32) : (!decide (b < a)) = decide (a ≤ b) := by
  by_cases h : a ≤ b
  · rw [decide_eq_true h, decide_eq_false (Int32.not_lt.mpr h)]; rfl
  · rw [decide_eq_false h, decide_eq_true (Int32.not_le.mp h)]; rfl
theorem nlt_le' (a : Int32) : (!decide (nI 10 ≤ a)) = decide (a < nI 10) := by
  by_cases h : a < nI 10
  · rw [decide_eq_true h, decide_eq_false (Int32.not_le.mpr h)]; rfl
  · rw [decide_eq_false h, decide_eq_true (Int32.not_lt.mp h)]; rfl
theorem e_ins (h : FlatV S n lo hi ab gv us) {x y : Nat} (hx : x < n) (hy : y < n) : allN (insR (lo x) (hi x) (lo y) (hi y)) 7 = insB S x y :=
  allN_cong (fun i h7 => by rw [insR, insQ, h.lo_ hx h7, h.lo_ hy h7, h.hi_ hx h7, h.hi_ hy h7, nlt_le (S (57 + 66 * x + (59 + i)))])
theorem e_str (h : FlatV S n lo hi ab gv us) {x y : Nat} (hx : x < n) (hy : y < n) : strD lo hi x y = strB S x y := by rw [strD, strB, e_ins h hx hy, e_ins h hy hx]
theorem e_con (h : FlatV S n lo hi ab gv us) (hg : ∀ j, j < 7 → g j = S j) {k : Nat} (hk : k < n) : allN (hasR g (lo k) (hi k)) 7 = conB S k :=
  allN_cong (fun i h7 => by rw [hasR, conQ, hg i h7, h.lo_ hk h7, h.hi_ hk h7, nlt_le, inB])
theorem e_app (h : FlatV S n lo hi ab gv us) (hg : ∀ j, j < 7 → g j = S j) {k : Nat} (hk : k < n) {lf wo r : Int32} (hw : (nI k = lf) = (nI k = wo)) : appD g lo hi ab lf k r = appB S wo k r := by
  rw [appD, appB, e_con h hg hk, h.ab_ hk, Bool.and_assoc]
  congr 2
  exact decide_eq_decide.mpr (by rw [hw])
theorem exN_not {q r : Nat → Bool} : ∀ {n : Nat}, (∀ i, i < n → q i = !r i) → (!exN r n) = allN q n
  | 0, _ => rfl
  | n + 1, h => by
    rw [exN, allN, Bool.not_or, exN_not (fun i hi => h i (Nat.lt_succ_of_lt hi)), h n (Nat.lt_succ_self n)]
theorem e_rea (h : FlatV S n lo hi ab gv us) (hg : ∀ j, j < 7 → g j = S j) {k : Nat} (hk : k < n) {lf wo r : Int32} (hw : ∀ j, j < n → (nI j = lf) = (nI j = wo)) : reaD g lo hi ab lf n k r = reaB S wo n k r := by
  rw [reaD, reaB, e_app h hg hk (hw k hk), exN_not (q := reaQ S wo k r) (fun i hi => by rw [reaQ, ovrQ, e_app h hg hi (hw i hi), e_str h hi hk])]
theorem num_no {x : Int32} (h : inB x (-9999) 9999 = true) : ¬ x = -100005 ∧ ¬ x = -100006 := by
  rw [inB, Bool.and_eq_true, decide_eq_true_eq, decide_eq_true_eq] at h
  refine ⟨fun e => ?_, fun e => ?_⟩ <;> (subst e; exact absurd h.1 (by decide))
theorem e_ans0 (h : FlatV S n lo hi ab gv us) (hg : ∀ j, j < 7 → g j = S j) (hgv : ∀ i, i < n → ab i < nI 10 → inB (gv i) (-9999) 9999 = true) {lf wo r : Int32} (hr : r < nI 10) (hw : ∀ j, j < n → (nI j = lf) = (nI j = wo)) :
    ∀ m k, m + k = n → (¬ ansL S wo n r k = -100006 → ansD g lo hi ab gv lf n r m k (ansL S wo n r k) = ansL S wo n r n) ∧ (ansL S wo n r k = -100006 → ansL S wo n r n = -100006) := by
  intro m
  induction m with
  | zero => intro k hk; rw [Nat.zero_add] at hk; subst hk; exact ⟨fun _ => rfl, fun z => z⟩
  | succ m ih =>
    intro k hk
    have hkn : k < n := by omega
    obtain ⟨i1, i2⟩ := ih (k + 1) (by omega)
    have er := e_rea h hg hkn (r := r) hw
    by_cases hre : reaB S wo n k r = true
    · have hab : ab k = r := by
        have h1 := er.trans hre
        rw [reaD, Bool.and_eq_true, appD, Bool.and_eq_true, Bool.and_eq_true, decide_eq_true_eq] at h1
        exact h1.1.2.1
      have e50 : S (57 + 66 * k + 50) = gv k := by rw [h.gv_ hkn, if_pos (by rw [hab]; exact hr)]
      obtain ⟨n5, n6⟩ := num_no (hgv k hkn (by rw [hab]; exact hr))
      have es : ansL S wo n r (k + 1) = if ansL S wo n r k = -100005 then gv k else if ansL S wo n r k = gv k then gv k else -100006 := by rw [ansL, if_pos hre, e50]
      refine ⟨fun hf => ?_, fun hf => ?_⟩
      · rw [ansD, if_pos (er.trans hre)]
        by_cases c1 : ansL S wo n r k = -100005
        · rw [if_pos c1] at es
          rw [if_pos c1, ← i1 (by rw [es]; exact n6), es]
        · rw [if_neg c1] at es
          by_cases c2 : ansL S wo n r k = gv k
          · rw [if_pos c2] at es
            rw [if_neg c1, if_pos c2, ← i1 (by rw [es]; exact n6), es]
          · rw [if_neg c2] at es
            rw [if_neg c1, if_neg c2, i2 es]
      · apply i2
        rw [es, hf, if_neg (by decide), if_neg (fun z => n6 z.symm)]
    · have es : ansL S wo n r (k + 1) = ansL S wo n r k := by rw [ansL, if_neg hre]
      refine ⟨fun hf => ?_, fun hf => i2 (es.trans hf)⟩
      rw [ansD, if_neg (by rw [er]; exact hre), ← i1 (by rw [es]; exact hf), es]
theorem e_ans (h : FlatV S n lo hi ab gv us) (hg : ∀ j, j < 7 → g j = S j) (hgv : ∀ i, i < n → ab i < nI 10 → inB (gv i) (-9999) 9999 = true) {lf wo r : Int32} (hr : r < nI 10) (hw : ∀ j, j < n → (nI j = lf) = (nI j = wo)) : ansD g lo hi ab gv lf n r n 0 (-100005) = ansI S wo n r :=
  (e_ans0 h hg hgv hr hw n 0 rfl).1 (by rw [ansL]; decide)
theorem res_lt {r : Int32} (h : inB r 0 3 = true) : r < nI 10 := by
  obtain ⟨i, hi, rfl⟩ := inB_nat (K := 3) (by decide) h
  exact nI_lt (by omega) (by decide)
theorem w_no (hn : n ≤ 16) : ∀ j, j < n → (nI j = (-1 : Int32)) = (nI j = -100005) := fun j hj => propext ⟨fun z => absurd z (nI_nom1 (by omega)), fun z => absurd z (nI_no5 (by omega))⟩
theorem firN_cong {q r : Nat → Bool} : ∀ {n : Nat}, (∀ i, i < n → q i = r i) → firN q n = firN r n
  | 0, _ => rfl
  | n + 1, h => by rw [firN, firN, firN_cong (fun i hi => h i (Nat.lt_succ_of_lt hi)), h n (Nat.lt_succ_self n)]
theorem e_def (h : FlatV S n lo hi ab gv us) (w : Int32) : firN (defD ab w) n = firN (defQ S w) n := firN_cong (fun i hi => by rw [defD, defQ, h.ab_ hi])
theorem e_lim (h : FlatV S n lo hi ab gv us) {k : Nat} (hk : k < n) : limD lo hi k = shaN S k :=
  cntN_cong (fun i h7 => by rw [limR, shaQ, h.lo_ hk h7, h.hi_ hk h7])
theorem e_bef (h : FlatV S n lo hi ab gv us) {j k : Nat} (hj : j < n) (hk : k < n) : befD lo hi j k = firR S j k := by rw [befD, firR, e_lim h hj, e_lim h hk]
theorem e_use (h : FlatV S n lo hi ab gv us) (w : Int32) : exN (fun k => bitB (us k) w) n = exN (useQ S w) n := exN_cong (fun i hi => by rw [bitB, useQ, h.us_ hi]; rfl)
theorem tolN_cong {k : Int32} {p q : Nat → Int32} (h : ∀ j, j < n → p j = q j) (hn : n ≤ 16) : tolN n k p = tolN n k q := by
  unfold tolN
  by_cases hk : 0 ≤ k ∧ k < nI n
  · rw [if_pos hk, if_pos hk]
    obtain ⟨j, hj, e⟩ := nI_of (Int32.not_lt.mpr hk.1)
    subst e
    rw [nI_clamp (by omega)]
    exact h j ((nI_ltI hj (by omega)).mp hk.2)
  · rw [if_neg hk, if_neg hk]
theorem mx_met (a b : Int32) : mx a b = if b < a then a else b := by
  unfold mx
  by_cases h1 : a < b
  · rw [if_pos h1, if_neg (fun z => Int32.lt_irrefl (Int32.lt_trans h1 z))]
  · rw [if_neg h1]
    by_cases h2 : b < a
    · rw [if_pos h2]
    · rw [if_neg h2]; exact Int32.le_antisymm (Int32.not_lt.mp h2) (Int32.not_lt.mp h1)
theorem mn_met (a b : Int32) : mn a b = if a < b then a else b := by
  unfold mn
  by_cases h1 : b < a
  · rw [if_pos h1, if_neg (fun z => Int32.lt_irrefl (Int32.lt_trans h1 z))]
  · rw [if_neg h1]
    by_cases h2 : a < b
    · rw [if_pos h2]
    · rw [if_neg h2]; exact Int32.le_antisymm (Int32.not_lt.mp h1) (Int32.not_lt.mp h2)
theorem e_mlo (h : FlatV S n lo hi ab gv us) {x y i : Nat} (hx : x < n) (hy : y < n) (h7 : i < 7) : mx (lo x i) (lo y i) = metLo S x y i := by rw [mx_met, metLo, h.lo_ hx h7, h.lo_ hy h7]
theorem e_mhi (h : FlatV S n lo hi ab gv us) {x y i : Nat} (hx : x < n) (hy : y < n) (h7 : i < 7) : mn (hi x i) (hi y i) = metHi S x y i := by rw [mn_met, metHi, h.hi_ hx h7, h.hi_ hy h7]
theorem e_mee (h : FlatV S n lo hi ab gv us) {x y : Nat} (hx : x < n) (hy : y < n) : allN (meeR (lo x) (hi x) (lo y) (hi y)) 7 = allN (meeQ S x y) 7 :=
  allN_cong (fun i h7 => by rw [meeR, meeQ, e_mlo h hx hy h7, e_mhi h hx hy h7, nlt_le])
theorem e_com (h : FlatV S n lo hi ab gv us) {x y k : Nat} (hx : x < n) (hy : y < n) (hk : k < n) : allN (comR (lo k) (hi k) (lo x) (hi x) (lo y) (hi y)) 7 = allN (hrgQ S (metLo S x y) (metHi S x y) k) 7 :=
  allN_cong (fun i h7 => by rw [comR, hrgQ, e_mlo h hx hy h7, e_mhi h hx hy h7, h.lo_ hk h7, h.hi_ hk h7])
theorem e_cmp (h : FlatV S n lo hi ab gv us) {x y : Nat} (hx : x < n) (hy : y < n) : cmpD lo hi x y = cmpS S x y := by
  rw [cmpD, cmpS, e_ins h hx hy, e_ins h hy hx, e_mee h hx hy]; rfl
theorem e_ctd (h : FlatV S n lo hi ab gv us) {x y : Nat} (hx : x < n) (hy : y < n) : conD lo hi ab gv n x y = ctdB S n x y := by
  have e1 : exN (hrcQ lo hi ab x y) n = exN (ctdQ S x y) n := exN_cong (fun k hk => by rw [hrcQ, ctdQ, h.ab_ hk, h.ab_ hx, e_com h hx hy hk])
  rw [conD, ctdB, ctdP, e_mee h hx hy, e_str h hx hy, e_str h hy hx, e1, ← h.ab_ hx, ← h.ab_ hy, nlt_le' (ab x)]
  by_cases h1 : ab x < nI 10
  · by_cases h2 : ab x = ab y
    · rw [h.gv_ hx, h.gv_ hy, if_pos h1, if_pos (h2 ▸ h1), decide_eq_true h1, decide_eq_true h2, decide_eq_true h2.symm]
      cases decide (gv x = gv y) <;> cases strB S x y <;> cases strB S y x <;> cases allN (meeQ S x y) 7 <;> cases exN (ctdQ S x y) n <;> rfl
    · rw [decide_eq_false h2, decide_eq_false (p := ab y = ab x) (fun z => h2 z.symm)]
      cases decide (ab x < nI 10) <;> rfl
  · rw [decide_eq_false h1]; rfl
end FVS

