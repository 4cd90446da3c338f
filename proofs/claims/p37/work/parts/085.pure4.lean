/-! THE NEXT CHANGE, THE LEAST VALUE; A SENTENCE TAKEN OUT: pure -/
theorem bor_no {S : Nat → Int32} {n k : Nat} {v x : Int32} (hv : -100005 < v) (hx : x ≤ greatestF (nI k)) (h : borI S n k v = -100005 ∨ x < borI S n k v) (r : Int32) : ∀ z, Zb (pr S r) (Lk S k) (Hk S k) n z → z ≤ v ∨ x < z := by
  intro z hz
  have hz2 : Zb (fun _ => true) (Lk S k) (Hk S k) n z := by
    obtain ⟨i, a, -, c⟩ := hz; exact ⟨i, a, rfl, c⟩
  have sR := gb_spec (p := fun _ => true) (L := Lk S k) (H := Hk S k) hv n
  have eR := e_borI S n k v
  generalize gb (fun _ => true) (Lk S k) (Hk S k) v n = b at sR eR
  by_cases q : z ≤ v
  · exact Or.inl q
  · have q' := Int32.not_le.mp q
    rcases sR with ⟨-, d⟩ | ⟨a, -, d⟩
    · exact Or.inl (d z hz2)
    · have hb := d z hz2 q'
      refine Or.inr ?_
      rw [eR, cutI] at h
      by_cases c : b = -100005 ∨ greatestF (nI k) < b
      · rcases c with c | c
        · rw [c] at a; exact absurd (Int32.lt_trans hv a) Int32.lt_irrefl
        · exact Int32.lt_of_le_of_lt hx (Int32.lt_of_lt_of_le c hb)
      · rw [if_neg c] at h
        rcases h with h | h
        · exact absurd (Or.inl h) c
        · exact Int32.lt_of_lt_of_le h hb
theorem ans_seg {S : Nat → Int32} {n k : Nat} (hL : LimV S n) (hk : k < 7) {v x : Int32} (hv : -100005 < v) (hvx : v ≤ x) (hx : x ≤ greatestF (nI k)) (h : borI S n k v = -100005 ∨ x < borI S n k v) (wo r : Int32) : ansI (upd S k v) wo n r = ansI (upd S k x) wo n r := ans_same hL hk hvx (bor_no hv hx h r)
theorem nc_spec {S : Nat → Int32} {n k : Nat} (hL : LimV S n) (hk : k < 7) (r : Int32) (stop : Int32 → Bool) : ∀ fu v, ncM v < fu → -100005 < v → v ≤ greatestF (nI k) →
    (ncF S (-100005) n r k stop fu v = -100005 ∧ ∀ x, v ≤ x → x ≤ greatestF (nI k) → stop (ansI (upd S k x) (-100005) n r) = false) ∨ (v ≤ ncF S (-100005) n r k stop fu v ∧ ncF S (-100005) n r k stop fu v ≤ greatestF (nI k) ∧ stop (ansI (upd S k (ncF S (-100005) n r k stop fu v)) (-100005) n r) = true ∧ ∀ x, v ≤ x → x < ncF S (-100005) n r k stop fu v → stop (ansI (upd S k x) (-100005) n r) = false) := by
  intro fu
  induction fu with
  | zero => intro v hv; exact absurd hv (Nat.not_lt_zero _)
  | succ fu ih =>
    intro v hM hv hvg
    have e0 : ¬ v = -100005 := fun z => by rw [z] at hv; exact Int32.lt_irrefl hv
    rw [ncF, if_neg e0]
    by_cases hs : stop (ansI (upd S k v) (-100005) n r) = true
    · rw [if_pos hs]
      exact Or.inr ⟨Int32.le_refl _, hvg, hs, fun x h1 h2 => absurd (Int32.lt_of_le_of_lt h1 h2) Int32.lt_irrefl⟩
    · rw [if_neg hs]
      have hs' : stop (ansI (upd S k v) (-100005) n r) = false := by cases hh : stop (ansI (upd S k v) (-100005) n r); rfl; exact absurd hh hs
      have hMb := borI_M (S := S) (n := n) (k := k) e0
      have seg : ∀ x, v ≤ x → x ≤ greatestF (nI k) → (borI S n k v = -100005 ∨ x < borI S n k v) → stop (ansI (upd S k x) (-100005) n r) = false := fun x h1 h2 h3 => by rw [← ans_seg hL hk hv h1 h2 h3]; exact hs'
      rcases borI_gt S n k v with hb | ⟨hb1, hb2⟩
      · have e1 : ncF S (-100005) n r k stop fu (borI S n k v) = -100005 := by
          cases fu with
          | zero => exact hb
          | succ fu => rw [ncF, if_pos hb]; exact hb
        rw [e1]
        exact Or.inl ⟨rfl, fun x h1 h2 => seg x h1 h2 (Or.inl hb)⟩
      · rcases ih (borI S n k v) (by omega) (Int32.lt_trans hv hb1) hb2 with ⟨q1, q2⟩ | ⟨q1, q2, q3, q4⟩
        · refine Or.inl ⟨q1, fun x h1 h2 => ?_⟩
          by_cases c : borI S n k v ≤ x
          · exact q2 x c h2
          · exact seg x h1 h2 (Or.inr (Int32.not_le.mp c))
        · refine Or.inr ⟨Int32.le_trans (Int32.le_of_lt hb1) q1, q2, q3, fun x h1 h2 => ?_⟩
          by_cases c : borI S n k v ≤ x
          · exact q4 x c h2
          · exact seg x h1 (Int32.le_trans (Int32.le_of_lt h2) q2) (Or.inr (Int32.not_le.mp c))
theorem upd_id (S : Nat → Int32) (k : Nat) : upd S k (S k) = S := by
  funext j; unfold upd; split
  · rename_i h; rw [h]
  · rfl
theorem ncZ_none {S : Nat → Int32} {wo : Int32} {n k : Nat} {r : Int32} {stop : Int32 → Bool} {v : Int32} (h : v = -100005) : ncZ S wo n r k stop v = -100005 := by
  rw [ncZ, ncF, if_pos h]; exact h
/-- the next change -/
theorem next_all {S : Nat → Int32} {n k : Nat} (hL : LimV S n) (hk : k < 7) (hf : -100005 < S k) (hg : S k ≤ greatestF (nI k)) (r : Int32) (u : Int32) (hu : u = ncZ S (-100005) n r k (fun z => !decide (z = ansI S (-100005) n r)) (borI S n k (S k))) :
    (u = -100005 ∧ ∀ x, S k ≤ x → x ≤ greatestF (nI k) → ansI (upd S k x) (-100005) n r = ansI S (-100005) n r) ∨ (¬ u = -100005 ∧ S k < u ∧ u ≤ greatestF (nI k) ∧ ¬ ansI (upd S k u) (-100005) n r = ansI S (-100005) n r ∧ ∀ x, S k ≤ x → x < u → ansI (upd S k x) (-100005) n r = ansI S (-100005) n r) := by
  have e0 : ansI (upd S k (S k)) (-100005) n r = ansI S (-100005) n r := by rw [upd_id]
  have seg : ∀ x, S k ≤ x → x ≤ greatestF (nI k) → (borI S n k (S k) = -100005 ∨ x < borI S n k (S k)) → ansI (upd S k x) (-100005) n r = ansI S (-100005) n r := fun x h1 h2 h3 => by rw [← ans_seg hL hk hf h1 h2 h3]; exact e0
  have st : ∀ z, (!decide (z = ansI S (-100005) n r)) = false → z = ansI S (-100005) n r := fun z h => by rw [Bool.not_eq_false', decide_eq_true_eq] at h; exact h
  rcases borI_gt S n k (S k) with hb | ⟨hb1, hb2⟩
  · rw [ncZ_none hb] at hu
    exact Or.inl ⟨hu, fun x h1 h2 => seg x h1 h2 (Or.inl hb)⟩
  · rw [ncZ] at hu
    have hsp := nc_spec hL hk r (fun z => !decide (z = ansI S (-100005) n r)) (ncM (borI S n k (S k)) + 1) (borI S n k (S k)) (Nat.lt_succ_self _) (Int32.lt_trans hf hb1) hb2
    rw [← hu] at hsp
    rcases hsp with ⟨q1, q2⟩ | ⟨q1, q2, q3, q4⟩
    · refine Or.inl ⟨q1, fun x h1 h2 => ?_⟩
      by_cases c : borI S n k (S k) ≤ x
      · exact st _ (q2 x c h2)
      · exact seg x h1 h2 (Or.inr (Int32.not_le.mp c))
    · have hgt := Int32.lt_of_lt_of_le hb1 q1
      refine Or.inr ⟨fun z => ?_, hgt, q2, ?_, fun x h1 h2 => ?_⟩
      · rw [z] at hgt; exact Int32.lt_irrefl (Int32.lt_trans hf hgt)
      · rw [Bool.not_eq_true', decide_eq_false_iff_not] at q3; exact q3
      · by_cases c : borI S n k (S k) ≤ x
        · exact st _ (q4 x c h2)
        · exact seg x h1 (Int32.le_trans (Int32.le_of_lt h2) q2) (Or.inr (Int32.not_le.mp c))
/-- the least value for an answer -/
theorem least_all {S : Nat → Int32} {n k : Nat} (hL : LimV S n) (hk : k < 7) (r w : Int32) (u : Int32) (hu : u = ncZ S (-100005) n r k (fun z => decide (z = w)) (leastF (nI k))) :
    (u = -100005 ∧ ∀ x, leastF (nI k) ≤ x → x ≤ greatestF (nI k) → ¬ ansI (upd S k x) (-100005) n r = w) ∨ (¬ u = -100005 ∧ leastF (nI k) ≤ u ∧ u ≤ greatestF (nI k) ∧ ansI (upd S k u) (-100005) n r = w ∧ ∀ x, leastF (nI k) ≤ x → x < u → ¬ ansI (upd S k x) (-100005) n r = w) := by
  have h0 : -100005 < leastF (nI k) ∧ leastF (nI k) ≤ greatestF (nI k) := by
    have hk' : k = 0 ∨ k = 1 ∨ k = 2 ∨ k = 3 ∨ k = 4 ∨ k = 5 ∨ k = 6 := by omega
    rcases hk' with rfl | rfl | rfl | rfl | rfl | rfl | rfl <;> decide
  rw [ncZ] at hu
  have hsp := nc_spec hL hk r (fun z => decide (z = w)) (ncM (leastF (nI k)) + 1) (leastF (nI k)) (Nat.lt_succ_self _) h0.1 h0.2
  rw [← hu] at hsp
  rcases hsp with ⟨q1, q2⟩ | ⟨q1, q2, q3, q4⟩
  · exact Or.inl ⟨q1, fun x h1 h2 => of_decide_eq_false (q2 x h1 h2)⟩
  · exact Or.inr ⟨fun z => by rw [z] at q1; exact Int32.lt_irrefl (Int32.lt_of_lt_of_le h0.1 q1), q1, q2, of_decide_eq_true q3, fun x h1 h2 => of_decide_eq_false (q4 x h1 h2)⟩
/-! a sentence taken out -/
def sgN (k i : Nat) : Nat := if i < k then i else i + 1
theorem ret_w {S : Nat → Int32} {n k i w : Nat} (hn : n ≤ 16) (hk : k < n) (hi : i < n - 1) (hw : w < 66) : retS S n k (57 + 66 * i + w) = S (57 + 66 * (sgN k i) + w) := by
  unfold retS upd retK sgN
  rw [if_neg (by omega)]
  by_cases h : i < k
  · rw [if_neg (by omega), if_pos h]
  · rw [if_pos (by omega), if_neg h]; congr 1; omega
theorem ret_fa {S : Nat → Int32} {n k j : Nat} (hj : j < 56) : retS S n k j = S j := by
  unfold retS upd retK
  rw [if_neg (by omega), if_neg (by omega)]
theorem ret_56 {S : Nat → Int32} {n k : Nat} : retS S n k 56 = nI (n - 1) := by unfold retS upd; rw [if_pos rfl]
theorem allN_sg {q p : Nat → Bool} {n k : Nat} (hk : k < n) (h : ∀ i, i < n - 1 → p i = q (sgN k i)) (hq : q k = true) : allN p (n - 1) = allN q n := by
  rw [Bool.eq_iff_iff, allN_iff, allN_iff]
  refine ⟨fun a j hj => ?_, fun a i hi => ?_⟩
  · by_cases e : j = k
    · rw [e]; exact hq
    · by_cases e2 : j < k
      · have := a j (by omega); rw [h j (by omega), sgN, if_pos e2] at this; exact this
      · have := a (j - 1) (by omega); rw [h (j - 1) (by omega), sgN, if_neg (by omega), show j - 1 + 1 = j by omega] at this; exact this
  · rw [h i hi]
    exact a _ (by unfold sgN; split <;> omega)
section RT
variable {S : Nat → Int32} {n k : Nat} (hn : n ≤ 16) (hk : k < n)
theorem ret_ins (hn : n ≤ 16) (hk : k < n) {i j : Nat} (hi : i < n - 1) (hj : j < n - 1) : insB (retS S n k) i j = insB S (sgN k i) (sgN k j) := allN_cong (fun f hf => by
  rw [insQ, insQ, ret_w hn hk hi (by omega), ret_w hn hk hi (by omega), ret_w hn hk hj (by omega), ret_w hn hk hj (by omega)])
theorem ret_app (hn : n ≤ 16) (hk : k < n) {i : Nat} (hi : i < n - 1) (r : Int32) : appB (retS S n k) (-100005) i r = appB S (nI k) (sgN k i) r := by
  have h1 : sgN k i ≠ k := by unfold sgN; split <;> omega
  have h2 : sgN k i < n := by unfold sgN; split <;> omega
  rw [appB, appB, decide_eq_false (nI_no5 (by omega)), decide_eq_false (fun z => h1 ((nI_eq (by omega) (by omega)).mp z)), ret_w hn hk hi (by omega)]
  congr 1
  refine allN_cong (fun f hf => ?_)
  rw [conQ, conQ, ret_w hn hk hi (by omega), ret_w hn hk hi (by omega), ret_fa (by omega)]
theorem app_self (S : Nat → Int32) (k : Nat) (r : Int32) : appB S (nI k) k r = false := by rw [appB, decide_eq_true rfl]; rfl
theorem ret_rea (hn : n ≤ 16) (hk : k < n) {i : Nat} (hi : i < n - 1) (r : Int32) : reaB (retS S n k) (-100005) (n - 1) i r = reaB S (nI k) n (sgN k i) r := by
  rw [reaB, reaB, ret_app hn hk hi]
  congr 1
  refine allN_sg hk (fun j hj => ?_) (by rw [reaQ, app_self]; rfl)
  rw [reaQ, reaQ, ret_app hn hk hj, strB, strB, ret_ins hn hk hj hi, ret_ins hn hk hi hj]
theorem ret_ans (hn : n ≤ 16) (hk : k < n) (r : Int32) (hg : ∀ i, i < n → reaB S (nI k) n i r = true → S (57 + 66 * i + 50) ≠ -100005 ∧ S (57 + 66 * i + 50) ≠ -100006) : ansI (retS S n k) (-100005) (n - 1) r = ansI S (nI k) n r := by
  have hs : ∀ i, i < n - 1 → sgN k i < n := fun i hi => by unfold sgN; split <;> omega
  have h1 := ansL_P (S := retS S n k) (wo := -100005) (r := r) (n := n - 1) (fun i hi hR => by
    rw [ret_w hn hk hi (by omega)]
    exact hg _ (hs i hi) (by rw [← ret_rea hn hk hi]; exact hR)) (n - 1) (Nat.le_refl _)
  have h2 := ansL_P (S := S) (wo := nI k) (r := r) (n := n) hg n (Nat.le_refl _)
  have nk : reaB S (nI k) n k r = false := by rw [reaB, app_self]; rfl
  have on : ∀ j, j < n → reaB S (nI k) n j r = true → ∃ i, i < n - 1 ∧ sgN k i = j := fun j hj hR => by
    have : j ≠ k := fun z => by rw [z, nk] at hR; cases hR
    by_cases e : j < k
    · exact ⟨j, by omega, by rw [sgN, if_pos e]⟩
    · exact ⟨j - 1, by omega, by rw [sgN, if_neg (by omega)]; omega⟩
  refine AnsP.uniq (R := fun j => reaB S (nI k) n j r) (g := fun j => S (57 + 66 * j + 50)) (n := n) ?_ h2
  rcases h1 with ⟨e, h⟩ | ⟨i, i1, i2, e, h⟩ | ⟨e, i, j, i1, j1, i2, j2, h⟩
  · refine Or.inl ⟨e, fun j hj => ?_⟩
    cases hR : reaB S (nI k) n j r with
    | false => exact hR
    | true =>
      obtain ⟨i, hi, ei⟩ := on j hj hR
      have h3 : reaB (retS S n k) (-100005) (n - 1) i r = false := h i hi
      rw [ret_rea hn hk hi, ei, hR] at h3; cases h3
  · have i2 : reaB (retS S n k) (-100005) (n - 1) i r = true := i2
    rw [ret_rea hn hk i1] at i2
    refine Or.inr (Or.inl ⟨sgN k i, hs i i1, i2, e.trans (ret_w hn hk i1 (by omega)), fun j hj hR => ?_⟩)
    obtain ⟨a, ha, ea⟩ := on j hj hR
    have h3 : retS S n k (57 + 66 * a + 50) = retS S n k (57 + 66 * i + 50) := h a ha (by show reaB (retS S n k) (-100005) (n - 1) a r = true; rw [ret_rea hn hk ha, ea]; exact hR)
    rw [ret_w hn hk ha (by omega), ret_w hn hk i1 (by omega), ea] at h3
    exact h3
  · have i2 : reaB (retS S n k) (-100005) (n - 1) i r = true := i2
    have j2 : reaB (retS S n k) (-100005) (n - 1) j r = true := j2
    rw [ret_rea hn hk i1] at i2
    rw [ret_rea hn hk j1] at j2
    refine Or.inr (Or.inr ⟨e, sgN k i, sgN k j, hs i i1, hs j j1, i2, j2, fun z => h ?_⟩)
    show retS S n k (57 + 66 * i + 50) = retS S n k (57 + 66 * j + 50)
    rw [ret_w hn hk i1 (by omega), ret_w hn hk j1 (by omega)]; exact z
theorem wo_ans {wo w2 r : Int32} (h : ∀ i, i < n → appB S wo i r = appB S w2 i r) : ansI S wo n r = ansI S w2 n r := by
  have key : ∀ i, i ≤ n → ansL S wo n r i = ansL S w2 n r i := by
    intro i
    induction i with
    | zero => intro _; rfl
    | succ i ih =>
      intro hi
      have er : reaB S wo n i r = reaB S w2 n i r := by
        rw [reaB, reaB, h i (by omega), allN_cong (r := reaQ S w2 i r) (fun j hj => by rw [reaQ, reaQ, h j hj])]
      rw [ansL, ansL, er, ih (by omega)]
  exact key n (Nat.le_refl n)
theorem oth_ans (hn : n ≤ 16) (hk : k < n) {r : Int32} (hr : ¬ S (57 + 66 * k + 49) = r) : ansI S (nI k) n r = ansI S (-100005) n r := wo_ans (fun i hi => by
  by_cases e : i = k
  · subst e
    rw [app_self, appB, decide_eq_false hr, Bool.and_false, Bool.false_and]
  · rw [appB, appB, decide_eq_false (fun z => e ((nI_eq (by omega) (by omega)).mp z)), decide_eq_false (nI_no5 (by omega))])
end RT
