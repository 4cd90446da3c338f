/-! where the places lead -/
theorem nIq {a q : Nat} (ha : a ≤ 14) (hq : q ≤ 14) (h : nI a = nI q) : q = a := ((nI_eq (by omega) (by omega)).mp h).symm
theorem m1q {q : Nat} (hq : q ≤ 14) (h : (-1 : Int32) = nI q) : False := by
  have := congrArg Int32.toInt h
  rw [nI_toInt (by omega), show (-1 : Int32).toInt = -1 from by decide] at this
  omega
theorem tr_ite {P : Prop} [Decidable P] {a q : Nat} {z : Int32} (ha : a ≤ 14) (hq : q ≤ 14) (h : (if P then nI a else z) = nI q) : (P ∧ q = a) ∨ (¬ P ∧ z = nI q) := by
  by_cases hP : P
  · rw [if_pos hP] at h; exact Or.inl ⟨hP, nIq ha hq h⟩
  · rw [if_neg hP] at h; exact Or.inr ⟨hP, h⟩
theorem tr_it1 {P : Prop} [Decidable P] {a q : Nat} (ha : a ≤ 14) (hq : q ≤ 14) (h : (if P then nI a else -1) = nI q) : P ∧ q = a := by
  rcases tr_ite ha hq h with z | z
  · exact z
  · exact (m1q hq z.2).elim
theorem tr_afr {x : Int32} {q : Nat} (hq : q ≤ 14) (h : afrV x = nI q) : inB x 22 25 = true ∧ q = 8 := tr_it1 (by omega) hq h
theorem tr_aff {x : Int32} {q : Nat} (hq : q ≤ 14) (h : affV x = nI q) : (x = 0 ∧ q = 2) ∨ (¬ x = 0 ∧ inB x 16 21 = true ∧ q = 1) ∨ (¬ x = 0 ∧ ¬ inB x 16 21 = true ∧ inB x 22 25 = true ∧ q = 8) := by
  rcases tr_ite (by omega) hq h with z | ⟨z, h⟩
  · exact Or.inl z
  · rcases tr_ite (by omega) hq h with z2 | ⟨z2, h⟩
    · exact Or.inr (Or.inl ⟨z, z2⟩)
    · exact Or.inr (Or.inr ⟨z, z2, tr_afr hq h⟩)
theorem tr_afs {x : Int32} {q : Nat} (hq : q ≤ 14) (h : afsV x = nI q) : (inB x 16 21 = true ∧ q = 6) ∨ (¬ inB x 16 21 = true ∧ inB x 10 15 = true ∧ q = 3) := by
  rcases tr_ite (by omega) hq h with z | ⟨z, h⟩
  · exact Or.inl z
  · exact Or.inr ⟨z, tr_it1 (by omega) hq h⟩
theorem tr_afo {x : Int32} {q : Nat} (hq : q ≤ 14) (h : afoV x = nI q) : (x = nI 5 ∨ x = nI 6) ∧ q = 5 := by
  rcases tr_ite (by omega) hq h with z | ⟨_, h⟩
  · exact ⟨Or.inl z.1, z.2⟩
  · exact ⟨Or.inr (tr_it1 (by omega) hq h).1, (tr_it1 (by omega) hq h).2⟩
theorem tr_afc {x : Int32} {q : Nat} (hq : q ≤ 14) (h : afcV x = nI q) : (x = nI 4 ∧ q = 5) ∨ (x = nI 7 ∧ q = 4) ∨ ((x = nI 5 ∨ x = nI 6) ∧ q = 5) := by
  rcases tr_ite (by omega) hq h with z | ⟨_, h⟩
  · exact Or.inl z
  · rcases tr_ite (by omega) hq h with z2 | ⟨_, h⟩
    · exact Or.inr (Or.inl z2)
    · exact Or.inr (Or.inr (tr_afo hq h))
theorem tr_afe {ir : Bool} {x : Int32} {q : Nat} (hq : q ≤ 14) (h : afeV ir x = nI q) : (x = nI 1 ∧ q = 2) ∨ (x = nI 2 ∧ ir = true ∧ q = 7) := by
  rcases tr_ite (by omega) hq h with z | ⟨_, h⟩
  · exact Or.inl z
  · by_cases h2 : x = nI 2
    · rw [if_pos h2] at h; exact Or.inr ⟨h2, tr_it1 (by omega) hq h⟩
    · rw [if_neg h2] at h; exact (m1q hq h).elim
/-- what a step asks of the token -/
def TR (p : Nat) (kd x : Int32) (ir : Bool) (t q : Nat) : Prop :=
  (p = 0 ∧ kd = 0 ∧ x = 0 ∧ q = 2) ∨ (p = 0 ∧ kd = 0 ∧ ¬ x = 0 ∧ inB x 16 21 = true ∧ q = 1) ∨ (p = 0 ∧ kd = 0 ∧ ¬ x = 0 ∧ ¬ inB x 16 21 = true ∧ inB x 22 25 = true ∧ q = 8) ∨
  (p = 1 ∧ kd = 0 ∧ x = nI 3 ∧ q = 2) ∨ (p = 2 ∧ kd = 0 ∧ inB x 16 21 = true ∧ q = 6) ∨ (p = 2 ∧ kd = 0 ∧ ¬ inB x 16 21 = true ∧ inB x 10 15 = true ∧ q = 3) ∨
  (p = 3 ∧ kd = 0 ∧ x = nI 4 ∧ q = 5) ∨ (p = 3 ∧ kd = 0 ∧ x = nI 7 ∧ q = 4) ∨ (p = 3 ∧ kd = 0 ∧ (x = nI 5 ∨ x = nI 6) ∧ q = 5) ∨ (p = 4 ∧ kd = 0 ∧ (x = nI 5 ∨ x = nI 6) ∧ q = 5) ∨
  (p = 5 ∧ kd = kovV (nI t) ∧ q = 6) ∨ (p = 6 ∧ kd = 0 ∧ x = nI 1 ∧ q = 2) ∨ (p = 6 ∧ kd = 0 ∧ x = nI 2 ∧ ir = true ∧ q = 7) ∨ (p = 7 ∧ kd = 0 ∧ inB x 22 25 = true ∧ q = 8) ∨
  (p = 8 ∧ kd = 0 ∧ x = nI 4 ∧ q = 9) ∨ (p = 9 ∧ kd = nI 1 ∧ q = 10) ∨ (p = 10 ∧ kd = 0 ∧ x = nI 8 ∧ q = 11) ∨ (p = 10 ∧ kd = 0 ∧ x = nI 9 ∧ q = 13) ∨
  (p = 11 ∧ kd = nI 2 ∧ q = 12) ∨ (p = 12 ∧ kd = 0 ∧ x = nI 9 ∧ q = 13) ∨ (p = 13 ∧ kd = nI 2 ∧ q = 14)
theorem cd_0 {kd x : Int32} (h : kd = 0) : cdF kd x = x := if_pos h
theorem cd_n {kd x : Int32} (h : ¬ kd = 0) : cdF kd x = -1 := if_neg h
theorem pl_tr {p q t : Nat} {kd x : Int32} {ir : Bool} (hp : p ≤ 14) (hq : q ≤ 14) (h : plV p kd x ir t = nI q) : TR p kd x ir t q := by
  unfold TR
  have hp15 : p = 0 ∨ p = 1 ∨ p = 2 ∨ p = 3 ∨ p = 4 ∨ p = 5 ∨ p = 6 ∨ p = 7 ∨ p = 8 ∨ p = 9 ∨ p = 10 ∨ p = 11 ∨ p = 12 ∨ p = 13 ∨ p = 14 := by omega
  by_cases hk : kd = 0
  · have ec : cdF kd x = x := cd_0 hk
    rcases hp15 with rfl | rfl | rfl | rfl | rfl | rfl | rfl | rfl | rfl | rfl | rfl | rfl | rfl | rfl | rfl
    · have h : affV (cdF kd x) = nI q := h
      rw [ec] at h
      rcases tr_aff hq h with z | z | z <;> simp_all
    · have h : (if cdF kd x = nI 3 then nI 2 else -1) = nI q := h
      rw [ec] at h
      have z := tr_it1 (by omega) hq h; simp_all
    · have h : afsV (cdF kd x) = nI q := h
      rw [ec] at h
      rcases tr_afs hq h with z | z <;> simp_all
    · have h : afcV (cdF kd x) = nI q := h
      rw [ec] at h
      rcases tr_afc hq h with z | z | z
      · exact Or.inr (Or.inr (Or.inr (Or.inr (Or.inr (Or.inr (Or.inl ⟨rfl, hk, z⟩))))))
      · exact Or.inr (Or.inr (Or.inr (Or.inr (Or.inr (Or.inr (Or.inr (Or.inl ⟨rfl, hk, z⟩)))))))
      · exact Or.inr (Or.inr (Or.inr (Or.inr (Or.inr (Or.inr (Or.inr (Or.inr (Or.inl ⟨rfl, hk, z⟩))))))))
    · have h : afoV (cdF kd x) = nI q := h
      rw [ec] at h
      have z := tr_afo hq h
      exact Or.inr (Or.inr (Or.inr (Or.inr (Or.inr (Or.inr (Or.inr (Or.inr (Or.inr (Or.inl ⟨rfl, hk, z⟩)))))))))
    · have h : (if kd = kovV (nI t) then nI 6 else -1) = nI q := h
      have z := tr_it1 (by omega) hq h
      exact Or.inr (Or.inr (Or.inr (Or.inr (Or.inr (Or.inr (Or.inr (Or.inr (Or.inr (Or.inr (Or.inl ⟨rfl, z⟩))))))))))
    · have h : afeV ir (cdF kd x) = nI q := h
      rw [ec] at h
      rcases tr_afe hq h with z | z <;> simp_all
    · have h : afrV (cdF kd x) = nI q := h
      rw [ec] at h
      have z := tr_afr hq h; simp_all
    · have h : (if cdF kd x = nI 4 then nI 9 else -1) = nI q := h
      rw [ec] at h
      have z := tr_it1 (by omega) hq h; simp_all
    · have h : (if kd = nI 1 then nI 10 else -1) = nI q := h
      have z := tr_it1 (by omega) hq h
      rw [hk] at z; exact absurd z.1 (by decide)
    · have h : (if cdF kd x = nI 8 then nI 11 else afuV (cdF kd x)) = nI q := h
      rw [ec] at h
      rcases tr_ite (by omega) hq h with z | ⟨z, h⟩
      · simp_all
      · have z2 : x = nI 9 ∧ q = 13 := tr_it1 (by omega) hq h
        simp_all
    · have h : (if kd = nI 2 then nI 12 else -1) = nI q := h
      have z := tr_it1 (by omega) hq h
      rw [hk] at z; exact absurd z.1 (by decide)
    · have h : afuV (cdF kd x) = nI q := h
      rw [ec] at h
      have z2 : x = nI 9 ∧ q = 13 := tr_it1 (by omega) hq h
      simp_all
    · have h : (if kd = nI 2 then nI 14 else -1) = nI q := h
      have z := tr_it1 (by omega) hq h
      rw [hk] at z; exact absurd z.1 (by decide)
    · exact (m1q hq h).elim
  · have ec : cdF kd x = -1 := cd_n hk
    rcases hp15 with rfl | rfl | rfl | rfl | rfl | rfl | rfl | rfl | rfl | rfl | rfl | rfl | rfl | rfl | rfl
    · have h : affV (cdF kd x) = nI q := h
      rw [ec, m1_aff] at h; exact (m1q hq h).elim
    · have h : (if cdF kd x = nI 3 then nI 2 else -1) = nI q := h
      rw [ec] at h; exact absurd (tr_it1 (by omega) hq h).1 (by decide)
    · have h : afsV (cdF kd x) = nI q := h
      rw [ec, m1_afs] at h; exact (m1q hq h).elim
    · have h : afcV (cdF kd x) = nI q := h
      rw [ec, m1_afc] at h; exact (m1q hq h).elim
    · have h : afoV (cdF kd x) = nI q := h
      rw [ec, m1_afo] at h; exact (m1q hq h).elim
    · have h : (if kd = kovV (nI t) then nI 6 else -1) = nI q := h
      have z := tr_it1 (by omega) hq h
      exact Or.inr (Or.inr (Or.inr (Or.inr (Or.inr (Or.inr (Or.inr (Or.inr (Or.inr (Or.inr (Or.inl ⟨rfl, z⟩))))))))))
    · have h : afeV ir (cdF kd x) = nI q := h
      rw [ec, m1_afe] at h; exact (m1q hq h).elim
    · have h : afrV (cdF kd x) = nI q := h
      rw [ec, m1_afr] at h; exact (m1q hq h).elim
    · have h : (if cdF kd x = nI 4 then nI 9 else -1) = nI q := h
      rw [ec] at h; exact absurd (tr_it1 (by omega) hq h).1 (by decide)
    · have h : (if kd = nI 1 then nI 10 else -1) = nI q := h
      have z := tr_it1 (by omega) hq h; simp_all
    · have h : (if cdF kd x = nI 8 then nI 11 else afuV (cdF kd x)) = nI q := h
      rw [ec, m1_afu, if_neg (by decide)] at h; exact (m1q hq h).elim
    · have h : (if kd = nI 2 then nI 12 else -1) = nI q := h
      have z := tr_it1 (by omega) hq h; simp_all
    · have h : afuV (cdF kd x) = nI q := h
      rw [ec, m1_afu] at h; exact (m1q hq h).elim
    · have h : (if kd = nI 2 then nI 14 else -1) = nI q := h
      have z := tr_it1 (by omega) hq h; simp_all
    · exact (m1q hq h).elim
def placeM : List Int32 := [nI 1, nI 2, nI 3, nI 4, nI 5, nI 6, nI 7, nI 8, nI 9, nI 10, nI 11, nI 12, nI 13, nI 14, -1]
theorem plV_mem (p : Nat) (kd x : Int32) (ir : Bool) (t : Nat) : plV p kd x ir t ∈ placeM := by
  unfold plV affV afrV afsV afcV afoV afeV afuV
  repeat' (first | decide | apply ite_mem)
theorem plV_nat {p : Nat} {kd x : Int32} {ir : Bool} {t : Nat} (h : ¬ plV p kd x ir t = -1) : ∃ q, q ≤ 14 ∧ plV p kd x ir t = nI q := by
  have key : ∀ z : Int32, z ∈ placeM → ¬ z = -1 → ∃ q, q ≤ 14 ∧ z = nI q := by
    intro z hz h0
    simp only [placeM, List.mem_cons, List.not_mem_nil, or_false] at hz
    rcases hz with rfl | rfl | rfl | rfl | rfl | rfl | rfl | rfl | rfl | rfl | rfl | rfl | rfl | rfl | rfl
    · exact ⟨1, by omega, rfl⟩
    · exact ⟨2, by omega, rfl⟩
    · exact ⟨3, by omega, rfl⟩
    · exact ⟨4, by omega, rfl⟩
    · exact ⟨5, by omega, rfl⟩
    · exact ⟨6, by omega, rfl⟩
    · exact ⟨7, by omega, rfl⟩
    · exact ⟨8, by omega, rfl⟩
    · exact ⟨9, by omega, rfl⟩
    · exact ⟨10, by omega, rfl⟩
    · exact ⟨11, by omega, rfl⟩
    · exact ⟨12, by omega, rfl⟩
    · exact ⟨13, by omega, rfl⟩
    · exact ⟨14, by omega, rfl⟩
    · exact absurd rfl h0
  exact key _ (plV_mem p kd x ir t) h
/-! the errors agree -/
def EIv (S : Nat → Int32) (cn k p : Nat) (ir : Bool) (t : Nat) : Prop :=
  p ≤ 14 ∧ t < 6 ∧ (p = 0 → ir = true) ∧ ∀ ir0 wt0, ∃ jr jt, errF S (cn - k) k jr jt p = errF S cn 0 ir0 wt0 0 ∧ (1 ≤ p → p ≤ 7 → jr = ir) ∧ (3 ≤ p → p ≤ 5 → jt = decide (4 ≤ t))
theorem EIv.start (S : Nat → Int32) (cn t : Nat) (ht : t < 6) : EIv S cn 0 0 true t :=
  ⟨by omega, ht, fun _ => rfl, fun ir0 wt0 => ⟨ir0, wt0, rfl, fun h => absurd h (by omega), fun h => absurd h (by omega)⟩⟩
theorem fixV_q {q : Nat} (hq : q ≤ 14) : fixV (nI q) = nI q := by
  rw [fixV, if_neg (fun z => m1q hq z.symm)]
theorem paT_lt {p t : Nat} {x : Int32} (ht : t < 6) : paT p x t < 6 := by
  unfold paT
  split
  · split
    · exact ht
    · split
      · rename_i h; exact (fact_sub h).2.1
      · exact ht
  · exact ht
theorem le13 {x : Int32} {t : Nat} (ht : t < 6) (h : x = nI (10 + t)) : (!decide (x ≤ nI 13)) = decide (4 ≤ t) := by
  subst h
  rcases Nat.lt_or_ge t 4 with z | z
  · rw [decide_eq_true (nI_le (by omega) (by omega)), decide_eq_false (by omega)]; rfl
  · rw [decide_eq_false (nI_ge (by omega) (by omega)), decide_eq_true z]; rfl
theorem EIv.bad {S : Nat → Int32} {cn k p t : Nat} {ir : Bool} (h : EIv S cn k p ir t) (hk : k < cn) (hkd : kdB (S (7 + 1 + k))) (hb : plV p (S (7 + 1 + k)) (S (7 + 25 + k)) ir t = -1) (ir0 wt0 : Bool) : (errF S cn 0 ir0 wt0 0).1 = nI k := by
  obtain ⟨hp, ht, _, h4⟩ := h
  obtain ⟨jr, jt, e, h1, h3⟩ := h4 ir0 wt0
  have eb := beh_pl hkd hp ht h1 h3 (x := S (7 + 25 + k))
  rw [← e, errF_bad hk (by rw [eb, hb]; decide)]
theorem EIv.fin {S : Nat → Int32} {cn k p t : Nat} {ir : Bool} (h : EIv S cn k p ir t) (hk : cn ≤ k) (ir0 wt0 : Bool) : (errF S cn 0 ir0 wt0 0).1 = if comB ir p = true then -100005 else nI k := by
  obtain ⟨hp, ht, _, h4⟩ := h
  obtain ⟨jr, jt, e, h1, h3⟩ := h4 ir0 wt0
  rw [← e, errF_end hk]
  by_cases h6 : p = 6
  · rw [h1 (by omega) (by omega)]
  · show (if comB jr p = true then _ else _) = _
    rw [show comB jr p = comB ir p from by simp [comB, h6]]
theorem EIv.step {S : Nat → Int32} {cn k p t q : Nat} {ir : Bool} (h : EIv S cn k p ir t) (hk : k < cn) (hkd : kdB (S (7 + 1 + k))) (hq : q ≤ 14) (hv : plV p (S (7 + 1 + k)) (S (7 + 25 + k)) ir t = nI q) : EIv S cn (k + 1) q (paI p (cdF (S (7 + 1 + k)) (S (7 + 25 + k))) ir) (paT p (cdF (S (7 + 1 + k)) (S (7 + 25 + k))) t) := by
  obtain ⟨hp, ht, h0, h4⟩ := h
  have hT := pl_tr hp hq hv
  refine ⟨hq, paT_lt ht, fun z => ?_, fun ir0 wt0 => ?_⟩
  · exfalso
    unfold TR at hT
    omega
  obtain ⟨jr, jt, e, h1, h3⟩ := h4 ir0 wt0
  have eb := beh_pl hkd hp ht h1 h3 (x := S (7 + 25 + k))
  refine ⟨_, _, (errF_go hk (eb.trans (by rw [hv, fixV_q hq])) hq).symm.trans e, ?_, ?_⟩
  · intro g1 g7
    generalize S (7 + 1 + k) = kd at *
    generalize S (7 + 25 + k) = x at *
    by_cases hp0 : p = 0
    · subst hp0
      have hi := h0 rfl
      subst hi
      unfold TR at hT
      have hk0 : kd = 0 ∧ (x = 0 ∨ (¬ x = 0 ∧ inB x 16 21 = true)) := by
        rcases hT with z | z | z | z | z | z | z | z | z | z | z | z | z | z | z | z | z | z | z | z | z
        · exact ⟨z.2.1, Or.inl z.2.2.1⟩
        · exact ⟨z.2.1, Or.inr ⟨z.2.2.1, z.2.2.2.1⟩⟩
        · omega
        all_goals exact absurd z.1 (by decide)
      obtain ⟨rfl, hx⟩ := hk0
      show (if (0 : Int32) = 0 then bwR jr 0 x else jr) = affI (cdF 0 x) true
      rw [if_pos rfl, cd_0 rfl, affI]
      rcases hx with rfl | ⟨hx, hx2⟩
      · rfl
      · rw [if_neg hx, if_pos hx2]; exact decide_eq_false hx
    · have hp7 : p ≤ 7 := by unfold TR at hT; omega
      rw [paI, if_neg hp0, ← h1 (by omega) hp7, behR]
      split
      · rw [bwR, if_neg hp0]
      · rfl
  · intro g3 g5
    generalize S (7 + 1 + k) = kd at *
    generalize S (7 + 25 + k) = x at *
    by_cases hp2 : p = 2
    · subst hp2
      unfold TR at hT
      have hk0 : kd = 0 ∧ ¬ inB x 16 21 = true ∧ inB x 10 15 = true := by
        rcases hT with z | z | z | z | z | z | z | z | z | z | z | z | z | z | z | z | z | z | z | z | z
        case inr.inr.inr.inr.inl => omega
        case inr.inr.inr.inr.inr.inl => exact ⟨z.2.1, z.2.2.1, z.2.2.2.1⟩
        all_goals exact absurd z.1 (by decide)
      obtain ⟨rfl, hx, hx2⟩ := hk0
      rw [behD, if_pos rfl, bwD, if_pos rfl, cd_0 rfl, paT, if_pos rfl, if_neg hx, if_pos hx2]
      exact le13 (fact_sub hx2).2.1 (fact_sub hx2).2.2
    · have hp5 : 3 ≤ p ∧ p ≤ 5 := by unfold TR at hT; omega
      rw [paT, if_neg hp2, ← h3 hp5.1 hp5.2, behD]
      split
      · rw [bwD, if_neg hp2]
      · rfl

