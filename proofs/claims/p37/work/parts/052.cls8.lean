/-! THE CLASS: reasons in a row, answers with a value -/
theorem StQ.keep {G : mG} {f f1 : mE} {q0 b fc pr n x : Nat} {B : Nat → Option Nat} {X rg pa qa tk : Nat → Nat} {lo hi : Nat → Nat → Int32} {ab gv us : Nat → Int32} (h : StQ G f q0 b fc pr n B X rg pa qa tk lo hi ab gv us) (hf : ∀ c, c ≠ x → f1 c = f c) (n0 : q0 ≠ x) (n1 : b ≠ x) (n2 : ∀ i, i < n → X i ≠ x ∧ rg i ≠ x ∧ pa i ≠ x ∧ qa i ≠ x) : StQ G f1 q0 b fc pr n B X rg pa qa tk lo hi ab gv us :=
  ⟨(hf _ n0).trans h.1, (hf _ n1).trans h.2.1, h.2.2.1, fun i hi => ⟨(h.2.2.2 i hi).1, (hf _ (n2 i hi).1).trans (h.2.2.2 i hi).2.1, (hf _ (n2 i hi).2.1).trans (h.2.2.2 i hi).2.2.1, (hf _ (n2 i hi).2.2.1).trans (h.2.2.2 i hi).2.2.2.1, (hf _ (n2 i hi).2.2.2).trans (h.2.2.2 i hi).2.2.2.2⟩⟩
theorem ne_QI {G : mG} {f : mE} {x y m n : Nat} {g : Nat → Option Nat} {h : Nat → Int32} {k : Nat} (hx : f x = some (mQ G k m g)) (hy : f y = some (mI G n h)) : x ≠ y := fun e => by
  rw [e, hy] at hx
  have h1 := Sum.inl.inj (Option.some.inj hx)
  have h2 := congrArg (fun q => q.2.2) h1
  simp at h2
theorem StQ.keep16 {G : mG} {f f1 : mE} {q0 b fc pr n x : Nat} {B : Nat → Option Nat} {X rg pa qa tk : Nat → Nat} {lo hi : Nat → Nat → Int32} {ab gv us row : Nat → Int32} (h : StQ G f q0 b fc pr n B X rg pa qa tk lo hi ab gv us) (hx : f x = some (mI G 16 row)) (hf : ∀ c, c ≠ x → f1 c = f c) : StQ G f1 q0 b fc pr n B X rg pa qa tk lo hi ab gv us :=
  h.keep hf (ne_oi h.1 hx) (ne_QI h.2.1 hx) (fun i hi => ⟨ne_oi (h.2.2.2 i hi).2.1 hx, ne_oi (h.2.2.2 i hi).2.2.1 hx, ne_len (h.2.2.2 i hi).2.2.2.1 hx (by decide), ne_len (h.2.2.2 i hi).2.2.2.2 hx (by decide)⟩)
theorem StQ.keep7 {G : mG} {f f1 : mE} {q0 b fc pr n x : Nat} {B : Nat → Option Nat} {X rg pa qa tk : Nat → Nat} {lo hi : Nat → Nat → Int32} {ab gv us row : Nat → Int32} (h : StQ G f q0 b fc pr n B X rg pa qa tk lo hi ab gv us) (hx : f x = some (mI G 7 row)) (hs : ∀ i, i < n → x ≠ pa i ∧ x ≠ qa i) (hf : ∀ c, c ≠ x → f1 c = f c) : StQ G f1 q0 b fc pr n B X rg pa qa tk lo hi ab gv us :=
  h.keep hf (ne_oi h.1 hx) (ne_QI h.2.1 hx) (fun i hi => ⟨ne_oi (h.2.2.2 i hi).2.1 hx, ne_oi (h.2.2.2 i hi).2.2.1 hx, (hs i hi).1.symm, (hs i hi).2.symm⟩)
theorem cnt_no {q : Nat → Bool} {i : Nat} (h : q i = false) : cntN q i = cntN q (i + 1) := by rw [cntN, h]; rfl
theorem cnt_go {q : Nat → Bool} {i : Nat} (h : q i = true) : cntN q i + 1 = cntN q (i + 1) := by rw [cntN, h]; rfl
theorem cnt_mono {q : Nat → Bool} : ∀ {n j : Nat}, j ≤ n → cntN q j ≤ cntN q n
  | 0, j, h => by rw [show j = 0 by omega]; exact Nat.le_refl _
  | n + 1, j, h => by
    rcases Nat.lt_or_ge n j with z | z
    · rw [show j = n + 1 by omega]; exact Nat.le_refl _
    · have := cnt_mono (q := q) z
      rw [cntN]; omega
theorem cnt_lt {q : Nat → Bool} {n j : Nat} (h : j < n) (hq : q j = true) : cntN q j < cntN q n := by
  have h1 := cnt_go hq
  have h2 := cnt_mono (q := q) (show j + 1 ≤ n by omega)
  omega
theorem cnt_ex {q : Nat → Bool} : ∀ {n i : Nat}, i < cntN q n → ∃ j, j < n ∧ q j = true ∧ cntN q j = i
  | 0, i, h => absurd h (Nat.not_lt_zero i)
  | n + 1, i, h => by
    rcases Nat.lt_or_ge i (cntN q n) with z | z
    · obtain ⟨j, h1, h2, h3⟩ := cnt_ex z
      exact ⟨j, by omega, h2, h3⟩
    · cases e : q n with
      | false => rw [← cnt_no e] at h; omega
      | true => rw [← cnt_go e] at h; exact ⟨n, by omega, e, by omega⟩
theorem cnt_inj {q : Nat → Bool} {j k : Nat} (hj : q j = true) (hk : q k = true) (h : cntN q j = cntN q k) : j = k := by
  rcases Nat.lt_trichotomy j k with z | z | z
  · have := cnt_lt z hj; omega
  · exact z
  · have := cnt_lt z hk; omega
theorem row_no {q : Nat → Bool} {i : Nat} {row : Nat → Int32} (h : q i = false) (hr : ∀ k, k < i → q k = true → row (cntN q k) = nI k) : ∀ k, k < i + 1 → q k = true → row (cntN q k) = nI k := by
  intro k hk hq
  rcases Nat.lt_or_ge k i with z | z
  · exact hr k z hq
  · rw [show k = i by omega, h] at hq; cases hq
theorem row_go {q : Nat → Bool} {i : Nat} {row : Nat → Int32} (_ : q i = true) (hr : ∀ k, k < i → q k = true → row (cntN q k) = nI k) : ∀ k, k < i + 1 → q k = true → upd row (cntN q i) (nI i) (cntN q k) = nI k := by
  intro k hk hq
  rcases Nat.lt_or_ge k i with z | z
  · rw [pk_un (Nat.ne_of_lt (cnt_lt z hq))]; exact hr k z hq
  · rw [show k = i by omega, pk_us]
theorem cnt_sel {q : Nat → Bool} {row : Nat → Int32} : ∀ {n : Nat}, n ≤ 16 → (∀ k, k < n → q k = true → row (cntN q k) = nI k) → ∀ P : Nat → Bool, cntN (fun t => P (row t).toNatClampNeg) (cntN q n) = cntN (fun j => q j && P j) n
  | 0, _, _, _ => rfl
  | n + 1, h16, hr, P => by
    have ih := cnt_sel (n := n) (by omega) (fun k hk => hr k (by omega)) P
    cases e : q n with
    | false => rw [← cnt_no e, ih, cntN, e]; rfl
    | true =>
      rw [← cnt_go e, cntN, ih, hr n (by omega) e, nI_clamp (by omega)]
      rw [cntN, e]; rfl
theorem rk_next {q R : Nat → Bool} {n i j : Nat} (hall : ∀ k, k < n → q k = true → cntN q k < i → R k = false) (_ : j < n) (hq : q j = true) (hc : cntN q j = i) (h : R j = false) : ∀ k, k < n → q k = true → cntN q k < i + 1 → R k = false := by
  intro k hk hqk hl
  rcases Nat.lt_or_ge (cntN q k) i with z | z
  · exact hall k hk hqk z
  · rw [cnt_inj hqk hq (by omega)]; exact h
theorem rk_none {q R : Nat → Bool} {n i : Nat} (hall : ∀ k, k < n → q k = true → cntN q k < i → (q k && R k) = false) (hi : cntN q n ≤ i) : ∀ j, j < n → (q j && R j) = false := by
  intro j hj
  cases e : q j with
  | false => rfl
  | true =>
    have := hall j hj e (by have := cnt_lt hj e; omega)
    rw [e] at this; exact this
theorem rk_hit {q R : Nat → Bool} {n i j : Nat} (hall : ∀ k, k < n → q k = true → cntN q k < i → (q k && R k) = false) (hj : j < n) (hq : q j = true) (hc : cntN q j = i) (h : (q j && R j) = true) : firN (fun k => q k && R k) n = j := by
  refine firN_eq hj h (fun k hk => ?_)
  cases e : q k with
  | false => rfl
  | true =>
    have := hall k (by omega) e (by rw [← hc]; exact cnt_lt hk e)
    rw [e] at this; exact this
theorem sup_eq {g gs : Nat → Int32} {k j : Nat} {x : Int32} (hj : j < 7) : upd (va_cpy g gs 0 0 7) k x j = upd g k x j := by
  unfold upd
  split
  · rfl
  · rw [pk_cpy_in (Nat.zero_le j) (by omega), Nat.zero_add, Nat.sub_zero]
theorem has_cong {g g2 lo hi : Nat → Int32} (h : ∀ j, j < 7 → g j = g2 j) : allN (hasR g lo hi) 7 = allN (hasR g2 lo hi) 7 := allN_cong (fun i hi7 => by rw [hasR, hasR, h i hi7])
theorem exN_cong {q r : Nat → Bool} {n : Nat} (h : ∀ i, i < n → q i = r i) : exN q n = exN r n := by
  induction n with
  | zero => rfl
  | succ n ih => rw [exN, exN, ih (fun i hi => h i (Nat.lt_succ_of_lt hi)), h n (Nat.lt_succ_self n)]
theorem appD_cong {g g2 : Nat → Int32} {lo hi : Nat → Nat → Int32} {ab : Nat → Int32} {lf r : Int32} {k : Nat} (h : ∀ j, j < 7 → g j = g2 j) : appD g lo hi ab lf k r = appD g2 lo hi ab lf k r := by
  rw [appD, appD, has_cong h]
theorem reaD_cong {g g2 : Nat → Int32} {lo hi : Nat → Nat → Int32} {ab : Nat → Int32} {lf r : Int32} {n k : Nat} (h : ∀ j, j < 7 → g j = g2 j) : reaD g lo hi ab lf n k r = reaD g2 lo hi ab lf n k r := by
  rw [reaD, reaD, appD_cong h, exN_cong (r := ovrQ g2 lo hi ab lf k r) (fun i _ => by rw [ovrQ, ovrQ, appD_cong h])]
theorem ansD_cong {g g2 : Nat → Int32} {lo hi : Nat → Nat → Int32} {ab gv : Nat → Int32} {lf r : Int32} {n : Nat} (h : ∀ j, j < 7 → g j = g2 j) : ∀ {m k : Nat} {fo : Int32}, ansD g lo hi ab gv lf n r m k fo = ansD g2 lo hi ab gv lf n r m k fo
  | 0, _, _ => rfl
  | m + 1, k, fo => by rw [ansD, ansD, reaD_cong h, ansD_cong h, ansD_cong h]
/-- along the class's borders, at most so many of them -/
def ncD (stop : Int32 → Bool) (g : Nat → Int32) (lo hi : Nat → Nat → Int32) (ab gv : Nat → Int32) (n : Nat) (r : Int32) (k : Nat) : Nat → Int32 → Int32
  | 0, _ => -100005
  | m + 1, v => if v = -100005 then -100005 else if stop (ansD (upd g k v) lo hi ab gv (-1) n r n 0 (-100005)) = true then v else ncD stop g lo hi ab gv n r k m (nbrI lo hi ab n r k v)
section NCD
variable {stop : Int32 → Bool} {g : Nat → Int32} {lo hi : Nat → Nat → Int32} {ab gv : Nat → Int32} {n : Nat} {r : Int32} {k : Nat}
theorem ncD_none {m : Nat} {v : Int32} (h : v = -100005) : ncD stop g lo hi ab gv n r k m v = -100005 := by
  cases m with
  | zero => rfl
  | succ m => rw [ncD, if_pos h]
theorem ncD_hit {m t : Nat} {v : Int32} (ht : t < m) (h : ¬ v = -100005) (h2 : stop (ansD (upd g k v) lo hi ab gv (-1) n r n 0 (-100005)) = true) : ncD stop g lo hi ab gv n r k (m - t) v = v := by
  rw [show m - t = (m - (t + 1)) + 1 by omega, ncD, if_neg h, if_pos h2]
theorem ncD_go {m t : Nat} {v : Int32} (ht : t < m) (h : ¬ v = -100005) (h2 : stop (ansD (upd g k v) lo hi ab gv (-1) n r n 0 (-100005)) = false) : ncD stop g lo hi ab gv n r k (m - t) v = ncD stop g lo hi ab gv n r k (m - (t + 1)) (nbrI lo hi ab n r k v) := by
  rw [show m - t = (m - (t + 1)) + 1 by omega, ncD, if_neg h, if_neg (by rw [h2]; decide)]
end NCD
set_option maxHeartbeats 4000000 in
set_option maxRecDepth 100000 in
theorem c5_collectReasons (l : Launch) (G : mG) {f : mE} {o q0 b fc pr n ra rd sp rr sb : Nat} {rc : Int32} {B : Nat → Option Nat} {X rg pa qa tk : Nat → Nat} {lo hi : Nat → Nat → Int32} {ab gv us g : Nat → Int32} (hO : f o = some (.inr (6, [.ref q0, .ref ra, .int rc, .ref rd, .ref sp, .ref rr, .ref sb]))) (hQ : StQ G f q0 b fc pr n B X rg pa qa tk lo hi ab gv us) (hg : f fc = some (mI G 7 g)) {row : Nat → Int32} (hrr : f rr = some (mI G 16 row)) (r : Int32) : mC l G yX5_collectReasons wsX5_collectReasons ({ frames := 4, cells := 0, slots := 0, locals := 98 } : Room) f [.ref o, .int r] (fun v f1 => v = some (.int (nI (cntN (fun k => reaD g lo hi ab (-1) n k r) n))) ∧ ∃ row, f1 rr = some (mI G 16 row) ∧ (∀ k, k < n → (fun k => reaD g lo hi ab (-1) n k r) k = true → row (cntN (fun k => reaD g lo hi ab (-1) n k r) k) = nI k) ∧ ∀ b, b ≠ rr → f1 b = f b) 0 0 := by
  refine mC.of (cc := cX5_collectReasons) (maxL := 4) (ret := (some .int)) (by decide) rfl (Nat.le_of_ble_eq_true rfl) ?_
  intro pgm env s mt args below meth c A ls hx hb hml hr hlocks hown hname hts hK hE hA hM hl
  have hl : lv_has ls 4 [(0, .ref o), (1, .int r)] := hl
  have hn16 := hQ.2.2.1
  have hO0 := hO
  have hQ0 := hQ
  have hg0 := hg
  have hrr0 := hrr
  refine lv_iconst (v := (nI 0)) hx hb dX5_collectReasons_0 (by decide +kernel) ?_
  refine lv_istore_n (lv' := [(2, .int (nI 0)), (0, .ref o), (1, .int r)]) hx hb dX5_collectReasons_1 rfl hl (by decide) rfl (fun ls hl => ?_)
  refine lv_iconst (v := (nI 0)) hx hb dX5_collectReasons_2 (by decide +kernel) ?_
  refine lv_istore_n (lv' := [(3, .int (nI 0)), (2, .int (nI 0)), (0, .ref o), (1, .int r)]) hx hb dX5_collectReasons_3 rfl hl (by decide) rfl (fun ls hl => ?_)
  have loopZ : ∀ (fuel : Nat) (i : Nat) (row : Nat → Int32) (fz : mE) (Hp : Heap) (lcs : List Loc) (ls : Array Slot) (hiN : i ≤ n) (hrr : fz rr = some (mI G 16 row)) (hrow : ∀ k, k < i → (fun k => reaD g lo hi ab (-1) n k r) k = true → row (cntN (fun k => reaD g lo hi ab (-1) n k r) k) = nI k) (hfr : ∀ b, b ≠ rr → fz b = f b) (hfu : n - i < fuel) (hM : mM G A s.heap fz Hp lcs) (hl : lv_has ls 4 [(0, .ref o), (1, .int r), (2, .int (nI (cntN (fun k => reaD g lo hi ab (-1) n k r) i))), (3, .int (nI i))]), W pgm l env ({ frames := 4, cells := 0, slots := 0, locals := 98 } : Room) s mt args below meth c Hp lcs 0 0 (MQ below (mQc G A (fun v f1 => v = some (.int (nI (cntN (fun k => reaD g lo hi ab (-1) n k r) n))) ∧ ∃ row, f1 rr = some (mI G 16 row) ∧ (∀ k, k < n → (fun k => reaD g lo hi ab (-1) n k r) k = true → row (cntN (fun k => reaD g lo hi ab (-1) n k r) k) = nI k) ∧ ∀ b, b ≠ rr → f1 b = f b)) args s 0 0 A) (F0 mt 4 ls []) := by
    intro fuel
    induction fuel with
    | zero => intro i row fz Hp lcs ls hiN hrr hrow hfr hfu; exact absurd hfu (Nat.not_lt_zero _)
    | succ fuel ih =>
      intro i row fz Hp lcs ls hiN hrr hrow hfr hfu hM hl
      have hO := (hfr o (ne_oi hO0 hrr0)).trans hO0
      have hQ := hQ0.keep16 hrr0 hfr
      have hg := (hfr fc (ne_len hg0 hrr0 (by decide))).trans hg0
      have hcl := cntN_le (fun k => reaD g lo hi ab (-1) n k r) i
      refine lv_iload_n hx hb dX5_collectReasons_4 rfl (lv_at hl 3 rfl) ?_
      refine lv_aload_n hx hb dX5_collectReasons_5 rfl (lv_at hl 0 rfl) ?_
      refine mm_get (C := RX5) (T := TX5) (N := 7) (k := 0) hx hb hts (fun _ h => List.mem_cons_of_mem _ (List.mem_append_left _ (List.mem_append_left _ (List.mem_append_left _ (List.mem_append_right _ h))))) hown hK hM hO rfl (by decide) (hts (.fieldLink RX5 12 "SentenceRules" "now" "LSentenceRules$State;") (List.mem_of_getElem? (i := 1) rfl)) rfl rfl dX5_collectReasons_6 ?_
      refine mm_get (C := RX3) (T := TX3) (N := 4) (k := 0) hx hb hts (fun _ h => List.mem_cons_of_mem _ (List.mem_append_left _ (List.mem_append_left _ (List.mem_append_right _ h)))) hown hK hM hQ.1 rfl (by decide) (hts (.fieldLink RX5 86 "SentenceRules$State" "sentenceCount" "I") (List.mem_of_getElem? (i := 2) rfl)) rfl rfl dX5_collectReasons_9 ?_
      refine ln_icmp_ge i n (by omega) (by omega) (tgt := 60) hx hb dX5_collectReasons_12 (by decide) (fun cz1 => ?_) (fun cz1 => ?_)
      · refine lv_iload_n hx hb dX5_collectReasons_60 rfl (lv_at hl 2 rfl) ?_
        exact mm_iret hx hb hlocks hr (Nat.le_of_ble_eq_true rfl) (Nat.le_of_ble_eq_true rfl) hM ((by have hz : i = n := (by omega); subst hz; exact ⟨rfl, _, hrr, hrow, hfr⟩)) dX5_collectReasons_61
      refine lv_iload_n hx hb dX5_collectReasons_15 rfl (lv_at hl 2 rfl) ?_
      refine lv_aload_n hx hb dX5_collectReasons_16 rfl (lv_at hl 0 rfl) ?_
      refine mm_get (C := RX5) (T := TX5) (N := 7) (k := 5) hx hb hts (fun _ h => List.mem_cons_of_mem _ (List.mem_append_left _ (List.mem_append_left _ (List.mem_append_left _ (List.mem_append_right _ h))))) hown hK hM hO rfl (by decide) (hts (.fieldLink RX5 31 "SentenceRules" "reasonRow" "[I") (List.mem_of_getElem? (i := 3) rfl)) rfl rfl dX5_collectReasons_17 ?_
      refine mm_alen hx hb hK hM hrr dX5_collectReasons_20 ?_
      refine ln_icmp_ge (cntN (fun k => reaD g lo hi ab (-1) n k r) i) 16 (by have hz0 := cntN_le (fun k => reaD g lo hi ab (-1) n k r) i; omega) (by omega) (tgt := 60) hx hb dX5_collectReasons_21 (by decide) (fun cz2 => ?_) (fun cz2 => ?_)
      · exact absurd cz2 (by omega)
      refine lv_aload_n hx hb dX5_collectReasons_24 rfl (lv_at hl 0 rfl) ?_
      refine mm_get (C := RX5) (T := TX5) (N := 7) (k := 0) hx hb hts (fun _ h => List.mem_cons_of_mem _ (List.mem_append_left _ (List.mem_append_left _ (List.mem_append_left _ (List.mem_append_right _ h))))) hown hK hM hO rfl (by decide) (hts (.fieldLink RX5 12 "SentenceRules" "now" "LSentenceRules$State;") (List.mem_of_getElem? (i := 1) rfl)) rfl rfl dX5_collectReasons_25 ?_
      refine lv_iload_n hx hb dX5_collectReasons_28 rfl (lv_at hl 3 rfl) ?_
      refine lv_iload_n hx hb dX5_collectReasons_29 rfl (lv_at hl 1 rfl) ?_
      refine lv_aload_n hx hb dX5_collectReasons_30 rfl (lv_at hl 0 rfl) ?_
      refine mm_get (C := RX5) (T := TX5) (N := 7) (k := 0) hx hb hts (fun _ h => List.mem_cons_of_mem _ (List.mem_append_left _ (List.mem_append_left _ (List.mem_append_left _ (List.mem_append_right _ h))))) hown hK hM hO rfl (by decide) (hts (.fieldLink RX5 12 "SentenceRules" "now" "LSentenceRules$State;") (List.mem_of_getElem? (i := 1) rfl)) rfl rfl dX5_collectReasons_31 ?_
      refine mm_get (C := RX3) (T := TX3) (N := 4) (k := 2) hx hb hts (fun _ h => List.mem_cons_of_mem _ (List.mem_append_left _ (List.mem_append_left _ (List.mem_append_right _ h)))) hown hK hM hQ.1 rfl (by decide) (hts (.fieldLink RX5 158 "SentenceRules$State" "facts" "[I") (List.mem_of_getElem? (i := 4) rfl)) rfl rfl dX5_collectReasons_34 ?_
      refine lv_iconst (v := (-1)) hx hb dX5_collectReasons_37 (by decide +kernel) ?_
      refine mm_V (As := [.int (nI i), .int r, .ref fc, .int (-1)]) (rest := []) ⟨hx, hb, hml, hown, hts⟩ (c3_isReason l G hQ hg i (by omega) r (-1)) (cwV 4 hts gX5_collectReasons_X3_isReason rfl rfl rfl (by decide +kernel) ⟨Nat.le_of_ble_eq_true rfl, Nat.le_of_ble_eq_true rfl⟩) hK hE hA hM (mm_recv hK hM hQ.1 (q := (RX3, TX3, 4)) rfl) rfl hl.1 rfl (Nat.le_of_ble_eq_true rfl) dX5_collectReasons_38 ⟨Nat.le_of_ble_eq_true rfl, Nat.le_of_ble_eq_true rfl⟩ (fun v f1 Hp lcs hp hM => ?_)
      obtain ⟨rfl, hf⟩ := hp; subst hf
      refine lvb_eq (tgt := 54) hx hb dX5_collectReasons_41 (by decide) (fun cz3 => ?_) (fun cz3 => ?_)
      · have hcs : cntN (fun k => reaD g lo hi ab (-1) n k r) i = cntN (fun k => reaD g lo hi ab (-1) n k r) (i + 1) := cnt_no cz3
        rw [hcs] at hl
        refine lv_iinc (v := (nI (i + 1))) (lv' := [(3, .int (nI (i + 1))), (0, .ref o), (1, .int r), (2, .int (nI (cntN (fun k => reaD g lo hi ab (-1) n k r) (i + 1))))]) hx hb dX5_collectReasons_54 hl (k := 3) rfl (nI_add _ _) (by decide) rfl (fun ls hl => ?_)
        refine lv_goto (tgt := 4) hx hb dX5_collectReasons_57 (by decide) ?_
        exact ih (i + 1) _ _ _ _ ls (by omega) hrr (row_no cz3 hrow) hfr (by omega) hM (lv_sub hl [1, 2, 3, 0] rfl)
      refine lv_aload_n hx hb dX5_collectReasons_44 rfl (lv_at hl 0 rfl) ?_
      refine mm_get (C := RX5) (T := TX5) (N := 7) (k := 5) hx hb hts (fun _ h => List.mem_cons_of_mem _ (List.mem_append_left _ (List.mem_append_left _ (List.mem_append_left _ (List.mem_append_right _ h))))) hown hK hM hO rfl (by decide) (hts (.fieldLink RX5 31 "SentenceRules" "reasonRow" "[I") (List.mem_of_getElem? (i := 3) rfl)) rfl rfl dX5_collectReasons_45 ?_
      refine lv_iload_n hx hb dX5_collectReasons_48 rfl (lv_at hl 2 rfl) ?_
      refine lv_iload_n hx hb dX5_collectReasons_49 rfl (lv_at hl 3 rfl) ?_
      refine mn_iast hx hb hK hM hrr (cntN (fun k => reaD g lo hi ab (-1) n k r) i) (by have hcl2 := cntN_le (fun k => reaD g lo hi ab (-1) n k r) i; omega) (by decide) dX5_collectReasons_50 (fun Hp lcs hM => ?_)
      obtain ⟨gz4, hM, hz5, rz6⟩ := hM.up
      have hz7 := (rz6 _ (ne_oi hQ.1 hrr)).trans hQ.1
      have hz8 := (rz6 _ (ne_QI hQ.2.1 hrr)).trans hQ.2.1
      have hz9 := (rz6 _ (ne_oi hO hrr)).trans hO
      have hz10 := (rz6 _ (ne_len hg hrr (by decide))).trans hg
      refine lv_iinc (v := (nI (cntN (fun k => reaD g lo hi ab (-1) n k r) i + 1))) (lv' := [(2, .int (nI (cntN (fun k => reaD g lo hi ab (-1) n k r) i + 1))), (0, .ref o), (1, .int r), (3, .int (nI i))]) hx hb dX5_collectReasons_51 hl (k := 2) rfl (nI_add _ _) (by decide) rfl (fun ls hl => ?_)
      have hcs : cntN (fun k => reaD g lo hi ab (-1) n k r) i + 1 = cntN (fun k => reaD g lo hi ab (-1) n k r) (i + 1) := cnt_go cz3
      rw [hcs] at hl
      refine lv_iinc (v := (nI (i + 1))) (lv' := [(3, .int (nI (i + 1))), (2, .int (nI (cntN (fun k => reaD g lo hi ab (-1) n k r) (i + 1)))), (0, .ref o), (1, .int r)]) hx hb dX5_collectReasons_54 hl (k := 3) rfl (nI_add _ _) (by decide) rfl (fun ls hl => ?_)
      refine lv_goto (tgt := 4) hx hb dX5_collectReasons_57 (by decide) ?_
      exact ih (i + 1) _ _ _ _ ls (by omega) hz5 (row_go cz3 hrow) (fun b hb => (rz6 b hb).trans (hfr b hb)) (by omega) hM (lv_sub hl [2, 3, 1, 0] rfl)
  exact loopZ (n + 1) 0 _ _ _ _ ls (Nat.zero_le _) hrr (fun k hk => absurd hk (Nat.not_lt_zero k)) (fun b _ => rfl) (by omega) hM (lv_sub hl [2, 3, 1, 0] rfl)
set_option maxHeartbeats 4000000 in
set_option maxRecDepth 100000 in
theorem c5_reasons (l : Launch) (G : mG) {f : mE} {o q0 b fc pr n ra rd sp rr sb : Nat} {rc : Int32} {B : Nat → Option Nat} {X rg pa qa tk : Nat → Nat} {lo hi : Nat → Nat → Int32} {ab gv us g : Nat → Int32} (hO : f o = some (.inr (6, [.ref q0, .ref ra, .int rc, .ref rd, .ref sp, .ref rr, .ref sb]))) (hQ : StQ G f q0 b fc pr n B X rg pa qa tk lo hi ab gv us) (hg : f fc = some (mI G 7 g)) {row : Nat → Int32} (hrr : f rr = some (mI G 16 row)) (r : Int32) : mC l G yX5_reasons wsX5_reasons ({ frames := 5, cells := 0, slots := 0, locals := 121 } : Room) f [.ref o, .int r] (fun v f1 => v = some (.int (if inB r 0 3 = true then nI (cntN (fun k => reaD g lo hi ab (-1) n k r) n) else -100002)) ∧ ∃ row, f1 rr = some (mI G 16 row) ∧ ∀ b, b ≠ rr → f1 b = f b) 0 0 := by
  refine mC.of (cc := cX5_reasons) (maxL := 2) (ret := (some .int)) (by decide) rfl (Nat.le_of_ble_eq_true rfl) ?_
  intro pgm env s mt args below meth c A ls hx hb hml hr hlocks hown hname hts hK hE hA hM hl
  have hl : lv_has ls 2 [(0, .ref o), (1, .int r)] := hl
  have hn16 := hQ.2.2.1
  have hO0 := hO
  have hQ0 := hQ
  have hg0 := hg
  have hrr0 := hrr
  refine lv_iload_n hx hb dX5_reasons_0 rfl (lv_at hl 1 rfl) ?_
  refine mm_S (As := [.int r]) (rest := []) ⟨hx, hb, hml, hown, hts⟩ (c5_isResult l G _ r) (va_cwS 1 hts gX5_reasons_X5_isResult rfl rfl rfl (by decide +kernel) ⟨Nat.le_of_ble_eq_true rfl, Nat.le_of_ble_eq_true rfl⟩) hK hE hA hM rfl hl.1 rfl (Nat.le_of_ble_eq_true rfl) dX5_reasons_1 ⟨Nat.le_of_ble_eq_true rfl, Nat.le_of_ble_eq_true rfl⟩ (fun v f1 Hp lcs hp hM => ?_)
  obtain ⟨rfl, hf⟩ := hp; subst hf
  refine lvb_ne (tgt := 10) hx hb dX5_reasons_4 (by decide) (fun cz1 => ?_) (fun cz1 => ?_)
  · refine lv_aload_n hx hb dX5_reasons_10 rfl (lv_at hl 0 rfl) ?_
    refine lv_iload_n hx hb dX5_reasons_11 rfl (lv_at hl 1 rfl) ?_
    refine mm_V (As := [.int r]) (rest := []) ⟨hx, hb, hml, hown, hts⟩ (c5_collectReasons l G hO hQ hg hrr r) (cwV 1 hts gX5_reasons_X5_collectReasons rfl rfl rfl (by decide +kernel) ⟨Nat.le_of_ble_eq_true rfl, Nat.le_of_ble_eq_true rfl⟩) hK hE hA hM (mm_recv hK hM hO (q := (RX5, TX5, 7)) rfl) rfl hl.1 rfl (Nat.le_of_ble_eq_true rfl) dX5_reasons_12 ⟨Nat.le_of_ble_eq_true rfl, Nat.le_of_ble_eq_true rfl⟩ (fun v gz2 Hp lcs hp hM => ?_)
    obtain ⟨rfl, row, hrr, hrow, hfr⟩ := hp
    have hO := (hfr o (ne_oi hO0 hrr0)).trans hO0
    have hQ := hQ0.keep16 hrr0 hfr
    have hg := (hfr fc (ne_len hg0 hrr0 (by decide))).trans hg0
    exact mm_iret hx hb hlocks hr (Nat.le_of_ble_eq_true rfl) (Nat.le_of_ble_eq_true rfl) hM (⟨by rw [if_pos cz1], _, hrr, hfr⟩) dX5_reasons_15
  refine lv_ldc (v := (-100002)) hx hb hown (hts (.constant RX5 41 (-100002)) (List.mem_of_getElem? (i := 1) rfl)) dX5_reasons_7 ?_
  exact mm_iret hx hb hlocks hr (Nat.le_of_ble_eq_true rfl) (Nat.le_of_ble_eq_true rfl) hM (⟨by rw [if_neg (by rw [cz1]; decide)], _, hrr, fun b _ => rfl⟩) dX5_reasons_9
set_option maxHeartbeats 4000000 in
set_option maxRecDepth 100000 in
theorem c5_rankOfReason (l : Launch) (G : mG) {f : mE} {o q0 b fc pr n ra rd sp rr sb : Nat} {rc : Int32} {B : Nat → Option Nat} {X rg pa qa tk : Nat → Nat} {lo hi : Nat → Nat → Int32} {ab gv us g : Nat → Int32} (hO : f o = some (.inr (6, [.ref q0, .ref ra, .int rc, .ref rd, .ref sp, .ref rr, .ref sb]))) (hQ : StQ G f q0 b fc pr n B X rg pa qa tk lo hi ab gv us) (hg : f fc = some (mI G 7 g)) {row : Nat → Int32} (hrr : f rr = some (mI G 16 row)) {q : Nat → Bool} (hrow : ∀ k, k < n → q k = true → row (cntN q k) = nI k) (k : Nat) (hk : k < n) : mC l G yX5_rankOfReason wsX5_rankOfReason ({ frames := 3, cells := 0, slots := 0, locals := 67 } : Room) f [.ref o, .int (nI k), .int (nI (cntN q n))] (fun v f1 => v = some (.int (nI (cntN (fun j => q j && befD lo hi j k) n))) ∧ f = f1) 0 0 := by
  refine mC.of (cc := cX5_rankOfReason) (maxL := 5) (ret := (some .int)) (by decide) rfl (Nat.le_of_ble_eq_true rfl) ?_
  intro pgm env s mt args below meth c A ls hx hb hml hr hlocks hown hname hts hK hE hA hM hl
  have hl : lv_has ls 5 [(0, .ref o), (1, .int (nI k)), (2, .int (nI (cntN q n)))] := hl
  have hn16 := hQ.2.2.1
  have hqn := cntN_le q n
  refine lv_iconst (v := (nI 0)) hx hb dX5_rankOfReason_0 (by decide +kernel) ?_
  refine lv_istore_n (lv' := [(3, .int (nI 0)), (0, .ref o), (1, .int (nI k)), (2, .int (nI (cntN q n)))]) hx hb dX5_rankOfReason_1 rfl hl (by decide) rfl (fun ls hl => ?_)
  refine lv_iconst (v := (nI 0)) hx hb dX5_rankOfReason_2 (by decide +kernel) ?_
  refine lv_istore (lv' := [(4, .int (nI 0)), (3, .int (nI 0)), (0, .ref o), (1, .int (nI k)), (2, .int (nI (cntN q n)))]) hx hb dX5_rankOfReason_3 hl (by decide) rfl (fun ls hl => ?_)
  have loopZ : ∀ (fuel : Nat) (i w : Nat) (Hp : Heap) (lcs : List Loc) (ls : Array Slot) (hiN : i ≤ cntN q n) (hr0 : w = cntN (fun t => befD lo hi (row t).toNatClampNeg k) i) (hfu : cntN q n - i < fuel) (hM : mM G A s.heap f Hp lcs) (hl : lv_has ls 5 [(0, .ref o), (1, .int (nI k)), (2, .int (nI (cntN q n))), (3, .int (nI w)), (4, .int (nI i))]), W pgm l env ({ frames := 3, cells := 0, slots := 0, locals := 67 } : Room) s mt args below meth c Hp lcs 0 0 (MQ below (mQc G A (fun v f1 => v = some (.int (nI (cntN (fun j => q j && befD lo hi j k) n))) ∧ f = f1)) args s 0 0 A) (F0 mt 5 ls []) := by
    intro fuel
    induction fuel with
    | zero => intro i w Hp lcs ls hiN hr0 hfu; exact absurd hfu (Nat.not_lt_zero _)
    | succ fuel ih =>
      intro i w Hp lcs ls hiN hr0 hfu hM hl
      subst hr0
      have hwl := cntN_le (fun t => befD lo hi (row t).toNatClampNeg k) i
      refine lv_iload hx hb dX5_rankOfReason_5 (lv_at hl 4 rfl) ?_
      refine lv_iload_n hx hb dX5_rankOfReason_7 rfl (lv_at hl 2 rfl) ?_
      refine ln_icmp_ge i (cntN q n) (by omega) (by have hz0 := cntN_le q n; omega) (tgt := 38) hx hb dX5_rankOfReason_8 (by decide) (fun cz1 => ?_) (fun cz1 => ?_)
      · refine lv_iload_n hx hb dX5_rankOfReason_38 rfl (lv_at hl 3 rfl) ?_
        exact mm_iret hx hb hlocks hr (Nat.le_of_ble_eq_true rfl) (Nat.le_of_ble_eq_true rfl) hM (ret_v (congrArg nI (by rw [show i = cntN q n by omega]; exact cnt_sel hn16 hrow (fun j => befD lo hi j k)))) dX5_rankOfReason_39
      refine lv_aload_n hx hb dX5_rankOfReason_11 rfl (lv_at hl 0 rfl) ?_
      refine mm_get (C := RX5) (T := TX5) (N := 7) (k := 0) hx hb hts (fun _ h => List.mem_cons_of_mem _ (List.mem_append_left _ (List.mem_append_left _ (List.mem_append_left _ (List.mem_append_right _ h))))) hown hK hM hO rfl (by decide) (hts (.fieldLink RX5 12 "SentenceRules" "now" "LSentenceRules$State;") (List.mem_of_getElem? (i := 1) rfl)) rfl rfl dX5_rankOfReason_12 ?_
      refine lv_aload_n hx hb dX5_rankOfReason_15 rfl (lv_at hl 0 rfl) ?_
      refine mm_get (C := RX5) (T := TX5) (N := 7) (k := 5) hx hb hts (fun _ h => List.mem_cons_of_mem _ (List.mem_append_left _ (List.mem_append_left _ (List.mem_append_left _ (List.mem_append_right _ h))))) hown hK hM hO rfl (by decide) (hts (.fieldLink RX5 31 "SentenceRules" "reasonRow" "[I") (List.mem_of_getElem? (i := 2) rfl)) rfl rfl dX5_rankOfReason_16 ?_
      refine lv_iload hx hb dX5_rankOfReason_19 (lv_at hl 4 rfl) ?_
      refine mn_iald hx hb hK hM hrr i (by omega) (by decide) dX5_rankOfReason_21 ?_
      obtain ⟨jz, hjz, hqj, hcj⟩ := cnt_ex cz1
      have hri : row i = nI jz := hcj ▸ hrow jz hjz hqj
      refine mv_top hri ?_
      refine lv_iload_n hx hb dX5_rankOfReason_22 rfl (lv_at hl 1 rfl) ?_
      refine mm_V (As := [.int (nI jz), .int (nI k)]) (rest := []) ⟨hx, hb, hml, hown, hts⟩ (c3_comesBefore l G hQ jz k (by omega) (by omega)) (cwV 2 hts gX5_rankOfReason_X3_comesBefore rfl rfl rfl (by decide +kernel) ⟨Nat.le_of_ble_eq_true rfl, Nat.le_of_ble_eq_true rfl⟩) hK hE hA hM (mm_recv hK hM hQ.1 (q := (RX3, TX3, 4)) rfl) rfl hl.1 rfl (Nat.le_of_ble_eq_true rfl) dX5_rankOfReason_23 ⟨Nat.le_of_ble_eq_true rfl, Nat.le_of_ble_eq_true rfl⟩ (fun v f1 Hp lcs hp hM => ?_)
      obtain ⟨rfl, hf⟩ := hp; subst hf
      refine lvb_eq (tgt := 32) hx hb dX5_rankOfReason_26 (by decide) (fun cz2 => ?_) (fun cz2 => ?_)
      · refine lv_iinc (v := (nI (i + 1))) (lv' := [(4, .int (nI (i + 1))), (0, .ref o), (1, .int (nI k)), (2, .int (nI (cntN q n))), (3, .int (nI (cntN (fun t => befD lo hi (row t).toNatClampNeg k) i)))]) hx hb dX5_rankOfReason_32 hl (k := 4) rfl (nI_add _ _) (by decide) rfl (fun ls hl => ?_)
        refine lv_goto (tgt := 5) hx hb dX5_rankOfReason_35 (by decide) ?_
        exact ih (i + 1) _ _ _ ls (by omega) (by rw [cntN, hri, nI_clamp (by omega)]; simp [cz2]) (by omega) hM (lv_sub hl [1, 2, 3, 4, 0] rfl)
      refine lv_iinc (v := (nI (cntN (fun t => befD lo hi (row t).toNatClampNeg k) i + 1))) (lv' := [(3, .int (nI (cntN (fun t => befD lo hi (row t).toNatClampNeg k) i + 1))), (0, .ref o), (1, .int (nI k)), (2, .int (nI (cntN q n))), (4, .int (nI i))]) hx hb dX5_rankOfReason_29 hl (k := 3) rfl (nI_add _ _) (by decide) rfl (fun ls hl => ?_)
      refine lv_iinc (v := (nI (i + 1))) (lv' := [(4, .int (nI (i + 1))), (3, .int (nI (cntN (fun t => befD lo hi (row t).toNatClampNeg k) i + 1))), (0, .ref o), (1, .int (nI k)), (2, .int (nI (cntN q n)))]) hx hb dX5_rankOfReason_32 hl (k := 4) rfl (nI_add _ _) (by decide) rfl (fun ls hl => ?_)
      refine lv_goto (tgt := 5) hx hb dX5_rankOfReason_35 (by decide) ?_
      exact ih (i + 1) _ _ _ ls (by omega) (by rw [cntN, hri, nI_clamp (by omega)]; simp [cz2]) (by omega) hM (lv_sub hl [2, 3, 4, 1, 0] rfl)
  exact loopZ (cntN q n + 1) 0 0 _ _ ls (Nat.zero_le _) rfl (by omega) hM (lv_sub hl [2, 3, 4, 1, 0] rfl)
set_option maxHeartbeats 4000000 in
set_option maxRecDepth 100000 in
theorem c5_reason (l : Launch) (G : mG) {f : mE} {o q0 b fc pr n ra rd sp rr sb : Nat} {rc : Int32} {B : Nat → Option Nat} {X rg pa qa tk : Nat → Nat} {lo hi : Nat → Nat → Int32} {ab gv us g : Nat → Int32} (hO : f o = some (.inr (6, [.ref q0, .ref ra, .int rc, .ref rd, .ref sp, .ref rr, .ref sb]))) (hQ : StQ G f q0 b fc pr n B X rg pa qa tk lo hi ab gv us) (hg : f fc = some (mI G 7 g)) {row : Nat → Int32} (hrr : f rr = some (mI G 16 row)) (r x : Int32) : mC l G yX5_reason wsX5_reason ({ frames := 5, cells := 0, slots := 0, locals := 121 } : Room) f [.ref o, .int r, .int x] (fun v f1 => v = some (.int (if inB r 0 3 = true ∧ 0 ≤ x then (if firN (fun k => (fun k => reaD g lo hi ab (-1) n k r) k && decide (nI (cntN (fun j => (fun k => reaD g lo hi ab (-1) n k r) j && befD lo hi j k) n) = x)) n < n then nI (firN (fun k => (fun k => reaD g lo hi ab (-1) n k r) k && decide (nI (cntN (fun j => (fun k => reaD g lo hi ab (-1) n k r) j && befD lo hi j k) n) = x)) n) else -100005) else -100002)) ∧ ∃ row, f1 rr = some (mI G 16 row) ∧ ∀ b, b ≠ rr → f1 b = f b) 0 0 := by
  refine mC.of (cc := cX5_reason) (maxL := 5) (ret := (some .int)) (by decide) rfl (Nat.le_of_ble_eq_true rfl) ?_
  intro pgm env s mt args below meth c A ls hx hb hml hr hlocks hown hname hts hK hE hA hM hl
  have hl : lv_has ls 5 [(0, .ref o), (1, .int r), (2, .int x)] := hl
  have hn16 := hQ.2.2.1
  have hO0 := hO
  have hQ0 := hQ
  have hg0 := hg
  have hrr0 := hrr
  refine lv_iload_n hx hb dX5_reason_0 rfl (lv_at hl 1 rfl) ?_
  refine mm_S (As := [.int r]) (rest := []) ⟨hx, hb, hml, hown, hts⟩ (c5_isResult l G _ r) (va_cwS 1 hts gX5_reason_X5_isResult rfl rfl rfl (by decide +kernel) ⟨Nat.le_of_ble_eq_true rfl, Nat.le_of_ble_eq_true rfl⟩) hK hE hA hM rfl hl.1 rfl (Nat.le_of_ble_eq_true rfl) dX5_reason_1 ⟨Nat.le_of_ble_eq_true rfl, Nat.le_of_ble_eq_true rfl⟩ (fun v f1 Hp lcs hp hM => ?_)
  obtain ⟨rfl, hf⟩ := hp; subst hf
  refine lvb_eq (tgt := 11) hx hb dX5_reason_4 (by decide) (fun cz1 => ?_) (fun cz1 => ?_)
  · refine lv_ldc (v := (-100002)) hx hb hown (hts (.constant RX5 41 (-100002)) (List.mem_of_getElem? (i := 1) rfl)) dX5_reason_11 ?_
    exact mm_iret hx hb hlocks hr (Nat.le_of_ble_eq_true rfl) (Nat.le_of_ble_eq_true rfl) hM (⟨by rw [if_neg (by simp [cz1])], _, hrr, fun b _ => rfl⟩) dX5_reason_13
  refine lv_iload_n hx hb dX5_reason_7 rfl (lv_at hl 2 rfl) ?_
  refine lv_if_ge (tgt := 14) hx hb dX5_reason_8 (by decide) (fun cz2 => ?_) (fun cz2 => ?_)
  · refine lv_aload_n hx hb dX5_reason_14 rfl (lv_at hl 0 rfl) ?_
    refine lv_iload_n hx hb dX5_reason_15 rfl (lv_at hl 1 rfl) ?_
    refine mm_V (As := [.int r]) (rest := []) ⟨hx, hb, hml, hown, hts⟩ (c5_collectReasons l G hO hQ hg hrr r) (cwV 1 hts gX5_reason_X5_collectReasons rfl rfl rfl (by decide +kernel) ⟨Nat.le_of_ble_eq_true rfl, Nat.le_of_ble_eq_true rfl⟩) hK hE hA hM (mm_recv hK hM hO (q := (RX5, TX5, 7)) rfl) rfl hl.1 rfl (Nat.le_of_ble_eq_true rfl) dX5_reason_16 ⟨Nat.le_of_ble_eq_true rfl, Nat.le_of_ble_eq_true rfl⟩ (fun v gz3 Hp lcs hp hM => ?_)
    obtain ⟨rfl, row, hrr, hrow, hfr⟩ := hp
    have hO := (hfr o (ne_oi hO0 hrr0)).trans hO0
    have hQ := hQ0.keep16 hrr0 hfr
    have hg := (hfr fc (ne_len hg0 hrr0 (by decide))).trans hg0
    refine lv_istore_n (lv' := [(3, .int (nI (cntN (fun k => reaD g lo hi ab (-1) n k r) n))), (0, .ref o), (1, .int r), (2, .int x)]) hx hb dX5_reason_19 rfl hl (by decide) rfl (fun ls hl => ?_)
    have hqn := cntN_le (fun k => reaD g lo hi ab (-1) n k r) n
    refine lv_iconst (v := (nI 0)) hx hb dX5_reason_20 (by decide +kernel) ?_
    refine lv_istore (lv' := [(4, .int (nI 0)), (3, .int (nI (cntN (fun k => reaD g lo hi ab (-1) n k r) n))), (0, .ref o), (1, .int r), (2, .int x)]) hx hb dX5_reason_21 hl (by decide) rfl (fun ls hl => ?_)
    have loopZ : ∀ (fuel : Nat) (i : Nat) (Hp : Heap) (lcs : List Loc) (ls : Array Slot) (hiN : i ≤ cntN (fun k => reaD g lo hi ab (-1) n k r) n) (hall : ∀ k, k < n → (fun k => reaD g lo hi ab (-1) n k r) k = true → cntN (fun k => reaD g lo hi ab (-1) n k r) k < i → (fun k => (fun k => reaD g lo hi ab (-1) n k r) k && decide (nI (cntN (fun j => (fun k => reaD g lo hi ab (-1) n k r) j && befD lo hi j k) n) = x)) k = false) (hfu : cntN (fun k => reaD g lo hi ab (-1) n k r) n - i < fuel) (hM : mM G A s.heap gz3 Hp lcs) (hl : lv_has ls 5 [(0, .ref o), (1, .int r), (2, .int x), (3, .int (nI (cntN (fun k => reaD g lo hi ab (-1) n k r) n))), (4, .int (nI i))]), W pgm l env ({ frames := 5, cells := 0, slots := 0, locals := 121 } : Room) s mt args below meth c Hp lcs 0 0 (MQ below (mQc G A (fun v f1 => v = some (.int (if inB r 0 3 = true ∧ 0 ≤ x then (if firN (fun k => (fun k => reaD g lo hi ab (-1) n k r) k && decide (nI (cntN (fun j => (fun k => reaD g lo hi ab (-1) n k r) j && befD lo hi j k) n) = x)) n < n then nI (firN (fun k => (fun k => reaD g lo hi ab (-1) n k r) k && decide (nI (cntN (fun j => (fun k => reaD g lo hi ab (-1) n k r) j && befD lo hi j k) n) = x)) n) else -100005) else -100002)) ∧ ∃ row, f1 rr = some (mI G 16 row) ∧ ∀ b, b ≠ rr → f1 b = f b)) args s 0 0 A) (F0 mt 23 ls []) := by
      intro fuel
      induction fuel with
      | zero => intro i Hp lcs ls hiN hall hfu; exact absurd hfu (Nat.not_lt_zero _)
      | succ fuel ih =>
        intro i Hp lcs ls hiN hall hfu hM hl
        refine lv_iload hx hb dX5_reason_23 (lv_at hl 4 rfl) ?_
        refine lv_iload_n hx hb dX5_reason_25 rfl (lv_at hl 3 rfl) ?_
        refine ln_icmp_ge i (cntN (fun k => reaD g lo hi ab (-1) n k r) n) (by omega) (by have hz0 := cntN_le (fun k => reaD g lo hi ab (-1) n k r) n; omega) (tgt := 59) hx hb dX5_reason_26 (by decide) (fun cz4 => ?_) (fun cz4 => ?_)
        · refine lv_ldc (v := (-100005)) hx hb hown (hts (.constant RX5 105 (-100005)) (List.mem_of_getElem? (i := 3) rfl)) dX5_reason_59 ?_
          exact mm_iret hx hb hlocks hr (Nat.le_of_ble_eq_true rfl) (Nat.le_of_ble_eq_true rfl) hM (⟨by rw [if_pos (by simp [cz1, cz2]), if_neg (by rw [firN_none (rk_none hall (by omega))]; exact Nat.lt_irrefl _)], _, hrr, hfr⟩) dX5_reason_61
        refine lv_aload_n hx hb dX5_reason_29 rfl (lv_at hl 0 rfl) ?_
        refine lv_aload_n hx hb dX5_reason_30 rfl (lv_at hl 0 rfl) ?_
        refine mm_get (C := RX5) (T := TX5) (N := 7) (k := 5) hx hb hts (fun _ h => List.mem_cons_of_mem _ (List.mem_append_left _ (List.mem_append_left _ (List.mem_append_left _ (List.mem_append_right _ h))))) hown hK hM hO rfl (by decide) (hts (.fieldLink RX5 31 "SentenceRules" "reasonRow" "[I") (List.mem_of_getElem? (i := 2) rfl)) rfl rfl dX5_reason_31 ?_
        refine lv_iload hx hb dX5_reason_34 (lv_at hl 4 rfl) ?_
        refine mn_iald hx hb hK hM hrr i (by omega) (by decide) dX5_reason_36 ?_
        obtain ⟨jz, hjz, hqj, hcj⟩ := cnt_ex cz4
        have hri : row i = nI jz := hcj ▸ hrow jz hjz hqj
        refine mv_top hri ?_
        refine lv_iload_n hx hb dX5_reason_37 rfl (lv_at hl 3 rfl) ?_
        refine mm_V (As := [.int (nI jz), .int (nI (cntN (fun k => reaD g lo hi ab (-1) n k r) n))]) (rest := []) ⟨hx, hb, hml, hown, hts⟩ (c5_rankOfReason l G hO hQ hg hrr hrow jz (by omega)) (cwV 2 hts gX5_reason_X5_rankOfReason rfl rfl rfl (by decide +kernel) ⟨Nat.le_of_ble_eq_true rfl, Nat.le_of_ble_eq_true rfl⟩) hK hE hA hM (mm_recv hK hM hO (q := (RX5, TX5, 7)) rfl) rfl hl.1 rfl (Nat.le_of_ble_eq_true rfl) dX5_reason_38 ⟨Nat.le_of_ble_eq_true rfl, Nat.le_of_ble_eq_true rfl⟩ (fun v f1 Hp lcs hp hM => ?_)
        obtain ⟨rfl, hf⟩ := hp; subst hf
        refine lv_iload_n hx hb dX5_reason_41 rfl (lv_at hl 2 rfl) ?_
        refine lv_icmp_ne (tgt := 53) hx hb dX5_reason_42 (by decide) (fun cz5 => ?_) (fun cz5 => ?_)
        · refine lv_iinc (v := (nI (i + 1))) (lv' := [(4, .int (nI (i + 1))), (0, .ref o), (1, .int r), (2, .int x), (3, .int (nI (cntN (fun k => reaD g lo hi ab (-1) n k r) n)))]) hx hb dX5_reason_53 hl (k := 4) rfl (nI_add _ _) (by decide) rfl (fun ls hl => ?_)
          refine lv_goto (tgt := 23) hx hb dX5_reason_56 (by decide) ?_
          exact ih (i + 1) _ _ ls (by omega) (rk_next hall hjz hqj hcj (by simp [hqj, cz5])) (by omega) hM (lv_sub hl [1, 2, 3, 4, 0] rfl)
        refine lv_aload_n hx hb dX5_reason_45 rfl (lv_at hl 0 rfl) ?_
        refine mm_get (C := RX5) (T := TX5) (N := 7) (k := 5) hx hb hts (fun _ h => List.mem_cons_of_mem _ (List.mem_append_left _ (List.mem_append_left _ (List.mem_append_left _ (List.mem_append_right _ h))))) hown hK hM hO rfl (by decide) (hts (.fieldLink RX5 31 "SentenceRules" "reasonRow" "[I") (List.mem_of_getElem? (i := 2) rfl)) rfl rfl dX5_reason_46 ?_
        refine lv_iload hx hb dX5_reason_49 (lv_at hl 4 rfl) ?_
        refine mn_iald hx hb hK hM hrr i (by omega) (by decide) dX5_reason_51 ?_
        refine mv_top hri ?_
        exact mm_iret hx hb hlocks hr (Nat.le_of_ble_eq_true rfl) (Nat.le_of_ble_eq_true rfl) hM (⟨by rw [if_pos (by simp [cz1, cz2]), rk_hit hall hjz hqj hcj (by simp [hqj, cz5]), if_pos hjz], _, hrr, hfr⟩) dX5_reason_52
    exact loopZ (cntN (fun k => reaD g lo hi ab (-1) n k r) n + 1) 0 _ _ ls (Nat.zero_le _) (fun k _ _ h => absurd h (Nat.not_lt_zero _)) (by omega) hM (lv_sub hl [2, 3, 4, 1, 0] rfl)
  refine lv_ldc (v := (-100002)) hx hb hown (hts (.constant RX5 41 (-100002)) (List.mem_of_getElem? (i := 1) rfl)) dX5_reason_11 ?_
  exact mm_iret hx hb hlocks hr (Nat.le_of_ble_eq_true rfl) (Nat.le_of_ble_eq_true rfl) hM (⟨by rw [if_neg (by simp [cz1, cz2])], _, hrr, fun b _ => rfl⟩) dX5_reason_13
set_option maxHeartbeats 4000000 in
set_option maxRecDepth 100000 in
theorem c5_answerSupposing (l : Launch) (G : mG) {f : mE} {o q0 b fc pr n ra rd sp rr sb : Nat} {rc : Int32} {B : Nat → Option Nat} {X rg pa qa tk : Nat → Nat} {lo hi : Nat → Nat → Int32} {ab gv us g : Nat → Int32} (hO : f o = some (.inr (6, [.ref q0, .ref ra, .int rc, .ref rd, .ref sp, .ref rr, .ref sb]))) (hQ : StQ G f q0 b fc pr n B X rg pa qa tk lo hi ab gv us) (hg : f fc = some (mI G 7 g)) {gs : Nat → Int32} (hsp : f sp = some (mI G 7 gs)) (hsf : sp ≠ fc) (hsx : ∀ i, i < n → sp ≠ pa i ∧ sp ≠ qa i) (r : Int32) (k : Nat) (hk : k < 7) (x : Int32) : mC l G yX5_answerSupposing wsX5_answerSupposing ({ frames := 5, cells := 0, slots := 0, locals := 124 } : Room) f [.ref o, .int r, .int (nI k), .int x] (fun v f1 => v = some (.int (ansD (upd g k x) lo hi ab gv (-1) n r n 0 (-100005))) ∧ (∃ gs, f1 sp = some (mI G 7 gs)) ∧ ∀ b, b ≠ sp → f1 b = f b) 0 0 := by
  refine mC.of (cc := cX5_answerSupposing) (maxL := 4) (ret := (some .int)) (by decide) rfl (Nat.le_of_ble_eq_true rfl) ?_
  intro pgm env s mt args below meth c A ls hx hb hml hr hlocks hown hname hts hK hE hA hM hl
  have hl : lv_has ls 4 [(0, .ref o), (1, .int r), (2, .int (nI k)), (3, .int x)] := hl
  have hn16 := hQ.2.2.1
  refine lv_aload_n hx hb dX5_answerSupposing_0 rfl (lv_at hl 0 rfl) ?_
  refine mm_get (C := RX5) (T := TX5) (N := 7) (k := 0) hx hb hts (fun _ h => List.mem_cons_of_mem _ (List.mem_append_left _ (List.mem_append_left _ (List.mem_append_left _ (List.mem_append_right _ h))))) hown hK hM hO rfl (by decide) (hts (.fieldLink RX5 12 "SentenceRules" "now" "LSentenceRules$State;") (List.mem_of_getElem? (i := 1) rfl)) rfl rfl dX5_answerSupposing_1 ?_
  refine mm_get (C := RX3) (T := TX3) (N := 4) (k := 2) hx hb hts (fun _ h => List.mem_cons_of_mem _ (List.mem_append_left _ (List.mem_append_left _ (List.mem_append_right _ h)))) hown hK hM hQ.1 rfl (by decide) (hts (.fieldLink RX5 158 "SentenceRules$State" "facts" "[I") (List.mem_of_getElem? (i := 2) rfl)) rfl rfl dX5_answerSupposing_4 ?_
  refine lv_iconst (v := (nI 0)) hx hb dX5_answerSupposing_7 (by decide +kernel) ?_
  refine lv_aload_n hx hb dX5_answerSupposing_8 rfl (lv_at hl 0 rfl) ?_
  refine mm_get (C := RX5) (T := TX5) (N := 7) (k := 4) hx hb hts (fun _ h => List.mem_cons_of_mem _ (List.mem_append_left _ (List.mem_append_left _ (List.mem_append_left _ (List.mem_append_right _ h))))) hown hK hM hO rfl (by decide) (hts (.fieldLink RX5 27 "SentenceRules" "supposed" "[I") (List.mem_of_getElem? (i := 3) rfl)) rfl rfl dX5_answerSupposing_9 ?_
  refine lv_iconst (v := (nI 0)) hx hb dX5_answerSupposing_12 (by decide +kernel) ?_
  refine lv_bipush (v := (nI 7)) hx hb dX5_answerSupposing_13 (by decide +kernel) ?_
  refine mm_copyI hx hb (by rw [hml]; exact hl.1.symm) hown (hts (.methodLink RX5 353 arraycopyName) (List.mem_of_getElem? (i := 4) rfl)) (hts (.native arraycopyName) (List.mem_of_getElem? (i := 5) rfl)) (hts (.static arraycopyName) (List.mem_of_getElem? (i := 6) rfl)) (hts (.initialized "java/lang/System") (List.mem_of_getElem? (i := 7) rfl)) hK hM hg hsp 0 0 7 (by decide) (by decide) (by decide) (by decide) (Nat.le_of_ble_eq_true rfl) (Nat.le_of_ble_eq_true rfl) (Nat.le_of_ble_eq_true rfl) dX5_answerSupposing_15 (fun Hp lcs hM => ?_)
  obtain ⟨gz1, hM, hz2, rz3⟩ := hM.up
  have hO := (rz3 o (ne_oi hO hsp)).trans hO
  have hg := (rz3 fc (Ne.symm hsf)).trans hg
  have hQ := hQ.keep7 hsp hsx rz3
  have hfs := fun b (hb : b ≠ sp) => (rz3 b hb)
  refine lv_aload_n hx hb dX5_answerSupposing_18 rfl (lv_at hl 0 rfl) ?_
  refine mm_get (C := RX5) (T := TX5) (N := 7) (k := 4) hx hb hts (fun _ h => List.mem_cons_of_mem _ (List.mem_append_left _ (List.mem_append_left _ (List.mem_append_left _ (List.mem_append_right _ h))))) hown hK hM hO rfl (by decide) (hts (.fieldLink RX5 27 "SentenceRules" "supposed" "[I") (List.mem_of_getElem? (i := 3) rfl)) rfl rfl dX5_answerSupposing_19 ?_
  refine lv_iload_n hx hb dX5_answerSupposing_22 rfl (lv_at hl 2 rfl) ?_
  refine lv_iload_n hx hb dX5_answerSupposing_23 rfl (lv_at hl 3 rfl) ?_
  refine mn_iast hx hb hK hM hz2 k (by omega) (by decide) dX5_answerSupposing_24 (fun Hp lcs hM => ?_)
  obtain ⟨gz4, hM, hz5, rz6⟩ := hM.up
  have hO := (rz6 o (ne_oi hO hz2)).trans hO
  have hg := (rz6 fc (Ne.symm hsf)).trans hg
  have hQ := hQ.keep7 hz2 hsx rz6
  have hfs := fun b (hb : b ≠ sp) => (rz6 b hb).trans (hfs b hb)
  refine lv_aload_n hx hb dX5_answerSupposing_25 rfl (lv_at hl 0 rfl) ?_
  refine mm_get (C := RX5) (T := TX5) (N := 7) (k := 0) hx hb hts (fun _ h => List.mem_cons_of_mem _ (List.mem_append_left _ (List.mem_append_left _ (List.mem_append_left _ (List.mem_append_right _ h))))) hown hK hM hO rfl (by decide) (hts (.fieldLink RX5 12 "SentenceRules" "now" "LSentenceRules$State;") (List.mem_of_getElem? (i := 1) rfl)) rfl rfl dX5_answerSupposing_26 ?_
  refine lv_iload_n hx hb dX5_answerSupposing_29 rfl (lv_at hl 1 rfl) ?_
  refine lv_aload_n hx hb dX5_answerSupposing_30 rfl (lv_at hl 0 rfl) ?_
  refine mm_get (C := RX5) (T := TX5) (N := 7) (k := 4) hx hb hts (fun _ h => List.mem_cons_of_mem _ (List.mem_append_left _ (List.mem_append_left _ (List.mem_append_left _ (List.mem_append_right _ h))))) hown hK hM hO rfl (by decide) (hts (.fieldLink RX5 27 "SentenceRules" "supposed" "[I") (List.mem_of_getElem? (i := 3) rfl)) rfl rfl dX5_answerSupposing_31 ?_
  refine lv_iconst (v := (-1)) hx hb dX5_answerSupposing_34 (by decide +kernel) ?_
  refine mm_V (As := [.int r, .ref sp, .int (-1)]) (rest := []) ⟨hx, hb, hml, hown, hts⟩ (c3_answerFor l G hQ hz5 r (-1)) (cwV 3 hts gX5_answerSupposing_X3_answerFor rfl rfl rfl (by decide +kernel) ⟨Nat.le_of_ble_eq_true rfl, Nat.le_of_ble_eq_true rfl⟩) hK hE hA hM (mm_recv hK hM hQ.1 (q := (RX3, TX3, 4)) rfl) rfl hl.1 rfl (Nat.le_of_ble_eq_true rfl) dX5_answerSupposing_35 ⟨Nat.le_of_ble_eq_true rfl, Nat.le_of_ble_eq_true rfl⟩ (fun v f1 Hp lcs hp hM => ?_)
  obtain ⟨rfl, hf⟩ := hp; subst hf
  exact mm_iret hx hb hlocks hr (Nat.le_of_ble_eq_true rfl) (Nat.le_of_ble_eq_true rfl) hM (⟨congrArg (fun z => some (Value.int z)) (ansD_cong (fun j hj => sup_eq hj)), ⟨_, hz5⟩, hfs⟩) dX5_answerSupposing_38
set_option maxHeartbeats 4000000 in
set_option maxRecDepth 100000 in
theorem c5_answerIf (l : Launch) (G : mG) {f : mE} {o q0 b fc pr n ra rd sp rr sb : Nat} {rc : Int32} {B : Nat → Option Nat} {X rg pa qa tk : Nat → Nat} {lo hi : Nat → Nat → Int32} {ab gv us g : Nat → Int32} (hO : f o = some (.inr (6, [.ref q0, .ref ra, .int rc, .ref rd, .ref sp, .ref rr, .ref sb]))) (hQ : StQ G f q0 b fc pr n B X rg pa qa tk lo hi ab gv us) (hg : f fc = some (mI G 7 g)) {gs : Nat → Int32} (hsp : f sp = some (mI G 7 gs)) (hsf : sp ≠ fc) (hsx : ∀ i, i < n → sp ≠ pa i ∧ sp ≠ qa i) (r k x : Int32) : mC l G yX5_answerIf wsX5_answerIf ({ frames := 6, cells := 0, slots := 0, locals := 147 } : Room) f [.ref o, .int r, .int k, .int x] (fun v f1 => v = some (.int (if inB r 0 3 = true ∧ valB k x = true then ansD (upd g k.toNatClampNeg x) lo hi ab gv (-1) n r n 0 (-100005) else -100002)) ∧ (∃ gs, f1 sp = some (mI G 7 gs)) ∧ ∀ b, b ≠ sp → f1 b = f b) 0 0 := by
  refine mC.of (cc := cX5_answerIf) (maxL := 4) (ret := (some .int)) (by decide) rfl (Nat.le_of_ble_eq_true rfl) ?_
  intro pgm env s mt args below meth c A ls hx hb hml hr hlocks hown hname hts hK hE hA hM hl
  have hl : lv_has ls 4 [(0, .ref o), (1, .int r), (2, .int k), (3, .int x)] := hl
  have hn16 := hQ.2.2.1
  have hfs : ∀ b, b ≠ sp → f b = f b := fun _ _ => rfl
  refine lv_iload_n hx hb dX5_answerIf_0 rfl (lv_at hl 1 rfl) ?_
  refine mm_S (As := [.int r]) (rest := []) ⟨hx, hb, hml, hown, hts⟩ (c5_isResult l G _ r) (va_cwS 1 hts gX5_answerIf_X5_isResult rfl rfl rfl (by decide +kernel) ⟨Nat.le_of_ble_eq_true rfl, Nat.le_of_ble_eq_true rfl⟩) hK hE hA hM rfl hl.1 rfl (Nat.le_of_ble_eq_true rfl) dX5_answerIf_1 ⟨Nat.le_of_ble_eq_true rfl, Nat.le_of_ble_eq_true rfl⟩ (fun v f1 Hp lcs hp hM => ?_)
  obtain ⟨rfl, hf⟩ := hp; subst hf
  refine lvb_eq (tgt := 22) hx hb dX5_answerIf_4 (by decide) (fun cz1 => ?_) (fun cz1 => ?_)
  · refine lv_ldc (v := (-100002)) hx hb hown (hts (.constant RX5 41 (-100002)) (List.mem_of_getElem? (i := 1) rfl)) dX5_answerIf_22 ?_
    exact mm_iret hx hb hlocks hr (Nat.le_of_ble_eq_true rfl) (Nat.le_of_ble_eq_true rfl) hM (⟨by rw [if_neg (by rw [valB]; simp [cz1])], ⟨_, hsp⟩, hfs⟩) dX5_answerIf_24
  refine lv_iload_n hx hb dX5_answerIf_7 rfl (lv_at hl 2 rfl) ?_
  refine mm_S (As := [.int k]) (rest := []) ⟨hx, hb, hml, hown, hts⟩ (c5_isFact l G _ k) (va_cwS 1 hts gX5_answerIf_X5_isFact rfl rfl rfl (by decide +kernel) ⟨Nat.le_of_ble_eq_true rfl, Nat.le_of_ble_eq_true rfl⟩) hK hE hA hM rfl hl.1 rfl (Nat.le_of_ble_eq_true rfl) dX5_answerIf_8 ⟨Nat.le_of_ble_eq_true rfl, Nat.le_of_ble_eq_true rfl⟩ (fun v f1 Hp lcs hp hM => ?_)
  obtain ⟨rfl, hf⟩ := hp; subst hf
  refine lvb_eq (tgt := 22) hx hb dX5_answerIf_11 (by decide) (fun cz2 => ?_) (fun cz2 => ?_)
  · refine lv_ldc (v := (-100002)) hx hb hown (hts (.constant RX5 41 (-100002)) (List.mem_of_getElem? (i := 1) rfl)) dX5_answerIf_22 ?_
    exact mm_iret hx hb hlocks hr (Nat.le_of_ble_eq_true rfl) (Nat.le_of_ble_eq_true rfl) hM (⟨by rw [if_neg (by rw [valB]; simp [cz1, cz2])], ⟨_, hsp⟩, hfs⟩) dX5_answerIf_24
  refine lv_iload_n hx hb dX5_answerIf_14 rfl (lv_at hl 2 rfl) ?_
  refine lv_iload_n hx hb dX5_answerIf_15 rfl (lv_at hl 3 rfl) ?_
  refine mm_S (As := [.int k, .int x]) (rest := []) ⟨hx, hb, hml, hown, hts⟩ (c5_isValueOf l G _ k x) (va_cwS 2 hts gX5_answerIf_X5_isValueOf rfl rfl rfl (by decide +kernel) ⟨Nat.le_of_ble_eq_true rfl, Nat.le_of_ble_eq_true rfl⟩) hK hE hA hM rfl hl.1 rfl (Nat.le_of_ble_eq_true rfl) dX5_answerIf_16 ⟨Nat.le_of_ble_eq_true rfl, Nat.le_of_ble_eq_true rfl⟩ (fun v f1 Hp lcs hp hM => ?_)
  obtain ⟨rfl, hf⟩ := hp; subst hf
  refine lvb_ne (tgt := 25) hx hb dX5_answerIf_19 (by decide) (fun cz3 => ?_) (fun cz3 => ?_)
  · obtain ⟨i, iN, rfl⟩ := inB_nat (K := 6) (by decide) cz2
    refine lv_aload_n hx hb dX5_answerIf_25 rfl (lv_at hl 0 rfl) ?_
    refine lv_iload_n hx hb dX5_answerIf_26 rfl (lv_at hl 1 rfl) ?_
    refine lv_iload_n hx hb dX5_answerIf_27 rfl (lv_at hl 2 rfl) ?_
    refine lv_iload_n hx hb dX5_answerIf_28 rfl (lv_at hl 3 rfl) ?_
    refine mm_V (As := [.int r, .int (nI i), .int x]) (rest := []) ⟨hx, hb, hml, hown, hts⟩ (c5_answerSupposing l G hO hQ hg hsp hsf hsx r i (by omega) x) (cwV 3 hts gX5_answerIf_X5_answerSupposing rfl rfl rfl (by decide +kernel) ⟨Nat.le_of_ble_eq_true rfl, Nat.le_of_ble_eq_true rfl⟩) hK hE hA hM (mm_recv hK hM hO (q := (RX5, TX5, 7)) rfl) rfl hl.1 rfl (Nat.le_of_ble_eq_true rfl) dX5_answerIf_29 ⟨Nat.le_of_ble_eq_true rfl, Nat.le_of_ble_eq_true rfl⟩ (fun v gz4 Hp lcs hp hM => ?_)
    obtain ⟨rfl, ⟨gs, hsp2⟩, hfs2⟩ := hp
    have hO := (hfs2 o (ne_oi hO hsp)).trans hO
    have hg := (hfs2 fc (Ne.symm hsf)).trans hg
    have hQ := hQ.keep7 hsp hsx hfs2
    have hfs := fun b (hb : b ≠ sp) => (hfs2 b hb).trans (hfs b hb)
    have hsp := hsp2
    exact mm_iret hx hb hlocks hr (Nat.le_of_ble_eq_true rfl) (Nat.le_of_ble_eq_true rfl) hM (⟨by rw [if_pos ⟨cz1, by rw [valB, cz2, cz3]; rfl⟩, nI_clamp (by omega)], ⟨_, hsp⟩, hfs⟩) dX5_answerIf_32
  refine lv_ldc (v := (-100002)) hx hb hown (hts (.constant RX5 41 (-100002)) (List.mem_of_getElem? (i := 1) rfl)) dX5_answerIf_22 ?_
  exact mm_iret hx hb hlocks hr (Nat.le_of_ble_eq_true rfl) (Nat.le_of_ble_eq_true rfl) hM (⟨by rw [if_neg (by rw [valB]; simp [cz1, cz2, cz3])], ⟨_, hsp⟩, hfs⟩) dX5_answerIf_24
set_option maxHeartbeats 4000000 in
set_option maxRecDepth 100000 in
theorem c5_nextChange (l : Launch) (G : mG) {f : mE} {o q0 b fc pr n ra rd sp rr sb : Nat} {rc : Int32} {B : Nat → Option Nat} {X rg pa qa tk : Nat → Nat} {lo hi : Nat → Nat → Int32} {ab gv us g : Nat → Int32} (hO : f o = some (.inr (6, [.ref q0, .ref ra, .int rc, .ref rd, .ref sp, .ref rr, .ref sb]))) (hQ : StQ G f q0 b fc pr n B X rg pa qa tk lo hi ab gv us) (hg : f fc = some (mI G 7 g)) {gs : Nat → Int32} (hsp : f sp = some (mI G 7 gs)) (hsf : sp ≠ fc) (hsx : ∀ i, i < n → sp ≠ pa i ∧ sp ≠ qa i) (r k : Int32) : mC l G yX5_nextChange wsX5_nextChange ({ frames := 6, cells := 0, slots := 0, locals := 147 } : Room) f [.ref o, .int r, .int k] (fun v f1 => v = some (.int (if inB r 0 3 = true ∧ inB k 0 6 = true then ncD (fun z => !decide (z = ansD g lo hi ab gv (-1) n r n 0 (-100005))) g lo hi ab gv n r k.toNatClampNeg 32 (nbrI lo hi ab n r k.toNatClampNeg (g k.toNatClampNeg)) else -100002)) ∧ (∃ gs, f1 sp = some (mI G 7 gs)) ∧ ∀ b, b ≠ sp → f1 b = f b) 0 0 := by
  refine mC.of (cc := cX5_nextChange) (maxL := 6) (ret := (some .int)) (by decide) rfl (Nat.le_of_ble_eq_true rfl) ?_
  intro pgm env s mt args below meth c A ls hx hb hml hr hlocks hown hname hts hK hE hA hM hl
  have hl : lv_has ls 6 [(0, .ref o), (1, .int r), (2, .int k)] := hl
  have hn16 := hQ.2.2.1
  have hfs : ∀ b, b ≠ sp → f b = f b := fun _ _ => rfl
  have hO0 := hO
  have hQ0 := hQ
  have hg0 := hg
  have hsp0 := hsp
  refine lv_iload_n hx hb dX5_nextChange_0 rfl (lv_at hl 1 rfl) ?_
  refine mm_S (As := [.int r]) (rest := []) ⟨hx, hb, hml, hown, hts⟩ (c5_isResult l G _ r) (va_cwS 1 hts gX5_nextChange_X5_isResult rfl rfl rfl (by decide +kernel) ⟨Nat.le_of_ble_eq_true rfl, Nat.le_of_ble_eq_true rfl⟩) hK hE hA hM rfl hl.1 rfl (Nat.le_of_ble_eq_true rfl) dX5_nextChange_1 ⟨Nat.le_of_ble_eq_true rfl, Nat.le_of_ble_eq_true rfl⟩ (fun v f1 Hp lcs hp hM => ?_)
  obtain ⟨rfl, hf⟩ := hp; subst hf
  refine lvb_eq (tgt := 14) hx hb dX5_nextChange_4 (by decide) (fun cz1 => ?_) (fun cz1 => ?_)
  · refine lv_ldc (v := (-100002)) hx hb hown (hts (.constant RX5 41 (-100002)) (List.mem_of_getElem? (i := 1) rfl)) dX5_nextChange_14 ?_
    exact mm_iret hx hb hlocks hr (Nat.le_of_ble_eq_true rfl) (Nat.le_of_ble_eq_true rfl) hM (⟨by rw [if_neg (by simp [cz1])], ⟨_, hsp⟩, hfs⟩) dX5_nextChange_16
  refine lv_iload_n hx hb dX5_nextChange_7 rfl (lv_at hl 2 rfl) ?_
  refine mm_S (As := [.int k]) (rest := []) ⟨hx, hb, hml, hown, hts⟩ (c5_isFact l G _ k) (va_cwS 1 hts gX5_nextChange_X5_isFact rfl rfl rfl (by decide +kernel) ⟨Nat.le_of_ble_eq_true rfl, Nat.le_of_ble_eq_true rfl⟩) hK hE hA hM rfl hl.1 rfl (Nat.le_of_ble_eq_true rfl) dX5_nextChange_8 ⟨Nat.le_of_ble_eq_true rfl, Nat.le_of_ble_eq_true rfl⟩ (fun v f1 Hp lcs hp hM => ?_)
  obtain ⟨rfl, hf⟩ := hp; subst hf
  refine lvb_ne (tgt := 17) hx hb dX5_nextChange_11 (by decide) (fun cz2 => ?_) (fun cz2 => ?_)
  · obtain ⟨i, iN, rfl⟩ := inB_nat (K := 6) (by decide) cz2
    refine lv_aload_n hx hb dX5_nextChange_17 rfl (lv_at hl 0 rfl) ?_
    refine mm_get (C := RX5) (T := TX5) (N := 7) (k := 0) hx hb hts (fun _ h => List.mem_cons_of_mem _ (List.mem_append_left _ (List.mem_append_left _ (List.mem_append_left _ (List.mem_append_right _ h))))) hown hK hM hO rfl (by decide) (hts (.fieldLink RX5 12 "SentenceRules" "now" "LSentenceRules$State;") (List.mem_of_getElem? (i := 2) rfl)) rfl rfl dX5_nextChange_18 ?_
    refine lv_iload_n hx hb dX5_nextChange_21 rfl (lv_at hl 1 rfl) ?_
    refine lv_aload_n hx hb dX5_nextChange_22 rfl (lv_at hl 0 rfl) ?_
    refine mm_get (C := RX5) (T := TX5) (N := 7) (k := 0) hx hb hts (fun _ h => List.mem_cons_of_mem _ (List.mem_append_left _ (List.mem_append_left _ (List.mem_append_left _ (List.mem_append_right _ h))))) hown hK hM hO rfl (by decide) (hts (.fieldLink RX5 12 "SentenceRules" "now" "LSentenceRules$State;") (List.mem_of_getElem? (i := 2) rfl)) rfl rfl dX5_nextChange_23 ?_
    refine mm_get (C := RX3) (T := TX3) (N := 4) (k := 2) hx hb hts (fun _ h => List.mem_cons_of_mem _ (List.mem_append_left _ (List.mem_append_left _ (List.mem_append_right _ h)))) hown hK hM hQ.1 rfl (by decide) (hts (.fieldLink RX5 158 "SentenceRules$State" "facts" "[I") (List.mem_of_getElem? (i := 3) rfl)) rfl rfl dX5_nextChange_26 ?_
    refine lv_iconst (v := (-1)) hx hb dX5_nextChange_29 (by decide +kernel) ?_
    refine mm_V (As := [.int r, .ref fc, .int (-1)]) (rest := []) ⟨hx, hb, hml, hown, hts⟩ (c3_answerFor l G hQ hg r (-1)) (cwV 3 hts gX5_nextChange_X3_answerFor rfl rfl rfl (by decide +kernel) ⟨Nat.le_of_ble_eq_true rfl, Nat.le_of_ble_eq_true rfl⟩) hK hE hA hM (mm_recv hK hM hQ.1 (q := (RX3, TX3, 4)) rfl) rfl hl.1 rfl (Nat.le_of_ble_eq_true rfl) dX5_nextChange_30 ⟨Nat.le_of_ble_eq_true rfl, Nat.le_of_ble_eq_true rfl⟩ (fun v f1 Hp lcs hp hM => ?_)
    obtain ⟨rfl, hf⟩ := hp; subst hf
    refine lv_istore_n (lv' := [(3, .int (ansD g lo hi ab gv (-1) n r n 0 (-100005))), (0, .ref o), (1, .int r), (2, .int (nI i))]) hx hb dX5_nextChange_33 rfl hl (by decide) rfl (fun ls hl => ?_)
    refine lv_aload_n hx hb dX5_nextChange_34 rfl (lv_at hl 1 rfl) ?_
    refine mm_get (C := RX5) (T := TX5) (N := 7) (k := 0) hx hb hts (fun _ h => List.mem_cons_of_mem _ (List.mem_append_left _ (List.mem_append_left _ (List.mem_append_left _ (List.mem_append_right _ h))))) hown hK hM hO rfl (by decide) (hts (.fieldLink RX5 12 "SentenceRules" "now" "LSentenceRules$State;") (List.mem_of_getElem? (i := 2) rfl)) rfl rfl dX5_nextChange_35 ?_
    refine lv_iload_n hx hb dX5_nextChange_38 rfl (lv_at hl 2 rfl) ?_
    refine lv_iload_n hx hb dX5_nextChange_39 rfl (lv_at hl 3 rfl) ?_
    refine lv_aload_n hx hb dX5_nextChange_40 rfl (lv_at hl 1 rfl) ?_
    refine mm_get (C := RX5) (T := TX5) (N := 7) (k := 0) hx hb hts (fun _ h => List.mem_cons_of_mem _ (List.mem_append_left _ (List.mem_append_left _ (List.mem_append_left _ (List.mem_append_right _ h))))) hown hK hM hO rfl (by decide) (hts (.fieldLink RX5 12 "SentenceRules" "now" "LSentenceRules$State;") (List.mem_of_getElem? (i := 2) rfl)) rfl rfl dX5_nextChange_41 ?_
    refine mm_get (C := RX3) (T := TX3) (N := 4) (k := 2) hx hb hts (fun _ h => List.mem_cons_of_mem _ (List.mem_append_left _ (List.mem_append_left _ (List.mem_append_right _ h)))) hown hK hM hQ.1 rfl (by decide) (hts (.fieldLink RX5 158 "SentenceRules$State" "facts" "[I") (List.mem_of_getElem? (i := 3) rfl)) rfl rfl dX5_nextChange_44 ?_
    refine lv_iload_n hx hb dX5_nextChange_47 rfl (lv_at hl 3 rfl) ?_
    refine mn_iald hx hb hK hM hg i (by omega) (by decide) dX5_nextChange_48 ?_
    refine mm_V (As := [.int r, .int (nI i), .int (g i)]) (rest := []) ⟨hx, hb, hml, hown, hts⟩ (c3_nextBorder l G hQ r i (by omega) (g i)) (cwV 3 hts gX5_nextChange_X3_nextBorder rfl rfl rfl (by decide +kernel) ⟨Nat.le_of_ble_eq_true rfl, Nat.le_of_ble_eq_true rfl⟩) hK hE hA hM (mm_recv hK hM hQ.1 (q := (RX3, TX3, 4)) rfl) rfl hl.1 rfl (Nat.le_of_ble_eq_true rfl) dX5_nextChange_49 ⟨Nat.le_of_ble_eq_true rfl, Nat.le_of_ble_eq_true rfl⟩ (fun v f1 Hp lcs hp hM => ?_)
    obtain ⟨rfl, hf⟩ := hp; subst hf
    refine lv_istore (lv' := [(4, .int (nbrI lo hi ab n r i (g i))), (3, .int (ansD g lo hi ab gv (-1) n r n 0 (-100005))), (0, .ref o), (1, .int r), (2, .int (nI i))]) hx hb dX5_nextChange_52 hl (by decide) rfl (fun ls hl => ?_)
    refine lv_iconst (v := (nI 0)) hx hb dX5_nextChange_54 (by decide +kernel) ?_
    refine lv_istore (lv' := [(5, .int (nI 0)), (4, .int (nbrI lo hi ab n r i (g i))), (3, .int (ansD g lo hi ab gv (-1) n r n 0 (-100005))), (0, .ref o), (1, .int r), (2, .int (nI i))]) hx hb dX5_nextChange_55 hl (by decide) rfl (fun ls hl => ?_)
    have loopZ : ∀ (fuel : Nat) (t : Nat) (v : Int32) (gs : Nat → Int32) (fz : mE) (Hp : Heap) (lcs : List Loc) (ls : Array Slot) (htN : t ≤ 32) (hfin : ncD (fun z => !decide (z = ansD g lo hi ab gv (-1) n r n 0 (-100005))) g lo hi ab gv n r i (32 - t) v = ncD (fun z => !decide (z = ansD g lo hi ab gv (-1) n r n 0 (-100005))) g lo hi ab gv n r i 32 (nbrI lo hi ab n r i (g i))) (hspz : fz sp = some (mI G 7 gs)) (hfsz : ∀ b, b ≠ sp → fz b = f b) (hfu : 32 - t < fuel) (hM : mM G A s.heap fz Hp lcs) (hl : lv_has ls 6 [(0, .ref o), (1, .int r), (2, .int (nI i)), (3, .int (ansD g lo hi ab gv (-1) n r n 0 (-100005))), (4, .int v), (5, .int (nI t))]), W pgm l env ({ frames := 6, cells := 0, slots := 0, locals := 147 } : Room) s mt args below meth c Hp lcs 0 0 (MQ below (mQc G A (fun v f1 => v = some (.int (if inB r 0 3 = true ∧ inB (nI i) 0 6 = true then ncD (fun z => !decide (z = ansD g lo hi ab gv (-1) n r n 0 (-100005))) g lo hi ab gv n r (nI i).toNatClampNeg 32 (nbrI lo hi ab n r (nI i).toNatClampNeg (g (nI i).toNatClampNeg)) else -100002)) ∧ (∃ gs, f1 sp = some (mI G 7 gs)) ∧ ∀ b, b ≠ sp → f1 b = f b)) args s 0 0 A) (F0 mt 57 ls []) := by
      intro fuel
      induction fuel with
      | zero => intro t v gs fz Hp lcs ls htN hfin hspz hfsz hfu; exact absurd hfu (Nat.not_lt_zero _)
      | succ fuel ih =>
        intro t v gs fz Hp lcs ls htN hfin hspz hfsz hfu hM hl
        have hO := (hfsz o (ne_oi hO0 hsp0)).trans hO0
        have hQ := hQ0.keep7 hsp0 hsx hfsz
        have hg := (hfsz fc (Ne.symm hsf)).trans hg0
        have hsp := hspz
        have hfs := hfsz
        refine lv_iload hx hb dX5_nextChange_57 (lv_at hl 4 rfl) ?_
        refine lv_ldc (v := (-100005)) hx hb hown (hts (.constant RX5 105 (-100005)) (List.mem_of_getElem? (i := 4) rfl)) dX5_nextChange_59 ?_
        refine lv_icmp_eq (tgt := 105) hx hb dX5_nextChange_61 (by decide) (fun cz3 => ?_) (fun cz3 => ?_)
        · refine lv_ldc (v := (-100005)) hx hb hown (hts (.constant RX5 105 (-100005)) (List.mem_of_getElem? (i := 4) rfl)) dX5_nextChange_105 ?_
          exact mm_iret hx hb hlocks hr (Nat.le_of_ble_eq_true rfl) (Nat.le_of_ble_eq_true rfl) hM (⟨by rw [if_pos (by simp [cz1, cz2]), nI_clamp (by omega), ← hfin, ncD_none cz3], ⟨_, hsp⟩, hfs⟩) dX5_nextChange_107
        refine lv_iload hx hb dX5_nextChange_64 (lv_at hl 5 rfl) ?_
        refine lv_bipush (v := (nI 32)) hx hb dX5_nextChange_66 (by decide +kernel) ?_
        refine ln_icmp_ge t 32 (by omega) (by omega) (tgt := 105) hx hb dX5_nextChange_68 (by decide) (fun cz4 => ?_) (fun cz4 => ?_)
        · refine lv_ldc (v := (-100005)) hx hb hown (hts (.constant RX5 105 (-100005)) (List.mem_of_getElem? (i := 4) rfl)) dX5_nextChange_105 ?_
          exact mm_iret hx hb hlocks hr (Nat.le_of_ble_eq_true rfl) (Nat.le_of_ble_eq_true rfl) hM (⟨by rw [if_pos (by simp [cz1, cz2]), nI_clamp (by omega), ← hfin, show 32 - t = 0 by omega]; rfl, ⟨_, hsp⟩, hfs⟩) dX5_nextChange_107
        refine lv_aload_n hx hb dX5_nextChange_71 rfl (lv_at hl 0 rfl) ?_
        refine lv_iload_n hx hb dX5_nextChange_72 rfl (lv_at hl 1 rfl) ?_
        refine lv_iload_n hx hb dX5_nextChange_73 rfl (lv_at hl 2 rfl) ?_
        refine lv_iload hx hb dX5_nextChange_74 (lv_at hl 4 rfl) ?_
        refine mm_V (As := [.int r, .int (nI i), .int v]) (rest := []) ⟨hx, hb, hml, hown, hts⟩ (c5_answerSupposing l G hO hQ hg hsp hsf hsx r i (by omega) v) (cwV 3 hts gX5_nextChange_X5_answerSupposing rfl rfl rfl (by decide +kernel) ⟨Nat.le_of_ble_eq_true rfl, Nat.le_of_ble_eq_true rfl⟩) hK hE hA hM (mm_recv hK hM hO (q := (RX5, TX5, 7)) rfl) rfl hl.1 rfl (Nat.le_of_ble_eq_true rfl) dX5_nextChange_76 ⟨Nat.le_of_ble_eq_true rfl, Nat.le_of_ble_eq_true rfl⟩ (fun v gz5 Hp lcs hp hM => ?_)
        obtain ⟨rfl, ⟨gs, hsp2⟩, hfs2⟩ := hp
        have hO := (hfs2 o (ne_oi hO hsp)).trans hO
        have hg := (hfs2 fc (Ne.symm hsf)).trans hg
        have hQ := hQ.keep7 hsp hsx hfs2
        have hfs := fun b (hb : b ≠ sp) => (hfs2 b hb).trans (hfs b hb)
        have hsp := hsp2
        refine lv_iload_n hx hb dX5_nextChange_79 rfl (lv_at hl 3 rfl) ?_
        refine lv_icmp_eq (tgt := 86) hx hb dX5_nextChange_80 (by decide) (fun cz6 => ?_) (fun cz6 => ?_)
        · refine lv_aload_n hx hb dX5_nextChange_86 rfl (lv_at hl 0 rfl) ?_
          refine mm_get (C := RX5) (T := TX5) (N := 7) (k := 0) hx hb hts (fun _ h => List.mem_cons_of_mem _ (List.mem_append_left _ (List.mem_append_left _ (List.mem_append_left _ (List.mem_append_right _ h))))) hown hK hM hO rfl (by decide) (hts (.fieldLink RX5 12 "SentenceRules" "now" "LSentenceRules$State;") (List.mem_of_getElem? (i := 2) rfl)) rfl rfl dX5_nextChange_87 ?_
          refine lv_iload_n hx hb dX5_nextChange_90 rfl (lv_at hl 1 rfl) ?_
          refine lv_iload_n hx hb dX5_nextChange_91 rfl (lv_at hl 2 rfl) ?_
          refine lv_iload hx hb dX5_nextChange_92 (lv_at hl 4 rfl) ?_
          refine mm_V (As := [.int r, .int (nI i), .int v]) (rest := []) ⟨hx, hb, hml, hown, hts⟩ (c3_nextBorder l G hQ r i (by omega) v) (cwV 3 hts gX5_nextChange_X3_nextBorder rfl rfl rfl (by decide +kernel) ⟨Nat.le_of_ble_eq_true rfl, Nat.le_of_ble_eq_true rfl⟩) hK hE hA hM (mm_recv hK hM hQ.1 (q := (RX3, TX3, 4)) rfl) rfl hl.1 rfl (Nat.le_of_ble_eq_true rfl) dX5_nextChange_94 ⟨Nat.le_of_ble_eq_true rfl, Nat.le_of_ble_eq_true rfl⟩ (fun v f1 Hp lcs hp hM => ?_)
          obtain ⟨rfl, hf⟩ := hp; subst hf
          refine lv_istore (lv' := [(4, .int (nbrI lo hi ab n r i v)), (0, .ref o), (1, .int r), (2, .int (nI i)), (3, .int (ansD g lo hi ab gv (-1) n r n 0 (-100005))), (5, .int (nI t))]) hx hb dX5_nextChange_97 hl (by decide) rfl (fun ls hl => ?_)
          refine lv_iinc (v := (nI (t + 1))) (lv' := [(5, .int (nI (t + 1))), (4, .int (nbrI lo hi ab n r i v)), (0, .ref o), (1, .int r), (2, .int (nI i)), (3, .int (ansD g lo hi ab gv (-1) n r n 0 (-100005)))]) hx hb dX5_nextChange_99 hl (k := 5) rfl (nI_add _ _) (by decide) rfl (fun ls hl => ?_)
          refine lv_goto (tgt := 57) hx hb dX5_nextChange_102 (by decide) ?_
          exact ih (t + 1) _ _ _ _ _ ls (by omega) (by rw [← hfin]; exact (ncD_go (by omega) cz3 (by simp [cz6])).symm) hsp hfs (by omega) hM (lv_sub hl [2, 3, 4, 5, 1, 0] rfl)
        refine lv_iload hx hb dX5_nextChange_83 (lv_at hl 4 rfl) ?_
        exact mm_iret hx hb hlocks hr (Nat.le_of_ble_eq_true rfl) (Nat.le_of_ble_eq_true rfl) hM (⟨by rw [if_pos (by simp [cz1, cz2]), nI_clamp (by omega), ← hfin, ncD_hit (by omega) cz3 (by simp [cz6])], ⟨_, hsp⟩, hfs⟩) dX5_nextChange_85
    exact loopZ 33 0 _ _ _ _ _ ls (Nat.zero_le _) rfl hsp hfs (by omega) hM (lv_sub hl [3, 4, 5, 2, 1, 0] rfl)
  refine lv_ldc (v := (-100002)) hx hb hown (hts (.constant RX5 41 (-100002)) (List.mem_of_getElem? (i := 1) rfl)) dX5_nextChange_14 ?_
  exact mm_iret hx hb hlocks hr (Nat.le_of_ble_eq_true rfl) (Nat.le_of_ble_eq_true rfl) hM (⟨by rw [if_neg (by simp [cz1, cz2])], ⟨_, hsp⟩, hfs⟩) dX5_nextChange_16
set_option maxHeartbeats 4000000 in
set_option maxRecDepth 100000 in
theorem c5_leastFor (l : Launch) (G : mG) {f : mE} {o q0 b fc pr n ra rd sp rr sb : Nat} {rc : Int32} {B : Nat → Option Nat} {X rg pa qa tk : Nat → Nat} {lo hi : Nat → Nat → Int32} {ab gv us g : Nat → Int32} (hO : f o = some (.inr (6, [.ref q0, .ref ra, .int rc, .ref rd, .ref sp, .ref rr, .ref sb]))) (hQ : StQ G f q0 b fc pr n B X rg pa qa tk lo hi ab gv us) (hg : f fc = some (mI G 7 g)) {gs : Nat → Int32} (hsp : f sp = some (mI G 7 gs)) (hsf : sp ≠ fc) (hsx : ∀ i, i < n → sp ≠ pa i ∧ sp ≠ qa i) (r k x : Int32) : mC l G yX5_leastFor wsX5_leastFor ({ frames := 6, cells := 0, slots := 0, locals := 147 } : Room) f [.ref o, .int r, .int k, .int x] (fun v f1 => v = some (.int (if inB r 0 3 = true ∧ inB k 0 6 = true ∧ inB x (-9999) 9999 = true then ncD (fun z => decide (z = x)) g lo hi ab gv n r k.toNatClampNeg 33 (leastF k) else -100002)) ∧ (∃ gs, f1 sp = some (mI G 7 gs)) ∧ ∀ b, b ≠ sp → f1 b = f b) 0 0 := by
  refine mC.of (cc := cX5_leastFor) (maxL := 6) (ret := (some .int)) (by decide) rfl (Nat.le_of_ble_eq_true rfl) ?_
  intro pgm env s mt args below meth c A ls hx hb hml hr hlocks hown hname hts hK hE hA hM hl
  have hl : lv_has ls 6 [(0, .ref o), (1, .int r), (2, .int k), (3, .int x)] := hl
  have hn16 := hQ.2.2.1
  have hfs : ∀ b, b ≠ sp → f b = f b := fun _ _ => rfl
  have hO0 := hO
  have hQ0 := hQ
  have hg0 := hg
  have hsp0 := hsp
  refine lv_iload_n hx hb dX5_leastFor_0 rfl (lv_at hl 1 rfl) ?_
  refine mm_S (As := [.int r]) (rest := []) ⟨hx, hb, hml, hown, hts⟩ (c5_isResult l G _ r) (va_cwS 1 hts gX5_leastFor_X5_isResult rfl rfl rfl (by decide +kernel) ⟨Nat.le_of_ble_eq_true rfl, Nat.le_of_ble_eq_true rfl⟩) hK hE hA hM rfl hl.1 rfl (Nat.le_of_ble_eq_true rfl) dX5_leastFor_1 ⟨Nat.le_of_ble_eq_true rfl, Nat.le_of_ble_eq_true rfl⟩ (fun v f1 Hp lcs hp hM => ?_)
  obtain ⟨rfl, hf⟩ := hp; subst hf
  refine lvb_eq (tgt := 21) hx hb dX5_leastFor_4 (by decide) (fun cz1 => ?_) (fun cz1 => ?_)
  · refine lv_ldc (v := (-100002)) hx hb hown (hts (.constant RX5 41 (-100002)) (List.mem_of_getElem? (i := 1) rfl)) dX5_leastFor_21 ?_
    exact mm_iret hx hb hlocks hr (Nat.le_of_ble_eq_true rfl) (Nat.le_of_ble_eq_true rfl) hM (⟨by rw [if_neg (by simp [cz1])], ⟨_, hsp⟩, hfs⟩) dX5_leastFor_23
  refine lv_iload_n hx hb dX5_leastFor_7 rfl (lv_at hl 2 rfl) ?_
  refine mm_S (As := [.int k]) (rest := []) ⟨hx, hb, hml, hown, hts⟩ (c5_isFact l G _ k) (va_cwS 1 hts gX5_leastFor_X5_isFact rfl rfl rfl (by decide +kernel) ⟨Nat.le_of_ble_eq_true rfl, Nat.le_of_ble_eq_true rfl⟩) hK hE hA hM rfl hl.1 rfl (Nat.le_of_ble_eq_true rfl) dX5_leastFor_8 ⟨Nat.le_of_ble_eq_true rfl, Nat.le_of_ble_eq_true rfl⟩ (fun v f1 Hp lcs hp hM => ?_)
  obtain ⟨rfl, hf⟩ := hp; subst hf
  refine lvb_eq (tgt := 21) hx hb dX5_leastFor_11 (by decide) (fun cz2 => ?_) (fun cz2 => ?_)
  · refine lv_ldc (v := (-100002)) hx hb hown (hts (.constant RX5 41 (-100002)) (List.mem_of_getElem? (i := 1) rfl)) dX5_leastFor_21 ?_
    exact mm_iret hx hb hlocks hr (Nat.le_of_ble_eq_true rfl) (Nat.le_of_ble_eq_true rfl) hM (⟨by rw [if_neg (by simp [cz1, cz2])], ⟨_, hsp⟩, hfs⟩) dX5_leastFor_23
  refine lv_iload_n hx hb dX5_leastFor_14 rfl (lv_at hl 3 rfl) ?_
  refine mm_S (As := [.int x]) (rest := []) ⟨hx, hb, hml, hown, hts⟩ (c5_isNumber l G _ x) (va_cwS 1 hts gX5_leastFor_X5_isNumber rfl rfl rfl (by decide +kernel) ⟨Nat.le_of_ble_eq_true rfl, Nat.le_of_ble_eq_true rfl⟩) hK hE hA hM rfl hl.1 rfl (Nat.le_of_ble_eq_true rfl) dX5_leastFor_15 ⟨Nat.le_of_ble_eq_true rfl, Nat.le_of_ble_eq_true rfl⟩ (fun v f1 Hp lcs hp hM => ?_)
  obtain ⟨rfl, hf⟩ := hp; subst hf
  refine lvb_ne (tgt := 24) hx hb dX5_leastFor_18 (by decide) (fun cz3 => ?_) (fun cz3 => ?_)
  · obtain ⟨i, iN, rfl⟩ := inB_nat (K := 6) (by decide) cz2
    refine lv_iload_n hx hb dX5_leastFor_24 rfl (lv_at hl 2 rfl) ?_
    refine mm_S (As := [.int (nI i)]) (rest := []) ⟨hx, hb, hml, hown, hts⟩ (c5_lowestOf l G _ (nI i)) (va_cwS 1 hts gX5_leastFor_X5_lowestOf rfl rfl rfl (by decide +kernel) ⟨Nat.le_of_ble_eq_true rfl, Nat.le_of_ble_eq_true rfl⟩) hK hE hA hM rfl hl.1 rfl (Nat.le_of_ble_eq_true rfl) dX5_leastFor_25 ⟨Nat.le_of_ble_eq_true rfl, Nat.le_of_ble_eq_true rfl⟩ (fun v f1 Hp lcs hp hM => ?_)
    obtain ⟨rfl, hf⟩ := hp; subst hf
    refine lv_istore (lv' := [(4, .int (leastF (nI i))), (0, .ref o), (1, .int r), (2, .int (nI i)), (3, .int x)]) hx hb dX5_leastFor_28 hl (by decide) rfl (fun ls hl => ?_)
    refine lv_iconst (v := (nI 0)) hx hb dX5_leastFor_30 (by decide +kernel) ?_
    refine lv_istore (lv' := [(5, .int (nI 0)), (4, .int (leastF (nI i))), (0, .ref o), (1, .int r), (2, .int (nI i)), (3, .int x)]) hx hb dX5_leastFor_31 hl (by decide) rfl (fun ls hl => ?_)
    have loopZ : ∀ (fuel : Nat) (t : Nat) (v : Int32) (gs : Nat → Int32) (fz : mE) (Hp : Heap) (lcs : List Loc) (ls : Array Slot) (htN : t ≤ 33) (hfin : ncD (fun z => decide (z = x)) g lo hi ab gv n r i (33 - t) v = ncD (fun z => decide (z = x)) g lo hi ab gv n r i 33 (leastF (nI i))) (hspz : fz sp = some (mI G 7 gs)) (hfsz : ∀ b, b ≠ sp → fz b = f b) (hfu : 33 - t < fuel) (hM : mM G A s.heap fz Hp lcs) (hl : lv_has ls 6 [(0, .ref o), (1, .int r), (2, .int (nI i)), (3, .int x), (4, .int v), (5, .int (nI t))]), W pgm l env ({ frames := 6, cells := 0, slots := 0, locals := 147 } : Room) s mt args below meth c Hp lcs 0 0 (MQ below (mQc G A (fun v f1 => v = some (.int (if inB r 0 3 = true ∧ inB (nI i) 0 6 = true ∧ inB x (-9999) 9999 = true then ncD (fun z => decide (z = x)) g lo hi ab gv n r (nI i).toNatClampNeg 33 (leastF (nI i)) else -100002)) ∧ (∃ gs, f1 sp = some (mI G 7 gs)) ∧ ∀ b, b ≠ sp → f1 b = f b)) args s 0 0 A) (F0 mt 33 ls []) := by
      intro fuel
      induction fuel with
      | zero => intro t v gs fz Hp lcs ls htN hfin hspz hfsz hfu; exact absurd hfu (Nat.not_lt_zero _)
      | succ fuel ih =>
        intro t v gs fz Hp lcs ls htN hfin hspz hfsz hfu hM hl
        have hO := (hfsz o (ne_oi hO0 hsp0)).trans hO0
        have hQ := hQ0.keep7 hsp0 hsx hfsz
        have hg := (hfsz fc (Ne.symm hsf)).trans hg0
        have hsp := hspz
        have hfs := hfsz
        refine lv_iload hx hb dX5_leastFor_33 (lv_at hl 4 rfl) ?_
        refine lv_ldc (v := (-100005)) hx hb hown (hts (.constant RX5 105 (-100005)) (List.mem_of_getElem? (i := 2) rfl)) dX5_leastFor_35 ?_
        refine lv_icmp_eq (tgt := 81) hx hb dX5_leastFor_37 (by decide) (fun cz4 => ?_) (fun cz4 => ?_)
        · refine lv_ldc (v := (-100005)) hx hb hown (hts (.constant RX5 105 (-100005)) (List.mem_of_getElem? (i := 2) rfl)) dX5_leastFor_81 ?_
          exact mm_iret hx hb hlocks hr (Nat.le_of_ble_eq_true rfl) (Nat.le_of_ble_eq_true rfl) hM (⟨by rw [if_pos (by simp [cz1, cz2, cz3]), nI_clamp (by omega), ← hfin, ncD_none cz4], ⟨_, hsp⟩, hfs⟩) dX5_leastFor_83
        refine lv_iload hx hb dX5_leastFor_40 (lv_at hl 5 rfl) ?_
        refine lv_bipush (v := (nI 32)) hx hb dX5_leastFor_42 (by decide +kernel) ?_
        refine ln_icmp_gt t 32 (by omega) (by omega) (tgt := 81) hx hb dX5_leastFor_44 (by decide) (fun cz5 => ?_) (fun cz5 => ?_)
        · refine lv_ldc (v := (-100005)) hx hb hown (hts (.constant RX5 105 (-100005)) (List.mem_of_getElem? (i := 2) rfl)) dX5_leastFor_81 ?_
          exact mm_iret hx hb hlocks hr (Nat.le_of_ble_eq_true rfl) (Nat.le_of_ble_eq_true rfl) hM (⟨by rw [if_pos (by simp [cz1, cz2, cz3]), nI_clamp (by omega), ← hfin, show 33 - t = 0 by omega]; rfl, ⟨_, hsp⟩, hfs⟩) dX5_leastFor_83
        refine lv_aload_n hx hb dX5_leastFor_47 rfl (lv_at hl 0 rfl) ?_
        refine lv_iload_n hx hb dX5_leastFor_48 rfl (lv_at hl 1 rfl) ?_
        refine lv_iload_n hx hb dX5_leastFor_49 rfl (lv_at hl 2 rfl) ?_
        refine lv_iload hx hb dX5_leastFor_50 (lv_at hl 4 rfl) ?_
        refine mm_V (As := [.int r, .int (nI i), .int v]) (rest := []) ⟨hx, hb, hml, hown, hts⟩ (c5_answerSupposing l G hO hQ hg hsp hsf hsx r i (by omega) v) (cwV 3 hts gX5_leastFor_X5_answerSupposing rfl rfl rfl (by decide +kernel) ⟨Nat.le_of_ble_eq_true rfl, Nat.le_of_ble_eq_true rfl⟩) hK hE hA hM (mm_recv hK hM hO (q := (RX5, TX5, 7)) rfl) rfl hl.1 rfl (Nat.le_of_ble_eq_true rfl) dX5_leastFor_52 ⟨Nat.le_of_ble_eq_true rfl, Nat.le_of_ble_eq_true rfl⟩ (fun v gz6 Hp lcs hp hM => ?_)
        obtain ⟨rfl, ⟨gs, hsp2⟩, hfs2⟩ := hp
        have hO := (hfs2 o (ne_oi hO hsp)).trans hO
        have hg := (hfs2 fc (Ne.symm hsf)).trans hg
        have hQ := hQ.keep7 hsp hsx hfs2
        have hfs := fun b (hb : b ≠ sp) => (hfs2 b hb).trans (hfs b hb)
        have hsp := hsp2
        refine lv_iload_n hx hb dX5_leastFor_55 rfl (lv_at hl 3 rfl) ?_
        refine lv_icmp_ne (tgt := 62) hx hb dX5_leastFor_56 (by decide) (fun cz7 => ?_) (fun cz7 => ?_)
        · refine lv_aload_n hx hb dX5_leastFor_62 rfl (lv_at hl 0 rfl) ?_
          refine mm_get (C := RX5) (T := TX5) (N := 7) (k := 0) hx hb hts (fun _ h => List.mem_cons_of_mem _ (List.mem_append_left _ (List.mem_append_left _ (List.mem_append_left _ (List.mem_append_right _ h))))) hown hK hM hO rfl (by decide) (hts (.fieldLink RX5 12 "SentenceRules" "now" "LSentenceRules$State;") (List.mem_of_getElem? (i := 3) rfl)) rfl rfl dX5_leastFor_63 ?_
          refine lv_iload_n hx hb dX5_leastFor_66 rfl (lv_at hl 1 rfl) ?_
          refine lv_iload_n hx hb dX5_leastFor_67 rfl (lv_at hl 2 rfl) ?_
          refine lv_iload hx hb dX5_leastFor_68 (lv_at hl 4 rfl) ?_
          refine mm_V (As := [.int r, .int (nI i), .int v]) (rest := []) ⟨hx, hb, hml, hown, hts⟩ (c3_nextBorder l G hQ r i (by omega) v) (cwV 3 hts gX5_leastFor_X3_nextBorder rfl rfl rfl (by decide +kernel) ⟨Nat.le_of_ble_eq_true rfl, Nat.le_of_ble_eq_true rfl⟩) hK hE hA hM (mm_recv hK hM hQ.1 (q := (RX3, TX3, 4)) rfl) rfl hl.1 rfl (Nat.le_of_ble_eq_true rfl) dX5_leastFor_70 ⟨Nat.le_of_ble_eq_true rfl, Nat.le_of_ble_eq_true rfl⟩ (fun v f1 Hp lcs hp hM => ?_)
          obtain ⟨rfl, hf⟩ := hp; subst hf
          refine lv_istore (lv' := [(4, .int (nbrI lo hi ab n r i v)), (0, .ref o), (1, .int r), (2, .int (nI i)), (3, .int x), (5, .int (nI t))]) hx hb dX5_leastFor_73 hl (by decide) rfl (fun ls hl => ?_)
          refine lv_iinc (v := (nI (t + 1))) (lv' := [(5, .int (nI (t + 1))), (4, .int (nbrI lo hi ab n r i v)), (0, .ref o), (1, .int r), (2, .int (nI i)), (3, .int x)]) hx hb dX5_leastFor_75 hl (k := 5) rfl (nI_add _ _) (by decide) rfl (fun ls hl => ?_)
          refine lv_goto (tgt := 33) hx hb dX5_leastFor_78 (by decide) ?_
          exact ih (t + 1) _ _ _ _ _ ls (by omega) (by rw [← hfin]; exact (ncD_go (by omega) cz4 (by simp [cz7])).symm) hsp hfs (by omega) hM (lv_sub hl [2, 3, 4, 5, 1, 0] rfl)
        refine lv_iload hx hb dX5_leastFor_59 (lv_at hl 4 rfl) ?_
        exact mm_iret hx hb hlocks hr (Nat.le_of_ble_eq_true rfl) (Nat.le_of_ble_eq_true rfl) hM (⟨by rw [if_pos (by simp [cz1, cz2, cz3]), nI_clamp (by omega), ← hfin, ncD_hit (by omega) cz4 (by simp [cz7])], ⟨_, hsp⟩, hfs⟩) dX5_leastFor_61
    exact loopZ 34 0 _ _ _ _ _ ls (Nat.zero_le _) rfl hsp hfs (by omega) hM (lv_sub hl [2, 3, 4, 5, 1, 0] rfl)
  refine lv_ldc (v := (-100002)) hx hb hown (hts (.constant RX5 41 (-100002)) (List.mem_of_getElem? (i := 1) rfl)) dX5_leastFor_21 ?_
  exact mm_iret hx hb hlocks hr (Nat.le_of_ble_eq_true rfl) (Nat.le_of_ble_eq_true rfl) hM (⟨by rw [if_neg (by simp [cz1, cz2, cz3])], ⟨_, hsp⟩, hfs⟩) dX5_leastFor_23

