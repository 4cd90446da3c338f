/-! THE REFERENCE: more questions -/
def exN (q : Nat → Bool) : Nat → Bool
  | 0 => false
  | i + 1 => exN q i || q i
def defQ (S : Nat → Int32) (w : Int32) (k : Nat) : Bool := decide (S (57 + 66 * k + 49) = nI 10 + w)
def defI (S : Nat → Int32) (n : Nat) (w : Int32) : Int32 := if firN (defQ S w) n < n then nI (firN (defQ S w) n) else -100005
def useQ (S : Nat → Int32) (w : Int32) (k : Nat) : Bool := decide ((S (57 + 66 * k + 51) >>> (w &&& 31)) &&& nI 1 = nI 1)
def a6_answer (S : Nat → Int32) (wo : Int32) (n : Nat) (r : Int32) : Int32 := if inB r 0 3 = true then ansI S wo n r else -100002
def a6_reasons (S : Nat → Int32) (wo : Int32) (n : Nat) (r : Int32) : Int32 := if inB r 0 3 = true then nI (cntN (fun k => reaB S wo n k r) n) else -100002
def a6_overridden (S : Nat → Int32) (wo : Int32) (n : Nat) (r : Int32) : Int32 := if inB r 0 3 = true then nI (cntN (fun k => appB S wo k r && !reaB S wo n k r) n) else -100002
def firR (S : Nat → Int32) (j k : Nat) : Bool := decide (shaN S k < shaN S j) || (decide (shaN S j = shaN S k) && decide (j < k))
def aheQ (S : Nat → Int32) (wo : Int32) (n k : Nat) (r : Int32) (j : Nat) : Bool := firR S j k && reaB S wo n j r
def reasQ (S : Nat → Int32) (wo : Int32) (n : Nat) (r x : Int32) (k : Nat) : Bool := reaB S wo n k r && decide (nI (cntN (aheQ S wo n k r) n) = x)
def a6_reason (S : Nat → Int32) (wo : Int32) (n : Nat) (r x : Int32) : Int32 := if inB r 0 3 = true ∧ ¬ x < 0 then (if firN (reasQ S wo n r x) n < n then nI (firN (reasQ S wo n r x) n) else -100005) else -100002
theorem a6_reason_bad {S : Nat → Int32} {wo : Int32} {n : Nat} {r x : Int32} (h : inB r 0 3 = false) : (-100002) = a6_reason S wo n r x := by
  rw [a6_reason, if_neg (fun z => by rw [h] at z; exact absurd z.1 (by decide))]
theorem a6_reason_bad2 {S : Nat → Int32} {wo : Int32} {n : Nat} {r x : Int32} (h : ¬ 0 ≤ x) : (-100002) = a6_reason S wo n r x := by
  rw [a6_reason, if_neg (fun z => z.2 (Int32.not_le.mp h))]
theorem a6_reason_none {S : Nat → Int32} {wo : Int32} {n : Nat} {r x : Int32} (h : inB r 0 3 = true) (hx : 0 ≤ x) (hall : ∀ j, j < n → reasQ S wo n r x j = false) : (-100005) = a6_reason S wo n r x := by
  rw [a6_reason, if_pos ⟨h, Int32.not_lt.mpr hx⟩, firN_none hall, if_neg (Nat.lt_irrefl _)]
theorem a6_reason_at {S : Nat → Int32} {wo : Int32} {n k : Nat} {r x : Int32} (h : inB r 0 3 = true) (hx : 0 ≤ x) (hk : k < n) (hr : reaB S wo n k r = true) (he : nI (cntN (aheQ S wo n k r) n) = x) (hall : ∀ j, j < k → reasQ S wo n r x j = false) : nI k = a6_reason S wo n r x := by
  have hq : reasQ S wo n r x k = true := by rw [reasQ, hr, he]; simp
  rw [a6_reason, if_pos ⟨h, Int32.not_lt.mpr hx⟩, firN_eq hk hq hall, if_pos hk]
theorem reasQ_no {S : Nat → Int32} {wo : Int32} {n k : Nat} {r x : Int32} (h : reaB S wo n k r = false) : reasQ S wo n r x k = false := by rw [reasQ, h, Bool.false_and]
theorem reasQ_ne {S : Nat → Int32} {wo : Int32} {n k : Nat} {r x : Int32} (h : ¬ nI (cntN (aheQ S wo n k r) n) = x) : reasQ S wo n r x k = false := by
  rw [reasQ]; simp [h]
def a6_holds (S : Nat → Int32) (n : Nat) (w : Int32) : Int32 := if inB w 0 5 = true then (if firN (defQ S w) n < n then bI (conB S (firN (defQ S w) n)) else -100005) else -100002
set_option maxHeartbeats 4000000 in
set_option maxRecDepth 100000 in
theorem c6_definitionOf (l : Launch) (G : mG) {f : mE} {o : Nat} {a : Nat → Nat} {S P lo hi ou : Nat → Int32} {rc isr wd us ab gi wr wo : Int32} (hI : RI G f o a S P lo hi ou rc isr wd us ab gi wr wo) {n : Nat} (hn : S 56 = nI n) (hn16 : n ≤ 16) (w : Int32) : mC l G yX6_definitionOf wsX6_definitionOf ({ frames := 1, cells := 0, slots := 0, locals := 22 } : Room) f [.ref o, .int w] (fun v f1 => v = some (.int (defI S n w)) ∧ f = f1) 0 0 := by
  refine mC.of (cc := cX6_definitionOf) (maxL := 3) (ret := (some .int)) (by decide) rfl (Nat.le_of_ble_eq_true rfl) ?_
  intro pgm env s mt args below meth c A ls hx hb hml hr hlocks hown hname hts hK hE hA hM hl
  have hl : lv_has ls 3 [(0, .ref o), (1, .int w)] := hl
  refine lv_iconst (v := (nI 0)) hx hb dX6_definitionOf_0 (by decide +kernel) ?_
  refine lv_istore_n (lv' := [(2, .int (nI 0)), (0, .ref o), (1, .int w)]) hx hb dX6_definitionOf_1 rfl hl (by decide) rfl (fun ls hl => ?_)
  have loopZ : ∀ (fuel : Nat) (i : Nat) (Hp : Heap) (lcs : List Loc) (ls : Array Slot) (hiN : i ≤ n) (hall : ∀ j, j < i → defQ S w j = false) (hfu : n - i < fuel) (hM : mM G A s.heap f Hp lcs) (hl : lv_has ls 3 [(0, .ref o), (1, .int w), (2, .int (nI i))]), W pgm l env ({ frames := 1, cells := 0, slots := 0, locals := 22 } : Room) s mt args below meth c Hp lcs 0 0 (MQ below (mQc G A (fun v f1 => v = some (.int (defI S n w)) ∧ f = f1)) args s 0 0 A) (F0 mt 2 ls []) := by
    intro fuel
    induction fuel with
    | zero => intro i Hp lcs ls hiN hall hfu; exact absurd hfu (Nat.not_lt_zero _)
    | succ fuel ih =>
      intro i Hp lcs ls hiN hall hfu hM hl
      refine lv_iload_n hx hb dX6_definitionOf_2 rfl (lv_at hl 2 rfl) ?_
      refine lv_aload_n hx hb dX6_definitionOf_3 rfl (lv_at hl 0 rfl) ?_
      refine mm_get (C := RX6) (T := TX6) (N := 14) (k := 0) hx hb hts (fun _ h => List.mem_cons_of_mem _ (List.mem_append_right _ h)) hown hK hM (hI.obj) rfl (by decide) (hts (.fieldLink RX6 7 "SentenceRulesModel" "now" "[I") (List.mem_of_getElem? (i := 1) rfl)) rfl rfl dX6_definitionOf_4 ?_
      refine lv_bipush (v := (nI 56)) hx hb dX6_definitionOf_7 (by decide +kernel) ?_
      refine mn_iald hx hb hK hM (hI.now) 56 (by omega) (by decide) dX6_definitionOf_9 ?_
      refine mv_top hn ?_
      refine ln_icmp_ge i n (by omega) (by omega) (tgt := 35) hx hb dX6_definitionOf_10 (by decide) (fun cz1 => ?_) (fun cz1 => ?_)
      · refine lv_ldc (v := (-100005)) hx hb hown (hts (.constant RX6 28 (-100005)) (List.mem_of_getElem? (i := 2) rfl)) dX6_definitionOf_35 ?_
        exact mm_iret hx hb hlocks hr (Nat.le_of_ble_eq_true rfl) (Nat.le_of_ble_eq_true rfl) hM (ret_v (by have hz : i = n := (by omega); subst hz; rw [defI, firN_none hall, if_neg (Nat.lt_irrefl _)])) dX6_definitionOf_37
      refine lv_aload_n hx hb dX6_definitionOf_13 rfl (lv_at hl 0 rfl) ?_
      refine lv_iload_n hx hb dX6_definitionOf_14 rfl (lv_at hl 2 rfl) ?_
      refine lv_bipush (v := (nI 49)) hx hb dX6_definitionOf_15 (by decide +kernel) ?_
      refine mm_V (As := [.int (nI i), .int (nI 49)]) (rest := []) ⟨hx, hb, hml, hown, hts⟩ (c6_of l G hI i 49 (by omega)) (cwV 2 hts gX6_definitionOf_X6_of rfl rfl rfl (by decide +kernel) ⟨Nat.le_of_ble_eq_true rfl, Nat.le_of_ble_eq_true rfl⟩) hK hE hA hM (mm_recv hK hM (hI.obj) (q := (RX6, TX6, 14)) rfl) rfl hl.1 rfl (Nat.le_of_ble_eq_true rfl) dX6_definitionOf_17 ⟨Nat.le_of_ble_eq_true rfl, Nat.le_of_ble_eq_true rfl⟩ (fun v f1 Hp lcs hp hM => ?_)
      obtain ⟨rfl, hf⟩ := hp; subst hf
      refine lv_bipush (v := (nI 10)) hx hb dX6_definitionOf_20 (by decide +kernel) ?_
      refine lv_iload_n hx hb dX6_definitionOf_22 rfl (lv_at hl 1 rfl) ?_
      refine lv_iadd hx hb dX6_definitionOf_23 ?_
      refine lv_icmp_ne (tgt := 29) hx hb dX6_definitionOf_24 (by decide) (fun cz2 => ?_) (fun cz2 => ?_)
      · refine lv_iinc (v := (nI (i + 1))) (lv' := [(2, .int (nI (i + 1))), (0, .ref o), (1, .int w)]) hx hb dX6_definitionOf_29 hl (k := 2) rfl (nI_add _ _) (by decide) rfl (fun ls hl => ?_)
        refine lv_goto (tgt := 2) hx hb dX6_definitionOf_32 (by decide) ?_
        exact ih (i + 1) _ _ ls (by omega) (fun j hj => (Nat.lt_succ_iff_lt_or_eq.mp hj).elim (hall j) (fun z => by subst z; simp [defQ, cz1, cz2])) (by omega) hM (lv_sub hl [1, 2, 0] rfl)
      refine lv_iload_n hx hb dX6_definitionOf_27 rfl (lv_at hl 2 rfl) ?_
      exact mm_iret hx hb hlocks hr (Nat.le_of_ble_eq_true rfl) (Nat.le_of_ble_eq_true rfl) hM (ret_v (by rw [defI, firN_eq (k := i) (by omega) (by simp [defQ, cz1, cz2]) hall, if_pos (by omega)])) dX6_definitionOf_28
  exact loopZ (n + 1) 0 _ _ ls (Nat.zero_le _) (fun j hj => absurd hj (Nat.not_lt_zero j)) (by omega) hM (lv_sub hl [1, 2, 0] rfl)
set_option maxHeartbeats 4000000 in
set_option maxRecDepth 100000 in
theorem c6_isUsed (l : Launch) (G : mG) {f : mE} {o : Nat} {a : Nat → Nat} {S P lo hi ou : Nat → Int32} {rc isr wd us ab gi wr wo : Int32} (hI : RI G f o a S P lo hi ou rc isr wd us ab gi wr wo) {n : Nat} (hn : S 56 = nI n) (hn16 : n ≤ 16) (w : Int32) : mC l G yX6_isUsed wsX6_isUsed ({ frames := 1, cells := 0, slots := 0, locals := 22 } : Room) f [.ref o, .int w] (fun v f1 => v = some (.int (bI (exN (useQ S w) n))) ∧ f = f1) 0 0 := by
  refine mC.of (cc := cX6_isUsed) (maxL := 4) (ret := (some .boolean)) (by decide) rfl (Nat.le_of_ble_eq_true rfl) ?_
  intro pgm env s mt args below meth c A ls hx hb hml hr hlocks hown hname hts hK hE hA hM hl
  have hl : lv_has ls 4 [(0, .ref o), (1, .int w)] := hl
  refine lv_iconst (v := (nI 0)) hx hb dX6_isUsed_0 (by decide +kernel) ?_
  refine lv_istore_n (lv' := [(2, .int (nI 0)), (0, .ref o), (1, .int w)]) hx hb dX6_isUsed_1 rfl hl (by decide) rfl (fun ls hl => ?_)
  refine lv_iconst (v := (nI 0)) hx hb dX6_isUsed_2 (by decide +kernel) ?_
  refine lv_istore_n (lv' := [(3, .int (nI 0)), (2, .int (nI 0)), (0, .ref o), (1, .int w)]) hx hb dX6_isUsed_3 rfl hl (by decide) rfl (fun ls hl => ?_)
  have loopZ : ∀ (fuel : Nat) (i : Nat) (aw : Int32) (Hp : Heap) (lcs : List Loc) (ls : Array Slot) (hiN : i ≤ n) (hr0 : aw = bI (exN (useQ S w) i)) (hfu : n - i < fuel) (hM : mM G A s.heap f Hp lcs) (hl : lv_has ls 4 [(0, .ref o), (1, .int w), (2, .int aw), (3, .int (nI i))]), W pgm l env ({ frames := 1, cells := 0, slots := 0, locals := 22 } : Room) s mt args below meth c Hp lcs 0 0 (MQ below (mQc G A (fun v f1 => v = some (.int (bI (exN (useQ S w) n))) ∧ f = f1)) args s 0 0 A) (F0 mt 4 ls []) := by
    intro fuel
    induction fuel with
    | zero => intro i aw Hp lcs ls hiN hr0 hfu; exact absurd hfu (Nat.not_lt_zero _)
    | succ fuel ih =>
      intro i aw Hp lcs ls hiN hr0 hfu hM hl
      subst hr0
      refine lv_iload_n hx hb dX6_isUsed_4 rfl (lv_at hl 3 rfl) ?_
      refine lv_aload_n hx hb dX6_isUsed_5 rfl (lv_at hl 0 rfl) ?_
      refine mm_get (C := RX6) (T := TX6) (N := 14) (k := 0) hx hb hts (fun _ h => List.mem_cons_of_mem _ (List.mem_append_right _ h)) hown hK hM (hI.obj) rfl (by decide) (hts (.fieldLink RX6 7 "SentenceRulesModel" "now" "[I") (List.mem_of_getElem? (i := 1) rfl)) rfl rfl dX6_isUsed_6 ?_
      refine lv_bipush (v := (nI 56)) hx hb dX6_isUsed_9 (by decide +kernel) ?_
      refine mn_iald hx hb hK hM (hI.now) 56 (by omega) (by decide) dX6_isUsed_11 ?_
      refine mv_top hn ?_
      refine ln_icmp_ge i n (by omega) (by omega) (tgt := 46) hx hb dX6_isUsed_12 (by decide) (fun cz1 => ?_) (fun cz1 => ?_)
      · refine lv_iload_n hx hb dX6_isUsed_46 rfl (lv_at hl 2 rfl) ?_
        exact mm_zret hx hb hlocks hr (by first | rfl | exact bI_nar _) (Nat.le_of_ble_eq_true rfl) (Nat.le_of_ble_eq_true rfl) hM ((by have hz : i = n := (by omega); subst hz; exact ⟨rfl, rfl⟩)) dX6_isUsed_47
      refine lv_iload_n hx hb dX6_isUsed_15 rfl (lv_at hl 2 rfl) ?_
      refine lvb_ne (tgt := 34) hx hb dX6_isUsed_16 (by decide) (fun cz2 => ?_) (fun cz2 => ?_)
      · refine lv_iconst (v := (nI 1)) hx hb dX6_isUsed_34 (by decide +kernel) ?_
        refine lv_goto (tgt := 39) hx hb dX6_isUsed_35 (by decide) ?_
        refine lv_istore_n (lv' := [(2, .int (nI 1)), (0, .ref o), (1, .int w), (3, .int (nI i))]) hx hb dX6_isUsed_39 rfl hl (by decide) rfl (fun ls hl => ?_)
        refine lv_iinc (v := (nI (i + 1))) (lv' := [(3, .int (nI (i + 1))), (2, .int (nI 1)), (0, .ref o), (1, .int w)]) hx hb dX6_isUsed_40 hl (k := 3) rfl (nI_add _ _) (by decide) rfl (fun ls hl => ?_)
        refine lv_goto (tgt := 4) hx hb dX6_isUsed_43 (by decide) ?_
        exact ih (i + 1) _ _ _ ls (by omega) (bIt (by simp [exN, useQ, cz1, cz2])) (by omega) hM (lv_sub hl [2, 3, 1, 0] rfl)
      refine lv_aload_n hx hb dX6_isUsed_19 rfl (lv_at hl 0 rfl) ?_
      refine lv_iload_n hx hb dX6_isUsed_20 rfl (lv_at hl 3 rfl) ?_
      refine lv_bipush (v := (nI 51)) hx hb dX6_isUsed_21 (by decide +kernel) ?_
      refine mm_V (As := [.int (nI i), .int (nI 51)]) (rest := []) ⟨hx, hb, hml, hown, hts⟩ (c6_of l G hI i 51 (by omega)) (cwV 2 hts gX6_isUsed_X6_of rfl rfl rfl (by decide +kernel) ⟨Nat.le_of_ble_eq_true rfl, Nat.le_of_ble_eq_true rfl⟩) hK hE hA hM (mm_recv hK hM (hI.obj) (q := (RX6, TX6, 14)) rfl) rfl hl.1 rfl (Nat.le_of_ble_eq_true rfl) dX6_isUsed_23 ⟨Nat.le_of_ble_eq_true rfl, Nat.le_of_ble_eq_true rfl⟩ (fun v f1 Hp lcs hp hM => ?_)
      obtain ⟨rfl, hf⟩ := hp; subst hf
      refine lv_iload_n hx hb dX6_isUsed_26 rfl (lv_at hl 1 rfl) ?_
      refine lv_ishr hx hb dX6_isUsed_27 ?_
      refine lv_iconst (v := (nI 1)) hx hb dX6_isUsed_28 (by decide +kernel) ?_
      refine lv_iand hx hb dX6_isUsed_29 ?_
      refine lv_iconst (v := (nI 1)) hx hb dX6_isUsed_30 (by decide +kernel) ?_
      refine lv_icmp_ne (tgt := 38) hx hb dX6_isUsed_31 (by decide) (fun cz3 => ?_) (fun cz3 => ?_)
      · refine lv_iconst (v := (nI 0)) hx hb dX6_isUsed_38 (by decide +kernel) ?_
        refine lv_istore_n (lv' := [(2, .int (nI 0)), (0, .ref o), (1, .int w), (3, .int (nI i))]) hx hb dX6_isUsed_39 rfl hl (by decide) rfl (fun ls hl => ?_)
        refine lv_iinc (v := (nI (i + 1))) (lv' := [(3, .int (nI (i + 1))), (2, .int (nI 0)), (0, .ref o), (1, .int w)]) hx hb dX6_isUsed_40 hl (k := 3) rfl (nI_add _ _) (by decide) rfl (fun ls hl => ?_)
        refine lv_goto (tgt := 4) hx hb dX6_isUsed_43 (by decide) ?_
        exact ih (i + 1) _ _ _ ls (by omega) (bIf (by simp [exN, useQ, cz1, cz2, cz3])) (by omega) hM (lv_sub hl [2, 3, 1, 0] rfl)
      refine lv_iconst (v := (nI 1)) hx hb dX6_isUsed_34 (by decide +kernel) ?_
      refine lv_goto (tgt := 39) hx hb dX6_isUsed_35 (by decide) ?_
      refine lv_istore_n (lv' := [(2, .int (nI 1)), (0, .ref o), (1, .int w), (3, .int (nI i))]) hx hb dX6_isUsed_39 rfl hl (by decide) rfl (fun ls hl => ?_)
      refine lv_iinc (v := (nI (i + 1))) (lv' := [(3, .int (nI (i + 1))), (2, .int (nI 1)), (0, .ref o), (1, .int w)]) hx hb dX6_isUsed_40 hl (k := 3) rfl (nI_add _ _) (by decide) rfl (fun ls hl => ?_)
      refine lv_goto (tgt := 4) hx hb dX6_isUsed_43 (by decide) ?_
      exact ih (i + 1) _ _ _ ls (by omega) (bIt (by simp [exN, useQ, cz1, cz2, cz3])) (by omega) hM (lv_sub hl [2, 3, 1, 0] rfl)
  exact loopZ (n + 1) 0 (nI 0) _ _ ls (Nat.zero_le _) rfl (by omega) hM (lv_sub hl [2, 3, 1, 0] rfl)
set_option maxHeartbeats 4000000 in
set_option maxRecDepth 100000 in
theorem c6_answer (l : Launch) (G : mG) {f : mE} {o : Nat} {a : Nat → Nat} {S P lo hi ou : Nat → Int32} {rc isr wd us ab gi wr wo : Int32} (hI : RI G f o a S P lo hi ou rc isr wd us ab gi wr wo) {n : Nat} (hn : S 56 = nI n) (hn16 : n ≤ 16) (r : Int32) : mC l G yX6_answer wsX6_answer ({ frames := 5, cells := 0, slots := 0, locals := 115 } : Room) f [.ref o, .int r] (fun v f1 => v = some (.int (a6_answer S wo n r)) ∧ f = f1) 0 0 := by
  refine mC.of (cc := cX6_answer) (maxL := 2) (ret := (some .int)) (by decide) rfl (Nat.le_of_ble_eq_true rfl) ?_
  intro pgm env s mt args below meth c A ls hx hb hml hr hlocks hown hname hts hK hE hA hM hl
  have hl : lv_has ls 2 [(0, .ref o), (1, .int r)] := hl
  refine lv_iload_n hx hb dX6_answer_0 rfl (lv_at hl 1 rfl) ?_
  refine mm_S (As := [.int r]) (rest := []) ⟨hx, hb, hml, hown, hts⟩ (c6_isResult l G _ r) (va_cwS 1 hts gX6_answer_X6_isResult rfl rfl rfl (by decide +kernel) ⟨Nat.le_of_ble_eq_true rfl, Nat.le_of_ble_eq_true rfl⟩) hK hE hA hM rfl hl.1 rfl (Nat.le_of_ble_eq_true rfl) dX6_answer_1 ⟨Nat.le_of_ble_eq_true rfl, Nat.le_of_ble_eq_true rfl⟩ (fun v f1 Hp lcs hp hM => ?_)
  obtain ⟨rfl, hf⟩ := hp; subst hf
  refine lvb_eq (tgt := 15) hx hb dX6_answer_4 (by decide) (fun cz1 => ?_) (fun cz1 => ?_)
  · refine lv_ldc (v := (-100002)) hx hb hown (hts (.constant RX6 64 (-100002)) (List.mem_of_getElem? (i := 1) rfl)) dX6_answer_15 ?_
    exact mm_iret hx hb hlocks hr (Nat.le_of_ble_eq_true rfl) (Nat.le_of_ble_eq_true rfl) hM (ret_v (by simp [a6_answer, cz1])) dX6_answer_17
  refine lv_aload_n hx hb dX6_answer_7 rfl (lv_at hl 0 rfl) ?_
  refine lv_iload_n hx hb dX6_answer_8 rfl (lv_at hl 1 rfl) ?_
  refine mm_V (As := [.int r]) (rest := []) ⟨hx, hb, hml, hown, hts⟩ (c6_answerNow l G hI hn hn16 r) (cwV 1 hts gX6_answer_X6_answerNow rfl rfl rfl (by decide +kernel) ⟨Nat.le_of_ble_eq_true rfl, Nat.le_of_ble_eq_true rfl⟩) hK hE hA hM (mm_recv hK hM (hI.obj) (q := (RX6, TX6, 14)) rfl) rfl hl.1 rfl (Nat.le_of_ble_eq_true rfl) dX6_answer_9 ⟨Nat.le_of_ble_eq_true rfl, Nat.le_of_ble_eq_true rfl⟩ (fun v f1 Hp lcs hp hM => ?_)
  obtain ⟨rfl, hf⟩ := hp; subst hf
  refine lv_goto (tgt := 17) hx hb dX6_answer_12 (by decide) ?_
  exact mm_iret hx hb hlocks hr (Nat.le_of_ble_eq_true rfl) (Nat.le_of_ble_eq_true rfl) hM (ret_v (by simp [a6_answer, cz1])) dX6_answer_17
set_option maxHeartbeats 4000000 in
set_option maxRecDepth 100000 in
theorem c6_reasons (l : Launch) (G : mG) {f : mE} {o : Nat} {a : Nat → Nat} {S P lo hi ou : Nat → Int32} {rc isr wd us ab gi wr wo : Int32} (hI : RI G f o a S P lo hi ou rc isr wd us ab gi wr wo) {n : Nat} (hn : S 56 = nI n) (hn16 : n ≤ 16) (r : Int32) : mC l G yX6_reasons wsX6_reasons ({ frames := 4, cells := 0, slots := 0, locals := 92 } : Room) f [.ref o, .int r] (fun v f1 => v = some (.int (a6_reasons S wo n r)) ∧ f = f1) 0 0 := by
  refine mC.of (cc := cX6_reasons) (maxL := 4) (ret := (some .int)) (by decide) rfl (Nat.le_of_ble_eq_true rfl) ?_
  intro pgm env s mt args below meth c A ls hx hb hml hr hlocks hown hname hts hK hE hA hM hl
  have hl : lv_has ls 4 [(0, .ref o), (1, .int r)] := hl
  refine lv_iload_n hx hb dX6_reasons_0 rfl (lv_at hl 1 rfl) ?_
  refine mm_S (As := [.int r]) (rest := []) ⟨hx, hb, hml, hown, hts⟩ (c6_isResult l G _ r) (va_cwS 1 hts gX6_reasons_X6_isResult rfl rfl rfl (by decide +kernel) ⟨Nat.le_of_ble_eq_true rfl, Nat.le_of_ble_eq_true rfl⟩) hK hE hA hM rfl hl.1 rfl (Nat.le_of_ble_eq_true rfl) dX6_reasons_1 ⟨Nat.le_of_ble_eq_true rfl, Nat.le_of_ble_eq_true rfl⟩ (fun v f1 Hp lcs hp hM => ?_)
  obtain ⟨rfl, hf⟩ := hp; subst hf
  refine lvb_ne (tgt := 10) hx hb dX6_reasons_4 (by decide) (fun cz1 => ?_) (fun cz1 => ?_)
  · refine lv_iconst (v := (nI 0)) hx hb dX6_reasons_10 (by decide +kernel) ?_
    refine lv_istore_n (lv' := [(2, .int (nI 0)), (0, .ref o), (1, .int r)]) hx hb dX6_reasons_11 rfl hl (by decide) rfl (fun ls hl => ?_)
    refine lv_iconst (v := (nI 0)) hx hb dX6_reasons_12 (by decide +kernel) ?_
    refine lv_istore_n (lv' := [(3, .int (nI 0)), (2, .int (nI 0)), (0, .ref o), (1, .int r)]) hx hb dX6_reasons_13 rfl hl (by decide) rfl (fun ls hl => ?_)
    have loopZ : ∀ (fuel : Nat) (i : Nat) (aw : Nat) (Hp : Heap) (lcs : List Loc) (ls : Array Slot) (hiN : i ≤ n) (hr0 : aw = cntN (fun k => reaB S wo n k r) i) (hfu : n - i < fuel) (hM : mM G A s.heap f Hp lcs) (hl : lv_has ls 4 [(0, .ref o), (1, .int r), (2, .int (nI aw)), (3, .int (nI i))]), W pgm l env ({ frames := 4, cells := 0, slots := 0, locals := 92 } : Room) s mt args below meth c Hp lcs 0 0 (MQ below (mQc G A (fun v f1 => v = some (.int (a6_reasons S wo n r)) ∧ f = f1)) args s 0 0 A) (F0 mt 14 ls []) := by
      intro fuel
      induction fuel with
      | zero => intro i aw Hp lcs ls hiN hr0 hfu; exact absurd hfu (Nat.not_lt_zero _)
      | succ fuel ih =>
        intro i aw Hp lcs ls hiN hr0 hfu hM hl
        subst hr0
        refine lv_iload_n hx hb dX6_reasons_14 rfl (lv_at hl 3 rfl) ?_
        refine lv_aload_n hx hb dX6_reasons_15 rfl (lv_at hl 0 rfl) ?_
        refine mm_get (C := RX6) (T := TX6) (N := 14) (k := 0) hx hb hts (fun _ h => List.mem_cons_of_mem _ (List.mem_append_right _ h)) hown hK hM (hI.obj) rfl (by decide) (hts (.fieldLink RX6 7 "SentenceRulesModel" "now" "[I") (List.mem_of_getElem? (i := 2) rfl)) rfl rfl dX6_reasons_16 ?_
        refine lv_bipush (v := (nI 56)) hx hb dX6_reasons_19 (by decide +kernel) ?_
        refine mn_iald hx hb hK hM (hI.now) 56 (by omega) (by decide) dX6_reasons_21 ?_
        refine mv_top hn ?_
        refine ln_icmp_ge i n (by omega) (by omega) (tgt := 48) hx hb dX6_reasons_22 (by decide) (fun cz2 => ?_) (fun cz2 => ?_)
        · refine lv_iload_n hx hb dX6_reasons_48 rfl (lv_at hl 2 rfl) ?_
          exact mm_iret hx hb hlocks hr (Nat.le_of_ble_eq_true rfl) (Nat.le_of_ble_eq_true rfl) hM (ret_v (by have hz : i = n := (by omega); subst hz; simp [a6_reasons, cz1])) dX6_reasons_49
        refine lv_iload_n hx hb dX6_reasons_25 rfl (lv_at hl 2 rfl) ?_
        refine lv_aload_n hx hb dX6_reasons_26 rfl (lv_at hl 0 rfl) ?_
        refine lv_iload_n hx hb dX6_reasons_27 rfl (lv_at hl 3 rfl) ?_
        refine lv_iload_n hx hb dX6_reasons_28 rfl (lv_at hl 1 rfl) ?_
        refine mm_V (As := [.int (nI i), .int r]) (rest := [.int (nI (cntN (fun k => reaB S wo n k r) i))]) ⟨hx, hb, hml, hown, hts⟩ (c6_isReason l G hI hn hn16 i (by omega) r) (cwV 2 hts gX6_reasons_X6_isReason rfl rfl rfl (by decide +kernel) ⟨Nat.le_of_ble_eq_true rfl, Nat.le_of_ble_eq_true rfl⟩) hK hE hA hM (mm_recv hK hM (hI.obj) (q := (RX6, TX6, 14)) rfl) rfl hl.1 rfl (Nat.le_of_ble_eq_true rfl) dX6_reasons_29 ⟨Nat.le_of_ble_eq_true rfl, Nat.le_of_ble_eq_true rfl⟩ (fun v f1 Hp lcs hp hM => ?_)
        obtain ⟨rfl, hf⟩ := hp; subst hf
        refine lvb_eq (tgt := 39) hx hb dX6_reasons_32 (by decide) (fun cz3 => ?_) (fun cz3 => ?_)
        · refine lv_iconst (v := (nI 0)) hx hb dX6_reasons_39 (by decide +kernel) ?_
          refine ln_iadd (cntN (fun k => reaB S wo n k r) i) 0 hx hb dX6_reasons_40 ?_
          refine lv_istore_n (lv' := [(2, .int (nI ((cntN (fun k => reaB S wo n k r) i) + 0))), (0, .ref o), (1, .int r), (3, .int (nI i))]) hx hb dX6_reasons_41 rfl hl (by decide) rfl (fun ls hl => ?_)
          refine lv_iinc (v := (nI (i + 1))) (lv' := [(3, .int (nI (i + 1))), (2, .int (nI ((cntN (fun k => reaB S wo n k r) i) + 0))), (0, .ref o), (1, .int r)]) hx hb dX6_reasons_42 hl (k := 3) rfl (nI_add _ _) (by decide) rfl (fun ls hl => ?_)
          refine lv_goto (tgt := 14) hx hb dX6_reasons_45 (by decide) ?_
          exact ih (i + 1) _ _ _ ls (by omega) (by simp [cntN, cz2, cz3]) (by omega) hM (lv_sub hl [2, 3, 1, 0] rfl)
        refine lv_iconst (v := (nI 1)) hx hb dX6_reasons_35 (by decide +kernel) ?_
        refine lv_goto (tgt := 40) hx hb dX6_reasons_36 (by decide) ?_
        refine ln_iadd (cntN (fun k => reaB S wo n k r) i) 1 hx hb dX6_reasons_40 ?_
        refine lv_istore_n (lv' := [(2, .int (nI ((cntN (fun k => reaB S wo n k r) i) + 1))), (0, .ref o), (1, .int r), (3, .int (nI i))]) hx hb dX6_reasons_41 rfl hl (by decide) rfl (fun ls hl => ?_)
        refine lv_iinc (v := (nI (i + 1))) (lv' := [(3, .int (nI (i + 1))), (2, .int (nI ((cntN (fun k => reaB S wo n k r) i) + 1))), (0, .ref o), (1, .int r)]) hx hb dX6_reasons_42 hl (k := 3) rfl (nI_add _ _) (by decide) rfl (fun ls hl => ?_)
        refine lv_goto (tgt := 14) hx hb dX6_reasons_45 (by decide) ?_
        exact ih (i + 1) _ _ _ ls (by omega) (by simp [cntN, cz2, cz3]) (by omega) hM (lv_sub hl [2, 3, 1, 0] rfl)
    exact loopZ (n + 1) 0 0 _ _ ls (Nat.zero_le _) rfl (by omega) hM (lv_sub hl [2, 3, 1, 0] rfl)
  refine lv_ldc (v := (-100002)) hx hb hown (hts (.constant RX6 64 (-100002)) (List.mem_of_getElem? (i := 1) rfl)) dX6_reasons_7 ?_
  exact mm_iret hx hb hlocks hr (Nat.le_of_ble_eq_true rfl) (Nat.le_of_ble_eq_true rfl) hM (ret_v (by simp [a6_reasons, cz1])) dX6_reasons_9
set_option maxHeartbeats 4000000 in
set_option maxRecDepth 100000 in
theorem c6_overridden (l : Launch) (G : mG) {f : mE} {o : Nat} {a : Nat → Nat} {S P lo hi ou : Nat → Int32} {rc isr wd us ab gi wr wo : Int32} (hI : RI G f o a S P lo hi ou rc isr wd us ab gi wr wo) {n : Nat} (hn : S 56 = nI n) (hn16 : n ≤ 16) (r : Int32) : mC l G yX6_overridden wsX6_overridden ({ frames := 4, cells := 0, slots := 0, locals := 92 } : Room) f [.ref o, .int r] (fun v f1 => v = some (.int (a6_overridden S wo n r)) ∧ f = f1) 0 0 := by
  refine mC.of (cc := cX6_overridden) (maxL := 4) (ret := (some .int)) (by decide) rfl (Nat.le_of_ble_eq_true rfl) ?_
  intro pgm env s mt args below meth c A ls hx hb hml hr hlocks hown hname hts hK hE hA hM hl
  have hl : lv_has ls 4 [(0, .ref o), (1, .int r)] := hl
  refine lv_iload_n hx hb dX6_overridden_0 rfl (lv_at hl 1 rfl) ?_
  refine mm_S (As := [.int r]) (rest := []) ⟨hx, hb, hml, hown, hts⟩ (c6_isResult l G _ r) (va_cwS 1 hts gX6_overridden_X6_isResult rfl rfl rfl (by decide +kernel) ⟨Nat.le_of_ble_eq_true rfl, Nat.le_of_ble_eq_true rfl⟩) hK hE hA hM rfl hl.1 rfl (Nat.le_of_ble_eq_true rfl) dX6_overridden_1 ⟨Nat.le_of_ble_eq_true rfl, Nat.le_of_ble_eq_true rfl⟩ (fun v f1 Hp lcs hp hM => ?_)
  obtain ⟨rfl, hf⟩ := hp; subst hf
  refine lvb_ne (tgt := 10) hx hb dX6_overridden_4 (by decide) (fun cz1 => ?_) (fun cz1 => ?_)
  · refine lv_iconst (v := (nI 0)) hx hb dX6_overridden_10 (by decide +kernel) ?_
    refine lv_istore_n (lv' := [(2, .int (nI 0)), (0, .ref o), (1, .int r)]) hx hb dX6_overridden_11 rfl hl (by decide) rfl (fun ls hl => ?_)
    refine lv_iconst (v := (nI 0)) hx hb dX6_overridden_12 (by decide +kernel) ?_
    refine lv_istore_n (lv' := [(3, .int (nI 0)), (2, .int (nI 0)), (0, .ref o), (1, .int r)]) hx hb dX6_overridden_13 rfl hl (by decide) rfl (fun ls hl => ?_)
    have loopZ : ∀ (fuel : Nat) (i : Nat) (aw : Nat) (Hp : Heap) (lcs : List Loc) (ls : Array Slot) (hiN : i ≤ n) (hr0 : aw = cntN (fun k => appB S wo k r && !reaB S wo n k r) i) (hfu : n - i < fuel) (hM : mM G A s.heap f Hp lcs) (hl : lv_has ls 4 [(0, .ref o), (1, .int r), (2, .int (nI aw)), (3, .int (nI i))]), W pgm l env ({ frames := 4, cells := 0, slots := 0, locals := 92 } : Room) s mt args below meth c Hp lcs 0 0 (MQ below (mQc G A (fun v f1 => v = some (.int (a6_overridden S wo n r)) ∧ f = f1)) args s 0 0 A) (F0 mt 14 ls []) := by
      intro fuel
      induction fuel with
      | zero => intro i aw Hp lcs ls hiN hr0 hfu; exact absurd hfu (Nat.not_lt_zero _)
      | succ fuel ih =>
        intro i aw Hp lcs ls hiN hr0 hfu hM hl
        subst hr0
        refine lv_iload_n hx hb dX6_overridden_14 rfl (lv_at hl 3 rfl) ?_
        refine lv_aload_n hx hb dX6_overridden_15 rfl (lv_at hl 0 rfl) ?_
        refine mm_get (C := RX6) (T := TX6) (N := 14) (k := 0) hx hb hts (fun _ h => List.mem_cons_of_mem _ (List.mem_append_right _ h)) hown hK hM (hI.obj) rfl (by decide) (hts (.fieldLink RX6 7 "SentenceRulesModel" "now" "[I") (List.mem_of_getElem? (i := 2) rfl)) rfl rfl dX6_overridden_16 ?_
        refine lv_bipush (v := (nI 56)) hx hb dX6_overridden_19 (by decide +kernel) ?_
        refine mn_iald hx hb hK hM (hI.now) 56 (by omega) (by decide) dX6_overridden_21 ?_
        refine mv_top hn ?_
        refine ln_icmp_ge i n (by omega) (by omega) (tgt := 57) hx hb dX6_overridden_22 (by decide) (fun cz2 => ?_) (fun cz2 => ?_)
        · refine lv_iload_n hx hb dX6_overridden_57 rfl (lv_at hl 2 rfl) ?_
          exact mm_iret hx hb hlocks hr (Nat.le_of_ble_eq_true rfl) (Nat.le_of_ble_eq_true rfl) hM (ret_v (by have hz : i = n := (by omega); subst hz; simp [a6_overridden, cz1])) dX6_overridden_58
        refine lv_iload_n hx hb dX6_overridden_25 rfl (lv_at hl 2 rfl) ?_
        refine lv_aload_n hx hb dX6_overridden_26 rfl (lv_at hl 0 rfl) ?_
        refine lv_iload_n hx hb dX6_overridden_27 rfl (lv_at hl 3 rfl) ?_
        refine lv_iload_n hx hb dX6_overridden_28 rfl (lv_at hl 1 rfl) ?_
        refine mm_V (As := [.int (nI i), .int r]) (rest := [.int (nI (cntN (fun k => appB S wo k r && !reaB S wo n k r) i))]) ⟨hx, hb, hml, hown, hts⟩ (c6_applies l G hI i (by omega) r) (cwV 2 hts gX6_overridden_X6_applies rfl rfl rfl (by decide +kernel) ⟨Nat.le_of_ble_eq_true rfl, Nat.le_of_ble_eq_true rfl⟩) hK hE hA hM (mm_recv hK hM (hI.obj) (q := (RX6, TX6, 14)) rfl) rfl hl.1 rfl (Nat.le_of_ble_eq_true rfl) dX6_overridden_29 ⟨Nat.le_of_ble_eq_true rfl, Nat.le_of_ble_eq_true rfl⟩ (fun v f1 Hp lcs hp hM => ?_)
        obtain ⟨rfl, hf⟩ := hp; subst hf
        refine lvb_eq (tgt := 48) hx hb dX6_overridden_32 (by decide) (fun cz3 => ?_) (fun cz3 => ?_)
        · refine lv_iconst (v := (nI 0)) hx hb dX6_overridden_48 (by decide +kernel) ?_
          refine ln_iadd (cntN (fun k => appB S wo k r && !reaB S wo n k r) i) 0 hx hb dX6_overridden_49 ?_
          refine lv_istore_n (lv' := [(2, .int (nI ((cntN (fun k => appB S wo k r && !reaB S wo n k r) i) + 0))), (0, .ref o), (1, .int r), (3, .int (nI i))]) hx hb dX6_overridden_50 rfl hl (by decide) rfl (fun ls hl => ?_)
          refine lv_iinc (v := (nI (i + 1))) (lv' := [(3, .int (nI (i + 1))), (2, .int (nI ((cntN (fun k => appB S wo k r && !reaB S wo n k r) i) + 0))), (0, .ref o), (1, .int r)]) hx hb dX6_overridden_51 hl (k := 3) rfl (nI_add _ _) (by decide) rfl (fun ls hl => ?_)
          refine lv_goto (tgt := 14) hx hb dX6_overridden_54 (by decide) ?_
          exact ih (i + 1) _ _ _ ls (by omega) (by simp [cntN, cz2, cz3]) (by omega) hM (lv_sub hl [2, 3, 1, 0] rfl)
        refine lv_aload_n hx hb dX6_overridden_35 rfl (lv_at hl 0 rfl) ?_
        refine lv_iload_n hx hb dX6_overridden_36 rfl (lv_at hl 3 rfl) ?_
        refine lv_iload_n hx hb dX6_overridden_37 rfl (lv_at hl 1 rfl) ?_
        refine mm_V (As := [.int (nI i), .int r]) (rest := [.int (nI (cntN (fun k => appB S wo k r && !reaB S wo n k r) i))]) ⟨hx, hb, hml, hown, hts⟩ (c6_isReason l G hI hn hn16 i (by omega) r) (cwV 2 hts gX6_overridden_X6_isReason rfl rfl rfl (by decide +kernel) ⟨Nat.le_of_ble_eq_true rfl, Nat.le_of_ble_eq_true rfl⟩) hK hE hA hM (mm_recv hK hM (hI.obj) (q := (RX6, TX6, 14)) rfl) rfl hl.1 rfl (Nat.le_of_ble_eq_true rfl) dX6_overridden_38 ⟨Nat.le_of_ble_eq_true rfl, Nat.le_of_ble_eq_true rfl⟩ (fun v f1 Hp lcs hp hM => ?_)
        obtain ⟨rfl, hf⟩ := hp; subst hf
        refine lvb_ne (tgt := 48) hx hb dX6_overridden_41 (by decide) (fun cz4 => ?_) (fun cz4 => ?_)
        · refine lv_iconst (v := (nI 0)) hx hb dX6_overridden_48 (by decide +kernel) ?_
          refine ln_iadd (cntN (fun k => appB S wo k r && !reaB S wo n k r) i) 0 hx hb dX6_overridden_49 ?_
          refine lv_istore_n (lv' := [(2, .int (nI ((cntN (fun k => appB S wo k r && !reaB S wo n k r) i) + 0))), (0, .ref o), (1, .int r), (3, .int (nI i))]) hx hb dX6_overridden_50 rfl hl (by decide) rfl (fun ls hl => ?_)
          refine lv_iinc (v := (nI (i + 1))) (lv' := [(3, .int (nI (i + 1))), (2, .int (nI ((cntN (fun k => appB S wo k r && !reaB S wo n k r) i) + 0))), (0, .ref o), (1, .int r)]) hx hb dX6_overridden_51 hl (k := 3) rfl (nI_add _ _) (by decide) rfl (fun ls hl => ?_)
          refine lv_goto (tgt := 14) hx hb dX6_overridden_54 (by decide) ?_
          exact ih (i + 1) _ _ _ ls (by omega) (by simp [cntN, cz2, cz3, cz4]) (by omega) hM (lv_sub hl [2, 3, 1, 0] rfl)
        refine lv_iconst (v := (nI 1)) hx hb dX6_overridden_44 (by decide +kernel) ?_
        refine lv_goto (tgt := 49) hx hb dX6_overridden_45 (by decide) ?_
        refine ln_iadd (cntN (fun k => appB S wo k r && !reaB S wo n k r) i) 1 hx hb dX6_overridden_49 ?_
        refine lv_istore_n (lv' := [(2, .int (nI ((cntN (fun k => appB S wo k r && !reaB S wo n k r) i) + 1))), (0, .ref o), (1, .int r), (3, .int (nI i))]) hx hb dX6_overridden_50 rfl hl (by decide) rfl (fun ls hl => ?_)
        refine lv_iinc (v := (nI (i + 1))) (lv' := [(3, .int (nI (i + 1))), (2, .int (nI ((cntN (fun k => appB S wo k r && !reaB S wo n k r) i) + 1))), (0, .ref o), (1, .int r)]) hx hb dX6_overridden_51 hl (k := 3) rfl (nI_add _ _) (by decide) rfl (fun ls hl => ?_)
        refine lv_goto (tgt := 14) hx hb dX6_overridden_54 (by decide) ?_
        exact ih (i + 1) _ _ _ ls (by omega) (by simp [cntN, cz2, cz3, cz4]) (by omega) hM (lv_sub hl [2, 3, 1, 0] rfl)
    exact loopZ (n + 1) 0 0 _ _ ls (Nat.zero_le _) rfl (by omega) hM (lv_sub hl [2, 3, 1, 0] rfl)
  refine lv_ldc (v := (-100002)) hx hb hown (hts (.constant RX6 64 (-100002)) (List.mem_of_getElem? (i := 1) rfl)) dX6_overridden_7 ?_
  exact mm_iret hx hb hlocks hr (Nat.le_of_ble_eq_true rfl) (Nat.le_of_ble_eq_true rfl) hM (ret_v (by simp [a6_overridden, cz1])) dX6_overridden_9
set_option maxHeartbeats 4000000 in
set_option maxRecDepth 100000 in
theorem c6_holds (l : Launch) (G : mG) {f : mE} {o : Nat} {a : Nat → Nat} {S P lo hi ou : Nat → Int32} {rc isr wd us ab gi wr wo : Int32} (hI : RI G f o a S P lo hi ou rc isr wd us ab gi wr wo) {n : Nat} (hn : S 56 = nI n) (hn16 : n ≤ 16) (w : Int32) : mC l G yX6_holds wsX6_holds ({ frames := 2, cells := 0, slots := 0, locals := 45 } : Room) f [.ref o, .int w] (fun v f1 => v = some (.int (a6_holds S n w)) ∧ f = f1) 0 0 := by
  refine mC.of (cc := cX6_holds) (maxL := 3) (ret := (some .int)) (by decide) rfl (Nat.le_of_ble_eq_true rfl) ?_
  intro pgm env s mt args below meth c A ls hx hb hml hr hlocks hown hname hts hK hE hA hM hl
  have hl : lv_has ls 3 [(0, .ref o), (1, .int w)] := hl
  refine lv_iload_n hx hb dX6_holds_0 rfl (lv_at hl 1 rfl) ?_
  refine lv_iconst (v := (nI 0)) hx hb dX6_holds_1 (by decide +kernel) ?_
  refine lv_iconst (v := (nI 5)) hx hb dX6_holds_2 (by decide +kernel) ?_
  refine mm_S (As := [.int w, .int (nI 0), .int (nI 5)]) (rest := []) ⟨hx, hb, hml, hown, hts⟩ (c6_in l G _ w (nI 0) (nI 5)) (va_cwS 3 hts gX6_holds_X6_in rfl rfl rfl (by decide +kernel) ⟨Nat.le_of_ble_eq_true rfl, Nat.le_of_ble_eq_true rfl⟩) hK hE hA hM rfl hl.1 rfl (Nat.le_of_ble_eq_true rfl) dX6_holds_3 ⟨Nat.le_of_ble_eq_true rfl, Nat.le_of_ble_eq_true rfl⟩ (fun v f1 Hp lcs hp hM => ?_)
  obtain ⟨rfl, hf⟩ := hp; subst hf
  refine mv_top (y := (bI (inB w 0 5))) rfl ?_
  refine lvb_ne (tgt := 12) hx hb dX6_holds_6 (by decide) (fun cz1 => ?_) (fun cz1 => ?_)
  · refine lv_aload_n hx hb dX6_holds_12 rfl (lv_at hl 0 rfl) ?_
    refine lv_iload_n hx hb dX6_holds_13 rfl (lv_at hl 1 rfl) ?_
    refine mm_V (As := [.int w]) (rest := []) ⟨hx, hb, hml, hown, hts⟩ (c6_definitionOf l G hI hn hn16 w) (cwV 1 hts gX6_holds_X6_definitionOf rfl rfl rfl (by decide +kernel) ⟨Nat.le_of_ble_eq_true rfl, Nat.le_of_ble_eq_true rfl⟩) hK hE hA hM (mm_recv hK hM (hI.obj) (q := (RX6, TX6, 14)) rfl) rfl hl.1 rfl (Nat.le_of_ble_eq_true rfl) dX6_holds_14 ⟨Nat.le_of_ble_eq_true rfl, Nat.le_of_ble_eq_true rfl⟩ (fun v f1 Hp lcs hp hM => ?_)
    obtain ⟨rfl, hf⟩ := hp; subst hf
    refine lv_istore_n (lv' := [(2, .int (defI S n w)), (0, .ref o), (1, .int w)]) hx hb dX6_holds_17 rfl hl (by decide) rfl (fun ls hl => ?_)
    by_cases hd : firN (defQ S w) n < n
    · have hdv : defI S n w = nI (firN (defQ S w) n) := if_pos hd
      rw [hdv] at hl
      refine lv_iload_n hx hb dX6_holds_18 rfl (lv_at hl 0 rfl) ?_
      refine lv_if_ge (tgt := 27) hx hb dX6_holds_19 (by decide) (fun cz2 => ?_) (fun cz2 => absurd (nI_pos' (by omega)) cz2)
      refine lv_aload_n hx hb dX6_holds_27 rfl (lv_at hl 1 rfl) ?_
      refine lv_iload_n hx hb dX6_holds_28 rfl (lv_at hl 0 rfl) ?_
      refine mm_V (As := [.int (nI (firN (defQ S w) n))]) (rest := []) ⟨hx, hb, hml, hown, hts⟩ (c6_contains l G hI (firN (defQ S w) n) (by omega)) (cwV 1 hts gX6_holds_X6_contains rfl rfl rfl (by decide +kernel) ⟨Nat.le_of_ble_eq_true rfl, Nat.le_of_ble_eq_true rfl⟩) hK hE hA hM (mm_recv hK hM (hI.obj) (q := (RX6, TX6, 14)) rfl) rfl hl.1 rfl (Nat.le_of_ble_eq_true rfl) dX6_holds_29 ⟨Nat.le_of_ble_eq_true rfl, Nat.le_of_ble_eq_true rfl⟩ (fun v f1 Hp lcs hp hM => ?_)
      obtain ⟨rfl, hf⟩ := hp; subst hf
      refine lvb_eq (tgt := 39) hx hb dX6_holds_32 (by decide) (fun cz3 => ?_) (fun cz3 => ?_)
      · refine lv_iconst (v := (nI 0)) hx hb dX6_holds_39 (by decide +kernel) ?_
        exact mm_iret hx hb hlocks hr (Nat.le_of_ble_eq_true rfl) (Nat.le_of_ble_eq_true rfl) hM (ret_v (by simp [a6_holds, bI, nI_lit, cz1, hd, hdv, cz3])) dX6_holds_40
      refine lv_iconst (v := (nI 1)) hx hb dX6_holds_35 (by decide +kernel) ?_
      refine lv_goto (tgt := 40) hx hb dX6_holds_36 (by decide) ?_
      exact mm_iret hx hb hlocks hr (Nat.le_of_ble_eq_true rfl) (Nat.le_of_ble_eq_true rfl) hM (ret_v (by simp [a6_holds, bI, nI_lit, cz1, hd, hdv, cz3])) dX6_holds_40
    have hdv : defI S n w = -100005 := if_neg hd
    rw [hdv] at hl
    refine lv_iload_n hx hb dX6_holds_18 rfl (lv_at hl 0 rfl) ?_
    refine lv_if_ge (tgt := 27) hx hb dX6_holds_19 (by decide) (fun cz4 => absurd cz4 (by decide)) (fun cz4 => ?_)
    refine lv_ldc (v := (-100005)) hx hb hown (hts (.constant RX6 28 (-100005)) (List.mem_of_getElem? (i := 2) rfl)) dX6_holds_22 ?_
    refine lv_goto (tgt := 40) hx hb dX6_holds_24 (by decide) ?_
    exact mm_iret hx hb hlocks hr (Nat.le_of_ble_eq_true rfl) (Nat.le_of_ble_eq_true rfl) hM (ret_v (by simp [a6_holds, bI, nI_lit, cz1, hd, hdv])) dX6_holds_40
  refine lv_ldc (v := (-100002)) hx hb hown (hts (.constant RX6 64 (-100002)) (List.mem_of_getElem? (i := 1) rfl)) dX6_holds_9 ?_
  exact mm_iret hx hb hlocks hr (Nat.le_of_ble_eq_true rfl) (Nat.le_of_ble_eq_true rfl) hM (ret_v (by simp [a6_holds, bI, nI_lit, cz1])) dX6_holds_11
set_option maxHeartbeats 4000000 in
set_option maxRecDepth 100000 in
theorem c6_reason (l : Launch) (G : mG) {f : mE} {o : Nat} {a : Nat → Nat} {S P lo hi ou : Nat → Int32} {rc isr wd us ab gi wr wo : Int32} (hI : RI G f o a S P lo hi ou rc isr wd us ab gi wr wo) {n : Nat} (hn : S 56 = nI n) (hn16 : n ≤ 16) (r x : Int32) : mC l G yX6_reason wsX6_reason ({ frames := 4, cells := 0, slots := 0, locals := 92 } : Room) f [.ref o, .int r, .int x] (fun v f1 => v = some (.int (a6_reason S wo n r x)) ∧ f = f1) 0 0 := by
  refine mC.of (cc := cX6_reason) (maxL := 7) (ret := (some .int)) (by decide) rfl (Nat.le_of_ble_eq_true rfl) ?_
  intro pgm env s mt args below meth c A ls hx hb hml hr hlocks hown hname hts hK hE hA hM hl
  have hl : lv_has ls 7 [(0, .ref o), (1, .int r), (2, .int x)] := hl
  refine lv_iload_n hx hb dX6_reason_0 rfl (lv_at hl 1 rfl) ?_
  refine mm_S (As := [.int r]) (rest := []) ⟨hx, hb, hml, hown, hts⟩ (c6_isResult l G _ r) (va_cwS 1 hts gX6_reason_X6_isResult rfl rfl rfl (by decide +kernel) ⟨Nat.le_of_ble_eq_true rfl, Nat.le_of_ble_eq_true rfl⟩) hK hE hA hM rfl hl.1 rfl (Nat.le_of_ble_eq_true rfl) dX6_reason_1 ⟨Nat.le_of_ble_eq_true rfl, Nat.le_of_ble_eq_true rfl⟩ (fun v f1 Hp lcs hp hM => ?_)
  obtain ⟨rfl, hf⟩ := hp; subst hf
  refine lvb_eq (tgt := 11) hx hb dX6_reason_4 (by decide) (fun cz1 => ?_) (fun cz1 => ?_)
  · refine lv_ldc (v := (-100002)) hx hb hown (hts (.constant RX6 64 (-100002)) (List.mem_of_getElem? (i := 1) rfl)) dX6_reason_11 ?_
    exact mm_iret hx hb hlocks hr (Nat.le_of_ble_eq_true rfl) (Nat.le_of_ble_eq_true rfl) hM (ret_v (a6_reason_bad cz1)) dX6_reason_13
  refine lv_iload_n hx hb dX6_reason_7 rfl (lv_at hl 2 rfl) ?_
  refine lv_if_ge (tgt := 14) hx hb dX6_reason_8 (by decide) (fun cz2 => ?_) (fun cz2 => ?_)
  · have hrN := cz1
    have hxN := cz2
    refine lv_iconst (v := (nI 0)) hx hb dX6_reason_14 (by decide +kernel) ?_
    refine lv_istore_n (lv' := [(3, .int (nI 0)), (0, .ref o), (1, .int r), (2, .int x)]) hx hb dX6_reason_15 rfl hl (by decide) rfl (fun ls hl => ?_)
    have loopY : ∀ (fuel : Nat) (k : Nat) (Hp : Heap) (lcs : List Loc) (ls : Array Slot) (hkn : k ≤ n) (hall : ∀ j, j < k → reasQ S wo n r x j = false) (hfu : n - k < fuel) (hM : mM G A s.heap f Hp lcs) (hl : lv_has ls 7 [(0, .ref o), (1, .int r), (2, .int x), (3, .int (nI k))]), W pgm l env ({ frames := 4, cells := 0, slots := 0, locals := 92 } : Room) s mt args below meth c Hp lcs 0 0 (MQ below (mQc G A (fun v f1 => v = some (.int (a6_reason S wo n r x)) ∧ f = f1)) args s 0 0 A) (F0 mt 16 ls []) := by
      intro fuel
      induction fuel with
      | zero => intro k Hp lcs ls hkn hall hfu; exact absurd hfu (Nat.not_lt_zero _)
      | succ fuel ih =>
        intro k Hp lcs ls hkn hall hfu hM hl
        refine lv_iload_n hx hb dX6_reason_16 rfl (lv_at hl 3 rfl) ?_
        refine lv_aload_n hx hb dX6_reason_17 rfl (lv_at hl 0 rfl) ?_
        refine mm_get (C := RX6) (T := TX6) (N := 14) (k := 0) hx hb hts (fun _ h => List.mem_cons_of_mem _ (List.mem_append_right _ h)) hown hK hM (hI.obj) rfl (by decide) (hts (.fieldLink RX6 7 "SentenceRulesModel" "now" "[I") (List.mem_of_getElem? (i := 2) rfl)) rfl rfl dX6_reason_18 ?_
        refine lv_bipush (v := (nI 56)) hx hb dX6_reason_21 (by decide +kernel) ?_
        refine mn_iald hx hb hK hM (hI.now) 56 (by omega) (by decide) dX6_reason_23 ?_
        refine mv_top hn ?_
        refine ln_icmp_ge k n (by omega) (by omega) (tgt := 140) hx hb dX6_reason_24 (by decide) (fun cz3 => ?_) (fun cz3 => ?_)
        · refine lv_ldc (v := (-100005)) hx hb hown (hts (.constant RX6 28 (-100005)) (List.mem_of_getElem? (i := 3) rfl)) dX6_reason_140 ?_
          exact mm_iret hx hb hlocks hr (Nat.le_of_ble_eq_true rfl) (Nat.le_of_ble_eq_true rfl) hM (ret_v (by have hz : k = n := (by omega); subst hz; exact a6_reason_none hrN hxN hall)) dX6_reason_142
        refine lv_aload_n hx hb dX6_reason_27 rfl (lv_at hl 0 rfl) ?_
        refine lv_iload_n hx hb dX6_reason_28 rfl (lv_at hl 3 rfl) ?_
        refine lv_iload_n hx hb dX6_reason_29 rfl (lv_at hl 1 rfl) ?_
        refine mm_V (As := [.int (nI k), .int r]) (rest := []) ⟨hx, hb, hml, hown, hts⟩ (c6_isReason l G hI hn hn16 k (by omega) r) (cwV 2 hts gX6_reason_X6_isReason rfl rfl rfl (by decide +kernel) ⟨Nat.le_of_ble_eq_true rfl, Nat.le_of_ble_eq_true rfl⟩) hK hE hA hM (mm_recv hK hM (hI.obj) (q := (RX6, TX6, 14)) rfl) rfl hl.1 rfl (Nat.le_of_ble_eq_true rfl) dX6_reason_30 ⟨Nat.le_of_ble_eq_true rfl, Nat.le_of_ble_eq_true rfl⟩ (fun v f1 Hp lcs hp hM => ?_)
        obtain ⟨rfl, hf⟩ := hp; subst hf
        refine lvb_eq (tgt := 134) hx hb dX6_reason_33 (by decide) (fun cz4 => ?_) (fun cz4 => ?_)
        · refine lv_iinc (v := (nI (k + 1))) (lv' := [(3, .int (nI (k + 1))), (0, .ref o), (1, .int r), (2, .int x)]) hx hb dX6_reason_134 hl (k := 3) rfl (nI_add _ _) (by decide) rfl (fun ls hl => ?_)
          refine lv_goto (tgt := 16) hx hb dX6_reason_137 (by decide) ?_
          exact ih (k + 1) _ _ ls (by omega) (fun j hj => (Nat.lt_succ_iff_lt_or_eq.mp hj).elim (hall j) (fun z => by subst z; exact reasQ_no cz4)) (by omega) hM (lv_sub hl [1, 2, 3, 0] rfl)
        have hrk := cz4
        have hcz : k < n := by omega
        refine lv_iconst (v := (nI 0)) hx hb dX6_reason_36 (by decide +kernel) ?_
        refine lv_istore (lv' := [(4, .int (nI 0)), (0, .ref o), (1, .int r), (2, .int x), (3, .int (nI k))]) hx hb dX6_reason_37 hl (by decide) rfl (fun ls hl => ?_)
        refine lv_iconst (v := (nI 0)) hx hb dX6_reason_39 (by decide +kernel) ?_
        refine lv_istore (lv' := [(5, .int (nI 0)), (4, .int (nI 0)), (0, .ref o), (1, .int r), (2, .int x), (3, .int (nI k))]) hx hb dX6_reason_40 hl (by decide) rfl (fun ls hl => ?_)
        have loopZ : ∀ (fuelB : Nat) (i : Nat) (aw : Int32) (Hp : Heap) (lcs : List Loc) (ls : Array Slot) (hiN : i ≤ n) (hr0 : aw = nI (cntN (aheQ S wo n k r) i)) (hfuB : n - i < fuelB) (hM : mM G A s.heap f Hp lcs) (hl : lv_has ls 7 [(0, .ref o), (1, .int r), (2, .int x), (3, .int (nI k)), (4, .int aw), (5, .int (nI i))]), W pgm l env ({ frames := 4, cells := 0, slots := 0, locals := 92 } : Room) s mt args below meth c Hp lcs 0 0 (MQ below (mQc G A (fun v f1 => v = some (.int (a6_reason S wo n r x)) ∧ f = f1)) args s 0 0 A) (F0 mt 42 ls []) := by
          intro fuelB
          induction fuelB with
          | zero => intro i aw Hp lcs ls hiN hr0 hfuB; exact absurd hfuB (Nat.not_lt_zero _)
          | succ fuelB ihB =>
            intro i aw Hp lcs ls hiN hr0 hfuB hM hl
            subst hr0
            refine lv_iload hx hb dX6_reason_42 (lv_at hl 5 rfl) ?_
            refine lv_aload_n hx hb dX6_reason_44 rfl (lv_at hl 0 rfl) ?_
            refine mm_get (C := RX6) (T := TX6) (N := 14) (k := 0) hx hb hts (fun _ h => List.mem_cons_of_mem _ (List.mem_append_right _ h)) hown hK hM (hI.obj) rfl (by decide) (hts (.fieldLink RX6 7 "SentenceRulesModel" "now" "[I") (List.mem_of_getElem? (i := 2) rfl)) rfl rfl dX6_reason_45 ?_
            refine lv_bipush (v := (nI 56)) hx hb dX6_reason_48 (by decide +kernel) ?_
            refine mn_iald hx hb hK hM (hI.now) 56 (by omega) (by decide) dX6_reason_50 ?_
            refine mv_top hn ?_
            refine ln_icmp_ge i n (by omega) (by omega) (tgt := 126) hx hb dX6_reason_51 (by decide) (fun cz5 => ?_) (fun cz5 => ?_)
            · have hz : i = n := (by omega)
              rw [hz] at hl
              refine lv_iload hx hb dX6_reason_126 (lv_at hl 4 rfl) ?_
              refine lv_iload_n hx hb dX6_reason_128 rfl (lv_at hl 2 rfl) ?_
              refine lv_icmp_ne (tgt := 134) hx hb dX6_reason_129 (by decide) (fun cz6 => ?_) (fun cz6 => ?_)
              · refine lv_iinc (v := (nI (k + 1))) (lv' := [(3, .int (nI (k + 1))), (0, .ref o), (1, .int r), (2, .int x), (4, .int (nI (cntN (aheQ S wo n k r) n))), (5, .int (nI n))]) hx hb dX6_reason_134 hl (k := 3) rfl (nI_add _ _) (by decide) rfl (fun ls hl => ?_)
                refine lv_goto (tgt := 16) hx hb dX6_reason_137 (by decide) ?_
                exact ih (k + 1) _ _ ls (by omega) (fun j hj => (Nat.lt_succ_iff_lt_or_eq.mp hj).elim (hall j) (fun z => by subst z; exact reasQ_ne cz6)) (by omega) hM (lv_sub hl [1, 2, 3, 0] rfl)
              refine lv_iload_n hx hb dX6_reason_132 rfl (lv_at hl 3 rfl) ?_
              exact mm_iret hx hb hlocks hr (Nat.le_of_ble_eq_true rfl) (Nat.le_of_ble_eq_true rfl) hM (ret_v (a6_reason_at hrN hxN hcz hrk cz6 hall)) dX6_reason_133
            refine lv_aload_n hx hb dX6_reason_54 rfl (lv_at hl 0 rfl) ?_
            refine lv_iload hx hb dX6_reason_55 (lv_at hl 5 rfl) ?_
            refine mm_V (As := [.int (nI i)]) (rest := []) ⟨hx, hb, hml, hown, hts⟩ (c6_sharpnessOf l G hI i (by omega)) (cwV 1 hts gX6_reason_X6_sharpnessOf rfl rfl rfl (by decide +kernel) ⟨Nat.le_of_ble_eq_true rfl, Nat.le_of_ble_eq_true rfl⟩) hK hE hA hM (mm_recv hK hM (hI.obj) (q := (RX6, TX6, 14)) rfl) rfl hl.1 rfl (Nat.le_of_ble_eq_true rfl) dX6_reason_57 ⟨Nat.le_of_ble_eq_true rfl, Nat.le_of_ble_eq_true rfl⟩ (fun v f1 Hp lcs hp hM => ?_)
            obtain ⟨rfl, hf⟩ := hp; subst hf
            refine lv_aload_n hx hb dX6_reason_60 rfl (lv_at hl 0 rfl) ?_
            refine lv_iload_n hx hb dX6_reason_61 rfl (lv_at hl 3 rfl) ?_
            refine mm_V (As := [.int (nI k)]) (rest := [.int (nI (shaN S i))]) ⟨hx, hb, hml, hown, hts⟩ (c6_sharpnessOf l G hI k (by omega)) (cwV 1 hts gX6_reason_X6_sharpnessOf rfl rfl rfl (by decide +kernel) ⟨Nat.le_of_ble_eq_true rfl, Nat.le_of_ble_eq_true rfl⟩) hK hE hA hM (mm_recv hK hM (hI.obj) (q := (RX6, TX6, 14)) rfl) rfl hl.1 rfl (Nat.le_of_ble_eq_true rfl) dX6_reason_62 ⟨Nat.le_of_ble_eq_true rfl, Nat.le_of_ble_eq_true rfl⟩ (fun v f1 Hp lcs hp hM => ?_)
            obtain ⟨rfl, hf⟩ := hp; subst hf
            refine ln_icmp_gt (shaN S i) (shaN S k) (by have hz0 := shaN_le S i; omega) (by have hz0 := shaN_le S k; omega) (tgt := 88) hx hb dX6_reason_65 (by decide) (fun cz7 => ?_) (fun cz7 => ?_)
            · refine lv_iconst (v := (nI 1)) hx hb dX6_reason_88 (by decide +kernel) ?_
              refine lv_goto (tgt := 93) hx hb dX6_reason_89 (by decide) ?_
              refine lv_istore (lv' := [(6, .int (nI 1)), (0, .ref o), (1, .int r), (2, .int x), (3, .int (nI k)), (4, .int (nI (cntN (aheQ S wo n k r) i))), (5, .int (nI i))]) hx hb dX6_reason_93 hl (by decide) rfl (fun ls hl => ?_)
              refine lv_iload hx hb dX6_reason_95 (lv_at hl 5 rfl) ?_
              refine lv_iload hx hb dX6_reason_97 (lv_at hl 0 rfl) ?_
              refine lv_if_eq (tgt := 116) hx hb dX6_reason_99 (by decide) (fun hq9 => absurd hq9 (by decide)) (fun _ => ?_)
              refine lv_aload_n hx hb dX6_reason_102 rfl (lv_at hl 1 rfl) ?_
              refine lv_iload hx hb dX6_reason_103 (lv_at hl 6 rfl) ?_
              refine lv_iload_n hx hb dX6_reason_105 rfl (lv_at hl 2 rfl) ?_
              refine mm_V (As := [.int (nI i), .int r]) (rest := [.int (nI (cntN (aheQ S wo n k r) i))]) ⟨hx, hb, hml, hown, hts⟩ (c6_isReason l G hI hn hn16 i (by omega) r) (cwV 2 hts gX6_reason_X6_isReason rfl rfl rfl (by decide +kernel) ⟨Nat.le_of_ble_eq_true rfl, Nat.le_of_ble_eq_true rfl⟩) hK hE hA hM (mm_recv hK hM (hI.obj) (q := (RX6, TX6, 14)) rfl) rfl hl.1 rfl (Nat.le_of_ble_eq_true rfl) dX6_reason_106 ⟨Nat.le_of_ble_eq_true rfl, Nat.le_of_ble_eq_true rfl⟩ (fun v f1 Hp lcs hp hM => ?_)
              obtain ⟨rfl, hf⟩ := hp; subst hf
              refine lvb_eq (tgt := 116) hx hb dX6_reason_109 (by decide) (fun cz8 => ?_) (fun cz8 => ?_)
              · refine lv_iconst (v := (nI 0)) hx hb dX6_reason_116 (by decide +kernel) ?_
                refine ln_iadd (cntN (aheQ S wo n k r) i) 0 hx hb dX6_reason_117 ?_
                refine lv_istore (lv' := [(4, .int (nI ((cntN (aheQ S wo n k r) i) + 0))), (6, .int (nI 1)), (0, .ref o), (1, .int r), (2, .int x), (3, .int (nI k)), (5, .int (nI i))]) hx hb dX6_reason_118 hl (by decide) rfl (fun ls hl => ?_)
                refine lv_iinc (v := (nI (i + 1))) (lv' := [(5, .int (nI (i + 1))), (4, .int (nI ((cntN (aheQ S wo n k r) i) + 0))), (6, .int (nI 1)), (0, .ref o), (1, .int r), (2, .int x), (3, .int (nI k))]) hx hb dX6_reason_120 hl (k := 6) rfl (nI_add _ _) (by decide) rfl (fun ls hl => ?_)
                refine lv_goto (tgt := 42) hx hb dX6_reason_123 (by decide) ?_
                exact ihB (i + 1) _ _ _ ls (by omega) (by simp [cntN, aheQ, firR, cz5, cz7, cz8]) (by omega) hM (lv_sub hl [3, 4, 5, 6, 1, 0] rfl)
              refine lv_iconst (v := (nI 1)) hx hb dX6_reason_112 (by decide +kernel) ?_
              refine lv_goto (tgt := 117) hx hb dX6_reason_113 (by decide) ?_
              refine ln_iadd (cntN (aheQ S wo n k r) i) 1 hx hb dX6_reason_117 ?_
              refine lv_istore (lv' := [(4, .int (nI ((cntN (aheQ S wo n k r) i) + 1))), (6, .int (nI 1)), (0, .ref o), (1, .int r), (2, .int x), (3, .int (nI k)), (5, .int (nI i))]) hx hb dX6_reason_118 hl (by decide) rfl (fun ls hl => ?_)
              refine lv_iinc (v := (nI (i + 1))) (lv' := [(5, .int (nI (i + 1))), (4, .int (nI ((cntN (aheQ S wo n k r) i) + 1))), (6, .int (nI 1)), (0, .ref o), (1, .int r), (2, .int x), (3, .int (nI k))]) hx hb dX6_reason_120 hl (k := 6) rfl (nI_add _ _) (by decide) rfl (fun ls hl => ?_)
              refine lv_goto (tgt := 42) hx hb dX6_reason_123 (by decide) ?_
              exact ihB (i + 1) _ _ _ ls (by omega) (by simp [cntN, aheQ, firR, cz5, cz7, cz8]) (by omega) hM (lv_sub hl [3, 4, 5, 6, 1, 0] rfl)
            refine lv_aload_n hx hb dX6_reason_68 rfl (lv_at hl 0 rfl) ?_
            refine lv_iload hx hb dX6_reason_69 (lv_at hl 5 rfl) ?_
            refine mm_V (As := [.int (nI i)]) (rest := []) ⟨hx, hb, hml, hown, hts⟩ (c6_sharpnessOf l G hI i (by omega)) (cwV 1 hts gX6_reason_X6_sharpnessOf rfl rfl rfl (by decide +kernel) ⟨Nat.le_of_ble_eq_true rfl, Nat.le_of_ble_eq_true rfl⟩) hK hE hA hM (mm_recv hK hM (hI.obj) (q := (RX6, TX6, 14)) rfl) rfl hl.1 rfl (Nat.le_of_ble_eq_true rfl) dX6_reason_71 ⟨Nat.le_of_ble_eq_true rfl, Nat.le_of_ble_eq_true rfl⟩ (fun v f1 Hp lcs hp hM => ?_)
            obtain ⟨rfl, hf⟩ := hp; subst hf
            refine lv_aload_n hx hb dX6_reason_74 rfl (lv_at hl 0 rfl) ?_
            refine lv_iload_n hx hb dX6_reason_75 rfl (lv_at hl 3 rfl) ?_
            refine mm_V (As := [.int (nI k)]) (rest := [.int (nI (shaN S i))]) ⟨hx, hb, hml, hown, hts⟩ (c6_sharpnessOf l G hI k (by omega)) (cwV 1 hts gX6_reason_X6_sharpnessOf rfl rfl rfl (by decide +kernel) ⟨Nat.le_of_ble_eq_true rfl, Nat.le_of_ble_eq_true rfl⟩) hK hE hA hM (mm_recv hK hM (hI.obj) (q := (RX6, TX6, 14)) rfl) rfl hl.1 rfl (Nat.le_of_ble_eq_true rfl) dX6_reason_76 ⟨Nat.le_of_ble_eq_true rfl, Nat.le_of_ble_eq_true rfl⟩ (fun v f1 Hp lcs hp hM => ?_)
            obtain ⟨rfl, hf⟩ := hp; subst hf
            refine ln_icmp_ne (shaN S i) (shaN S k) (by have hz0 := shaN_le S i; omega) (by have hz0 := shaN_le S k; omega) (tgt := 92) hx hb dX6_reason_79 (by decide) (fun cz9 => ?_) (fun cz9 => ?_)
            · refine lv_iconst (v := (nI 0)) hx hb dX6_reason_92 (by decide +kernel) ?_
              refine lv_istore (lv' := [(6, .int (nI 0)), (0, .ref o), (1, .int r), (2, .int x), (3, .int (nI k)), (4, .int (nI (cntN (aheQ S wo n k r) i))), (5, .int (nI i))]) hx hb dX6_reason_93 hl (by decide) rfl (fun ls hl => ?_)
              refine lv_iload hx hb dX6_reason_95 (lv_at hl 5 rfl) ?_
              refine lv_iload hx hb dX6_reason_97 (lv_at hl 0 rfl) ?_
              refine lv_if_eq (tgt := 116) hx hb dX6_reason_99 (by decide) (fun _ => ?_) (fun hq9 => absurd hq9 (by decide))
              refine lv_iconst (v := (nI 0)) hx hb dX6_reason_116 (by decide +kernel) ?_
              refine ln_iadd (cntN (aheQ S wo n k r) i) 0 hx hb dX6_reason_117 ?_
              refine lv_istore (lv' := [(4, .int (nI ((cntN (aheQ S wo n k r) i) + 0))), (6, .int (nI 0)), (0, .ref o), (1, .int r), (2, .int x), (3, .int (nI k)), (5, .int (nI i))]) hx hb dX6_reason_118 hl (by decide) rfl (fun ls hl => ?_)
              refine lv_iinc (v := (nI (i + 1))) (lv' := [(5, .int (nI (i + 1))), (4, .int (nI ((cntN (aheQ S wo n k r) i) + 0))), (6, .int (nI 0)), (0, .ref o), (1, .int r), (2, .int x), (3, .int (nI k))]) hx hb dX6_reason_120 hl (k := 6) rfl (nI_add _ _) (by decide) rfl (fun ls hl => ?_)
              refine lv_goto (tgt := 42) hx hb dX6_reason_123 (by decide) ?_
              exact ihB (i + 1) _ _ _ ls (by omega) (by simp [cntN, aheQ, firR, cz5, cz7, Nat.not_lt.mpr cz7, cz9]) (by omega) hM (lv_sub hl [3, 4, 5, 6, 1, 0] rfl)
            refine lv_iload hx hb dX6_reason_82 (lv_at hl 5 rfl) ?_
            refine lv_iload_n hx hb dX6_reason_84 rfl (lv_at hl 3 rfl) ?_
            refine ln_icmp_ge i k (by omega) (by omega) (tgt := 92) hx hb dX6_reason_85 (by decide) (fun cz10 => ?_) (fun cz10 => ?_)
            · refine lv_iconst (v := (nI 0)) hx hb dX6_reason_92 (by decide +kernel) ?_
              refine lv_istore (lv' := [(6, .int (nI 0)), (0, .ref o), (1, .int r), (2, .int x), (3, .int (nI k)), (4, .int (nI (cntN (aheQ S wo n k r) i))), (5, .int (nI i))]) hx hb dX6_reason_93 hl (by decide) rfl (fun ls hl => ?_)
              refine lv_iload hx hb dX6_reason_95 (lv_at hl 5 rfl) ?_
              refine lv_iload hx hb dX6_reason_97 (lv_at hl 0 rfl) ?_
              refine lv_if_eq (tgt := 116) hx hb dX6_reason_99 (by decide) (fun _ => ?_) (fun hq9 => absurd hq9 (by decide))
              refine lv_iconst (v := (nI 0)) hx hb dX6_reason_116 (by decide +kernel) ?_
              refine ln_iadd (cntN (aheQ S wo n k r) i) 0 hx hb dX6_reason_117 ?_
              refine lv_istore (lv' := [(4, .int (nI ((cntN (aheQ S wo n k r) i) + 0))), (6, .int (nI 0)), (0, .ref o), (1, .int r), (2, .int x), (3, .int (nI k)), (5, .int (nI i))]) hx hb dX6_reason_118 hl (by decide) rfl (fun ls hl => ?_)
              refine lv_iinc (v := (nI (i + 1))) (lv' := [(5, .int (nI (i + 1))), (4, .int (nI ((cntN (aheQ S wo n k r) i) + 0))), (6, .int (nI 0)), (0, .ref o), (1, .int r), (2, .int x), (3, .int (nI k))]) hx hb dX6_reason_120 hl (k := 6) rfl (nI_add _ _) (by decide) rfl (fun ls hl => ?_)
              refine lv_goto (tgt := 42) hx hb dX6_reason_123 (by decide) ?_
              exact ihB (i + 1) _ _ _ ls (by omega) (by simp [cntN, aheQ, firR, cz5, cz7, Nat.not_lt.mpr cz7, cz9, cz10, Nat.not_lt.mpr cz10]) (by omega) hM (lv_sub hl [3, 4, 5, 6, 1, 0] rfl)
            refine lv_iconst (v := (nI 1)) hx hb dX6_reason_88 (by decide +kernel) ?_
            refine lv_goto (tgt := 93) hx hb dX6_reason_89 (by decide) ?_
            refine lv_istore (lv' := [(6, .int (nI 1)), (0, .ref o), (1, .int r), (2, .int x), (3, .int (nI k)), (4, .int (nI (cntN (aheQ S wo n k r) i))), (5, .int (nI i))]) hx hb dX6_reason_93 hl (by decide) rfl (fun ls hl => ?_)
            refine lv_iload hx hb dX6_reason_95 (lv_at hl 5 rfl) ?_
            refine lv_iload hx hb dX6_reason_97 (lv_at hl 0 rfl) ?_
            refine lv_if_eq (tgt := 116) hx hb dX6_reason_99 (by decide) (fun hq9 => absurd hq9 (by decide)) (fun _ => ?_)
            refine lv_aload_n hx hb dX6_reason_102 rfl (lv_at hl 1 rfl) ?_
            refine lv_iload hx hb dX6_reason_103 (lv_at hl 6 rfl) ?_
            refine lv_iload_n hx hb dX6_reason_105 rfl (lv_at hl 2 rfl) ?_
            refine mm_V (As := [.int (nI i), .int r]) (rest := [.int (nI (cntN (aheQ S wo n k r) i))]) ⟨hx, hb, hml, hown, hts⟩ (c6_isReason l G hI hn hn16 i (by omega) r) (cwV 2 hts gX6_reason_X6_isReason rfl rfl rfl (by decide +kernel) ⟨Nat.le_of_ble_eq_true rfl, Nat.le_of_ble_eq_true rfl⟩) hK hE hA hM (mm_recv hK hM (hI.obj) (q := (RX6, TX6, 14)) rfl) rfl hl.1 rfl (Nat.le_of_ble_eq_true rfl) dX6_reason_106 ⟨Nat.le_of_ble_eq_true rfl, Nat.le_of_ble_eq_true rfl⟩ (fun v f1 Hp lcs hp hM => ?_)
            obtain ⟨rfl, hf⟩ := hp; subst hf
            refine lvb_eq (tgt := 116) hx hb dX6_reason_109 (by decide) (fun cz11 => ?_) (fun cz11 => ?_)
            · refine lv_iconst (v := (nI 0)) hx hb dX6_reason_116 (by decide +kernel) ?_
              refine ln_iadd (cntN (aheQ S wo n k r) i) 0 hx hb dX6_reason_117 ?_
              refine lv_istore (lv' := [(4, .int (nI ((cntN (aheQ S wo n k r) i) + 0))), (6, .int (nI 1)), (0, .ref o), (1, .int r), (2, .int x), (3, .int (nI k)), (5, .int (nI i))]) hx hb dX6_reason_118 hl (by decide) rfl (fun ls hl => ?_)
              refine lv_iinc (v := (nI (i + 1))) (lv' := [(5, .int (nI (i + 1))), (4, .int (nI ((cntN (aheQ S wo n k r) i) + 0))), (6, .int (nI 1)), (0, .ref o), (1, .int r), (2, .int x), (3, .int (nI k))]) hx hb dX6_reason_120 hl (k := 6) rfl (nI_add _ _) (by decide) rfl (fun ls hl => ?_)
              refine lv_goto (tgt := 42) hx hb dX6_reason_123 (by decide) ?_
              exact ihB (i + 1) _ _ _ ls (by omega) (by simp [cntN, aheQ, firR, cz5, cz7, Nat.not_lt.mpr cz7, cz9, cz10, cz11]) (by omega) hM (lv_sub hl [3, 4, 5, 6, 1, 0] rfl)
            refine lv_iconst (v := (nI 1)) hx hb dX6_reason_112 (by decide +kernel) ?_
            refine lv_goto (tgt := 117) hx hb dX6_reason_113 (by decide) ?_
            refine ln_iadd (cntN (aheQ S wo n k r) i) 1 hx hb dX6_reason_117 ?_
            refine lv_istore (lv' := [(4, .int (nI ((cntN (aheQ S wo n k r) i) + 1))), (6, .int (nI 1)), (0, .ref o), (1, .int r), (2, .int x), (3, .int (nI k)), (5, .int (nI i))]) hx hb dX6_reason_118 hl (by decide) rfl (fun ls hl => ?_)
            refine lv_iinc (v := (nI (i + 1))) (lv' := [(5, .int (nI (i + 1))), (4, .int (nI ((cntN (aheQ S wo n k r) i) + 1))), (6, .int (nI 1)), (0, .ref o), (1, .int r), (2, .int x), (3, .int (nI k))]) hx hb dX6_reason_120 hl (k := 6) rfl (nI_add _ _) (by decide) rfl (fun ls hl => ?_)
            refine lv_goto (tgt := 42) hx hb dX6_reason_123 (by decide) ?_
            exact ihB (i + 1) _ _ _ ls (by omega) (by simp [cntN, aheQ, firR, cz5, cz7, Nat.not_lt.mpr cz7, cz9, cz10, cz11]) (by omega) hM (lv_sub hl [3, 4, 5, 6, 1, 0] rfl)
        exact loopZ (n + 1) 0 _ _ _ ls (Nat.zero_le _) rfl (by omega) hM (lv_sub hl [2, 3, 4, 5, 1, 0] rfl)
    exact loopY (n + 1) 0 _ _ ls (Nat.zero_le _) (fun j hj => absurd hj (Nat.not_lt_zero j)) (by omega) hM (lv_sub hl [1, 2, 3, 0] rfl)
  refine lv_ldc (v := (-100002)) hx hb hown (hts (.constant RX6 64 (-100002)) (List.mem_of_getElem? (i := 1) rfl)) dX6_reason_11 ?_
  exact mm_iret hx hb hlocks hr (Nat.le_of_ble_eq_true rfl) (Nat.le_of_ble_eq_true rfl) hM (ret_v (a6_reason_bad2 cz2)) dX6_reason_13
