/-! THE CLASS: a state, asked -/
theorem bnot_t {b : Bool} (h : (!b) = true) : b = false := by cases b <;> simp_all
theorem bnot_f {b : Bool} (h : (!b) = false) : b = true := by cases b <;> simp_all
theorem lim_pos {a b : Nat} (ha : a ≤ 7) (hb : b ≤ 7) : 0 < nI a - nI b ↔ b < a := by
  rw [Int32.lt_iff_toInt_lt, pk_sub_toInt (by omega) (by omega), Int32.toInt_zero]; omega
theorem lim_zer {a b : Nat} (ha : a ≤ 7) (hb : b ≤ 7) : nI a - nI b = 0 ↔ a = b := by
  rw [← Int32.toInt_inj, pk_sub_toInt (by omega) (by omega), Int32.toInt_zero]; omega
theorem bef_t1 {lo hi : Nat → Nat → Int32} {j k : Nat} (h1 : limD lo hi j ≤ 7) (h2 : limD lo hi k ≤ 7) (h : 0 < nI (limD lo hi j) - nI (limD lo hi k)) : befD lo hi j k = true := by
  rw [befD, decide_eq_true ((lim_pos h1 h2).mp h), Bool.true_or]
theorem bef_f2 {lo hi : Nat → Nat → Int32} {j k : Nat} (h1 : limD lo hi j ≤ 7) (h2 : limD lo hi k ≤ 7) (h : ¬ 0 < nI (limD lo hi j) - nI (limD lo hi k)) (h3 : ¬ nI (limD lo hi j) - nI (limD lo hi k) = 0) : befD lo hi j k = false := by
  rw [befD, decide_eq_false (fun z => h ((lim_pos h1 h2).mpr z)), decide_eq_false (fun z => h3 ((lim_zer h1 h2).mpr z))]; rfl
theorem bef_f3 {lo hi : Nat → Nat → Int32} {j k : Nat} (h1 : limD lo hi j ≤ 7) (h2 : limD lo hi k ≤ 7) (h : ¬ 0 < nI (limD lo hi j) - nI (limD lo hi k)) (h3 : nI (limD lo hi j) - nI (limD lo hi k) = 0) (h4 : k ≤ j) : befD lo hi j k = false := by
  rw [befD, decide_eq_false (fun z => h ((lim_pos h1 h2).mpr z)), decide_eq_false (p := j < k) (by omega), Bool.and_false]; rfl
theorem bef_t3 {lo hi : Nat → Nat → Int32} {j k : Nat} (h1 : limD lo hi j ≤ 7) (h2 : limD lo hi k ≤ 7) (_ : ¬ 0 < nI (limD lo hi j) - nI (limD lo hi k)) (h3 : nI (limD lo hi j) - nI (limD lo hi k) = 0) (h4 : j < k) : befD lo hi j k = true := by
  rw [befD, decide_eq_true ((lim_zer h1 h2).mp h3), decide_eq_true h4, Bool.and_true, Bool.or_true]
set_option maxHeartbeats 4000000 in
set_option maxRecDepth 100000 in
theorem c3_sentenceAt (l : Launch) (G : mG) {f : mE} {q0 b fc pr n : Nat} {B : Nat → Option Nat} {X rg pa qa tk : Nat → Nat} {lo hi : Nat → Nat → Int32} {ab gv us : Nat → Int32} (hQ : StQ G f q0 b fc pr n B X rg pa qa tk lo hi ab gv us) (k : Nat) (hk : k < n) : mC l G yX3_sentenceAt wsX3_sentenceAt ({ frames := 0, cells := 0, slots := 0, locals := 0 } : Room) f [.ref q0, .int (nI k)] (fun v f1 => v = some (.ref (X k)) ∧ f = f1) 0 0 := by
  refine mC.of (cc := cX3_sentenceAt) (maxL := 2) (ret := (some (.object "SentenceRules$Sentence"))) (by decide) rfl (Nat.le_of_ble_eq_true rfl) ?_
  intro pgm env s mt args below meth c A ls hx hb hml hr hlocks hown hname hts hK hE hA hM hl
  have hl : lv_has ls 2 [(0, .ref q0), (1, .int (nI k))] := hl
  have hn16 := hQ.2.2.1
  refine lv_iload_n hx hb dX3_sentenceAt_0 rfl (lv_at hl 1 rfl) ?_
  refine lv_if_lt (tgt := 27) hx hb dX3_sentenceAt_1 (by decide) (fun hq9 => absurd hq9 (nI_pos (by omega))) (fun _ => ?_)
  refine lv_iload_n hx hb dX3_sentenceAt_4 rfl (lv_at hl 1 rfl) ?_
  refine lv_aload_n hx hb dX3_sentenceAt_5 rfl (lv_at hl 0 rfl) ?_
  refine mm_get (C := RX3) (T := TX3) (N := 4) (k := 0) hx hb hts (fun _ h => List.mem_cons_of_mem _ (List.mem_append_right _ h)) hown hK hM hQ.1 rfl (by decide) (hts (.fieldLink RX3 29 "SentenceRules$State" "sentenceCount" "I") (List.mem_of_getElem? (i := 1) rfl)) rfl rfl dX3_sentenceAt_6 ?_
  refine ln_icmp_ge k n (by omega) (by omega) (tgt := 27) hx hb dX3_sentenceAt_9 (by decide) (fun cz1 => ?_) (fun cz1 => ?_)
  · exact absurd cz1 (by omega)
  refine lv_iload_n hx hb dX3_sentenceAt_12 rfl (lv_at hl 1 rfl) ?_
  refine lv_bipush (v := (nI 16)) hx hb dX3_sentenceAt_13 (by decide +kernel) ?_
  refine ln_icmp_ge k 16 (by omega) (by omega) (tgt := 27) hx hb dX3_sentenceAt_15 (by decide) (fun cz2 => ?_) (fun cz2 => ?_)
  · exact absurd cz2 (by omega)
  refine lv_aload_n hx hb dX3_sentenceAt_18 rfl (lv_at hl 0 rfl) ?_
  refine mm_get (C := RX3) (T := TX3) (N := 4) (k := 1) hx hb hts (fun _ h => List.mem_cons_of_mem _ (List.mem_append_right _ h)) hown hK hM hQ.1 rfl (by decide) (hts (.fieldLink RX3 11 "SentenceRules$State" "book" "[LSentenceRules$Sentence;") (List.mem_of_getElem? (i := 2) rfl)) rfl rfl dX3_sentenceAt_19 ?_
  refine lv_iload_n hx hb dX3_sentenceAt_22 rfl (lv_at hl 1 rfl) ?_
  refine mm_aldS hx hb hK hM hQ.2.1 (vp_in_nI (by omega) (by decide)) dX3_sentenceAt_23 ?_
  rw [nI_clamp (by omega)]
  refine mv_val (y := .ref (X k)) (by rw [(hQ.2.2.2 k hk).1]; rfl) ?_
  refine lv_goto (tgt := 28) hx hb dX3_sentenceAt_24 (by decide) ?_
  exact mm_aret (r := (some (X k))) hx hb hlocks hr (Or.inl ⟨_, rfl⟩) (Nat.le_of_ble_eq_true rfl) (Nat.le_of_ble_eq_true rfl) hM (⟨rfl, rfl⟩) dX3_sentenceAt_28
set_option maxHeartbeats 4000000 in
set_option maxRecDepth 100000 in
theorem c3_sentenceAtN (l : Launch) (G : mG) {f : mE} {q0 b fc pr n : Nat} {B : Nat → Option Nat} {X rg pa qa tk : Nat → Nat} {lo hi : Nat → Nat → Int32} {ab gv us : Nat → Int32} (hQ : StQ G f q0 b fc pr n B X rg pa qa tk lo hi ab gv us) (k : Int32) (hk : k < 0 ∨ nI n ≤ k) : mC l G yX3_sentenceAt wsX3_sentenceAt ({ frames := 0, cells := 0, slots := 0, locals := 0 } : Room) f [.ref q0, .int k] (fun v f1 => v = some .null ∧ f = f1) 0 0 := by
  refine mC.of (cc := cX3_sentenceAt) (maxL := 2) (ret := (some (.object "SentenceRules$Sentence"))) (by decide) rfl (Nat.le_of_ble_eq_true rfl) ?_
  intro pgm env s mt args below meth c A ls hx hb hml hr hlocks hown hname hts hK hE hA hM hl
  have hl : lv_has ls 2 [(0, .ref q0), (1, .int k)] := hl
  have hn16 := hQ.2.2.1
  refine lv_iload_n hx hb dX3_sentenceAt_0 rfl (lv_at hl 1 rfl) ?_
  refine lv_if_lt (tgt := 27) hx hb dX3_sentenceAt_1 (by decide) (fun cz1 => ?_) (fun cz1 => ?_)
  · refine lv_null hx hb dX3_sentenceAt_27 ?_
    exact mm_aret (r := none) hx hb hlocks hr (Or.inl ⟨_, rfl⟩) (Nat.le_of_ble_eq_true rfl) (Nat.le_of_ble_eq_true rfl) hM (⟨rfl, rfl⟩) dX3_sentenceAt_28
  refine lv_iload_n hx hb dX3_sentenceAt_4 rfl (lv_at hl 1 rfl) ?_
  refine lv_aload_n hx hb dX3_sentenceAt_5 rfl (lv_at hl 0 rfl) ?_
  refine mm_get (C := RX3) (T := TX3) (N := 4) (k := 0) hx hb hts (fun _ h => List.mem_cons_of_mem _ (List.mem_append_right _ h)) hown hK hM hQ.1 rfl (by decide) (hts (.fieldLink RX3 29 "SentenceRules$State" "sentenceCount" "I") (List.mem_of_getElem? (i := 1) rfl)) rfl rfl dX3_sentenceAt_6 ?_
  refine lv_icmp_ge (tgt := 27) hx hb dX3_sentenceAt_9 (by decide) (fun cz2 => ?_) (fun cz2 => ?_)
  · refine lv_null hx hb dX3_sentenceAt_27 ?_
    exact mm_aret (r := none) hx hb hlocks hr (Or.inl ⟨_, rfl⟩) (Nat.le_of_ble_eq_true rfl) (Nat.le_of_ble_eq_true rfl) hM (⟨rfl, rfl⟩) dX3_sentenceAt_28
  exact absurd hk (fun z => z.elim cz1 cz2)
set_option maxHeartbeats 4000000 in
set_option maxRecDepth 100000 in
theorem c2_isDefinition (l : Launch) (G : mG) {f : mE} {x : Nat} {tr rr : Nat} {ab gv us : Int32} (hc_x : f x = some (.inr (3, [.ref tr, .ref rr, .int ab, .int gv, .int us]))) : mC l G yX2_isDefinition wsX2_isDefinition ({ frames := 0, cells := 0, slots := 0, locals := 0 } : Room) f [.ref x] (fun v f1 => v = some (.int (bI (!decide (ab < nI 10)))) ∧ f = f1) 0 0 := by
  refine mC.of (cc := cX2_isDefinition) (maxL := 1) (ret := (some .boolean)) (by decide) rfl (Nat.le_of_ble_eq_true rfl) ?_
  intro pgm env s mt args below meth c A ls hx hb hml hr hlocks hown hname hts hK hE hA hM hl
  have hl : lv_has ls 1 [(0, .ref x)] := hl
  refine lv_aload_n hx hb dX2_isDefinition_0 rfl (lv_at hl 0 rfl) ?_
  refine mm_get (C := RX2) (T := TX2) (N := 5) (k := 2) hx hb hts (fun _ h => List.mem_cons_of_mem _ (List.mem_append_right _ h)) hown hK hM hc_x rfl (by decide) (hts (.fieldLink RX2 33 "SentenceRules$Sentence" "about" "I") (List.mem_of_getElem? (i := 1) rfl)) rfl rfl dX2_isDefinition_1 ?_
  refine lv_bipush (v := (nI 10)) hx hb dX2_isDefinition_4 (by decide +kernel) ?_
  refine lv_icmp_lt (tgt := 13) hx hb dX2_isDefinition_6 (by decide) (fun cz1 => ?_) (fun cz1 => ?_)
  · refine lv_iconst (v := (nI 0)) hx hb dX2_isDefinition_13 (by decide +kernel) ?_
    exact mm_zret hx hb hlocks hr (by first | rfl | exact bI_nar _) (Nat.le_of_ble_eq_true rfl) (Nat.le_of_ble_eq_true rfl) hM (ret_f (by simp [bI, cz1])) dX2_isDefinition_14
  refine lv_iconst (v := (nI 1)) hx hb dX2_isDefinition_9 (by decide +kernel) ?_
  refine lv_goto (tgt := 14) hx hb dX2_isDefinition_10 (by decide) ?_
  exact mm_zret hx hb hlocks hr (by first | rfl | exact bI_nar _) (Nat.le_of_ble_eq_true rfl) (Nat.le_of_ble_eq_true rfl) hM (ret_t (by simp [bI, cz1])) dX2_isDefinition_14
set_option maxHeartbeats 4000000 in
set_option maxRecDepth 100000 in
theorem c2_isRuleFor (l : Launch) (G : mG) {f : mE} {x : Nat} {tr rr : Nat} {ab gv us : Int32} (hc_x : f x = some (.inr (3, [.ref tr, .ref rr, .int ab, .int gv, .int us]))) (r : Int32) : mC l G yX2_isRuleFor wsX2_isRuleFor ({ frames := 0, cells := 0, slots := 0, locals := 0 } : Room) f [.ref x, .int r] (fun v f1 => v = some (.int (bI (decide (ab = r)))) ∧ f = f1) 0 0 := by
  refine mC.of (cc := cX2_isRuleFor) (maxL := 2) (ret := (some .boolean)) (by decide) rfl (Nat.le_of_ble_eq_true rfl) ?_
  intro pgm env s mt args below meth c A ls hx hb hml hr hlocks hown hname hts hK hE hA hM hl
  have hl : lv_has ls 2 [(0, .ref x), (1, .int r)] := hl
  refine lv_aload_n hx hb dX2_isRuleFor_0 rfl (lv_at hl 0 rfl) ?_
  refine mm_get (C := RX2) (T := TX2) (N := 5) (k := 2) hx hb hts (fun _ h => List.mem_cons_of_mem _ (List.mem_append_right _ h)) hown hK hM hc_x rfl (by decide) (hts (.fieldLink RX2 33 "SentenceRules$Sentence" "about" "I") (List.mem_of_getElem? (i := 1) rfl)) rfl rfl dX2_isRuleFor_1 ?_
  refine lv_iload_n hx hb dX2_isRuleFor_4 rfl (lv_at hl 1 rfl) ?_
  refine lv_icmp_ne (tgt := 12) hx hb dX2_isRuleFor_5 (by decide) (fun cz1 => ?_) (fun cz1 => ?_)
  · refine lv_iconst (v := (nI 0)) hx hb dX2_isRuleFor_12 (by decide +kernel) ?_
    exact mm_zret hx hb hlocks hr (by first | rfl | exact bI_nar _) (Nat.le_of_ble_eq_true rfl) (Nat.le_of_ble_eq_true rfl) hM (ret_f (by simp [bI, cz1])) dX2_isRuleFor_13
  refine lv_iconst (v := (nI 1)) hx hb dX2_isRuleFor_8 (by decide +kernel) ?_
  refine lv_goto (tgt := 13) hx hb dX2_isRuleFor_9 (by decide) ?_
  exact mm_zret hx hb hlocks hr (by first | rfl | exact bI_nar _) (Nat.le_of_ble_eq_true rfl) (Nat.le_of_ble_eq_true rfl) hM (ret_t (by simp [bI, cz1])) dX2_isRuleFor_13
set_option maxHeartbeats 4000000 in
set_option maxRecDepth 100000 in
theorem c3_definitionOf (l : Launch) (G : mG) {f : mE} {q0 b fc pr n : Nat} {B : Nat → Option Nat} {X rg pa qa tk : Nat → Nat} {lo hi : Nat → Nat → Int32} {ab gv us : Nat → Int32} (hQ : StQ G f q0 b fc pr n B X rg pa qa tk lo hi ab gv us) (w : Int32) : mC l G yX3_definitionOf wsX3_definitionOf ({ frames := 1, cells := 0, slots := 0, locals := 21 } : Room) f [.ref q0, .int w] (fun v f1 => v = some (.int (if firN (defD ab w) n < n then nI (firN (defD ab w) n) else -1)) ∧ f = f1) 0 0 := by
  refine mC.of (cc := cX3_definitionOf) (maxL := 4) (ret := (some .int)) (by decide) rfl (Nat.le_of_ble_eq_true rfl) ?_
  intro pgm env s mt args below meth c A ls hx hb hml hr hlocks hown hname hts hK hE hA hM hl
  have hl : lv_has ls 4 [(0, .ref q0), (1, .int w)] := hl
  have hn16 := hQ.2.2.1
  refine lv_iconst (v := (nI 0)) hx hb dX3_definitionOf_0 (by decide +kernel) ?_
  refine lv_istore_n (lv' := [(2, .int (nI 0)), (0, .ref q0), (1, .int w)]) hx hb dX3_definitionOf_1 rfl hl (by decide) rfl (fun ls hl => ?_)
  have loopZ : ∀ (fuel : Nat) (i : Nat) (Hp : Heap) (lcs : List Loc) (ls : Array Slot) (hiN : i ≤ n) (hall : ∀ j, j < i → defD ab w j = false) (hfu : n - i < fuel) (hM : mM G A s.heap f Hp lcs) (hl : lv_has ls 4 [(0, .ref q0), (1, .int w), (2, .int (nI i))]), W pgm l env ({ frames := 1, cells := 0, slots := 0, locals := 21 } : Room) s mt args below meth c Hp lcs 0 0 (MQ below (mQc G A (fun v f1 => v = some (.int (if firN (defD ab w) n < n then nI (firN (defD ab w) n) else -1)) ∧ f = f1)) args s 0 0 A) (F0 mt 2 ls []) := by
    intro fuel
    induction fuel with
    | zero => intro i Hp lcs ls hiN hall hfu; exact absurd hfu (Nat.not_lt_zero _)
    | succ fuel ih =>
      intro i Hp lcs ls hiN hall hfu hM hl
      refine lv_iload_n hx hb dX3_definitionOf_2 rfl (lv_at hl 2 rfl) ?_
      refine lv_aload_n hx hb dX3_definitionOf_3 rfl (lv_at hl 0 rfl) ?_
      refine mm_get (C := RX3) (T := TX3) (N := 4) (k := 0) hx hb hts (fun _ h => List.mem_cons_of_mem _ (List.mem_append_left _ (List.mem_append_right _ h))) hown hK hM hQ.1 rfl (by decide) (hts (.fieldLink RX3 29 "SentenceRules$State" "sentenceCount" "I") (List.mem_of_getElem? (i := 1) rfl)) rfl rfl dX3_definitionOf_4 ?_
      refine ln_icmp_ge i n (by omega) (by omega) (tgt := 39) hx hb dX3_definitionOf_7 (by decide) (fun cz1 => ?_) (fun cz1 => ?_)
      · refine lv_iconst (v := (-1)) hx hb dX3_definitionOf_39 (by decide +kernel) ?_
        exact mm_iret hx hb hlocks hr (Nat.le_of_ble_eq_true rfl) (Nat.le_of_ble_eq_true rfl) hM (ret_v (by rw [firN_none (fun j hj => hall j (by omega)), if_neg (Nat.lt_irrefl _)])) dX3_definitionOf_40
      refine lv_aload_n hx hb dX3_definitionOf_10 rfl (lv_at hl 0 rfl) ?_
      refine lv_iload_n hx hb dX3_definitionOf_11 rfl (lv_at hl 2 rfl) ?_
      refine mm_V (As := [.int (nI i)]) (rest := []) ⟨hx, hb, hml, hown, hts⟩ (c3_sentenceAt l G hQ i (by omega)) (cwV 1 hts gX3_definitionOf_X3_sentenceAt rfl rfl rfl (by decide +kernel) ⟨Nat.le_of_ble_eq_true rfl, Nat.le_of_ble_eq_true rfl⟩) hK hE hA hM (mm_recv hK hM hQ.1 (q := (RX3, TX3, 4)) rfl) rfl hl.1 rfl (Nat.le_of_ble_eq_true rfl) dX3_definitionOf_12 ⟨Nat.le_of_ble_eq_true rfl, Nat.le_of_ble_eq_true rfl⟩ (fun v f1 Hp lcs hp hM => ?_)
      obtain ⟨rfl, hf⟩ := hp; subst hf
      have hz2 := hQ.2.2.2 i (by omega)
      refine lv_astore_n (lv' := [(3, .ref (X i)), (0, .ref q0), (1, .int w), (2, .int (nI i))]) hx hb dX3_definitionOf_15 rfl hl (by decide) rfl (fun ls hl => ?_)
      refine lv_aload_n hx hb dX3_definitionOf_16 rfl (lv_at hl 0 rfl) ?_
      refine lv_ifnull hx hb dX3_definitionOf_17 ?_
      refine lv_aload_n hx hb dX3_definitionOf_20 rfl (lv_at hl 0 rfl) ?_
      refine mm_get (C := RX2) (T := TX2) (N := 5) (k := 2) hx hb hts (fun _ h => List.mem_cons_of_mem _ (List.mem_append_right _ h)) hown hK hM hz2.2.1 rfl (by decide) (hts (.fieldLink RX3 47 "SentenceRules$Sentence" "about" "I") (List.mem_of_getElem? (i := 2) rfl)) rfl rfl dX3_definitionOf_21 ?_
      refine lv_bipush (v := (nI 10)) hx hb dX3_definitionOf_24 (by decide +kernel) ?_
      refine lv_iload_n hx hb dX3_definitionOf_26 rfl (lv_at hl 2 rfl) ?_
      refine lv_iadd hx hb dX3_definitionOf_27 ?_
      refine lv_icmp_ne (tgt := 33) hx hb dX3_definitionOf_28 (by decide) (fun cz3 => ?_) (fun cz3 => ?_)
      · refine lv_iinc (v := (nI (i + 1))) (lv' := [(2, .int (nI (i + 1))), (3, .ref (X i)), (0, .ref q0), (1, .int w)]) hx hb dX3_definitionOf_33 hl (k := 3) rfl (nI_add _ _) (by decide) rfl (fun ls hl => ?_)
        refine lv_goto (tgt := 2) hx hb dX3_definitionOf_36 (by decide) ?_
        exact ih (i + 1) _ _ ls (by omega) (fun j hj => (Nat.lt_succ_iff_lt_or_eq.mp hj).elim (hall j) (fun z => by subst z; simp [defD, cz1, cz3])) (by omega) hM (lv_sub hl [2, 3, 0] rfl)
      refine lv_iload_n hx hb dX3_definitionOf_31 rfl (lv_at hl 3 rfl) ?_
      exact mm_iret hx hb hlocks hr (Nat.le_of_ble_eq_true rfl) (Nat.le_of_ble_eq_true rfl) hM (ret_v (by rw [firN_eq (k := i) (by omega) (by simp [defD, cz1, cz3]) hall, if_pos (by omega)])) dX3_definitionOf_32
  exact loopZ (n + 1) 0 _ _ ls (Nat.zero_le _) (fun j hj => absurd hj (Nat.not_lt_zero j)) (by omega) hM (lv_sub hl [1, 2, 0] rfl)
set_option maxHeartbeats 4000000 in
set_option maxRecDepth 100000 in
theorem c3_isUsed (l : Launch) (G : mG) {f : mE} {q0 b fc pr n : Nat} {B : Nat → Option Nat} {X rg pa qa tk : Nat → Nat} {lo hi : Nat → Nat → Int32} {ab gv us : Nat → Int32} (hQ : StQ G f q0 b fc pr n B X rg pa qa tk lo hi ab gv us) (w : Int32) : mC l G yX3_isUsed wsX3_isUsed ({ frames := 1, cells := 0, slots := 0, locals := 21 } : Room) f [.ref q0, .int w] (fun v f1 => v = some (.int (bI (exN (fun k => bitB (us k) w) n))) ∧ f = f1) 0 0 := by
  refine mC.of (cc := cX3_isUsed) (maxL := 4) (ret := (some .boolean)) (by decide) rfl (Nat.le_of_ble_eq_true rfl) ?_
  intro pgm env s mt args below meth c A ls hx hb hml hr hlocks hown hname hts hK hE hA hM hl
  have hl : lv_has ls 4 [(0, .ref q0), (1, .int w)] := hl
  have hn16 := hQ.2.2.1
  refine lv_iconst (v := (nI 0)) hx hb dX3_isUsed_0 (by decide +kernel) ?_
  refine lv_istore_n (lv' := [(2, .int (nI 0)), (0, .ref q0), (1, .int w)]) hx hb dX3_isUsed_1 rfl hl (by decide) rfl (fun ls hl => ?_)
  have loopZ : ∀ (fuel : Nat) (i : Nat) (Hp : Heap) (lcs : List Loc) (ls : Array Slot) (hiN : i ≤ n) (hall : ∀ j, j < i → (fun k => bitB (us k) w) j = false) (hfu : n - i < fuel) (hM : mM G A s.heap f Hp lcs) (hl : lv_has ls 4 [(0, .ref q0), (1, .int w), (2, .int (nI i))]), W pgm l env ({ frames := 1, cells := 0, slots := 0, locals := 21 } : Room) s mt args below meth c Hp lcs 0 0 (MQ below (mQc G A (fun v f1 => v = some (.int (bI (exN (fun k => bitB (us k) w) n))) ∧ f = f1)) args s 0 0 A) (F0 mt 2 ls []) := by
    intro fuel
    induction fuel with
    | zero => intro i Hp lcs ls hiN hall hfu; exact absurd hfu (Nat.not_lt_zero _)
    | succ fuel ih =>
      intro i Hp lcs ls hiN hall hfu hM hl
      refine lv_iload_n hx hb dX3_isUsed_2 rfl (lv_at hl 2 rfl) ?_
      refine lv_aload_n hx hb dX3_isUsed_3 rfl (lv_at hl 0 rfl) ?_
      refine mm_get (C := RX3) (T := TX3) (N := 4) (k := 0) hx hb hts (fun _ h => List.mem_cons_of_mem _ (List.mem_append_left _ (List.mem_append_right _ h))) hown hK hM hQ.1 rfl (by decide) (hts (.fieldLink RX3 29 "SentenceRules$State" "sentenceCount" "I") (List.mem_of_getElem? (i := 1) rfl)) rfl rfl dX3_isUsed_4 ?_
      refine ln_icmp_ge i n (by omega) (by omega) (tgt := 39) hx hb dX3_isUsed_7 (by decide) (fun cz1 => ?_) (fun cz1 => ?_)
      · refine lv_iconst (v := (nI 0)) hx hb dX3_isUsed_39 (by decide +kernel) ?_
        exact mm_zret hx hb hlocks hr (by first | rfl | exact bI_nar _) (Nat.le_of_ble_eq_true rfl) (Nat.le_of_ble_eq_true rfl) hM (ret_f (exN_no (fun j hj => hall j (by omega)))) dX3_isUsed_40
      refine lv_aload_n hx hb dX3_isUsed_10 rfl (lv_at hl 0 rfl) ?_
      refine lv_iload_n hx hb dX3_isUsed_11 rfl (lv_at hl 2 rfl) ?_
      refine mm_V (As := [.int (nI i)]) (rest := []) ⟨hx, hb, hml, hown, hts⟩ (c3_sentenceAt l G hQ i (by omega)) (cwV 1 hts gX3_isUsed_X3_sentenceAt rfl rfl rfl (by decide +kernel) ⟨Nat.le_of_ble_eq_true rfl, Nat.le_of_ble_eq_true rfl⟩) hK hE hA hM (mm_recv hK hM hQ.1 (q := (RX3, TX3, 4)) rfl) rfl hl.1 rfl (Nat.le_of_ble_eq_true rfl) dX3_isUsed_12 ⟨Nat.le_of_ble_eq_true rfl, Nat.le_of_ble_eq_true rfl⟩ (fun v f1 Hp lcs hp hM => ?_)
      obtain ⟨rfl, hf⟩ := hp; subst hf
      have hz2 := hQ.2.2.2 i (by omega)
      refine lv_astore_n (lv' := [(3, .ref (X i)), (0, .ref q0), (1, .int w), (2, .int (nI i))]) hx hb dX3_isUsed_15 rfl hl (by decide) rfl (fun ls hl => ?_)
      refine lv_aload_n hx hb dX3_isUsed_16 rfl (lv_at hl 0 rfl) ?_
      refine lv_ifnull hx hb dX3_isUsed_17 ?_
      refine lv_aload_n hx hb dX3_isUsed_20 rfl (lv_at hl 0 rfl) ?_
      refine mm_get (C := RX2) (T := TX2) (N := 5) (k := 4) hx hb hts (fun _ h => List.mem_cons_of_mem _ (List.mem_append_right _ h)) hown hK hM hz2.2.1 rfl (by decide) (hts (.fieldLink RX3 50 "SentenceRules$Sentence" "used" "I") (List.mem_of_getElem? (i := 2) rfl)) rfl rfl dX3_isUsed_21 ?_
      refine lv_iload_n hx hb dX3_isUsed_24 rfl (lv_at hl 2 rfl) ?_
      refine mm_SN (As := [.int (us i), .int w]) (rest := []) ⟨hx, hb, hml, hown, hts⟩ (c5_isBitSet l G _ (us i) w) ⟨va_cnB 2 hts gX3_isUsed_X5_isBitSet_n53 rfl rfl rfl (hE.1.1 _ (List.mem_of_getElem? (i := 8) rfl)) (hts (.initialized RX5) (List.mem_of_getElem? (i := 10) rfl)) (by decide +kernel) ⟨Nat.le_of_ble_eq_true rfl, Nat.le_of_ble_eq_true rfl⟩, (hts (.static yX5_isBitSet) (List.mem_of_getElem? (i := 9) rfl)), trivial⟩ hK hE hA hM rfl hl.1 rfl (Nat.le_of_ble_eq_true rfl) dX3_isUsed_25 ⟨Nat.le_of_ble_eq_true rfl, Nat.le_of_ble_eq_true rfl⟩ (fun v f1 Hp lcs hp hM => ?_)
      obtain ⟨rfl, hf⟩ := hp; subst hf
      refine lvb_eq (tgt := 33) hx hb dX3_isUsed_28 (by decide) (fun cz3 => ?_) (fun cz3 => ?_)
      · refine lv_iinc (v := (nI (i + 1))) (lv' := [(2, .int (nI (i + 1))), (3, .ref (X i)), (0, .ref q0), (1, .int w)]) hx hb dX3_isUsed_33 hl (k := 3) rfl (nI_add _ _) (by decide) rfl (fun ls hl => ?_)
        refine lv_goto (tgt := 2) hx hb dX3_isUsed_36 (by decide) ?_
        exact ih (i + 1) _ _ ls (by omega) (fun j hj => (Nat.lt_succ_iff_lt_or_eq.mp hj).elim (hall j) (fun z => by subst z; simp [bI, cz1, cz3])) (by omega) hM (lv_sub hl [2, 3, 0] rfl)
      refine lv_iconst (v := (nI 1)) hx hb dX3_isUsed_31 (by decide +kernel) ?_
      exact mm_zret hx hb hlocks hr (by first | rfl | exact bI_nar _) (Nat.le_of_ble_eq_true rfl) (Nat.le_of_ble_eq_true rfl) hM (ret_t (exN_yes (i := i) (by omega) (by simp [cz1, cz3]))) dX3_isUsed_32
  exact loopZ (n + 1) 0 _ _ ls (Nat.zero_le _) (fun j hj => absurd hj (Nat.not_lt_zero j)) (by omega) hM (lv_sub hl [1, 2, 0] rfl)
set_option maxHeartbeats 4000000 in
set_option maxRecDepth 100000 in
theorem c3_applies (l : Launch) (G : mG) {f : mE} {q0 b fc pr n : Nat} {B : Nat → Option Nat} {X rg pa qa tk : Nat → Nat} {lo hi : Nat → Nat → Int32} {ab gv us : Nat → Int32} (hQ : StQ G f q0 b fc pr n B X rg pa qa tk lo hi ab gv us) {va : Nat} {g : Nat → Int32} (hc_v : f va = some (mI G 7 g)) (k : Nat) (hk : k < n) (r lf : Int32) : mC l G yX3_applies wsX3_applies ({ frames := 1, cells := 0, slots := 0, locals := 22 } : Room) f [.ref q0, .int (nI k), .int r, .ref va, .int lf] (fun v f1 => v = some (.int (bI (appD g lo hi ab lf k r))) ∧ f = f1) 0 0 := by
  refine mC.of (cc := cX3_applies) (maxL := 6) (ret := (some .boolean)) (by decide) rfl (Nat.le_of_ble_eq_true rfl) ?_
  intro pgm env s mt args below meth c A ls hx hb hml hr hlocks hown hname hts hK hE hA hM hl
  have hl : lv_has ls 6 [(0, .ref q0), (1, .int (nI k)), (2, .int r), (3, .ref va), (4, .int lf)] := hl
  have hn16 := hQ.2.2.1
  refine lv_aload_n hx hb dX3_applies_0 rfl (lv_at hl 0 rfl) ?_
  refine lv_iload_n hx hb dX3_applies_1 rfl (lv_at hl 1 rfl) ?_
  refine mm_V (As := [.int (nI k)]) (rest := []) ⟨hx, hb, hml, hown, hts⟩ (c3_sentenceAt l G hQ k (by omega)) (cwV 1 hts gX3_applies_X3_sentenceAt rfl rfl rfl (by decide +kernel) ⟨Nat.le_of_ble_eq_true rfl, Nat.le_of_ble_eq_true rfl⟩) hK hE hA hM (mm_recv hK hM hQ.1 (q := (RX3, TX3, 4)) rfl) rfl hl.1 rfl (Nat.le_of_ble_eq_true rfl) dX3_applies_2 ⟨Nat.le_of_ble_eq_true rfl, Nat.le_of_ble_eq_true rfl⟩ (fun v f1 Hp lcs hp hM => ?_)
  obtain ⟨rfl, hf⟩ := hp; subst hf
  have hz1 := hQ.2.2.2 k (by omega)
  refine lv_astore (lv' := [(5, .ref (X k)), (0, .ref q0), (1, .int (nI k)), (2, .int r), (3, .ref va), (4, .int lf)]) hx hb dX3_applies_5 hl (by decide) rfl (fun ls hl => ?_)
  refine lv_aload hx hb dX3_applies_7 (lv_at hl 0 rfl) ?_
  refine lv_ifnull hx hb dX3_applies_9 ?_
  refine lv_iload_n hx hb dX3_applies_12 rfl (lv_at hl 2 rfl) ?_
  refine lv_iload hx hb dX3_applies_13 (lv_at hl 5 rfl) ?_
  refine lv_icmp_eq (tgt := 43) hx hb dX3_applies_15 (by decide) (fun cz2 => ?_) (fun cz2 => ?_)
  · refine lv_iconst (v := (nI 0)) hx hb dX3_applies_43 (by decide +kernel) ?_
    exact mm_zret hx hb hlocks hr (by first | rfl | exact bI_nar _) (Nat.le_of_ble_eq_true rfl) (Nat.le_of_ble_eq_true rfl) hM (ret_f (by simp [appD, cz2])) dX3_applies_44
  refine lv_aload hx hb dX3_applies_18 (lv_at hl 0 rfl) ?_
  refine lv_iload_n hx hb dX3_applies_20 rfl (lv_at hl 3 rfl) ?_
  refine mm_V (As := [.int r]) (rest := []) ⟨hx, hb, hml, hown, hts⟩ (c2_isRuleFor l G hz1.2.1 r) (cwV 1 hts gX3_applies_X2_isRuleFor rfl rfl rfl (by decide +kernel) ⟨Nat.le_of_ble_eq_true rfl, Nat.le_of_ble_eq_true rfl⟩) hK hE hA hM (mm_recv hK hM hz1.2.1 (q := (RX2, TX2, 5)) rfl) rfl hl.1 rfl (Nat.le_of_ble_eq_true rfl) dX3_applies_21 ⟨Nat.le_of_ble_eq_true rfl, Nat.le_of_ble_eq_true rfl⟩ (fun v f1 Hp lcs hp hM => ?_)
  obtain ⟨rfl, hf⟩ := hp; subst hf
  refine lvb_eq (tgt := 43) hx hb dX3_applies_24 (by decide) (fun cz3 => ?_) (fun cz3 => ?_)
  · refine lv_iconst (v := (nI 0)) hx hb dX3_applies_43 (by decide +kernel) ?_
    exact mm_zret hx hb hlocks hr (by first | rfl | exact bI_nar _) (Nat.le_of_ble_eq_true rfl) (Nat.le_of_ble_eq_true rfl) hM (ret_f (by simp [appD, cz2, cz3])) dX3_applies_44
  refine lv_aload hx hb dX3_applies_27 (lv_at hl 0 rfl) ?_
  refine mm_get (C := RX2) (T := TX2) (N := 5) (k := 1) hx hb hts (fun _ h => List.mem_cons_of_mem _ (List.mem_append_left _ (List.mem_append_left _ (List.mem_append_right _ h)))) hown hK hM hz1.2.1 rfl (by decide) (hts (.fieldLink RX3 61 "SentenceRules$Sentence" "region" "LSentenceRules$Region;") (List.mem_of_getElem? (i := 1) rfl)) rfl rfl dX3_applies_29 ?_
  refine lv_aload_n hx hb dX3_applies_32 rfl (lv_at hl 4 rfl) ?_
  refine mm_V (As := [.ref va]) (rest := []) ⟨hx, hb, hml, hown, hts⟩ (c1_hasValues l G hz1.2.2.1 hz1.2.2.2.1 hz1.2.2.2.2 hc_v) (cwV 1 hts gX3_applies_X1_hasValues rfl rfl rfl (by decide +kernel) ⟨Nat.le_of_ble_eq_true rfl, Nat.le_of_ble_eq_true rfl⟩) hK hE hA hM (mm_recv hK hM hz1.2.2.1 (q := (RX1, TX1, 2)) rfl) rfl hl.1 rfl (Nat.le_of_ble_eq_true rfl) dX3_applies_33 ⟨Nat.le_of_ble_eq_true rfl, Nat.le_of_ble_eq_true rfl⟩ (fun v f1 Hp lcs hp hM => ?_)
  obtain ⟨rfl, hf⟩ := hp; subst hf
  refine lvb_eq (tgt := 43) hx hb dX3_applies_36 (by decide) (fun cz4 => ?_) (fun cz4 => ?_)
  · refine lv_iconst (v := (nI 0)) hx hb dX3_applies_43 (by decide +kernel) ?_
    exact mm_zret hx hb hlocks hr (by first | rfl | exact bI_nar _) (Nat.le_of_ble_eq_true rfl) (Nat.le_of_ble_eq_true rfl) hM (ret_f (by simp [appD, cz2, cz3, cz4])) dX3_applies_44
  refine lv_iconst (v := (nI 1)) hx hb dX3_applies_39 (by decide +kernel) ?_
  refine lv_goto (tgt := 44) hx hb dX3_applies_40 (by decide) ?_
  exact mm_zret hx hb hlocks hr (by first | rfl | exact bI_nar _) (Nat.le_of_ble_eq_true rfl) (Nat.le_of_ble_eq_true rfl) hM (ret_t (by simp [appD, cz2, cz3, cz4])) dX3_applies_44
set_option maxHeartbeats 4000000 in
set_option maxRecDepth 100000 in
theorem c3_isOverridden (l : Launch) (G : mG) {f : mE} {q0 b fc pr n : Nat} {B : Nat → Option Nat} {X rg pa qa tk : Nat → Nat} {lo hi : Nat → Nat → Int32} {ab gv us : Nat → Int32} (hQ : StQ G f q0 b fc pr n B X rg pa qa tk lo hi ab gv us) {va : Nat} {g : Nat → Int32} (hc_v : f va = some (mI G 7 g)) (k : Nat) (hk : k < n) (r lf : Int32) : mC l G yX3_isOverridden wsX3_isOverridden ({ frames := 2, cells := 0, slots := 0, locals := 47 } : Room) f [.ref q0, .int (nI k), .int r, .ref va, .int lf] (fun v f1 => v = some (.int (bI (exN (ovrQ g lo hi ab lf k r) n))) ∧ f = f1) 0 0 := by
  refine mC.of (cc := cX3_isOverridden) (maxL := 8) (ret := (some .boolean)) (by decide) rfl (Nat.le_of_ble_eq_true rfl) ?_
  intro pgm env s mt args below meth c A ls hx hb hml hr hlocks hown hname hts hK hE hA hM hl
  have hl : lv_has ls 8 [(0, .ref q0), (1, .int (nI k)), (2, .int r), (3, .ref va), (4, .int lf)] := hl
  have hn16 := hQ.2.2.1
  refine lv_aload_n hx hb dX3_isOverridden_0 rfl (lv_at hl 0 rfl) ?_
  refine lv_iload_n hx hb dX3_isOverridden_1 rfl (lv_at hl 1 rfl) ?_
  refine mm_V (As := [.int (nI k)]) (rest := []) ⟨hx, hb, hml, hown, hts⟩ (c3_sentenceAt l G hQ k (by omega)) (cwV 1 hts gX3_isOverridden_X3_sentenceAt rfl rfl rfl (by decide +kernel) ⟨Nat.le_of_ble_eq_true rfl, Nat.le_of_ble_eq_true rfl⟩) hK hE hA hM (mm_recv hK hM hQ.1 (q := (RX3, TX3, 4)) rfl) rfl hl.1 rfl (Nat.le_of_ble_eq_true rfl) dX3_isOverridden_2 ⟨Nat.le_of_ble_eq_true rfl, Nat.le_of_ble_eq_true rfl⟩ (fun v f1 Hp lcs hp hM => ?_)
  obtain ⟨rfl, hf⟩ := hp; subst hf
  have hz1 := hQ.2.2.2 k (by omega)
  refine lv_astore (lv' := [(5, .ref (X k)), (0, .ref q0), (1, .int (nI k)), (2, .int r), (3, .ref va), (4, .int lf)]) hx hb dX3_isOverridden_5 hl (by decide) rfl (fun ls hl => ?_)
  refine lv_aload hx hb dX3_isOverridden_7 (lv_at hl 0 rfl) ?_
  refine lv_ifnonnull (tgt := 14) hx hb dX3_isOverridden_9 (by decide) ?_
  refine lv_iconst (v := (nI 0)) hx hb dX3_isOverridden_14 (by decide +kernel) ?_
  refine lv_istore (lv' := [(6, .int (nI 0)), (5, .ref (X k)), (0, .ref q0), (1, .int (nI k)), (2, .int r), (3, .ref va), (4, .int lf)]) hx hb dX3_isOverridden_15 hl (by decide) rfl (fun ls hl => ?_)
  have loopZ : ∀ (fuel : Nat) (i : Nat) (Hp : Heap) (lcs : List Loc) (ls : Array Slot) (hiN : i ≤ n) (hall : ∀ j, j < i → ovrQ g lo hi ab lf k r j = false) (hfu : n - i < fuel) (hM : mM G A s.heap f Hp lcs) (hl : lv_has ls 8 [(0, .ref q0), (1, .int (nI k)), (2, .int r), (3, .ref va), (4, .int lf), (5, .ref (X k)), (6, .int (nI i))]), W pgm l env ({ frames := 2, cells := 0, slots := 0, locals := 47 } : Room) s mt args below meth c Hp lcs 0 0 (MQ below (mQc G A (fun v f1 => v = some (.int (bI (exN (ovrQ g lo hi ab lf k r) n))) ∧ f = f1)) args s 0 0 A) (F0 mt 17 ls []) := by
    intro fuel
    induction fuel with
    | zero => intro i Hp lcs ls hiN hall hfu; exact absurd hfu (Nat.not_lt_zero _)
    | succ fuel ih =>
      intro i Hp lcs ls hiN hall hfu hM hl
      refine lv_iload hx hb dX3_isOverridden_17 (lv_at hl 6 rfl) ?_
      refine lv_aload_n hx hb dX3_isOverridden_19 rfl (lv_at hl 0 rfl) ?_
      refine mm_get (C := RX3) (T := TX3) (N := 4) (k := 0) hx hb hts (fun _ h => List.mem_cons_of_mem _ (List.mem_append_left _ (List.mem_append_left _ (List.mem_append_right _ h)))) hown hK hM hQ.1 rfl (by decide) (hts (.fieldLink RX3 29 "SentenceRules$State" "sentenceCount" "I") (List.mem_of_getElem? (i := 1) rfl)) rfl rfl dX3_isOverridden_20 ?_
      refine ln_icmp_ge i n (by omega) (by omega) (tgt := 76) hx hb dX3_isOverridden_23 (by decide) (fun cz2 => ?_) (fun cz2 => ?_)
      · refine lv_iconst (v := (nI 0)) hx hb dX3_isOverridden_76 (by decide +kernel) ?_
        exact mm_zret hx hb hlocks hr (by first | rfl | exact bI_nar _) (Nat.le_of_ble_eq_true rfl) (Nat.le_of_ble_eq_true rfl) hM (ret_f (exN_no (fun j hj => hall j (by omega)))) dX3_isOverridden_77
      refine lv_aload_n hx hb dX3_isOverridden_26 rfl (lv_at hl 0 rfl) ?_
      refine lv_iload hx hb dX3_isOverridden_27 (lv_at hl 6 rfl) ?_
      refine mm_V (As := [.int (nI i)]) (rest := []) ⟨hx, hb, hml, hown, hts⟩ (c3_sentenceAt l G hQ i (by omega)) (cwV 1 hts gX3_isOverridden_X3_sentenceAt rfl rfl rfl (by decide +kernel) ⟨Nat.le_of_ble_eq_true rfl, Nat.le_of_ble_eq_true rfl⟩) hK hE hA hM (mm_recv hK hM hQ.1 (q := (RX3, TX3, 4)) rfl) rfl hl.1 rfl (Nat.le_of_ble_eq_true rfl) dX3_isOverridden_29 ⟨Nat.le_of_ble_eq_true rfl, Nat.le_of_ble_eq_true rfl⟩ (fun v f1 Hp lcs hp hM => ?_)
      obtain ⟨rfl, hf⟩ := hp; subst hf
      have hz3 := hQ.2.2.2 i (by omega)
      refine lv_astore (lv' := [(7, .ref (X i)), (0, .ref q0), (1, .int (nI k)), (2, .int r), (3, .ref va), (4, .int lf), (5, .ref (X k)), (6, .int (nI i))]) hx hb dX3_isOverridden_32 hl (by decide) rfl (fun ls hl => ?_)
      refine lv_aload hx hb dX3_isOverridden_34 (lv_at hl 0 rfl) ?_
      refine lv_ifnull hx hb dX3_isOverridden_36 ?_
      refine lv_aload_n hx hb dX3_isOverridden_39 rfl (lv_at hl 1 rfl) ?_
      refine lv_iload hx hb dX3_isOverridden_40 (lv_at hl 7 rfl) ?_
      refine lv_iload_n hx hb dX3_isOverridden_42 rfl (lv_at hl 3 rfl) ?_
      refine lv_aload_n hx hb dX3_isOverridden_43 rfl (lv_at hl 4 rfl) ?_
      refine lv_iload hx hb dX3_isOverridden_44 (lv_at hl 5 rfl) ?_
      refine mm_V (As := [.int (nI i), .int r, .ref va, .int lf]) (rest := []) ⟨hx, hb, hml, hown, hts⟩ (c3_applies l G hQ hc_v i (by omega) r lf) (cwV 4 hts gX3_isOverridden_X3_applies rfl rfl rfl (by decide +kernel) ⟨Nat.le_of_ble_eq_true rfl, Nat.le_of_ble_eq_true rfl⟩) hK hE hA hM (mm_recv hK hM hQ.1 (q := (RX3, TX3, 4)) rfl) rfl hl.1 rfl (Nat.le_of_ble_eq_true rfl) dX3_isOverridden_46 ⟨Nat.le_of_ble_eq_true rfl, Nat.le_of_ble_eq_true rfl⟩ (fun v f1 Hp lcs hp hM => ?_)
      obtain ⟨rfl, hf⟩ := hp; subst hf
      refine lvb_eq (tgt := 70) hx hb dX3_isOverridden_49 (by decide) (fun cz4 => ?_) (fun cz4 => ?_)
      · refine lv_iinc (v := (nI (i + 1))) (lv' := [(6, .int (nI (i + 1))), (7, .ref (X i)), (0, .ref q0), (1, .int (nI k)), (2, .int r), (3, .ref va), (4, .int lf), (5, .ref (X k))]) hx hb dX3_isOverridden_70 hl (k := 7) rfl (nI_add _ _) (by decide) rfl (fun ls hl => ?_)
        refine lv_goto (tgt := 17) hx hb dX3_isOverridden_73 (by decide) ?_
        exact ih (i + 1) _ _ ls (by omega) (fun j hj => (Nat.lt_succ_iff_lt_or_eq.mp hj).elim (hall j) (fun z => by subst z; simp [ovrQ, strD, cz2, cz4])) (by omega) hM (lv_sub hl [2, 3, 4, 5, 6, 7, 0] rfl)
      refine lv_aload hx hb dX3_isOverridden_52 (lv_at hl 0 rfl) ?_
      refine mm_get (C := RX2) (T := TX2) (N := 5) (k := 1) hx hb hts (fun _ h => List.mem_cons_of_mem _ (List.mem_append_left _ (List.mem_append_right _ h))) hown hK hM hz3.2.1 rfl (by decide) (hts (.fieldLink RX3 61 "SentenceRules$Sentence" "region" "LSentenceRules$Region;") (List.mem_of_getElem? (i := 2) rfl)) rfl rfl dX3_isOverridden_54 ?_
      refine lv_aload hx hb dX3_isOverridden_57 (lv_at hl 6 rfl) ?_
      refine mm_get (C := RX2) (T := TX2) (N := 5) (k := 1) hx hb hts (fun _ h => List.mem_cons_of_mem _ (List.mem_append_left _ (List.mem_append_right _ h))) hown hK hM hz1.2.1 rfl (by decide) (hts (.fieldLink RX3 61 "SentenceRules$Sentence" "region" "LSentenceRules$Region;") (List.mem_of_getElem? (i := 2) rfl)) rfl rfl dX3_isOverridden_59 ?_
      refine mm_V (As := [.ref (rg k)]) (rest := []) ⟨hx, hb, hml, hown, hts⟩ (c1_isStrictlyInside l G hz3.2.2.1 hz3.2.2.2.1 hz3.2.2.2.2 hz1.2.2.1 hz1.2.2.2.1 hz1.2.2.2.2) (cwV 1 hts gX3_isOverridden_X1_isStrictlyInside rfl rfl rfl (by decide +kernel) ⟨Nat.le_of_ble_eq_true rfl, Nat.le_of_ble_eq_true rfl⟩) hK hE hA hM (mm_recv hK hM hz3.2.2.1 (q := (RX1, TX1, 2)) rfl) rfl hl.1 rfl (Nat.le_of_ble_eq_true rfl) dX3_isOverridden_62 ⟨Nat.le_of_ble_eq_true rfl, Nat.le_of_ble_eq_true rfl⟩ (fun v f1 Hp lcs hp hM => ?_)
      obtain ⟨rfl, hf⟩ := hp; subst hf
      refine lvb_eq (tgt := 70) hx hb dX3_isOverridden_65 (by decide) (fun cz5 => ?_) (fun cz5 => ?_)
      · refine lv_iinc (v := (nI (i + 1))) (lv' := [(6, .int (nI (i + 1))), (7, .ref (X i)), (0, .ref q0), (1, .int (nI k)), (2, .int r), (3, .ref va), (4, .int lf), (5, .ref (X k))]) hx hb dX3_isOverridden_70 hl (k := 7) rfl (nI_add _ _) (by decide) rfl (fun ls hl => ?_)
        refine lv_goto (tgt := 17) hx hb dX3_isOverridden_73 (by decide) ?_
        exact ih (i + 1) _ _ ls (by omega) (fun j hj => (Nat.lt_succ_iff_lt_or_eq.mp hj).elim (hall j) (fun z => by subst z; simp [ovrQ, strD, cz2, cz4, cz5])) (by omega) hM (lv_sub hl [2, 3, 4, 5, 6, 7, 0] rfl)
      refine lv_iconst (v := (nI 1)) hx hb dX3_isOverridden_68 (by decide +kernel) ?_
      exact mm_zret hx hb hlocks hr (by first | rfl | exact bI_nar _) (Nat.le_of_ble_eq_true rfl) (Nat.le_of_ble_eq_true rfl) hM (ret_t (exN_yes (i := i) (by omega) (by simp [ovrQ, strD, cz2, cz4, cz5]))) dX3_isOverridden_69
  exact loopZ (n + 1) 0 _ _ ls (Nat.zero_le _) (fun j hj => absurd hj (Nat.not_lt_zero j)) (by omega) hM (lv_sub hl [2, 3, 4, 5, 6, 1, 0] rfl)
set_option maxHeartbeats 4000000 in
set_option maxRecDepth 100000 in
theorem c3_isReason (l : Launch) (G : mG) {f : mE} {q0 b fc pr n : Nat} {B : Nat → Option Nat} {X rg pa qa tk : Nat → Nat} {lo hi : Nat → Nat → Int32} {ab gv us : Nat → Int32} (hQ : StQ G f q0 b fc pr n B X rg pa qa tk lo hi ab gv us) {va : Nat} {g : Nat → Int32} (hc_v : f va = some (mI G 7 g)) (k : Nat) (hk : k < n) (r lf : Int32) : mC l G yX3_isReason wsX3_isReason ({ frames := 3, cells := 0, slots := 0, locals := 74 } : Room) f [.ref q0, .int (nI k), .int r, .ref va, .int lf] (fun v f1 => v = some (.int (bI (reaD g lo hi ab lf n k r))) ∧ f = f1) 0 0 := by
  refine mC.of (cc := cX3_isReason) (maxL := 5) (ret := (some .boolean)) (by decide) rfl (Nat.le_of_ble_eq_true rfl) ?_
  intro pgm env s mt args below meth c A ls hx hb hml hr hlocks hown hname hts hK hE hA hM hl
  have hl : lv_has ls 5 [(0, .ref q0), (1, .int (nI k)), (2, .int r), (3, .ref va), (4, .int lf)] := hl
  have hn16 := hQ.2.2.1
  refine lv_aload_n hx hb dX3_isReason_0 rfl (lv_at hl 0 rfl) ?_
  refine lv_iload_n hx hb dX3_isReason_1 rfl (lv_at hl 1 rfl) ?_
  refine lv_iload_n hx hb dX3_isReason_2 rfl (lv_at hl 2 rfl) ?_
  refine lv_aload_n hx hb dX3_isReason_3 rfl (lv_at hl 3 rfl) ?_
  refine lv_iload hx hb dX3_isReason_4 (lv_at hl 4 rfl) ?_
  refine mm_V (As := [.int (nI k), .int r, .ref va, .int lf]) (rest := []) ⟨hx, hb, hml, hown, hts⟩ (c3_applies l G hQ hc_v k (by omega) r lf) (cwV 4 hts gX3_isReason_X3_applies rfl rfl rfl (by decide +kernel) ⟨Nat.le_of_ble_eq_true rfl, Nat.le_of_ble_eq_true rfl⟩) hK hE hA hM (mm_recv hK hM hQ.1 (q := (RX3, TX3, 4)) rfl) rfl hl.1 rfl (Nat.le_of_ble_eq_true rfl) dX3_isReason_6 ⟨Nat.le_of_ble_eq_true rfl, Nat.le_of_ble_eq_true rfl⟩ (fun v f1 Hp lcs hp hM => ?_)
  obtain ⟨rfl, hf⟩ := hp; subst hf
  refine lvb_eq (tgt := 28) hx hb dX3_isReason_9 (by decide) (fun cz1 => ?_) (fun cz1 => ?_)
  · refine lv_iconst (v := (nI 0)) hx hb dX3_isReason_28 (by decide +kernel) ?_
    exact mm_zret hx hb hlocks hr (by first | rfl | exact bI_nar _) (Nat.le_of_ble_eq_true rfl) (Nat.le_of_ble_eq_true rfl) hM (ret_f (by simp [reaD, cz1])) dX3_isReason_29
  refine lv_aload_n hx hb dX3_isReason_12 rfl (lv_at hl 0 rfl) ?_
  refine lv_iload_n hx hb dX3_isReason_13 rfl (lv_at hl 1 rfl) ?_
  refine lv_iload_n hx hb dX3_isReason_14 rfl (lv_at hl 2 rfl) ?_
  refine lv_aload_n hx hb dX3_isReason_15 rfl (lv_at hl 3 rfl) ?_
  refine lv_iload hx hb dX3_isReason_16 (lv_at hl 4 rfl) ?_
  refine mm_V (As := [.int (nI k), .int r, .ref va, .int lf]) (rest := []) ⟨hx, hb, hml, hown, hts⟩ (c3_isOverridden l G hQ hc_v k (by omega) r lf) (cwV 4 hts gX3_isReason_X3_isOverridden rfl rfl rfl (by decide +kernel) ⟨Nat.le_of_ble_eq_true rfl, Nat.le_of_ble_eq_true rfl⟩) hK hE hA hM (mm_recv hK hM hQ.1 (q := (RX3, TX3, 4)) rfl) rfl hl.1 rfl (Nat.le_of_ble_eq_true rfl) dX3_isReason_18 ⟨Nat.le_of_ble_eq_true rfl, Nat.le_of_ble_eq_true rfl⟩ (fun v f1 Hp lcs hp hM => ?_)
  obtain ⟨rfl, hf⟩ := hp; subst hf
  refine lvb_ne (tgt := 28) hx hb dX3_isReason_21 (by decide) (fun cz2 => ?_) (fun cz2 => ?_)
  · refine lv_iconst (v := (nI 0)) hx hb dX3_isReason_28 (by decide +kernel) ?_
    exact mm_zret hx hb hlocks hr (by first | rfl | exact bI_nar _) (Nat.le_of_ble_eq_true rfl) (Nat.le_of_ble_eq_true rfl) hM (ret_f (by simp [reaD, cz1, cz2])) dX3_isReason_29
  refine lv_iconst (v := (nI 1)) hx hb dX3_isReason_24 (by decide +kernel) ?_
  refine lv_goto (tgt := 29) hx hb dX3_isReason_25 (by decide) ?_
  exact mm_zret hx hb hlocks hr (by first | rfl | exact bI_nar _) (Nat.le_of_ble_eq_true rfl) (Nat.le_of_ble_eq_true rfl) hM (ret_t (by simp [reaD, cz1, cz2])) dX3_isReason_29
set_option maxHeartbeats 4000000 in
set_option maxRecDepth 100000 in
theorem c3_answerFor (l : Launch) (G : mG) {f : mE} {q0 b fc pr n : Nat} {B : Nat → Option Nat} {X rg pa qa tk : Nat → Nat} {lo hi : Nat → Nat → Int32} {ab gv us : Nat → Int32} (hQ : StQ G f q0 b fc pr n B X rg pa qa tk lo hi ab gv us) {va : Nat} {g : Nat → Int32} (hc_v : f va = some (mI G 7 g)) (r lf : Int32) : mC l G yX3_answerFor wsX3_answerFor ({ frames := 4, cells := 0, slots := 0, locals := 98 } : Room) f [.ref q0, .int r, .ref va, .int lf] (fun v f1 => v = some (.int (ansD g lo hi ab gv lf n r n 0 (-100005))) ∧ f = f1) 0 0 := by
  refine mC.of (cc := cX3_answerFor) (maxL := 7) (ret := (some .int)) (by decide) rfl (Nat.le_of_ble_eq_true rfl) ?_
  intro pgm env s mt args below meth c A ls hx hb hml hr hlocks hown hname hts hK hE hA hM hl
  have hl : lv_has ls 7 [(0, .ref q0), (1, .int r), (2, .ref va), (3, .int lf)] := hl
  have hn16 := hQ.2.2.1
  refine lv_ldc (v := (-100005)) hx hb hown (hts (.constant RX3 82 (-100005)) (List.mem_of_getElem? (i := 1) rfl)) dX3_answerFor_0 ?_
  refine lv_istore (lv' := [(4, .int (-100005)), (0, .ref q0), (1, .int r), (2, .ref va), (3, .int lf)]) hx hb dX3_answerFor_2 hl (by decide) rfl (fun ls hl => ?_)
  refine lv_iconst (v := (nI 0)) hx hb dX3_answerFor_4 (by decide +kernel) ?_
  refine lv_istore (lv' := [(5, .int (nI 0)), (4, .int (-100005)), (0, .ref q0), (1, .int r), (2, .ref va), (3, .int lf)]) hx hb dX3_answerFor_5 hl (by decide) rfl (fun ls hl => ?_)
  have loopZ : ∀ (fuel : Nat) (i : Nat) (fo : Int32) (Hp : Heap) (lcs : List Loc) (ls : Array Slot) (hiN : i ≤ n) (hfin : ansD g lo hi ab gv lf n r (n - i) i fo = ansD g lo hi ab gv lf n r n 0 (-100005)) (hfu : n - i < fuel) (hM : mM G A s.heap f Hp lcs) (hl : lv_has ls 7 [(0, .ref q0), (1, .int r), (2, .ref va), (3, .int lf), (4, .int fo), (5, .int (nI i))]), W pgm l env ({ frames := 4, cells := 0, slots := 0, locals := 98 } : Room) s mt args below meth c Hp lcs 0 0 (MQ below (mQc G A (fun v f1 => v = some (.int (ansD g lo hi ab gv lf n r n 0 (-100005))) ∧ f = f1)) args s 0 0 A) (F0 mt 7 ls []) := by
    intro fuel
    induction fuel with
    | zero => intro i fo Hp lcs ls hiN hfin hfu; exact absurd hfu (Nat.not_lt_zero _)
    | succ fuel ih =>
      intro i fo Hp lcs ls hiN hfin hfu hM hl
      refine lv_iload hx hb dX3_answerFor_7 (lv_at hl 5 rfl) ?_
      refine lv_aload_n hx hb dX3_answerFor_9 rfl (lv_at hl 0 rfl) ?_
      refine mm_get (C := RX3) (T := TX3) (N := 4) (k := 0) hx hb hts (fun _ h => List.mem_cons_of_mem _ (List.mem_append_left _ (List.mem_append_left _ (List.mem_append_right _ h)))) hown hK hM hQ.1 rfl (by decide) (hts (.fieldLink RX3 29 "SentenceRules$State" "sentenceCount" "I") (List.mem_of_getElem? (i := 2) rfl)) rfl rfl dX3_answerFor_10 ?_
      refine ln_icmp_ge i n (by omega) (by omega) (tgt := 74) hx hb dX3_answerFor_13 (by decide) (fun cz1 => ?_) (fun cz1 => ?_)
      · refine lv_iload hx hb dX3_answerFor_74 (lv_at hl 4 rfl) ?_
        exact mm_iret hx hb hlocks hr (Nat.le_of_ble_eq_true rfl) (Nat.le_of_ble_eq_true rfl) hM (ret_v (by rw [← hfin]; exact ansD_end cz1)) dX3_answerFor_76
      refine lv_aload_n hx hb dX3_answerFor_16 rfl (lv_at hl 0 rfl) ?_
      refine lv_iload hx hb dX3_answerFor_17 (lv_at hl 5 rfl) ?_
      refine mm_V (As := [.int (nI i)]) (rest := []) ⟨hx, hb, hml, hown, hts⟩ (c3_sentenceAt l G hQ i (by omega)) (cwV 1 hts gX3_answerFor_X3_sentenceAt rfl rfl rfl (by decide +kernel) ⟨Nat.le_of_ble_eq_true rfl, Nat.le_of_ble_eq_true rfl⟩) hK hE hA hM (mm_recv hK hM hQ.1 (q := (RX3, TX3, 4)) rfl) rfl hl.1 rfl (Nat.le_of_ble_eq_true rfl) dX3_answerFor_19 ⟨Nat.le_of_ble_eq_true rfl, Nat.le_of_ble_eq_true rfl⟩ (fun v f1 Hp lcs hp hM => ?_)
      obtain ⟨rfl, hf⟩ := hp; subst hf
      have hz2 := hQ.2.2.2 i (by omega)
      refine lv_astore (lv' := [(6, .ref (X i)), (0, .ref q0), (1, .int r), (2, .ref va), (3, .int lf), (4, .int fo), (5, .int (nI i))]) hx hb dX3_answerFor_22 hl (by decide) rfl (fun ls hl => ?_)
      refine lv_aload hx hb dX3_answerFor_24 (lv_at hl 0 rfl) ?_
      refine lv_ifnull hx hb dX3_answerFor_26 ?_
      refine lv_aload_n hx hb dX3_answerFor_29 rfl (lv_at hl 1 rfl) ?_
      refine lv_iload hx hb dX3_answerFor_30 (lv_at hl 6 rfl) ?_
      refine lv_iload_n hx hb dX3_answerFor_32 rfl (lv_at hl 2 rfl) ?_
      refine lv_aload_n hx hb dX3_answerFor_33 rfl (lv_at hl 3 rfl) ?_
      refine lv_iload_n hx hb dX3_answerFor_34 rfl (lv_at hl 4 rfl) ?_
      refine mm_V (As := [.int (nI i), .int r, .ref va, .int lf]) (rest := []) ⟨hx, hb, hml, hown, hts⟩ (c3_isReason l G hQ hc_v i (by omega) r lf) (cwV 4 hts gX3_answerFor_X3_isReason rfl rfl rfl (by decide +kernel) ⟨Nat.le_of_ble_eq_true rfl, Nat.le_of_ble_eq_true rfl⟩) hK hE hA hM (mm_recv hK hM hQ.1 (q := (RX3, TX3, 4)) rfl) rfl hl.1 rfl (Nat.le_of_ble_eq_true rfl) dX3_answerFor_35 ⟨Nat.le_of_ble_eq_true rfl, Nat.le_of_ble_eq_true rfl⟩ (fun v f1 Hp lcs hp hM => ?_)
      obtain ⟨rfl, hf⟩ := hp; subst hf
      refine lvb_eq (tgt := 68) hx hb dX3_answerFor_38 (by decide) (fun cz3 => ?_) (fun cz3 => ?_)
      · refine lv_iinc (v := (nI (i + 1))) (lv' := [(5, .int (nI (i + 1))), (6, .ref (X i)), (0, .ref q0), (1, .int r), (2, .ref va), (3, .int lf), (4, .int fo)]) hx hb dX3_answerFor_68 hl (k := 6) rfl (nI_add _ _) (by decide) rfl (fun ls hl => ?_)
        refine lv_goto (tgt := 7) hx hb dX3_answerFor_71 (by decide) ?_
        exact ih (i + 1) _ _ _ ls (by omega) (by rw [← hfin]; exact (ansD_no cz1 cz3).symm) (by omega) hM (lv_sub hl [2, 3, 4, 5, 6, 0] rfl)
      refine lv_iload hx hb dX3_answerFor_41 (lv_at hl 5 rfl) ?_
      refine lv_ldc (v := (-100005)) hx hb hown (hts (.constant RX3 82 (-100005)) (List.mem_of_getElem? (i := 1) rfl)) dX3_answerFor_43 ?_
      refine lv_icmp_eq (tgt := 61) hx hb dX3_answerFor_45 (by decide) (fun cz4 => ?_) (fun cz4 => ?_)
      · refine lv_aload hx hb dX3_answerFor_61 (lv_at hl 0 rfl) ?_
        refine mm_get (C := RX2) (T := TX2) (N := 5) (k := 3) hx hb hts (fun _ h => List.mem_cons_of_mem _ (List.mem_append_left _ (List.mem_append_right _ h))) hown hK hM hz2.2.1 rfl (by decide) (hts (.fieldLink RX3 86 "SentenceRules$Sentence" "given" "I") (List.mem_of_getElem? (i := 3) rfl)) rfl rfl dX3_answerFor_63 ?_
        refine lv_istore (lv' := [(4, .int (gv i)), (6, .ref (X i)), (0, .ref q0), (1, .int r), (2, .ref va), (3, .int lf), (5, .int (nI i))]) hx hb dX3_answerFor_66 hl (by decide) rfl (fun ls hl => ?_)
        refine lv_iinc (v := (nI (i + 1))) (lv' := [(5, .int (nI (i + 1))), (4, .int (gv i)), (6, .ref (X i)), (0, .ref q0), (1, .int r), (2, .ref va), (3, .int lf)]) hx hb dX3_answerFor_68 hl (k := 6) rfl (nI_add _ _) (by decide) rfl (fun ls hl => ?_)
        refine lv_goto (tgt := 7) hx hb dX3_answerFor_71 (by decide) ?_
        exact ih (i + 1) _ _ _ ls (by omega) (by rw [← hfin]; exact (ansD_go cz1 cz3 (Or.inl cz4)).symm) (by omega) hM (lv_sub hl [3, 4, 5, 6, 1, 0] rfl)
      refine lv_iload hx hb dX3_answerFor_48 (lv_at hl 5 rfl) ?_
      refine lv_aload hx hb dX3_answerFor_50 (lv_at hl 0 rfl) ?_
      refine mm_get (C := RX2) (T := TX2) (N := 5) (k := 3) hx hb hts (fun _ h => List.mem_cons_of_mem _ (List.mem_append_left _ (List.mem_append_right _ h))) hown hK hM hz2.2.1 rfl (by decide) (hts (.fieldLink RX3 86 "SentenceRules$Sentence" "given" "I") (List.mem_of_getElem? (i := 3) rfl)) rfl rfl dX3_answerFor_52 ?_
      refine lv_icmp_eq (tgt := 61) hx hb dX3_answerFor_55 (by decide) (fun cz5 => ?_) (fun cz5 => ?_)
      · refine lv_aload hx hb dX3_answerFor_61 (lv_at hl 0 rfl) ?_
        refine mm_get (C := RX2) (T := TX2) (N := 5) (k := 3) hx hb hts (fun _ h => List.mem_cons_of_mem _ (List.mem_append_left _ (List.mem_append_right _ h))) hown hK hM hz2.2.1 rfl (by decide) (hts (.fieldLink RX3 86 "SentenceRules$Sentence" "given" "I") (List.mem_of_getElem? (i := 3) rfl)) rfl rfl dX3_answerFor_63 ?_
        refine lv_istore (lv' := [(4, .int (gv i)), (6, .ref (X i)), (0, .ref q0), (1, .int r), (2, .ref va), (3, .int lf), (5, .int (nI i))]) hx hb dX3_answerFor_66 hl (by decide) rfl (fun ls hl => ?_)
        refine lv_iinc (v := (nI (i + 1))) (lv' := [(5, .int (nI (i + 1))), (4, .int (gv i)), (6, .ref (X i)), (0, .ref q0), (1, .int r), (2, .ref va), (3, .int lf)]) hx hb dX3_answerFor_68 hl (k := 6) rfl (nI_add _ _) (by decide) rfl (fun ls hl => ?_)
        refine lv_goto (tgt := 7) hx hb dX3_answerFor_71 (by decide) ?_
        exact ih (i + 1) _ _ _ ls (by omega) (by rw [← hfin]; exact (ansD_go cz1 cz3 (Or.inr cz5)).symm) (by omega) hM (lv_sub hl [3, 4, 5, 6, 1, 0] rfl)
      refine lv_ldc (v := (-100006)) hx hb hown (hts (.constant RX3 89 (-100006)) (List.mem_of_getElem? (i := 4) rfl)) dX3_answerFor_58 ?_
      exact mm_iret hx hb hlocks hr (Nat.le_of_ble_eq_true rfl) (Nat.le_of_ble_eq_true rfl) hM (ret_v (by rw [← hfin]; exact ansD_ref cz1 cz3 cz4 cz5)) dX3_answerFor_60
  exact loopZ (n + 1) 0 _ _ _ ls (Nat.zero_le _) rfl (by omega) hM (lv_sub hl [2, 3, 4, 5, 1, 0] rfl)
set_option maxHeartbeats 4000000 in
set_option maxRecDepth 100000 in
theorem c3_comesBefore (l : Launch) (G : mG) {f : mE} {q0 b fc pr n : Nat} {B : Nat → Option Nat} {X rg pa qa tk : Nat → Nat} {lo hi : Nat → Nat → Int32} {ab gv us : Nat → Int32} (hQ : StQ G f q0 b fc pr n B X rg pa qa tk lo hi ab gv us) (j k : Nat) (hj : j < n) (hk : k < n) : mC l G yX3_comesBefore wsX3_comesBefore ({ frames := 2, cells := 0, slots := 0, locals := 42 } : Room) f [.ref q0, .int (nI j), .int (nI k)] (fun v f1 => v = some (.int (bI (befD lo hi j k))) ∧ f = f1) 0 0 := by
  refine mC.of (cc := cX3_comesBefore) (maxL := 6) (ret := (some .boolean)) (by decide) rfl (Nat.le_of_ble_eq_true rfl) ?_
  intro pgm env s mt args below meth c A ls hx hb hml hr hlocks hown hname hts hK hE hA hM hl
  have hl : lv_has ls 6 [(0, .ref q0), (1, .int (nI j)), (2, .int (nI k))] := hl
  have hn16 := hQ.2.2.1
  have hl1 := limD_le lo hi j
  have hl2 := limD_le lo hi k
  refine lv_aload_n hx hb dX3_comesBefore_0 rfl (lv_at hl 0 rfl) ?_
  refine lv_iload_n hx hb dX3_comesBefore_1 rfl (lv_at hl 1 rfl) ?_
  refine mm_V (As := [.int (nI j)]) (rest := []) ⟨hx, hb, hml, hown, hts⟩ (c3_sentenceAt l G hQ j (by omega)) (cwV 1 hts gX3_comesBefore_X3_sentenceAt rfl rfl rfl (by decide +kernel) ⟨Nat.le_of_ble_eq_true rfl, Nat.le_of_ble_eq_true rfl⟩) hK hE hA hM (mm_recv hK hM hQ.1 (q := (RX3, TX3, 4)) rfl) rfl hl.1 rfl (Nat.le_of_ble_eq_true rfl) dX3_comesBefore_2 ⟨Nat.le_of_ble_eq_true rfl, Nat.le_of_ble_eq_true rfl⟩ (fun v f1 Hp lcs hp hM => ?_)
  obtain ⟨rfl, hf⟩ := hp; subst hf
  have hz1 := hQ.2.2.2 j (by omega)
  refine lv_astore_n (lv' := [(3, .ref (X j)), (0, .ref q0), (1, .int (nI j)), (2, .int (nI k))]) hx hb dX3_comesBefore_5 rfl hl (by decide) rfl (fun ls hl => ?_)
  refine lv_aload_n hx hb dX3_comesBefore_6 rfl (lv_at hl 1 rfl) ?_
  refine lv_iload_n hx hb dX3_comesBefore_7 rfl (lv_at hl 3 rfl) ?_
  refine mm_V (As := [.int (nI k)]) (rest := []) ⟨hx, hb, hml, hown, hts⟩ (c3_sentenceAt l G hQ k (by omega)) (cwV 1 hts gX3_comesBefore_X3_sentenceAt rfl rfl rfl (by decide +kernel) ⟨Nat.le_of_ble_eq_true rfl, Nat.le_of_ble_eq_true rfl⟩) hK hE hA hM (mm_recv hK hM hQ.1 (q := (RX3, TX3, 4)) rfl) rfl hl.1 rfl (Nat.le_of_ble_eq_true rfl) dX3_comesBefore_8 ⟨Nat.le_of_ble_eq_true rfl, Nat.le_of_ble_eq_true rfl⟩ (fun v f1 Hp lcs hp hM => ?_)
  obtain ⟨rfl, hf⟩ := hp; subst hf
  have hz2 := hQ.2.2.2 k (by omega)
  refine lv_astore (lv' := [(4, .ref (X k)), (3, .ref (X j)), (0, .ref q0), (1, .int (nI j)), (2, .int (nI k))]) hx hb dX3_comesBefore_11 hl (by decide) rfl (fun ls hl => ?_)
  refine lv_aload_n hx hb dX3_comesBefore_13 rfl (lv_at hl 1 rfl) ?_
  refine lv_ifnull hx hb dX3_comesBefore_14 ?_
  refine lv_aload hx hb dX3_comesBefore_17 (lv_at hl 0 rfl) ?_
  refine lv_ifnonnull (tgt := 24) hx hb dX3_comesBefore_19 (by decide) ?_
  refine lv_aload_n hx hb dX3_comesBefore_24 rfl (lv_at hl 1 rfl) ?_
  refine mm_get (C := RX2) (T := TX2) (N := 5) (k := 1) hx hb hts (fun _ h => List.mem_cons_of_mem _ (List.mem_append_left _ (List.mem_append_left _ (List.mem_append_right _ h)))) hown hK hM hz1.2.1 rfl (by decide) (hts (.fieldLink RX3 61 "SentenceRules$Sentence" "region" "LSentenceRules$Region;") (List.mem_of_getElem? (i := 1) rfl)) rfl rfl dX3_comesBefore_25 ?_
  refine mm_V (As := []) (rest := []) ⟨hx, hb, hml, hown, hts⟩ (c1_limitedFacts l G hz1.2.2.1 hz1.2.2.2.1 hz1.2.2.2.2) (cwV 0 hts gX3_comesBefore_X1_limitedFacts rfl rfl rfl (by decide +kernel) ⟨Nat.le_of_ble_eq_true rfl, Nat.le_of_ble_eq_true rfl⟩) hK hE hA hM (mm_recv hK hM hz1.2.2.1 (q := (RX1, TX1, 2)) rfl) rfl hl.1 rfl (Nat.le_of_ble_eq_true rfl) dX3_comesBefore_28 ⟨Nat.le_of_ble_eq_true rfl, Nat.le_of_ble_eq_true rfl⟩ (fun v f1 Hp lcs hp hM => ?_)
  obtain ⟨rfl, hf⟩ := hp; subst hf
  refine lv_aload hx hb dX3_comesBefore_31 (lv_at hl 0 rfl) ?_
  refine mm_get (C := RX2) (T := TX2) (N := 5) (k := 1) hx hb hts (fun _ h => List.mem_cons_of_mem _ (List.mem_append_left _ (List.mem_append_left _ (List.mem_append_right _ h)))) hown hK hM hz2.2.1 rfl (by decide) (hts (.fieldLink RX3 61 "SentenceRules$Sentence" "region" "LSentenceRules$Region;") (List.mem_of_getElem? (i := 1) rfl)) rfl rfl dX3_comesBefore_33 ?_
  refine mm_V (As := []) (rest := [.int (nI (limD lo hi j))]) ⟨hx, hb, hml, hown, hts⟩ (c1_limitedFacts l G hz2.2.2.1 hz2.2.2.2.1 hz2.2.2.2.2) (cwV 0 hts gX3_comesBefore_X1_limitedFacts rfl rfl rfl (by decide +kernel) ⟨Nat.le_of_ble_eq_true rfl, Nat.le_of_ble_eq_true rfl⟩) hK hE hA hM (mm_recv hK hM hz2.2.2.1 (q := (RX1, TX1, 2)) rfl) rfl hl.1 rfl (Nat.le_of_ble_eq_true rfl) dX3_comesBefore_36 ⟨Nat.le_of_ble_eq_true rfl, Nat.le_of_ble_eq_true rfl⟩ (fun v f1 Hp lcs hp hM => ?_)
  obtain ⟨rfl, hf⟩ := hp; subst hf
  refine lv_isub hx hb dX3_comesBefore_39 ?_
  refine lv_istore (lv' := [(5, .int ((nI (limD lo hi j)) - (nI (limD lo hi k)))), (4, .ref (X k)), (3, .ref (X j)), (0, .ref q0), (1, .int (nI j)), (2, .int (nI k))]) hx hb dX3_comesBefore_40 hl (by decide) rfl (fun ls hl => ?_)
  refine lv_iload hx hb dX3_comesBefore_42 (lv_at hl 0 rfl) ?_
  refine lv_if_gt (tgt := 57) hx hb dX3_comesBefore_44 (by decide) (fun cz3 => ?_) (fun cz3 => ?_)
  · refine lv_iconst (v := (nI 1)) hx hb dX3_comesBefore_57 (by decide +kernel) ?_
    refine lv_goto (tgt := 62) hx hb dX3_comesBefore_58 (by decide) ?_
    exact mm_zret hx hb hlocks hr (by first | rfl | exact bI_nar _) (Nat.le_of_ble_eq_true rfl) (Nat.le_of_ble_eq_true rfl) hM (ret_t (by exact bef_t1 (by omega) (by omega) cz3)) dX3_comesBefore_62
  refine lv_iload hx hb dX3_comesBefore_47 (lv_at hl 0 rfl) ?_
  refine lv_if_ne (tgt := 61) hx hb dX3_comesBefore_49 (by decide) (fun cz4 => ?_) (fun cz4 => ?_)
  · refine lv_iconst (v := (nI 0)) hx hb dX3_comesBefore_61 (by decide +kernel) ?_
    exact mm_zret hx hb hlocks hr (by first | rfl | exact bI_nar _) (Nat.le_of_ble_eq_true rfl) (Nat.le_of_ble_eq_true rfl) hM (ret_f (by exact bef_f2 (by omega) (by omega) cz3 cz4)) dX3_comesBefore_62
  refine lv_iload_n hx hb dX3_comesBefore_52 rfl (lv_at hl 4 rfl) ?_
  refine lv_iload_n hx hb dX3_comesBefore_53 rfl (lv_at hl 5 rfl) ?_
  refine ln_icmp_ge j k (by omega) (by omega) (tgt := 61) hx hb dX3_comesBefore_54 (by decide) (fun cz5 => ?_) (fun cz5 => ?_)
  · refine lv_iconst (v := (nI 0)) hx hb dX3_comesBefore_61 (by decide +kernel) ?_
    exact mm_zret hx hb hlocks hr (by first | rfl | exact bI_nar _) (Nat.le_of_ble_eq_true rfl) (Nat.le_of_ble_eq_true rfl) hM (ret_f (by exact bef_f3 (by omega) (by omega) cz3 cz4 cz5)) dX3_comesBefore_62
  refine lv_iconst (v := (nI 1)) hx hb dX3_comesBefore_57 (by decide +kernel) ?_
  refine lv_goto (tgt := 62) hx hb dX3_comesBefore_58 (by decide) ?_
  exact mm_zret hx hb hlocks hr (by first | rfl | exact bI_nar _) (Nat.le_of_ble_eq_true rfl) (Nat.le_of_ble_eq_true rfl) hM (ret_t (by exact bef_t3 (by omega) (by omega) cz3 cz4 cz5)) dX3_comesBefore_62
set_option maxHeartbeats 4000000 in
set_option maxRecDepth 100000 in
theorem c3_hasRule (l : Launch) (G : mG) {f : mE} {q0 b fc pr n : Nat} {B : Nat → Option Nat} {X rg pa qa tk : Nat → Nat} {lo hi : Nat → Nat → Int32} {ab gv us : Nat → Int32} (hQ : StQ G f q0 b fc pr n B X rg pa qa tk lo hi ab gv us) (x y : Nat) (hx6 : x < n) (hy6 : y < n) : mC l G yX3_hasRuleForCommonRegion wsX3_hasRuleForCommonRegion ({ frames := 2, cells := 0, slots := 0, locals := 44 } : Room) f [.ref q0, .ref (X x), .ref (X y)] (fun v f1 => v = some (.int (bI (exN (hrcQ lo hi ab x y) n))) ∧ f = f1) 0 0 := by
  refine mC.of (cc := cX3_hasRuleForCommonRegion) (maxL := 5) (ret := (some .boolean)) (by decide) rfl (Nat.le_of_ble_eq_true rfl) ?_
  intro pgm env s mt args below meth c A ls hx hb hml hr hlocks hown hname hts hK hE hA hM hl
  have hl : lv_has ls 5 [(0, .ref q0), (1, .ref (X x)), (2, .ref (X y))] := hl
  have hn16 := hQ.2.2.1
  have hsx := hQ.2.2.2 x hx6
  have hsy := hQ.2.2.2 y hy6
  refine lv_iconst (v := (nI 0)) hx hb dX3_hasRuleForCommonRegion_0 (by decide +kernel) ?_
  refine lv_istore_n (lv' := [(3, .int (nI 0)), (0, .ref q0), (1, .ref (X x)), (2, .ref (X y))]) hx hb dX3_hasRuleForCommonRegion_1 rfl hl (by decide) rfl (fun ls hl => ?_)
  have loopZ : ∀ (fuel : Nat) (i : Nat) (Hp : Heap) (lcs : List Loc) (ls : Array Slot) (hiN : i ≤ n) (hall : ∀ j, j < i → hrcQ lo hi ab x y j = false) (hfu : n - i < fuel) (hM : mM G A s.heap f Hp lcs) (hl : lv_has ls 5 [(0, .ref q0), (1, .ref (X x)), (2, .ref (X y)), (3, .int (nI i))]), W pgm l env ({ frames := 2, cells := 0, slots := 0, locals := 44 } : Room) s mt args below meth c Hp lcs 0 0 (MQ below (mQc G A (fun v f1 => v = some (.int (bI (exN (hrcQ lo hi ab x y) n))) ∧ f = f1)) args s 0 0 A) (F0 mt 2 ls []) := by
    intro fuel
    induction fuel with
    | zero => intro i Hp lcs ls hiN hall hfu; exact absurd hfu (Nat.not_lt_zero _)
    | succ fuel ih =>
      intro i Hp lcs ls hiN hall hfu hM hl
      refine lv_iload_n hx hb dX3_hasRuleForCommonRegion_2 rfl (lv_at hl 3 rfl) ?_
      refine lv_aload_n hx hb dX3_hasRuleForCommonRegion_3 rfl (lv_at hl 0 rfl) ?_
      refine mm_get (C := RX3) (T := TX3) (N := 4) (k := 0) hx hb hts (fun _ h => List.mem_cons_of_mem _ (List.mem_append_left _ (List.mem_append_left _ (List.mem_append_right _ h)))) hown hK hM hQ.1 rfl (by decide) (hts (.fieldLink RX3 29 "SentenceRules$State" "sentenceCount" "I") (List.mem_of_getElem? (i := 1) rfl)) rfl rfl dX3_hasRuleForCommonRegion_4 ?_
      refine ln_icmp_ge i n (by omega) (by omega) (tgt := 61) hx hb dX3_hasRuleForCommonRegion_7 (by decide) (fun cz1 => ?_) (fun cz1 => ?_)
      · refine lv_iconst (v := (nI 0)) hx hb dX3_hasRuleForCommonRegion_61 (by decide +kernel) ?_
        exact mm_zret hx hb hlocks hr (by first | rfl | exact bI_nar _) (Nat.le_of_ble_eq_true rfl) (Nat.le_of_ble_eq_true rfl) hM (ret_f (exN_no (fun j hj => hall j (by omega)))) dX3_hasRuleForCommonRegion_62
      refine lv_aload_n hx hb dX3_hasRuleForCommonRegion_10 rfl (lv_at hl 0 rfl) ?_
      refine lv_iload_n hx hb dX3_hasRuleForCommonRegion_11 rfl (lv_at hl 3 rfl) ?_
      refine mm_V (As := [.int (nI i)]) (rest := []) ⟨hx, hb, hml, hown, hts⟩ (c3_sentenceAt l G hQ i (by omega)) (cwV 1 hts gX3_hasRuleForCommonRegion_X3_sentenceAt rfl rfl rfl (by decide +kernel) ⟨Nat.le_of_ble_eq_true rfl, Nat.le_of_ble_eq_true rfl⟩) hK hE hA hM (mm_recv hK hM hQ.1 (q := (RX3, TX3, 4)) rfl) rfl hl.1 rfl (Nat.le_of_ble_eq_true rfl) dX3_hasRuleForCommonRegion_12 ⟨Nat.le_of_ble_eq_true rfl, Nat.le_of_ble_eq_true rfl⟩ (fun v f1 Hp lcs hp hM => ?_)
      obtain ⟨rfl, hf⟩ := hp; subst hf
      have hz2 := hQ.2.2.2 i (by omega)
      refine lv_astore (lv' := [(4, .ref (X i)), (0, .ref q0), (1, .ref (X x)), (2, .ref (X y)), (3, .int (nI i))]) hx hb dX3_hasRuleForCommonRegion_15 hl (by decide) rfl (fun ls hl => ?_)
      refine lv_aload hx hb dX3_hasRuleForCommonRegion_17 (lv_at hl 0 rfl) ?_
      refine lv_ifnull hx hb dX3_hasRuleForCommonRegion_19 ?_
      refine lv_aload hx hb dX3_hasRuleForCommonRegion_22 (lv_at hl 0 rfl) ?_
      refine lv_aload_n hx hb dX3_hasRuleForCommonRegion_24 rfl (lv_at hl 2 rfl) ?_
      refine mm_get (C := RX2) (T := TX2) (N := 5) (k := 2) hx hb hts (fun _ h => List.mem_cons_of_mem _ (List.mem_append_left _ (List.mem_append_right _ h))) hown hK hM hsx.2.1 rfl (by decide) (hts (.fieldLink RX3 47 "SentenceRules$Sentence" "about" "I") (List.mem_of_getElem? (i := 2) rfl)) rfl rfl dX3_hasRuleForCommonRegion_25 ?_
      refine mm_V (As := [.int (ab x)]) (rest := []) ⟨hx, hb, hml, hown, hts⟩ (c2_isRuleFor l G hz2.2.1 (ab x)) (cwV 1 hts gX3_hasRuleForCommonRegion_X2_isRuleFor rfl rfl rfl (by decide +kernel) ⟨Nat.le_of_ble_eq_true rfl, Nat.le_of_ble_eq_true rfl⟩) hK hE hA hM (mm_recv hK hM hz2.2.1 (q := (RX2, TX2, 5)) rfl) rfl hl.1 rfl (Nat.le_of_ble_eq_true rfl) dX3_hasRuleForCommonRegion_28 ⟨Nat.le_of_ble_eq_true rfl, Nat.le_of_ble_eq_true rfl⟩ (fun v f1 Hp lcs hp hM => ?_)
      obtain ⟨rfl, hf⟩ := hp; subst hf
      refine lvb_eq (tgt := 55) hx hb dX3_hasRuleForCommonRegion_31 (by decide) (fun cz3 => ?_) (fun cz3 => ?_)
      · refine lv_iinc (v := (nI (i + 1))) (lv' := [(3, .int (nI (i + 1))), (4, .ref (X i)), (0, .ref q0), (1, .ref (X x)), (2, .ref (X y))]) hx hb dX3_hasRuleForCommonRegion_55 hl (k := 4) rfl (nI_add _ _) (by decide) rfl (fun ls hl => ?_)
        refine lv_goto (tgt := 2) hx hb dX3_hasRuleForCommonRegion_58 (by decide) ?_
        exact ih (i + 1) _ _ ls (by omega) (fun j hj => (Nat.lt_succ_iff_lt_or_eq.mp hj).elim (hall j) (fun z => by subst z; simp [hrcQ, cz1, cz3])) (by omega) hM (lv_sub hl [2, 3, 4, 0] rfl)
      refine lv_aload hx hb dX3_hasRuleForCommonRegion_34 (lv_at hl 0 rfl) ?_
      refine mm_get (C := RX2) (T := TX2) (N := 5) (k := 1) hx hb hts (fun _ h => List.mem_cons_of_mem _ (List.mem_append_left _ (List.mem_append_right _ h))) hown hK hM hz2.2.1 rfl (by decide) (hts (.fieldLink RX3 61 "SentenceRules$Sentence" "region" "LSentenceRules$Region;") (List.mem_of_getElem? (i := 3) rfl)) rfl rfl dX3_hasRuleForCommonRegion_36 ?_
      refine lv_aload_n hx hb dX3_hasRuleForCommonRegion_39 rfl (lv_at hl 2 rfl) ?_
      refine mm_get (C := RX2) (T := TX2) (N := 5) (k := 1) hx hb hts (fun _ h => List.mem_cons_of_mem _ (List.mem_append_left _ (List.mem_append_right _ h))) hown hK hM hsx.2.1 rfl (by decide) (hts (.fieldLink RX3 61 "SentenceRules$Sentence" "region" "LSentenceRules$Region;") (List.mem_of_getElem? (i := 3) rfl)) rfl rfl dX3_hasRuleForCommonRegion_40 ?_
      refine lv_aload_n hx hb dX3_hasRuleForCommonRegion_43 rfl (lv_at hl 3 rfl) ?_
      refine mm_get (C := RX2) (T := TX2) (N := 5) (k := 1) hx hb hts (fun _ h => List.mem_cons_of_mem _ (List.mem_append_left _ (List.mem_append_right _ h))) hown hK hM hsy.2.1 rfl (by decide) (hts (.fieldLink RX3 61 "SentenceRules$Sentence" "region" "LSentenceRules$Region;") (List.mem_of_getElem? (i := 3) rfl)) rfl rfl dX3_hasRuleForCommonRegion_44 ?_
      refine mm_V (As := [.ref (rg x), .ref (rg y)]) (rest := []) ⟨hx, hb, hml, hown, hts⟩ (c1_isCommonTo l G hz2.2.2.1 hz2.2.2.2.1 hz2.2.2.2.2 hsx.2.2.1 hsx.2.2.2.1 hsx.2.2.2.2 hsy.2.2.1 hsy.2.2.2.1 hsy.2.2.2.2) (cwV 2 hts gX3_hasRuleForCommonRegion_X1_isCommonTo rfl rfl rfl (by decide +kernel) ⟨Nat.le_of_ble_eq_true rfl, Nat.le_of_ble_eq_true rfl⟩) hK hE hA hM (mm_recv hK hM hz2.2.2.1 (q := (RX1, TX1, 2)) rfl) rfl hl.1 rfl (Nat.le_of_ble_eq_true rfl) dX3_hasRuleForCommonRegion_47 ⟨Nat.le_of_ble_eq_true rfl, Nat.le_of_ble_eq_true rfl⟩ (fun v f1 Hp lcs hp hM => ?_)
      obtain ⟨rfl, hf⟩ := hp; subst hf
      refine lvb_eq (tgt := 55) hx hb dX3_hasRuleForCommonRegion_50 (by decide) (fun cz4 => ?_) (fun cz4 => ?_)
      · refine lv_iinc (v := (nI (i + 1))) (lv' := [(3, .int (nI (i + 1))), (4, .ref (X i)), (0, .ref q0), (1, .ref (X x)), (2, .ref (X y))]) hx hb dX3_hasRuleForCommonRegion_55 hl (k := 4) rfl (nI_add _ _) (by decide) rfl (fun ls hl => ?_)
        refine lv_goto (tgt := 2) hx hb dX3_hasRuleForCommonRegion_58 (by decide) ?_
        exact ih (i + 1) _ _ ls (by omega) (fun j hj => (Nat.lt_succ_iff_lt_or_eq.mp hj).elim (hall j) (fun z => by subst z; simp [hrcQ, cz1, cz3, cz4])) (by omega) hM (lv_sub hl [2, 3, 4, 0] rfl)
      refine lv_iconst (v := (nI 1)) hx hb dX3_hasRuleForCommonRegion_53 (by decide +kernel) ?_
      exact mm_zret hx hb hlocks hr (by first | rfl | exact bI_nar _) (Nat.le_of_ble_eq_true rfl) (Nat.le_of_ble_eq_true rfl) hM (ret_t (exN_yes (i := i) (by omega) (by simp [hrcQ, cz1, cz3, cz4]))) dX3_hasRuleForCommonRegion_54
  exact loopZ (n + 1) 0 _ _ ls (Nat.zero_le _) (fun j hj => absurd hj (Nat.not_lt_zero j)) (by omega) hM (lv_sub hl [1, 2, 3, 0] rfl)
set_option maxHeartbeats 4000000 in
set_option maxRecDepth 100000 in
theorem c3_doContradict (l : Launch) (G : mG) {f : mE} {q0 b fc pr n : Nat} {B : Nat → Option Nat} {X rg pa qa tk : Nat → Nat} {lo hi : Nat → Nat → Int32} {ab gv us : Nat → Int32} (hQ : StQ G f q0 b fc pr n B X rg pa qa tk lo hi ab gv us) (x y : Nat) (hx6 : x < n) (hy6 : y < n) : mC l G yX3_doContradict wsX3_doContradict ({ frames := 3, cells := 0, slots := 0, locals := 68 } : Room) f [.ref q0, .int (nI x), .int (nI y)] (fun v f1 => v = some (.int (bI (conD lo hi ab gv n x y))) ∧ f = f1) 0 0 := by
  refine mC.of (cc := cX3_doContradict) (maxL := 5) (ret := (some .boolean)) (by decide) rfl (Nat.le_of_ble_eq_true rfl) ?_
  intro pgm env s mt args below meth c A ls hx hb hml hr hlocks hown hname hts hK hE hA hM hl
  have hl : lv_has ls 5 [(0, .ref q0), (1, .int (nI x)), (2, .int (nI y))] := hl
  have hn16 := hQ.2.2.1
  refine lv_aload_n hx hb dX3_doContradict_0 rfl (lv_at hl 0 rfl) ?_
  refine lv_iload_n hx hb dX3_doContradict_1 rfl (lv_at hl 1 rfl) ?_
  refine mm_V (As := [.int (nI x)]) (rest := []) ⟨hx, hb, hml, hown, hts⟩ (c3_sentenceAt l G hQ x (by omega)) (cwV 1 hts gX3_doContradict_X3_sentenceAt rfl rfl rfl (by decide +kernel) ⟨Nat.le_of_ble_eq_true rfl, Nat.le_of_ble_eq_true rfl⟩) hK hE hA hM (mm_recv hK hM hQ.1 (q := (RX3, TX3, 4)) rfl) rfl hl.1 rfl (Nat.le_of_ble_eq_true rfl) dX3_doContradict_2 ⟨Nat.le_of_ble_eq_true rfl, Nat.le_of_ble_eq_true rfl⟩ (fun v f1 Hp lcs hp hM => ?_)
  obtain ⟨rfl, hf⟩ := hp; subst hf
  have hz1 := hQ.2.2.2 x (by omega)
  refine lv_astore_n (lv' := [(3, .ref (X x)), (0, .ref q0), (1, .int (nI x)), (2, .int (nI y))]) hx hb dX3_doContradict_5 rfl hl (by decide) rfl (fun ls hl => ?_)
  refine lv_aload_n hx hb dX3_doContradict_6 rfl (lv_at hl 1 rfl) ?_
  refine lv_iload_n hx hb dX3_doContradict_7 rfl (lv_at hl 3 rfl) ?_
  refine mm_V (As := [.int (nI y)]) (rest := []) ⟨hx, hb, hml, hown, hts⟩ (c3_sentenceAt l G hQ y (by omega)) (cwV 1 hts gX3_doContradict_X3_sentenceAt rfl rfl rfl (by decide +kernel) ⟨Nat.le_of_ble_eq_true rfl, Nat.le_of_ble_eq_true rfl⟩) hK hE hA hM (mm_recv hK hM hQ.1 (q := (RX3, TX3, 4)) rfl) rfl hl.1 rfl (Nat.le_of_ble_eq_true rfl) dX3_doContradict_8 ⟨Nat.le_of_ble_eq_true rfl, Nat.le_of_ble_eq_true rfl⟩ (fun v f1 Hp lcs hp hM => ?_)
  obtain ⟨rfl, hf⟩ := hp; subst hf
  have hz2 := hQ.2.2.2 y (by omega)
  refine lv_astore (lv' := [(4, .ref (X y)), (3, .ref (X x)), (0, .ref q0), (1, .int (nI x)), (2, .int (nI y))]) hx hb dX3_doContradict_11 hl (by decide) rfl (fun ls hl => ?_)
  refine lv_aload_n hx hb dX3_doContradict_13 rfl (lv_at hl 1 rfl) ?_
  refine lv_ifnull hx hb dX3_doContradict_14 ?_
  refine lv_aload hx hb dX3_doContradict_17 (lv_at hl 0 rfl) ?_
  refine lv_ifnull hx hb dX3_doContradict_19 ?_
  refine lv_aload_n hx hb dX3_doContradict_22 rfl (lv_at hl 1 rfl) ?_
  refine mm_V (As := []) (rest := []) ⟨hx, hb, hml, hown, hts⟩ (c2_isDefinition l G hz1.2.1) (cwV 0 hts gX3_doContradict_X2_isDefinition rfl rfl rfl (by decide +kernel) ⟨Nat.le_of_ble_eq_true rfl, Nat.le_of_ble_eq_true rfl⟩) hK hE hA hM (mm_recv hK hM hz1.2.1 (q := (RX2, TX2, 5)) rfl) rfl hl.1 rfl (Nat.le_of_ble_eq_true rfl) dX3_doContradict_23 ⟨Nat.le_of_ble_eq_true rfl, Nat.le_of_ble_eq_true rfl⟩ (fun v f1 Hp lcs hp hM => ?_)
  obtain ⟨rfl, hf⟩ := hp; subst hf
  refine lvb_ne (tgt := 41) hx hb dX3_doContradict_26 (by decide) (fun cz3 => ?_) (fun cz3 => ?_)
  · refine lv_iconst (v := (nI 0)) hx hb dX3_doContradict_41 (by decide +kernel) ?_
    exact mm_zret hx hb hlocks hr (by first | rfl | exact bI_nar _) (Nat.le_of_ble_eq_true rfl) (Nat.le_of_ble_eq_true rfl) hM (ret_f (by rw [conD, bnot_t cz3]; rfl)) dX3_doContradict_42
  refine lv_aload_n hx hb dX3_doContradict_29 rfl (lv_at hl 1 rfl) ?_
  refine mm_get (C := RX2) (T := TX2) (N := 5) (k := 2) hx hb hts (fun _ h => List.mem_cons_of_mem _ (List.mem_append_left _ (List.mem_append_left _ (List.mem_append_right _ h)))) hown hK hM hz1.2.1 rfl (by decide) (hts (.fieldLink RX3 47 "SentenceRules$Sentence" "about" "I") (List.mem_of_getElem? (i := 1) rfl)) rfl rfl dX3_doContradict_30 ?_
  refine lv_aload hx hb dX3_doContradict_33 (lv_at hl 0 rfl) ?_
  refine mm_get (C := RX2) (T := TX2) (N := 5) (k := 2) hx hb hts (fun _ h => List.mem_cons_of_mem _ (List.mem_append_left _ (List.mem_append_left _ (List.mem_append_right _ h)))) hown hK hM hz2.2.1 rfl (by decide) (hts (.fieldLink RX3 47 "SentenceRules$Sentence" "about" "I") (List.mem_of_getElem? (i := 1) rfl)) rfl rfl dX3_doContradict_35 ?_
  refine lv_icmp_eq (tgt := 43) hx hb dX3_doContradict_38 (by decide) (fun cz4 => ?_) (fun cz4 => ?_)
  · refine lv_aload_n hx hb dX3_doContradict_43 rfl (lv_at hl 1 rfl) ?_
    refine mm_get (C := RX2) (T := TX2) (N := 5) (k := 3) hx hb hts (fun _ h => List.mem_cons_of_mem _ (List.mem_append_left _ (List.mem_append_left _ (List.mem_append_right _ h)))) hown hK hM hz1.2.1 rfl (by decide) (hts (.fieldLink RX3 86 "SentenceRules$Sentence" "given" "I") (List.mem_of_getElem? (i := 2) rfl)) rfl rfl dX3_doContradict_44 ?_
    refine lv_aload hx hb dX3_doContradict_47 (lv_at hl 0 rfl) ?_
    refine mm_get (C := RX2) (T := TX2) (N := 5) (k := 3) hx hb hts (fun _ h => List.mem_cons_of_mem _ (List.mem_append_left _ (List.mem_append_left _ (List.mem_append_right _ h)))) hown hK hM hz2.2.1 rfl (by decide) (hts (.fieldLink RX3 86 "SentenceRules$Sentence" "given" "I") (List.mem_of_getElem? (i := 2) rfl)) rfl rfl dX3_doContradict_49 ?_
    refine lv_icmp_eq (tgt := 114) hx hb dX3_doContradict_52 (by decide) (fun cz5 => ?_) (fun cz5 => ?_)
    · refine lv_iconst (v := (nI 0)) hx hb dX3_doContradict_114 (by decide +kernel) ?_
      exact mm_zret hx hb hlocks hr (by first | rfl | exact bI_nar _) (Nat.le_of_ble_eq_true rfl) (Nat.le_of_ble_eq_true rfl) hM (ret_f (by rw [conD, bnot_f cz3]; simp [strD, cz4, cz5])) dX3_doContradict_115
    refine lv_aload_n hx hb dX3_doContradict_55 rfl (lv_at hl 1 rfl) ?_
    refine mm_get (C := RX2) (T := TX2) (N := 5) (k := 1) hx hb hts (fun _ h => List.mem_cons_of_mem _ (List.mem_append_left _ (List.mem_append_left _ (List.mem_append_right _ h)))) hown hK hM hz1.2.1 rfl (by decide) (hts (.fieldLink RX3 61 "SentenceRules$Sentence" "region" "LSentenceRules$Region;") (List.mem_of_getElem? (i := 3) rfl)) rfl rfl dX3_doContradict_56 ?_
    refine lv_aload hx hb dX3_doContradict_59 (lv_at hl 0 rfl) ?_
    refine mm_get (C := RX2) (T := TX2) (N := 5) (k := 1) hx hb hts (fun _ h => List.mem_cons_of_mem _ (List.mem_append_left _ (List.mem_append_left _ (List.mem_append_right _ h)))) hown hK hM hz2.2.1 rfl (by decide) (hts (.fieldLink RX3 61 "SentenceRules$Sentence" "region" "LSentenceRules$Region;") (List.mem_of_getElem? (i := 3) rfl)) rfl rfl dX3_doContradict_61 ?_
    refine mm_V (As := [.ref (rg y)]) (rest := []) ⟨hx, hb, hml, hown, hts⟩ (c1_meets l G hz1.2.2.1 hz1.2.2.2.1 hz1.2.2.2.2 hz2.2.2.1 hz2.2.2.2.1 hz2.2.2.2.2) (cwV 1 hts gX3_doContradict_X1_meets rfl rfl rfl (by decide +kernel) ⟨Nat.le_of_ble_eq_true rfl, Nat.le_of_ble_eq_true rfl⟩) hK hE hA hM (mm_recv hK hM hz1.2.2.1 (q := (RX1, TX1, 2)) rfl) rfl hl.1 rfl (Nat.le_of_ble_eq_true rfl) dX3_doContradict_64 ⟨Nat.le_of_ble_eq_true rfl, Nat.le_of_ble_eq_true rfl⟩ (fun v f1 Hp lcs hp hM => ?_)
    obtain ⟨rfl, hf⟩ := hp; subst hf
    refine lvb_eq (tgt := 114) hx hb dX3_doContradict_67 (by decide) (fun cz6 => ?_) (fun cz6 => ?_)
    · refine lv_iconst (v := (nI 0)) hx hb dX3_doContradict_114 (by decide +kernel) ?_
      exact mm_zret hx hb hlocks hr (by first | rfl | exact bI_nar _) (Nat.le_of_ble_eq_true rfl) (Nat.le_of_ble_eq_true rfl) hM (ret_f (by rw [conD, bnot_f cz3]; simp [strD, cz4, cz5, cz6])) dX3_doContradict_115
    refine lv_aload_n hx hb dX3_doContradict_70 rfl (lv_at hl 1 rfl) ?_
    refine mm_get (C := RX2) (T := TX2) (N := 5) (k := 1) hx hb hts (fun _ h => List.mem_cons_of_mem _ (List.mem_append_left _ (List.mem_append_left _ (List.mem_append_right _ h)))) hown hK hM hz1.2.1 rfl (by decide) (hts (.fieldLink RX3 61 "SentenceRules$Sentence" "region" "LSentenceRules$Region;") (List.mem_of_getElem? (i := 3) rfl)) rfl rfl dX3_doContradict_71 ?_
    refine lv_aload hx hb dX3_doContradict_74 (lv_at hl 0 rfl) ?_
    refine mm_get (C := RX2) (T := TX2) (N := 5) (k := 1) hx hb hts (fun _ h => List.mem_cons_of_mem _ (List.mem_append_left _ (List.mem_append_left _ (List.mem_append_right _ h)))) hown hK hM hz2.2.1 rfl (by decide) (hts (.fieldLink RX3 61 "SentenceRules$Sentence" "region" "LSentenceRules$Region;") (List.mem_of_getElem? (i := 3) rfl)) rfl rfl dX3_doContradict_76 ?_
    refine mm_V (As := [.ref (rg y)]) (rest := []) ⟨hx, hb, hml, hown, hts⟩ (c1_isStrictlyInside l G hz1.2.2.1 hz1.2.2.2.1 hz1.2.2.2.2 hz2.2.2.1 hz2.2.2.2.1 hz2.2.2.2.2) (cwV 1 hts gX3_doContradict_X1_isStrictlyInside rfl rfl rfl (by decide +kernel) ⟨Nat.le_of_ble_eq_true rfl, Nat.le_of_ble_eq_true rfl⟩) hK hE hA hM (mm_recv hK hM hz1.2.2.1 (q := (RX1, TX1, 2)) rfl) rfl hl.1 rfl (Nat.le_of_ble_eq_true rfl) dX3_doContradict_79 ⟨Nat.le_of_ble_eq_true rfl, Nat.le_of_ble_eq_true rfl⟩ (fun v f1 Hp lcs hp hM => ?_)
    obtain ⟨rfl, hf⟩ := hp; subst hf
    refine lvb_ne (tgt := 114) hx hb dX3_doContradict_82 (by decide) (fun cz7 => ?_) (fun cz7 => ?_)
    · refine lv_iconst (v := (nI 0)) hx hb dX3_doContradict_114 (by decide +kernel) ?_
      exact mm_zret hx hb hlocks hr (by first | rfl | exact bI_nar _) (Nat.le_of_ble_eq_true rfl) (Nat.le_of_ble_eq_true rfl) hM (ret_f (by rw [conD, bnot_f cz3]; simp [strD, cz4, cz5, cz6, cz7])) dX3_doContradict_115
    refine lv_aload hx hb dX3_doContradict_85 (lv_at hl 0 rfl) ?_
    refine mm_get (C := RX2) (T := TX2) (N := 5) (k := 1) hx hb hts (fun _ h => List.mem_cons_of_mem _ (List.mem_append_left _ (List.mem_append_left _ (List.mem_append_right _ h)))) hown hK hM hz2.2.1 rfl (by decide) (hts (.fieldLink RX3 61 "SentenceRules$Sentence" "region" "LSentenceRules$Region;") (List.mem_of_getElem? (i := 3) rfl)) rfl rfl dX3_doContradict_87 ?_
    refine lv_aload_n hx hb dX3_doContradict_90 rfl (lv_at hl 1 rfl) ?_
    refine mm_get (C := RX2) (T := TX2) (N := 5) (k := 1) hx hb hts (fun _ h => List.mem_cons_of_mem _ (List.mem_append_left _ (List.mem_append_left _ (List.mem_append_right _ h)))) hown hK hM hz1.2.1 rfl (by decide) (hts (.fieldLink RX3 61 "SentenceRules$Sentence" "region" "LSentenceRules$Region;") (List.mem_of_getElem? (i := 3) rfl)) rfl rfl dX3_doContradict_91 ?_
    refine mm_V (As := [.ref (rg x)]) (rest := []) ⟨hx, hb, hml, hown, hts⟩ (c1_isStrictlyInside l G hz2.2.2.1 hz2.2.2.2.1 hz2.2.2.2.2 hz1.2.2.1 hz1.2.2.2.1 hz1.2.2.2.2) (cwV 1 hts gX3_doContradict_X1_isStrictlyInside rfl rfl rfl (by decide +kernel) ⟨Nat.le_of_ble_eq_true rfl, Nat.le_of_ble_eq_true rfl⟩) hK hE hA hM (mm_recv hK hM hz2.2.2.1 (q := (RX1, TX1, 2)) rfl) rfl hl.1 rfl (Nat.le_of_ble_eq_true rfl) dX3_doContradict_94 ⟨Nat.le_of_ble_eq_true rfl, Nat.le_of_ble_eq_true rfl⟩ (fun v f1 Hp lcs hp hM => ?_)
    obtain ⟨rfl, hf⟩ := hp; subst hf
    refine lvb_ne (tgt := 114) hx hb dX3_doContradict_97 (by decide) (fun cz8 => ?_) (fun cz8 => ?_)
    · refine lv_iconst (v := (nI 0)) hx hb dX3_doContradict_114 (by decide +kernel) ?_
      exact mm_zret hx hb hlocks hr (by first | rfl | exact bI_nar _) (Nat.le_of_ble_eq_true rfl) (Nat.le_of_ble_eq_true rfl) hM (ret_f (by rw [conD, bnot_f cz3]; simp [strD, cz4, cz5, cz6, cz7, cz8])) dX3_doContradict_115
    refine lv_aload_n hx hb dX3_doContradict_100 rfl (lv_at hl 2 rfl) ?_
    refine lv_aload_n hx hb dX3_doContradict_101 rfl (lv_at hl 1 rfl) ?_
    refine lv_aload hx hb dX3_doContradict_102 (lv_at hl 0 rfl) ?_
    refine mm_V (As := [.ref (X x), .ref (X y)]) (rest := []) ⟨hx, hb, hml, hown, hts⟩ (c3_hasRule l G hQ x y hx6 hy6) (cwV 2 hts gX3_doContradict_X3_hasRuleForCommonRegion rfl rfl rfl (by decide +kernel) ⟨Nat.le_of_ble_eq_true rfl, Nat.le_of_ble_eq_true rfl⟩) hK hE hA hM (mm_recv hK hM hQ.1 (q := (RX3, TX3, 4)) rfl) rfl hl.1 rfl (Nat.le_of_ble_eq_true rfl) dX3_doContradict_104 ⟨Nat.le_of_ble_eq_true rfl, Nat.le_of_ble_eq_true rfl⟩ (fun v f1 Hp lcs hp hM => ?_)
    obtain ⟨rfl, hf⟩ := hp; subst hf
    refine lvb_ne (tgt := 114) hx hb dX3_doContradict_107 (by decide) (fun cz9 => ?_) (fun cz9 => ?_)
    · refine lv_iconst (v := (nI 0)) hx hb dX3_doContradict_114 (by decide +kernel) ?_
      exact mm_zret hx hb hlocks hr (by first | rfl | exact bI_nar _) (Nat.le_of_ble_eq_true rfl) (Nat.le_of_ble_eq_true rfl) hM (ret_f (by rw [conD, bnot_f cz3]; simp [strD, cz4, cz5, cz6, cz7, cz8, cz9])) dX3_doContradict_115
    refine lv_iconst (v := (nI 1)) hx hb dX3_doContradict_110 (by decide +kernel) ?_
    refine lv_goto (tgt := 115) hx hb dX3_doContradict_111 (by decide) ?_
    exact mm_zret hx hb hlocks hr (by first | rfl | exact bI_nar _) (Nat.le_of_ble_eq_true rfl) (Nat.le_of_ble_eq_true rfl) hM (ret_t (by rw [conD, bnot_f cz3]; simp [strD, cz4, cz5, cz6, cz7, cz8, cz9])) dX3_doContradict_115
  refine lv_iconst (v := (nI 0)) hx hb dX3_doContradict_41 (by decide +kernel) ?_
  exact mm_zret hx hb hlocks hr (by first | rfl | exact bI_nar _) (Nat.le_of_ble_eq_true rfl) (Nat.le_of_ble_eq_true rfl) hM (ret_f (by rw [conD, bnot_f cz3]; simp [strD, cz4])) dX3_doContradict_42
set_option maxHeartbeats 4000000 in
set_option maxRecDepth 100000 in
theorem c3_nearer (l : Launch) (G : mG) {f : mE} (b z x : Int32) : mC l G yX3_nearer wsX3_nearer ({ frames := 0, cells := 0, slots := 0, locals := 0 } : Room) f [.int b, .int z, .int x] (fun v f1 => v = some (.int (neaS b z x)) ∧ f = f1) 0 0 := by
  refine mC.of (cc := cX3_nearer) (maxL := 3) (ret := (some .int)) (by decide) rfl (Nat.le_of_ble_eq_true rfl) ?_
  intro pgm env s mt args below meth c A ls hx hb hml hr hlocks hown hname hts hK hE hA hM hl
  have hl : lv_has ls 3 [(0, .int b), (1, .int z), (2, .int x)] := hl
  refine lv_iload_n hx hb dX3_nearer_0 rfl (lv_at hl 1 rfl) ?_
  refine lv_iload_n hx hb dX3_nearer_1 rfl (lv_at hl 2 rfl) ?_
  refine lv_icmp_le (tgt := 20) hx hb dX3_nearer_2 (by decide) (fun cz1 => ?_) (fun cz1 => ?_)
  · refine lv_iload_n hx hb dX3_nearer_20 rfl (lv_at hl 0 rfl) ?_
    exact mm_iret hx hb hlocks hr (Nat.le_of_ble_eq_true rfl) (Nat.le_of_ble_eq_true rfl) hM (ret_v (by rw [neaS, if_pos cz1])) dX3_nearer_21
  refine lv_iload_n hx hb dX3_nearer_5 rfl (lv_at hl 0 rfl) ?_
  refine lv_ldc (v := (-100005)) hx hb hown (hts (.constant RX3 82 (-100005)) (List.mem_of_getElem? (i := 1) rfl)) dX3_nearer_6 ?_
  refine lv_icmp_eq (tgt := 16) hx hb dX3_nearer_8 (by decide) (fun cz2 => ?_) (fun cz2 => ?_)
  · refine lv_iload_n hx hb dX3_nearer_16 rfl (lv_at hl 1 rfl) ?_
    refine lv_goto (tgt := 21) hx hb dX3_nearer_17 (by decide) ?_
    exact mm_iret hx hb hlocks hr (Nat.le_of_ble_eq_true rfl) (Nat.le_of_ble_eq_true rfl) hM (ret_v (by rw [neaS, if_neg cz1, if_pos cz2])) dX3_nearer_21
  refine lv_iload_n hx hb dX3_nearer_11 rfl (lv_at hl 1 rfl) ?_
  refine lv_iload_n hx hb dX3_nearer_12 rfl (lv_at hl 0 rfl) ?_
  refine lv_icmp_ge (tgt := 20) hx hb dX3_nearer_13 (by decide) (fun cz3 => ?_) (fun cz3 => ?_)
  · refine lv_iload_n hx hb dX3_nearer_20 rfl (lv_at hl 0 rfl) ?_
    exact mm_iret hx hb hlocks hr (Nat.le_of_ble_eq_true rfl) (Nat.le_of_ble_eq_true rfl) hM (ret_v (by rw [neaS, if_neg cz1, if_neg cz2, if_pos cz3])) dX3_nearer_21
  refine lv_iload_n hx hb dX3_nearer_16 rfl (lv_at hl 1 rfl) ?_
  refine lv_goto (tgt := 21) hx hb dX3_nearer_17 (by decide) ?_
  exact mm_iret hx hb hlocks hr (Nat.le_of_ble_eq_true rfl) (Nat.le_of_ble_eq_true rfl) hM (ret_v (by rw [neaS, if_neg cz1, if_neg cz2, if_neg cz3])) dX3_nearer_21
set_option maxHeartbeats 4000000 in
set_option maxRecDepth 100000 in
theorem c3_nextBorder (l : Launch) (G : mG) {f : mE} {q0 b fc pr n : Nat} {B : Nat → Option Nat} {X rg pa qa tk : Nat → Nat} {lo hi : Nat → Nat → Int32} {ab gv us : Nat → Int32} (hQ : StQ G f q0 b fc pr n B X rg pa qa tk lo hi ab gv us) (r : Int32) (k : Nat) (hk : k < 7) (x : Int32) : mC l G yX3_nextBorder wsX3_nextBorder ({ frames := 1, cells := 0, slots := 0, locals := 22 } : Room) f [.ref q0, .int r, .int (nI k), .int x] (fun v f1 => v = some (.int (nbrI lo hi ab n r k x)) ∧ f = f1) 0 0 := by
  refine mC.of (cc := cX3_nextBorder) (maxL := 7) (ret := (some .int)) (by decide) rfl (Nat.le_of_ble_eq_true rfl) ?_
  intro pgm env s mt args below meth c A ls hx hb hml hr hlocks hown hname hts hK hE hA hM hl
  have hl : lv_has ls 7 [(0, .ref q0), (1, .int r), (2, .int (nI k)), (3, .int x)] := hl
  have hn16 := hQ.2.2.1
  refine lv_ldc (v := (-100005)) hx hb hown (hts (.constant RX3 82 (-100005)) (List.mem_of_getElem? (i := 1) rfl)) dX3_nextBorder_0 ?_
  refine lv_istore (lv' := [(4, .int (-100005)), (0, .ref q0), (1, .int r), (2, .int (nI k)), (3, .int x)]) hx hb dX3_nextBorder_2 hl (by decide) rfl (fun ls hl => ?_)
  refine lv_iconst (v := (nI 0)) hx hb dX3_nextBorder_4 (by decide +kernel) ?_
  refine lv_istore (lv' := [(5, .int (nI 0)), (4, .int (-100005)), (0, .ref q0), (1, .int r), (2, .int (nI k)), (3, .int x)]) hx hb dX3_nextBorder_5 hl (by decide) rfl (fun ls hl => ?_)
  have loopZ : ∀ (fuel : Nat) (i : Nat) (aw : Int32) (Hp : Heap) (lcs : List Loc) (ls : Array Slot) (hiN : i ≤ n) (hr0 : aw = nbrD lo hi ab r k x i) (hfu : n - i < fuel) (hM : mM G A s.heap f Hp lcs) (hl : lv_has ls 7 [(0, .ref q0), (1, .int r), (2, .int (nI k)), (3, .int x), (4, .int aw), (5, .int (nI i))]), W pgm l env ({ frames := 1, cells := 0, slots := 0, locals := 22 } : Room) s mt args below meth c Hp lcs 0 0 (MQ below (mQc G A (fun v f1 => v = some (.int (nbrI lo hi ab n r k x)) ∧ f = f1)) args s 0 0 A) (F0 mt 7 ls []) := by
    intro fuel
    induction fuel with
    | zero => intro i aw Hp lcs ls hiN hr0 hfu; exact absurd hfu (Nat.not_lt_zero _)
    | succ fuel ih =>
      intro i aw Hp lcs ls hiN hr0 hfu hM hl
      subst hr0
      refine lv_iload hx hb dX3_nextBorder_7 (lv_at hl 5 rfl) ?_
      refine lv_aload_n hx hb dX3_nextBorder_9 rfl (lv_at hl 0 rfl) ?_
      refine mm_get (C := RX3) (T := TX3) (N := 4) (k := 0) hx hb hts (fun _ h => List.mem_cons_of_mem _ (List.mem_append_left _ (List.mem_append_left _ (List.mem_append_right _ h)))) hown hK hM hQ.1 rfl (by decide) (hts (.fieldLink RX3 29 "SentenceRules$State" "sentenceCount" "I") (List.mem_of_getElem? (i := 2) rfl)) rfl rfl dX3_nextBorder_10 ?_
      refine ln_icmp_ge i n (by omega) (by omega) (tgt := 89) hx hb dX3_nextBorder_13 (by decide) (fun cz1 => ?_) (fun cz1 => ?_)
      · refine lv_iload hx hb dX3_nextBorder_89 (lv_at hl 4 rfl) ?_
        refine lv_ldc (v := (-100005)) hx hb hown (hts (.constant RX3 82 (-100005)) (List.mem_of_getElem? (i := 1) rfl)) dX3_nextBorder_91 ?_
        refine lv_icmp_eq (tgt := 110) hx hb dX3_nextBorder_93 (by decide) (fun cz2 => ?_) (fun cz2 => ?_)
        · refine lv_ldc (v := (-100005)) hx hb hown (hts (.constant RX3 82 (-100005)) (List.mem_of_getElem? (i := 1) rfl)) dX3_nextBorder_110 ?_
          exact mm_iret hx hb hlocks hr (Nat.le_of_ble_eq_true rfl) (Nat.le_of_ble_eq_true rfl) hM ((by have hz : i = n := (by omega); subst hz; exact ret_v (by simp [nbrI, cz1, cz2]))) dX3_nextBorder_112
        refine lv_iload hx hb dX3_nextBorder_96 (lv_at hl 4 rfl) ?_
        refine lv_iload_n hx hb dX3_nextBorder_98 rfl (lv_at hl 2 rfl) ?_
        refine mm_SN (As := [.int (nI k)]) (rest := [.int (nbrD lo hi ab r k x i)]) ⟨hx, hb, hml, hown, hts⟩ (c5_highestOf l G _ (nI k)) ⟨va_cnB 1 hts gX3_nextBorder_X5_highestOf_n122 rfl rfl rfl (hE.1.1 _ (List.mem_of_getElem? (i := 10) rfl)) (hts (.initialized RX5) (List.mem_of_getElem? (i := 7) rfl)) (by decide +kernel) ⟨Nat.le_of_ble_eq_true rfl, Nat.le_of_ble_eq_true rfl⟩, (hts (.static yX5_highestOf) (List.mem_of_getElem? (i := 24) rfl)), trivial⟩ hK hE hA hM rfl hl.1 rfl (Nat.le_of_ble_eq_true rfl) dX3_nextBorder_99 ⟨Nat.le_of_ble_eq_true rfl, Nat.le_of_ble_eq_true rfl⟩ (fun v f1 Hp lcs hp hM => ?_)
        obtain ⟨rfl, hf⟩ := hp; subst hf
        refine lv_icmp_gt (tgt := 110) hx hb dX3_nextBorder_102 (by decide) (fun cz3 => ?_) (fun cz3 => ?_)
        · refine lv_ldc (v := (-100005)) hx hb hown (hts (.constant RX3 82 (-100005)) (List.mem_of_getElem? (i := 1) rfl)) dX3_nextBorder_110 ?_
          exact mm_iret hx hb hlocks hr (Nat.le_of_ble_eq_true rfl) (Nat.le_of_ble_eq_true rfl) hM ((by have hz : i = n := (by omega); subst hz; exact ret_v (by simp [nbrI, cz1, cz2, cz3]))) dX3_nextBorder_112
        refine lv_iload hx hb dX3_nextBorder_105 (lv_at hl 4 rfl) ?_
        refine lv_goto (tgt := 112) hx hb dX3_nextBorder_107 (by decide) ?_
        exact mm_iret hx hb hlocks hr (Nat.le_of_ble_eq_true rfl) (Nat.le_of_ble_eq_true rfl) hM ((by have hz : i = n := (by omega); subst hz; exact ret_v (by simp [nbrI, cz1, cz2, cz3]))) dX3_nextBorder_112
      refine lv_iload_n hx hb dX3_nextBorder_16 rfl (lv_at hl 2 rfl) ?_
      refine mm_SN (As := [.int (nI k)]) (rest := []) ⟨hx, hb, hml, hown, hts⟩ (c5_isFact l G _ (nI k)) ⟨va_cnB 1 hts gX3_nextBorder_X5_isFact_n109 rfl rfl rfl (hE.1.1 _ (List.mem_of_getElem? (i := 9) rfl)) (hts (.initialized RX5) (List.mem_of_getElem? (i := 7) rfl)) (by decide +kernel) ⟨Nat.le_of_ble_eq_true rfl, Nat.le_of_ble_eq_true rfl⟩, (hts (.static yX5_isFact) (List.mem_of_getElem? (i := 6) rfl)), trivial⟩ hK hE hA hM rfl hl.1 rfl (Nat.le_of_ble_eq_true rfl) dX3_nextBorder_17 ⟨Nat.le_of_ble_eq_true rfl, Nat.le_of_ble_eq_true rfl⟩ (fun v f1 Hp lcs hp hM => ?_)
      obtain ⟨rfl, hf⟩ := hp; subst hf
      refine lvb_eq (tgt := 89) hx hb dX3_nextBorder_20 (by decide) (fun cz4 => ?_) (fun cz4 => ?_)
      · exact absurd cz4 (by rw [fac_t hk]; decide)
      refine lv_aload_n hx hb dX3_nextBorder_23 rfl (lv_at hl 0 rfl) ?_
      refine lv_iload hx hb dX3_nextBorder_24 (lv_at hl 5 rfl) ?_
      refine mm_V (As := [.int (nI i)]) (rest := []) ⟨hx, hb, hml, hown, hts⟩ (c3_sentenceAt l G hQ i (by omega)) (cwV 1 hts gX3_nextBorder_X3_sentenceAt rfl rfl rfl (by decide +kernel) ⟨Nat.le_of_ble_eq_true rfl, Nat.le_of_ble_eq_true rfl⟩) hK hE hA hM (mm_recv hK hM hQ.1 (q := (RX3, TX3, 4)) rfl) rfl hl.1 rfl (Nat.le_of_ble_eq_true rfl) dX3_nextBorder_26 ⟨Nat.le_of_ble_eq_true rfl, Nat.le_of_ble_eq_true rfl⟩ (fun v f1 Hp lcs hp hM => ?_)
      obtain ⟨rfl, hf⟩ := hp; subst hf
      have hz5 := hQ.2.2.2 i (by omega)
      refine lv_astore (lv' := [(6, .ref (X i)), (0, .ref q0), (1, .int r), (2, .int (nI k)), (3, .int x), (4, .int (nbrD lo hi ab r k x i)), (5, .int (nI i))]) hx hb dX3_nextBorder_29 hl (by decide) rfl (fun ls hl => ?_)
      refine lv_aload hx hb dX3_nextBorder_31 (lv_at hl 0 rfl) ?_
      refine lv_ifnull hx hb dX3_nextBorder_33 ?_
      refine lv_aload hx hb dX3_nextBorder_36 (lv_at hl 0 rfl) ?_
      refine lv_iload_n hx hb dX3_nextBorder_38 rfl (lv_at hl 2 rfl) ?_
      refine mm_V (As := [.int r]) (rest := []) ⟨hx, hb, hml, hown, hts⟩ (c2_isRuleFor l G hz5.2.1 r) (cwV 1 hts gX3_nextBorder_X2_isRuleFor rfl rfl rfl (by decide +kernel) ⟨Nat.le_of_ble_eq_true rfl, Nat.le_of_ble_eq_true rfl⟩) hK hE hA hM (mm_recv hK hM hz5.2.1 (q := (RX2, TX2, 5)) rfl) rfl hl.1 rfl (Nat.le_of_ble_eq_true rfl) dX3_nextBorder_39 ⟨Nat.le_of_ble_eq_true rfl, Nat.le_of_ble_eq_true rfl⟩ (fun v f1 Hp lcs hp hM => ?_)
      obtain ⟨rfl, hf⟩ := hp; subst hf
      refine lvb_eq (tgt := 83) hx hb dX3_nextBorder_42 (by decide) (fun cz6 => ?_) (fun cz6 => ?_)
      · refine lv_iinc (v := (nI (i + 1))) (lv' := [(5, .int (nI (i + 1))), (6, .ref (X i)), (0, .ref q0), (1, .int r), (2, .int (nI k)), (3, .int x), (4, .int (nbrD lo hi ab r k x i))]) hx hb dX3_nextBorder_83 hl (k := 6) rfl (nI_add _ _) (by decide) rfl (fun ls hl => ?_)
        refine lv_goto (tgt := 7) hx hb dX3_nextBorder_86 (by decide) ?_
        exact ih (i + 1) _ _ _ ls (by omega) (by rw [nbrD, if_neg (of_decide_eq_false cz6)]) (by omega) hM (lv_sub hl [2, 3, 4, 5, 6, 0] rfl)
      refine lv_iload hx hb dX3_nextBorder_45 (lv_at hl 5 rfl) ?_
      refine lv_aload hx hb dX3_nextBorder_47 (lv_at hl 0 rfl) ?_
      refine mm_get (C := RX2) (T := TX2) (N := 5) (k := 1) hx hb hts (fun _ h => List.mem_cons_of_mem _ (List.mem_append_left _ (List.mem_append_right _ h))) hown hK hM hz5.2.1 rfl (by decide) (hts (.fieldLink RX3 61 "SentenceRules$Sentence" "region" "LSentenceRules$Region;") (List.mem_of_getElem? (i := 3) rfl)) rfl rfl dX3_nextBorder_49 ?_
      refine mm_get (C := RX1) (T := TX1) (N := 2) (k := 0) hx hb hts (fun _ h => List.mem_cons_of_mem _ (List.mem_append_right _ h)) hown hK hM hz5.2.2.1 rfl (by decide) (hts (.fieldLink RX3 112 "SentenceRules$Region" "lows" "[I") (List.mem_of_getElem? (i := 4) rfl)) rfl rfl dX3_nextBorder_52 ?_
      refine lv_iload_n hx hb dX3_nextBorder_55 rfl (lv_at hl 3 rfl) ?_
      refine mn_iald hx hb hK hM hz5.2.2.2.1 k (by omega) (by decide) dX3_nextBorder_56 ?_
      refine lv_iload_n hx hb dX3_nextBorder_57 rfl (lv_at hl 4 rfl) ?_
      refine mm_S (As := [.int (nbrD lo hi ab r k x i), .int ((lo i) k), .int x]) (rest := []) ⟨hx, hb, hml, hown, hts⟩ (c3_nearer l G (nbrD lo hi ab r k x i) ((lo i) k) x) (va_cwS 3 hts gX3_nextBorder_X3_nearer rfl rfl rfl (by decide +kernel) ⟨Nat.le_of_ble_eq_true rfl, Nat.le_of_ble_eq_true rfl⟩) hK hE hA hM rfl hl.1 rfl (Nat.le_of_ble_eq_true rfl) dX3_nextBorder_58 ⟨Nat.le_of_ble_eq_true rfl, Nat.le_of_ble_eq_true rfl⟩ (fun v f1 Hp lcs hp hM => ?_)
      obtain ⟨rfl, hf⟩ := hp; subst hf
      refine lv_istore (lv' := [(4, .int (neaS (nbrD lo hi ab r k x i) ((lo i) k) x)), (6, .ref (X i)), (0, .ref q0), (1, .int r), (2, .int (nI k)), (3, .int x), (5, .int (nI i))]) hx hb dX3_nextBorder_61 hl (by decide) rfl (fun ls hl => ?_)
      refine lv_iload hx hb dX3_nextBorder_63 (lv_at hl 0 rfl) ?_
      refine lv_aload hx hb dX3_nextBorder_65 (lv_at hl 1 rfl) ?_
      refine mm_get (C := RX2) (T := TX2) (N := 5) (k := 1) hx hb hts (fun _ h => List.mem_cons_of_mem _ (List.mem_append_left _ (List.mem_append_right _ h))) hown hK hM hz5.2.1 rfl (by decide) (hts (.fieldLink RX3 61 "SentenceRules$Sentence" "region" "LSentenceRules$Region;") (List.mem_of_getElem? (i := 3) rfl)) rfl rfl dX3_nextBorder_67 ?_
      refine mm_get (C := RX1) (T := TX1) (N := 2) (k := 1) hx hb hts (fun _ h => List.mem_cons_of_mem _ (List.mem_append_right _ h)) hown hK hM hz5.2.2.1 rfl (by decide) (hts (.fieldLink RX3 119 "SentenceRules$Region" "highs" "[I") (List.mem_of_getElem? (i := 5) rfl)) rfl rfl dX3_nextBorder_70 ?_
      refine lv_iload_n hx hb dX3_nextBorder_73 rfl (lv_at hl 4 rfl) ?_
      refine mn_iald hx hb hK hM hz5.2.2.2.2 k (by omega) (by decide) dX3_nextBorder_74 ?_
      refine lv_iconst (v := (nI 1)) hx hb dX3_nextBorder_75 (by decide +kernel) ?_
      refine lv_iadd hx hb dX3_nextBorder_76 ?_
      refine lv_iload_n hx hb dX3_nextBorder_77 rfl (lv_at hl 5 rfl) ?_
      refine mm_S (As := [.int (neaS (nbrD lo hi ab r k x i) ((lo i) k) x), .int (((hi i) k) + (nI 1)), .int x]) (rest := []) ⟨hx, hb, hml, hown, hts⟩ (c3_nearer l G (neaS (nbrD lo hi ab r k x i) ((lo i) k) x) (((hi i) k) + (nI 1)) x) (va_cwS 3 hts gX3_nextBorder_X3_nearer rfl rfl rfl (by decide +kernel) ⟨Nat.le_of_ble_eq_true rfl, Nat.le_of_ble_eq_true rfl⟩) hK hE hA hM rfl hl.1 rfl (Nat.le_of_ble_eq_true rfl) dX3_nextBorder_78 ⟨Nat.le_of_ble_eq_true rfl, Nat.le_of_ble_eq_true rfl⟩ (fun v f1 Hp lcs hp hM => ?_)
      obtain ⟨rfl, hf⟩ := hp; subst hf
      refine lv_istore (lv' := [(4, .int (neaS (neaS (nbrD lo hi ab r k x i) ((lo i) k) x) (((hi i) k) + (nI 1)) x)), (6, .ref (X i)), (0, .ref q0), (1, .int r), (2, .int (nI k)), (3, .int x), (5, .int (nI i))]) hx hb dX3_nextBorder_81 hl (by decide) rfl (fun ls hl => ?_)
      refine lv_iinc (v := (nI (i + 1))) (lv' := [(5, .int (nI (i + 1))), (4, .int (neaS (neaS (nbrD lo hi ab r k x i) ((lo i) k) x) (((hi i) k) + (nI 1)) x)), (6, .ref (X i)), (0, .ref q0), (1, .int r), (2, .int (nI k)), (3, .int x)]) hx hb dX3_nextBorder_83 hl (k := 6) rfl (nI_add _ _) (by decide) rfl (fun ls hl => ?_)
      refine lv_goto (tgt := 7) hx hb dX3_nextBorder_86 (by decide) ?_
      exact ih (i + 1) _ _ _ ls (by omega) (by rw [nbrD, if_pos (of_decide_eq_true cz6)]) (by omega) hM (lv_sub hl [3, 4, 5, 6, 1, 0] rfl)
  exact loopZ (n + 1) 0 _ _ _ ls (Nat.zero_le _) rfl (by omega) hM (lv_sub hl [2, 3, 4, 5, 1, 0] rfl)

