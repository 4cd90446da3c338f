/-! THE CLASS: the book's and the records' rows shifted -/
theorem ne_QQ {G : mG} {f : mE} {x y m n k k2 : Nat} {g g2 : Nat → Option Nat} (hx : f x = some (mQ G k m g)) (hy : f y = some (mQ G k2 n g2)) (hn : m ≠ n) : x ≠ y := fun e => by
  rw [e, hy] at hx
  have h1 := Sum.inl.inj (Option.some.inj hx)
  exact hn (congrArg (fun q => q.2.1) h1).symm
def remB (B : Nat → Option Nat) (k i : Nat) : Nat → Option Nat := fun j => if k ≤ j ∧ j + 1 < i then B (j + 1) else B j
theorem remB_0 (B : Nat → Option Nat) (k : Nat) : remB B k (k + 1) = B := by funext j; unfold remB; rw [if_neg (by omega)]
theorem remB_at (B : Nat → Option Nat) (k i : Nat) : remB B k i i = B i := by unfold remB; rw [if_neg (by omega)]
theorem remB_s {B : Nat → Option Nat} {k i x : Nat} (hi : k + 1 ≤ i) (h : B i = some x) : va_up (remB B k i) (i - 1) (some x) = remB B k (i + 1) := by
  funext j
  unfold va_up remB
  by_cases hj : j = i - 1
  · rw [if_pos hj, if_pos (by omega), show j + 1 = i by omega, h]
  · rw [if_neg hj]
    by_cases h2 : k ≤ j ∧ j + 1 < i
    · rw [if_pos h2, if_pos (by omega)]
    · rw [if_neg h2, if_neg (by omega)]
set_option maxHeartbeats 4000000 in
set_option maxRecDepth 100000 in
theorem c3_addSentence (l : Launch) (G : mG) {f : mE} {q0 b fc pr n x : Nat} {B : Nat → Option Nat} {vs : List Value} (h_q0 : f q0 = some (.inr (4, [.int (nI n), .ref b, .ref fc, .ref pr]))) (h_b : f b = some (mQ G 2 16 B)) (h_x : f x = some (.inr (3, vs))) (hn : n < 16) : mC l G yX3_addSentence wsX3_addSentence ({ frames := 0, cells := 0, slots := 0, locals := 0 } : Room) f [.ref q0, .ref x] (fun v f1 => v = none ∧ f1 q0 = some (.inr (4, [.int (nI (n + 1)), .ref b, .ref fc, .ref pr])) ∧ f1 b = some (mQ G 2 16 (va_up B n (some x))) ∧ ∀ c e, f c = some e → c ≠ q0 → c ≠ b → f1 c = some e) 0 0 := by
  refine mC.of (cc := cX3_addSentence) (maxL := 2) (ret := none) (by decide) rfl (Nat.le_of_ble_eq_true rfl) ?_
  intro pgm env s mt args below meth c A ls hx hb hml hr hlocks hown hname hts hK hE hA hM hl
  have hl : lv_has ls 2 [(0, .ref q0), (1, .ref x)] := hl
  have hF := fun w9 e (hb : f w9 = some e) (_ : w9 ≠ q0) (_ : w9 ≠ b) => hb
  refine lv_aload_n hx hb dX3_addSentence_0 rfl (lv_at hl 0 rfl) ?_
  refine mm_get (C := RX3) (T := TX3) (N := 4) (k := 0) hx hb hts (fun _ h => List.mem_cons_of_mem _ (List.mem_append_right _ h)) hown hK hM h_q0 rfl (by decide) (hts (.fieldLink RX3 29 "SentenceRules$State" "sentenceCount" "I") (List.mem_of_getElem? (i := 1) rfl)) rfl rfl dX3_addSentence_1 ?_
  refine lv_bipush (v := (nI 16)) hx hb dX3_addSentence_4 (by decide +kernel) ?_
  refine ln_icmp_ge n 16 (by omega) (by omega) (tgt := 29) hx hb dX3_addSentence_6 (by decide) (fun cz1 => ?_) (fun cz1 => ?_)
  · exact absurd cz1 (by omega)
  refine lv_aload_n hx hb dX3_addSentence_9 rfl (lv_at hl 0 rfl) ?_
  refine mm_get (C := RX3) (T := TX3) (N := 4) (k := 1) hx hb hts (fun _ h => List.mem_cons_of_mem _ (List.mem_append_right _ h)) hown hK hM h_q0 rfl (by decide) (hts (.fieldLink RX3 11 "SentenceRules$State" "book" "[LSentenceRules$Sentence;") (List.mem_of_getElem? (i := 2) rfl)) rfl rfl dX3_addSentence_10 ?_
  refine lv_aload_n hx hb dX3_addSentence_13 rfl (lv_at hl 0 rfl) ?_
  refine mm_get (C := RX3) (T := TX3) (N := 4) (k := 0) hx hb hts (fun _ h => List.mem_cons_of_mem _ (List.mem_append_right _ h)) hown hK hM h_q0 rfl (by decide) (hts (.fieldLink RX3 29 "SentenceRules$State" "sentenceCount" "I") (List.mem_of_getElem? (i := 1) rfl)) rfl rfl dX3_addSentence_14 ?_
  refine lv_aload_n hx hb dX3_addSentence_17 rfl (lv_at hl 1 rfl) ?_
  refine mm_astS hx hb hK hM h_b h_x n (by omega) (by decide) dX3_addSentence_18 (fun Hp lcs hM => ?_)
  obtain ⟨gz2, hM, hz3, rz4⟩ := hM.up
  have hz5 := (rz4 _ (ne_oi h_q0 h_b)).trans h_q0
  have hF := fun w9 e (hb : f w9 = some e) (hn0 : w9 ≠ q0) (hn1 : w9 ≠ b) => (rz4 w9 hn1).trans (hF w9 e hb hn0 hn1)
  have hlf := fun c e hc (hn : c ≠ b) => (rz4 c hn).trans (hc : _ = some e)
  refine lv_aload_n hx hb dX3_addSentence_19 rfl (lv_at hl 0 rfl) ?_
  refine lv_dup hx hb dX3_addSentence_20 rfl ?_
  refine mm_get (C := RX3) (T := TX3) (N := 4) (k := 0) hx hb hts (fun _ h => List.mem_cons_of_mem _ (List.mem_append_right _ h)) hown hK hM hz5 rfl (by decide) (hts (.fieldLink RX3 29 "SentenceRules$State" "sentenceCount" "I") (List.mem_of_getElem? (i := 1) rfl)) rfl rfl dX3_addSentence_21 ?_
  refine lv_iconst (v := (nI 1)) hx hb dX3_addSentence_24 (by decide +kernel) ?_
  refine ln_iadd n 1 hx hb dX3_addSentence_25 ?_
  refine mm_put (C := RX3) (T := TX3) (N := 4) (k := 0) hx hb hts (fun _ h => List.mem_cons_of_mem _ (List.mem_append_right _ h)) tyX3 tyX3_ok nmX3 hown hK hM hz5 rfl (by decide) (hts (.fieldLink RX3 29 "SentenceRules$State" "sentenceCount" "I") (List.mem_of_getElem? (i := 1) rfl)) rfl rfl rfl rfl (Nat.le_of_ble_eq_true rfl) dX3_addSentence_26 (fun Hp lcs hM => ?_)
  obtain ⟨gz6, hM, hz7, rz8⟩ := hM.up
  have hz9 := (rz8 _ (ne_oi hz5 hz3).symm).trans hz3
  have hF := fun w9 e (hb : f w9 = some e) (hn0 : w9 ≠ q0) (hn1 : w9 ≠ b) => (rz8 w9 hn0).trans (hF w9 e hb hn0 hn1)
  exact mm_vret hx hb hlocks hr (Nat.le_of_ble_eq_true rfl) (Nat.le_of_ble_eq_true rfl) hM (⟨rfl, hz7, hz9, hF⟩) dX3_addSentence_29
set_option maxHeartbeats 4000000 in
set_option maxRecDepth 100000 in
theorem c3_removeSentence (l : Launch) (G : mG) {f : mE} {q0 b fc pr n : Nat} {B : Nat → Option Nat} (h_q0 : f q0 = some (.inr (4, [.int (nI n), .ref b, .ref fc, .ref pr]))) (h_b : f b = some (mQ G 2 16 B)) (hB : ∀ i, i < n → ∃ x vs, B i = some x ∧ f x = some (.inr (3, vs))) (k : Nat) (hk : k < n) (hn16 : n ≤ 16) : mC l G yX3_removeSentence wsX3_removeSentence ({ frames := 0, cells := 0, slots := 0, locals := 0 } : Room) f [.ref q0, .int (nI k)] (fun v f1 => v = none ∧ f1 q0 = some (.inr (4, [.int (nI (n - 1)), .ref b, .ref fc, .ref pr])) ∧ f1 b = some (mQ G 2 16 (va_up (remB B k n) (n - 1) none)) ∧ ∀ c e, f c = some e → c ≠ q0 → c ≠ b → f1 c = some e) 0 0 := by
  refine mC.of (cc := cX3_removeSentence) (maxL := 3) (ret := none) (by decide) rfl (Nat.le_of_ble_eq_true rfl) ?_
  intro pgm env s mt args below meth c A ls hx hb hml hr hlocks hown hname hts hK hE hA hM hl
  have hl : lv_has ls 3 [(0, .ref q0), (1, .int (nI k))] := hl
  have hF := fun w9 e (hb : f w9 = some e) (_ : w9 ≠ q0) (_ : w9 ≠ b) => hb
  refine lv_iload_n hx hb dX3_removeSentence_0 rfl (lv_at hl 1 rfl) ?_
  refine lv_if_lt (tgt := 12) hx hb dX3_removeSentence_1 (by decide) (fun hq9 => absurd hq9 (nI_pos (by omega))) (fun _ => ?_)
  refine lv_iload_n hx hb dX3_removeSentence_4 rfl (lv_at hl 1 rfl) ?_
  refine lv_aload_n hx hb dX3_removeSentence_5 rfl (lv_at hl 0 rfl) ?_
  refine mm_get (C := RX3) (T := TX3) (N := 4) (k := 0) hx hb hts (fun _ h => List.mem_cons_of_mem _ (List.mem_append_right _ h)) hown hK hM h_q0 rfl (by decide) (hts (.fieldLink RX3 29 "SentenceRules$State" "sentenceCount" "I") (List.mem_of_getElem? (i := 1) rfl)) rfl rfl dX3_removeSentence_6 ?_
  refine ln_icmp_lt k n (by omega) (by omega) (tgt := 13) hx hb dX3_removeSentence_9 (by decide) (fun cz1 => ?_) (fun cz1 => ?_)
  · refine lv_iload_n hx hb dX3_removeSentence_13 rfl (lv_at hl 1 rfl) ?_
    refine lv_iconst (v := (nI 1)) hx hb dX3_removeSentence_14 (by decide +kernel) ?_
    refine ln_iadd k 1 hx hb dX3_removeSentence_15 ?_
    refine lv_istore_n (lv' := [(2, .int (nI (k + 1))), (0, .ref q0), (1, .int (nI k))]) hx hb dX3_removeSentence_16 rfl hl (by decide) rfl (fun ls hl => ?_)
    have loopZ : ∀ (fuel : Nat) (i : Nat) (fz : mE) (Hp : Heap) (lcs : List Loc) (ls : Array Slot) (hi1 : k + 1 ≤ i) (hiN : i ≤ n) (z_q0 : fz q0 = some (.inr (4, [.int (nI n), .ref b, .ref fc, .ref pr]))) (z_b : fz b = some (mQ G 2 16 (remB B k i))) (z_F : ∀ c e, f c = some e → c ≠ q0 → c ≠ b → fz c = some e) (hfu : n - i < fuel) (hM : mM G A s.heap fz Hp lcs) (hl : lv_has ls 3 [(0, .ref q0), (1, .int (nI k)), (2, .int (nI i))]), W pgm l env ({ frames := 0, cells := 0, slots := 0, locals := 0 } : Room) s mt args below meth c Hp lcs 0 0 (MQ below (mQc G A (fun v f1 => v = none ∧ f1 q0 = some (.inr (4, [.int (nI (n - 1)), .ref b, .ref fc, .ref pr])) ∧ f1 b = some (mQ G 2 16 (va_up (remB B k n) (n - 1) none)) ∧ ∀ c e, f c = some e → c ≠ q0 → c ≠ b → f1 c = some e)) args s 0 0 A) (F0 mt 17 ls []) := by
      intro fuel
      induction fuel with
      | zero => intro i fz Hp lcs ls hi1 hiN z_q0 z_b z_F hfu; exact absurd hfu (Nat.not_lt_zero _)
      | succ fuel ih =>
        intro i fz Hp lcs ls hi1 hiN z_q0 z_b z_F hfu hM hl
        have hF : ∀ w9 e, f w9 = some e → w9 ≠ q0 → w9 ≠ b → fz w9 = some e := z_F
        refine lv_iload_n hx hb dX3_removeSentence_17 rfl (lv_at hl 2 rfl) ?_
        refine lv_aload_n hx hb dX3_removeSentence_18 rfl (lv_at hl 0 rfl) ?_
        refine mm_get (C := RX3) (T := TX3) (N := 4) (k := 0) hx hb hts (fun _ h => List.mem_cons_of_mem _ (List.mem_append_right _ h)) hown hK hM z_q0 rfl (by decide) (hts (.fieldLink RX3 29 "SentenceRules$State" "sentenceCount" "I") (List.mem_of_getElem? (i := 1) rfl)) rfl rfl dX3_removeSentence_19 ?_
        refine ln_icmp_ge i n (by omega) (by omega) (tgt := 45) hx hb dX3_removeSentence_22 (by decide) (fun cz2 => ?_) (fun cz2 => ?_)
        · have hin : i = n := (by omega)
          subst hin
          have hF : ∀ w9 e, f w9 = some e → w9 ≠ q0 → w9 ≠ b → fz w9 = some e := z_F
          refine lv_aload_n hx hb dX3_removeSentence_45 rfl (lv_at hl 0 rfl) ?_
          refine lv_dup hx hb dX3_removeSentence_46 rfl ?_
          refine mm_get (C := RX3) (T := TX3) (N := 4) (k := 0) hx hb hts (fun _ h => List.mem_cons_of_mem _ (List.mem_append_right _ h)) hown hK hM z_q0 rfl (by decide) (hts (.fieldLink RX3 29 "SentenceRules$State" "sentenceCount" "I") (List.mem_of_getElem? (i := 1) rfl)) rfl rfl dX3_removeSentence_47 ?_
          refine lv_iconst (v := (nI 1)) hx hb dX3_removeSentence_50 (by decide +kernel) ?_
          refine ln_isub i 1 (by omega) hx hb dX3_removeSentence_51 ?_
          refine mv_top (y := (nI (i - 1))) (congrArg nI (by omega)) ?_
          refine mm_put (C := RX3) (T := TX3) (N := 4) (k := 0) hx hb hts (fun _ h => List.mem_cons_of_mem _ (List.mem_append_right _ h)) tyX3 tyX3_ok nmX3 hown hK hM z_q0 rfl (by decide) (hts (.fieldLink RX3 29 "SentenceRules$State" "sentenceCount" "I") (List.mem_of_getElem? (i := 1) rfl)) rfl rfl rfl rfl (Nat.le_of_ble_eq_true rfl) dX3_removeSentence_52 (fun Hp lcs hM => ?_)
          obtain ⟨gz3, hM, hz4, rz5⟩ := hM.up
          have hz6 := (rz5 _ (ne_oi z_q0 z_b).symm).trans z_b
          have hF := fun w9 e (hb : f w9 = some e) (hn0 : w9 ≠ q0) (hn1 : w9 ≠ b) => (rz5 w9 hn0).trans (hF w9 e hb hn0 hn1)
          refine lv_aload_n hx hb dX3_removeSentence_55 rfl (lv_at hl 0 rfl) ?_
          refine mm_get (C := RX3) (T := TX3) (N := 4) (k := 1) hx hb hts (fun _ h => List.mem_cons_of_mem _ (List.mem_append_right _ h)) hown hK hM hz4 rfl (by decide) (hts (.fieldLink RX3 11 "SentenceRules$State" "book" "[LSentenceRules$Sentence;") (List.mem_of_getElem? (i := 2) rfl)) rfl rfl dX3_removeSentence_56 ?_
          refine lv_aload_n hx hb dX3_removeSentence_59 rfl (lv_at hl 0 rfl) ?_
          refine mm_get (C := RX3) (T := TX3) (N := 4) (k := 0) hx hb hts (fun _ h => List.mem_cons_of_mem _ (List.mem_append_right _ h)) hown hK hM hz4 rfl (by decide) (hts (.fieldLink RX3 29 "SentenceRules$State" "sentenceCount" "I") (List.mem_of_getElem? (i := 1) rfl)) rfl rfl dX3_removeSentence_60 ?_
          refine lv_null hx hb dX3_removeSentence_63 ?_
          refine mm_astSN hx hb hK hM hz6 (i - 1) (by omega) (by decide) dX3_removeSentence_64 (fun Hp lcs hM => ?_)
          obtain ⟨gz7, hM, hz8, rz9⟩ := hM.up
          have hz10 := (rz9 _ (ne_oi hz4 hz6)).trans hz4
          have hF := fun w9 e (hb : f w9 = some e) (hn0 : w9 ≠ q0) (hn1 : w9 ≠ b) => (rz9 w9 hn1).trans (hF w9 e hb hn0 hn1)
          have hlf := fun c e hc (hn : c ≠ b) => (rz9 c hn).trans (hc : _ = some e)
          exact mm_vret hx hb hlocks hr (Nat.le_of_ble_eq_true rfl) (Nat.le_of_ble_eq_true rfl) hM (⟨rfl, hz10, hz8, hF⟩) dX3_removeSentence_65
        refine lv_aload_n hx hb dX3_removeSentence_25 rfl (lv_at hl 0 rfl) ?_
        refine mm_get (C := RX3) (T := TX3) (N := 4) (k := 1) hx hb hts (fun _ h => List.mem_cons_of_mem _ (List.mem_append_right _ h)) hown hK hM z_q0 rfl (by decide) (hts (.fieldLink RX3 11 "SentenceRules$State" "book" "[LSentenceRules$Sentence;") (List.mem_of_getElem? (i := 2) rfl)) rfl rfl dX3_removeSentence_26 ?_
        refine lv_iload_n hx hb dX3_removeSentence_29 rfl (lv_at hl 2 rfl) ?_
        refine lv_iconst (v := (nI 1)) hx hb dX3_removeSentence_30 (by decide +kernel) ?_
        refine ln_isub i 1 (by omega) hx hb dX3_removeSentence_31 ?_
        refine mv_top (y := (nI (i - 1))) (congrArg nI (by omega)) ?_
        refine lv_aload_n hx hb dX3_removeSentence_32 rfl (lv_at hl 0 rfl) ?_
        obtain ⟨xz, vsz, hbi, hxz⟩ := hB i (by omega)
        have hxz2 := z_F xz _ hxz (ne_oo hxz h_q0 (by show (3 : Nat) ≠ 4; decide)) (ne_oi hxz h_b)
        refine mm_get (C := RX3) (T := TX3) (N := 4) (k := 1) hx hb hts (fun _ h => List.mem_cons_of_mem _ (List.mem_append_right _ h)) hown hK hM z_q0 rfl (by decide) (hts (.fieldLink RX3 11 "SentenceRules$State" "book" "[LSentenceRules$Sentence;") (List.mem_of_getElem? (i := 2) rfl)) rfl rfl dX3_removeSentence_33 ?_
        refine lv_iload_n hx hb dX3_removeSentence_36 rfl (lv_at hl 2 rfl) ?_
        refine mm_aldS hx hb hK hM z_b (vp_in_nI (by omega) (by decide)) dX3_removeSentence_37 ?_
        rw [nI_clamp (by omega)]
        refine mv_val (y := .ref xz) (by rw [remB_at, hbi]; rfl) ?_
        refine mm_astS hx hb hK hM z_b hxz2 (i - 1) (by omega) (by decide) dX3_removeSentence_38 (fun Hp lcs hM => ?_)
        obtain ⟨gz11, hM, hz12, rz13⟩ := hM.up
        have hz14 := (rz13 _ (ne_oi z_q0 z_b)).trans z_q0
        have hF := fun w9 e (hb : f w9 = some e) (hn0 : w9 ≠ q0) (hn1 : w9 ≠ b) => (rz13 w9 hn1).trans (hF w9 e hb hn0 hn1)
        have hlf := fun c e hc (hn : c ≠ b) => (rz13 c hn).trans (hc : _ = some e)
        refine lv_iinc (v := (nI (i + 1))) (lv' := [(2, .int (nI (i + 1))), (0, .ref q0), (1, .int (nI k))]) hx hb dX3_removeSentence_39 hl (k := 2) rfl (nI_add _ _) (by decide) rfl (fun ls hl => ?_)
        refine lv_goto (tgt := 17) hx hb dX3_removeSentence_42 (by decide) ?_
        exact ih (i + 1) _ _ _ ls (by omega) (by omega) hz14 (by rw [hz12, remB_s hi1 hbi]) (fun c e hb hn0 hn1 => hlf c e (z_F c e hb hn0 hn1) hn1) (by omega) hM (lv_sub hl [1, 2, 0] rfl)
    exact loopZ (n + 1) (k + 1) _ _ _ ls (Nat.le_refl _) (by omega) h_q0 (by rw [remB_0]; exact h_b) (fun c e hb _ _ => hb) (by omega) hM (lv_sub hl [1, 2, 0] rfl)
  exact absurd cz1 (by omega)
set_option maxHeartbeats 4000000 in
set_option maxRecDepth 100000 in
theorem c5_dropOldest (l : Launch) (G : mG) {f : mE} {o q0 ra rd sp rr sb : Nat} {RB : Nat → Option Nat} {y0 : Nat} {vs : List Value} (h_o : f o = some (.inr (6, [.ref q0, .ref ra, .int (nI 8), .ref rd, .ref sp, .ref rr, .ref sb]))) (h_ra : f ra = some (mQ G 3 8 RB)) (hy0 : RB 0 = some y0) (hvy : f y0 = some (.inr (4, vs))) (hB : ∀ i, i < 8 → ∃ x vs, RB i = some x ∧ f x = some (.inr (4, vs))) : mC l G yX5_dropOldest wsX5_dropOldest ({ frames := 0, cells := 0, slots := 0, locals := 0 } : Room) f [.ref o] (fun v f1 => v = none ∧ f1 o = some (.inr (6, [.ref q0, .ref ra, .int (nI 7), .ref rd, .ref sp, .ref rr, .ref sb])) ∧ f1 ra = some (mQ G 3 8 (va_up (remB RB 0 8) 7 (some y0))) ∧ ∀ c e, f c = some e → c ≠ o → c ≠ ra → f1 c = some e) 0 0 := by
  refine mC.of (cc := cX5_dropOldest) (maxL := 3) (ret := none) (by decide) rfl (Nat.le_of_ble_eq_true rfl) ?_
  intro pgm env s mt args below meth c A ls hx hb hml hr hlocks hown hname hts hK hE hA hM hl
  have hl : lv_has ls 3 [(0, .ref o)] := hl
  have hF := fun w9 e (hb : f w9 = some e) (_ : w9 ≠ o) (_ : w9 ≠ ra) => hb
  refine lv_aload_n hx hb dX5_dropOldest_0 rfl (lv_at hl 0 rfl) ?_
  refine mm_get (C := RX5) (T := TX5) (N := 7) (k := 1) hx hb hts (fun _ h => List.mem_cons_of_mem _ (List.mem_append_right _ h)) hown hK hM h_o rfl (by decide) (hts (.fieldLink RX5 16 "SentenceRules" "recorded" "[LSentenceRules$State;") (List.mem_of_getElem? (i := 1) rfl)) rfl rfl dX5_dropOldest_1 ?_
  refine lv_iconst (v := (nI 0)) hx hb dX5_dropOldest_4 (by decide +kernel) ?_
  refine mm_aldT hx hb hK hM h_ra (vp_in_nI (by omega) (by decide)) dX5_dropOldest_5 ?_
  rw [nI_clamp (by omega)]
  refine mv_val (y := .ref y0) (by rw [hy0]; rfl) ?_
  refine lv_astore_n (lv' := [(1, .ref y0), (0, .ref o)]) hx hb dX5_dropOldest_6 rfl hl (by decide) rfl (fun ls hl => ?_)
  refine lv_iconst (v := (nI 1)) hx hb dX5_dropOldest_7 (by decide +kernel) ?_
  refine lv_istore_n (lv' := [(2, .int (nI 1)), (1, .ref y0), (0, .ref o)]) hx hb dX5_dropOldest_8 rfl hl (by decide) rfl (fun ls hl => ?_)
  have loopZ : ∀ (fuel : Nat) (i : Nat) (fz : mE) (Hp : Heap) (lcs : List Loc) (ls : Array Slot) (hi1 : 0 + 1 ≤ i) (hiN : i ≤ 8) (z_o : fz o = some (.inr (6, [.ref q0, .ref ra, .int (nI 8), .ref rd, .ref sp, .ref rr, .ref sb]))) (z_ra : fz ra = some (mQ G 3 8 (remB RB 0 i))) (z_F : ∀ c e, f c = some e → c ≠ o → c ≠ ra → fz c = some e) (hfu : 8 - i < fuel) (hM : mM G A s.heap fz Hp lcs) (hl : lv_has ls 3 [(0, .ref o), (1, .ref y0), (2, .int (nI i))]), W pgm l env ({ frames := 0, cells := 0, slots := 0, locals := 0 } : Room) s mt args below meth c Hp lcs 0 0 (MQ below (mQc G A (fun v f1 => v = none ∧ f1 o = some (.inr (6, [.ref q0, .ref ra, .int (nI 7), .ref rd, .ref sp, .ref rr, .ref sb])) ∧ f1 ra = some (mQ G 3 8 (va_up (remB RB 0 8) 7 (some y0))) ∧ ∀ c e, f c = some e → c ≠ o → c ≠ ra → f1 c = some e)) args s 0 0 A) (F0 mt 9 ls []) := by
    intro fuel
    induction fuel with
    | zero => intro i fz Hp lcs ls hi1 hiN z_o z_ra z_F hfu; exact absurd hfu (Nat.not_lt_zero _)
    | succ fuel ih =>
      intro i fz Hp lcs ls hi1 hiN z_o z_ra z_F hfu hM hl
      have hF : ∀ w9 e, f w9 = some e → w9 ≠ o → w9 ≠ ra → fz w9 = some e := z_F
      refine lv_iload_n hx hb dX5_dropOldest_9 rfl (lv_at hl 2 rfl) ?_
      refine lv_aload_n hx hb dX5_dropOldest_10 rfl (lv_at hl 0 rfl) ?_
      refine mm_get (C := RX5) (T := TX5) (N := 7) (k := 1) hx hb hts (fun _ h => List.mem_cons_of_mem _ (List.mem_append_right _ h)) hown hK hM z_o rfl (by decide) (hts (.fieldLink RX5 16 "SentenceRules" "recorded" "[LSentenceRules$State;") (List.mem_of_getElem? (i := 1) rfl)) rfl rfl dX5_dropOldest_11 ?_
      refine mm_alenT hx hb hK hM z_ra dX5_dropOldest_14 ?_
      refine ln_icmp_ge i 8 (by omega) (by omega) (tgt := 38) hx hb dX5_dropOldest_15 (by decide) (fun cz1 => ?_) (fun cz1 => ?_)
      · have hin : i = 8 := (by omega)
        subst hin
        have hF : ∀ w9 e, f w9 = some e → w9 ≠ o → w9 ≠ ra → fz w9 = some e := z_F
        have hyz := z_F y0 _ hvy (ne_oo hvy h_o (by show (4 : Nat) ≠ 6; decide)) (ne_oi hvy h_ra)
        refine lv_aload_n hx hb dX5_dropOldest_38 rfl (lv_at hl 0 rfl) ?_
        refine mm_get (C := RX5) (T := TX5) (N := 7) (k := 1) hx hb hts (fun _ h => List.mem_cons_of_mem _ (List.mem_append_right _ h)) hown hK hM z_o rfl (by decide) (hts (.fieldLink RX5 16 "SentenceRules" "recorded" "[LSentenceRules$State;") (List.mem_of_getElem? (i := 1) rfl)) rfl rfl dX5_dropOldest_39 ?_
        refine lv_aload_n hx hb dX5_dropOldest_42 rfl (lv_at hl 0 rfl) ?_
        refine mm_get (C := RX5) (T := TX5) (N := 7) (k := 1) hx hb hts (fun _ h => List.mem_cons_of_mem _ (List.mem_append_right _ h)) hown hK hM z_o rfl (by decide) (hts (.fieldLink RX5 16 "SentenceRules" "recorded" "[LSentenceRules$State;") (List.mem_of_getElem? (i := 1) rfl)) rfl rfl dX5_dropOldest_43 ?_
        refine mm_alenT hx hb hK hM z_ra dX5_dropOldest_46 ?_
        refine lv_iconst (v := (nI 1)) hx hb dX5_dropOldest_47 (by decide +kernel) ?_
        refine ln_isub 8 1 (by omega) hx hb dX5_dropOldest_48 ?_
        refine mv_top (y := (nI 7)) (congrArg nI (by omega)) ?_
        refine lv_aload_n hx hb dX5_dropOldest_49 rfl (lv_at hl 1 rfl) ?_
        refine mm_astT hx hb hK hM z_ra hyz 7 (by omega) (by decide) dX5_dropOldest_50 (fun Hp lcs hM => ?_)
        obtain ⟨gz2, hM, hz3, rz4⟩ := hM.up
        have hz5 := (rz4 _ (ne_oi z_o z_ra)).trans z_o
        have hF := fun w9 e (hb : f w9 = some e) (hn0 : w9 ≠ o) (hn1 : w9 ≠ ra) => (rz4 w9 hn1).trans (hF w9 e hb hn0 hn1)
        have hlf := fun c e hc (hn : c ≠ ra) => (rz4 c hn).trans (hc : _ = some e)
        refine lv_aload_n hx hb dX5_dropOldest_51 rfl (lv_at hl 0 rfl) ?_
        refine lv_dup hx hb dX5_dropOldest_52 rfl ?_
        refine mm_get (C := RX5) (T := TX5) (N := 7) (k := 2) hx hb hts (fun _ h => List.mem_cons_of_mem _ (List.mem_append_right _ h)) hown hK hM hz5 rfl (by decide) (hts (.fieldLink RX5 161 "SentenceRules" "recordedCount" "I") (List.mem_of_getElem? (i := 2) rfl)) rfl rfl dX5_dropOldest_53 ?_
        refine lv_iconst (v := (nI 1)) hx hb dX5_dropOldest_56 (by decide +kernel) ?_
        refine ln_isub 8 1 (by omega) hx hb dX5_dropOldest_57 ?_
        refine mv_top (y := (nI 7)) (congrArg nI (by omega)) ?_
        refine mm_put (C := RX5) (T := TX5) (N := 7) (k := 2) hx hb hts (fun _ h => List.mem_cons_of_mem _ (List.mem_append_right _ h)) tyX5 tyX5_ok nmX5 hown hK hM hz5 rfl (by decide) (hts (.fieldLink RX5 161 "SentenceRules" "recordedCount" "I") (List.mem_of_getElem? (i := 2) rfl)) rfl rfl rfl rfl (Nat.le_of_ble_eq_true rfl) dX5_dropOldest_58 (fun Hp lcs hM => ?_)
        obtain ⟨gz6, hM, hz7, rz8⟩ := hM.up
        have hz9 := (rz8 _ (ne_oi hz5 hz3).symm).trans hz3
        have hF := fun w9 e (hb : f w9 = some e) (hn0 : w9 ≠ o) (hn1 : w9 ≠ ra) => (rz8 w9 hn0).trans (hF w9 e hb hn0 hn1)
        exact mm_vret hx hb hlocks hr (Nat.le_of_ble_eq_true rfl) (Nat.le_of_ble_eq_true rfl) hM (⟨rfl, hz7, hz9, hF⟩) dX5_dropOldest_61
      refine lv_aload_n hx hb dX5_dropOldest_18 rfl (lv_at hl 0 rfl) ?_
      refine mm_get (C := RX5) (T := TX5) (N := 7) (k := 1) hx hb hts (fun _ h => List.mem_cons_of_mem _ (List.mem_append_right _ h)) hown hK hM z_o rfl (by decide) (hts (.fieldLink RX5 16 "SentenceRules" "recorded" "[LSentenceRules$State;") (List.mem_of_getElem? (i := 1) rfl)) rfl rfl dX5_dropOldest_19 ?_
      refine lv_iload_n hx hb dX5_dropOldest_22 rfl (lv_at hl 2 rfl) ?_
      refine lv_iconst (v := (nI 1)) hx hb dX5_dropOldest_23 (by decide +kernel) ?_
      refine ln_isub i 1 (by omega) hx hb dX5_dropOldest_24 ?_
      refine mv_top (y := (nI (i - 1))) (congrArg nI (by omega)) ?_
      obtain ⟨xz, vsz, hbi, hxz⟩ := hB i (by omega)
      have hxz2 := z_F xz _ hxz (ne_oo hxz h_o (by show (4 : Nat) ≠ 6; decide)) (ne_oi hxz h_ra)
      refine lv_aload_n hx hb dX5_dropOldest_25 rfl (lv_at hl 0 rfl) ?_
      refine mm_get (C := RX5) (T := TX5) (N := 7) (k := 1) hx hb hts (fun _ h => List.mem_cons_of_mem _ (List.mem_append_right _ h)) hown hK hM z_o rfl (by decide) (hts (.fieldLink RX5 16 "SentenceRules" "recorded" "[LSentenceRules$State;") (List.mem_of_getElem? (i := 1) rfl)) rfl rfl dX5_dropOldest_26 ?_
      refine lv_iload_n hx hb dX5_dropOldest_29 rfl (lv_at hl 2 rfl) ?_
      refine mm_aldT hx hb hK hM z_ra (vp_in_nI (by omega) (by decide)) dX5_dropOldest_30 ?_
      rw [nI_clamp (by omega)]
      refine mv_val (y := .ref xz) (by rw [remB_at, hbi]; rfl) ?_
      refine mm_astT hx hb hK hM z_ra hxz2 (i - 1) (by omega) (by decide) dX5_dropOldest_31 (fun Hp lcs hM => ?_)
      obtain ⟨gz10, hM, hz11, rz12⟩ := hM.up
      have hz13 := (rz12 _ (ne_oi z_o z_ra)).trans z_o
      have hF := fun w9 e (hb : f w9 = some e) (hn0 : w9 ≠ o) (hn1 : w9 ≠ ra) => (rz12 w9 hn1).trans (hF w9 e hb hn0 hn1)
      have hlf := fun c e hc (hn : c ≠ ra) => (rz12 c hn).trans (hc : _ = some e)
      refine lv_iinc (v := (nI (i + 1))) (lv' := [(2, .int (nI (i + 1))), (0, .ref o), (1, .ref y0)]) hx hb dX5_dropOldest_32 hl (k := 2) rfl (nI_add _ _) (by decide) rfl (fun ls hl => ?_)
      refine lv_goto (tgt := 9) hx hb dX5_dropOldest_35 (by decide) ?_
      exact ih (i + 1) _ _ _ ls (by omega) (by omega) hz13 (by rw [hz11, remB_s hi1 hbi]) (fun c e hb hn0 hn1 => hlf c e (z_F c e hb hn0 hn1) hn1) (by omega) hM (lv_sub hl [1, 2, 0] rfl)
  exact loopZ 9 (0 + 1) _ _ _ ls (Nat.le_refl _) (by omega) h_o (by rw [remB_0]; exact h_ra) (fun c e hb _ _ => hb) (by omega) hM (lv_sub hl [2, 1, 0] rfl)
set_option maxHeartbeats 4000000 in
set_option maxRecDepth 100000 in
theorem c5_recordA (l : Launch) (G : mG) {f : mE} {o ra rd sp rr sb : Nat} {RB : Nat → Option Nat} {rc : Nat} {q0 b fc pr ka va n cn : Nat} {B : Nat → Option Nat} {g K Vv : Nat → Int32} (h_q0 : f q0 = some (.inr (4, [.int (nI n), .ref b, .ref fc, .ref pr]))) (h_b : f b = some (mQ G 2 16 B)) (h_fc : f fc = some (mI G 7 g)) (h_pr : f pr = some (.inr (5, [.int (nI cn), .ref ka, .ref va]))) (h_ka : f ka = some (mI G 24 K)) (h_va : f va = some (mI G 24 Vv)) {y0 yb yf yr yk yv n1 cn1 : Nat} {B1 : Nat → Option Nat} {g1 K1 V1 : Nat → Int32} (h_y0 : f y0 = some (.inr (4, [.int (nI n1), .ref yb, .ref yf, .ref yr]))) (h_yb : f yb = some (mQ G 2 16 B1)) (h_yf : f yf = some (mI G 7 g1)) (h_yr : f yr = some (.inr (5, [.int (nI cn1), .ref yk, .ref yv]))) (h_yk : f yk = some (mI G 24 K1)) (h_yv : f yv = some (mI G 24 V1)) (d0 : q0 ≠ y0) (d1 : b ≠ yb) (d2 : fc ≠ yf) (d3 : pr ≠ yr) (d4 : yk ≠ yv) (d5 : ka ≠ yk) (d6 : ka ≠ yv) (d7 : va ≠ yk) (d8 : va ≠ yv) (h_o : f o = some (.inr (6, [.ref q0, .ref ra, .int (nI rc), .ref rd, .ref sp, .ref rr, .ref sb]))) (h_ra : f ra = some (mQ G 3 8 RB)) (hBT : ∀ i x, i < 16 → B i = some x → ∃ vs, f x = some (.inr (3, vs))) (hrc : rc < 8) (hyi : RB rc = some y0) : mC l G yX5_recordNow wsX5_recordNow ({ frames := 3, cells := 6, slots := 78, locals := 69 } : Room) f [.ref o] (fun v f1 => v = none ∧ f1 o = some (.inr (6, [.ref q0, .ref ra, .int (nI (rc + 1)), .ref rd, .ref sp, .ref rr, .ref sb])) ∧ f1 y0 = some (.inr (4, [.int (nI n), .ref yb, .ref yf, .ref yr])) ∧ f1 yb = some (mQ G 2 16 (copB B B1 16)) ∧ f1 yf = some (mI G 7 (va_cpy g g1 0 0 7)) ∧ f1 yr = some (.inr (5, [.int (nI cn), .ref yk, .ref yv])) ∧ f1 yk = some (mI G 24 (va_cpy K K1 0 0 24)) ∧ f1 yv = some (mI G 24 (va_cpy Vv V1 0 0 24)) ∧ ∀ c e, f c = some e → c ≠ o → c ≠ y0 → c ≠ yb → c ≠ yf → c ≠ yr → c ≠ yk → c ≠ yv → f1 c = some e) 6 78 := by
  refine mC.of (cc := cX5_recordNow) (maxL := 2) (ret := none) (by decide) rfl (Nat.le_of_ble_eq_true rfl) ?_
  intro pgm env s mt args below meth c A ls hx hb hml hr hlocks hown hname hts hK hE hA hM hl
  have hl : lv_has ls 2 [(0, .ref o)] := hl
  have hF := fun w9 e (hb : f w9 = some e) (_ : w9 ≠ o) (_ : w9 ≠ y0) (_ : w9 ≠ yb) (_ : w9 ≠ yf) (_ : w9 ≠ yr) (_ : w9 ≠ yk) (_ : w9 ≠ yv) => hb
  refine lv_aload_n hx hb dX5_recordNow_0 rfl (lv_at hl 0 rfl) ?_
  refine mm_get (C := RX5) (T := TX5) (N := 7) (k := 2) hx hb hts (fun _ h => List.mem_cons_of_mem _ (List.mem_append_left _ (List.mem_append_left _ (List.mem_append_right _ h)))) hown hK hM h_o rfl (by decide) (hts (.fieldLink RX5 161 "SentenceRules" "recordedCount" "I") (List.mem_of_getElem? (i := 1) rfl)) rfl rfl dX5_recordNow_1 ?_
  refine lv_bipush (v := (nI 8)) hx hb dX5_recordNow_4 (by decide +kernel) ?_
  refine ln_icmp_ne rc 8 (by omega) (by omega) (tgt := 13) hx hb dX5_recordNow_6 (by decide) (fun cz1 => ?_) (fun cz1 => ?_)
  · refine lv_aload_n hx hb dX5_recordNow_13 rfl (lv_at hl 0 rfl) ?_
    refine mm_get (C := RX5) (T := TX5) (N := 7) (k := 1) hx hb hts (fun _ h => List.mem_cons_of_mem _ (List.mem_append_left _ (List.mem_append_left _ (List.mem_append_right _ h)))) hown hK hM h_o rfl (by decide) (hts (.fieldLink RX5 16 "SentenceRules" "recorded" "[LSentenceRules$State;") (List.mem_of_getElem? (i := 2) rfl)) rfl rfl dX5_recordNow_14 ?_
    refine lv_aload_n hx hb dX5_recordNow_17 rfl (lv_at hl 0 rfl) ?_
    refine mm_get (C := RX5) (T := TX5) (N := 7) (k := 2) hx hb hts (fun _ h => List.mem_cons_of_mem _ (List.mem_append_left _ (List.mem_append_left _ (List.mem_append_right _ h)))) hown hK hM h_o rfl (by decide) (hts (.fieldLink RX5 161 "SentenceRules" "recordedCount" "I") (List.mem_of_getElem? (i := 1) rfl)) rfl rfl dX5_recordNow_18 ?_
    refine mm_aldT hx hb hK hM h_ra (vp_in_nI (by omega) (by decide)) dX5_recordNow_21 ?_
    rw [nI_clamp (by omega)]
    refine mv_val (y := .ref y0) (by rw [hyi]; rfl) ?_
    refine lv_astore_n (lv' := [(1, .ref y0), (0, .ref o)]) hx hb dX5_recordNow_22 rfl hl (by decide) rfl (fun ls hl => ?_)
    refine lv_aload_n hx hb dX5_recordNow_23 rfl (lv_at hl 0 rfl) ?_
    refine lv_ifnonnull (tgt := 45) hx hb dX5_recordNow_24 (by decide) ?_
    refine lv_aload_n hx hb dX5_recordNow_45 rfl (lv_at hl 0 rfl) ?_
    refine lv_aload_n hx hb dX5_recordNow_46 rfl (lv_at hl 1 rfl) ?_
    refine mm_get (C := RX5) (T := TX5) (N := 7) (k := 0) hx hb hts (fun _ h => List.mem_cons_of_mem _ (List.mem_append_left _ (List.mem_append_left _ (List.mem_append_right _ h)))) hown hK hM h_o rfl (by decide) (hts (.fieldLink RX5 12 "SentenceRules" "now" "LSentenceRules$State;") (List.mem_of_getElem? (i := 6) rfl)) rfl rfl dX5_recordNow_47 ?_
    refine mm_V (As := [.ref q0]) (rest := []) ⟨hx, hb, hml, hown, hts⟩ (c3_copyFrom l G h_y0 h_yb h_yf h_yr h_yk h_yv h_q0 h_b h_fc h_pr h_ka h_va d0 d1 d2 d3 d4 d5 d6 d7 d8 (fun i x hi hz => (hBT i x hi hz).elim (fun vsq hq => ⟨vsq, hF x _ hq (ne_oo hq h_o (by show (3 : Nat) ≠ 6; decide)) (ne_oo hq h_y0 (by show (3 : Nat) ≠ 4; decide)) (ne_oi hq h_yb) (ne_oi hq h_yf) (ne_oo hq h_yr (by show (3 : Nat) ≠ 5; decide)) (ne_oi hq h_yk) (ne_oi hq h_yv)⟩))) (cwV 1 hts gX5_recordNow_X3_copyFrom rfl rfl rfl (by decide +kernel) ⟨Nat.le_of_ble_eq_true rfl, Nat.le_of_ble_eq_true rfl⟩) hK hE hA hM (mm_recv hK hM h_y0 (q := (RX3, TX3, 4)) rfl) rfl hl.1 rfl (Nat.le_of_ble_eq_true rfl) dX5_recordNow_50 ⟨Nat.le_of_ble_eq_true rfl, Nat.le_of_ble_eq_true rfl⟩ (fun v gz2 Hp lcs hp hM => ?_)
    obtain ⟨rfl, hz3, hz4, hz5, hz6, hz7, hz8, rz9⟩ := hp
    have hz10 := rz9 _ _ h_q0 d0 (ne_oi h_q0 h_yb) (ne_oi h_q0 h_yf) (ne_oo h_q0 h_yr (by show (4 : Nat) ≠ 5; decide)) (ne_oi h_q0 h_yk) (ne_oi h_q0 h_yv)
    have hz11 := rz9 _ _ h_b (ne_oi h_y0 h_b).symm d1 (ne_QI h_b h_yf) (ne_oi h_yr h_b).symm (ne_QI h_b h_yk) (ne_QI h_b h_yv)
    have hz12 := rz9 _ _ h_fc (ne_oi h_y0 h_fc).symm (ne_QI h_yb h_fc).symm d2 (ne_oi h_yr h_fc).symm (ne_len h_fc h_yk (by decide)) (ne_len h_fc h_yv (by decide))
    have hz13 := rz9 _ _ h_pr (ne_oo h_pr h_y0 (by show (5 : Nat) ≠ 4; decide)) (ne_oi h_pr h_yb) (ne_oi h_pr h_yf) d3 (ne_oi h_pr h_yk) (ne_oi h_pr h_yv)
    have hz14 := rz9 _ _ h_ka (ne_oi h_y0 h_ka).symm (ne_QI h_yb h_ka).symm (ne_len h_ka h_yf (by decide)) (ne_oi h_yr h_ka).symm d5 d6
    have hz15 := rz9 _ _ h_va (ne_oi h_y0 h_va).symm (ne_QI h_yb h_va).symm (ne_len h_va h_yf (by decide)) (ne_oi h_yr h_va).symm d7 d8
    have hz16 := rz9 _ _ h_o (ne_oo h_o h_y0 (by show (6 : Nat) ≠ 4; decide)) (ne_oi h_o h_yb) (ne_oi h_o h_yf) (ne_oo h_o h_yr (by show (6 : Nat) ≠ 5; decide)) (ne_oi h_o h_yk) (ne_oi h_o h_yv)
    have hz17 := rz9 _ _ h_ra (ne_oi h_y0 h_ra).symm (ne_QQ h_ra h_yb (by decide)) (ne_QI h_ra h_yf) (ne_oi h_yr h_ra).symm (ne_QI h_ra h_yk) (ne_QI h_ra h_yv)
    have hF := fun w9 e (hb : f w9 = some e) (hn0 : w9 ≠ o) (hn1 : w9 ≠ y0) (hn2 : w9 ≠ yb) (hn3 : w9 ≠ yf) (hn4 : w9 ≠ yr) (hn5 : w9 ≠ yk) (hn6 : w9 ≠ yv) => rz9 w9 e (hF w9 e hb hn0 hn1 hn2 hn3 hn4 hn5 hn6) hn1 hn2 hn3 hn4 hn5 hn6
    refine lv_aload_n hx hb dX5_recordNow_53 rfl (lv_at hl 1 rfl) ?_
    refine lv_dup hx hb dX5_recordNow_54 rfl ?_
    refine mm_get (C := RX5) (T := TX5) (N := 7) (k := 2) hx hb hts (fun _ h => List.mem_cons_of_mem _ (List.mem_append_left _ (List.mem_append_left _ (List.mem_append_right _ h)))) hown hK hM hz16 rfl (by decide) (hts (.fieldLink RX5 161 "SentenceRules" "recordedCount" "I") (List.mem_of_getElem? (i := 1) rfl)) rfl rfl dX5_recordNow_55 ?_
    refine lv_iconst (v := (nI 1)) hx hb dX5_recordNow_58 (by decide +kernel) ?_
    refine ln_iadd rc 1 hx hb dX5_recordNow_59 ?_
    refine mm_put (C := RX5) (T := TX5) (N := 7) (k := 2) hx hb hts (fun _ h => List.mem_cons_of_mem _ (List.mem_append_left _ (List.mem_append_left _ (List.mem_append_right _ h)))) tyX5 tyX5_ok nmX5 hown hK hM hz16 rfl (by decide) (hts (.fieldLink RX5 161 "SentenceRules" "recordedCount" "I") (List.mem_of_getElem? (i := 1) rfl)) rfl rfl rfl rfl (Nat.le_of_ble_eq_true rfl) dX5_recordNow_60 (fun Hp lcs hM => ?_)
    obtain ⟨gz18, hM, hz19, rz20⟩ := hM.up
    have hz21 := (rz20 _ (ne_oo hz10 hz16 (by show (4 : Nat) ≠ 6; decide))).trans hz10
    have hz22 := (rz20 _ (ne_oi hz16 hz11).symm).trans hz11
    have hz23 := (rz20 _ (ne_oi hz16 hz12).symm).trans hz12
    have hz24 := (rz20 _ (ne_oo hz13 hz16 (by show (5 : Nat) ≠ 6; decide))).trans hz13
    have hz25 := (rz20 _ (ne_oi hz16 hz14).symm).trans hz14
    have hz26 := (rz20 _ (ne_oi hz16 hz15).symm).trans hz15
    have hz27 := (rz20 _ (ne_oi hz16 hz17).symm).trans hz17
    have hz28 := (rz20 _ (ne_oo hz3 hz16 (by show (4 : Nat) ≠ 6; decide))).trans hz3
    have hz29 := (rz20 _ (ne_oi hz16 hz4).symm).trans hz4
    have hz30 := (rz20 _ (ne_oi hz16 hz5).symm).trans hz5
    have hz31 := (rz20 _ (ne_oo hz6 hz16 (by show (5 : Nat) ≠ 6; decide))).trans hz6
    have hz32 := (rz20 _ (ne_oi hz16 hz7).symm).trans hz7
    have hz33 := (rz20 _ (ne_oi hz16 hz8).symm).trans hz8
    have hF := fun w9 e (hb : f w9 = some e) (hn0 : w9 ≠ o) (hn1 : w9 ≠ y0) (hn2 : w9 ≠ yb) (hn3 : w9 ≠ yf) (hn4 : w9 ≠ yr) (hn5 : w9 ≠ yk) (hn6 : w9 ≠ yv) => (rz20 w9 hn0).trans (hF w9 e hb hn0 hn1 hn2 hn3 hn4 hn5 hn6)
    exact mm_vret hx hb hlocks hr (Nat.le_of_ble_eq_true rfl) (Nat.le_of_ble_eq_true rfl) hM (⟨rfl, hz19, hz28, hz29, hz30, hz31, hz32, hz33, hF⟩) dX5_recordNow_63
  exact absurd cz1 (by omega)
set_option maxHeartbeats 4000000 in
set_option maxRecDepth 100000 in
theorem c5_record8 (l : Launch) (G : mG) {f : mE} {o ra rd sp rr sb : Nat} {RB : Nat → Option Nat} {q0 b fc pr ka va n cn : Nat} {B : Nat → Option Nat} {g K Vv : Nat → Int32} (h_q0 : f q0 = some (.inr (4, [.int (nI n), .ref b, .ref fc, .ref pr]))) (h_b : f b = some (mQ G 2 16 B)) (h_fc : f fc = some (mI G 7 g)) (h_pr : f pr = some (.inr (5, [.int (nI cn), .ref ka, .ref va]))) (h_ka : f ka = some (mI G 24 K)) (h_va : f va = some (mI G 24 Vv)) {y0 yb yf yr yk yv n1 cn1 : Nat} {B1 : Nat → Option Nat} {g1 K1 V1 : Nat → Int32} (h_y0 : f y0 = some (.inr (4, [.int (nI n1), .ref yb, .ref yf, .ref yr]))) (h_yb : f yb = some (mQ G 2 16 B1)) (h_yf : f yf = some (mI G 7 g1)) (h_yr : f yr = some (.inr (5, [.int (nI cn1), .ref yk, .ref yv]))) (h_yk : f yk = some (mI G 24 K1)) (h_yv : f yv = some (mI G 24 V1)) (d0 : q0 ≠ y0) (d1 : b ≠ yb) (d2 : fc ≠ yf) (d3 : pr ≠ yr) (d4 : yk ≠ yv) (d5 : ka ≠ yk) (d6 : ka ≠ yv) (d7 : va ≠ yk) (d8 : va ≠ yv) (h_o : f o = some (.inr (6, [.ref q0, .ref ra, .int (nI 8), .ref rd, .ref sp, .ref rr, .ref sb]))) (h_ra : f ra = some (mQ G 3 8 RB)) (hBT : ∀ i x, i < 16 → B i = some x → ∃ vs, f x = some (.inr (3, vs))) (hyi : RB 0 = some y0) (hB8 : ∀ i, i < 8 → ∃ x vs, RB i = some x ∧ f x = some (.inr (4, vs))) : mC l G yX5_recordNow wsX5_recordNow ({ frames := 3, cells := 6, slots := 78, locals := 69 } : Room) f [.ref o] (fun v f1 => v = none ∧ f1 o = some (.inr (6, [.ref q0, .ref ra, .int (nI 8), .ref rd, .ref sp, .ref rr, .ref sb])) ∧ f1 ra = some (mQ G 3 8 (va_up (remB RB 0 8) 7 (some y0))) ∧ f1 y0 = some (.inr (4, [.int (nI n), .ref yb, .ref yf, .ref yr])) ∧ f1 yb = some (mQ G 2 16 (copB B B1 16)) ∧ f1 yf = some (mI G 7 (va_cpy g g1 0 0 7)) ∧ f1 yr = some (.inr (5, [.int (nI cn), .ref yk, .ref yv])) ∧ f1 yk = some (mI G 24 (va_cpy K K1 0 0 24)) ∧ f1 yv = some (mI G 24 (va_cpy Vv V1 0 0 24)) ∧ ∀ c e, f c = some e → c ≠ o → c ≠ ra → c ≠ y0 → c ≠ yb → c ≠ yf → c ≠ yr → c ≠ yk → c ≠ yv → f1 c = some e) 6 78 := by
  refine mC.of (cc := cX5_recordNow) (maxL := 2) (ret := none) (by decide) rfl (Nat.le_of_ble_eq_true rfl) ?_
  intro pgm env s mt args below meth c A ls hx hb hml hr hlocks hown hname hts hK hE hA hM hl
  have hl : lv_has ls 2 [(0, .ref o)] := hl
  have hF := fun w9 e (hb : f w9 = some e) (_ : w9 ≠ o) (_ : w9 ≠ ra) (_ : w9 ≠ y0) (_ : w9 ≠ yb) (_ : w9 ≠ yf) (_ : w9 ≠ yr) (_ : w9 ≠ yk) (_ : w9 ≠ yv) => hb
  refine lv_aload_n hx hb dX5_recordNow_0 rfl (lv_at hl 0 rfl) ?_
  refine mm_get (C := RX5) (T := TX5) (N := 7) (k := 2) hx hb hts (fun _ h => List.mem_cons_of_mem _ (List.mem_append_left _ (List.mem_append_left _ (List.mem_append_right _ h)))) hown hK hM h_o rfl (by decide) (hts (.fieldLink RX5 161 "SentenceRules" "recordedCount" "I") (List.mem_of_getElem? (i := 1) rfl)) rfl rfl dX5_recordNow_1 ?_
  refine lv_bipush (v := (nI 8)) hx hb dX5_recordNow_4 (by decide +kernel) ?_
  refine ln_icmp_ne 8 8 (by omega) (by omega) (tgt := 13) hx hb dX5_recordNow_6 (by decide) (fun hq9 => absurd hq9 (by decide)) (fun _ => ?_)
  refine lv_aload_n hx hb dX5_recordNow_9 rfl (lv_at hl 0 rfl) ?_
  refine mm_V (As := []) (rest := []) ⟨hx, hb, hml, hown, hts⟩ (c5_dropOldest l G h_o h_ra hyi h_y0 hB8) (cwV 0 hts gX5_recordNow_X5_dropOldest rfl rfl rfl (by decide +kernel) ⟨Nat.le_of_ble_eq_true rfl, Nat.le_of_ble_eq_true rfl⟩) hK hE hA hM (mm_recv hK hM h_o (q := (RX5, TX5, 7)) rfl) rfl hl.1 rfl (Nat.le_of_ble_eq_true rfl) dX5_recordNow_10 ⟨Nat.le_of_ble_eq_true rfl, Nat.le_of_ble_eq_true rfl⟩ (fun v gz2 Hp lcs hp hM => ?_)
  obtain ⟨rfl, hz3, hz4, rz5⟩ := hp
  have hz6 := rz5 _ _ h_q0 (ne_oo h_q0 h_o (by show (4 : Nat) ≠ 6; decide)) (ne_oi h_q0 h_ra)
  have hz7 := rz5 _ _ h_b (ne_oi h_o h_b).symm (ne_QQ h_b h_ra (by decide))
  have hz8 := rz5 _ _ h_fc (ne_oi h_o h_fc).symm (ne_QI h_ra h_fc).symm
  have hz9 := rz5 _ _ h_pr (ne_oo h_pr h_o (by show (5 : Nat) ≠ 6; decide)) (ne_oi h_pr h_ra)
  have hz10 := rz5 _ _ h_ka (ne_oi h_o h_ka).symm (ne_QI h_ra h_ka).symm
  have hz11 := rz5 _ _ h_va (ne_oi h_o h_va).symm (ne_QI h_ra h_va).symm
  have hz12 := rz5 _ _ h_y0 (ne_oo h_y0 h_o (by show (4 : Nat) ≠ 6; decide)) (ne_oi h_y0 h_ra)
  have hz13 := rz5 _ _ h_yb (ne_oi h_o h_yb).symm (ne_QQ h_yb h_ra (by decide))
  have hz14 := rz5 _ _ h_yf (ne_oi h_o h_yf).symm (ne_QI h_ra h_yf).symm
  have hz15 := rz5 _ _ h_yr (ne_oo h_yr h_o (by show (5 : Nat) ≠ 6; decide)) (ne_oi h_yr h_ra)
  have hz16 := rz5 _ _ h_yk (ne_oi h_o h_yk).symm (ne_QI h_ra h_yk).symm
  have hz17 := rz5 _ _ h_yv (ne_oi h_o h_yv).symm (ne_QI h_ra h_yv).symm
  have hF := fun w9 e (hb : f w9 = some e) (hn0 : w9 ≠ o) (hn1 : w9 ≠ ra) (hn2 : w9 ≠ y0) (hn3 : w9 ≠ yb) (hn4 : w9 ≠ yf) (hn5 : w9 ≠ yr) (hn6 : w9 ≠ yk) (hn7 : w9 ≠ yv) => rz5 w9 e (hF w9 e hb hn0 hn1 hn2 hn3 hn4 hn5 hn6 hn7) hn0 hn1
  refine lv_aload_n hx hb dX5_recordNow_13 rfl (lv_at hl 0 rfl) ?_
  refine mm_get (C := RX5) (T := TX5) (N := 7) (k := 1) hx hb hts (fun _ h => List.mem_cons_of_mem _ (List.mem_append_left _ (List.mem_append_left _ (List.mem_append_right _ h)))) hown hK hM hz3 rfl (by decide) (hts (.fieldLink RX5 16 "SentenceRules" "recorded" "[LSentenceRules$State;") (List.mem_of_getElem? (i := 2) rfl)) rfl rfl dX5_recordNow_14 ?_
  refine lv_aload_n hx hb dX5_recordNow_17 rfl (lv_at hl 0 rfl) ?_
  refine mm_get (C := RX5) (T := TX5) (N := 7) (k := 2) hx hb hts (fun _ h => List.mem_cons_of_mem _ (List.mem_append_left _ (List.mem_append_left _ (List.mem_append_right _ h)))) hown hK hM hz3 rfl (by decide) (hts (.fieldLink RX5 161 "SentenceRules" "recordedCount" "I") (List.mem_of_getElem? (i := 1) rfl)) rfl rfl dX5_recordNow_18 ?_
  refine mm_aldT hx hb hK hM hz4 (vp_in_nI (by omega) (by decide)) dX5_recordNow_21 ?_
  rw [nI_clamp (by omega)]
  refine mv_val (y := .ref y0) (by rw [va_up_self]; rfl) ?_
  refine lv_astore_n (lv' := [(1, .ref y0), (0, .ref o)]) hx hb dX5_recordNow_22 rfl hl (by decide) rfl (fun ls hl => ?_)
  refine lv_aload_n hx hb dX5_recordNow_23 rfl (lv_at hl 0 rfl) ?_
  refine lv_ifnonnull (tgt := 45) hx hb dX5_recordNow_24 (by decide) ?_
  refine lv_aload_n hx hb dX5_recordNow_45 rfl (lv_at hl 0 rfl) ?_
  refine lv_aload_n hx hb dX5_recordNow_46 rfl (lv_at hl 1 rfl) ?_
  refine mm_get (C := RX5) (T := TX5) (N := 7) (k := 0) hx hb hts (fun _ h => List.mem_cons_of_mem _ (List.mem_append_left _ (List.mem_append_left _ (List.mem_append_right _ h)))) hown hK hM hz3 rfl (by decide) (hts (.fieldLink RX5 12 "SentenceRules" "now" "LSentenceRules$State;") (List.mem_of_getElem? (i := 6) rfl)) rfl rfl dX5_recordNow_47 ?_
  refine mm_V (As := [.ref q0]) (rest := []) ⟨hx, hb, hml, hown, hts⟩ (c3_copyFrom l G hz12 hz13 hz14 hz15 hz16 hz17 hz6 hz7 hz8 hz9 hz10 hz11 d0 d1 d2 d3 d4 d5 d6 d7 d8 (fun i x hi hz => (hBT i x hi hz).elim (fun vsq hq => ⟨vsq, hF x _ hq (ne_oo hq h_o (by show (3 : Nat) ≠ 6; decide)) (ne_oi hq h_ra) (ne_oo hq h_y0 (by show (3 : Nat) ≠ 4; decide)) (ne_oi hq h_yb) (ne_oi hq h_yf) (ne_oo hq h_yr (by show (3 : Nat) ≠ 5; decide)) (ne_oi hq h_yk) (ne_oi hq h_yv)⟩))) (cwV 1 hts gX5_recordNow_X3_copyFrom rfl rfl rfl (by decide +kernel) ⟨Nat.le_of_ble_eq_true rfl, Nat.le_of_ble_eq_true rfl⟩) hK hE hA hM (mm_recv hK hM hz12 (q := (RX3, TX3, 4)) rfl) rfl hl.1 rfl (Nat.le_of_ble_eq_true rfl) dX5_recordNow_50 ⟨Nat.le_of_ble_eq_true rfl, Nat.le_of_ble_eq_true rfl⟩ (fun v gz18 Hp lcs hp hM => ?_)
  obtain ⟨rfl, hz19, hz20, hz21, hz22, hz23, hz24, rz25⟩ := hp
  have hz26 := rz25 _ _ hz6 d0 (ne_oi hz6 hz13) (ne_oi hz6 hz14) (ne_oo hz6 hz15 (by show (4 : Nat) ≠ 5; decide)) (ne_oi hz6 hz16) (ne_oi hz6 hz17)
  have hz27 := rz25 _ _ hz7 (ne_oi hz12 hz7).symm d1 (ne_QI hz7 hz14) (ne_oi hz15 hz7).symm (ne_QI hz7 hz16) (ne_QI hz7 hz17)
  have hz28 := rz25 _ _ hz8 (ne_oi hz12 hz8).symm (ne_QI hz13 hz8).symm d2 (ne_oi hz15 hz8).symm (ne_len hz8 hz16 (by decide)) (ne_len hz8 hz17 (by decide))
  have hz29 := rz25 _ _ hz9 (ne_oo hz9 hz12 (by show (5 : Nat) ≠ 4; decide)) (ne_oi hz9 hz13) (ne_oi hz9 hz14) d3 (ne_oi hz9 hz16) (ne_oi hz9 hz17)
  have hz30 := rz25 _ _ hz10 (ne_oi hz12 hz10).symm (ne_QI hz13 hz10).symm (ne_len hz10 hz14 (by decide)) (ne_oi hz15 hz10).symm d5 d6
  have hz31 := rz25 _ _ hz11 (ne_oi hz12 hz11).symm (ne_QI hz13 hz11).symm (ne_len hz11 hz14 (by decide)) (ne_oi hz15 hz11).symm d7 d8
  have hz32 := rz25 _ _ hz3 (ne_oo hz3 hz12 (by show (6 : Nat) ≠ 4; decide)) (ne_oi hz3 hz13) (ne_oi hz3 hz14) (ne_oo hz3 hz15 (by show (6 : Nat) ≠ 5; decide)) (ne_oi hz3 hz16) (ne_oi hz3 hz17)
  have hz33 := rz25 _ _ hz4 (ne_oi hz12 hz4).symm (ne_QQ hz4 hz13 (by decide)) (ne_QI hz4 hz14) (ne_oi hz15 hz4).symm (ne_QI hz4 hz16) (ne_QI hz4 hz17)
  have hF := fun w9 e (hb : f w9 = some e) (hn0 : w9 ≠ o) (hn1 : w9 ≠ ra) (hn2 : w9 ≠ y0) (hn3 : w9 ≠ yb) (hn4 : w9 ≠ yf) (hn5 : w9 ≠ yr) (hn6 : w9 ≠ yk) (hn7 : w9 ≠ yv) => rz25 w9 e (hF w9 e hb hn0 hn1 hn2 hn3 hn4 hn5 hn6 hn7) hn2 hn3 hn4 hn5 hn6 hn7
  refine lv_aload_n hx hb dX5_recordNow_53 rfl (lv_at hl 1 rfl) ?_
  refine lv_dup hx hb dX5_recordNow_54 rfl ?_
  refine mm_get (C := RX5) (T := TX5) (N := 7) (k := 2) hx hb hts (fun _ h => List.mem_cons_of_mem _ (List.mem_append_left _ (List.mem_append_left _ (List.mem_append_right _ h)))) hown hK hM hz32 rfl (by decide) (hts (.fieldLink RX5 161 "SentenceRules" "recordedCount" "I") (List.mem_of_getElem? (i := 1) rfl)) rfl rfl dX5_recordNow_55 ?_
  refine lv_iconst (v := (nI 1)) hx hb dX5_recordNow_58 (by decide +kernel) ?_
  refine ln_iadd 7 1 hx hb dX5_recordNow_59 ?_
  refine mm_put (C := RX5) (T := TX5) (N := 7) (k := 2) hx hb hts (fun _ h => List.mem_cons_of_mem _ (List.mem_append_left _ (List.mem_append_left _ (List.mem_append_right _ h)))) tyX5 tyX5_ok nmX5 hown hK hM hz32 rfl (by decide) (hts (.fieldLink RX5 161 "SentenceRules" "recordedCount" "I") (List.mem_of_getElem? (i := 1) rfl)) rfl rfl rfl rfl (Nat.le_of_ble_eq_true rfl) dX5_recordNow_60 (fun Hp lcs hM => ?_)
  obtain ⟨gz34, hM, hz35, rz36⟩ := hM.up
  have hz37 := (rz36 _ (ne_oo hz26 hz32 (by show (4 : Nat) ≠ 6; decide))).trans hz26
  have hz38 := (rz36 _ (ne_oi hz32 hz27).symm).trans hz27
  have hz39 := (rz36 _ (ne_oi hz32 hz28).symm).trans hz28
  have hz40 := (rz36 _ (ne_oo hz29 hz32 (by show (5 : Nat) ≠ 6; decide))).trans hz29
  have hz41 := (rz36 _ (ne_oi hz32 hz30).symm).trans hz30
  have hz42 := (rz36 _ (ne_oi hz32 hz31).symm).trans hz31
  have hz43 := (rz36 _ (ne_oi hz32 hz33).symm).trans hz33
  have hz44 := (rz36 _ (ne_oo hz19 hz32 (by show (4 : Nat) ≠ 6; decide))).trans hz19
  have hz45 := (rz36 _ (ne_oi hz32 hz20).symm).trans hz20
  have hz46 := (rz36 _ (ne_oi hz32 hz21).symm).trans hz21
  have hz47 := (rz36 _ (ne_oo hz22 hz32 (by show (5 : Nat) ≠ 6; decide))).trans hz22
  have hz48 := (rz36 _ (ne_oi hz32 hz23).symm).trans hz23
  have hz49 := (rz36 _ (ne_oi hz32 hz24).symm).trans hz24
  have hF := fun w9 e (hb : f w9 = some e) (hn0 : w9 ≠ o) (hn1 : w9 ≠ ra) (hn2 : w9 ≠ y0) (hn3 : w9 ≠ yb) (hn4 : w9 ≠ yf) (hn5 : w9 ≠ yr) (hn6 : w9 ≠ yk) (hn7 : w9 ≠ yv) => (rz36 w9 hn0).trans (hF w9 e hb hn0 hn1 hn2 hn3 hn4 hn5 hn6 hn7)
  exact mm_vret hx hb hlocks hr (Nat.le_of_ble_eq_true rfl) (Nat.le_of_ble_eq_true rfl) hM (⟨rfl, hz35, hz43, hz44, hz45, hz46, hz47, hz48, hz49, hF⟩) dX5_recordNow_63
set_option maxHeartbeats 4000000 in
set_option maxRecDepth 100000 in
theorem c5_recordN (l : Launch) (G : mG) {f : mE} {o ra rd sp rr sb : Nat} {RB : Nat → Option Nat} {rc : Nat} {q0 b fc pr ka va n cn : Nat} {B : Nat → Option Nat} {g K Vv : Nat → Int32} (h_q0 : f q0 = some (.inr (4, [.int (nI n), .ref b, .ref fc, .ref pr]))) (h_b : f b = some (mQ G 2 16 B)) (h_fc : f fc = some (mI G 7 g)) (h_pr : f pr = some (.inr (5, [.int (nI cn), .ref ka, .ref va]))) (h_ka : f ka = some (mI G 24 K)) (h_va : f va = some (mI G 24 Vv)) (h_o : f o = some (.inr (6, [.ref q0, .ref ra, .int (nI rc), .ref rd, .ref sp, .ref rr, .ref sb]))) (h_ra : f ra = some (mQ G 3 8 RB)) (hBT : ∀ i x, i < 16 → B i = some x → ∃ vs, f x = some (.inr (3, vs))) (hrc : rc < 8) (hyi : RB rc = none) : mC l G yX5_recordNow wsX5_recordNow ({ frames := 3, cells := 6, slots := 78, locals := 69 } : Room) f [.ref o] (fun v f1 => v = none ∧ f1 o = some (.inr (6, [.ref q0, .ref ra, .int (nI (rc + 1)), .ref rd, .ref sp, .ref rr, .ref sb])) ∧ ∃ y0 yb yf yr yk yv : Nat, f y0 = none ∧ f yb = none ∧ f yf = none ∧ f yr = none ∧ f yk = none ∧ f yv = none ∧ yk ≠ yv ∧ f1 ra = some (mQ G 3 8 (va_up RB rc (some y0))) ∧ f1 y0 = some (.inr (4, [.int (nI n), .ref yb, .ref yf, .ref yr])) ∧ f1 yb = some (mQ G 2 16 (copB B (fun _ => none) 16)) ∧ f1 yf = some (mI G 7 (va_cpy g (upd (fun _ => 0) 6 (nI 36524)) 0 0 7)) ∧ f1 yr = some (.inr (5, [.int (nI cn), .ref yk, .ref yv])) ∧ f1 yk = some (mI G 24 (va_cpy K (fun _ => 0) 0 0 24)) ∧ f1 yv = some (mI G 24 (va_cpy Vv (fun _ => 0) 0 0 24)) ∧ ∀ c e, f c = some e → c ≠ o → c ≠ ra → f1 c = some e) 6 78 := by
  refine mC.of (cc := cX5_recordNow) (maxL := 2) (ret := none) (by decide) rfl (Nat.le_of_ble_eq_true rfl) ?_
  intro pgm env s mt args below meth c A ls hx hb hml hr hlocks hown hname hts hK hE hA hM hl
  have hl : lv_has ls 2 [(0, .ref o)] := hl
  have hF := fun w9 e (hb : f w9 = some e) (_ : w9 ≠ o) (_ : w9 ≠ ra) => hb
  refine lv_aload_n hx hb dX5_recordNow_0 rfl (lv_at hl 0 rfl) ?_
  refine mm_get (C := RX5) (T := TX5) (N := 7) (k := 2) hx hb hts (fun _ h => List.mem_cons_of_mem _ (List.mem_append_left _ (List.mem_append_left _ (List.mem_append_right _ h)))) hown hK hM h_o rfl (by decide) (hts (.fieldLink RX5 161 "SentenceRules" "recordedCount" "I") (List.mem_of_getElem? (i := 1) rfl)) rfl rfl dX5_recordNow_1 ?_
  refine lv_bipush (v := (nI 8)) hx hb dX5_recordNow_4 (by decide +kernel) ?_
  refine ln_icmp_ne rc 8 (by omega) (by omega) (tgt := 13) hx hb dX5_recordNow_6 (by decide) (fun cz1 => ?_) (fun cz1 => ?_)
  · refine lv_aload_n hx hb dX5_recordNow_13 rfl (lv_at hl 0 rfl) ?_
    refine mm_get (C := RX5) (T := TX5) (N := 7) (k := 1) hx hb hts (fun _ h => List.mem_cons_of_mem _ (List.mem_append_left _ (List.mem_append_left _ (List.mem_append_right _ h)))) hown hK hM h_o rfl (by decide) (hts (.fieldLink RX5 16 "SentenceRules" "recorded" "[LSentenceRules$State;") (List.mem_of_getElem? (i := 2) rfl)) rfl rfl dX5_recordNow_14 ?_
    refine lv_aload_n hx hb dX5_recordNow_17 rfl (lv_at hl 0 rfl) ?_
    refine mm_get (C := RX5) (T := TX5) (N := 7) (k := 2) hx hb hts (fun _ h => List.mem_cons_of_mem _ (List.mem_append_left _ (List.mem_append_left _ (List.mem_append_right _ h)))) hown hK hM h_o rfl (by decide) (hts (.fieldLink RX5 161 "SentenceRules" "recordedCount" "I") (List.mem_of_getElem? (i := 1) rfl)) rfl rfl dX5_recordNow_18 ?_
    refine mm_aldT hx hb hK hM h_ra (vp_in_nI (by omega) (by decide)) dX5_recordNow_21 ?_
    rw [nI_clamp (by omega)]
    refine mv_val (y := .null) (by rw [hyi]; rfl) ?_
    refine lv_astore_nN (lv' := [(1, .null), (0, .ref o)]) hx hb dX5_recordNow_22 rfl hl (by decide) rfl (fun ls hl => ?_)
    refine lv_aload_nN hx hb dX5_recordNow_23 rfl (lv_at hl 0 rfl) ?_
    refine lv_ifnonnullN hx hb dX5_recordNow_24 ?_
    refine mm_new (C := RX3) (T := TX3) (N := 4) (ci := 4) hx hb hts (fun _ h => List.mem_cons_of_mem _ (List.mem_append_left _ (List.mem_append_right _ h))) tyX3_ok hown (hts (.classLink RX5 9 RX3) (List.mem_of_getElem? (i := 3) rfl)) (hts (.instantiable RX3 4) (List.mem_of_getElem? (i := 4) rfl)) (hts (.initialized RX3) (List.mem_of_getElem? (i := 5) rfl)) hK hM hA rfl [.int 0, .null, .null, .null] (by decide) (Nat.le_of_ble_eq_true rfl) (Nat.le_of_ble_eq_true rfl) dX5_recordNow_27 (fun qz2 Hp nz3 hM => ?_)
    obtain ⟨gz4, hM, hz5, rz6⟩ := hM.up
    have fo7 : f qz2 = none := fresh_of (fun e hb => hF qz2 e hb (ne_none h_o nz3).symm (ne_none h_ra nz3).symm) nz3
    have hF := fun w9 e (hb : f w9 = some e) (hn0 : w9 ≠ o) (hn1 : w9 ≠ ra) => (rz6 w9 (ne_none (hF w9 e hb hn0 hn1) nz3)).trans (hF w9 e hb hn0 hn1)
    have ne8 := ne_none h_q0 nz3
    have hz9 := (rz6 _ ne8).trans h_q0
    have ne10 := ne_none h_b nz3
    have hz11 := (rz6 _ ne10).trans h_b
    have ne12 := ne_none h_fc nz3
    have hz13 := (rz6 _ ne12).trans h_fc
    have ne14 := ne_none h_pr nz3
    have hz15 := (rz6 _ ne14).trans h_pr
    have ne16 := ne_none h_ka nz3
    have hz17 := (rz6 _ ne16).trans h_ka
    have ne18 := ne_none h_va nz3
    have hz19 := (rz6 _ ne18).trans h_va
    have ne20 := ne_none h_o nz3
    have hz21 := (rz6 _ ne20).trans h_o
    have ne22 := ne_none h_ra nz3
    have hz23 := (rz6 _ ne22).trans h_ra
    refine lv_dup hx hb dX5_recordNow_30 rfl ?_
    refine mm_I (As := []) (rest := [.ref qz2]) ⟨hx, hb, hml, hown, hts⟩ (c3_init l G hz5) (cwI 0 hts gX5_recordNow_X3_init rfl rfl rfl (hts (.initialized RX3) (List.mem_of_getElem? (i := 5) rfl)) (hts (.methodLink RX5 11 yX3_init) (List.mem_of_getElem? (i := 12) rfl)) (hts (.instanceMethod yX3_init) (List.mem_of_getElem? (i := 13) rfl)) rfl (by decide +kernel) ⟨Nat.le_of_ble_eq_true rfl, Nat.le_of_ble_eq_true rfl⟩) hK hE hA hM rfl hl.1 rfl (Nat.le_of_ble_eq_true rfl) dX5_recordNow_31 ⟨Nat.le_of_ble_eq_true rfl, Nat.le_of_ble_eq_true rfl⟩ (fun v gz24 Hp lcs hp hM => ?_)
    obtain ⟨rfl, qz25, qz26, qz27, qz28, qz29, nz30, nz31, nz32, nz33, nz34, ne35, ne36, ne37, ne38, ne39, ne40, ne41, ne42, ne43, ne44, hz45, hz46, hz47, hz48, hz49, hz50, rz51⟩ := hp
    have fo52 : f qz25 = none := fresh_of (fun e hb => hF qz25 e hb (ne_none hz21 nz30).symm (ne_none hz23 nz30).symm) nz30
    have ne53 := ne_none hz9 nz30
    have ne54 := ne_none hz11 nz30
    have ne55 := ne_none hz13 nz30
    have ne56 := ne_none hz15 nz30
    have ne57 := ne_none hz17 nz30
    have ne58 := ne_none hz19 nz30
    have ne59 := ne_none hz21 nz30
    have ne60 := ne_none hz23 nz30
    have ne61 := ne_none hz5 nz30
    have fo62 : f qz26 = none := fresh_of (fun e hb => hF qz26 e hb (ne_none hz21 nz31).symm (ne_none hz23 nz31).symm) nz31
    have ne63 := ne_none hz9 nz31
    have ne64 := ne_none hz11 nz31
    have ne65 := ne_none hz13 nz31
    have ne66 := ne_none hz15 nz31
    have ne67 := ne_none hz17 nz31
    have ne68 := ne_none hz19 nz31
    have ne69 := ne_none hz21 nz31
    have ne70 := ne_none hz23 nz31
    have ne71 := ne_none hz5 nz31
    have fo72 : f qz27 = none := fresh_of (fun e hb => hF qz27 e hb (ne_none hz21 nz32).symm (ne_none hz23 nz32).symm) nz32
    have ne73 := ne_none hz9 nz32
    have ne74 := ne_none hz11 nz32
    have ne75 := ne_none hz13 nz32
    have ne76 := ne_none hz15 nz32
    have ne77 := ne_none hz17 nz32
    have ne78 := ne_none hz19 nz32
    have ne79 := ne_none hz21 nz32
    have ne80 := ne_none hz23 nz32
    have ne81 := ne_none hz5 nz32
    have fo82 : f qz28 = none := fresh_of (fun e hb => hF qz28 e hb (ne_none hz21 nz33).symm (ne_none hz23 nz33).symm) nz33
    have ne83 := ne_none hz9 nz33
    have ne84 := ne_none hz11 nz33
    have ne85 := ne_none hz13 nz33
    have ne86 := ne_none hz15 nz33
    have ne87 := ne_none hz17 nz33
    have ne88 := ne_none hz19 nz33
    have ne89 := ne_none hz21 nz33
    have ne90 := ne_none hz23 nz33
    have ne91 := ne_none hz5 nz33
    have fo92 : f qz29 = none := fresh_of (fun e hb => hF qz29 e hb (ne_none hz21 nz34).symm (ne_none hz23 nz34).symm) nz34
    have ne93 := ne_none hz9 nz34
    have ne94 := ne_none hz11 nz34
    have ne95 := ne_none hz13 nz34
    have ne96 := ne_none hz15 nz34
    have ne97 := ne_none hz17 nz34
    have ne98 := ne_none hz19 nz34
    have ne99 := ne_none hz21 nz34
    have ne100 := ne_none hz23 nz34
    have ne101 := ne_none hz5 nz34
    have hz102 := rz51 _ _ hz9 ne8
    have hz103 := rz51 _ _ hz11 ne10
    have hz104 := rz51 _ _ hz13 ne12
    have hz105 := rz51 _ _ hz15 ne14
    have hz106 := rz51 _ _ hz17 ne16
    have hz107 := rz51 _ _ hz19 ne18
    have hz108 := rz51 _ _ hz21 ne20
    have hz109 := rz51 _ _ hz23 ne22
    have hF := fun w9 e (hb : f w9 = some e) (hn0 : w9 ≠ o) (hn1 : w9 ≠ ra) => rz51 w9 e (hF w9 e hb hn0 hn1) (ne_none hb fo7)
    refine lv_astore_n (lv' := [(1, .ref qz2), (0, .ref o)]) hx hb dX5_recordNow_34 rfl hl (by decide) rfl (fun ls hl => ?_)
    refine lv_aload_n hx hb dX5_recordNow_35 rfl (lv_at hl 1 rfl) ?_
    refine mm_get (C := RX5) (T := TX5) (N := 7) (k := 1) hx hb hts (fun _ h => List.mem_cons_of_mem _ (List.mem_append_left _ (List.mem_append_left _ (List.mem_append_right _ h)))) hown hK hM hz108 rfl (by decide) (hts (.fieldLink RX5 16 "SentenceRules" "recorded" "[LSentenceRules$State;") (List.mem_of_getElem? (i := 2) rfl)) rfl rfl dX5_recordNow_36 ?_
    refine lv_aload_n hx hb dX5_recordNow_39 rfl (lv_at hl 1 rfl) ?_
    refine mm_get (C := RX5) (T := TX5) (N := 7) (k := 2) hx hb hts (fun _ h => List.mem_cons_of_mem _ (List.mem_append_left _ (List.mem_append_left _ (List.mem_append_right _ h)))) hown hK hM hz108 rfl (by decide) (hts (.fieldLink RX5 161 "SentenceRules" "recordedCount" "I") (List.mem_of_getElem? (i := 1) rfl)) rfl rfl dX5_recordNow_40 ?_
    refine lv_aload_n hx hb dX5_recordNow_43 rfl (lv_at hl 0 rfl) ?_
    refine mm_astT hx hb hK hM hz109 hz45 rc (by omega) (by decide) dX5_recordNow_44 (fun Hp lcs hM => ?_)
    obtain ⟨gz110, hM, hz111, rz112⟩ := hM.up
    have hz113 := (rz112 _ (ne_oi hz102 hz109)).trans hz102
    have hz114 := (rz112 _ (ne_QQ hz103 hz109 (by decide))).trans hz103
    have hz115 := (rz112 _ (ne_QI hz109 hz104).symm).trans hz104
    have hz116 := (rz112 _ (ne_oi hz105 hz109)).trans hz105
    have hz117 := (rz112 _ (ne_QI hz109 hz106).symm).trans hz106
    have hz118 := (rz112 _ (ne_QI hz109 hz107).symm).trans hz107
    have hz119 := (rz112 _ (ne_oi hz108 hz109)).trans hz108
    have hz120 := (rz112 _ (Ne.symm ne22)).trans hz45
    have hz121 := (rz112 _ (Ne.symm ne60)).trans hz46
    have hz122 := (rz112 _ (Ne.symm ne70)).trans hz47
    have hz123 := (rz112 _ (Ne.symm ne80)).trans hz48
    have hz124 := (rz112 _ (Ne.symm ne90)).trans hz49
    have hz125 := (rz112 _ (Ne.symm ne100)).trans hz50
    have hF := fun w9 e (hb : f w9 = some e) (hn0 : w9 ≠ o) (hn1 : w9 ≠ ra) => (rz112 w9 hn1).trans (hF w9 e hb hn0 hn1)
    have hlf := fun c e hc (hn : c ≠ ra) => (rz112 c hn).trans (hc : _ = some e)
    refine lv_aload_n hx hb dX5_recordNow_45 rfl (lv_at hl 0 rfl) ?_
    refine lv_aload_n hx hb dX5_recordNow_46 rfl (lv_at hl 1 rfl) ?_
    refine mm_get (C := RX5) (T := TX5) (N := 7) (k := 0) hx hb hts (fun _ h => List.mem_cons_of_mem _ (List.mem_append_left _ (List.mem_append_left _ (List.mem_append_right _ h)))) hown hK hM hz119 rfl (by decide) (hts (.fieldLink RX5 12 "SentenceRules" "now" "LSentenceRules$State;") (List.mem_of_getElem? (i := 6) rfl)) rfl rfl dX5_recordNow_47 ?_
    refine mm_V (As := [.ref q0]) (rest := []) ⟨hx, hb, hml, hown, hts⟩ (c3_copyFrom l G hz120 hz121 hz122 hz123 hz124 hz125 hz113 hz114 hz115 hz116 hz117 hz118 ne8 ne54 ne65 ne76 ne44 ne87 ne97 ne88 ne98 (fun i x hi hz => (hBT i x hi hz).elim (fun vsq hq => ⟨vsq, hF x _ hq (ne_oo hq h_o (by show (3 : Nat) ≠ 6; decide)) (ne_oi hq h_ra)⟩))) (cwV 1 hts gX5_recordNow_X3_copyFrom rfl rfl rfl (by decide +kernel) ⟨Nat.le_of_ble_eq_true rfl, Nat.le_of_ble_eq_true rfl⟩) hK hE hA hM (mm_recv hK hM hz120 (q := (RX3, TX3, 4)) rfl) rfl hl.1 rfl (Nat.le_of_ble_eq_true rfl) dX5_recordNow_50 ⟨Nat.le_of_ble_eq_true rfl, Nat.le_of_ble_eq_true rfl⟩ (fun v gz126 Hp lcs hp hM => ?_)
    obtain ⟨rfl, hz127, hz128, hz129, hz130, hz131, hz132, rz133⟩ := hp
    have hz134 := rz133 _ _ hz113 ne8 ne53 ne63 ne73 ne83 ne93
    have hz135 := rz133 _ _ hz114 ne10 ne54 ne64 ne74 ne84 ne94
    have hz136 := rz133 _ _ hz115 ne12 ne55 ne65 ne75 ne85 ne95
    have hz137 := rz133 _ _ hz116 ne14 ne56 ne66 ne76 ne86 ne96
    have hz138 := rz133 _ _ hz117 ne16 ne57 ne67 ne77 ne87 ne97
    have hz139 := rz133 _ _ hz118 ne18 ne58 ne68 ne78 ne88 ne98
    have hz140 := rz133 _ _ hz119 ne20 ne59 ne69 ne79 ne89 ne99
    have hz141 := rz133 _ _ hz111 ne22 ne60 ne70 ne80 ne90 ne100
    have hF := fun w9 e (hb : f w9 = some e) (hn0 : w9 ≠ o) (hn1 : w9 ≠ ra) => rz133 w9 e (hF w9 e hb hn0 hn1) (ne_none hb fo7) (ne_none hb fo52) (ne_none hb fo62) (ne_none hb fo72) (ne_none hb fo82) (ne_none hb fo92)
    refine lv_aload_n hx hb dX5_recordNow_53 rfl (lv_at hl 1 rfl) ?_
    refine lv_dup hx hb dX5_recordNow_54 rfl ?_
    refine mm_get (C := RX5) (T := TX5) (N := 7) (k := 2) hx hb hts (fun _ h => List.mem_cons_of_mem _ (List.mem_append_left _ (List.mem_append_left _ (List.mem_append_right _ h)))) hown hK hM hz140 rfl (by decide) (hts (.fieldLink RX5 161 "SentenceRules" "recordedCount" "I") (List.mem_of_getElem? (i := 1) rfl)) rfl rfl dX5_recordNow_55 ?_
    refine lv_iconst (v := (nI 1)) hx hb dX5_recordNow_58 (by decide +kernel) ?_
    refine ln_iadd rc 1 hx hb dX5_recordNow_59 ?_
    refine mm_put (C := RX5) (T := TX5) (N := 7) (k := 2) hx hb hts (fun _ h => List.mem_cons_of_mem _ (List.mem_append_left _ (List.mem_append_left _ (List.mem_append_right _ h)))) tyX5 tyX5_ok nmX5 hown hK hM hz140 rfl (by decide) (hts (.fieldLink RX5 161 "SentenceRules" "recordedCount" "I") (List.mem_of_getElem? (i := 1) rfl)) rfl rfl rfl rfl (Nat.le_of_ble_eq_true rfl) dX5_recordNow_60 (fun Hp lcs hM => ?_)
    obtain ⟨gz142, hM, hz143, rz144⟩ := hM.up
    have hz145 := (rz144 _ (ne_oo hz134 hz140 (by show (4 : Nat) ≠ 6; decide))).trans hz134
    have hz146 := (rz144 _ (ne_oi hz140 hz135).symm).trans hz135
    have hz147 := (rz144 _ (ne_oi hz140 hz136).symm).trans hz136
    have hz148 := (rz144 _ (ne_oo hz137 hz140 (by show (5 : Nat) ≠ 6; decide))).trans hz137
    have hz149 := (rz144 _ (ne_oi hz140 hz138).symm).trans hz138
    have hz150 := (rz144 _ (ne_oi hz140 hz139).symm).trans hz139
    have hz151 := (rz144 _ (ne_oi hz140 hz141).symm).trans hz141
    have hz152 := (rz144 _ (Ne.symm ne20)).trans hz127
    have hz153 := (rz144 _ (Ne.symm ne59)).trans hz128
    have hz154 := (rz144 _ (Ne.symm ne69)).trans hz129
    have hz155 := (rz144 _ (Ne.symm ne79)).trans hz130
    have hz156 := (rz144 _ (Ne.symm ne89)).trans hz131
    have hz157 := (rz144 _ (Ne.symm ne99)).trans hz132
    have hF := fun w9 e (hb : f w9 = some e) (hn0 : w9 ≠ o) (hn1 : w9 ≠ ra) => (rz144 w9 hn0).trans (hF w9 e hb hn0 hn1)
    exact mm_vret hx hb hlocks hr (Nat.le_of_ble_eq_true rfl) (Nat.le_of_ble_eq_true rfl) hM (⟨rfl, hz143, qz2, qz25, qz26, qz27, qz28, qz29, fo7, fo52, fo62, fo72, fo82, fo92, ne44, hz151, hz152, hz153, hz154, hz155, hz156, hz157, hF⟩) dX5_recordNow_63
  exact absurd cz1 (by omega)

