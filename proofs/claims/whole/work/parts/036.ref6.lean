/-! THE REFERENCE: records, tokens, dates -/
def shK (P : Nat → Int32) (i : Nat) : Nat → Int32 := fun j => if j < i then P (j + 1113) else P j
theorem shK_0 (P : Nat → Int32) : shK P 0 = P := by funext j; simp [shK]
theorem shK_s (P : Nat → Int32) (i : Nat) : upd (shK P i) i (shK P i (1113 + i)) = shK P (i + 1) := by
  funext j
  unfold upd shK
  by_cases h : j = i
  · subst h
    have h1 : ¬ (1113 + j < j) := by omega
    have h2 : j < j + 1 := by omega
    simp [h1, h2, Nat.add_comm]; intro hq; omega
  · by_cases h2 : j < i
    · have h3 : j < i + 1 := by omega
      simp [h, h2, h3]
    · have h3 : ¬ j < i + 1 := by omega
      simp [h, h2, h3]
def cpK (S P : Nat → Int32) (q i : Nat) : Nat → Int32 := fun j => if 1113 * q ≤ j ∧ j < 1113 * q + i then S (j - 1113 * q) else P j
theorem cpK_0 (S P : Nat → Int32) (q : Nat) : cpK S P q 0 = P := by
  funext j; unfold cpK; rw [if_neg (by omega)]
theorem cpK_s (S P : Nat → Int32) (q i : Nat) : upd (cpK S P q i) (1113 * q + i) (S i) = cpK S P q (i + 1) := by
  funext j
  unfold upd cpK
  by_cases h : j = 1113 * q + i
  · subst h
    rw [if_pos rfl, if_pos ⟨by omega, by omega⟩]
    congr 1; omega
  · rw [if_neg h]
    by_cases h2 : 1113 * q ≤ j ∧ j < 1113 * q + i
    · rw [if_pos h2, if_pos ⟨h2.1, by omega⟩]
    · rw [if_neg h2, if_neg (by omega)]
def addS (S : Nat → Int32) (c : Nat) (x y : Int32) : Nat → Int32 := upd (upd (upd S (8 + c) x) (32 + c) y) 7 (nI (c + 1))
def daysN (y m : Nat) : Nat := if m = 2 then (if leapB (nI y) = true then 29 else 28) else if m = 4 ∨ m = 6 ∨ m = 9 ∨ m = 11 then 30 else 31
theorem daysF_nI {y m : Nat} (hm : m < 2 ^ 31) : daysF (nI y) (nI m) = nI (daysN y m) := by
  unfold daysF daysN
  simp only [show (2 : Int32) = nI 2 from rfl, show (4 : Int32) = nI 4 from rfl, show (6 : Int32) = nI 6 from rfl, show (9 : Int32) = nI 9 from rfl, show (11 : Int32) = nI 11 from rfl, nI_eq hm (show 2 < 2 ^ 31 by decide), nI_eq hm (show 4 < 2 ^ 31 by decide), nI_eq hm (show 6 < 2 ^ 31 by decide), nI_eq hm (show 9 < 2 ^ 31 by decide), nI_eq hm (show 11 < 2 ^ 31 by decide)]
  split
  · split <;> rfl
  · split <;> rfl
theorem daysN_le (y m : Nat) : 28 ≤ daysN y m ∧ daysN y m ≤ 31 := by
  unfold daysN; split
  · split <;> omega
  · split <;> omega
def yrN : Nat → Nat
  | 0 => 0
  | i + 1 => yrN i + if leapB (nI (1900 + i)) = true then 366 else 365
theorem yrN_le : ∀ i, yrN i ≤ 366 * i
  | 0 => Nat.le_refl 0
  | i + 1 => by
    have := yrN_le i
    rw [yrN]; split <;> omega
def moN (y : Nat) : Nat → Nat
  | 0 => 0
  | i + 1 => moN y i + daysN y (1 + i)
theorem moN_le (y : Nat) : ∀ i, moN y i ≤ 31 * i
  | 0 => Nat.le_refl 0
  | i + 1 => by
    have := moN_le y i
    have := daysN_le y (1 + i)
    rw [moN]; omega
def dayN (y m d : Nat) : Nat := d - 1 + yrN (y - 1900) + moN y (m - 1)
set_option maxHeartbeats 4000000 in
set_option maxRecDepth 100000 in
theorem c6_record8 (l : Launch) (G : mG) {f : mE} {o : Nat} {a : Nat → Nat} {S P lo hi ou : Nat → Int32} {isr wd us ab gi wr wo : Int32} (hI : RI G f o a S P lo hi ou (nI 8) isr wd us ab gi wr wo) : mC l G yX6_record wsX6_record ({ frames := 0, cells := 0, slots := 0, locals := 0 } : Room) f [.ref o] (fun v f1 => v = none ∧ RI G f1 o a S (cpK S (shK P 7791) 7 1113) lo hi ou (nI 8) isr wd us ab gi wr wo) 0 0 := by
  refine mC.of (cc := cX6_record) (maxL := 2) (ret := none) (by decide) rfl (Nat.le_of_ble_eq_true rfl) ?_
  intro pgm env s mt args below meth c A ls hx hb hml hr hlocks hown hname hts hK hE hA hM hl
  have hl : lv_has ls 2 [(0, .ref o)] := hl
  refine lv_aload_n hx hb dX6_record_0 rfl (lv_at hl 0 rfl) ?_
  refine mm_get (C := RX6) (T := TX6) (N := 14) (k := 3) hx hb hts (fun _ h => List.mem_cons_of_mem _ (List.mem_append_right _ h)) hown hK hM (hI.obj) rfl (by decide) (hts (.fieldLink RX6 47 "SentenceRulesModel" "recorded" "I") (List.mem_of_getElem? (i := 1) rfl)) rfl rfl dX6_record_1 ?_
  refine lv_bipush (v := (nI 8)) hx hb dX6_record_4 (by decide +kernel) ?_
  refine ln_icmp_ne 8 8 (by omega) (by omega) (tgt := 52) hx hb dX6_record_6 (by decide) (fun hq9 => absurd hq9 (by decide)) (fun _ => ?_)
  refine lv_sipush (v := (nI 1113)) hx hb dX6_record_9 (by decide +kernel) ?_
  refine lv_istore_n (lv' := [(1, .int (nI 1113)), (0, .ref o)]) hx hb dX6_record_12 rfl hl (by decide) rfl (fun ls hl => ?_)
  have loopY : ∀ (fuel : Nat) (i : Nat) (fz : mE) (Hp : Heap) (lcs : List Loc) (ls : Array Slot) (hiN : i ≤ 7791) (hIz : RI G fz o a S (shK P i) lo hi ou (nI 8) isr wd us ab gi wr wo) (hfu : 7791 - i < fuel) (hM : mM G A s.heap fz Hp lcs) (hl : lv_has ls 2 [(0, .ref o), (1, .int (nI (1113 + i)))]), W pgm l env ({ frames := 0, cells := 0, slots := 0, locals := 0 } : Room) s mt args below meth c Hp lcs 0 0 (MQ below (mQc G A (fun v f1 => v = none ∧ RI G f1 o a S (cpK S (shK P 7791) 7 1113) lo hi ou (nI 8) isr wd us ab gi wr wo)) args s 0 0 A) (F0 mt 13 ls []) := by
    intro fuel
    induction fuel with
    | zero => intro i fz Hp lcs ls hiN hIz hfu; exact absurd hfu (Nat.not_lt_zero _)
    | succ fuel ih =>
      intro i fz Hp lcs ls hiN hIz hfu hM hl
      have hI := hIz
      refine lv_iload_n hx hb dX6_record_13 rfl (lv_at hl 1 rfl) ?_
      refine lv_sipush (v := (nI 8904)) hx hb dX6_record_14 (by decide +kernel) ?_
      refine ln_icmp_ge (1113 + i) 8904 (by omega) (by omega) (tgt := 42) hx hb dX6_record_17 (by decide) (fun cz2 => ?_) (fun cz2 => ?_)
      · have hz : i = 7791 := (by omega)
        subst hz
        refine lv_aload_n hx hb dX6_record_42 rfl (lv_at hl 0 rfl) ?_
        refine lv_dup hx hb dX6_record_43 rfl ?_
        refine mm_get (C := RX6) (T := TX6) (N := 14) (k := 3) hx hb hts (fun _ h => List.mem_cons_of_mem _ (List.mem_append_right _ h)) hown hK hM (hI.obj) rfl (by decide) (hts (.fieldLink RX6 47 "SentenceRulesModel" "recorded" "I") (List.mem_of_getElem? (i := 1) rfl)) rfl rfl dX6_record_44 ?_
        refine lv_iconst (v := (nI 1)) hx hb dX6_record_47 (by decide +kernel) ?_
        refine ln_isub 8 1 (by omega) hx hb dX6_record_48 ?_
        refine mv_top (y := (nI 7)) (congrArg nI (by omega)) ?_
        refine mm_put (C := RX6) (T := TX6) (N := 14) (k := 3) hx hb hts (fun _ h => List.mem_cons_of_mem _ (List.mem_append_right _ h)) tyX6 tyX6_ok nmX6 hown hK hM (hI.obj) rfl (by decide) (hts (.fieldLink RX6 47 "SentenceRulesModel" "recorded" "I") (List.mem_of_getElem? (i := 1) rfl)) rfl rfl rfl rfl (Nat.le_of_ble_eq_true rfl) dX6_record_49 (fun Hp lcs hM => ?_)
        have hI := hI.setObj (nI 7) isr wd us ab gi wr wo
        refine lv_iconst (v := (nI 0)) hx hb dX6_record_52 (by decide +kernel) ?_
        refine lv_istore_n (lv' := [(1, .int (nI 0)), (0, .ref o)]) hx hb dX6_record_53 rfl hl (by decide) rfl (fun ls hl => ?_)
        have loopZ : ∀ (fuelB : Nat) (i : Nat) (fz : mE) (Hp : Heap) (lcs : List Loc) (ls : Array Slot) (hiN : i ≤ 1113) (hIz : RI G fz o a S (cpK S (shK P 7791) 7 i) lo hi ou (nI 7) isr wd us ab gi wr wo) (hfuB : 1113 - i < fuelB) (hM : mM G A s.heap fz Hp lcs) (hl : lv_has ls 2 [(0, .ref o), (1, .int (nI i))]), W pgm l env ({ frames := 0, cells := 0, slots := 0, locals := 0 } : Room) s mt args below meth c Hp lcs 0 0 (MQ below (mQc G A (fun v f1 => v = none ∧ RI G f1 o a S (cpK S (shK P 7791) 7 1113) lo hi ou (nI 8) isr wd us ab gi wr wo)) args s 0 0 A) (F0 mt 54 ls []) := by
          intro fuelB
          induction fuelB with
          | zero => intro i fz Hp lcs ls hiN hIz hfuB; exact absurd hfuB (Nat.not_lt_zero _)
          | succ fuelB ihB =>
            intro i fz Hp lcs ls hiN hIz hfuB hM hl
            have hI := hIz
            refine lv_iload_n hx hb dX6_record_54 rfl (lv_at hl 1 rfl) ?_
            refine lv_sipush (v := (nI 1113)) hx hb dX6_record_55 (by decide +kernel) ?_
            refine ln_icmp_ge i 1113 (by omega) (by omega) (tgt := 88) hx hb dX6_record_58 (by decide) (fun cz3 => ?_) (fun cz3 => ?_)
            · refine lv_aload_n hx hb dX6_record_88 rfl (lv_at hl 0 rfl) ?_
              refine lv_dup hx hb dX6_record_89 rfl ?_
              refine mm_get (C := RX6) (T := TX6) (N := 14) (k := 3) hx hb hts (fun _ h => List.mem_cons_of_mem _ (List.mem_append_right _ h)) hown hK hM (hI.obj) rfl (by decide) (hts (.fieldLink RX6 47 "SentenceRulesModel" "recorded" "I") (List.mem_of_getElem? (i := 1) rfl)) rfl rfl dX6_record_90 ?_
              refine lv_iconst (v := (nI 1)) hx hb dX6_record_93 (by decide +kernel) ?_
              refine ln_iadd 7 1 hx hb dX6_record_94 ?_
              refine mm_put (C := RX6) (T := TX6) (N := 14) (k := 3) hx hb hts (fun _ h => List.mem_cons_of_mem _ (List.mem_append_right _ h)) tyX6 tyX6_ok nmX6 hown hK hM (hI.obj) rfl (by decide) (hts (.fieldLink RX6 47 "SentenceRulesModel" "recorded" "I") (List.mem_of_getElem? (i := 1) rfl)) rfl rfl rfl rfl (Nat.le_of_ble_eq_true rfl) dX6_record_95 (fun Hp lcs hM => ?_)
              have hI := hI.setObj (nI (7 + 1)) isr wd us ab gi wr wo
              exact mm_vret hx hb hlocks hr (Nat.le_of_ble_eq_true rfl) (Nat.le_of_ble_eq_true rfl) hM ((by have hz : i = 1113 := (by omega); subst hz; exact ⟨rfl, hI⟩)) dX6_record_98
            refine lv_aload_n hx hb dX6_record_61 rfl (lv_at hl 0 rfl) ?_
            refine mm_get (C := RX6) (T := TX6) (N := 14) (k := 2) hx hb hts (fun _ h => List.mem_cons_of_mem _ (List.mem_append_right _ h)) hown hK hM (hI.obj) rfl (by decide) (hts (.fieldLink RX6 16 "SentenceRulesModel" "past" "[I") (List.mem_of_getElem? (i := 2) rfl)) rfl rfl dX6_record_62 ?_
            refine lv_sipush (v := (nI 1113)) hx hb dX6_record_65 (by decide +kernel) ?_
            refine lv_aload_n hx hb dX6_record_68 rfl (lv_at hl 0 rfl) ?_
            refine mm_get (C := RX6) (T := TX6) (N := 14) (k := 3) hx hb hts (fun _ h => List.mem_cons_of_mem _ (List.mem_append_right _ h)) hown hK hM (hI.obj) rfl (by decide) (hts (.fieldLink RX6 47 "SentenceRulesModel" "recorded" "I") (List.mem_of_getElem? (i := 1) rfl)) rfl rfl dX6_record_69 ?_
            refine ln_imul 1113 7 hx hb dX6_record_72 ?_
            refine lv_iload_n hx hb dX6_record_73 rfl (lv_at hl 1 rfl) ?_
            refine ln_iadd (1113 * 7) i hx hb dX6_record_74 ?_
            refine lv_aload_n hx hb dX6_record_75 rfl (lv_at hl 0 rfl) ?_
            refine mm_get (C := RX6) (T := TX6) (N := 14) (k := 0) hx hb hts (fun _ h => List.mem_cons_of_mem _ (List.mem_append_right _ h)) hown hK hM (hI.obj) rfl (by decide) (hts (.fieldLink RX6 7 "SentenceRulesModel" "now" "[I") (List.mem_of_getElem? (i := 3) rfl)) rfl rfl dX6_record_76 ?_
            refine lv_iload_n hx hb dX6_record_79 rfl (lv_at hl 1 rfl) ?_
            refine mn_iald hx hb hK hM (hI.now) i (by omega) (by decide) dX6_record_80 ?_
            refine mn_iast hx hb hK hM (hI.past) ((1113 * 7) + i) (by omega) (by decide) dX6_record_81 (fun Hp lcs hM => ?_)
            have hI := hI.setPast (upd (cpK S (shK P 7791) 7 i) ((1113 * 7) + i) (S i))
            refine lv_iinc (v := (nI (i + 1))) (lv' := [(1, .int (nI (i + 1))), (0, .ref o)]) hx hb dX6_record_82 hl (k := 1) rfl (nI_add _ _) (by decide) rfl (fun ls hl => ?_)
            refine lv_goto (tgt := 54) hx hb dX6_record_85 (by decide) ?_
            exact ihB (i + 1) _ _ _ ls (by omega) (by rw [← cpK_s]; exact hI) (by omega) hM (lv_sub hl [1, 0] rfl)
        exact loopZ 1114 0 _ _ _ ls (Nat.zero_le _) (by rw [cpK_0]; exact hI) (by omega) hM (lv_sub hl [1, 0] rfl)
      refine lv_aload_n hx hb dX6_record_20 rfl (lv_at hl 0 rfl) ?_
      refine mm_get (C := RX6) (T := TX6) (N := 14) (k := 2) hx hb hts (fun _ h => List.mem_cons_of_mem _ (List.mem_append_right _ h)) hown hK hM (hI.obj) rfl (by decide) (hts (.fieldLink RX6 16 "SentenceRulesModel" "past" "[I") (List.mem_of_getElem? (i := 2) rfl)) rfl rfl dX6_record_21 ?_
      refine lv_iload_n hx hb dX6_record_24 rfl (lv_at hl 1 rfl) ?_
      refine lv_sipush (v := (nI 1113)) hx hb dX6_record_25 (by decide +kernel) ?_
      refine ln_isub (1113 + i) 1113 (by omega) hx hb dX6_record_28 ?_
      refine mv_top (y := (nI i)) (congrArg nI (by omega)) ?_
      refine lv_aload_n hx hb dX6_record_29 rfl (lv_at hl 0 rfl) ?_
      refine mm_get (C := RX6) (T := TX6) (N := 14) (k := 2) hx hb hts (fun _ h => List.mem_cons_of_mem _ (List.mem_append_right _ h)) hown hK hM (hI.obj) rfl (by decide) (hts (.fieldLink RX6 16 "SentenceRulesModel" "past" "[I") (List.mem_of_getElem? (i := 2) rfl)) rfl rfl dX6_record_30 ?_
      refine lv_iload_n hx hb dX6_record_33 rfl (lv_at hl 1 rfl) ?_
      refine mn_iald hx hb hK hM (hI.past) (1113 + i) (by omega) (by decide) dX6_record_34 ?_
      refine mn_iast hx hb hK hM (hI.past) i (by omega) (by decide) dX6_record_35 (fun Hp lcs hM => ?_)
      have hI := hI.setPast (upd (shK P i) i ((shK P i) (1113 + i)))
      refine lv_iinc (v := (nI (1113 + i + 1))) (lv' := [(1, .int (nI (1113 + i + 1))), (0, .ref o)]) hx hb dX6_record_36 hl (k := 1) rfl (nI_add _ _) (by decide) rfl (fun ls hl => ?_)
      refine lv_goto (tgt := 13) hx hb dX6_record_39 (by decide) ?_
      exact ih (i + 1) _ _ _ ls (by omega) (by rw [← shK_s]; exact hI) (by omega) hM (lv_sub hl [1, 0] rfl)
  exact loopY 7792 0 _ _ _ ls (Nat.zero_le _) (by rw [shK_0]; exact hI) (by omega) hM (lv_sub hl [1, 0] rfl)
set_option maxHeartbeats 4000000 in
set_option maxRecDepth 100000 in
theorem c6_recordL (l : Launch) (G : mG) {f : mE} {q : Nat} {o : Nat} {a : Nat → Nat} {S P lo hi ou : Nat → Int32} {isr wd us ab gi wr wo : Int32} (hI : RI G f o a S P lo hi ou (nI q) isr wd us ab gi wr wo) (hq : q < 8) : mC l G yX6_record wsX6_record ({ frames := 0, cells := 0, slots := 0, locals := 0 } : Room) f [.ref o] (fun v f1 => v = none ∧ RI G f1 o a S (cpK S P q 1113) lo hi ou (nI (q + 1)) isr wd us ab gi wr wo) 0 0 := by
  refine mC.of (cc := cX6_record) (maxL := 2) (ret := none) (by decide) rfl (Nat.le_of_ble_eq_true rfl) ?_
  intro pgm env s mt args below meth c A ls hx hb hml hr hlocks hown hname hts hK hE hA hM hl
  have hl : lv_has ls 2 [(0, .ref o)] := hl
  refine lv_aload_n hx hb dX6_record_0 rfl (lv_at hl 0 rfl) ?_
  refine mm_get (C := RX6) (T := TX6) (N := 14) (k := 3) hx hb hts (fun _ h => List.mem_cons_of_mem _ (List.mem_append_right _ h)) hown hK hM (hI.obj) rfl (by decide) (hts (.fieldLink RX6 47 "SentenceRulesModel" "recorded" "I") (List.mem_of_getElem? (i := 1) rfl)) rfl rfl dX6_record_1 ?_
  refine lv_bipush (v := (nI 8)) hx hb dX6_record_4 (by decide +kernel) ?_
  refine ln_icmp_ne q 8 (by omega) (by omega) (tgt := 52) hx hb dX6_record_6 (by decide) (fun cz1 => ?_) (fun cz1 => ?_)
  · refine lv_iconst (v := (nI 0)) hx hb dX6_record_52 (by decide +kernel) ?_
    refine lv_istore_n (lv' := [(1, .int (nI 0)), (0, .ref o)]) hx hb dX6_record_53 rfl hl (by decide) rfl (fun ls hl => ?_)
    have loopZ : ∀ (fuel : Nat) (i : Nat) (fz : mE) (Hp : Heap) (lcs : List Loc) (ls : Array Slot) (hiN : i ≤ 1113) (hIz : RI G fz o a S (cpK S P q i) lo hi ou (nI q) isr wd us ab gi wr wo) (hfu : 1113 - i < fuel) (hM : mM G A s.heap fz Hp lcs) (hl : lv_has ls 2 [(0, .ref o), (1, .int (nI i))]), W pgm l env ({ frames := 0, cells := 0, slots := 0, locals := 0 } : Room) s mt args below meth c Hp lcs 0 0 (MQ below (mQc G A (fun v f1 => v = none ∧ RI G f1 o a S (cpK S P q 1113) lo hi ou (nI (q + 1)) isr wd us ab gi wr wo)) args s 0 0 A) (F0 mt 54 ls []) := by
      intro fuel
      induction fuel with
      | zero => intro i fz Hp lcs ls hiN hIz hfu; exact absurd hfu (Nat.not_lt_zero _)
      | succ fuel ih =>
        intro i fz Hp lcs ls hiN hIz hfu hM hl
        have hI := hIz
        refine lv_iload_n hx hb dX6_record_54 rfl (lv_at hl 1 rfl) ?_
        refine lv_sipush (v := (nI 1113)) hx hb dX6_record_55 (by decide +kernel) ?_
        refine ln_icmp_ge i 1113 (by omega) (by omega) (tgt := 88) hx hb dX6_record_58 (by decide) (fun cz2 => ?_) (fun cz2 => ?_)
        · refine lv_aload_n hx hb dX6_record_88 rfl (lv_at hl 0 rfl) ?_
          refine lv_dup hx hb dX6_record_89 rfl ?_
          refine mm_get (C := RX6) (T := TX6) (N := 14) (k := 3) hx hb hts (fun _ h => List.mem_cons_of_mem _ (List.mem_append_right _ h)) hown hK hM (hI.obj) rfl (by decide) (hts (.fieldLink RX6 47 "SentenceRulesModel" "recorded" "I") (List.mem_of_getElem? (i := 1) rfl)) rfl rfl dX6_record_90 ?_
          refine lv_iconst (v := (nI 1)) hx hb dX6_record_93 (by decide +kernel) ?_
          refine ln_iadd q 1 hx hb dX6_record_94 ?_
          refine mm_put (C := RX6) (T := TX6) (N := 14) (k := 3) hx hb hts (fun _ h => List.mem_cons_of_mem _ (List.mem_append_right _ h)) tyX6 tyX6_ok nmX6 hown hK hM (hI.obj) rfl (by decide) (hts (.fieldLink RX6 47 "SentenceRulesModel" "recorded" "I") (List.mem_of_getElem? (i := 1) rfl)) rfl rfl rfl rfl (Nat.le_of_ble_eq_true rfl) dX6_record_95 (fun Hp lcs hM => ?_)
          have hI := hI.setObj (nI (q + 1)) isr wd us ab gi wr wo
          exact mm_vret hx hb hlocks hr (Nat.le_of_ble_eq_true rfl) (Nat.le_of_ble_eq_true rfl) hM ((by have hz : i = 1113 := (by omega); subst hz; exact ⟨rfl, hI⟩)) dX6_record_98
        refine lv_aload_n hx hb dX6_record_61 rfl (lv_at hl 0 rfl) ?_
        refine mm_get (C := RX6) (T := TX6) (N := 14) (k := 2) hx hb hts (fun _ h => List.mem_cons_of_mem _ (List.mem_append_right _ h)) hown hK hM (hI.obj) rfl (by decide) (hts (.fieldLink RX6 16 "SentenceRulesModel" "past" "[I") (List.mem_of_getElem? (i := 2) rfl)) rfl rfl dX6_record_62 ?_
        refine lv_sipush (v := (nI 1113)) hx hb dX6_record_65 (by decide +kernel) ?_
        refine lv_aload_n hx hb dX6_record_68 rfl (lv_at hl 0 rfl) ?_
        refine mm_get (C := RX6) (T := TX6) (N := 14) (k := 3) hx hb hts (fun _ h => List.mem_cons_of_mem _ (List.mem_append_right _ h)) hown hK hM (hI.obj) rfl (by decide) (hts (.fieldLink RX6 47 "SentenceRulesModel" "recorded" "I") (List.mem_of_getElem? (i := 1) rfl)) rfl rfl dX6_record_69 ?_
        refine ln_imul 1113 q hx hb dX6_record_72 ?_
        refine lv_iload_n hx hb dX6_record_73 rfl (lv_at hl 1 rfl) ?_
        refine ln_iadd (1113 * q) i hx hb dX6_record_74 ?_
        refine lv_aload_n hx hb dX6_record_75 rfl (lv_at hl 0 rfl) ?_
        refine mm_get (C := RX6) (T := TX6) (N := 14) (k := 0) hx hb hts (fun _ h => List.mem_cons_of_mem _ (List.mem_append_right _ h)) hown hK hM (hI.obj) rfl (by decide) (hts (.fieldLink RX6 7 "SentenceRulesModel" "now" "[I") (List.mem_of_getElem? (i := 3) rfl)) rfl rfl dX6_record_76 ?_
        refine lv_iload_n hx hb dX6_record_79 rfl (lv_at hl 1 rfl) ?_
        refine mn_iald hx hb hK hM (hI.now) i (by omega) (by decide) dX6_record_80 ?_
        refine mn_iast hx hb hK hM (hI.past) ((1113 * q) + i) (by omega) (by decide) dX6_record_81 (fun Hp lcs hM => ?_)
        have hI := hI.setPast (upd (cpK S P q i) ((1113 * q) + i) (S i))
        refine lv_iinc (v := (nI (i + 1))) (lv' := [(1, .int (nI (i + 1))), (0, .ref o)]) hx hb dX6_record_82 hl (k := 1) rfl (nI_add _ _) (by decide) rfl (fun ls hl => ?_)
        refine lv_goto (tgt := 54) hx hb dX6_record_85 (by decide) ?_
        exact ih (i + 1) _ _ _ ls (by omega) (by rw [← cpK_s]; exact hI) (by omega) hM (lv_sub hl [1, 0] rfl)
    exact loopZ 1114 0 _ _ _ ls (Nat.zero_le _) (by rw [cpK_0]; exact hI) (by omega) hM (lv_sub hl [1, 0] rfl)
  exact absurd cz1 (by omega)
set_option maxHeartbeats 4000000 in
set_option maxRecDepth 100000 in
theorem c6_undo0 (l : Launch) (G : mG) {f : mE} {o : Nat} {a : Nat → Nat} {S P lo hi ou : Nat → Int32} {isr wd us ab gi wr wo : Int32} (hI : RI G f o a S P lo hi ou (nI 0) isr wd us ab gi wr wo) : mC l G yX6_undo wsX6_undo ({ frames := 0, cells := 0, slots := 0, locals := 0 } : Room) f [.ref o] (fun v f1 => v = some (.int (-100005)) ∧ f = f1) 0 0 := by
  refine mC.of (cc := cX6_undo) (maxL := 2) (ret := (some .int)) (by decide) rfl (Nat.le_of_ble_eq_true rfl) ?_
  intro pgm env s mt args below meth c A ls hx hb hml hr hlocks hown hname hts hK hE hA hM hl
  have hl : lv_has ls 2 [(0, .ref o)] := hl
  refine lv_aload_n hx hb dX6_undo_0 rfl (lv_at hl 0 rfl) ?_
  refine mm_get (C := RX6) (T := TX6) (N := 14) (k := 3) hx hb hts (fun _ h => List.mem_cons_of_mem _ (List.mem_append_right _ h)) hown hK hM (hI.obj) rfl (by decide) (hts (.fieldLink RX6 47 "SentenceRulesModel" "recorded" "I") (List.mem_of_getElem? (i := 1) rfl)) rfl rfl dX6_undo_1 ?_
  refine lv_if_ne (tgt := 10) hx hb dX6_undo_4 (by decide) (fun hq9 => absurd hq9 (by decide)) (fun _ => ?_)
  refine lv_ldc (v := (-100005)) hx hb hown (hts (.constant RX6 28 (-100005)) (List.mem_of_getElem? (i := 2) rfl)) dX6_undo_7 ?_
  exact mm_iret hx hb hlocks hr (Nat.le_of_ble_eq_true rfl) (Nat.le_of_ble_eq_true rfl) hM (⟨rfl, rfl⟩) dX6_undo_9
set_option maxHeartbeats 4000000 in
set_option maxRecDepth 100000 in
theorem c6_undoL (l : Launch) (G : mG) {f : mE} {q : Nat} {o : Nat} {a : Nat → Nat} {S P lo hi ou : Nat → Int32} {isr wd us ab gi wr wo : Int32} (hI : RI G f o a S P lo hi ou (nI (q + 1)) isr wd us ab gi wr wo) (hq : q < 8) : mC l G yX6_undo wsX6_undo ({ frames := 0, cells := 0, slots := 0, locals := 0 } : Room) f [.ref o] (fun v f1 => v = some (.int (nI q)) ∧ RI G f1 o a (filN (fun j => P (1113 * q + j)) S 1113) P lo hi ou (nI q) isr wd us ab gi wr wo) 0 0 := by
  refine mC.of (cc := cX6_undo) (maxL := 2) (ret := (some .int)) (by decide) rfl (Nat.le_of_ble_eq_true rfl) ?_
  intro pgm env s mt args below meth c A ls hx hb hml hr hlocks hown hname hts hK hE hA hM hl
  have hl : lv_has ls 2 [(0, .ref o)] := hl
  refine lv_aload_n hx hb dX6_undo_0 rfl (lv_at hl 0 rfl) ?_
  refine mm_get (C := RX6) (T := TX6) (N := 14) (k := 3) hx hb hts (fun _ h => List.mem_cons_of_mem _ (List.mem_append_right _ h)) hown hK hM (hI.obj) rfl (by decide) (hts (.fieldLink RX6 47 "SentenceRulesModel" "recorded" "I") (List.mem_of_getElem? (i := 1) rfl)) rfl rfl dX6_undo_1 ?_
  refine lv_if_ne (tgt := 10) hx hb dX6_undo_4 (by decide) (fun cz1 => ?_) (fun cz1 => ?_)
  · refine lv_aload_n hx hb dX6_undo_10 rfl (lv_at hl 0 rfl) ?_
    refine lv_dup hx hb dX6_undo_11 rfl ?_
    refine mm_get (C := RX6) (T := TX6) (N := 14) (k := 3) hx hb hts (fun _ h => List.mem_cons_of_mem _ (List.mem_append_right _ h)) hown hK hM (hI.obj) rfl (by decide) (hts (.fieldLink RX6 47 "SentenceRulesModel" "recorded" "I") (List.mem_of_getElem? (i := 1) rfl)) rfl rfl dX6_undo_12 ?_
    refine lv_iconst (v := (nI 1)) hx hb dX6_undo_15 (by decide +kernel) ?_
    refine ln_isub (q + 1) 1 (by omega) hx hb dX6_undo_16 ?_
    refine mv_top (y := (nI q)) (congrArg nI (by omega)) ?_
    refine mm_put (C := RX6) (T := TX6) (N := 14) (k := 3) hx hb hts (fun _ h => List.mem_cons_of_mem _ (List.mem_append_right _ h)) tyX6 tyX6_ok nmX6 hown hK hM (hI.obj) rfl (by decide) (hts (.fieldLink RX6 47 "SentenceRulesModel" "recorded" "I") (List.mem_of_getElem? (i := 1) rfl)) rfl rfl rfl rfl (Nat.le_of_ble_eq_true rfl) dX6_undo_17 (fun Hp lcs hM => ?_)
    have hI := hI.setObj (nI q) isr wd us ab gi wr wo
    refine lv_iconst (v := (nI 0)) hx hb dX6_undo_20 (by decide +kernel) ?_
    refine lv_istore_n (lv' := [(1, .int (nI 0)), (0, .ref o)]) hx hb dX6_undo_21 rfl hl (by decide) rfl (fun ls hl => ?_)
    have loopZ : ∀ (fuel : Nat) (i : Nat) (fz : mE) (Hp : Heap) (lcs : List Loc) (ls : Array Slot) (hiN : i ≤ 1113) (hIz : RI G fz o a (filN (fun j => P (1113 * q + j)) S i) P lo hi ou (nI q) isr wd us ab gi wr wo) (hfu : 1113 - i < fuel) (hM : mM G A s.heap fz Hp lcs) (hl : lv_has ls 2 [(0, .ref o), (1, .int (nI i))]), W pgm l env ({ frames := 0, cells := 0, slots := 0, locals := 0 } : Room) s mt args below meth c Hp lcs 0 0 (MQ below (mQc G A (fun v f1 => v = some (.int (nI q)) ∧ RI G f1 o a (filN (fun j => P (1113 * q + j)) S 1113) P lo hi ou (nI q) isr wd us ab gi wr wo)) args s 0 0 A) (F0 mt 22 ls []) := by
      intro fuel
      induction fuel with
      | zero => intro i fz Hp lcs ls hiN hIz hfu; exact absurd hfu (Nat.not_lt_zero _)
      | succ fuel ih =>
        intro i fz Hp lcs ls hiN hIz hfu hM hl
        have hI := hIz
        refine lv_iload_n hx hb dX6_undo_22 rfl (lv_at hl 1 rfl) ?_
        refine lv_sipush (v := (nI 1113)) hx hb dX6_undo_23 (by decide +kernel) ?_
        refine ln_icmp_ge i 1113 (by omega) (by omega) (tgt := 56) hx hb dX6_undo_26 (by decide) (fun cz2 => ?_) (fun cz2 => ?_)
        · refine lv_aload_n hx hb dX6_undo_56 rfl (lv_at hl 0 rfl) ?_
          refine mm_get (C := RX6) (T := TX6) (N := 14) (k := 3) hx hb hts (fun _ h => List.mem_cons_of_mem _ (List.mem_append_right _ h)) hown hK hM (hI.obj) rfl (by decide) (hts (.fieldLink RX6 47 "SentenceRulesModel" "recorded" "I") (List.mem_of_getElem? (i := 1) rfl)) rfl rfl dX6_undo_57 ?_
          exact mm_iret hx hb hlocks hr (Nat.le_of_ble_eq_true rfl) (Nat.le_of_ble_eq_true rfl) hM ((by have hz : i = 1113 := (by omega); subst hz; exact ⟨rfl, hI⟩)) dX6_undo_60
        refine lv_aload_n hx hb dX6_undo_29 rfl (lv_at hl 0 rfl) ?_
        refine mm_get (C := RX6) (T := TX6) (N := 14) (k := 0) hx hb hts (fun _ h => List.mem_cons_of_mem _ (List.mem_append_right _ h)) hown hK hM (hI.obj) rfl (by decide) (hts (.fieldLink RX6 7 "SentenceRulesModel" "now" "[I") (List.mem_of_getElem? (i := 3) rfl)) rfl rfl dX6_undo_30 ?_
        refine lv_iload_n hx hb dX6_undo_33 rfl (lv_at hl 1 rfl) ?_
        refine lv_aload_n hx hb dX6_undo_34 rfl (lv_at hl 0 rfl) ?_
        refine mm_get (C := RX6) (T := TX6) (N := 14) (k := 2) hx hb hts (fun _ h => List.mem_cons_of_mem _ (List.mem_append_right _ h)) hown hK hM (hI.obj) rfl (by decide) (hts (.fieldLink RX6 16 "SentenceRulesModel" "past" "[I") (List.mem_of_getElem? (i := 4) rfl)) rfl rfl dX6_undo_35 ?_
        refine lv_sipush (v := (nI 1113)) hx hb dX6_undo_38 (by decide +kernel) ?_
        refine lv_aload_n hx hb dX6_undo_41 rfl (lv_at hl 0 rfl) ?_
        refine mm_get (C := RX6) (T := TX6) (N := 14) (k := 3) hx hb hts (fun _ h => List.mem_cons_of_mem _ (List.mem_append_right _ h)) hown hK hM (hI.obj) rfl (by decide) (hts (.fieldLink RX6 47 "SentenceRulesModel" "recorded" "I") (List.mem_of_getElem? (i := 1) rfl)) rfl rfl dX6_undo_42 ?_
        refine ln_imul 1113 q hx hb dX6_undo_45 ?_
        refine lv_iload_n hx hb dX6_undo_46 rfl (lv_at hl 1 rfl) ?_
        refine ln_iadd (1113 * q) i hx hb dX6_undo_47 ?_
        refine mn_iald hx hb hK hM (hI.past) ((1113 * q) + i) (by omega) (by decide) dX6_undo_48 ?_
        refine mn_iast hx hb hK hM (hI.now) i (by omega) (by decide) dX6_undo_49 (fun Hp lcs hM => ?_)
        have hI := hI.setNow (upd (filN (fun j => P (1113 * q + j)) S i) i (P ((1113 * q) + i)))
        refine lv_iinc (v := (nI (i + 1))) (lv' := [(1, .int (nI (i + 1))), (0, .ref o)]) hx hb dX6_undo_50 hl (k := 1) rfl (nI_add _ _) (by decide) rfl (fun ls hl => ?_)
        refine lv_goto (tgt := 22) hx hb dX6_undo_53 (by decide) ?_
        exact ih (i + 1) _ _ _ ls (by omega) (by rw [← filN_s]; exact hI) (by omega) hM (lv_sub hl [1, 0] rfl)
    exact loopZ 1114 0 _ _ _ ls (Nat.zero_le _) (by rw [filN_0]; exact hI) (by omega) hM (lv_sub hl [1, 0] rfl)
  exact absurd cz1 (nI_ne0 (by omega) (by omega))
set_option maxHeartbeats 4000000 in
set_option maxRecDepth 100000 in
theorem c6_add24 (l : Launch) (G : mG) {f : mE} {o : Nat} {a : Nat → Nat} {S P lo hi ou : Nat → Int32} {rc isr wd us ab gi wr wo : Int32} (hI : RI G f o a S P lo hi ou rc isr wd us ab gi wr wo) (hc : S 7 = nI 24) (x y : Int32) : mC l G yX6_add wsX6_add ({ frames := 0, cells := 0, slots := 0, locals := 0 } : Room) f [.ref o, .int x, .int y] (fun v f1 => v = some (.int (-100004)) ∧ f = f1) 0 0 := by
  refine mC.of (cc := cX6_add) (maxL := 4) (ret := (some .int)) (by decide) rfl (Nat.le_of_ble_eq_true rfl) ?_
  intro pgm env s mt args below meth c A ls hx hb hml hr hlocks hown hname hts hK hE hA hM hl
  have hl : lv_has ls 4 [(0, .ref o), (1, .int x), (2, .int y)] := hl
  refine lv_aload_n hx hb dX6_add_0 rfl (lv_at hl 0 rfl) ?_
  refine mm_get (C := RX6) (T := TX6) (N := 14) (k := 0) hx hb hts (fun _ h => List.mem_cons_of_mem _ (List.mem_append_right _ h)) hown hK hM (hI.obj) rfl (by decide) (hts (.fieldLink RX6 7 "SentenceRulesModel" "now" "[I") (List.mem_of_getElem? (i := 1) rfl)) rfl rfl dX6_add_1 ?_
  refine lv_bipush (v := (nI 7)) hx hb dX6_add_4 (by decide +kernel) ?_
  refine mn_iald hx hb hK hM (hI.now) 7 (by omega) (by decide) dX6_add_6 ?_
  refine mv_top hc ?_
  refine lv_istore_n (lv' := [(3, .int (nI 24)), (0, .ref o), (1, .int x), (2, .int y)]) hx hb dX6_add_7 rfl hl (by decide) rfl (fun ls hl => ?_)
  refine lv_iload_n hx hb dX6_add_8 rfl (lv_at hl 0 rfl) ?_
  refine lv_bipush (v := (nI 24)) hx hb dX6_add_9 (by decide +kernel) ?_
  refine ln_icmp_ne 24 24 (by omega) (by omega) (tgt := 17) hx hb dX6_add_11 (by decide) (fun hq9 => absurd hq9 (by decide)) (fun _ => ?_)
  refine lv_ldc (v := (-100004)) hx hb hown (hts (.constant RX6 69 (-100004)) (List.mem_of_getElem? (i := 2) rfl)) dX6_add_14 ?_
  exact mm_iret hx hb hlocks hr (Nat.le_of_ble_eq_true rfl) (Nat.le_of_ble_eq_true rfl) hM (⟨rfl, rfl⟩) dX6_add_16
set_option maxHeartbeats 4000000 in
set_option maxRecDepth 100000 in
theorem c6_addL (l : Launch) (G : mG) {f : mE} {o : Nat} {a : Nat → Nat} {S P lo hi ou : Nat → Int32} {rc isr wd us ab gi wr wo : Int32} (hI : RI G f o a S P lo hi ou rc isr wd us ab gi wr wo) {cn : Nat} (hc : S 7 = nI cn) (hc24 : cn < 24) (x y : Int32) : mC l G yX6_add wsX6_add ({ frames := 0, cells := 0, slots := 0, locals := 0 } : Room) f [.ref o, .int x, .int y] (fun v f1 => v = some (.int (nI (cn + 1))) ∧ RI G f1 o a (addS S cn x y) P lo hi ou rc isr wd us ab gi wr wo) 0 0 := by
  refine mC.of (cc := cX6_add) (maxL := 4) (ret := (some .int)) (by decide) rfl (Nat.le_of_ble_eq_true rfl) ?_
  intro pgm env s mt args below meth c A ls hx hb hml hr hlocks hown hname hts hK hE hA hM hl
  have hl : lv_has ls 4 [(0, .ref o), (1, .int x), (2, .int y)] := hl
  refine lv_aload_n hx hb dX6_add_0 rfl (lv_at hl 0 rfl) ?_
  refine mm_get (C := RX6) (T := TX6) (N := 14) (k := 0) hx hb hts (fun _ h => List.mem_cons_of_mem _ (List.mem_append_right _ h)) hown hK hM (hI.obj) rfl (by decide) (hts (.fieldLink RX6 7 "SentenceRulesModel" "now" "[I") (List.mem_of_getElem? (i := 1) rfl)) rfl rfl dX6_add_1 ?_
  refine lv_bipush (v := (nI 7)) hx hb dX6_add_4 (by decide +kernel) ?_
  refine mn_iald hx hb hK hM (hI.now) 7 (by omega) (by decide) dX6_add_6 ?_
  refine mv_top hc ?_
  refine lv_istore_n (lv' := [(3, .int (nI cn)), (0, .ref o), (1, .int x), (2, .int y)]) hx hb dX6_add_7 rfl hl (by decide) rfl (fun ls hl => ?_)
  refine lv_iload_n hx hb dX6_add_8 rfl (lv_at hl 0 rfl) ?_
  refine lv_bipush (v := (nI 24)) hx hb dX6_add_9 (by decide +kernel) ?_
  refine ln_icmp_ne cn 24 (by omega) (by omega) (tgt := 17) hx hb dX6_add_11 (by decide) (fun cz1 => ?_) (fun cz1 => ?_)
  · refine lv_aload_n hx hb dX6_add_17 rfl (lv_at hl 1 rfl) ?_
    refine mm_get (C := RX6) (T := TX6) (N := 14) (k := 0) hx hb hts (fun _ h => List.mem_cons_of_mem _ (List.mem_append_right _ h)) hown hK hM (hI.obj) rfl (by decide) (hts (.fieldLink RX6 7 "SentenceRulesModel" "now" "[I") (List.mem_of_getElem? (i := 1) rfl)) rfl rfl dX6_add_18 ?_
    refine lv_bipush (v := (nI 8)) hx hb dX6_add_21 (by decide +kernel) ?_
    refine lv_iload_n hx hb dX6_add_23 rfl (lv_at hl 0 rfl) ?_
    refine ln_iadd 8 cn hx hb dX6_add_24 ?_
    refine lv_iload_n hx hb dX6_add_25 rfl (lv_at hl 2 rfl) ?_
    refine mn_iast hx hb hK hM (hI.now) (8 + cn) (by omega) (by decide) dX6_add_26 (fun Hp lcs hM => ?_)
    have hI := hI.setNow (upd S (8 + cn) x)
    refine lv_aload_n hx hb dX6_add_27 rfl (lv_at hl 1 rfl) ?_
    refine mm_get (C := RX6) (T := TX6) (N := 14) (k := 0) hx hb hts (fun _ h => List.mem_cons_of_mem _ (List.mem_append_right _ h)) hown hK hM (hI.obj) rfl (by decide) (hts (.fieldLink RX6 7 "SentenceRulesModel" "now" "[I") (List.mem_of_getElem? (i := 1) rfl)) rfl rfl dX6_add_28 ?_
    refine lv_bipush (v := (nI 32)) hx hb dX6_add_31 (by decide +kernel) ?_
    refine lv_iload_n hx hb dX6_add_33 rfl (lv_at hl 0 rfl) ?_
    refine ln_iadd 32 cn hx hb dX6_add_34 ?_
    refine lv_iload_n hx hb dX6_add_35 rfl (lv_at hl 3 rfl) ?_
    refine mn_iast hx hb hK hM (hI.now) (32 + cn) (by omega) (by decide) dX6_add_36 (fun Hp lcs hM => ?_)
    have hI := hI.setNow (upd (upd S (8 + cn) x) (32 + cn) y)
    refine lv_aload_n hx hb dX6_add_37 rfl (lv_at hl 1 rfl) ?_
    refine mm_get (C := RX6) (T := TX6) (N := 14) (k := 0) hx hb hts (fun _ h => List.mem_cons_of_mem _ (List.mem_append_right _ h)) hown hK hM (hI.obj) rfl (by decide) (hts (.fieldLink RX6 7 "SentenceRulesModel" "now" "[I") (List.mem_of_getElem? (i := 1) rfl)) rfl rfl dX6_add_38 ?_
    refine lv_bipush (v := (nI 7)) hx hb dX6_add_41 (by decide +kernel) ?_
    refine lv_dup2_11 hx hb dX6_add_43 rfl rfl ?_
    refine mn_iald hx hb hK hM (hI.now) 7 (by omega) (by decide) dX6_add_44 ?_
    refine mv_top ((pk_un (by omega)).trans ((pk_un (by omega)).trans hc)) ?_
    refine lv_iconst (v := (nI 1)) hx hb dX6_add_45 (by decide +kernel) ?_
    refine ln_iadd cn 1 hx hb dX6_add_46 ?_
    refine mn_iast hx hb hK hM (hI.now) 7 (by omega) (by decide) dX6_add_47 (fun Hp lcs hM => ?_)
    have hI := hI.setNow (upd (upd (upd S (8 + cn) x) (32 + cn) y) 7 (nI (cn + 1)))
    refine lv_aload_n hx hb dX6_add_48 rfl (lv_at hl 1 rfl) ?_
    refine mm_get (C := RX6) (T := TX6) (N := 14) (k := 0) hx hb hts (fun _ h => List.mem_cons_of_mem _ (List.mem_append_right _ h)) hown hK hM (hI.obj) rfl (by decide) (hts (.fieldLink RX6 7 "SentenceRulesModel" "now" "[I") (List.mem_of_getElem? (i := 1) rfl)) rfl rfl dX6_add_49 ?_
    refine lv_bipush (v := (nI 7)) hx hb dX6_add_52 (by decide +kernel) ?_
    refine mn_iald hx hb hK hM (hI.now) 7 (by omega) (by decide) dX6_add_54 ?_
    refine mv_top pk_us ?_
    exact mm_iret hx hb hlocks hr (Nat.le_of_ble_eq_true rfl) (Nat.le_of_ble_eq_true rfl) hM (⟨rfl, hI⟩) dX6_add_55
  exact absurd cz1 (by omega)
set_option maxHeartbeats 4000000 in
set_option maxRecDepth 100000 in
theorem c6_back0 (l : Launch) (G : mG) {f : mE} {o : Nat} {a : Nat → Nat} {S P lo hi ou : Nat → Int32} {rc isr wd us ab gi wr wo : Int32} (hI : RI G f o a S P lo hi ou rc isr wd us ab gi wr wo) (hc : S 7 = nI 0) : mC l G yX6_back wsX6_back ({ frames := 0, cells := 0, slots := 0, locals := 0 } : Room) f [.ref o] (fun v f1 => v = some (.int (-100003)) ∧ f = f1) 0 0 := by
  refine mC.of (cc := cX6_back) (maxL := 1) (ret := (some .int)) (by decide) rfl (Nat.le_of_ble_eq_true rfl) ?_
  intro pgm env s mt args below meth c A ls hx hb hml hr hlocks hown hname hts hK hE hA hM hl
  have hl : lv_has ls 1 [(0, .ref o)] := hl
  refine lv_aload_n hx hb dX6_back_0 rfl (lv_at hl 0 rfl) ?_
  refine mm_get (C := RX6) (T := TX6) (N := 14) (k := 0) hx hb hts (fun _ h => List.mem_cons_of_mem _ (List.mem_append_right _ h)) hown hK hM (hI.obj) rfl (by decide) (hts (.fieldLink RX6 7 "SentenceRulesModel" "now" "[I") (List.mem_of_getElem? (i := 1) rfl)) rfl rfl dX6_back_1 ?_
  refine lv_bipush (v := (nI 7)) hx hb dX6_back_4 (by decide +kernel) ?_
  refine mn_iald hx hb hK hM (hI.now) 7 (by omega) (by decide) dX6_back_6 ?_
  refine mv_top hc ?_
  refine lv_if_ne (tgt := 13) hx hb dX6_back_7 (by decide) (fun hq9 => absurd hq9 (by decide)) (fun _ => ?_)
  refine lv_ldc (v := (-100003)) hx hb hown (hts (.constant RX6 73 (-100003)) (List.mem_of_getElem? (i := 2) rfl)) dX6_back_10 ?_
  exact mm_iret hx hb hlocks hr (Nat.le_of_ble_eq_true rfl) (Nat.le_of_ble_eq_true rfl) hM (⟨rfl, rfl⟩) dX6_back_12
set_option maxHeartbeats 4000000 in
set_option maxRecDepth 100000 in
theorem c6_backL (l : Launch) (G : mG) {f : mE} {o : Nat} {a : Nat → Nat} {S P lo hi ou : Nat → Int32} {rc isr wd us ab gi wr wo : Int32} (hI : RI G f o a S P lo hi ou rc isr wd us ab gi wr wo) {cn : Nat} (hc : S 7 = nI (cn + 1)) (hc24 : cn < 24) : mC l G yX6_back wsX6_back ({ frames := 0, cells := 0, slots := 0, locals := 0 } : Room) f [.ref o] (fun v f1 => v = some (.int (nI cn)) ∧ RI G f1 o a (upd S 7 (nI cn)) P lo hi ou rc isr wd us ab gi wr wo) 0 0 := by
  refine mC.of (cc := cX6_back) (maxL := 1) (ret := (some .int)) (by decide) rfl (Nat.le_of_ble_eq_true rfl) ?_
  intro pgm env s mt args below meth c A ls hx hb hml hr hlocks hown hname hts hK hE hA hM hl
  have hl : lv_has ls 1 [(0, .ref o)] := hl
  refine lv_aload_n hx hb dX6_back_0 rfl (lv_at hl 0 rfl) ?_
  refine mm_get (C := RX6) (T := TX6) (N := 14) (k := 0) hx hb hts (fun _ h => List.mem_cons_of_mem _ (List.mem_append_right _ h)) hown hK hM (hI.obj) rfl (by decide) (hts (.fieldLink RX6 7 "SentenceRulesModel" "now" "[I") (List.mem_of_getElem? (i := 1) rfl)) rfl rfl dX6_back_1 ?_
  refine lv_bipush (v := (nI 7)) hx hb dX6_back_4 (by decide +kernel) ?_
  refine mn_iald hx hb hK hM (hI.now) 7 (by omega) (by decide) dX6_back_6 ?_
  refine mv_top hc ?_
  refine lv_if_ne (tgt := 13) hx hb dX6_back_7 (by decide) (fun cz1 => ?_) (fun cz1 => ?_)
  · refine lv_aload_n hx hb dX6_back_13 rfl (lv_at hl 0 rfl) ?_
    refine mm_get (C := RX6) (T := TX6) (N := 14) (k := 0) hx hb hts (fun _ h => List.mem_cons_of_mem _ (List.mem_append_right _ h)) hown hK hM (hI.obj) rfl (by decide) (hts (.fieldLink RX6 7 "SentenceRulesModel" "now" "[I") (List.mem_of_getElem? (i := 1) rfl)) rfl rfl dX6_back_14 ?_
    refine lv_bipush (v := (nI 7)) hx hb dX6_back_17 (by decide +kernel) ?_
    refine lv_dup2_11 hx hb dX6_back_19 rfl rfl ?_
    refine mn_iald hx hb hK hM (hI.now) 7 (by omega) (by decide) dX6_back_20 ?_
    refine mv_top hc ?_
    refine lv_iconst (v := (nI 1)) hx hb dX6_back_21 (by decide +kernel) ?_
    refine ln_isub (cn + 1) 1 (by omega) hx hb dX6_back_22 ?_
    refine mv_top (y := (nI cn)) (congrArg nI (by omega)) ?_
    refine mn_iast hx hb hK hM (hI.now) 7 (by omega) (by decide) dX6_back_23 (fun Hp lcs hM => ?_)
    have hI := hI.setNow (upd S 7 (nI cn))
    refine lv_aload_n hx hb dX6_back_24 rfl (lv_at hl 0 rfl) ?_
    refine mm_get (C := RX6) (T := TX6) (N := 14) (k := 0) hx hb hts (fun _ h => List.mem_cons_of_mem _ (List.mem_append_right _ h)) hown hK hM (hI.obj) rfl (by decide) (hts (.fieldLink RX6 7 "SentenceRulesModel" "now" "[I") (List.mem_of_getElem? (i := 1) rfl)) rfl rfl dX6_back_25 ?_
    refine lv_bipush (v := (nI 7)) hx hb dX6_back_28 (by decide +kernel) ?_
    refine mn_iald hx hb hK hM (hI.now) 7 (by omega) (by decide) dX6_back_30 ?_
    refine mv_top pk_us ?_
    exact mm_iret hx hb hlocks hr (Nat.le_of_ble_eq_true rfl) (Nat.le_of_ble_eq_true rfl) hM (⟨rfl, hI⟩) dX6_back_31
  exact absurd cz1 (nI_ne0 (by omega) (by omega))
set_option maxHeartbeats 4000000 in
set_option maxRecDepth 100000 in
theorem c6_clear (l : Launch) (G : mG) {f : mE} {o : Nat} {a : Nat → Nat} {S P lo hi ou : Nat → Int32} {rc isr wd us ab gi wr wo : Int32} (hI : RI G f o a S P lo hi ou rc isr wd us ab gi wr wo) : mC l G yX6_clear wsX6_clear ({ frames := 0, cells := 0, slots := 0, locals := 0 } : Room) f [.ref o] (fun v f1 => v = some (.int (S 7)) ∧ RI G f1 o a (upd S 7 (nI 0)) P lo hi ou rc isr wd us ab gi wr wo) 0 0 := by
  refine mC.of (cc := cX6_clear) (maxL := 2) (ret := (some .int)) (by decide) rfl (Nat.le_of_ble_eq_true rfl) ?_
  intro pgm env s mt args below meth c A ls hx hb hml hr hlocks hown hname hts hK hE hA hM hl
  have hl : lv_has ls 2 [(0, .ref o)] := hl
  refine lv_aload_n hx hb dX6_clear_0 rfl (lv_at hl 0 rfl) ?_
  refine mm_get (C := RX6) (T := TX6) (N := 14) (k := 0) hx hb hts (fun _ h => List.mem_cons_of_mem _ (List.mem_append_right _ h)) hown hK hM (hI.obj) rfl (by decide) (hts (.fieldLink RX6 7 "SentenceRulesModel" "now" "[I") (List.mem_of_getElem? (i := 1) rfl)) rfl rfl dX6_clear_1 ?_
  refine lv_bipush (v := (nI 7)) hx hb dX6_clear_4 (by decide +kernel) ?_
  refine mn_iald hx hb hK hM (hI.now) 7 (by omega) (by decide) dX6_clear_6 ?_
  refine lv_istore_n (lv' := [(1, .int (S 7)), (0, .ref o)]) hx hb dX6_clear_7 rfl hl (by decide) rfl (fun ls hl => ?_)
  refine lv_aload_n hx hb dX6_clear_8 rfl (lv_at hl 1 rfl) ?_
  refine mm_get (C := RX6) (T := TX6) (N := 14) (k := 0) hx hb hts (fun _ h => List.mem_cons_of_mem _ (List.mem_append_right _ h)) hown hK hM (hI.obj) rfl (by decide) (hts (.fieldLink RX6 7 "SentenceRulesModel" "now" "[I") (List.mem_of_getElem? (i := 1) rfl)) rfl rfl dX6_clear_9 ?_
  refine lv_bipush (v := (nI 7)) hx hb dX6_clear_12 (by decide +kernel) ?_
  refine lv_iconst (v := (nI 0)) hx hb dX6_clear_14 (by decide +kernel) ?_
  refine mn_iast hx hb hK hM (hI.now) 7 (by omega) (by decide) dX6_clear_15 (fun Hp lcs hM => ?_)
  have hI := hI.setNow (upd S 7 (nI 0))
  refine lv_iload_n hx hb dX6_clear_16 rfl (lv_at hl 0 rfl) ?_
  exact mm_iret hx hb hlocks hr (Nat.le_of_ble_eq_true rfl) (Nat.le_of_ble_eq_true rfl) hM (⟨rfl, hI⟩) dX6_clear_17
set_option maxHeartbeats 4000000 in
set_option maxRecDepth 100000 in
theorem c6_dayOf (l : Launch) (G : mG) (f : mE) (y m d : Nat) (hy1 : 1900 ≤ y) (hy2 : y ≤ 2099) (hm1 : 1 ≤ m) (hm2 : m ≤ 12) (hd1 : 1 ≤ d) (hd2 : d ≤ 31) : mC l G yX6_dayOf wsX6_dayOf ({ frames := 2, cells := 0, slots := 0, locals := 41 } : Room) f [.int (nI y), .int (nI m), .int (nI d)] (fun v f1 => v = some (.int (nI (dayN y m d))) ∧ f = f1) 0 0 := by
  refine mC.of (cc := cX6_dayOf) (maxL := 5) (ret := (some .int)) (by decide) rfl (Nat.le_of_ble_eq_true rfl) ?_
  intro pgm env s mt args below meth c A ls hx hb hml hr hlocks hown hname hts hK hE hA hM hl
  have hl : lv_has ls 5 [(0, .int (nI y)), (1, .int (nI m)), (2, .int (nI d))] := hl
  refine lv_iload_n hx hb dX6_dayOf_0 rfl (lv_at hl 2 rfl) ?_
  refine lv_iconst (v := (nI 1)) hx hb dX6_dayOf_1 (by decide +kernel) ?_
  refine ln_isub d 1 (by omega) hx hb dX6_dayOf_2 ?_
  refine mv_top (y := (nI (d - 1))) (congrArg nI (by omega)) ?_
  refine lv_istore_n (lv' := [(3, .int (nI (d - 1))), (0, .int (nI y)), (1, .int (nI m)), (2, .int (nI d))]) hx hb dX6_dayOf_3 rfl hl (by decide) rfl (fun ls hl => ?_)
  refine lv_sipush (v := (nI 1900)) hx hb dX6_dayOf_4 (by decide +kernel) ?_
  refine lv_istore (lv' := [(4, .int (nI 1900)), (3, .int (nI (d - 1))), (0, .int (nI y)), (1, .int (nI m)), (2, .int (nI d))]) hx hb dX6_dayOf_7 hl (by decide) rfl (fun ls hl => ?_)
  have loopY : ∀ (fuel : Nat) (i w : Nat) (Hp : Heap) (lcs : List Loc) (ls : Array Slot) (hiN : 1900 + i ≤ y) (hr0 : w = d - 1 + yrN i) (hfu : y - (1900 + i) < fuel) (hM : mM G A s.heap f Hp lcs) (hl : lv_has ls 5 [(0, .int (nI y)), (1, .int (nI m)), (3, .int (nI w)), (4, .int (nI (1900 + i)))]), W pgm l env ({ frames := 2, cells := 0, slots := 0, locals := 41 } : Room) s mt args below meth c Hp lcs 0 0 (MQ below (mQc G A (fun v f1 => v = some (.int (nI (dayN y m d))) ∧ f = f1)) args s 0 0 A) (F0 mt 9 ls []) := by
    intro fuel
    induction fuel with
    | zero => intro i w Hp lcs ls hiN hr0 hfu; exact absurd hfu (Nat.not_lt_zero _)
    | succ fuel ih =>
      intro i w Hp lcs ls hiN hr0 hfu hM hl
      subst hr0
      have hyb := yrN_le i
      refine lv_iload hx hb dX6_dayOf_9 (lv_at hl 3 rfl) ?_
      refine lv_iload_n hx hb dX6_dayOf_11 rfl (lv_at hl 0 rfl) ?_
      refine ln_icmp_ge (1900 + i) y (by omega) (by omega) (tgt := 41) hx hb dX6_dayOf_12 (by decide) (fun cz1 => ?_) (fun cz1 => ?_)
      · refine lv_iconst (v := (nI 1)) hx hb dX6_dayOf_41 (by decide +kernel) ?_
        refine lv_istore (lv' := [(4, .int (nI 1)), (0, .int (nI y)), (1, .int (nI m)), (3, .int (nI (d - 1 + yrN i)))]) hx hb dX6_dayOf_42 hl (by decide) rfl (fun ls hl => ?_)
        have loopZ : ∀ (fuelB : Nat) (i w : Nat) (Hp : Heap) (lcs : List Loc) (ls : Array Slot) (hiN : 1 + i ≤ m) (hr0 : w = d - 1 + yrN (y - 1900) + moN y i) (hfuB : m - (1 + i) < fuelB) (hM : mM G A s.heap f Hp lcs) (hl : lv_has ls 5 [(0, .int (nI y)), (1, .int (nI m)), (3, .int (nI w)), (4, .int (nI (1 + i)))]), W pgm l env ({ frames := 2, cells := 0, slots := 0, locals := 41 } : Room) s mt args below meth c Hp lcs 0 0 (MQ below (mQc G A (fun v f1 => v = some (.int (nI (dayN y m d))) ∧ f = f1)) args s 0 0 A) (F0 mt 44 ls []) := by
          intro fuelB
          induction fuelB with
          | zero => intro i w Hp lcs ls hiN hr0 hfuB; exact absurd hfuB (Nat.not_lt_zero _)
          | succ fuelB ihB =>
            intro i w Hp lcs ls hiN hr0 hfuB hM hl
            subst hr0
            have hyb := yrN_le (y - 1900)
            have hmb := moN_le y i
            refine lv_iload hx hb dX6_dayOf_44 (lv_at hl 3 rfl) ?_
            refine lv_iload_n hx hb dX6_dayOf_46 rfl (lv_at hl 1 rfl) ?_
            refine ln_icmp_ge (1 + i) m (by omega) (by omega) (tgt := 65) hx hb dX6_dayOf_47 (by decide) (fun cz2 => ?_) (fun cz2 => ?_)
            · refine lv_iload_n hx hb dX6_dayOf_65 rfl (lv_at hl 2 rfl) ?_
              exact mm_iret hx hb hlocks hr (Nat.le_of_ble_eq_true rfl) (Nat.le_of_ble_eq_true rfl) hM (ret_v (congrArg nI (by rw [dayN, show m - 1 = i by omega]))) dX6_dayOf_66
            refine lv_iload_n hx hb dX6_dayOf_50 rfl (lv_at hl 2 rfl) ?_
            refine lv_iload_n hx hb dX6_dayOf_51 rfl (lv_at hl 0 rfl) ?_
            refine lv_iload hx hb dX6_dayOf_52 (lv_at hl 3 rfl) ?_
            refine mm_S (As := [.int (nI y), .int (nI (1 + i))]) (rest := [.int (nI (d - 1 + yrN (y - 1900) + moN y i))]) ⟨hx, hb, hml, hown, hts⟩ (c6_daysOf l G _ (nI y) (nI (1 + i))) (va_cwS 2 hts gX6_dayOf_X6_daysOf rfl rfl rfl (by decide +kernel) ⟨Nat.le_of_ble_eq_true rfl, Nat.le_of_ble_eq_true rfl⟩) hK hE hA hM rfl hl.1 rfl (Nat.le_of_ble_eq_true rfl) dX6_dayOf_54 ⟨Nat.le_of_ble_eq_true rfl, Nat.le_of_ble_eq_true rfl⟩ (fun v f1 Hp lcs hp hM => ?_)
            obtain ⟨rfl, hf⟩ := hp; subst hf
            refine mv_top (daysF_nI (by omega)) ?_
            have hdb := daysN_le y (1 + i)
            refine ln_iadd (d - 1 + yrN (y - 1900) + moN y i) (daysN y (1 + i)) hx hb dX6_dayOf_57 ?_
            refine lv_istore_n (lv' := [(3, .int (nI ((d - 1 + yrN (y - 1900) + moN y i) + (daysN y (1 + i))))), (0, .int (nI y)), (1, .int (nI m)), (4, .int (nI (1 + i)))]) hx hb dX6_dayOf_58 rfl hl (by decide) rfl (fun ls hl => ?_)
            refine lv_iinc (v := (nI (1 + i + 1))) (lv' := [(4, .int (nI (1 + i + 1))), (3, .int (nI ((d - 1 + yrN (y - 1900) + moN y i) + (daysN y (1 + i))))), (0, .int (nI y)), (1, .int (nI m))]) hx hb dX6_dayOf_59 hl (k := 3) rfl (nI_add _ _) (by decide) rfl (fun ls hl => ?_)
            refine lv_goto (tgt := 44) hx hb dX6_dayOf_62 (by decide) ?_
            exact ihB (i + 1) _ _ _ ls (by omega) (by rw [moN]; omega) (by omega) hM (lv_sub hl [2, 3, 1, 0] rfl)
        exact loopZ (m + 1) 0 _ _ _ ls (by omega) (by rw [show y - 1900 = i by omega, moN]; rfl) (by omega) hM (lv_sub hl [1, 2, 3, 0] rfl)
      refine lv_iload_n hx hb dX6_dayOf_15 rfl (lv_at hl 2 rfl) ?_
      refine lv_iload hx hb dX6_dayOf_16 (lv_at hl 3 rfl) ?_
      refine mm_S (As := [.int (nI (1900 + i))]) (rest := [.int (nI (d - 1 + yrN i))]) ⟨hx, hb, hml, hown, hts⟩ (c6_isLeap l G _ (nI (1900 + i))) (va_cwS 1 hts gX6_dayOf_X6_isLeap rfl rfl rfl (by decide +kernel) ⟨Nat.le_of_ble_eq_true rfl, Nat.le_of_ble_eq_true rfl⟩) hK hE hA hM rfl hl.1 rfl (Nat.le_of_ble_eq_true rfl) dX6_dayOf_18 ⟨Nat.le_of_ble_eq_true rfl, Nat.le_of_ble_eq_true rfl⟩ (fun v f1 Hp lcs hp hM => ?_)
      obtain ⟨rfl, hf⟩ := hp; subst hf
      refine lvb_eq (tgt := 30) hx hb dX6_dayOf_21 (by decide) (fun cz3 => ?_) (fun cz3 => ?_)
      · refine lv_sipush (v := (nI 365)) hx hb dX6_dayOf_30 (by decide +kernel) ?_
        refine ln_iadd (d - 1 + yrN i) 365 hx hb dX6_dayOf_33 ?_
        refine lv_istore_n (lv' := [(3, .int (nI ((d - 1 + yrN i) + 365))), (0, .int (nI y)), (1, .int (nI m)), (4, .int (nI (1900 + i)))]) hx hb dX6_dayOf_34 rfl hl (by decide) rfl (fun ls hl => ?_)
        refine lv_iinc (v := (nI (1900 + i + 1))) (lv' := [(4, .int (nI (1900 + i + 1))), (3, .int (nI ((d - 1 + yrN i) + 365))), (0, .int (nI y)), (1, .int (nI m))]) hx hb dX6_dayOf_35 hl (k := 3) rfl (nI_add _ _) (by decide) rfl (fun ls hl => ?_)
        refine lv_goto (tgt := 9) hx hb dX6_dayOf_38 (by decide) ?_
        exact ih (i + 1) _ _ _ ls (by omega) (by rw [yrN, cz3]; simp only [if_true, if_false, Bool.false_eq_true]; omega) (by omega) hM (lv_sub hl [2, 3, 1, 0] rfl)
      refine lv_sipush (v := (nI 366)) hx hb dX6_dayOf_24 (by decide +kernel) ?_
      refine lv_goto (tgt := 33) hx hb dX6_dayOf_27 (by decide) ?_
      refine ln_iadd (d - 1 + yrN i) 366 hx hb dX6_dayOf_33 ?_
      refine lv_istore_n (lv' := [(3, .int (nI ((d - 1 + yrN i) + 366))), (0, .int (nI y)), (1, .int (nI m)), (4, .int (nI (1900 + i)))]) hx hb dX6_dayOf_34 rfl hl (by decide) rfl (fun ls hl => ?_)
      refine lv_iinc (v := (nI (1900 + i + 1))) (lv' := [(4, .int (nI (1900 + i + 1))), (3, .int (nI ((d - 1 + yrN i) + 366))), (0, .int (nI y)), (1, .int (nI m))]) hx hb dX6_dayOf_35 hl (k := 3) rfl (nI_add _ _) (by decide) rfl (fun ls hl => ?_)
      refine lv_goto (tgt := 9) hx hb dX6_dayOf_38 (by decide) ?_
      exact ih (i + 1) _ _ _ ls (by omega) (by rw [yrN, cz3]; simp only [if_true, if_false, Bool.false_eq_true]; omega) (by omega) hM (lv_sub hl [2, 3, 1, 0] rfl)
  exact loopY (y + 1) 0 _ _ _ ls (by omega) rfl (by omega) hM (lv_sub hl [2, 3, 1, 0] rfl)
