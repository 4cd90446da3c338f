/-! THE REFERENCE: questions about the state -/
def insQ (S : Nat → Int32) (x y i : Nat) : Bool := !decide (S (57 + 66 * x + (52 + i)) < S (57 + 66 * y + (52 + i))) && !decide (S (57 + 66 * y + (59 + i)) < S (57 + 66 * x + (59 + i)))
def insB (S : Nat → Int32) (x y : Nat) : Bool := allN (insQ S x y) 7
def conQ (S : Nat → Int32) (k i : Nat) : Bool := inB (S i) (S (57 + 66 * k + (52 + i))) (S (57 + 66 * k + (59 + i)))
def conB (S : Nat → Int32) (k : Nat) : Bool := allN (conQ S k) 7
def strB (S : Nat → Int32) (x y : Nat) : Bool := insB S x y && !insB S y x
def appB (S : Nat → Int32) (wo : Int32) (k : Nat) (r : Int32) : Bool := !decide (nI k = wo) && decide (S (57 + 66 * k + 49) = r) && conB S k
def reaQ (S : Nat → Int32) (wo : Int32) (k : Nat) (r : Int32) (j : Nat) : Bool := !(appB S wo j r && strB S j k)
def reaB (S : Nat → Int32) (wo : Int32) (n k : Nat) (r : Int32) : Bool := appB S wo k r && allN (reaQ S wo k r) n
def ansL (S : Nat → Int32) (wo : Int32) (n : Nat) (r : Int32) : Nat → Int32
  | 0 => -100005
  | i + 1 => if reaB S wo n i r = true then (if ansL S wo n r i = -100005 then S (57 + 66 * i + 50) else if ansL S wo n r i = S (57 + 66 * i + 50) then S (57 + 66 * i + 50) else -100006) else ansL S wo n r i
def ansI (S : Nat → Int32) (wo : Int32) (n : Nat) (r : Int32) : Int32 := ansL S wo n r n
def shaQ (S : Nat → Int32) (k i : Nat) : Bool := !(decide (S (57 + 66 * k + (52 + i)) = leastF (nI i)) && decide (S (57 + 66 * k + (59 + i)) = greatestF (nI i)))
def shaN (S : Nat → Int32) (k : Nat) : Nat := cntN (shaQ S k) 7
theorem shaN_le (S : Nat → Int32) (k : Nat) : shaN S k ≤ 7 := cntN_le _ 7
set_option maxHeartbeats 4000000 in
set_option maxRecDepth 100000 in
theorem c6_isInside (l : Launch) (G : mG) {f : mE} {o : Nat} {a : Nat → Nat} {S P lo hi ou : Nat → Int32} {rc isr wd us ab gi wr wo : Int32} (hI : RI G f o a S P lo hi ou rc isr wd us ab gi wr wo) (x y : Nat) (hx6 : x < 16) (hy6 : y < 16) : mC l G yX6_isInside wsX6_isInside ({ frames := 1, cells := 0, slots := 0, locals := 22 } : Room) f [.ref o, .int (nI x), .int (nI y)] (fun v f1 => v = some (.int (bI (insB S x y))) ∧ f = f1) 0 0 := by
  refine mC.of (cc := cX6_isInside) (maxL := 5) (ret := (some .boolean)) (by decide) rfl (Nat.le_of_ble_eq_true rfl) ?_
  intro pgm env s mt args below meth c A ls hx hb hml hr hlocks hown hname hts hK hE hA hM hl
  have hl : lv_has ls 5 [(0, .ref o), (1, .int (nI x)), (2, .int (nI y))] := hl
  refine lv_iconst (v := (nI 1)) hx hb dX6_isInside_0 (by decide +kernel) ?_
  refine lv_istore_n (lv' := [(3, .int (nI 1)), (0, .ref o), (1, .int (nI x)), (2, .int (nI y))]) hx hb dX6_isInside_1 rfl hl (by decide) rfl (fun ls hl => ?_)
  refine lv_iconst (v := (nI 0)) hx hb dX6_isInside_2 (by decide +kernel) ?_
  refine lv_istore (lv' := [(4, .int (nI 0)), (3, .int (nI 1)), (0, .ref o), (1, .int (nI x)), (2, .int (nI y))]) hx hb dX6_isInside_3 hl (by decide) rfl (fun ls hl => ?_)
  have loopZ : ∀ (fuel : Nat) (i : Nat) (aw : Int32) (Hp : Heap) (lcs : List Loc) (ls : Array Slot) (hiN : i ≤ 7) (hr0 : aw = bI (allN (insQ S x y) i)) (hfu : 7 - i < fuel) (hM : mM G A s.heap f Hp lcs) (hl : lv_has ls 5 [(0, .ref o), (1, .int (nI x)), (2, .int (nI y)), (3, .int aw), (4, .int (nI i))]), W pgm l env ({ frames := 1, cells := 0, slots := 0, locals := 22 } : Room) s mt args below meth c Hp lcs 0 0 (MQ below (mQc G A (fun v f1 => v = some (.int (bI (insB S x y))) ∧ f = f1)) args s 0 0 A) (F0 mt 5 ls []) := by
    intro fuel
    induction fuel with
    | zero => intro i aw Hp lcs ls hiN hr0 hfu; exact absurd hfu (Nat.not_lt_zero _)
    | succ fuel ih =>
      intro i aw Hp lcs ls hiN hr0 hfu hM hl
      subst hr0
      refine lv_iload hx hb dX6_isInside_5 (lv_at hl 4 rfl) ?_
      refine lv_bipush (v := (nI 7)) hx hb dX6_isInside_7 (by decide +kernel) ?_
      refine ln_icmp_ge i 7 (by omega) (by omega) (tgt := 74) hx hb dX6_isInside_9 (by decide) (fun cz1 => ?_) (fun cz1 => ?_)
      · refine lv_iload_n hx hb dX6_isInside_74 rfl (lv_at hl 3 rfl) ?_
        exact mm_zret hx hb hlocks hr (by first | rfl | exact bI_nar _) (Nat.le_of_ble_eq_true rfl) (Nat.le_of_ble_eq_true rfl) hM ((by have hz : i = 7 := (by omega); subst hz; exact ⟨rfl, rfl⟩)) dX6_isInside_75
      refine lv_iload_n hx hb dX6_isInside_12 rfl (lv_at hl 3 rfl) ?_
      refine lvb_eq (tgt := 66) hx hb dX6_isInside_13 (by decide) (fun cz2 => ?_) (fun cz2 => ?_)
      · refine lv_iconst (v := (nI 0)) hx hb dX6_isInside_66 (by decide +kernel) ?_
        refine lv_istore_n (lv' := [(3, .int (nI 0)), (0, .ref o), (1, .int (nI x)), (2, .int (nI y)), (4, .int (nI i))]) hx hb dX6_isInside_67 rfl hl (by decide) rfl (fun ls hl => ?_)
        refine lv_iinc (v := (nI (i + 1))) (lv' := [(4, .int (nI (i + 1))), (3, .int (nI 0)), (0, .ref o), (1, .int (nI x)), (2, .int (nI y))]) hx hb dX6_isInside_68 hl (k := 4) rfl (nI_add _ _) (by decide) rfl (fun ls hl => ?_)
        refine lv_goto (tgt := 5) hx hb dX6_isInside_71 (by decide) ?_
        exact ih (i + 1) _ _ _ ls (by omega) (by simp [allN, bI, nI_lit, insQ, cz1, cz2]) (by omega) hM (lv_sub hl [2, 3, 4, 1, 0] rfl)
      refine lv_aload_n hx hb dX6_isInside_16 rfl (lv_at hl 0 rfl) ?_
      refine lv_iload_n hx hb dX6_isInside_17 rfl (lv_at hl 1 rfl) ?_
      refine lv_bipush (v := (nI 52)) hx hb dX6_isInside_18 (by decide +kernel) ?_
      refine lv_iload hx hb dX6_isInside_20 (lv_at hl 4 rfl) ?_
      refine ln_iadd 52 i hx hb dX6_isInside_22 ?_
      refine mm_V (As := [.int (nI x), .int (nI (52 + i))]) (rest := []) ⟨hx, hb, hml, hown, hts⟩ (c6_of l G hI x (52 + i) (by omega)) (cwV 2 hts gX6_isInside_X6_of rfl rfl rfl (by decide +kernel) ⟨Nat.le_of_ble_eq_true rfl, Nat.le_of_ble_eq_true rfl⟩) hK hE hA hM (mm_recv hK hM (hI.obj) (q := (RX6, TX6, 14)) rfl) rfl hl.1 rfl (Nat.le_of_ble_eq_true rfl) dX6_isInside_23 ⟨Nat.le_of_ble_eq_true rfl, Nat.le_of_ble_eq_true rfl⟩ (fun v f1 Hp lcs hp hM => ?_)
      obtain ⟨rfl, hf⟩ := hp; subst hf
      refine lv_aload_n hx hb dX6_isInside_26 rfl (lv_at hl 0 rfl) ?_
      refine lv_iload_n hx hb dX6_isInside_27 rfl (lv_at hl 2 rfl) ?_
      refine lv_bipush (v := (nI 52)) hx hb dX6_isInside_28 (by decide +kernel) ?_
      refine lv_iload hx hb dX6_isInside_30 (lv_at hl 4 rfl) ?_
      refine ln_iadd 52 i hx hb dX6_isInside_32 ?_
      refine mm_V (As := [.int (nI y), .int (nI (52 + i))]) (rest := [.int (S (57 + 66 * x + (52 + i)))]) ⟨hx, hb, hml, hown, hts⟩ (c6_of l G hI y (52 + i) (by omega)) (cwV 2 hts gX6_isInside_X6_of rfl rfl rfl (by decide +kernel) ⟨Nat.le_of_ble_eq_true rfl, Nat.le_of_ble_eq_true rfl⟩) hK hE hA hM (mm_recv hK hM (hI.obj) (q := (RX6, TX6, 14)) rfl) rfl hl.1 rfl (Nat.le_of_ble_eq_true rfl) dX6_isInside_33 ⟨Nat.le_of_ble_eq_true rfl, Nat.le_of_ble_eq_true rfl⟩ (fun v f1 Hp lcs hp hM => ?_)
      obtain ⟨rfl, hf⟩ := hp; subst hf
      refine lv_icmp_lt (tgt := 66) hx hb dX6_isInside_36 (by decide) (fun cz3 => ?_) (fun cz3 => ?_)
      · refine lv_iconst (v := (nI 0)) hx hb dX6_isInside_66 (by decide +kernel) ?_
        refine lv_istore_n (lv' := [(3, .int (nI 0)), (0, .ref o), (1, .int (nI x)), (2, .int (nI y)), (4, .int (nI i))]) hx hb dX6_isInside_67 rfl hl (by decide) rfl (fun ls hl => ?_)
        refine lv_iinc (v := (nI (i + 1))) (lv' := [(4, .int (nI (i + 1))), (3, .int (nI 0)), (0, .ref o), (1, .int (nI x)), (2, .int (nI y))]) hx hb dX6_isInside_68 hl (k := 4) rfl (nI_add _ _) (by decide) rfl (fun ls hl => ?_)
        refine lv_goto (tgt := 5) hx hb dX6_isInside_71 (by decide) ?_
        exact ih (i + 1) _ _ _ ls (by omega) (by simp [allN, bI, nI_lit, insQ, cz1, cz2, cz3]) (by omega) hM (lv_sub hl [2, 3, 4, 1, 0] rfl)
      refine lv_aload_n hx hb dX6_isInside_39 rfl (lv_at hl 0 rfl) ?_
      refine lv_iload_n hx hb dX6_isInside_40 rfl (lv_at hl 1 rfl) ?_
      refine lv_bipush (v := (nI 59)) hx hb dX6_isInside_41 (by decide +kernel) ?_
      refine lv_iload hx hb dX6_isInside_43 (lv_at hl 4 rfl) ?_
      refine ln_iadd 59 i hx hb dX6_isInside_45 ?_
      refine mm_V (As := [.int (nI x), .int (nI (59 + i))]) (rest := []) ⟨hx, hb, hml, hown, hts⟩ (c6_of l G hI x (59 + i) (by omega)) (cwV 2 hts gX6_isInside_X6_of rfl rfl rfl (by decide +kernel) ⟨Nat.le_of_ble_eq_true rfl, Nat.le_of_ble_eq_true rfl⟩) hK hE hA hM (mm_recv hK hM (hI.obj) (q := (RX6, TX6, 14)) rfl) rfl hl.1 rfl (Nat.le_of_ble_eq_true rfl) dX6_isInside_46 ⟨Nat.le_of_ble_eq_true rfl, Nat.le_of_ble_eq_true rfl⟩ (fun v f1 Hp lcs hp hM => ?_)
      obtain ⟨rfl, hf⟩ := hp; subst hf
      refine lv_aload_n hx hb dX6_isInside_49 rfl (lv_at hl 0 rfl) ?_
      refine lv_iload_n hx hb dX6_isInside_50 rfl (lv_at hl 2 rfl) ?_
      refine lv_bipush (v := (nI 59)) hx hb dX6_isInside_51 (by decide +kernel) ?_
      refine lv_iload hx hb dX6_isInside_53 (lv_at hl 4 rfl) ?_
      refine ln_iadd 59 i hx hb dX6_isInside_55 ?_
      refine mm_V (As := [.int (nI y), .int (nI (59 + i))]) (rest := [.int (S (57 + 66 * x + (59 + i)))]) ⟨hx, hb, hml, hown, hts⟩ (c6_of l G hI y (59 + i) (by omega)) (cwV 2 hts gX6_isInside_X6_of rfl rfl rfl (by decide +kernel) ⟨Nat.le_of_ble_eq_true rfl, Nat.le_of_ble_eq_true rfl⟩) hK hE hA hM (mm_recv hK hM (hI.obj) (q := (RX6, TX6, 14)) rfl) rfl hl.1 rfl (Nat.le_of_ble_eq_true rfl) dX6_isInside_56 ⟨Nat.le_of_ble_eq_true rfl, Nat.le_of_ble_eq_true rfl⟩ (fun v f1 Hp lcs hp hM => ?_)
      obtain ⟨rfl, hf⟩ := hp; subst hf
      refine lv_icmp_gt (tgt := 66) hx hb dX6_isInside_59 (by decide) (fun cz4 => ?_) (fun cz4 => ?_)
      · refine lv_iconst (v := (nI 0)) hx hb dX6_isInside_66 (by decide +kernel) ?_
        refine lv_istore_n (lv' := [(3, .int (nI 0)), (0, .ref o), (1, .int (nI x)), (2, .int (nI y)), (4, .int (nI i))]) hx hb dX6_isInside_67 rfl hl (by decide) rfl (fun ls hl => ?_)
        refine lv_iinc (v := (nI (i + 1))) (lv' := [(4, .int (nI (i + 1))), (3, .int (nI 0)), (0, .ref o), (1, .int (nI x)), (2, .int (nI y))]) hx hb dX6_isInside_68 hl (k := 4) rfl (nI_add _ _) (by decide) rfl (fun ls hl => ?_)
        refine lv_goto (tgt := 5) hx hb dX6_isInside_71 (by decide) ?_
        exact ih (i + 1) _ _ _ ls (by omega) (by simp [allN, bI, nI_lit, insQ, cz1, cz2, cz3, cz4]) (by omega) hM (lv_sub hl [2, 3, 4, 1, 0] rfl)
      refine lv_iconst (v := (nI 1)) hx hb dX6_isInside_62 (by decide +kernel) ?_
      refine lv_goto (tgt := 67) hx hb dX6_isInside_63 (by decide) ?_
      refine lv_istore_n (lv' := [(3, .int (nI 1)), (0, .ref o), (1, .int (nI x)), (2, .int (nI y)), (4, .int (nI i))]) hx hb dX6_isInside_67 rfl hl (by decide) rfl (fun ls hl => ?_)
      refine lv_iinc (v := (nI (i + 1))) (lv' := [(4, .int (nI (i + 1))), (3, .int (nI 1)), (0, .ref o), (1, .int (nI x)), (2, .int (nI y))]) hx hb dX6_isInside_68 hl (k := 4) rfl (nI_add _ _) (by decide) rfl (fun ls hl => ?_)
      refine lv_goto (tgt := 5) hx hb dX6_isInside_71 (by decide) ?_
      exact ih (i + 1) _ _ _ ls (by omega) (by simp [allN, bI, nI_lit, insQ, cz1, cz2, cz3, cz4]) (by omega) hM (lv_sub hl [2, 3, 4, 1, 0] rfl)
  exact loopZ (7 + 1) 0 _ _ _ ls (Nat.zero_le _) (by simp [allN, bI, nI_lit]) (by omega) hM (lv_sub hl [2, 3, 4, 1, 0] rfl)
set_option maxHeartbeats 4000000 in
set_option maxRecDepth 100000 in
theorem c6_contains (l : Launch) (G : mG) {f : mE} {o : Nat} {a : Nat → Nat} {S P lo hi ou : Nat → Int32} {rc isr wd us ab gi wr wo : Int32} (hI : RI G f o a S P lo hi ou rc isr wd us ab gi wr wo) (k : Nat) (hk : k < 16) : mC l G yX6_contains wsX6_contains ({ frames := 1, cells := 0, slots := 0, locals := 22 } : Room) f [.ref o, .int (nI k)] (fun v f1 => v = some (.int (bI (conB S k))) ∧ f = f1) 0 0 := by
  refine mC.of (cc := cX6_contains) (maxL := 4) (ret := (some .boolean)) (by decide) rfl (Nat.le_of_ble_eq_true rfl) ?_
  intro pgm env s mt args below meth c A ls hx hb hml hr hlocks hown hname hts hK hE hA hM hl
  have hl : lv_has ls 4 [(0, .ref o), (1, .int (nI k))] := hl
  refine lv_iconst (v := (nI 1)) hx hb dX6_contains_0 (by decide +kernel) ?_
  refine lv_istore_n (lv' := [(2, .int (nI 1)), (0, .ref o), (1, .int (nI k))]) hx hb dX6_contains_1 rfl hl (by decide) rfl (fun ls hl => ?_)
  refine lv_iconst (v := (nI 0)) hx hb dX6_contains_2 (by decide +kernel) ?_
  refine lv_istore_n (lv' := [(3, .int (nI 0)), (2, .int (nI 1)), (0, .ref o), (1, .int (nI k))]) hx hb dX6_contains_3 rfl hl (by decide) rfl (fun ls hl => ?_)
  have loopZ : ∀ (fuel : Nat) (i : Nat) (aw : Int32) (Hp : Heap) (lcs : List Loc) (ls : Array Slot) (hiN : i ≤ 7) (hr0 : aw = bI (allN (conQ S k) i)) (hfu : 7 - i < fuel) (hM : mM G A s.heap f Hp lcs) (hl : lv_has ls 4 [(0, .ref o), (1, .int (nI k)), (2, .int aw), (3, .int (nI i))]), W pgm l env ({ frames := 1, cells := 0, slots := 0, locals := 22 } : Room) s mt args below meth c Hp lcs 0 0 (MQ below (mQc G A (fun v f1 => v = some (.int (bI (conB S k))) ∧ f = f1)) args s 0 0 A) (F0 mt 4 ls []) := by
    intro fuel
    induction fuel with
    | zero => intro i aw Hp lcs ls hiN hr0 hfu; exact absurd hfu (Nat.not_lt_zero _)
    | succ fuel ih =>
      intro i aw Hp lcs ls hiN hr0 hfu hM hl
      subst hr0
      refine lv_iload_n hx hb dX6_contains_4 rfl (lv_at hl 3 rfl) ?_
      refine lv_bipush (v := (nI 7)) hx hb dX6_contains_5 (by decide +kernel) ?_
      refine ln_icmp_ge i 7 (by omega) (by omega) (tgt := 56) hx hb dX6_contains_7 (by decide) (fun cz1 => ?_) (fun cz1 => ?_)
      · refine lv_iload_n hx hb dX6_contains_56 rfl (lv_at hl 2 rfl) ?_
        exact mm_zret hx hb hlocks hr (by first | rfl | exact bI_nar _) (Nat.le_of_ble_eq_true rfl) (Nat.le_of_ble_eq_true rfl) hM ((by have hz : i = 7 := (by omega); subst hz; exact ⟨rfl, rfl⟩)) dX6_contains_57
      refine lv_iload_n hx hb dX6_contains_10 rfl (lv_at hl 2 rfl) ?_
      refine lvb_eq (tgt := 48) hx hb dX6_contains_11 (by decide) (fun cz2 => ?_) (fun cz2 => ?_)
      · refine lv_iconst (v := (nI 0)) hx hb dX6_contains_48 (by decide +kernel) ?_
        refine lv_istore_n (lv' := [(2, .int (nI 0)), (0, .ref o), (1, .int (nI k)), (3, .int (nI i))]) hx hb dX6_contains_49 rfl hl (by decide) rfl (fun ls hl => ?_)
        refine lv_iinc (v := (nI (i + 1))) (lv' := [(3, .int (nI (i + 1))), (2, .int (nI 0)), (0, .ref o), (1, .int (nI k))]) hx hb dX6_contains_50 hl (k := 3) rfl (nI_add _ _) (by decide) rfl (fun ls hl => ?_)
        refine lv_goto (tgt := 4) hx hb dX6_contains_53 (by decide) ?_
        exact ih (i + 1) _ _ _ ls (by omega) (by simp [allN, bI, nI_lit, conQ, cz1, cz2]) (by omega) hM (lv_sub hl [2, 3, 1, 0] rfl)
      refine lv_aload_n hx hb dX6_contains_14 rfl (lv_at hl 0 rfl) ?_
      refine mm_get (C := RX6) (T := TX6) (N := 14) (k := 0) hx hb hts (fun _ h => List.mem_cons_of_mem _ (List.mem_append_right _ h)) hown hK hM (hI.obj) rfl (by decide) (hts (.fieldLink RX6 7 "SentenceRulesModel" "now" "[I") (List.mem_of_getElem? (i := 1) rfl)) rfl rfl dX6_contains_15 ?_
      refine lv_iload_n hx hb dX6_contains_18 rfl (lv_at hl 3 rfl) ?_
      refine mn_iald hx hb hK hM (hI.now) i (by omega) (by decide) dX6_contains_19 ?_
      refine lv_aload_n hx hb dX6_contains_20 rfl (lv_at hl 0 rfl) ?_
      refine lv_iload_n hx hb dX6_contains_21 rfl (lv_at hl 1 rfl) ?_
      refine lv_bipush (v := (nI 52)) hx hb dX6_contains_22 (by decide +kernel) ?_
      refine lv_iload_n hx hb dX6_contains_24 rfl (lv_at hl 3 rfl) ?_
      refine ln_iadd 52 i hx hb dX6_contains_25 ?_
      refine mm_V (As := [.int (nI k), .int (nI (52 + i))]) (rest := [.int (S i)]) ⟨hx, hb, hml, hown, hts⟩ (c6_of l G hI k (52 + i) (by omega)) (cwV 2 hts gX6_contains_X6_of rfl rfl rfl (by decide +kernel) ⟨Nat.le_of_ble_eq_true rfl, Nat.le_of_ble_eq_true rfl⟩) hK hE hA hM (mm_recv hK hM (hI.obj) (q := (RX6, TX6, 14)) rfl) rfl hl.1 rfl (Nat.le_of_ble_eq_true rfl) dX6_contains_26 ⟨Nat.le_of_ble_eq_true rfl, Nat.le_of_ble_eq_true rfl⟩ (fun v f1 Hp lcs hp hM => ?_)
      obtain ⟨rfl, hf⟩ := hp; subst hf
      refine lv_aload_n hx hb dX6_contains_29 rfl (lv_at hl 0 rfl) ?_
      refine lv_iload_n hx hb dX6_contains_30 rfl (lv_at hl 1 rfl) ?_
      refine lv_bipush (v := (nI 59)) hx hb dX6_contains_31 (by decide +kernel) ?_
      refine lv_iload_n hx hb dX6_contains_33 rfl (lv_at hl 3 rfl) ?_
      refine ln_iadd 59 i hx hb dX6_contains_34 ?_
      refine mm_V (As := [.int (nI k), .int (nI (59 + i))]) (rest := [.int (S (57 + 66 * k + (52 + i))), .int (S i)]) ⟨hx, hb, hml, hown, hts⟩ (c6_of l G hI k (59 + i) (by omega)) (cwV 2 hts gX6_contains_X6_of rfl rfl rfl (by decide +kernel) ⟨Nat.le_of_ble_eq_true rfl, Nat.le_of_ble_eq_true rfl⟩) hK hE hA hM (mm_recv hK hM (hI.obj) (q := (RX6, TX6, 14)) rfl) rfl hl.1 rfl (Nat.le_of_ble_eq_true rfl) dX6_contains_35 ⟨Nat.le_of_ble_eq_true rfl, Nat.le_of_ble_eq_true rfl⟩ (fun v f1 Hp lcs hp hM => ?_)
      obtain ⟨rfl, hf⟩ := hp; subst hf
      refine mm_S (As := [.int (S i), .int (S (57 + 66 * k + (52 + i))), .int (S (57 + 66 * k + (59 + i)))]) (rest := []) ⟨hx, hb, hml, hown, hts⟩ (c6_in l G _ (S i) (S (57 + 66 * k + (52 + i))) (S (57 + 66 * k + (59 + i)))) (va_cwS 3 hts gX6_contains_X6_in rfl rfl rfl (by decide +kernel) ⟨Nat.le_of_ble_eq_true rfl, Nat.le_of_ble_eq_true rfl⟩) hK hE hA hM rfl hl.1 rfl (Nat.le_of_ble_eq_true rfl) dX6_contains_38 ⟨Nat.le_of_ble_eq_true rfl, Nat.le_of_ble_eq_true rfl⟩ (fun v f1 Hp lcs hp hM => ?_)
      obtain ⟨rfl, hf⟩ := hp; subst hf
      refine mv_top (y := (bI (inB (S i) (S (57 + 66 * k + (52 + i))) (S (57 + 66 * k + (59 + i)))))) rfl ?_
      refine lvb_eq (tgt := 48) hx hb dX6_contains_41 (by decide) (fun cz3 => ?_) (fun cz3 => ?_)
      · refine lv_iconst (v := (nI 0)) hx hb dX6_contains_48 (by decide +kernel) ?_
        refine lv_istore_n (lv' := [(2, .int (nI 0)), (0, .ref o), (1, .int (nI k)), (3, .int (nI i))]) hx hb dX6_contains_49 rfl hl (by decide) rfl (fun ls hl => ?_)
        refine lv_iinc (v := (nI (i + 1))) (lv' := [(3, .int (nI (i + 1))), (2, .int (nI 0)), (0, .ref o), (1, .int (nI k))]) hx hb dX6_contains_50 hl (k := 3) rfl (nI_add _ _) (by decide) rfl (fun ls hl => ?_)
        refine lv_goto (tgt := 4) hx hb dX6_contains_53 (by decide) ?_
        exact ih (i + 1) _ _ _ ls (by omega) (by simp [allN, bI, nI_lit, conQ, cz1, cz2, cz3]) (by omega) hM (lv_sub hl [2, 3, 1, 0] rfl)
      refine lv_iconst (v := (nI 1)) hx hb dX6_contains_44 (by decide +kernel) ?_
      refine lv_goto (tgt := 49) hx hb dX6_contains_45 (by decide) ?_
      refine lv_istore_n (lv' := [(2, .int (nI 1)), (0, .ref o), (1, .int (nI k)), (3, .int (nI i))]) hx hb dX6_contains_49 rfl hl (by decide) rfl (fun ls hl => ?_)
      refine lv_iinc (v := (nI (i + 1))) (lv' := [(3, .int (nI (i + 1))), (2, .int (nI 1)), (0, .ref o), (1, .int (nI k))]) hx hb dX6_contains_50 hl (k := 3) rfl (nI_add _ _) (by decide) rfl (fun ls hl => ?_)
      refine lv_goto (tgt := 4) hx hb dX6_contains_53 (by decide) ?_
      exact ih (i + 1) _ _ _ ls (by omega) (by simp [allN, bI, nI_lit, conQ, cz1, cz2, cz3]) (by omega) hM (lv_sub hl [2, 3, 1, 0] rfl)
  exact loopZ (7 + 1) 0 _ _ _ ls (Nat.zero_le _) (by simp [allN, bI, nI_lit]) (by omega) hM (lv_sub hl [2, 3, 1, 0] rfl)
set_option maxHeartbeats 4000000 in
set_option maxRecDepth 100000 in
theorem c6_isStrictly (l : Launch) (G : mG) {f : mE} {o : Nat} {a : Nat → Nat} {S P lo hi ou : Nat → Int32} {rc isr wd us ab gi wr wo : Int32} (hI : RI G f o a S P lo hi ou rc isr wd us ab gi wr wo) (x y : Nat) (hx6 : x < 16) (hy6 : y < 16) : mC l G yX6_isStrictly wsX6_isStrictly ({ frames := 2, cells := 0, slots := 0, locals := 46 } : Room) f [.ref o, .int (nI x), .int (nI y)] (fun v f1 => v = some (.int (bI (strB S x y))) ∧ f = f1) 0 0 := by
  refine mC.of (cc := cX6_isStrictly) (maxL := 3) (ret := (some .boolean)) (by decide) rfl (Nat.le_of_ble_eq_true rfl) ?_
  intro pgm env s mt args below meth c A ls hx hb hml hr hlocks hown hname hts hK hE hA hM hl
  have hl : lv_has ls 3 [(0, .ref o), (1, .int (nI x)), (2, .int (nI y))] := hl
  refine lv_aload_n hx hb dX6_isStrictly_0 rfl (lv_at hl 0 rfl) ?_
  refine lv_iload_n hx hb dX6_isStrictly_1 rfl (lv_at hl 1 rfl) ?_
  refine lv_iload_n hx hb dX6_isStrictly_2 rfl (lv_at hl 2 rfl) ?_
  refine mm_V (As := [.int (nI x), .int (nI y)]) (rest := []) ⟨hx, hb, hml, hown, hts⟩ (c6_isInside l G hI x y (by omega) (by omega)) (cwV 2 hts gX6_isStrictly_X6_isInside rfl rfl rfl (by decide +kernel) ⟨Nat.le_of_ble_eq_true rfl, Nat.le_of_ble_eq_true rfl⟩) hK hE hA hM (mm_recv hK hM (hI.obj) (q := (RX6, TX6, 14)) rfl) rfl hl.1 rfl (Nat.le_of_ble_eq_true rfl) dX6_isStrictly_3 ⟨Nat.le_of_ble_eq_true rfl, Nat.le_of_ble_eq_true rfl⟩ (fun v f1 Hp lcs hp hM => ?_)
  obtain ⟨rfl, hf⟩ := hp; subst hf
  refine lvb_eq (tgt := 22) hx hb dX6_isStrictly_6 (by decide) (fun cz1 => ?_) (fun cz1 => ?_)
  · refine lv_iconst (v := (nI 0)) hx hb dX6_isStrictly_22 (by decide +kernel) ?_
    exact mm_zret hx hb hlocks hr (by first | rfl | exact bI_nar _) (Nat.le_of_ble_eq_true rfl) (Nat.le_of_ble_eq_true rfl) hM (ret_f (by simp [strB, cz1])) dX6_isStrictly_23
  refine lv_aload_n hx hb dX6_isStrictly_9 rfl (lv_at hl 0 rfl) ?_
  refine lv_iload_n hx hb dX6_isStrictly_10 rfl (lv_at hl 2 rfl) ?_
  refine lv_iload_n hx hb dX6_isStrictly_11 rfl (lv_at hl 1 rfl) ?_
  refine mm_V (As := [.int (nI y), .int (nI x)]) (rest := []) ⟨hx, hb, hml, hown, hts⟩ (c6_isInside l G hI y x (by omega) (by omega)) (cwV 2 hts gX6_isStrictly_X6_isInside rfl rfl rfl (by decide +kernel) ⟨Nat.le_of_ble_eq_true rfl, Nat.le_of_ble_eq_true rfl⟩) hK hE hA hM (mm_recv hK hM (hI.obj) (q := (RX6, TX6, 14)) rfl) rfl hl.1 rfl (Nat.le_of_ble_eq_true rfl) dX6_isStrictly_12 ⟨Nat.le_of_ble_eq_true rfl, Nat.le_of_ble_eq_true rfl⟩ (fun v f1 Hp lcs hp hM => ?_)
  obtain ⟨rfl, hf⟩ := hp; subst hf
  refine lvb_ne (tgt := 22) hx hb dX6_isStrictly_15 (by decide) (fun cz2 => ?_) (fun cz2 => ?_)
  · refine lv_iconst (v := (nI 0)) hx hb dX6_isStrictly_22 (by decide +kernel) ?_
    exact mm_zret hx hb hlocks hr (by first | rfl | exact bI_nar _) (Nat.le_of_ble_eq_true rfl) (Nat.le_of_ble_eq_true rfl) hM (ret_f (by simp [strB, cz1, cz2])) dX6_isStrictly_23
  refine lv_iconst (v := (nI 1)) hx hb dX6_isStrictly_18 (by decide +kernel) ?_
  refine lv_goto (tgt := 23) hx hb dX6_isStrictly_19 (by decide) ?_
  exact mm_zret hx hb hlocks hr (by first | rfl | exact bI_nar _) (Nat.le_of_ble_eq_true rfl) (Nat.le_of_ble_eq_true rfl) hM (ret_t (by simp [strB, cz1, cz2])) dX6_isStrictly_23
set_option maxHeartbeats 4000000 in
set_option maxRecDepth 100000 in
theorem c6_applies (l : Launch) (G : mG) {f : mE} {o : Nat} {a : Nat → Nat} {S P lo hi ou : Nat → Int32} {rc isr wd us ab gi wr wo : Int32} (hI : RI G f o a S P lo hi ou rc isr wd us ab gi wr wo) (k : Nat) (hk : k < 16) (r : Int32) : mC l G yX6_applies wsX6_applies ({ frames := 2, cells := 0, slots := 0, locals := 45 } : Room) f [.ref o, .int (nI k), .int r] (fun v f1 => v = some (.int (bI (appB S wo k r))) ∧ f = f1) 0 0 := by
  refine mC.of (cc := cX6_applies) (maxL := 3) (ret := (some .boolean)) (by decide) rfl (Nat.le_of_ble_eq_true rfl) ?_
  intro pgm env s mt args below meth c A ls hx hb hml hr hlocks hown hname hts hK hE hA hM hl
  have hl : lv_has ls 3 [(0, .ref o), (1, .int (nI k)), (2, .int r)] := hl
  refine lv_iload_n hx hb dX6_applies_0 rfl (lv_at hl 1 rfl) ?_
  refine lv_aload_n hx hb dX6_applies_1 rfl (lv_at hl 0 rfl) ?_
  refine mm_get (C := RX6) (T := TX6) (N := 14) (k := 13) hx hb hts (fun _ h => List.mem_cons_of_mem _ (List.mem_append_right _ h)) hown hK hM (hI.obj) rfl (by decide) (hts (.fieldLink RX6 29 "SentenceRulesModel" "without" "I") (List.mem_of_getElem? (i := 1) rfl)) rfl rfl dX6_applies_2 ?_
  refine lv_icmp_eq (tgt := 31) hx hb dX6_applies_5 (by decide) (fun cz1 => ?_) (fun cz1 => ?_)
  · refine lv_iconst (v := (nI 0)) hx hb dX6_applies_31 (by decide +kernel) ?_
    exact mm_zret hx hb hlocks hr (by first | rfl | exact bI_nar _) (Nat.le_of_ble_eq_true rfl) (Nat.le_of_ble_eq_true rfl) hM (ret_f (by simp [appB, cz1])) dX6_applies_32
  refine lv_aload_n hx hb dX6_applies_8 rfl (lv_at hl 0 rfl) ?_
  refine lv_iload_n hx hb dX6_applies_9 rfl (lv_at hl 1 rfl) ?_
  refine lv_bipush (v := (nI 49)) hx hb dX6_applies_10 (by decide +kernel) ?_
  refine mm_V (As := [.int (nI k), .int (nI 49)]) (rest := []) ⟨hx, hb, hml, hown, hts⟩ (c6_of l G hI k 49 (by omega)) (cwV 2 hts gX6_applies_X6_of rfl rfl rfl (by decide +kernel) ⟨Nat.le_of_ble_eq_true rfl, Nat.le_of_ble_eq_true rfl⟩) hK hE hA hM (mm_recv hK hM (hI.obj) (q := (RX6, TX6, 14)) rfl) rfl hl.1 rfl (Nat.le_of_ble_eq_true rfl) dX6_applies_12 ⟨Nat.le_of_ble_eq_true rfl, Nat.le_of_ble_eq_true rfl⟩ (fun v f1 Hp lcs hp hM => ?_)
  obtain ⟨rfl, hf⟩ := hp; subst hf
  refine lv_iload_n hx hb dX6_applies_15 rfl (lv_at hl 2 rfl) ?_
  refine lv_icmp_ne (tgt := 31) hx hb dX6_applies_16 (by decide) (fun cz2 => ?_) (fun cz2 => ?_)
  · refine lv_iconst (v := (nI 0)) hx hb dX6_applies_31 (by decide +kernel) ?_
    exact mm_zret hx hb hlocks hr (by first | rfl | exact bI_nar _) (Nat.le_of_ble_eq_true rfl) (Nat.le_of_ble_eq_true rfl) hM (ret_f (by simp [appB, cz1, cz2])) dX6_applies_32
  refine lv_aload_n hx hb dX6_applies_19 rfl (lv_at hl 0 rfl) ?_
  refine lv_iload_n hx hb dX6_applies_20 rfl (lv_at hl 1 rfl) ?_
  refine mm_V (As := [.int (nI k)]) (rest := []) ⟨hx, hb, hml, hown, hts⟩ (c6_contains l G hI k (by omega)) (cwV 1 hts gX6_applies_X6_contains rfl rfl rfl (by decide +kernel) ⟨Nat.le_of_ble_eq_true rfl, Nat.le_of_ble_eq_true rfl⟩) hK hE hA hM (mm_recv hK hM (hI.obj) (q := (RX6, TX6, 14)) rfl) rfl hl.1 rfl (Nat.le_of_ble_eq_true rfl) dX6_applies_21 ⟨Nat.le_of_ble_eq_true rfl, Nat.le_of_ble_eq_true rfl⟩ (fun v f1 Hp lcs hp hM => ?_)
  obtain ⟨rfl, hf⟩ := hp; subst hf
  refine lvb_eq (tgt := 31) hx hb dX6_applies_24 (by decide) (fun cz3 => ?_) (fun cz3 => ?_)
  · refine lv_iconst (v := (nI 0)) hx hb dX6_applies_31 (by decide +kernel) ?_
    exact mm_zret hx hb hlocks hr (by first | rfl | exact bI_nar _) (Nat.le_of_ble_eq_true rfl) (Nat.le_of_ble_eq_true rfl) hM (ret_f (by simp [appB, cz1, cz2, cz3])) dX6_applies_32
  refine lv_iconst (v := (nI 1)) hx hb dX6_applies_27 (by decide +kernel) ?_
  refine lv_goto (tgt := 32) hx hb dX6_applies_28 (by decide) ?_
  exact mm_zret hx hb hlocks hr (by first | rfl | exact bI_nar _) (Nat.le_of_ble_eq_true rfl) (Nat.le_of_ble_eq_true rfl) hM (ret_t (by simp [appB, cz1, cz2, cz3])) dX6_applies_32
set_option maxHeartbeats 4000000 in
set_option maxRecDepth 100000 in
theorem c6_isReason (l : Launch) (G : mG) {f : mE} {o : Nat} {a : Nat → Nat} {S P lo hi ou : Nat → Int32} {rc isr wd us ab gi wr wo : Int32} (hI : RI G f o a S P lo hi ou rc isr wd us ab gi wr wo) {n : Nat} (hn : S 56 = nI n) (hn16 : n ≤ 16) (k : Nat) (hk : k < 16) (r : Int32) : mC l G yX6_isReason wsX6_isReason ({ frames := 3, cells := 0, slots := 0, locals := 68 } : Room) f [.ref o, .int (nI k), .int r] (fun v f1 => v = some (.int (bI (reaB S wo n k r))) ∧ f = f1) 0 0 := by
  refine mC.of (cc := cX6_isReason) (maxL := 5) (ret := (some .boolean)) (by decide) rfl (Nat.le_of_ble_eq_true rfl) ?_
  intro pgm env s mt args below meth c A ls hx hb hml hr hlocks hown hname hts hK hE hA hM hl
  have hl : lv_has ls 5 [(0, .ref o), (1, .int (nI k)), (2, .int r)] := hl
  refine lv_aload_n hx hb dX6_isReason_0 rfl (lv_at hl 0 rfl) ?_
  refine lv_iload_n hx hb dX6_isReason_1 rfl (lv_at hl 1 rfl) ?_
  refine lv_iload_n hx hb dX6_isReason_2 rfl (lv_at hl 2 rfl) ?_
  refine mm_V (As := [.int (nI k), .int r]) (rest := []) ⟨hx, hb, hml, hown, hts⟩ (c6_applies l G hI k (by omega) r) (cwV 2 hts gX6_isReason_X6_applies rfl rfl rfl (by decide +kernel) ⟨Nat.le_of_ble_eq_true rfl, Nat.le_of_ble_eq_true rfl⟩) hK hE hA hM (mm_recv hK hM (hI.obj) (q := (RX6, TX6, 14)) rfl) rfl hl.1 rfl (Nat.le_of_ble_eq_true rfl) dX6_isReason_3 ⟨Nat.le_of_ble_eq_true rfl, Nat.le_of_ble_eq_true rfl⟩ (fun v f1 Hp lcs hp hM => ?_)
  obtain ⟨rfl, hf⟩ := hp; subst hf
  refine lv_istore_n (lv' := [(3, .int (bI (appB S wo k r))), (0, .ref o), (1, .int (nI k)), (2, .int r)]) hx hb dX6_isReason_6 rfl hl (by decide) rfl (fun ls hl => ?_)
  refine lv_iconst (v := (nI 0)) hx hb dX6_isReason_7 (by decide +kernel) ?_
  refine lv_istore (lv' := [(4, .int (nI 0)), (3, .int (bI (appB S wo k r))), (0, .ref o), (1, .int (nI k)), (2, .int r)]) hx hb dX6_isReason_8 hl (by decide) rfl (fun ls hl => ?_)
  have loopZ : ∀ (fuel : Nat) (i : Nat) (aw : Int32) (Hp : Heap) (lcs : List Loc) (ls : Array Slot) (hiN : i ≤ n) (hr0 : aw = bI (appB S wo k r && allN (reaQ S wo k r) i)) (hfu : n - i < fuel) (hM : mM G A s.heap f Hp lcs) (hl : lv_has ls 5 [(0, .ref o), (1, .int (nI k)), (2, .int r), (3, .int aw), (4, .int (nI i))]), W pgm l env ({ frames := 3, cells := 0, slots := 0, locals := 68 } : Room) s mt args below meth c Hp lcs 0 0 (MQ below (mQc G A (fun v f1 => v = some (.int (bI (reaB S wo n k r))) ∧ f = f1)) args s 0 0 A) (F0 mt 10 ls []) := by
    intro fuel
    induction fuel with
    | zero => intro i aw Hp lcs ls hiN hr0 hfu; exact absurd hfu (Nat.not_lt_zero _)
    | succ fuel ih =>
      intro i aw Hp lcs ls hiN hr0 hfu hM hl
      subst hr0
      refine lv_iload hx hb dX6_isReason_10 (lv_at hl 4 rfl) ?_
      refine lv_aload_n hx hb dX6_isReason_12 rfl (lv_at hl 0 rfl) ?_
      refine mm_get (C := RX6) (T := TX6) (N := 14) (k := 0) hx hb hts (fun _ h => List.mem_cons_of_mem _ (List.mem_append_right _ h)) hown hK hM (hI.obj) rfl (by decide) (hts (.fieldLink RX6 7 "SentenceRulesModel" "now" "[I") (List.mem_of_getElem? (i := 1) rfl)) rfl rfl dX6_isReason_13 ?_
      refine lv_bipush (v := (nI 56)) hx hb dX6_isReason_16 (by decide +kernel) ?_
      refine mn_iald hx hb hK hM (hI.now) 56 (by omega) (by decide) dX6_isReason_18 ?_
      refine mv_top hn ?_
      refine ln_icmp_ge i n (by omega) (by omega) (tgt := 58) hx hb dX6_isReason_19 (by decide) (fun cz1 => ?_) (fun cz1 => ?_)
      · refine lv_iload_n hx hb dX6_isReason_58 rfl (lv_at hl 3 rfl) ?_
        exact mm_zret hx hb hlocks hr (by first | rfl | exact bI_nar _) (Nat.le_of_ble_eq_true rfl) (Nat.le_of_ble_eq_true rfl) hM ((by have hz : i = n := (by omega); subst hz; exact ⟨rfl, rfl⟩)) dX6_isReason_59
      refine lv_iload_n hx hb dX6_isReason_22 rfl (lv_at hl 3 rfl) ?_
      refine lvb_eq (tgt := 58) hx hb dX6_isReason_23 (by decide) (fun cz2 => ?_) (fun cz2 => ?_)
      · refine lv_iload_n hx hb dX6_isReason_58 rfl (lv_at hl 3 rfl) ?_
        exact mm_zret hx hb hlocks hr (by first | rfl | exact bI_nar _) (Nat.le_of_ble_eq_true rfl) (Nat.le_of_ble_eq_true rfl) hM (ret_v (congrArg bI (accEnd cz2 hiN))) dX6_isReason_59
      refine lv_aload_n hx hb dX6_isReason_26 rfl (lv_at hl 0 rfl) ?_
      refine lv_iload hx hb dX6_isReason_27 (lv_at hl 4 rfl) ?_
      refine lv_iload_n hx hb dX6_isReason_29 rfl (lv_at hl 2 rfl) ?_
      refine mm_V (As := [.int (nI i), .int r]) (rest := []) ⟨hx, hb, hml, hown, hts⟩ (c6_applies l G hI i (by omega) r) (cwV 2 hts gX6_isReason_X6_applies rfl rfl rfl (by decide +kernel) ⟨Nat.le_of_ble_eq_true rfl, Nat.le_of_ble_eq_true rfl⟩) hK hE hA hM (mm_recv hK hM (hI.obj) (q := (RX6, TX6, 14)) rfl) rfl hl.1 rfl (Nat.le_of_ble_eq_true rfl) dX6_isReason_30 ⟨Nat.le_of_ble_eq_true rfl, Nat.le_of_ble_eq_true rfl⟩ (fun v f1 Hp lcs hp hM => ?_)
      obtain ⟨rfl, hf⟩ := hp; subst hf
      refine lvb_eq (tgt := 46) hx hb dX6_isReason_33 (by decide) (fun cz3 => ?_) (fun cz3 => ?_)
      · refine lv_iconst (v := (nI 1)) hx hb dX6_isReason_46 (by decide +kernel) ?_
        refine lv_goto (tgt := 51) hx hb dX6_isReason_47 (by decide) ?_
        refine lv_istore_n (lv' := [(3, .int (nI 1)), (0, .ref o), (1, .int (nI k)), (2, .int r), (4, .int (nI i))]) hx hb dX6_isReason_51 rfl hl (by decide) rfl (fun ls hl => ?_)
        refine lv_iinc (v := (nI (i + 1))) (lv' := [(4, .int (nI (i + 1))), (3, .int (nI 1)), (0, .ref o), (1, .int (nI k)), (2, .int r)]) hx hb dX6_isReason_52 hl (k := 4) rfl (nI_add _ _) (by decide) rfl (fun ls hl => ?_)
        refine lv_goto (tgt := 10) hx hb dX6_isReason_55 (by decide) ?_
        exact ih (i + 1) _ _ _ ls (by omega) (by simp [allN, bI, nI_lit, reaQ, cz1, cz2, cz3]) (by omega) hM (lv_sub hl [2, 3, 4, 1, 0] rfl)
      refine lv_aload_n hx hb dX6_isReason_36 rfl (lv_at hl 0 rfl) ?_
      refine lv_iload hx hb dX6_isReason_37 (lv_at hl 4 rfl) ?_
      refine lv_iload_n hx hb dX6_isReason_39 rfl (lv_at hl 1 rfl) ?_
      refine mm_V (As := [.int (nI i), .int (nI k)]) (rest := []) ⟨hx, hb, hml, hown, hts⟩ (c6_isStrictly l G hI i k (by omega) (by omega)) (cwV 2 hts gX6_isReason_X6_isStrictly rfl rfl rfl (by decide +kernel) ⟨Nat.le_of_ble_eq_true rfl, Nat.le_of_ble_eq_true rfl⟩) hK hE hA hM (mm_recv hK hM (hI.obj) (q := (RX6, TX6, 14)) rfl) rfl hl.1 rfl (Nat.le_of_ble_eq_true rfl) dX6_isReason_40 ⟨Nat.le_of_ble_eq_true rfl, Nat.le_of_ble_eq_true rfl⟩ (fun v f1 Hp lcs hp hM => ?_)
      obtain ⟨rfl, hf⟩ := hp; subst hf
      refine lvb_ne (tgt := 50) hx hb dX6_isReason_43 (by decide) (fun cz4 => ?_) (fun cz4 => ?_)
      · refine lv_iconst (v := (nI 0)) hx hb dX6_isReason_50 (by decide +kernel) ?_
        refine lv_istore_n (lv' := [(3, .int (nI 0)), (0, .ref o), (1, .int (nI k)), (2, .int r), (4, .int (nI i))]) hx hb dX6_isReason_51 rfl hl (by decide) rfl (fun ls hl => ?_)
        refine lv_iinc (v := (nI (i + 1))) (lv' := [(4, .int (nI (i + 1))), (3, .int (nI 0)), (0, .ref o), (1, .int (nI k)), (2, .int r)]) hx hb dX6_isReason_52 hl (k := 4) rfl (nI_add _ _) (by decide) rfl (fun ls hl => ?_)
        refine lv_goto (tgt := 10) hx hb dX6_isReason_55 (by decide) ?_
        exact ih (i + 1) _ _ _ ls (by omega) (by simp [allN, bI, nI_lit, reaQ, cz1, cz2, cz3, cz4]) (by omega) hM (lv_sub hl [2, 3, 4, 1, 0] rfl)
      refine lv_iconst (v := (nI 1)) hx hb dX6_isReason_46 (by decide +kernel) ?_
      refine lv_goto (tgt := 51) hx hb dX6_isReason_47 (by decide) ?_
      refine lv_istore_n (lv' := [(3, .int (nI 1)), (0, .ref o), (1, .int (nI k)), (2, .int r), (4, .int (nI i))]) hx hb dX6_isReason_51 rfl hl (by decide) rfl (fun ls hl => ?_)
      refine lv_iinc (v := (nI (i + 1))) (lv' := [(4, .int (nI (i + 1))), (3, .int (nI 1)), (0, .ref o), (1, .int (nI k)), (2, .int r)]) hx hb dX6_isReason_52 hl (k := 4) rfl (nI_add _ _) (by decide) rfl (fun ls hl => ?_)
      refine lv_goto (tgt := 10) hx hb dX6_isReason_55 (by decide) ?_
      exact ih (i + 1) _ _ _ ls (by omega) (by simp [allN, bI, nI_lit, reaQ, cz1, cz2, cz3, cz4]) (by omega) hM (lv_sub hl [2, 3, 4, 1, 0] rfl)
  exact loopZ (n + 1) 0 _ _ _ ls (Nat.zero_le _) (by simp [allN, bI, nI_lit]) (by omega) hM (lv_sub hl [2, 3, 4, 1, 0] rfl)
set_option maxHeartbeats 4000000 in
set_option maxRecDepth 100000 in
theorem c6_answerNow (l : Launch) (G : mG) {f : mE} {o : Nat} {a : Nat → Nat} {S P lo hi ou : Nat → Int32} {rc isr wd us ab gi wr wo : Int32} (hI : RI G f o a S P lo hi ou rc isr wd us ab gi wr wo) {n : Nat} (hn : S 56 = nI n) (hn16 : n ≤ 16) (r : Int32) : mC l G yX6_answerNow wsX6_answerNow ({ frames := 4, cells := 0, slots := 0, locals := 92 } : Room) f [.ref o, .int r] (fun v f1 => v = some (.int (ansI S wo n r)) ∧ f = f1) 0 0 := by
  refine mC.of (cc := cX6_answerNow) (maxL := 4) (ret := (some .int)) (by decide) rfl (Nat.le_of_ble_eq_true rfl) ?_
  intro pgm env s mt args below meth c A ls hx hb hml hr hlocks hown hname hts hK hE hA hM hl
  have hl : lv_has ls 4 [(0, .ref o), (1, .int r)] := hl
  refine lv_ldc (v := (-100005)) hx hb hown (hts (.constant RX6 28 (-100005)) (List.mem_of_getElem? (i := 1) rfl)) dX6_answerNow_0 ?_
  refine lv_istore_n (lv' := [(2, .int (-100005)), (0, .ref o), (1, .int r)]) hx hb dX6_answerNow_2 rfl hl (by decide) rfl (fun ls hl => ?_)
  refine lv_iconst (v := (nI 0)) hx hb dX6_answerNow_3 (by decide +kernel) ?_
  refine lv_istore_n (lv' := [(3, .int (nI 0)), (2, .int (-100005)), (0, .ref o), (1, .int r)]) hx hb dX6_answerNow_4 rfl hl (by decide) rfl (fun ls hl => ?_)
  have loopZ : ∀ (fuel : Nat) (i : Nat) (aw : Int32) (Hp : Heap) (lcs : List Loc) (ls : Array Slot) (hiN : i ≤ n) (hr0 : aw = ansL S wo n r i) (hfu : n - i < fuel) (hM : mM G A s.heap f Hp lcs) (hl : lv_has ls 4 [(0, .ref o), (1, .int r), (2, .int aw), (3, .int (nI i))]), W pgm l env ({ frames := 4, cells := 0, slots := 0, locals := 92 } : Room) s mt args below meth c Hp lcs 0 0 (MQ below (mQc G A (fun v f1 => v = some (.int (ansI S wo n r)) ∧ f = f1)) args s 0 0 A) (F0 mt 5 ls []) := by
    intro fuel
    induction fuel with
    | zero => intro i aw Hp lcs ls hiN hr0 hfu; exact absurd hfu (Nat.not_lt_zero _)
    | succ fuel ih =>
      intro i aw Hp lcs ls hiN hr0 hfu hM hl
      subst hr0
      refine lv_iload_n hx hb dX6_answerNow_5 rfl (lv_at hl 3 rfl) ?_
      refine lv_aload_n hx hb dX6_answerNow_6 rfl (lv_at hl 0 rfl) ?_
      refine mm_get (C := RX6) (T := TX6) (N := 14) (k := 0) hx hb hts (fun _ h => List.mem_cons_of_mem _ (List.mem_append_right _ h)) hown hK hM (hI.obj) rfl (by decide) (hts (.fieldLink RX6 7 "SentenceRulesModel" "now" "[I") (List.mem_of_getElem? (i := 2) rfl)) rfl rfl dX6_answerNow_7 ?_
      refine lv_bipush (v := (nI 56)) hx hb dX6_answerNow_10 (by decide +kernel) ?_
      refine mn_iald hx hb hK hM (hI.now) 56 (by omega) (by decide) dX6_answerNow_12 ?_
      refine mv_top hn ?_
      refine ln_icmp_ge i n (by omega) (by omega) (tgt := 61) hx hb dX6_answerNow_13 (by decide) (fun cz1 => ?_) (fun cz1 => ?_)
      · refine lv_iload_n hx hb dX6_answerNow_61 rfl (lv_at hl 2 rfl) ?_
        exact mm_iret hx hb hlocks hr (Nat.le_of_ble_eq_true rfl) (Nat.le_of_ble_eq_true rfl) hM ((by have hz : i = n := (by omega); subst hz; exact ⟨rfl, rfl⟩)) dX6_answerNow_62
      refine lv_aload_n hx hb dX6_answerNow_16 rfl (lv_at hl 0 rfl) ?_
      refine lv_iload_n hx hb dX6_answerNow_17 rfl (lv_at hl 3 rfl) ?_
      refine lv_iload_n hx hb dX6_answerNow_18 rfl (lv_at hl 1 rfl) ?_
      refine mm_V (As := [.int (nI i), .int r]) (rest := []) ⟨hx, hb, hml, hown, hts⟩ (c6_isReason l G hI hn hn16 i (by omega) r) (cwV 2 hts gX6_answerNow_X6_isReason rfl rfl rfl (by decide +kernel) ⟨Nat.le_of_ble_eq_true rfl, Nat.le_of_ble_eq_true rfl⟩) hK hE hA hM (mm_recv hK hM (hI.obj) (q := (RX6, TX6, 14)) rfl) rfl hl.1 rfl (Nat.le_of_ble_eq_true rfl) dX6_answerNow_19 ⟨Nat.le_of_ble_eq_true rfl, Nat.le_of_ble_eq_true rfl⟩ (fun v f1 Hp lcs hp hM => ?_)
      obtain ⟨rfl, hf⟩ := hp; subst hf
      refine lvb_eq (tgt := 55) hx hb dX6_answerNow_22 (by decide) (fun cz2 => ?_) (fun cz2 => ?_)
      · refine lv_iinc (v := (nI (i + 1))) (lv' := [(3, .int (nI (i + 1))), (0, .ref o), (1, .int r), (2, .int (ansL S wo n r i))]) hx hb dX6_answerNow_55 hl (k := 3) rfl (nI_add _ _) (by decide) rfl (fun ls hl => ?_)
        refine lv_goto (tgt := 5) hx hb dX6_answerNow_58 (by decide) ?_
        exact ih (i + 1) _ _ _ ls (by omega) (by simp [ansL, cz1, cz2]) (by omega) hM (lv_sub hl [1, 2, 3, 0] rfl)
      refine lv_iload_n hx hb dX6_answerNow_25 rfl (lv_at hl 2 rfl) ?_
      refine lv_ldc (v := (-100005)) hx hb hown (hts (.constant RX6 28 (-100005)) (List.mem_of_getElem? (i := 1) rfl)) dX6_answerNow_26 ?_
      refine lv_icmp_eq (tgt := 42) hx hb dX6_answerNow_28 (by decide) (fun cz3 => ?_) (fun cz3 => ?_)
      · refine lv_aload_n hx hb dX6_answerNow_42 rfl (lv_at hl 0 rfl) ?_
        refine lv_iload_n hx hb dX6_answerNow_43 rfl (lv_at hl 3 rfl) ?_
        refine lv_bipush (v := (nI 50)) hx hb dX6_answerNow_44 (by decide +kernel) ?_
        refine mm_V (As := [.int (nI i), .int (nI 50)]) (rest := []) ⟨hx, hb, hml, hown, hts⟩ (c6_of l G hI i 50 (by omega)) (cwV 2 hts gX6_answerNow_X6_of rfl rfl rfl (by decide +kernel) ⟨Nat.le_of_ble_eq_true rfl, Nat.le_of_ble_eq_true rfl⟩) hK hE hA hM (mm_recv hK hM (hI.obj) (q := (RX6, TX6, 14)) rfl) rfl hl.1 rfl (Nat.le_of_ble_eq_true rfl) dX6_answerNow_46 ⟨Nat.le_of_ble_eq_true rfl, Nat.le_of_ble_eq_true rfl⟩ (fun v f1 Hp lcs hp hM => ?_)
        obtain ⟨rfl, hf⟩ := hp; subst hf
        refine lv_goto (tgt := 54) hx hb dX6_answerNow_49 (by decide) ?_
        refine lv_istore_n (lv' := [(2, .int (S (57 + 66 * i + 50))), (0, .ref o), (1, .int r), (3, .int (nI i))]) hx hb dX6_answerNow_54 rfl hl (by decide) rfl (fun ls hl => ?_)
        refine lv_iinc (v := (nI (i + 1))) (lv' := [(3, .int (nI (i + 1))), (2, .int (S (57 + 66 * i + 50))), (0, .ref o), (1, .int r)]) hx hb dX6_answerNow_55 hl (k := 3) rfl (nI_add _ _) (by decide) rfl (fun ls hl => ?_)
        refine lv_goto (tgt := 5) hx hb dX6_answerNow_58 (by decide) ?_
        exact ih (i + 1) _ _ _ ls (by omega) (by simp [ansL, cz1, cz2, cz3]) (by omega) hM (lv_sub hl [2, 3, 1, 0] rfl)
      refine lv_iload_n hx hb dX6_answerNow_31 rfl (lv_at hl 2 rfl) ?_
      refine lv_aload_n hx hb dX6_answerNow_32 rfl (lv_at hl 0 rfl) ?_
      refine lv_iload_n hx hb dX6_answerNow_33 rfl (lv_at hl 3 rfl) ?_
      refine lv_bipush (v := (nI 50)) hx hb dX6_answerNow_34 (by decide +kernel) ?_
      refine mm_V (As := [.int (nI i), .int (nI 50)]) (rest := [.int (ansL S wo n r i)]) ⟨hx, hb, hml, hown, hts⟩ (c6_of l G hI i 50 (by omega)) (cwV 2 hts gX6_answerNow_X6_of rfl rfl rfl (by decide +kernel) ⟨Nat.le_of_ble_eq_true rfl, Nat.le_of_ble_eq_true rfl⟩) hK hE hA hM (mm_recv hK hM (hI.obj) (q := (RX6, TX6, 14)) rfl) rfl hl.1 rfl (Nat.le_of_ble_eq_true rfl) dX6_answerNow_36 ⟨Nat.le_of_ble_eq_true rfl, Nat.le_of_ble_eq_true rfl⟩ (fun v f1 Hp lcs hp hM => ?_)
      obtain ⟨rfl, hf⟩ := hp; subst hf
      refine lv_icmp_ne (tgt := 52) hx hb dX6_answerNow_39 (by decide) (fun cz4 => ?_) (fun cz4 => ?_)
      · refine lv_ldc (v := (-100006)) hx hb hown (hts (.constant RX6 195 (-100006)) (List.mem_of_getElem? (i := 3) rfl)) dX6_answerNow_52 ?_
        refine lv_istore_n (lv' := [(2, .int (-100006)), (0, .ref o), (1, .int r), (3, .int (nI i))]) hx hb dX6_answerNow_54 rfl hl (by decide) rfl (fun ls hl => ?_)
        refine lv_iinc (v := (nI (i + 1))) (lv' := [(3, .int (nI (i + 1))), (2, .int (-100006)), (0, .ref o), (1, .int r)]) hx hb dX6_answerNow_55 hl (k := 3) rfl (nI_add _ _) (by decide) rfl (fun ls hl => ?_)
        refine lv_goto (tgt := 5) hx hb dX6_answerNow_58 (by decide) ?_
        exact ih (i + 1) _ _ _ ls (by omega) (by simp [ansL, cz1, cz2, cz3, cz4]) (by omega) hM (lv_sub hl [2, 3, 1, 0] rfl)
      refine lv_aload_n hx hb dX6_answerNow_42 rfl (lv_at hl 0 rfl) ?_
      refine lv_iload_n hx hb dX6_answerNow_43 rfl (lv_at hl 3 rfl) ?_
      refine lv_bipush (v := (nI 50)) hx hb dX6_answerNow_44 (by decide +kernel) ?_
      refine mm_V (As := [.int (nI i), .int (nI 50)]) (rest := []) ⟨hx, hb, hml, hown, hts⟩ (c6_of l G hI i 50 (by omega)) (cwV 2 hts gX6_answerNow_X6_of rfl rfl rfl (by decide +kernel) ⟨Nat.le_of_ble_eq_true rfl, Nat.le_of_ble_eq_true rfl⟩) hK hE hA hM (mm_recv hK hM (hI.obj) (q := (RX6, TX6, 14)) rfl) rfl hl.1 rfl (Nat.le_of_ble_eq_true rfl) dX6_answerNow_46 ⟨Nat.le_of_ble_eq_true rfl, Nat.le_of_ble_eq_true rfl⟩ (fun v f1 Hp lcs hp hM => ?_)
      obtain ⟨rfl, hf⟩ := hp; subst hf
      refine lv_goto (tgt := 54) hx hb dX6_answerNow_49 (by decide) ?_
      refine lv_istore_n (lv' := [(2, .int (S (57 + 66 * i + 50))), (0, .ref o), (1, .int r), (3, .int (nI i))]) hx hb dX6_answerNow_54 rfl hl (by decide) rfl (fun ls hl => ?_)
      refine lv_iinc (v := (nI (i + 1))) (lv' := [(3, .int (nI (i + 1))), (2, .int (S (57 + 66 * i + 50))), (0, .ref o), (1, .int r)]) hx hb dX6_answerNow_55 hl (k := 3) rfl (nI_add _ _) (by decide) rfl (fun ls hl => ?_)
      refine lv_goto (tgt := 5) hx hb dX6_answerNow_58 (by decide) ?_
      exact ih (i + 1) _ _ _ ls (by omega) (by simp [ansL, cz1, cz2, cz3, cz4]) (by omega) hM (lv_sub hl [2, 3, 1, 0] rfl)
  exact loopZ (n + 1) 0 (-100005) _ _ ls (Nat.zero_le _) rfl (by omega) hM (lv_sub hl [2, 3, 1, 0] rfl)
set_option maxHeartbeats 4000000 in
set_option maxRecDepth 100000 in
theorem c6_sharpnessOf (l : Launch) (G : mG) {f : mE} {o : Nat} {a : Nat → Nat} {S P lo hi ou : Nat → Int32} {rc isr wd us ab gi wr wo : Int32} (hI : RI G f o a S P lo hi ou rc isr wd us ab gi wr wo) (k : Nat) (hk : k < 16) : mC l G yX6_sharpnessOf wsX6_sharpnessOf ({ frames := 1, cells := 0, slots := 0, locals := 22 } : Room) f [.ref o, .int (nI k)] (fun v f1 => v = some (.int (nI (shaN S k))) ∧ f = f1) 0 0 := by
  refine mC.of (cc := cX6_sharpnessOf) (maxL := 4) (ret := (some .int)) (by decide) rfl (Nat.le_of_ble_eq_true rfl) ?_
  intro pgm env s mt args below meth c A ls hx hb hml hr hlocks hown hname hts hK hE hA hM hl
  have hl : lv_has ls 4 [(0, .ref o), (1, .int (nI k))] := hl
  refine lv_iconst (v := (nI 0)) hx hb dX6_sharpnessOf_0 (by decide +kernel) ?_
  refine lv_istore_n (lv' := [(2, .int (nI 0)), (0, .ref o), (1, .int (nI k))]) hx hb dX6_sharpnessOf_1 rfl hl (by decide) rfl (fun ls hl => ?_)
  refine lv_iconst (v := (nI 0)) hx hb dX6_sharpnessOf_2 (by decide +kernel) ?_
  refine lv_istore_n (lv' := [(3, .int (nI 0)), (2, .int (nI 0)), (0, .ref o), (1, .int (nI k))]) hx hb dX6_sharpnessOf_3 rfl hl (by decide) rfl (fun ls hl => ?_)
  have loopZ : ∀ (fuel : Nat) (i : Nat) (aw : Nat) (Hp : Heap) (lcs : List Loc) (ls : Array Slot) (hiN : i ≤ 7) (hr0 : aw = cntN (shaQ S k) i) (hfu : 7 - i < fuel) (hM : mM G A s.heap f Hp lcs) (hl : lv_has ls 4 [(0, .ref o), (1, .int (nI k)), (2, .int (nI aw)), (3, .int (nI i))]), W pgm l env ({ frames := 1, cells := 0, slots := 0, locals := 22 } : Room) s mt args below meth c Hp lcs 0 0 (MQ below (mQc G A (fun v f1 => v = some (.int (nI (shaN S k))) ∧ f = f1)) args s 0 0 A) (F0 mt 4 ls []) := by
    intro fuel
    induction fuel with
    | zero => intro i aw Hp lcs ls hiN hr0 hfu; exact absurd hfu (Nat.not_lt_zero _)
    | succ fuel ih =>
      intro i aw Hp lcs ls hiN hr0 hfu hM hl
      subst hr0
      refine lv_iload_n hx hb dX6_sharpnessOf_4 rfl (lv_at hl 3 rfl) ?_
      refine lv_bipush (v := (nI 7)) hx hb dX6_sharpnessOf_5 (by decide +kernel) ?_
      refine ln_icmp_ge i 7 (by omega) (by omega) (tgt := 56) hx hb dX6_sharpnessOf_7 (by decide) (fun cz1 => ?_) (fun cz1 => ?_)
      · refine lv_iload_n hx hb dX6_sharpnessOf_56 rfl (lv_at hl 2 rfl) ?_
        exact mm_iret hx hb hlocks hr (Nat.le_of_ble_eq_true rfl) (Nat.le_of_ble_eq_true rfl) hM ((by have hz : i = 7 := (by omega); subst hz; exact ⟨rfl, rfl⟩)) dX6_sharpnessOf_57
      refine lv_iload_n hx hb dX6_sharpnessOf_10 rfl (lv_at hl 2 rfl) ?_
      refine lv_aload_n hx hb dX6_sharpnessOf_11 rfl (lv_at hl 0 rfl) ?_
      refine lv_iload_n hx hb dX6_sharpnessOf_12 rfl (lv_at hl 1 rfl) ?_
      refine lv_bipush (v := (nI 52)) hx hb dX6_sharpnessOf_13 (by decide +kernel) ?_
      refine lv_iload_n hx hb dX6_sharpnessOf_15 rfl (lv_at hl 3 rfl) ?_
      refine ln_iadd 52 i hx hb dX6_sharpnessOf_16 ?_
      refine mm_V (As := [.int (nI k), .int (nI (52 + i))]) (rest := [.int (nI (cntN (shaQ S k) i))]) ⟨hx, hb, hml, hown, hts⟩ (c6_of l G hI k (52 + i) (by omega)) (cwV 2 hts gX6_sharpnessOf_X6_of rfl rfl rfl (by decide +kernel) ⟨Nat.le_of_ble_eq_true rfl, Nat.le_of_ble_eq_true rfl⟩) hK hE hA hM (mm_recv hK hM (hI.obj) (q := (RX6, TX6, 14)) rfl) rfl hl.1 rfl (Nat.le_of_ble_eq_true rfl) dX6_sharpnessOf_17 ⟨Nat.le_of_ble_eq_true rfl, Nat.le_of_ble_eq_true rfl⟩ (fun v f1 Hp lcs hp hM => ?_)
      obtain ⟨rfl, hf⟩ := hp; subst hf
      refine lv_iload_n hx hb dX6_sharpnessOf_20 rfl (lv_at hl 3 rfl) ?_
      refine mm_S (As := [.int (nI i)]) (rest := [.int (S (57 + 66 * k + (52 + i))), .int (nI (cntN (shaQ S k) i))]) ⟨hx, hb, hml, hown, hts⟩ (c6_leastOf l G _ (nI i)) (va_cwS 1 hts gX6_sharpnessOf_X6_leastOf rfl rfl rfl (by decide +kernel) ⟨Nat.le_of_ble_eq_true rfl, Nat.le_of_ble_eq_true rfl⟩) hK hE hA hM rfl hl.1 rfl (Nat.le_of_ble_eq_true rfl) dX6_sharpnessOf_21 ⟨Nat.le_of_ble_eq_true rfl, Nat.le_of_ble_eq_true rfl⟩ (fun v f1 Hp lcs hp hM => ?_)
      obtain ⟨rfl, hf⟩ := hp; subst hf
      refine lv_icmp_ne (tgt := 43) hx hb dX6_sharpnessOf_24 (by decide) (fun cz2 => ?_) (fun cz2 => ?_)
      · refine lv_iconst (v := (nI 1)) hx hb dX6_sharpnessOf_43 (by decide +kernel) ?_
        refine lv_goto (tgt := 48) hx hb dX6_sharpnessOf_44 (by decide) ?_
        refine ln_iadd (cntN (shaQ S k) i) 1 hx hb dX6_sharpnessOf_48 ?_
        refine lv_istore_n (lv' := [(2, .int (nI ((cntN (shaQ S k) i) + 1))), (0, .ref o), (1, .int (nI k)), (3, .int (nI i))]) hx hb dX6_sharpnessOf_49 rfl hl (by decide) rfl (fun ls hl => ?_)
        refine lv_iinc (v := (nI (i + 1))) (lv' := [(3, .int (nI (i + 1))), (2, .int (nI ((cntN (shaQ S k) i) + 1))), (0, .ref o), (1, .int (nI k))]) hx hb dX6_sharpnessOf_50 hl (k := 3) rfl (nI_add _ _) (by decide) rfl (fun ls hl => ?_)
        refine lv_goto (tgt := 4) hx hb dX6_sharpnessOf_53 (by decide) ?_
        exact ih (i + 1) _ _ _ ls (by omega) (by simp [cntN, shaQ, cz1, cz2]) (by omega) hM (lv_sub hl [2, 3, 1, 0] rfl)
      refine lv_aload_n hx hb dX6_sharpnessOf_27 rfl (lv_at hl 0 rfl) ?_
      refine lv_iload_n hx hb dX6_sharpnessOf_28 rfl (lv_at hl 1 rfl) ?_
      refine lv_bipush (v := (nI 59)) hx hb dX6_sharpnessOf_29 (by decide +kernel) ?_
      refine lv_iload_n hx hb dX6_sharpnessOf_31 rfl (lv_at hl 3 rfl) ?_
      refine ln_iadd 59 i hx hb dX6_sharpnessOf_32 ?_
      refine mm_V (As := [.int (nI k), .int (nI (59 + i))]) (rest := [.int (nI (cntN (shaQ S k) i))]) ⟨hx, hb, hml, hown, hts⟩ (c6_of l G hI k (59 + i) (by omega)) (cwV 2 hts gX6_sharpnessOf_X6_of rfl rfl rfl (by decide +kernel) ⟨Nat.le_of_ble_eq_true rfl, Nat.le_of_ble_eq_true rfl⟩) hK hE hA hM (mm_recv hK hM (hI.obj) (q := (RX6, TX6, 14)) rfl) rfl hl.1 rfl (Nat.le_of_ble_eq_true rfl) dX6_sharpnessOf_33 ⟨Nat.le_of_ble_eq_true rfl, Nat.le_of_ble_eq_true rfl⟩ (fun v f1 Hp lcs hp hM => ?_)
      obtain ⟨rfl, hf⟩ := hp; subst hf
      refine lv_iload_n hx hb dX6_sharpnessOf_36 rfl (lv_at hl 3 rfl) ?_
      refine mm_S (As := [.int (nI i)]) (rest := [.int (S (57 + 66 * k + (59 + i))), .int (nI (cntN (shaQ S k) i))]) ⟨hx, hb, hml, hown, hts⟩ (c6_greatestOf l G _ (nI i)) (va_cwS 1 hts gX6_sharpnessOf_X6_greatestOf rfl rfl rfl (by decide +kernel) ⟨Nat.le_of_ble_eq_true rfl, Nat.le_of_ble_eq_true rfl⟩) hK hE hA hM rfl hl.1 rfl (Nat.le_of_ble_eq_true rfl) dX6_sharpnessOf_37 ⟨Nat.le_of_ble_eq_true rfl, Nat.le_of_ble_eq_true rfl⟩ (fun v f1 Hp lcs hp hM => ?_)
      obtain ⟨rfl, hf⟩ := hp; subst hf
      refine lv_icmp_eq (tgt := 47) hx hb dX6_sharpnessOf_40 (by decide) (fun cz3 => ?_) (fun cz3 => ?_)
      · refine lv_iconst (v := (nI 0)) hx hb dX6_sharpnessOf_47 (by decide +kernel) ?_
        refine ln_iadd (cntN (shaQ S k) i) 0 hx hb dX6_sharpnessOf_48 ?_
        refine lv_istore_n (lv' := [(2, .int (nI ((cntN (shaQ S k) i) + 0))), (0, .ref o), (1, .int (nI k)), (3, .int (nI i))]) hx hb dX6_sharpnessOf_49 rfl hl (by decide) rfl (fun ls hl => ?_)
        refine lv_iinc (v := (nI (i + 1))) (lv' := [(3, .int (nI (i + 1))), (2, .int (nI ((cntN (shaQ S k) i) + 0))), (0, .ref o), (1, .int (nI k))]) hx hb dX6_sharpnessOf_50 hl (k := 3) rfl (nI_add _ _) (by decide) rfl (fun ls hl => ?_)
        refine lv_goto (tgt := 4) hx hb dX6_sharpnessOf_53 (by decide) ?_
        exact ih (i + 1) _ _ _ ls (by omega) (by simp [cntN, shaQ, cz1, cz2, cz3]) (by omega) hM (lv_sub hl [2, 3, 1, 0] rfl)
      refine lv_iconst (v := (nI 1)) hx hb dX6_sharpnessOf_43 (by decide +kernel) ?_
      refine lv_goto (tgt := 48) hx hb dX6_sharpnessOf_44 (by decide) ?_
      refine ln_iadd (cntN (shaQ S k) i) 1 hx hb dX6_sharpnessOf_48 ?_
      refine lv_istore_n (lv' := [(2, .int (nI ((cntN (shaQ S k) i) + 1))), (0, .ref o), (1, .int (nI k)), (3, .int (nI i))]) hx hb dX6_sharpnessOf_49 rfl hl (by decide) rfl (fun ls hl => ?_)
      refine lv_iinc (v := (nI (i + 1))) (lv' := [(3, .int (nI (i + 1))), (2, .int (nI ((cntN (shaQ S k) i) + 1))), (0, .ref o), (1, .int (nI k))]) hx hb dX6_sharpnessOf_50 hl (k := 3) rfl (nI_add _ _) (by decide) rfl (fun ls hl => ?_)
      refine lv_goto (tgt := 4) hx hb dX6_sharpnessOf_53 (by decide) ?_
      exact ih (i + 1) _ _ _ ls (by omega) (by simp [cntN, shaQ, cz1, cz2, cz3]) (by omega) hM (lv_sub hl [2, 3, 1, 0] rfl)
  exact loopZ (7 + 1) 0 0 _ _ ls (Nat.zero_le _) rfl (by omega) hM (lv_sub hl [2, 3, 1, 0] rfl)
