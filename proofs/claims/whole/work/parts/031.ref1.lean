/-! THE REFERENCE: small contracts -/
def thenF (x y : Int32) : Int32 := if y = 0 then x else 27 * x + y - 96
def spellF (x y z u v w : Int32) : Int32 := thenF (thenF (thenF (thenF (thenF (thenF 0 x) y) z) u) v) w
def leastF (k : Int32) : Int32 := if k < 4 then -9999 else 0
def greatestF (k : Int32) : Int32 := if k < 4 then 9999 else 73048
def leapB (y : Int32) : Bool := decide (y - y / 4 * 4 = 0) && !decide (y - y / 100 * 100 = 0) || decide (y - y / 400 * 400 = 0)
def daysF (y k : Int32) : Int32 := if k = 2 then (if leapB y then 29 else 28) else if k = 4 ∨ k = 6 ∨ k = 9 ∨ k = 11 then 30 else 31
def dateB (x y z : Int32) : Bool := inB x 1900 2099 && inB y 1 12 && inB z 1 (daysF x y)
def valB (k x : Int32) : Bool := inB k 0 6 && inB x (leastF k) (greatestF k)
set_option maxHeartbeats 4000000 in
set_option maxRecDepth 100000 in
theorem c6_then (l : Launch) (G : mG) (f : mE) (x y : Int32) : mC l G yX6_then wsX6_then ({ frames := 0, cells := 0, slots := 0, locals := 0 } : Room) f [.int x, .int y] (fun v f1 => v = some (.int (thenF x y)) ∧ f = f1) 0 0 := by
  refine mC.of (cc := cX6_then) (maxL := 2) (ret := (some .int)) (by decide) rfl (Nat.le_of_ble_eq_true rfl) ?_
  intro pgm env s mt args below meth c A ls hx hb hml hr hlocks hown hname hts hK hE hA hM hl
  have hl : lv_has ls 2 [(0, .int x), (1, .int y)] := hl
  refine lv_iload_n hx hb dX6_then_0 rfl (lv_at hl 1 rfl) ?_
  refine lv_if_ne (tgt := 8) hx hb dX6_then_1 (by decide) (fun cz1 => ?_) (fun cz1 => ?_)
  · refine lv_bipush (v := (nI 27)) hx hb dX6_then_8 (by decide +kernel) ?_
    refine lv_iload_n hx hb dX6_then_10 rfl (lv_at hl 0 rfl) ?_
    refine lv_imul hx hb dX6_then_11 ?_
    refine lv_iload_n hx hb dX6_then_12 rfl (lv_at hl 1 rfl) ?_
    refine lv_iadd hx hb dX6_then_13 ?_
    refine lv_bipush (v := (nI 96)) hx hb dX6_then_14 (by decide +kernel) ?_
    refine lv_isub hx hb dX6_then_16 ?_
    exact mm_iret hx hb hlocks hr (Nat.le_of_ble_eq_true rfl) (Nat.le_of_ble_eq_true rfl) hM (ret_v (by simp_all [thenF, nI_lit])) dX6_then_17
  refine lv_iload_n hx hb dX6_then_4 rfl (lv_at hl 0 rfl) ?_
  refine lv_goto (tgt := 17) hx hb dX6_then_5 (by decide) ?_
  exact mm_iret hx hb hlocks hr (Nat.le_of_ble_eq_true rfl) (Nat.le_of_ble_eq_true rfl) hM (ret_v (by simp_all [thenF, nI_lit])) dX6_then_17
set_option maxHeartbeats 4000000 in
set_option maxRecDepth 100000 in
theorem c6_spell (l : Launch) (G : mG) (f : mE) (x1 x2 x3 x4 x5 x6 : Int32) : mC l G yX6_spell wsX6_spell ({ frames := 1, cells := 0, slots := 0, locals := 21 } : Room) f [.int x1, .int x2, .int x3, .int x4, .int x5, .int x6] (fun v f1 => v = some (.int (spellF x1 x2 x3 x4 x5 x6)) ∧ f = f1) 0 0 := by
  refine mC.of (cc := cX6_spell) (maxL := 6) (ret := (some .int)) (by decide) rfl (Nat.le_of_ble_eq_true rfl) ?_
  intro pgm env s mt args below meth c A ls hx hb hml hr hlocks hown hname hts hK hE hA hM hl
  have hl : lv_has ls 6 [(0, .int x1), (1, .int x2), (2, .int x3), (3, .int x4), (4, .int x5), (5, .int x6)] := hl
  refine lv_iconst (v := (nI 0)) hx hb dX6_spell_0 (by decide +kernel) ?_
  refine lv_iload_n hx hb dX6_spell_1 rfl (lv_at hl 0 rfl) ?_
  refine mm_S (As := [.int (nI 0), .int x1]) (rest := []) ⟨hx, hb, hml, hown, hts⟩ (c6_then l G _ (nI 0) x1) (va_cwS 2 hts gX6_spell_X6_then rfl rfl rfl (by decide +kernel) ⟨Nat.le_of_ble_eq_true rfl, Nat.le_of_ble_eq_true rfl⟩) hK hE hA hM rfl hl.1 rfl (Nat.le_of_ble_eq_true rfl) dX6_spell_2 ⟨Nat.le_of_ble_eq_true rfl, Nat.le_of_ble_eq_true rfl⟩ (fun v f1 Hp lcs hp hM => ?_)
  obtain ⟨rfl, hf⟩ := hp; subst hf
  refine lv_iload_n hx hb dX6_spell_5 rfl (lv_at hl 1 rfl) ?_
  refine mm_S (As := [.int (thenF (nI 0) x1), .int x2]) (rest := []) ⟨hx, hb, hml, hown, hts⟩ (c6_then l G _ (thenF (nI 0) x1) x2) (va_cwS 2 hts gX6_spell_X6_then rfl rfl rfl (by decide +kernel) ⟨Nat.le_of_ble_eq_true rfl, Nat.le_of_ble_eq_true rfl⟩) hK hE hA hM rfl hl.1 rfl (Nat.le_of_ble_eq_true rfl) dX6_spell_6 ⟨Nat.le_of_ble_eq_true rfl, Nat.le_of_ble_eq_true rfl⟩ (fun v f1 Hp lcs hp hM => ?_)
  obtain ⟨rfl, hf⟩ := hp; subst hf
  refine lv_iload_n hx hb dX6_spell_9 rfl (lv_at hl 2 rfl) ?_
  refine mm_S (As := [.int (thenF (thenF (nI 0) x1) x2), .int x3]) (rest := []) ⟨hx, hb, hml, hown, hts⟩ (c6_then l G _ (thenF (thenF (nI 0) x1) x2) x3) (va_cwS 2 hts gX6_spell_X6_then rfl rfl rfl (by decide +kernel) ⟨Nat.le_of_ble_eq_true rfl, Nat.le_of_ble_eq_true rfl⟩) hK hE hA hM rfl hl.1 rfl (Nat.le_of_ble_eq_true rfl) dX6_spell_10 ⟨Nat.le_of_ble_eq_true rfl, Nat.le_of_ble_eq_true rfl⟩ (fun v f1 Hp lcs hp hM => ?_)
  obtain ⟨rfl, hf⟩ := hp; subst hf
  refine lv_iload_n hx hb dX6_spell_13 rfl (lv_at hl 3 rfl) ?_
  refine mm_S (As := [.int (thenF (thenF (thenF (nI 0) x1) x2) x3), .int x4]) (rest := []) ⟨hx, hb, hml, hown, hts⟩ (c6_then l G _ (thenF (thenF (thenF (nI 0) x1) x2) x3) x4) (va_cwS 2 hts gX6_spell_X6_then rfl rfl rfl (by decide +kernel) ⟨Nat.le_of_ble_eq_true rfl, Nat.le_of_ble_eq_true rfl⟩) hK hE hA hM rfl hl.1 rfl (Nat.le_of_ble_eq_true rfl) dX6_spell_14 ⟨Nat.le_of_ble_eq_true rfl, Nat.le_of_ble_eq_true rfl⟩ (fun v f1 Hp lcs hp hM => ?_)
  obtain ⟨rfl, hf⟩ := hp; subst hf
  refine lv_iload hx hb dX6_spell_17 (lv_at hl 4 rfl) ?_
  refine mm_S (As := [.int (thenF (thenF (thenF (thenF (nI 0) x1) x2) x3) x4), .int x5]) (rest := []) ⟨hx, hb, hml, hown, hts⟩ (c6_then l G _ (thenF (thenF (thenF (thenF (nI 0) x1) x2) x3) x4) x5) (va_cwS 2 hts gX6_spell_X6_then rfl rfl rfl (by decide +kernel) ⟨Nat.le_of_ble_eq_true rfl, Nat.le_of_ble_eq_true rfl⟩) hK hE hA hM rfl hl.1 rfl (Nat.le_of_ble_eq_true rfl) dX6_spell_19 ⟨Nat.le_of_ble_eq_true rfl, Nat.le_of_ble_eq_true rfl⟩ (fun v f1 Hp lcs hp hM => ?_)
  obtain ⟨rfl, hf⟩ := hp; subst hf
  refine lv_iload hx hb dX6_spell_22 (lv_at hl 5 rfl) ?_
  refine mm_S (As := [.int (thenF (thenF (thenF (thenF (thenF (nI 0) x1) x2) x3) x4) x5), .int x6]) (rest := []) ⟨hx, hb, hml, hown, hts⟩ (c6_then l G _ (thenF (thenF (thenF (thenF (thenF (nI 0) x1) x2) x3) x4) x5) x6) (va_cwS 2 hts gX6_spell_X6_then rfl rfl rfl (by decide +kernel) ⟨Nat.le_of_ble_eq_true rfl, Nat.le_of_ble_eq_true rfl⟩) hK hE hA hM rfl hl.1 rfl (Nat.le_of_ble_eq_true rfl) dX6_spell_24 ⟨Nat.le_of_ble_eq_true rfl, Nat.le_of_ble_eq_true rfl⟩ (fun v f1 Hp lcs hp hM => ?_)
  obtain ⟨rfl, hf⟩ := hp; subst hf
  exact mm_iret hx hb hlocks hr (Nat.le_of_ble_eq_true rfl) (Nat.le_of_ble_eq_true rfl) hM (⟨rfl, rfl⟩) dX6_spell_27
set_option maxHeartbeats 4000000 in
set_option maxRecDepth 100000 in
theorem c6_in (l : Launch) (G : mG) (f : mE) (x y z : Int32) : mC l G yX6_in wsX6_in ({ frames := 0, cells := 0, slots := 0, locals := 0 } : Room) f [.int x, .int y, .int z] (fun v f1 => v = some (.int (bI (inB x y z))) ∧ f = f1) 0 0 := by
  refine mC.of (cc := cX6_in) (maxL := 3) (ret := (some .boolean)) (by decide) rfl (Nat.le_of_ble_eq_true rfl) ?_
  intro pgm env s mt args below meth c A ls hx hb hml hr hlocks hown hname hts hK hE hA hM hl
  have hl : lv_has ls 3 [(0, .int x), (1, .int y), (2, .int z)] := hl
  refine lv_iload_n hx hb dX6_in_0 rfl (lv_at hl 0 rfl) ?_
  refine lv_iload_n hx hb dX6_in_1 rfl (lv_at hl 1 rfl) ?_
  refine lv_icmp_lt (tgt := 14) hx hb dX6_in_2 (by decide) (fun cz1 => ?_) (fun cz1 => ?_)
  · refine lv_iconst (v := (nI 0)) hx hb dX6_in_14 (by decide +kernel) ?_
    exact mm_zret hx hb hlocks hr (by first | rfl | exact bI_nar _) (Nat.le_of_ble_eq_true rfl) (Nat.le_of_ble_eq_true rfl) hM (ret_f (inB_f1 cz1)) dX6_in_15
  refine lv_iload_n hx hb dX6_in_5 rfl (lv_at hl 0 rfl) ?_
  refine lv_iload_n hx hb dX6_in_6 rfl (lv_at hl 2 rfl) ?_
  refine lv_icmp_gt (tgt := 14) hx hb dX6_in_7 (by decide) (fun cz2 => ?_) (fun cz2 => ?_)
  · refine lv_iconst (v := (nI 0)) hx hb dX6_in_14 (by decide +kernel) ?_
    exact mm_zret hx hb hlocks hr (by first | rfl | exact bI_nar _) (Nat.le_of_ble_eq_true rfl) (Nat.le_of_ble_eq_true rfl) hM (ret_f (inB_f2 cz2)) dX6_in_15
  refine lv_iconst (v := (nI 1)) hx hb dX6_in_10 (by decide +kernel) ?_
  refine lv_goto (tgt := 15) hx hb dX6_in_11 (by decide) ?_
  exact mm_zret hx hb hlocks hr (by first | rfl | exact bI_nar _) (Nat.le_of_ble_eq_true rfl) (Nat.le_of_ble_eq_true rfl) hM (ret_t (inB_t cz1 cz2)) dX6_in_15
set_option maxHeartbeats 4000000 in
set_option maxRecDepth 100000 in
theorem c6_isSentence (l : Launch) (G : mG) {f : mE} {o : Nat} {a : Nat → Nat} {S P lo hi ou : Nat → Int32} {rc isr wd us ab gi wr wo : Int32} (hI : RI G f o a S P lo hi ou rc isr wd us ab gi wr wo) (k : Int32) : mC l G yX6_isSentence wsX6_isSentence ({ frames := 1, cells := 0, slots := 0, locals := 22 } : Room) f [.ref o, .int k] (fun v f1 => v = some (.int (bI (inB k 0 (S 56 - 1)))) ∧ f = f1) 0 0 := by
  refine mC.of (cc := cX6_isSentence) (maxL := 2) (ret := (some .boolean)) (by decide) rfl (Nat.le_of_ble_eq_true rfl) ?_
  intro pgm env s mt args below meth c A ls hx hb hml hr hlocks hown hname hts hK hE hA hM hl
  have hl : lv_has ls 2 [(0, .ref o), (1, .int k)] := hl
  refine lv_iload_n hx hb dX6_isSentence_0 rfl (lv_at hl 1 rfl) ?_
  refine lv_iconst (v := (nI 0)) hx hb dX6_isSentence_1 (by decide +kernel) ?_
  refine lv_aload_n hx hb dX6_isSentence_2 rfl (lv_at hl 0 rfl) ?_
  refine mm_get (C := RX6) (T := TX6) (N := 14) (k := 0) hx hb hts (fun _ h => List.mem_cons_of_mem _ (List.mem_append_right _ h)) hown hK hM (hI.obj) rfl (by decide) (hts (.fieldLink RX6 7 "SentenceRulesModel" "now" "[I") (List.mem_of_getElem? (i := 1) rfl)) rfl rfl dX6_isSentence_3 ?_
  refine lv_bipush (v := (nI 56)) hx hb dX6_isSentence_6 (by decide +kernel) ?_
  refine mn_iald hx hb hK hM (hI.now) 56 (by omega) (by decide) dX6_isSentence_8 ?_
  refine lv_iconst (v := (nI 1)) hx hb dX6_isSentence_9 (by decide +kernel) ?_
  refine lv_isub hx hb dX6_isSentence_10 ?_
  refine mm_S (As := [.int k, .int (nI 0), .int ((S 56) - (nI 1))]) (rest := []) ⟨hx, hb, hml, hown, hts⟩ (c6_in l G _ k (nI 0) ((S 56) - (nI 1))) (va_cwS 3 hts gX6_isSentence_X6_in rfl rfl rfl (by decide +kernel) ⟨Nat.le_of_ble_eq_true rfl, Nat.le_of_ble_eq_true rfl⟩) hK hE hA hM rfl hl.1 rfl (Nat.le_of_ble_eq_true rfl) dX6_isSentence_11 ⟨Nat.le_of_ble_eq_true rfl, Nat.le_of_ble_eq_true rfl⟩ (fun v f1 Hp lcs hp hM => ?_)
  obtain ⟨rfl, hf⟩ := hp; subst hf
  refine mv_top (y := (bI (inB k 0 ((S 56) - (nI 1))))) rfl ?_
  exact mm_zret hx hb hlocks hr (by first | rfl | exact bI_nar _) (Nat.le_of_ble_eq_true rfl) (Nat.le_of_ble_eq_true rfl) hM (⟨rfl, rfl⟩) dX6_isSentence_14
set_option maxHeartbeats 4000000 in
set_option maxRecDepth 100000 in
theorem c6_isFact (l : Launch) (G : mG) (f : mE) (k : Int32) : mC l G yX6_isFact wsX6_isFact ({ frames := 1, cells := 0, slots := 0, locals := 22 } : Room) f [.int k] (fun v f1 => v = some (.int (bI (inB k 0 6))) ∧ f = f1) 0 0 := by
  refine mC.of (cc := cX6_isFact) (maxL := 1) (ret := (some .boolean)) (by decide) rfl (Nat.le_of_ble_eq_true rfl) ?_
  intro pgm env s mt args below meth c A ls hx hb hml hr hlocks hown hname hts hK hE hA hM hl
  have hl : lv_has ls 1 [(0, .int k)] := hl
  refine lv_iload_n hx hb dX6_isFact_0 rfl (lv_at hl 0 rfl) ?_
  refine lv_iconst (v := (nI 0)) hx hb dX6_isFact_1 (by decide +kernel) ?_
  refine lv_bipush (v := (nI 6)) hx hb dX6_isFact_2 (by decide +kernel) ?_
  refine mm_S (As := [.int k, .int (nI 0), .int (nI 6)]) (rest := []) ⟨hx, hb, hml, hown, hts⟩ (c6_in l G _ k (nI 0) (nI 6)) (va_cwS 3 hts gX6_isFact_X6_in rfl rfl rfl (by decide +kernel) ⟨Nat.le_of_ble_eq_true rfl, Nat.le_of_ble_eq_true rfl⟩) hK hE hA hM rfl hl.1 rfl (Nat.le_of_ble_eq_true rfl) dX6_isFact_4 ⟨Nat.le_of_ble_eq_true rfl, Nat.le_of_ble_eq_true rfl⟩ (fun v f1 Hp lcs hp hM => ?_)
  obtain ⟨rfl, hf⟩ := hp; subst hf
  refine mv_top (y := (bI (inB k 0 6))) rfl ?_
  exact mm_zret hx hb hlocks hr (by first | rfl | exact bI_nar _) (Nat.le_of_ble_eq_true rfl) (Nat.le_of_ble_eq_true rfl) hM (⟨rfl, rfl⟩) dX6_isFact_7
set_option maxHeartbeats 4000000 in
set_option maxRecDepth 100000 in
theorem c6_isResult (l : Launch) (G : mG) (f : mE) (k : Int32) : mC l G yX6_isResult wsX6_isResult ({ frames := 1, cells := 0, slots := 0, locals := 22 } : Room) f [.int k] (fun v f1 => v = some (.int (bI (inB k 0 3))) ∧ f = f1) 0 0 := by
  refine mC.of (cc := cX6_isResult) (maxL := 1) (ret := (some .boolean)) (by decide) rfl (Nat.le_of_ble_eq_true rfl) ?_
  intro pgm env s mt args below meth c A ls hx hb hml hr hlocks hown hname hts hK hE hA hM hl
  have hl : lv_has ls 1 [(0, .int k)] := hl
  refine lv_iload_n hx hb dX6_isResult_0 rfl (lv_at hl 0 rfl) ?_
  refine lv_iconst (v := (nI 0)) hx hb dX6_isResult_1 (by decide +kernel) ?_
  refine lv_iconst (v := (nI 3)) hx hb dX6_isResult_2 (by decide +kernel) ?_
  refine mm_S (As := [.int k, .int (nI 0), .int (nI 3)]) (rest := []) ⟨hx, hb, hml, hown, hts⟩ (c6_in l G _ k (nI 0) (nI 3)) (va_cwS 3 hts gX6_isResult_X6_in rfl rfl rfl (by decide +kernel) ⟨Nat.le_of_ble_eq_true rfl, Nat.le_of_ble_eq_true rfl⟩) hK hE hA hM rfl hl.1 rfl (Nat.le_of_ble_eq_true rfl) dX6_isResult_3 ⟨Nat.le_of_ble_eq_true rfl, Nat.le_of_ble_eq_true rfl⟩ (fun v f1 Hp lcs hp hM => ?_)
  obtain ⟨rfl, hf⟩ := hp; subst hf
  refine mv_top (y := (bI (inB k 0 3))) rfl ?_
  exact mm_zret hx hb hlocks hr (by first | rfl | exact bI_nar _) (Nat.le_of_ble_eq_true rfl) (Nat.le_of_ble_eq_true rfl) hM (⟨rfl, rfl⟩) dX6_isResult_6
set_option maxHeartbeats 4000000 in
set_option maxRecDepth 100000 in
theorem c6_leastOf (l : Launch) (G : mG) (f : mE) (k : Int32) : mC l G yX6_leastOf wsX6_leastOf ({ frames := 0, cells := 0, slots := 0, locals := 0 } : Room) f [.int k] (fun v f1 => v = some (.int (leastF k)) ∧ f = f1) 0 0 := by
  refine mC.of (cc := cX6_leastOf) (maxL := 1) (ret := (some .int)) (by decide) rfl (Nat.le_of_ble_eq_true rfl) ?_
  intro pgm env s mt args below meth c A ls hx hb hml hr hlocks hown hname hts hK hE hA hM hl
  have hl : lv_has ls 1 [(0, .int k)] := hl
  refine lv_iload_n hx hb dX6_leastOf_0 rfl (lv_at hl 0 rfl) ?_
  refine lv_iconst (v := (nI 4)) hx hb dX6_leastOf_1 (by decide +kernel) ?_
  refine lv_icmp_ge (tgt := 11) hx hb dX6_leastOf_2 (by decide) (fun cz1 => ?_) (fun cz1 => ?_)
  · refine lv_iconst (v := (nI 0)) hx hb dX6_leastOf_11 (by decide +kernel) ?_
    exact mm_iret hx hb hlocks hr (Nat.le_of_ble_eq_true rfl) (Nat.le_of_ble_eq_true rfl) hM (ret_v (by simp_all [leastF, nI_lit])) dX6_leastOf_12
  refine lv_sipush (v := (-9999)) hx hb dX6_leastOf_5 (by decide +kernel) ?_
  refine lv_goto (tgt := 12) hx hb dX6_leastOf_8 (by decide) ?_
  exact mm_iret hx hb hlocks hr (Nat.le_of_ble_eq_true rfl) (Nat.le_of_ble_eq_true rfl) hM (ret_v (by simp_all [leastF, nI_lit])) dX6_leastOf_12
set_option maxHeartbeats 4000000 in
set_option maxRecDepth 100000 in
theorem c6_greatestOf (l : Launch) (G : mG) (f : mE) (k : Int32) : mC l G yX6_greatestOf wsX6_greatestOf ({ frames := 0, cells := 0, slots := 0, locals := 0 } : Room) f [.int k] (fun v f1 => v = some (.int (greatestF k)) ∧ f = f1) 0 0 := by
  refine mC.of (cc := cX6_greatestOf) (maxL := 1) (ret := (some .int)) (by decide) rfl (Nat.le_of_ble_eq_true rfl) ?_
  intro pgm env s mt args below meth c A ls hx hb hml hr hlocks hown hname hts hK hE hA hM hl
  have hl : lv_has ls 1 [(0, .int k)] := hl
  refine lv_iload_n hx hb dX6_greatestOf_0 rfl (lv_at hl 0 rfl) ?_
  refine lv_iconst (v := (nI 4)) hx hb dX6_greatestOf_1 (by decide +kernel) ?_
  refine lv_icmp_ge (tgt := 11) hx hb dX6_greatestOf_2 (by decide) (fun cz1 => ?_) (fun cz1 => ?_)
  · refine lv_ldc (v := (nI 73048)) hx hb hown (hts (.constant RX6 46 (73048)) (List.mem_of_getElem? (i := 1) rfl)) dX6_greatestOf_11 ?_
    exact mm_iret hx hb hlocks hr (Nat.le_of_ble_eq_true rfl) (Nat.le_of_ble_eq_true rfl) hM (ret_v (by simp_all [greatestF, nI_lit])) dX6_greatestOf_13
  refine lv_sipush (v := (nI 9999)) hx hb dX6_greatestOf_5 (by decide +kernel) ?_
  refine lv_goto (tgt := 13) hx hb dX6_greatestOf_8 (by decide) ?_
  exact mm_iret hx hb hlocks hr (Nat.le_of_ble_eq_true rfl) (Nat.le_of_ble_eq_true rfl) hM (ret_v (by simp_all [greatestF, nI_lit])) dX6_greatestOf_13
set_option maxHeartbeats 4000000 in
set_option maxRecDepth 100000 in
theorem c6_of (l : Launch) (G : mG) {f : mE} {o : Nat} {a : Nat → Nat} {S P lo hi ou : Nat → Int32} {rc isr wd us ab gi wr wo : Int32} (hI : RI G f o a S P lo hi ou rc isr wd us ab gi wr wo) (k w : Nat) (hk : 57 + 66 * k + w < 1113) : mC l G yX6_of wsX6_of ({ frames := 0, cells := 0, slots := 0, locals := 0 } : Room) f [.ref o, .int (nI k), .int (nI w)] (fun v f1 => v = some (.int (S (57 + 66 * k + w))) ∧ f = f1) 0 0 := by
  refine mC.of (cc := cX6_of) (maxL := 3) (ret := (some .int)) (by decide) rfl (Nat.le_of_ble_eq_true rfl) ?_
  intro pgm env s mt args below meth c A ls hx hb hml hr hlocks hown hname hts hK hE hA hM hl
  have hl : lv_has ls 3 [(0, .ref o), (1, .int (nI k)), (2, .int (nI w))] := hl
  refine lv_aload_n hx hb dX6_of_0 rfl (lv_at hl 0 rfl) ?_
  refine mm_get (C := RX6) (T := TX6) (N := 14) (k := 0) hx hb hts (fun _ h => List.mem_cons_of_mem _ (List.mem_append_right _ h)) hown hK hM (hI.obj) rfl (by decide) (hts (.fieldLink RX6 7 "SentenceRulesModel" "now" "[I") (List.mem_of_getElem? (i := 1) rfl)) rfl rfl dX6_of_1 ?_
  refine lv_bipush (v := (nI 57)) hx hb dX6_of_4 (by decide +kernel) ?_
  refine lv_bipush (v := (nI 66)) hx hb dX6_of_6 (by decide +kernel) ?_
  refine lv_iload_n hx hb dX6_of_8 rfl (lv_at hl 1 rfl) ?_
  refine ln_imul 66 k hx hb dX6_of_9 ?_
  refine ln_iadd 57 (66 * k) hx hb dX6_of_10 ?_
  refine lv_iload_n hx hb dX6_of_11 rfl (lv_at hl 2 rfl) ?_
  refine ln_iadd (57 + (66 * k)) w hx hb dX6_of_12 ?_
  refine mn_iald hx hb hK hM (hI.now) ((57 + (66 * k)) + w) (by omega) (by decide) dX6_of_13 ?_
  exact mm_iret hx hb hlocks hr (Nat.le_of_ble_eq_true rfl) (Nat.le_of_ble_eq_true rfl) hM (⟨rfl, rfl⟩) dX6_of_14
set_option maxHeartbeats 4000000 in
set_option maxRecDepth 100000 in
theorem c6_isLeap (l : Launch) (G : mG) (f : mE) (y : Int32) : mC l G yX6_isLeap wsX6_isLeap ({ frames := 0, cells := 0, slots := 0, locals := 0 } : Room) f [.int y] (fun v f1 => v = some (.int (bI (leapB y))) ∧ f = f1) 0 0 := by
  refine mC.of (cc := cX6_isLeap) (maxL := 1) (ret := (some .boolean)) (by decide) rfl (Nat.le_of_ble_eq_true rfl) ?_
  intro pgm env s mt args below meth c A ls hx hb hml hr hlocks hown hname hts hK hE hA hM hl
  have hl : lv_has ls 1 [(0, .int y)] := hl
  refine lv_iload_n hx hb dX6_isLeap_0 rfl (lv_at hl 0 rfl) ?_
  refine lv_iconst (v := (nI 4)) hx hb dX6_isLeap_1 (by decide +kernel) ?_
  refine lv_irem hx hb dX6_isLeap_2 (by decide) ?_
  refine lv_if_ne (tgt := 13) hx hb dX6_isLeap_3 (by decide) (fun cz1 => ?_) (fun cz1 => ?_)
  · refine lv_iload_n hx hb dX6_isLeap_13 rfl (lv_at hl 0 rfl) ?_
    refine lv_sipush (v := (nI 400)) hx hb dX6_isLeap_14 (by decide +kernel) ?_
    refine lv_irem hx hb dX6_isLeap_17 (by decide) ?_
    refine lv_if_ne (tgt := 25) hx hb dX6_isLeap_18 (by decide) (fun cz2 => ?_) (fun cz2 => ?_)
    · refine lv_iconst (v := (nI 0)) hx hb dX6_isLeap_25 (by decide +kernel) ?_
      exact mm_zret hx hb hlocks hr (by first | rfl | exact bI_nar _) (Nat.le_of_ble_eq_true rfl) (Nat.le_of_ble_eq_true rfl) hM (ret_f (by simp_all [leapB, nI_lit])) dX6_isLeap_26
    refine lv_iconst (v := (nI 1)) hx hb dX6_isLeap_21 (by decide +kernel) ?_
    refine lv_goto (tgt := 26) hx hb dX6_isLeap_22 (by decide) ?_
    exact mm_zret hx hb hlocks hr (by first | rfl | exact bI_nar _) (Nat.le_of_ble_eq_true rfl) (Nat.le_of_ble_eq_true rfl) hM (ret_t (by simp_all [leapB, nI_lit])) dX6_isLeap_26
  refine lv_iload_n hx hb dX6_isLeap_6 rfl (lv_at hl 0 rfl) ?_
  refine lv_bipush (v := (nI 100)) hx hb dX6_isLeap_7 (by decide +kernel) ?_
  refine lv_irem hx hb dX6_isLeap_9 (by decide) ?_
  refine lv_if_ne (tgt := 21) hx hb dX6_isLeap_10 (by decide) (fun cz3 => ?_) (fun cz3 => ?_)
  · refine lv_iconst (v := (nI 1)) hx hb dX6_isLeap_21 (by decide +kernel) ?_
    refine lv_goto (tgt := 26) hx hb dX6_isLeap_22 (by decide) ?_
    exact mm_zret hx hb hlocks hr (by first | rfl | exact bI_nar _) (Nat.le_of_ble_eq_true rfl) (Nat.le_of_ble_eq_true rfl) hM (ret_t (by simp_all [leapB, nI_lit])) dX6_isLeap_26
  refine lv_iload_n hx hb dX6_isLeap_13 rfl (lv_at hl 0 rfl) ?_
  refine lv_sipush (v := (nI 400)) hx hb dX6_isLeap_14 (by decide +kernel) ?_
  refine lv_irem hx hb dX6_isLeap_17 (by decide) ?_
  refine lv_if_ne (tgt := 25) hx hb dX6_isLeap_18 (by decide) (fun cz4 => ?_) (fun cz4 => ?_)
  · refine lv_iconst (v := (nI 0)) hx hb dX6_isLeap_25 (by decide +kernel) ?_
    exact mm_zret hx hb hlocks hr (by first | rfl | exact bI_nar _) (Nat.le_of_ble_eq_true rfl) (Nat.le_of_ble_eq_true rfl) hM (ret_f (by simp_all [leapB, nI_lit])) dX6_isLeap_26
  refine lv_iconst (v := (nI 1)) hx hb dX6_isLeap_21 (by decide +kernel) ?_
  refine lv_goto (tgt := 26) hx hb dX6_isLeap_22 (by decide) ?_
  exact mm_zret hx hb hlocks hr (by first | rfl | exact bI_nar _) (Nat.le_of_ble_eq_true rfl) (Nat.le_of_ble_eq_true rfl) hM (ret_t (by simp_all [leapB, nI_lit])) dX6_isLeap_26
set_option maxHeartbeats 4000000 in
set_option maxRecDepth 100000 in
theorem c6_daysOf (l : Launch) (G : mG) (f : mE) (y k : Int32) : mC l G yX6_daysOf wsX6_daysOf ({ frames := 1, cells := 0, slots := 0, locals := 20 } : Room) f [.int y, .int k] (fun v f1 => v = some (.int (daysF y k)) ∧ f = f1) 0 0 := by
  refine mC.of (cc := cX6_daysOf) (maxL := 2) (ret := (some .int)) (by decide) rfl (Nat.le_of_ble_eq_true rfl) ?_
  intro pgm env s mt args below meth c A ls hx hb hml hr hlocks hown hname hts hK hE hA hM hl
  have hl : lv_has ls 2 [(0, .int y), (1, .int k)] := hl
  refine lv_iload_n hx hb dX6_daysOf_0 rfl (lv_at hl 1 rfl) ?_
  refine lv_iconst (v := (nI 2)) hx hb dX6_daysOf_1 (by decide +kernel) ?_
  refine lv_icmp_ne (tgt := 22) hx hb dX6_daysOf_2 (by decide) (fun cz1 => ?_) (fun cz1 => ?_)
  · refine lv_iload_n hx hb dX6_daysOf_22 rfl (lv_at hl 1 rfl) ?_
    refine lv_iconst (v := (nI 4)) hx hb dX6_daysOf_23 (by decide +kernel) ?_
    refine lv_icmp_eq (tgt := 45) hx hb dX6_daysOf_24 (by decide) (fun cz2 => ?_) (fun cz2 => ?_)
    · refine lv_bipush (v := (nI 30)) hx hb dX6_daysOf_45 (by decide +kernel) ?_
      refine lv_goto (tgt := 52) hx hb dX6_daysOf_47 (by decide) ?_
      exact mm_iret hx hb hlocks hr (Nat.le_of_ble_eq_true rfl) (Nat.le_of_ble_eq_true rfl) hM (ret_v (by simp_all [daysF, nI_lit])) dX6_daysOf_52
    refine lv_iload_n hx hb dX6_daysOf_27 rfl (lv_at hl 1 rfl) ?_
    refine lv_bipush (v := (nI 6)) hx hb dX6_daysOf_28 (by decide +kernel) ?_
    refine lv_icmp_eq (tgt := 45) hx hb dX6_daysOf_30 (by decide) (fun cz3 => ?_) (fun cz3 => ?_)
    · refine lv_bipush (v := (nI 30)) hx hb dX6_daysOf_45 (by decide +kernel) ?_
      refine lv_goto (tgt := 52) hx hb dX6_daysOf_47 (by decide) ?_
      exact mm_iret hx hb hlocks hr (Nat.le_of_ble_eq_true rfl) (Nat.le_of_ble_eq_true rfl) hM (ret_v (by simp_all [daysF, nI_lit])) dX6_daysOf_52
    refine lv_iload_n hx hb dX6_daysOf_33 rfl (lv_at hl 1 rfl) ?_
    refine lv_bipush (v := (nI 9)) hx hb dX6_daysOf_34 (by decide +kernel) ?_
    refine lv_icmp_eq (tgt := 45) hx hb dX6_daysOf_36 (by decide) (fun cz4 => ?_) (fun cz4 => ?_)
    · refine lv_bipush (v := (nI 30)) hx hb dX6_daysOf_45 (by decide +kernel) ?_
      refine lv_goto (tgt := 52) hx hb dX6_daysOf_47 (by decide) ?_
      exact mm_iret hx hb hlocks hr (Nat.le_of_ble_eq_true rfl) (Nat.le_of_ble_eq_true rfl) hM (ret_v (by simp_all [daysF, nI_lit])) dX6_daysOf_52
    refine lv_iload_n hx hb dX6_daysOf_39 rfl (lv_at hl 1 rfl) ?_
    refine lv_bipush (v := (nI 11)) hx hb dX6_daysOf_40 (by decide +kernel) ?_
    refine lv_icmp_ne (tgt := 50) hx hb dX6_daysOf_42 (by decide) (fun cz5 => ?_) (fun cz5 => ?_)
    · refine lv_bipush (v := (nI 31)) hx hb dX6_daysOf_50 (by decide +kernel) ?_
      exact mm_iret hx hb hlocks hr (Nat.le_of_ble_eq_true rfl) (Nat.le_of_ble_eq_true rfl) hM (ret_v (by simp_all [daysF, nI_lit])) dX6_daysOf_52
    refine lv_bipush (v := (nI 30)) hx hb dX6_daysOf_45 (by decide +kernel) ?_
    refine lv_goto (tgt := 52) hx hb dX6_daysOf_47 (by decide) ?_
    exact mm_iret hx hb hlocks hr (Nat.le_of_ble_eq_true rfl) (Nat.le_of_ble_eq_true rfl) hM (ret_v (by simp_all [daysF, nI_lit])) dX6_daysOf_52
  refine lv_iload_n hx hb dX6_daysOf_5 rfl (lv_at hl 0 rfl) ?_
  refine mm_S (As := [.int y]) (rest := []) ⟨hx, hb, hml, hown, hts⟩ (c6_isLeap l G _ y) (va_cwS 1 hts gX6_daysOf_X6_isLeap rfl rfl rfl (by decide +kernel) ⟨Nat.le_of_ble_eq_true rfl, Nat.le_of_ble_eq_true rfl⟩) hK hE hA hM rfl hl.1 rfl (Nat.le_of_ble_eq_true rfl) dX6_daysOf_6 ⟨Nat.le_of_ble_eq_true rfl, Nat.le_of_ble_eq_true rfl⟩ (fun v f1 Hp lcs hp hM => ?_)
  obtain ⟨rfl, hf⟩ := hp; subst hf
  refine lvb_eq (tgt := 17) hx hb dX6_daysOf_9 (by decide) (fun cz6 => ?_) (fun cz6 => ?_)
  · refine lv_bipush (v := (nI 28)) hx hb dX6_daysOf_17 (by decide +kernel) ?_
    refine lv_goto (tgt := 52) hx hb dX6_daysOf_19 (by decide) ?_
    exact mm_iret hx hb hlocks hr (Nat.le_of_ble_eq_true rfl) (Nat.le_of_ble_eq_true rfl) hM (ret_v (by simp_all [daysF, nI_lit])) dX6_daysOf_52
  refine lv_bipush (v := (nI 29)) hx hb dX6_daysOf_12 (by decide +kernel) ?_
  refine lv_goto (tgt := 52) hx hb dX6_daysOf_14 (by decide) ?_
  exact mm_iret hx hb hlocks hr (Nat.le_of_ble_eq_true rfl) (Nat.le_of_ble_eq_true rfl) hM (ret_v (by simp_all [daysF, nI_lit])) dX6_daysOf_52
set_option maxHeartbeats 4000000 in
set_option maxRecDepth 100000 in
theorem c6_isDate (l : Launch) (G : mG) (f : mE) (x y z : Int32) : mC l G yX6_isDate wsX6_isDate ({ frames := 2, cells := 0, slots := 0, locals := 41 } : Room) f [.int x, .int y, .int z] (fun v f1 => v = some (.int (bI (dateB x y z))) ∧ f = f1) 0 0 := by
  refine mC.of (cc := cX6_isDate) (maxL := 3) (ret := (some .boolean)) (by decide) rfl (Nat.le_of_ble_eq_true rfl) ?_
  intro pgm env s mt args below meth c A ls hx hb hml hr hlocks hown hname hts hK hE hA hM hl
  have hl : lv_has ls 3 [(0, .int x), (1, .int y), (2, .int z)] := hl
  refine lv_iload_n hx hb dX6_isDate_0 rfl (lv_at hl 0 rfl) ?_
  refine lv_sipush (v := (nI 1900)) hx hb dX6_isDate_1 (by decide +kernel) ?_
  refine lv_sipush (v := (nI 2099)) hx hb dX6_isDate_4 (by decide +kernel) ?_
  refine mm_S (As := [.int x, .int (nI 1900), .int (nI 2099)]) (rest := []) ⟨hx, hb, hml, hown, hts⟩ (c6_in l G _ x (nI 1900) (nI 2099)) (va_cwS 3 hts gX6_isDate_X6_in rfl rfl rfl (by decide +kernel) ⟨Nat.le_of_ble_eq_true rfl, Nat.le_of_ble_eq_true rfl⟩) hK hE hA hM rfl hl.1 rfl (Nat.le_of_ble_eq_true rfl) dX6_isDate_7 ⟨Nat.le_of_ble_eq_true rfl, Nat.le_of_ble_eq_true rfl⟩ (fun v f1 Hp lcs hp hM => ?_)
  obtain ⟨rfl, hf⟩ := hp; subst hf
  refine mv_top (y := (bI (inB x 1900 2099))) rfl ?_
  refine lvb_eq (tgt := 40) hx hb dX6_isDate_10 (by decide) (fun cz1 => ?_) (fun cz1 => ?_)
  · refine lv_iconst (v := (nI 0)) hx hb dX6_isDate_40 (by decide +kernel) ?_
    exact mm_zret hx hb hlocks hr (by first | rfl | exact bI_nar _) (Nat.le_of_ble_eq_true rfl) (Nat.le_of_ble_eq_true rfl) hM (ret_f (by simp_all [dateB, nI_lit])) dX6_isDate_41
  refine lv_iload_n hx hb dX6_isDate_13 rfl (lv_at hl 1 rfl) ?_
  refine lv_iconst (v := (nI 1)) hx hb dX6_isDate_14 (by decide +kernel) ?_
  refine lv_bipush (v := (nI 12)) hx hb dX6_isDate_15 (by decide +kernel) ?_
  refine mm_S (As := [.int y, .int (nI 1), .int (nI 12)]) (rest := []) ⟨hx, hb, hml, hown, hts⟩ (c6_in l G _ y (nI 1) (nI 12)) (va_cwS 3 hts gX6_isDate_X6_in rfl rfl rfl (by decide +kernel) ⟨Nat.le_of_ble_eq_true rfl, Nat.le_of_ble_eq_true rfl⟩) hK hE hA hM rfl hl.1 rfl (Nat.le_of_ble_eq_true rfl) dX6_isDate_17 ⟨Nat.le_of_ble_eq_true rfl, Nat.le_of_ble_eq_true rfl⟩ (fun v f1 Hp lcs hp hM => ?_)
  obtain ⟨rfl, hf⟩ := hp; subst hf
  refine mv_top (y := (bI (inB y 1 12))) rfl ?_
  refine lvb_eq (tgt := 40) hx hb dX6_isDate_20 (by decide) (fun cz2 => ?_) (fun cz2 => ?_)
  · refine lv_iconst (v := (nI 0)) hx hb dX6_isDate_40 (by decide +kernel) ?_
    exact mm_zret hx hb hlocks hr (by first | rfl | exact bI_nar _) (Nat.le_of_ble_eq_true rfl) (Nat.le_of_ble_eq_true rfl) hM (ret_f (by simp_all [dateB, nI_lit])) dX6_isDate_41
  refine lv_iload_n hx hb dX6_isDate_23 rfl (lv_at hl 2 rfl) ?_
  refine lv_iconst (v := (nI 1)) hx hb dX6_isDate_24 (by decide +kernel) ?_
  refine lv_iload_n hx hb dX6_isDate_25 rfl (lv_at hl 0 rfl) ?_
  refine lv_iload_n hx hb dX6_isDate_26 rfl (lv_at hl 1 rfl) ?_
  refine mm_S (As := [.int x, .int y]) (rest := [.int (nI 1), .int z]) ⟨hx, hb, hml, hown, hts⟩ (c6_daysOf l G _ x y) (va_cwS 2 hts gX6_isDate_X6_daysOf rfl rfl rfl (by decide +kernel) ⟨Nat.le_of_ble_eq_true rfl, Nat.le_of_ble_eq_true rfl⟩) hK hE hA hM rfl hl.1 rfl (Nat.le_of_ble_eq_true rfl) dX6_isDate_27 ⟨Nat.le_of_ble_eq_true rfl, Nat.le_of_ble_eq_true rfl⟩ (fun v f1 Hp lcs hp hM => ?_)
  obtain ⟨rfl, hf⟩ := hp; subst hf
  refine mm_S (As := [.int z, .int (nI 1), .int (daysF x y)]) (rest := []) ⟨hx, hb, hml, hown, hts⟩ (c6_in l G _ z (nI 1) (daysF x y)) (va_cwS 3 hts gX6_isDate_X6_in rfl rfl rfl (by decide +kernel) ⟨Nat.le_of_ble_eq_true rfl, Nat.le_of_ble_eq_true rfl⟩) hK hE hA hM rfl hl.1 rfl (Nat.le_of_ble_eq_true rfl) dX6_isDate_30 ⟨Nat.le_of_ble_eq_true rfl, Nat.le_of_ble_eq_true rfl⟩ (fun v f1 Hp lcs hp hM => ?_)
  obtain ⟨rfl, hf⟩ := hp; subst hf
  refine mv_top (y := (bI (inB z 1 (daysF x y)))) rfl ?_
  refine lvb_eq (tgt := 40) hx hb dX6_isDate_33 (by decide) (fun cz3 => ?_) (fun cz3 => ?_)
  · refine lv_iconst (v := (nI 0)) hx hb dX6_isDate_40 (by decide +kernel) ?_
    exact mm_zret hx hb hlocks hr (by first | rfl | exact bI_nar _) (Nat.le_of_ble_eq_true rfl) (Nat.le_of_ble_eq_true rfl) hM (ret_f (by simp_all [dateB, nI_lit])) dX6_isDate_41
  refine lv_iconst (v := (nI 1)) hx hb dX6_isDate_36 (by decide +kernel) ?_
  refine lv_goto (tgt := 41) hx hb dX6_isDate_37 (by decide) ?_
  exact mm_zret hx hb hlocks hr (by first | rfl | exact bI_nar _) (Nat.le_of_ble_eq_true rfl) (Nat.le_of_ble_eq_true rfl) hM (ret_t (by simp_all [dateB, nI_lit])) dX6_isDate_41
set_option maxHeartbeats 4000000 in
set_option maxRecDepth 100000 in
theorem c6_kindAt (l : Launch) (G : mG) {f : mE} {o : Nat} {a : Nat → Nat} {S P lo hi ou : Nat → Int32} {rc isr wd us ab gi wr wo : Int32} (hI : RI G f o a S P lo hi ou rc isr wd us ab gi wr wo) (k : Nat) (hk : 8 + k < 1113) : mC l G yX6_kindAt wsX6_kindAt ({ frames := 0, cells := 0, slots := 0, locals := 0 } : Room) f [.ref o, .int (nI k)] (fun v f1 => v = some (.int (S (7 + 1 + k))) ∧ f = f1) 0 0 := by
  refine mC.of (cc := cX6_kindAt) (maxL := 2) (ret := (some .int)) (by decide) rfl (Nat.le_of_ble_eq_true rfl) ?_
  intro pgm env s mt args below meth c A ls hx hb hml hr hlocks hown hname hts hK hE hA hM hl
  have hl : lv_has ls 2 [(0, .ref o), (1, .int (nI k))] := hl
  refine lv_aload_n hx hb dX6_kindAt_0 rfl (lv_at hl 0 rfl) ?_
  refine mm_get (C := RX6) (T := TX6) (N := 14) (k := 0) hx hb hts (fun _ h => List.mem_cons_of_mem _ (List.mem_append_right _ h)) hown hK hM (hI.obj) rfl (by decide) (hts (.fieldLink RX6 7 "SentenceRulesModel" "now" "[I") (List.mem_of_getElem? (i := 1) rfl)) rfl rfl dX6_kindAt_1 ?_
  refine lv_bipush (v := (nI 8)) hx hb dX6_kindAt_4 (by decide +kernel) ?_
  refine lv_iload_n hx hb dX6_kindAt_6 rfl (lv_at hl 1 rfl) ?_
  refine ln_iadd 8 k hx hb dX6_kindAt_7 ?_
  refine mn_iald hx hb hK hM (hI.now) (8 + k) (by omega) (by decide) dX6_kindAt_8 ?_
  exact mm_iret hx hb hlocks hr (Nat.le_of_ble_eq_true rfl) (Nat.le_of_ble_eq_true rfl) hM (⟨rfl, rfl⟩) dX6_kindAt_9
set_option maxHeartbeats 4000000 in
set_option maxRecDepth 100000 in
theorem c6_valueAt (l : Launch) (G : mG) {f : mE} {o : Nat} {a : Nat → Nat} {S P lo hi ou : Nat → Int32} {rc isr wd us ab gi wr wo : Int32} (hI : RI G f o a S P lo hi ou rc isr wd us ab gi wr wo) (k : Nat) (hk : 32 + k < 1113) : mC l G yX6_valueAt wsX6_valueAt ({ frames := 0, cells := 0, slots := 0, locals := 0 } : Room) f [.ref o, .int (nI k)] (fun v f1 => v = some (.int (S (7 + 25 + k))) ∧ f = f1) 0 0 := by
  refine mC.of (cc := cX6_valueAt) (maxL := 2) (ret := (some .int)) (by decide) rfl (Nat.le_of_ble_eq_true rfl) ?_
  intro pgm env s mt args below meth c A ls hx hb hml hr hlocks hown hname hts hK hE hA hM hl
  have hl : lv_has ls 2 [(0, .ref o), (1, .int (nI k))] := hl
  refine lv_aload_n hx hb dX6_valueAt_0 rfl (lv_at hl 0 rfl) ?_
  refine mm_get (C := RX6) (T := TX6) (N := 14) (k := 0) hx hb hts (fun _ h => List.mem_cons_of_mem _ (List.mem_append_right _ h)) hown hK hM (hI.obj) rfl (by decide) (hts (.fieldLink RX6 7 "SentenceRulesModel" "now" "[I") (List.mem_of_getElem? (i := 1) rfl)) rfl rfl dX6_valueAt_1 ?_
  refine lv_bipush (v := (nI 32)) hx hb dX6_valueAt_4 (by decide +kernel) ?_
  refine lv_iload_n hx hb dX6_valueAt_6 rfl (lv_at hl 1 rfl) ?_
  refine ln_iadd 32 k hx hb dX6_valueAt_7 ?_
  refine mn_iald hx hb hK hM (hI.now) (32 + k) (by omega) (by decide) dX6_valueAt_8 ?_
  exact mm_iret hx hb hlocks hr (Nat.le_of_ble_eq_true rfl) (Nat.le_of_ble_eq_true rfl) hM (⟨rfl, rfl⟩) dX6_valueAt_9
set_option maxHeartbeats 4000000 in
set_option maxRecDepth 100000 in
theorem c6_isValue (l : Launch) (G : mG) (f : mE) (k x : Int32) : mC l G yX6_isValue wsX6_isValue ({ frames := 2, cells := 0, slots := 0, locals := 42 } : Room) f [.int k, .int x] (fun v f1 => v = some (.int (bI (valB k x))) ∧ f = f1) 0 0 := by
  refine mC.of (cc := cX6_isValue) (maxL := 2) (ret := (some .boolean)) (by decide) rfl (Nat.le_of_ble_eq_true rfl) ?_
  intro pgm env s mt args below meth c A ls hx hb hml hr hlocks hown hname hts hK hE hA hM hl
  have hl : lv_has ls 2 [(0, .int k), (1, .int x)] := hl
  refine lv_iload_n hx hb dX6_isValue_0 rfl (lv_at hl 0 rfl) ?_
  refine mm_S (As := [.int k]) (rest := []) ⟨hx, hb, hml, hown, hts⟩ (c6_isFact l G _ k) (va_cwS 1 hts gX6_isValue_X6_isFact rfl rfl rfl (by decide +kernel) ⟨Nat.le_of_ble_eq_true rfl, Nat.le_of_ble_eq_true rfl⟩) hK hE hA hM rfl hl.1 rfl (Nat.le_of_ble_eq_true rfl) dX6_isValue_1 ⟨Nat.le_of_ble_eq_true rfl, Nat.le_of_ble_eq_true rfl⟩ (fun v f1 Hp lcs hp hM => ?_)
  obtain ⟨rfl, hf⟩ := hp; subst hf
  refine lvb_eq (tgt := 26) hx hb dX6_isValue_4 (by decide) (fun cz1 => ?_) (fun cz1 => ?_)
  · refine lv_iconst (v := (nI 0)) hx hb dX6_isValue_26 (by decide +kernel) ?_
    exact mm_zret hx hb hlocks hr (by first | rfl | exact bI_nar _) (Nat.le_of_ble_eq_true rfl) (Nat.le_of_ble_eq_true rfl) hM (ret_f (by simp_all [valB, nI_lit])) dX6_isValue_27
  refine lv_iload_n hx hb dX6_isValue_7 rfl (lv_at hl 1 rfl) ?_
  refine lv_iload_n hx hb dX6_isValue_8 rfl (lv_at hl 0 rfl) ?_
  refine mm_S (As := [.int k]) (rest := [.int x]) ⟨hx, hb, hml, hown, hts⟩ (c6_leastOf l G _ k) (va_cwS 1 hts gX6_isValue_X6_leastOf rfl rfl rfl (by decide +kernel) ⟨Nat.le_of_ble_eq_true rfl, Nat.le_of_ble_eq_true rfl⟩) hK hE hA hM rfl hl.1 rfl (Nat.le_of_ble_eq_true rfl) dX6_isValue_9 ⟨Nat.le_of_ble_eq_true rfl, Nat.le_of_ble_eq_true rfl⟩ (fun v f1 Hp lcs hp hM => ?_)
  obtain ⟨rfl, hf⟩ := hp; subst hf
  refine lv_iload_n hx hb dX6_isValue_12 rfl (lv_at hl 0 rfl) ?_
  refine mm_S (As := [.int k]) (rest := [.int (leastF k), .int x]) ⟨hx, hb, hml, hown, hts⟩ (c6_greatestOf l G _ k) (va_cwS 1 hts gX6_isValue_X6_greatestOf rfl rfl rfl (by decide +kernel) ⟨Nat.le_of_ble_eq_true rfl, Nat.le_of_ble_eq_true rfl⟩) hK hE hA hM rfl hl.1 rfl (Nat.le_of_ble_eq_true rfl) dX6_isValue_13 ⟨Nat.le_of_ble_eq_true rfl, Nat.le_of_ble_eq_true rfl⟩ (fun v f1 Hp lcs hp hM => ?_)
  obtain ⟨rfl, hf⟩ := hp; subst hf
  refine mm_S (As := [.int x, .int (leastF k), .int (greatestF k)]) (rest := []) ⟨hx, hb, hml, hown, hts⟩ (c6_in l G _ x (leastF k) (greatestF k)) (va_cwS 3 hts gX6_isValue_X6_in rfl rfl rfl (by decide +kernel) ⟨Nat.le_of_ble_eq_true rfl, Nat.le_of_ble_eq_true rfl⟩) hK hE hA hM rfl hl.1 rfl (Nat.le_of_ble_eq_true rfl) dX6_isValue_16 ⟨Nat.le_of_ble_eq_true rfl, Nat.le_of_ble_eq_true rfl⟩ (fun v f1 Hp lcs hp hM => ?_)
  obtain ⟨rfl, hf⟩ := hp; subst hf
  refine mv_top (y := (bI (inB x (leastF k) (greatestF k)))) rfl ?_
  refine lvb_eq (tgt := 26) hx hb dX6_isValue_19 (by decide) (fun cz2 => ?_) (fun cz2 => ?_)
  · refine lv_iconst (v := (nI 0)) hx hb dX6_isValue_26 (by decide +kernel) ?_
    exact mm_zret hx hb hlocks hr (by first | rfl | exact bI_nar _) (Nat.le_of_ble_eq_true rfl) (Nat.le_of_ble_eq_true rfl) hM (ret_f (by simp_all [valB, nI_lit])) dX6_isValue_27
  refine lv_iconst (v := (nI 1)) hx hb dX6_isValue_22 (by decide +kernel) ?_
  refine lv_goto (tgt := 27) hx hb dX6_isValue_23 (by decide) ?_
  exact mm_zret hx hb hlocks hr (by first | rfl | exact bI_nar _) (Nat.le_of_ble_eq_true rfl) (Nat.le_of_ble_eq_true rfl) hM (ret_t (by simp_all [valB, nI_lit])) dX6_isValue_27
set_option maxHeartbeats 4000000 in
set_option maxRecDepth 100000 in
theorem c6_greater (l : Launch) (G : mG) (f : mE) (x y : Int32) : mC l G yX6_greater wsX6_greater ({ frames := 0, cells := 0, slots := 0, locals := 0 } : Room) f [.int x, .int y] (fun v f1 => v = some (.int (if y < x then x else y)) ∧ f = f1) 0 0 := by
  refine mC.of (cc := cX6_greater) (maxL := 2) (ret := (some .int)) (by decide) rfl (Nat.le_of_ble_eq_true rfl) ?_
  intro pgm env s mt args below meth c A ls hx hb hml hr hlocks hown hname hts hK hE hA hM hl
  have hl : lv_has ls 2 [(0, .int x), (1, .int y)] := hl
  refine lv_iload_n hx hb dX6_greater_0 rfl (lv_at hl 0 rfl) ?_
  refine lv_iload_n hx hb dX6_greater_1 rfl (lv_at hl 1 rfl) ?_
  refine lv_icmp_le (tgt := 9) hx hb dX6_greater_2 (by decide) (fun cz1 => ?_) (fun cz1 => ?_)
  · refine lv_iload_n hx hb dX6_greater_9 rfl (lv_at hl 1 rfl) ?_
    exact mm_iret hx hb hlocks hr (Nat.le_of_ble_eq_true rfl) (Nat.le_of_ble_eq_true rfl) hM (ret_v (if_neg (Int32.not_lt.mpr cz1)).symm) dX6_greater_10
  refine lv_iload_n hx hb dX6_greater_5 rfl (lv_at hl 0 rfl) ?_
  refine lv_goto (tgt := 10) hx hb dX6_greater_6 (by decide) ?_
  exact mm_iret hx hb hlocks hr (Nat.le_of_ble_eq_true rfl) (Nat.le_of_ble_eq_true rfl) hM (ret_v (if_pos (Int32.not_le.mp cz1)).symm) dX6_greater_10
set_option maxHeartbeats 4000000 in
set_option maxRecDepth 100000 in
theorem c6_smaller (l : Launch) (G : mG) (f : mE) (x y : Int32) : mC l G yX6_smaller wsX6_smaller ({ frames := 0, cells := 0, slots := 0, locals := 0 } : Room) f [.int x, .int y] (fun v f1 => v = some (.int (if x < y then x else y)) ∧ f = f1) 0 0 := by
  refine mC.of (cc := cX6_smaller) (maxL := 2) (ret := (some .int)) (by decide) rfl (Nat.le_of_ble_eq_true rfl) ?_
  intro pgm env s mt args below meth c A ls hx hb hml hr hlocks hown hname hts hK hE hA hM hl
  have hl : lv_has ls 2 [(0, .int x), (1, .int y)] := hl
  refine lv_iload_n hx hb dX6_smaller_0 rfl (lv_at hl 0 rfl) ?_
  refine lv_iload_n hx hb dX6_smaller_1 rfl (lv_at hl 1 rfl) ?_
  refine lv_icmp_ge (tgt := 9) hx hb dX6_smaller_2 (by decide) (fun cz1 => ?_) (fun cz1 => ?_)
  · refine lv_iload_n hx hb dX6_smaller_9 rfl (lv_at hl 1 rfl) ?_
    exact mm_iret hx hb hlocks hr (Nat.le_of_ble_eq_true rfl) (Nat.le_of_ble_eq_true rfl) hM (ret_v (if_neg (Int32.not_lt.mpr cz1)).symm) dX6_smaller_10
  refine lv_iload_n hx hb dX6_smaller_5 rfl (lv_at hl 0 rfl) ?_
  refine lv_goto (tgt := 10) hx hb dX6_smaller_6 (by decide) ?_
  exact mm_iret hx hb hlocks hr (Nat.le_of_ble_eq_true rfl) (Nat.le_of_ble_eq_true rfl) hM (ret_v (if_pos (Int32.not_le.mp cz1)).symm) dX6_smaller_10
