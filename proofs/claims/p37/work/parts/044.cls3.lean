/-! THE CLASS: dates -/
def ydN (y : Nat) : Nat := if leapB (nI y) = true then 366 else 365
theorem ydN_le (y : Nat) : 365 ≤ ydN y ∧ ydN y ≤ 366 := by unfold ydN; split <;> omega
theorem dom_1 {y : Int32} {m : Nat} (h1 : 1 ≤ m) (h2 : m ≤ 12) (h : ¬ (m = 2 ∧ leapB y = true)) : domF (m - 1) = daysF y (nI m) := by
  have hm : m = 1 ∨ m = 2 ∨ m = 3 ∨ m = 4 ∨ m = 5 ∨ m = 6 ∨ m = 7 ∨ m = 8 ∨ m = 9 ∨ m = 10 ∨ m = 11 ∨ m = 12 := by omega
  rcases hm with rfl | rfl | rfl | rfl | rfl | rfl | rfl | rfl | rfl | rfl | rfl | rfl
  case inr.inl => rw [daysF, if_pos (by decide), if_neg (fun z => h ⟨rfl, z⟩)]; rfl
  all_goals first | (rw [daysF, if_neg (by decide), if_pos (by decide)]; rfl) | (rw [daysF, if_neg (by decide), if_neg (by decide)]; rfl)
theorem dom_2 {y : Int32} {m : Nat} (h : m = 2) (h2 : leapB y = true) : domF (m - 1) + nI 1 = daysF y (nI m) := by
  subst h; rw [daysF, if_pos (by decide), if_pos h2]; rfl
theorem yd_mo (y : Nat) : moN y 12 = ydN y := by
  unfold ydN
  simp only [moN, daysN]
  by_cases h : leapB (nI y) = true <;> simp [h]
theorem codG_mo1 {k k2 lf y m : Nat} (h : daysN y m ≤ lf) (hm : m < 12) (hk : lf - daysN y m < k) (hk2 : lf < k2) : codG k (lf - daysN y m) y (m + 1) = codG k2 lf y m := by
  have hd := daysN_le y m
  rw [codG_st hk2 (show lf < lf + 1 by omega), codG_go h (if_neg (by omega)).symm (if_neg (by omega)).symm]
  exact codG_st hk (by omega)
theorem codG_mo {lf y : Nat} : ∀ {j k k2 : Nat}, j ≤ 11 → moN y j ≤ lf → lf - moN y j < k → lf < k2 → codG k (lf - moN y j) y (1 + j) = codG k2 lf y 1
  | 0, k, k2, _, _, hk, hk2 => codG_st hk hk2
  | j + 1, k, k2, hj, h, hk, hk2 => by
    have hd := daysN_le y (1 + j)
    have e : moN y (j + 1) = moN y j + daysN y (1 + j) := rfl
    rw [← codG_mo (j := j) (k := lf + 1) (by omega) (by omega) (by omega) hk2, e, ← Nat.sub_sub]
    exact codG_mo1 (by omega) (by omega) (by omega) (by omega)
theorem codG_year {k k2 lf y : Nat} (h : ydN y ≤ lf) (hk : lf - ydN y < k) (hk2 : lf < k2) : codG k (lf - ydN y) (y + 1) 1 = codG k2 lf y 1 := by
  have hd := daysN_le y 12
  have e : moN y 12 = moN y 11 + daysN y 12 := rfl
  rw [← yd_mo] at h hk ⊢
  rw [← codG_mo (j := 11) (k := lf - moN y 11 + 1) (by omega) (by omega) (by omega) hk2]
  rw [show 1 + 11 = 12 from rfl, codG_go (show daysN y 12 ≤ lf - moN y 11 by omega) (if_pos rfl).symm (if_pos rfl).symm, e, ← Nat.sub_sub]
  exact codG_st (by omega) (by omega)
theorem yr_next {lf y x : Nat} (hy : 1900 ≤ y) (h : ydN y ≤ lf) (hs : lf + yrN (y - 1900) = x) : lf - ydN y + yrN (y + 1 - 1900) = x := by
  rw [show y + 1 - 1900 = (y - 1900) + 1 by omega, yrN, show 1900 + (y - 1900) = y by omega]
  have e : ydN y = if leapB (nI y) = true then 366 else 365 := rfl
  omega
theorem mo_next {lf y m : Nat} (hm : 1 ≤ m) (h : daysN y m ≤ lf) (hs : lf + moN y (m - 1) < ydN y) : lf - daysN y m + moN y (m + 1 - 1) < ydN y := by
  obtain ⟨j, rfl⟩ : ∃ j, m = j + 1 := ⟨m - 1, by omega⟩
  rw [Nat.add_sub_cancel] at hs ⊢
  rw [moN, Nat.add_comm 1 j]; omega
theorem mo_end {lf y m : Nat} (_ : 1 ≤ m) (h : m = 12) (hs : lf + moN y (m - 1) < ydN y) : lf < daysN y m := by
  subst h
  rw [← yd_mo] at hs
  have e : moN y 12 = moN y 11 + daysN y 12 := rfl
  have e2 : moN y (12 - 1) = moN y 11 := rfl
  omega
theorem yr199 : yrN 199 = 72684 := by decide +kernel
theorem lf_end {lf y x : Nat} (hs : lf + yrN (y - 1900) = x) (hx : x ≤ 73048) (hy : y = 2099) : lf + moN y (1 - 1) < ydN y := by
  subst hy
  have e : yrN (2099 - 1900) = 72684 := yr199
  have := ydN_le 2099
  have e2 : moN 2099 (1 - 1) = 0 := rfl
  omega
set_option maxHeartbeats 4000000 in
set_option maxRecDepth 100000 in
theorem c5_isLeapYear (l : Launch) (G : mG) (f : mE) (y : Int32) : mC l G yX5_isLeapYear wsX5_isLeapYear ({ frames := 0, cells := 0, slots := 0, locals := 0 } : Room) f [.int y] (fun v f1 => v = some (.int (bI (leapB y))) ∧ f = f1) 0 0 := by
  refine mC.of (cc := cX5_isLeapYear) (maxL := 1) (ret := (some .boolean)) (by decide) rfl (Nat.le_of_ble_eq_true rfl) ?_
  intro pgm env s mt args below meth c A ls hx hb hml hr hlocks hown hname hts hK hE hA hM hl
  have hl : lv_has ls 1 [(0, .int y)] := hl
  refine lv_iload_n hx hb dX5_isLeapYear_0 rfl (lv_at hl 0 rfl) ?_
  refine lv_iconst (v := (nI 4)) hx hb dX5_isLeapYear_1 (by decide +kernel) ?_
  refine lv_irem hx hb dX5_isLeapYear_2 (by decide) ?_
  refine lv_if_ne (tgt := 13) hx hb dX5_isLeapYear_3 (by decide) (fun cz1 => ?_) (fun cz1 => ?_)
  · refine lv_iload_n hx hb dX5_isLeapYear_13 rfl (lv_at hl 0 rfl) ?_
    refine lv_sipush (v := (nI 400)) hx hb dX5_isLeapYear_14 (by decide +kernel) ?_
    refine lv_irem hx hb dX5_isLeapYear_17 (by decide) ?_
    refine lv_if_ne (tgt := 25) hx hb dX5_isLeapYear_18 (by decide) (fun cz2 => ?_) (fun cz2 => ?_)
    · refine lv_iconst (v := (nI 0)) hx hb dX5_isLeapYear_25 (by decide +kernel) ?_
      exact mm_zret hx hb hlocks hr (by first | rfl | exact bI_nar _) (Nat.le_of_ble_eq_true rfl) (Nat.le_of_ble_eq_true rfl) hM (ret_f (by simp_all [leapB, nI_lit])) dX5_isLeapYear_26
    refine lv_iconst (v := (nI 1)) hx hb dX5_isLeapYear_21 (by decide +kernel) ?_
    refine lv_goto (tgt := 26) hx hb dX5_isLeapYear_22 (by decide) ?_
    exact mm_zret hx hb hlocks hr (by first | rfl | exact bI_nar _) (Nat.le_of_ble_eq_true rfl) (Nat.le_of_ble_eq_true rfl) hM (ret_t (by simp_all [leapB, nI_lit])) dX5_isLeapYear_26
  refine lv_iload_n hx hb dX5_isLeapYear_6 rfl (lv_at hl 0 rfl) ?_
  refine lv_bipush (v := (nI 100)) hx hb dX5_isLeapYear_7 (by decide +kernel) ?_
  refine lv_irem hx hb dX5_isLeapYear_9 (by decide) ?_
  refine lv_if_ne (tgt := 21) hx hb dX5_isLeapYear_10 (by decide) (fun cz3 => ?_) (fun cz3 => ?_)
  · refine lv_iconst (v := (nI 1)) hx hb dX5_isLeapYear_21 (by decide +kernel) ?_
    refine lv_goto (tgt := 26) hx hb dX5_isLeapYear_22 (by decide) ?_
    exact mm_zret hx hb hlocks hr (by first | rfl | exact bI_nar _) (Nat.le_of_ble_eq_true rfl) (Nat.le_of_ble_eq_true rfl) hM (ret_t (by simp_all [leapB, nI_lit])) dX5_isLeapYear_26
  refine lv_iload_n hx hb dX5_isLeapYear_13 rfl (lv_at hl 0 rfl) ?_
  refine lv_sipush (v := (nI 400)) hx hb dX5_isLeapYear_14 (by decide +kernel) ?_
  refine lv_irem hx hb dX5_isLeapYear_17 (by decide) ?_
  refine lv_if_ne (tgt := 25) hx hb dX5_isLeapYear_18 (by decide) (fun cz4 => ?_) (fun cz4 => ?_)
  · refine lv_iconst (v := (nI 0)) hx hb dX5_isLeapYear_25 (by decide +kernel) ?_
    exact mm_zret hx hb hlocks hr (by first | rfl | exact bI_nar _) (Nat.le_of_ble_eq_true rfl) (Nat.le_of_ble_eq_true rfl) hM (ret_f (by simp_all [leapB, nI_lit])) dX5_isLeapYear_26
  refine lv_iconst (v := (nI 1)) hx hb dX5_isLeapYear_21 (by decide +kernel) ?_
  refine lv_goto (tgt := 26) hx hb dX5_isLeapYear_22 (by decide) ?_
  exact mm_zret hx hb hlocks hr (by first | rfl | exact bI_nar _) (Nat.le_of_ble_eq_true rfl) (Nat.le_of_ble_eq_true rfl) hM (ret_t (by simp_all [leapB, nI_lit])) dX5_isLeapYear_26
set_option maxHeartbeats 4000000 in
set_option maxRecDepth 100000 in
theorem c5_daysOfYear (l : Launch) (G : mG) (f : mE) (y : Nat) : mC l G yX5_daysOfYear wsX5_daysOfYear ({ frames := 1, cells := 0, slots := 0, locals := 20 } : Room) f [.int (nI y)] (fun v f1 => v = some (.int (nI (ydN y))) ∧ f = f1) 0 0 := by
  refine mC.of (cc := cX5_daysOfYear) (maxL := 1) (ret := (some .int)) (by decide) rfl (Nat.le_of_ble_eq_true rfl) ?_
  intro pgm env s mt args below meth c A ls hx hb hml hr hlocks hown hname hts hK hE hA hM hl
  have hl : lv_has ls 1 [(0, .int (nI y))] := hl
  refine lv_iload_n hx hb dX5_daysOfYear_0 rfl (lv_at hl 0 rfl) ?_
  refine mm_S (As := [.int (nI y)]) (rest := []) ⟨hx, hb, hml, hown, hts⟩ (c5_isLeapYear l G _ (nI y)) (va_cwS 1 hts gX5_daysOfYear_X5_isLeapYear rfl rfl rfl (by decide +kernel) ⟨Nat.le_of_ble_eq_true rfl, Nat.le_of_ble_eq_true rfl⟩) hK hE hA hM rfl hl.1 rfl (Nat.le_of_ble_eq_true rfl) dX5_daysOfYear_1 ⟨Nat.le_of_ble_eq_true rfl, Nat.le_of_ble_eq_true rfl⟩ (fun v f1 Hp lcs hp hM => ?_)
  obtain ⟨rfl, hf⟩ := hp; subst hf
  refine lvb_eq (tgt := 13) hx hb dX5_daysOfYear_4 (by decide) (fun cz1 => ?_) (fun cz1 => ?_)
  · refine lv_sipush (v := (nI 365)) hx hb dX5_daysOfYear_13 (by decide +kernel) ?_
    exact mm_iret hx hb hlocks hr (Nat.le_of_ble_eq_true rfl) (Nat.le_of_ble_eq_true rfl) hM (ret_v (by rw [ydN, if_neg (by rw [cz1]; decide)])) dX5_daysOfYear_16
  refine lv_sipush (v := (nI 366)) hx hb dX5_daysOfYear_7 (by decide +kernel) ?_
  refine lv_goto (tgt := 16) hx hb dX5_daysOfYear_10 (by decide) ?_
  exact mm_iret hx hb hlocks hr (Nat.le_of_ble_eq_true rfl) (Nat.le_of_ble_eq_true rfl) hM (ret_v (by rw [ydN, if_pos cz1])) dX5_daysOfYear_16
set_option maxHeartbeats 4000000 in
set_option maxRecDepth 100000 in
theorem c5_daysOfMonth (l : Launch) (G : mG) (f : mE) (y : Int32) (m : Nat) (hm1 : 1 ≤ m) (hm2 : m ≤ 12) : mC l G yX5_daysOfMonth wsX5_daysOfMonth ({ frames := 1, cells := 0, slots := 0, locals := 20 } : Room) f [.int y, .int (nI m)] (fun v f1 => v = some (.int (daysF y (nI m))) ∧ f = f1) 0 0 := by
  refine mC.of (cc := cX5_daysOfMonth) (maxL := 3) (ret := (some .int)) (by decide) rfl (Nat.le_of_ble_eq_true rfl) ?_
  intro pgm env s mt args below meth c A ls hx hb hml hr hlocks hown hname hts hK hE hA hM hl
  have hl : lv_has ls 3 [(0, .int y), (1, .int (nI m))] := hl
  refine lv_iload_n hx hb dX5_daysOfMonth_0 rfl (lv_at hl 1 rfl) ?_
  refine lv_iconst (v := (nI 1)) hx hb dX5_daysOfMonth_1 (by decide +kernel) ?_
  refine ln_icmp_lt m 1 (by omega) (by omega) (tgt := 13) hx hb dX5_daysOfMonth_2 (by decide) (fun cz1 => ?_) (fun cz1 => ?_)
  · exact absurd cz1 (by omega)
  refine lv_iload_n hx hb dX5_daysOfMonth_5 rfl (lv_at hl 1 rfl) ?_
  refine va_gets hx hb hE.2.1.1 hM.2 hown (hts (.fieldLink RX5 300 "SentenceRules" "DAYS_OF_MONTHS" "[I") (List.mem_of_getElem? (i := 1) rfl)) (fun _ h => h) dX5_daysOfMonth_6 ?_
  refine va_tlen hx hb hE.2.1.2 hM.2 (v := nI 12) rfl dX5_daysOfMonth_9 ?_
  refine ln_icmp_le m 12 (by omega) (by omega) (tgt := 15) hx hb dX5_daysOfMonth_10 (by decide) (fun cz2 => ?_) (fun cz2 => ?_)
  · refine va_gets hx hb hE.2.1.1 hM.2 hown (hts (.fieldLink RX5 300 "SentenceRules" "DAYS_OF_MONTHS" "[I") (List.mem_of_getElem? (i := 1) rfl)) (fun _ h => h) dX5_daysOfMonth_15 ?_
    refine lv_iload_n hx hb dX5_daysOfMonth_18 rfl (lv_at hl 1 rfl) ?_
    refine lv_iconst (v := (nI 1)) hx hb dX5_daysOfMonth_19 (by decide +kernel) ?_
    refine ln_isub m 1 (by omega) hx hb dX5_daysOfMonth_20 ?_
    refine mv_top (y := (nI (m - 1))) (congrArg nI (by omega)) ?_
    refine va_ti hx hb hE.2.1.2 hM.2 (v := .int (domF (m - 1))) (vp_in_nI (by omega) (by decide)) (by rw [nI_clamp (by omega)]) dX5_daysOfMonth_21 ?_
    refine lv_istore_n (lv' := [(2, .int (domF (m - 1))), (0, .int y), (1, .int (nI m))]) hx hb dX5_daysOfMonth_22 rfl hl (by decide) rfl (fun ls hl => ?_)
    refine lv_iload_n hx hb dX5_daysOfMonth_23 rfl (lv_at hl 2 rfl) ?_
    refine lv_iconst (v := (nI 2)) hx hb dX5_daysOfMonth_24 (by decide +kernel) ?_
    refine ln_icmp_ne m 2 (by omega) (by omega) (tgt := 41) hx hb dX5_daysOfMonth_25 (by decide) (fun cz3 => ?_) (fun cz3 => ?_)
    · refine lv_iload_n hx hb dX5_daysOfMonth_41 rfl (lv_at hl 0 rfl) ?_
      exact mm_iret hx hb hlocks hr (Nat.le_of_ble_eq_true rfl) (Nat.le_of_ble_eq_true rfl) hM (ret_v (dom_1 hm1 hm2 (fun z => absurd z.1 cz3))) dX5_daysOfMonth_42
    refine lv_iload_n hx hb dX5_daysOfMonth_28 rfl (lv_at hl 1 rfl) ?_
    refine mm_S (As := [.int y]) (rest := []) ⟨hx, hb, hml, hown, hts⟩ (c5_isLeapYear l G _ y) (va_cwS 1 hts gX5_daysOfMonth_X5_isLeapYear rfl rfl rfl (by decide +kernel) ⟨Nat.le_of_ble_eq_true rfl, Nat.le_of_ble_eq_true rfl⟩) hK hE hA hM rfl hl.1 rfl (Nat.le_of_ble_eq_true rfl) dX5_daysOfMonth_29 ⟨Nat.le_of_ble_eq_true rfl, Nat.le_of_ble_eq_true rfl⟩ (fun v f1 Hp lcs hp hM => ?_)
    obtain ⟨rfl, hf⟩ := hp; subst hf
    refine lvb_eq (tgt := 41) hx hb dX5_daysOfMonth_32 (by decide) (fun cz4 => ?_) (fun cz4 => ?_)
    · refine lv_iload_n hx hb dX5_daysOfMonth_41 rfl (lv_at hl 0 rfl) ?_
      exact mm_iret hx hb hlocks hr (Nat.le_of_ble_eq_true rfl) (Nat.le_of_ble_eq_true rfl) hM (ret_v (dom_1 hm1 hm2 (fun z => by have hz := z.2; rw [cz4] at hz; cases hz))) dX5_daysOfMonth_42
    refine lv_iload_n hx hb dX5_daysOfMonth_35 rfl (lv_at hl 0 rfl) ?_
    refine lv_iconst (v := (nI 1)) hx hb dX5_daysOfMonth_36 (by decide +kernel) ?_
    refine lv_iadd hx hb dX5_daysOfMonth_37 ?_
    refine lv_goto (tgt := 42) hx hb dX5_daysOfMonth_38 (by decide) ?_
    exact mm_iret hx hb hlocks hr (Nat.le_of_ble_eq_true rfl) (Nat.le_of_ble_eq_true rfl) hM (ret_v (dom_2 cz3 cz4)) dX5_daysOfMonth_42
  exact absurd cz2 (by omega)
set_option maxHeartbeats 4000000 in
set_option maxRecDepth 100000 in
theorem c5_isDate (l : Launch) (G : mG) (f : mE) (x1 x2 x3 : Int32) : mC l G yX5_isDate wsX5_isDate ({ frames := 2, cells := 0, slots := 0, locals := 42 } : Room) f [.int x1, .int x2, .int x3] (fun v f1 => v = some (.int (bI (dateB x1 x2 x3))) ∧ f = f1) 0 0 := by
  refine mC.of (cc := cX5_isDate) (maxL := 3) (ret := (some .boolean)) (by decide) rfl (Nat.le_of_ble_eq_true rfl) ?_
  intro pgm env s mt args below meth c A ls hx hb hml hr hlocks hown hname hts hK hE hA hM hl
  have hl : lv_has ls 3 [(0, .int x1), (1, .int x2), (2, .int x3)] := hl
  refine lv_iload_n hx hb dX5_isDate_0 rfl (lv_at hl 0 rfl) ?_
  refine lv_sipush (v := (nI 1900)) hx hb dX5_isDate_1 (by decide +kernel) ?_
  refine lv_icmp_lt (tgt := 43) hx hb dX5_isDate_4 (by decide) (fun cz1 => ?_) (fun cz1 => ?_)
  · refine lv_iconst (v := (nI 0)) hx hb dX5_isDate_43 (by decide +kernel) ?_
    exact mm_zret hx hb hlocks hr (by first | rfl | exact bI_nar _) (Nat.le_of_ble_eq_true rfl) (Nat.le_of_ble_eq_true rfl) hM (ret_f (by rw [dateB, show inB x1 1900 2099 = false from inB_f1 cz1]; rfl)) dX5_isDate_44
  refine lv_iload_n hx hb dX5_isDate_7 rfl (lv_at hl 0 rfl) ?_
  refine lv_sipush (v := (nI 2099)) hx hb dX5_isDate_8 (by decide +kernel) ?_
  refine lv_icmp_gt (tgt := 43) hx hb dX5_isDate_11 (by decide) (fun cz2 => ?_) (fun cz2 => ?_)
  · refine lv_iconst (v := (nI 0)) hx hb dX5_isDate_43 (by decide +kernel) ?_
    exact mm_zret hx hb hlocks hr (by first | rfl | exact bI_nar _) (Nat.le_of_ble_eq_true rfl) (Nat.le_of_ble_eq_true rfl) hM (ret_f (by rw [dateB, show inB x1 1900 2099 = false from inB_f2 cz2]; rfl)) dX5_isDate_44
  refine lv_iload_n hx hb dX5_isDate_14 rfl (lv_at hl 1 rfl) ?_
  refine lv_iconst (v := (nI 1)) hx hb dX5_isDate_15 (by decide +kernel) ?_
  refine lv_icmp_lt (tgt := 43) hx hb dX5_isDate_16 (by decide) (fun cz3 => ?_) (fun cz3 => ?_)
  · refine lv_iconst (v := (nI 0)) hx hb dX5_isDate_43 (by decide +kernel) ?_
    exact mm_zret hx hb hlocks hr (by first | rfl | exact bI_nar _) (Nat.le_of_ble_eq_true rfl) (Nat.le_of_ble_eq_true rfl) hM (ret_f (by rw [dateB, show inB x2 1 12 = false from inB_f1 cz3, Bool.and_false]; rfl)) dX5_isDate_44
  refine lv_iload_n hx hb dX5_isDate_19 rfl (lv_at hl 1 rfl) ?_
  refine lv_bipush (v := (nI 12)) hx hb dX5_isDate_20 (by decide +kernel) ?_
  refine lv_icmp_gt (tgt := 43) hx hb dX5_isDate_22 (by decide) (fun cz4 => ?_) (fun cz4 => ?_)
  · refine lv_iconst (v := (nI 0)) hx hb dX5_isDate_43 (by decide +kernel) ?_
    exact mm_zret hx hb hlocks hr (by first | rfl | exact bI_nar _) (Nat.le_of_ble_eq_true rfl) (Nat.le_of_ble_eq_true rfl) hM (ret_f (by rw [dateB, show inB x2 1 12 = false from inB_f2 cz4, Bool.and_false]; rfl)) dX5_isDate_44
  refine lv_iload_n hx hb dX5_isDate_25 rfl (lv_at hl 2 rfl) ?_
  refine lv_iconst (v := (nI 1)) hx hb dX5_isDate_26 (by decide +kernel) ?_
  refine lv_icmp_lt (tgt := 43) hx hb dX5_isDate_27 (by decide) (fun cz5 => ?_) (fun cz5 => ?_)
  · refine lv_iconst (v := (nI 0)) hx hb dX5_isDate_43 (by decide +kernel) ?_
    exact mm_zret hx hb hlocks hr (by first | rfl | exact bI_nar _) (Nat.le_of_ble_eq_true rfl) (Nat.le_of_ble_eq_true rfl) hM (ret_f (by rw [dateB, show inB x3 1 (daysF x1 x2) = false from inB_f1 cz5, Bool.and_false])) dX5_isDate_44
  obtain ⟨m, hm1, hm2, rfl⟩ := inB_nat2 (L := 1) (K := 12) (by decide) (by decide) (inB_t cz3 cz4)
  refine lv_iload_n hx hb dX5_isDate_30 rfl (lv_at hl 2 rfl) ?_
  refine lv_iload_n hx hb dX5_isDate_31 rfl (lv_at hl 0 rfl) ?_
  refine lv_iload_n hx hb dX5_isDate_32 rfl (lv_at hl 1 rfl) ?_
  refine mm_S (As := [.int x1, .int (nI m)]) (rest := [.int x3]) ⟨hx, hb, hml, hown, hts⟩ (c5_daysOfMonth l G _ x1 m (by omega) (by omega)) (va_cwS 2 hts gX5_isDate_X5_daysOfMonth rfl rfl rfl (by decide +kernel) ⟨Nat.le_of_ble_eq_true rfl, Nat.le_of_ble_eq_true rfl⟩) hK hE hA hM rfl hl.1 rfl (Nat.le_of_ble_eq_true rfl) dX5_isDate_33 ⟨Nat.le_of_ble_eq_true rfl, Nat.le_of_ble_eq_true rfl⟩ (fun v f1 Hp lcs hp hM => ?_)
  obtain ⟨rfl, hf⟩ := hp; subst hf
  refine lv_icmp_gt (tgt := 43) hx hb dX5_isDate_36 (by decide) (fun cz6 => ?_) (fun cz6 => ?_)
  · refine lv_iconst (v := (nI 0)) hx hb dX5_isDate_43 (by decide +kernel) ?_
    exact mm_zret hx hb hlocks hr (by first | rfl | exact bI_nar _) (Nat.le_of_ble_eq_true rfl) (Nat.le_of_ble_eq_true rfl) hM (ret_f (by rw [dateB, show inB x3 1 (daysF x1 (nI m)) = false from inB_f2 cz6, Bool.and_false])) dX5_isDate_44
  refine lv_iconst (v := (nI 1)) hx hb dX5_isDate_39 (by decide +kernel) ?_
  refine lv_goto (tgt := 44) hx hb dX5_isDate_40 (by decide) ?_
  exact mm_zret hx hb hlocks hr (by first | rfl | exact bI_nar _) (Nat.le_of_ble_eq_true rfl) (Nat.le_of_ble_eq_true rfl) hM (ret_t (by rw [dateB, show inB x1 1900 2099 = true from inB_t cz1 cz2, show inB (nI m) 1 12 = true from inB_t cz3 cz4, show inB x3 1 (daysF x1 (nI m)) = true from inB_t cz5 cz6]; rfl)) dX5_isDate_44
set_option maxHeartbeats 4000000 in
set_option maxRecDepth 100000 in
theorem c5_daysBefore (l : Launch) (G : mG) (f : mE) (y m : Nat) (hy1 : 1900 ≤ y) (hy2 : y ≤ 2099) (hm1 : 1 ≤ m) (hm2 : m ≤ 12) : mC l G yX5_daysBefore wsX5_daysBefore ({ frames := 2, cells := 0, slots := 0, locals := 42 } : Room) f [.int (nI y), .int (nI m)] (fun v f1 => v = some (.int (nI (yrN (y - 1900) + moN y (m - 1)))) ∧ f = f1) 0 0 := by
  refine mC.of (cc := cX5_daysBefore) (maxL := 4) (ret := (some .int)) (by decide) rfl (Nat.le_of_ble_eq_true rfl) ?_
  intro pgm env s mt args below meth c A ls hx hb hml hr hlocks hown hname hts hK hE hA hM hl
  have hl : lv_has ls 4 [(0, .int (nI y)), (1, .int (nI m))] := hl
  refine lv_iconst (v := (nI 0)) hx hb dX5_daysBefore_0 (by decide +kernel) ?_
  refine lv_istore_n (lv' := [(2, .int (nI 0)), (0, .int (nI y)), (1, .int (nI m))]) hx hb dX5_daysBefore_1 rfl hl (by decide) rfl (fun ls hl => ?_)
  refine lv_sipush (v := (nI 1900)) hx hb dX5_daysBefore_2 (by decide +kernel) ?_
  refine lv_istore_n (lv' := [(3, .int (nI 1900)), (2, .int (nI 0)), (0, .int (nI y)), (1, .int (nI m))]) hx hb dX5_daysBefore_5 rfl hl (by decide) rfl (fun ls hl => ?_)
  have loopY : ∀ (fuel : Nat) (i w : Nat) (Hp : Heap) (lcs : List Loc) (ls : Array Slot) (hiN : 1900 + i ≤ y) (hr0 : w = yrN i) (hfu : y - (1900 + i) < fuel) (hM : mM G A s.heap f Hp lcs) (hl : lv_has ls 4 [(0, .int (nI y)), (1, .int (nI m)), (2, .int (nI w)), (3, .int (nI (1900 + i)))]), W pgm l env ({ frames := 2, cells := 0, slots := 0, locals := 42 } : Room) s mt args below meth c Hp lcs 0 0 (MQ below (mQc G A (fun v f1 => v = some (.int (nI (yrN (y - 1900) + moN y (m - 1)))) ∧ f = f1)) args s 0 0 A) (F0 mt 6 ls []) := by
    intro fuel
    induction fuel with
    | zero => intro i w Hp lcs ls hiN hr0 hfu; exact absurd hfu (Nat.not_lt_zero _)
    | succ fuel ih =>
      intro i w Hp lcs ls hiN hr0 hfu hM hl
      subst hr0
      have hyb := yrN_le i
      refine lv_iload_n hx hb dX5_daysBefore_6 rfl (lv_at hl 3 rfl) ?_
      refine lv_iload_n hx hb dX5_daysBefore_7 rfl (lv_at hl 0 rfl) ?_
      refine ln_icmp_ge (1900 + i) y (by omega) (by omega) (tgt := 31) hx hb dX5_daysBefore_8 (by decide) (fun cz1 => ?_) (fun cz1 => ?_)
      · refine lv_iconst (v := (nI 1)) hx hb dX5_daysBefore_31 (by decide +kernel) ?_
        refine lv_istore_n (lv' := [(3, .int (nI 1)), (0, .int (nI y)), (1, .int (nI m)), (2, .int (nI (yrN i)))]) hx hb dX5_daysBefore_32 rfl hl (by decide) rfl (fun ls hl => ?_)
        have loopZ : ∀ (fuelB : Nat) (i w : Nat) (Hp : Heap) (lcs : List Loc) (ls : Array Slot) (hiN : 1 + i ≤ m) (hr0 : w = yrN (y - 1900) + moN y i) (hfuB : m - (1 + i) < fuelB) (hM : mM G A s.heap f Hp lcs) (hl : lv_has ls 4 [(0, .int (nI y)), (1, .int (nI m)), (2, .int (nI w)), (3, .int (nI (1 + i)))]), W pgm l env ({ frames := 2, cells := 0, slots := 0, locals := 42 } : Room) s mt args below meth c Hp lcs 0 0 (MQ below (mQc G A (fun v f1 => v = some (.int (nI (yrN (y - 1900) + moN y (m - 1)))) ∧ f = f1)) args s 0 0 A) (F0 mt 33 ls []) := by
          intro fuelB
          induction fuelB with
          | zero => intro i w Hp lcs ls hiN hr0 hfuB; exact absurd hfuB (Nat.not_lt_zero _)
          | succ fuelB ihB =>
            intro i w Hp lcs ls hiN hr0 hfuB hM hl
            subst hr0
            have hyb := yrN_le (y - 1900)
            have hmb := moN_le y i
            refine lv_iload_n hx hb dX5_daysBefore_33 rfl (lv_at hl 3 rfl) ?_
            refine lv_iload_n hx hb dX5_daysBefore_34 rfl (lv_at hl 1 rfl) ?_
            refine ln_icmp_ge (1 + i) m (by omega) (by omega) (tgt := 58) hx hb dX5_daysBefore_35 (by decide) (fun cz2 => ?_) (fun cz2 => ?_)
            · refine lv_iload_n hx hb dX5_daysBefore_58 rfl (lv_at hl 2 rfl) ?_
              exact mm_iret hx hb hlocks hr (Nat.le_of_ble_eq_true rfl) (Nat.le_of_ble_eq_true rfl) hM (ret_v (congrArg nI (by rw [show m - 1 = i by omega]))) dX5_daysBefore_59
            refine lv_iload_n hx hb dX5_daysBefore_38 rfl (lv_at hl 3 rfl) ?_
            refine lv_bipush (v := (nI 12)) hx hb dX5_daysBefore_39 (by decide +kernel) ?_
            refine ln_icmp_gt (1 + i) 12 (by omega) (by omega) (tgt := 58) hx hb dX5_daysBefore_41 (by decide) (fun cz3 => ?_) (fun cz3 => ?_)
            · exact absurd cz3 (by omega)
            refine lv_iload_n hx hb dX5_daysBefore_44 rfl (lv_at hl 2 rfl) ?_
            refine lv_iload_n hx hb dX5_daysBefore_45 rfl (lv_at hl 0 rfl) ?_
            refine lv_iload_n hx hb dX5_daysBefore_46 rfl (lv_at hl 3 rfl) ?_
            refine mm_S (As := [.int (nI y), .int (nI (1 + i))]) (rest := [.int (nI (yrN (y - 1900) + moN y i))]) ⟨hx, hb, hml, hown, hts⟩ (c5_daysOfMonth l G _ (nI y) (1 + i) (by omega) (by omega)) (va_cwS 2 hts gX5_daysBefore_X5_daysOfMonth rfl rfl rfl (by decide +kernel) ⟨Nat.le_of_ble_eq_true rfl, Nat.le_of_ble_eq_true rfl⟩) hK hE hA hM rfl hl.1 rfl (Nat.le_of_ble_eq_true rfl) dX5_daysBefore_47 ⟨Nat.le_of_ble_eq_true rfl, Nat.le_of_ble_eq_true rfl⟩ (fun v f1 Hp lcs hp hM => ?_)
            obtain ⟨rfl, hf⟩ := hp; subst hf
            refine mv_top (daysF_nI (by omega)) ?_
            have hdb := daysN_le y (1 + i)
            refine ln_iadd (yrN (y - 1900) + moN y i) (daysN y (1 + i)) hx hb dX5_daysBefore_50 ?_
            refine lv_istore_n (lv' := [(2, .int (nI ((yrN (y - 1900) + moN y i) + (daysN y (1 + i))))), (0, .int (nI y)), (1, .int (nI m)), (3, .int (nI (1 + i)))]) hx hb dX5_daysBefore_51 rfl hl (by decide) rfl (fun ls hl => ?_)
            refine lv_iinc (v := (nI (1 + i + 1))) (lv' := [(3, .int (nI (1 + i + 1))), (2, .int (nI ((yrN (y - 1900) + moN y i) + (daysN y (1 + i))))), (0, .int (nI y)), (1, .int (nI m))]) hx hb dX5_daysBefore_52 hl (k := 3) rfl (nI_add _ _) (by decide) rfl (fun ls hl => ?_)
            refine lv_goto (tgt := 33) hx hb dX5_daysBefore_55 (by decide) ?_
            exact ihB (i + 1) _ _ _ ls (by omega) (by rw [moN]; omega) (by omega) hM (lv_sub hl [2, 3, 1, 0] rfl)
        exact loopZ (m + 1) 0 _ _ _ ls (by omega) (by rw [show y - 1900 = i by omega, moN]; rfl) (by omega) hM (lv_sub hl [1, 2, 3, 0] rfl)
      refine lv_iload_n hx hb dX5_daysBefore_11 rfl (lv_at hl 3 rfl) ?_
      refine lv_sipush (v := (nI 2099)) hx hb dX5_daysBefore_12 (by decide +kernel) ?_
      refine ln_icmp_gt (1900 + i) 2099 (by omega) (by omega) (tgt := 31) hx hb dX5_daysBefore_15 (by decide) (fun cz4 => ?_) (fun cz4 => ?_)
      · exact absurd cz4 (by omega)
      refine lv_iload_n hx hb dX5_daysBefore_18 rfl (lv_at hl 2 rfl) ?_
      refine lv_iload_n hx hb dX5_daysBefore_19 rfl (lv_at hl 3 rfl) ?_
      refine mm_S (As := [.int (nI (1900 + i))]) (rest := [.int (nI (yrN i))]) ⟨hx, hb, hml, hown, hts⟩ (c5_daysOfYear l G _ (1900 + i)) (va_cwS 1 hts gX5_daysBefore_X5_daysOfYear rfl rfl rfl (by decide +kernel) ⟨Nat.le_of_ble_eq_true rfl, Nat.le_of_ble_eq_true rfl⟩) hK hE hA hM rfl hl.1 rfl (Nat.le_of_ble_eq_true rfl) dX5_daysBefore_20 ⟨Nat.le_of_ble_eq_true rfl, Nat.le_of_ble_eq_true rfl⟩ (fun v f1 Hp lcs hp hM => ?_)
      obtain ⟨rfl, hf⟩ := hp; subst hf
      have hyd := ydN_le (1900 + i)
      refine ln_iadd (yrN i) (ydN (1900 + i)) hx hb dX5_daysBefore_23 ?_
      refine lv_istore_n (lv' := [(2, .int (nI ((yrN i) + (ydN (1900 + i))))), (0, .int (nI y)), (1, .int (nI m)), (3, .int (nI (1900 + i)))]) hx hb dX5_daysBefore_24 rfl hl (by decide) rfl (fun ls hl => ?_)
      refine lv_iinc (v := (nI (1900 + i + 1))) (lv' := [(3, .int (nI (1900 + i + 1))), (2, .int (nI ((yrN i) + (ydN (1900 + i))))), (0, .int (nI y)), (1, .int (nI m))]) hx hb dX5_daysBefore_25 hl (k := 3) rfl (nI_add _ _) (by decide) rfl (fun ls hl => ?_)
      refine lv_goto (tgt := 6) hx hb dX5_daysBefore_28 (by decide) ?_
      exact ih (i + 1) _ _ _ ls (by omega) (by rw [yrN]; unfold ydN; omega) (by omega) hM (lv_sub hl [2, 3, 1, 0] rfl)
  exact loopY (y + 1) 0 _ _ _ ls (by omega) rfl (by omega) hM (lv_sub hl [2, 3, 1, 0] rfl)
set_option maxHeartbeats 4000000 in
set_option maxRecDepth 100000 in
theorem c5_dateCode (l : Launch) (G : mG) (f : mE) (x : Nat) (hx6 : x ≤ 73048) : mC l G yX5_dateCode wsX5_dateCode ({ frames := 2, cells := 0, slots := 0, locals := 42 } : Room) f [.int (nI x)] (fun v f1 => v = some (.int (nI (codeN x))) ∧ f = f1) 0 0 := by
  refine mC.of (cc := cX5_dateCode) (maxL := 4) (ret := (some .int)) (by decide) rfl (Nat.le_of_ble_eq_true rfl) ?_
  intro pgm env s mt args below meth c A ls hx hb hml hr hlocks hown hname hts hK hE hA hM hl
  have hl : lv_has ls 4 [(0, .int (nI x))] := hl
  refine lv_iload_n hx hb dX5_dateCode_0 rfl (lv_at hl 0 rfl) ?_
  refine lv_istore_n (lv' := [(1, .int (nI x)), (0, .int (nI x))]) hx hb dX5_dateCode_1 rfl hl (by decide) rfl (fun ls hl => ?_)
  refine lv_sipush (v := (nI 1900)) hx hb dX5_dateCode_2 (by decide +kernel) ?_
  refine lv_istore_n (lv' := [(2, .int (nI 1900)), (1, .int (nI x)), (0, .int (nI x))]) hx hb dX5_dateCode_5 rfl hl (by decide) rfl (fun ls hl => ?_)
  have loopY : ∀ (fuel : Nat) (lf y : Nat) (Hp : Heap) (lcs : List Loc) (ls : Array Slot) (hy1 : 1900 ≤ y) (hy2 : y ≤ 2099) (hsum : lf + yrN (y - 1900) = x) (hfin : ∀ k, lf < k → codG k lf y 1 = codG (x + 1) x 1900 1) (hfu : lf < fuel) (hM : mM G A s.heap f Hp lcs) (hl : lv_has ls 4 [(0, .int (nI x)), (1, .int (nI lf)), (2, .int (nI y))]), W pgm l env ({ frames := 2, cells := 0, slots := 0, locals := 42 } : Room) s mt args below meth c Hp lcs 0 0 (MQ below (mQc G A (fun v f1 => v = some (.int (nI (codeN x))) ∧ f = f1)) args s 0 0 A) (F0 mt 6 ls []) := by
    intro fuel
    induction fuel with
    | zero => intro lf y Hp lcs ls hy1 hy2 hsum hfin hfu; exact absurd hfu (Nat.not_lt_zero _)
    | succ fuel ih =>
      intro lf y Hp lcs ls hy1 hy2 hsum hfin hfu hM hl
      have hyd := ydN_le y
      have loopZ : ∀ (fuelB : Nat) (lf m : Nat) (Hp : Heap) (lcs : List Loc) (ls : Array Slot) (hm1 : 1 ≤ m) (hm2 : m ≤ 12) (hrem : lf + moN y (m - 1) < ydN y) (hfin : ∀ k, lf < k → codG k lf y m = codG (x + 1) x 1900 1) (hfuB : lf < fuelB) (hM : mM G A s.heap f Hp lcs) (hl : lv_has ls 4 [(0, .int (nI x)), (1, .int (nI lf)), (2, .int (nI y)), (3, .int (nI m))]), W pgm l env ({ frames := 2, cells := 0, slots := 0, locals := 42 } : Room) s mt args below meth c Hp lcs 0 0 (MQ below (mQc G A (fun v f1 => v = some (.int (nI (codeN x))) ∧ f = f1)) args s 0 0 A) (F0 mt 36 ls []) := by
        intro fuelB
        induction fuelB with
        | zero => intro lf m Hp lcs ls hm1 hm2 hrem hfin hfuB; exact absurd hfuB (Nat.not_lt_zero _)
        | succ fuelB ihB =>
          intro lf m Hp lcs ls hm1 hm2 hrem hfin hfuB hM hl
          have hdb := daysN_le y m
          have hyd := ydN_le y
          refine lv_iload_n hx hb dX5_dateCode_36 rfl (lv_at hl 3 rfl) ?_
          refine lv_bipush (v := (nI 12)) hx hb dX5_dateCode_37 (by decide +kernel) ?_
          refine ln_icmp_ge m 12 (by omega) (by omega) (tgt := 65) hx hb dX5_dateCode_39 (by decide) (fun cz1 => ?_) (fun cz1 => ?_)
          · refine lv_sipush (v := (nI 10000)) hx hb dX5_dateCode_65 (by decide +kernel) ?_
            refine lv_iload_n hx hb dX5_dateCode_68 rfl (lv_at hl 2 rfl) ?_
            refine ln_imul 10000 y hx hb dX5_dateCode_69 ?_
            refine lv_bipush (v := (nI 100)) hx hb dX5_dateCode_70 (by decide +kernel) ?_
            refine lv_iload_n hx hb dX5_dateCode_72 rfl (lv_at hl 3 rfl) ?_
            refine ln_imul 100 m hx hb dX5_dateCode_73 ?_
            refine ln_iadd (10000 * y) (100 * m) hx hb dX5_dateCode_74 ?_
            refine lv_iload_n hx hb dX5_dateCode_75 rfl (lv_at hl 1 rfl) ?_
            refine ln_iadd ((10000 * y) + (100 * m)) lf hx hb dX5_dateCode_76 ?_
            refine lv_iconst (v := (nI 1)) hx hb dX5_dateCode_77 (by decide +kernel) ?_
            refine ln_iadd (((10000 * y) + (100 * m)) + lf) 1 hx hb dX5_dateCode_78 ?_
            exact mm_iret hx hb hlocks hr (Nat.le_of_ble_eq_true rfl) (Nat.le_of_ble_eq_true rfl) hM (ret_v (congrArg nI (codeN_at (hfin (lf + 1) (by omega)) (mo_end hm1 (by omega) hrem)))) dX5_dateCode_79
          refine lv_iload_n hx hb dX5_dateCode_42 rfl (lv_at hl 1 rfl) ?_
          refine lv_iload_n hx hb dX5_dateCode_43 rfl (lv_at hl 2 rfl) ?_
          refine lv_iload_n hx hb dX5_dateCode_44 rfl (lv_at hl 3 rfl) ?_
          refine mm_S (As := [.int (nI y), .int (nI m)]) (rest := [.int (nI lf)]) ⟨hx, hb, hml, hown, hts⟩ (c5_daysOfMonth l G _ (nI y) m (by omega) (by omega)) (va_cwS 2 hts gX5_dateCode_X5_daysOfMonth rfl rfl rfl (by decide +kernel) ⟨Nat.le_of_ble_eq_true rfl, Nat.le_of_ble_eq_true rfl⟩) hK hE hA hM rfl hl.1 rfl (Nat.le_of_ble_eq_true rfl) dX5_dateCode_45 ⟨Nat.le_of_ble_eq_true rfl, Nat.le_of_ble_eq_true rfl⟩ (fun v f1 Hp lcs hp hM => ?_)
          obtain ⟨rfl, hf⟩ := hp; subst hf
          refine mv_top (daysF_nI (by omega)) ?_
          refine ln_icmp_lt lf (daysN y m) (by omega) (by omega) (tgt := 65) hx hb dX5_dateCode_48 (by decide) (fun cz2 => ?_) (fun cz2 => ?_)
          · refine lv_sipush (v := (nI 10000)) hx hb dX5_dateCode_65 (by decide +kernel) ?_
            refine lv_iload_n hx hb dX5_dateCode_68 rfl (lv_at hl 2 rfl) ?_
            refine ln_imul 10000 y hx hb dX5_dateCode_69 ?_
            refine lv_bipush (v := (nI 100)) hx hb dX5_dateCode_70 (by decide +kernel) ?_
            refine lv_iload_n hx hb dX5_dateCode_72 rfl (lv_at hl 3 rfl) ?_
            refine ln_imul 100 m hx hb dX5_dateCode_73 ?_
            refine ln_iadd (10000 * y) (100 * m) hx hb dX5_dateCode_74 ?_
            refine lv_iload_n hx hb dX5_dateCode_75 rfl (lv_at hl 1 rfl) ?_
            refine ln_iadd ((10000 * y) + (100 * m)) lf hx hb dX5_dateCode_76 ?_
            refine lv_iconst (v := (nI 1)) hx hb dX5_dateCode_77 (by decide +kernel) ?_
            refine ln_iadd (((10000 * y) + (100 * m)) + lf) 1 hx hb dX5_dateCode_78 ?_
            exact mm_iret hx hb hlocks hr (Nat.le_of_ble_eq_true rfl) (Nat.le_of_ble_eq_true rfl) hM (ret_v (congrArg nI (codeN_at (hfin (lf + 1) (by omega)) cz2))) dX5_dateCode_79
          refine lv_iload_n hx hb dX5_dateCode_51 rfl (lv_at hl 1 rfl) ?_
          refine lv_iload_n hx hb dX5_dateCode_52 rfl (lv_at hl 2 rfl) ?_
          refine lv_iload_n hx hb dX5_dateCode_53 rfl (lv_at hl 3 rfl) ?_
          refine mm_S (As := [.int (nI y), .int (nI m)]) (rest := [.int (nI lf)]) ⟨hx, hb, hml, hown, hts⟩ (c5_daysOfMonth l G _ (nI y) m (by omega) (by omega)) (va_cwS 2 hts gX5_dateCode_X5_daysOfMonth rfl rfl rfl (by decide +kernel) ⟨Nat.le_of_ble_eq_true rfl, Nat.le_of_ble_eq_true rfl⟩) hK hE hA hM rfl hl.1 rfl (Nat.le_of_ble_eq_true rfl) dX5_dateCode_54 ⟨Nat.le_of_ble_eq_true rfl, Nat.le_of_ble_eq_true rfl⟩ (fun v f1 Hp lcs hp hM => ?_)
          obtain ⟨rfl, hf⟩ := hp; subst hf
          refine mv_top (daysF_nI (by omega)) ?_
          refine ln_isub lf (daysN y m) (by omega) hx hb dX5_dateCode_57 ?_
          refine mv_top (y := (nI (lf - daysN y m))) (congrArg nI (by omega)) ?_
          refine lv_istore_n (lv' := [(1, .int (nI (lf - daysN y m))), (0, .int (nI x)), (2, .int (nI y)), (3, .int (nI m))]) hx hb dX5_dateCode_58 rfl hl (by decide) rfl (fun ls hl => ?_)
          refine lv_iinc (v := (nI (m + 1))) (lv' := [(3, .int (nI (m + 1))), (1, .int (nI (lf - daysN y m))), (0, .int (nI x)), (2, .int (nI y))]) hx hb dX5_dateCode_59 hl (k := 3) rfl (nI_add _ _) (by decide) rfl (fun ls hl => ?_)
          refine lv_goto (tgt := 36) hx hb dX5_dateCode_62 (by decide) ?_
          exact ihB (lf - daysN y m) (m + 1) _ _ ls (by omega) (by omega) (mo_next hm1 cz2 hrem) (fun k hk => (codG_mo1 cz2 (by omega) hk (Nat.lt_succ_self lf)).trans (hfin _ (Nat.lt_succ_self lf))) (by omega) hM (lv_sub hl [2, 1, 3, 0] rfl)
      refine lv_iload_n hx hb dX5_dateCode_6 rfl (lv_at hl 2 rfl) ?_
      refine lv_sipush (v := (nI 2099)) hx hb dX5_dateCode_7 (by decide +kernel) ?_
      refine ln_icmp_ge y 2099 (by omega) (by omega) (tgt := 34) hx hb dX5_dateCode_10 (by decide) (fun cz3 => ?_) (fun cz3 => ?_)
      · refine lv_iconst (v := (nI 1)) hx hb dX5_dateCode_34 (by decide +kernel) ?_
        refine lv_istore_n (lv' := [(3, .int (nI 1)), (0, .int (nI x)), (1, .int (nI lf)), (2, .int (nI y))]) hx hb dX5_dateCode_35 rfl hl (by decide) rfl (fun ls hl => ?_)
        exact loopZ (lf + 1) lf 1 _ _ ls (by omega) (by omega) (lf_end hsum hx6 (by omega)) hfin (by omega) hM (lv_sub hl [1, 2, 3, 0] rfl)
      refine lv_iload_n hx hb dX5_dateCode_13 rfl (lv_at hl 1 rfl) ?_
      refine lv_iload_n hx hb dX5_dateCode_14 rfl (lv_at hl 2 rfl) ?_
      refine mm_S (As := [.int (nI y)]) (rest := [.int (nI lf)]) ⟨hx, hb, hml, hown, hts⟩ (c5_daysOfYear l G _ y) (va_cwS 1 hts gX5_dateCode_X5_daysOfYear rfl rfl rfl (by decide +kernel) ⟨Nat.le_of_ble_eq_true rfl, Nat.le_of_ble_eq_true rfl⟩) hK hE hA hM rfl hl.1 rfl (Nat.le_of_ble_eq_true rfl) dX5_dateCode_15 ⟨Nat.le_of_ble_eq_true rfl, Nat.le_of_ble_eq_true rfl⟩ (fun v f1 Hp lcs hp hM => ?_)
      obtain ⟨rfl, hf⟩ := hp; subst hf
      refine ln_icmp_lt lf (ydN y) (by omega) (by omega) (tgt := 34) hx hb dX5_dateCode_18 (by decide) (fun cz4 => ?_) (fun cz4 => ?_)
      · refine lv_iconst (v := (nI 1)) hx hb dX5_dateCode_34 (by decide +kernel) ?_
        refine lv_istore_n (lv' := [(3, .int (nI 1)), (0, .int (nI x)), (1, .int (nI lf)), (2, .int (nI y))]) hx hb dX5_dateCode_35 rfl hl (by decide) rfl (fun ls hl => ?_)
        exact loopZ (lf + 1) lf 1 _ _ ls (by omega) (by omega) ((by rw [moN]; omega)) hfin (by omega) hM (lv_sub hl [1, 2, 3, 0] rfl)
      refine lv_iload_n hx hb dX5_dateCode_21 rfl (lv_at hl 1 rfl) ?_
      refine lv_iload_n hx hb dX5_dateCode_22 rfl (lv_at hl 2 rfl) ?_
      refine mm_S (As := [.int (nI y)]) (rest := [.int (nI lf)]) ⟨hx, hb, hml, hown, hts⟩ (c5_daysOfYear l G _ y) (va_cwS 1 hts gX5_dateCode_X5_daysOfYear rfl rfl rfl (by decide +kernel) ⟨Nat.le_of_ble_eq_true rfl, Nat.le_of_ble_eq_true rfl⟩) hK hE hA hM rfl hl.1 rfl (Nat.le_of_ble_eq_true rfl) dX5_dateCode_23 ⟨Nat.le_of_ble_eq_true rfl, Nat.le_of_ble_eq_true rfl⟩ (fun v f1 Hp lcs hp hM => ?_)
      obtain ⟨rfl, hf⟩ := hp; subst hf
      refine ln_isub lf (ydN y) (by omega) hx hb dX5_dateCode_26 ?_
      refine mv_top (y := (nI (lf - ydN y))) (congrArg nI (by omega)) ?_
      refine lv_istore_n (lv' := [(1, .int (nI (lf - ydN y))), (0, .int (nI x)), (2, .int (nI y))]) hx hb dX5_dateCode_27 rfl hl (by decide) rfl (fun ls hl => ?_)
      refine lv_iinc (v := (nI (y + 1))) (lv' := [(2, .int (nI (y + 1))), (1, .int (nI (lf - ydN y))), (0, .int (nI x))]) hx hb dX5_dateCode_28 hl (k := 2) rfl (nI_add _ _) (by decide) rfl (fun ls hl => ?_)
      refine lv_goto (tgt := 6) hx hb dX5_dateCode_31 (by decide) ?_
      exact ih (lf - ydN y) (y + 1) _ _ ls (by omega) (by omega) (yr_next hy1 cz4 hsum) (fun k hk => (codG_year cz4 hk (Nat.lt_succ_self lf)).trans (hfin _ (Nat.lt_succ_self lf))) (by omega) hM (lv_sub hl [2, 1, 0] rfl)
  exact loopY (x + 1) x 1900 _ _ ls (by omega) (by omega) rfl (fun k hk => codG_st hk (by omega)) (by omega) hM (lv_sub hl [2, 1, 0] rfl)

