/-! THE CLASS: ranges, regions, tokens -/
def bitB (x y : Int32) : Bool := decide ((x >>> (y &&& 31)) &&& 1 = 1)
set_option maxHeartbeats 4000000 in
set_option maxRecDepth 100000 in
theorem c5_lowestOf (l : Launch) (G : mG) (f : mE) (k : Int32) : mC l G yX5_lowestOf wsX5_lowestOf ({ frames := 0, cells := 0, slots := 0, locals := 0 } : Room) f [.int k] (fun v f1 => v = some (.int (leastF k)) ∧ f = f1) 0 0 := by
  refine mC.of (cc := cX5_lowestOf) (maxL := 1) (ret := (some .int)) (by decide) rfl (Nat.le_of_ble_eq_true rfl) ?_
  intro pgm env s mt args below meth c A ls hx hb hml hr hlocks hown hname hts hK hE hA hM hl
  have hl : lv_has ls 1 [(0, .int k)] := hl
  refine lv_iload_n hx hb dX5_lowestOf_0 rfl (lv_at hl 0 rfl) ?_
  refine lv_iconst (v := (nI 4)) hx hb dX5_lowestOf_1 (by decide +kernel) ?_
  refine lv_icmp_ge (tgt := 11) hx hb dX5_lowestOf_2 (by decide) (fun cz1 => ?_) (fun cz1 => ?_)
  · refine lv_iconst (v := (nI 0)) hx hb dX5_lowestOf_11 (by decide +kernel) ?_
    exact mm_iret hx hb hlocks hr (Nat.le_of_ble_eq_true rfl) (Nat.le_of_ble_eq_true rfl) hM (ret_v (by simp_all [leastF, nI_lit])) dX5_lowestOf_12
  refine lv_sipush (v := (-9999)) hx hb dX5_lowestOf_5 (by decide +kernel) ?_
  refine lv_goto (tgt := 12) hx hb dX5_lowestOf_8 (by decide) ?_
  exact mm_iret hx hb hlocks hr (Nat.le_of_ble_eq_true rfl) (Nat.le_of_ble_eq_true rfl) hM (ret_v (by simp_all [leastF, nI_lit])) dX5_lowestOf_12
set_option maxHeartbeats 4000000 in
set_option maxRecDepth 100000 in
theorem c5_highestOf (l : Launch) (G : mG) (f : mE) (k : Int32) : mC l G yX5_highestOf wsX5_highestOf ({ frames := 0, cells := 0, slots := 0, locals := 0 } : Room) f [.int k] (fun v f1 => v = some (.int (greatestF k)) ∧ f = f1) 0 0 := by
  refine mC.of (cc := cX5_highestOf) (maxL := 1) (ret := (some .int)) (by decide) rfl (Nat.le_of_ble_eq_true rfl) ?_
  intro pgm env s mt args below meth c A ls hx hb hml hr hlocks hown hname hts hK hE hA hM hl
  have hl : lv_has ls 1 [(0, .int k)] := hl
  refine lv_iload_n hx hb dX5_highestOf_0 rfl (lv_at hl 0 rfl) ?_
  refine lv_iconst (v := (nI 4)) hx hb dX5_highestOf_1 (by decide +kernel) ?_
  refine lv_icmp_ge (tgt := 11) hx hb dX5_highestOf_2 (by decide) (fun cz1 => ?_) (fun cz1 => ?_)
  · refine lv_ldcw (v := (nI 73048)) hx hb hown (hts (.constant RX5 293 (73048)) (List.mem_of_getElem? (i := 1) rfl)) dX5_highestOf_11 ?_
    exact mm_iret hx hb hlocks hr (Nat.le_of_ble_eq_true rfl) (Nat.le_of_ble_eq_true rfl) hM (ret_v (by simp_all [greatestF, nI_lit])) dX5_highestOf_14
  refine lv_sipush (v := (nI 9999)) hx hb dX5_highestOf_5 (by decide +kernel) ?_
  refine lv_goto (tgt := 14) hx hb dX5_highestOf_8 (by decide) ?_
  exact mm_iret hx hb hlocks hr (Nat.le_of_ble_eq_true rfl) (Nat.le_of_ble_eq_true rfl) hM (ret_v (by simp_all [greatestF, nI_lit])) dX5_highestOf_14
set_option maxHeartbeats 4000000 in
set_option maxRecDepth 100000 in
theorem c5_isFact (l : Launch) (G : mG) (f : mE) (k : Int32) : mC l G yX5_isFact wsX5_isFact ({ frames := 0, cells := 0, slots := 0, locals := 0 } : Room) f [.int k] (fun v f1 => v = some (.int (bI (inB k 0 6))) ∧ f = f1) 0 0 := by
  refine mC.of (cc := cX5_isFact) (maxL := 1) (ret := (some .boolean)) (by decide) rfl (Nat.le_of_ble_eq_true rfl) ?_
  intro pgm env s mt args below meth c A ls hx hb hml hr hlocks hown hname hts hK hE hA hM hl
  have hl : lv_has ls 1 [(0, .int k)] := hl
  refine lv_iload_n hx hb dX5_isFact_0 rfl (lv_at hl 0 rfl) ?_
  refine lv_if_lt (tgt := 14) hx hb dX5_isFact_1 (by decide) (fun cz1 => ?_) (fun cz1 => ?_)
  · refine lv_iconst (v := (nI 0)) hx hb dX5_isFact_14 (by decide +kernel) ?_
    exact mm_zret hx hb hlocks hr (by first | rfl | exact bI_nar _) (Nat.le_of_ble_eq_true rfl) (Nat.le_of_ble_eq_true rfl) hM (ret_f (by have hq : ¬ (0 ≤ k) := Int32.not_le.mpr cz1; simp [inB, hq])) dX5_isFact_15
  refine lv_iload_n hx hb dX5_isFact_4 rfl (lv_at hl 0 rfl) ?_
  refine lv_bipush (v := (nI 7)) hx hb dX5_isFact_5 (by decide +kernel) ?_
  refine lv_icmp_ge (tgt := 14) hx hb dX5_isFact_7 (by decide) (fun cz2 => ?_) (fun cz2 => ?_)
  · refine lv_iconst (v := (nI 0)) hx hb dX5_isFact_14 (by decide +kernel) ?_
    exact mm_zret hx hb hlocks hr (by first | rfl | exact bI_nar _) (Nat.le_of_ble_eq_true rfl) (Nat.le_of_ble_eq_true rfl) hM (ret_f (by have hq : ¬ (k ≤ 6) := fun z => (lt_nI k 6 (by decide)).mpr z cz2; simp [inB, hq])) dX5_isFact_15
  refine lv_iconst (v := (nI 1)) hx hb dX5_isFact_10 (by decide +kernel) ?_
  refine lv_goto (tgt := 15) hx hb dX5_isFact_11 (by decide) ?_
  exact mm_zret hx hb hlocks hr (by first | rfl | exact bI_nar _) (Nat.le_of_ble_eq_true rfl) (Nat.le_of_ble_eq_true rfl) hM (ret_t (by have hq := (lt_nI k 6 (by decide)).mp cz2; simp only [inB, Bool.and_eq_true, decide_eq_true_eq]; exact ⟨Int32.not_lt.mp cz1, hq⟩)) dX5_isFact_15
set_option maxHeartbeats 4000000 in
set_option maxRecDepth 100000 in
theorem c5_isResult (l : Launch) (G : mG) (f : mE) (k : Int32) : mC l G yX5_isResult wsX5_isResult ({ frames := 0, cells := 0, slots := 0, locals := 0 } : Room) f [.int k] (fun v f1 => v = some (.int (bI (inB k 0 3))) ∧ f = f1) 0 0 := by
  refine mC.of (cc := cX5_isResult) (maxL := 1) (ret := (some .boolean)) (by decide) rfl (Nat.le_of_ble_eq_true rfl) ?_
  intro pgm env s mt args below meth c A ls hx hb hml hr hlocks hown hname hts hK hE hA hM hl
  have hl : lv_has ls 1 [(0, .int k)] := hl
  refine lv_iload_n hx hb dX5_isResult_0 rfl (lv_at hl 0 rfl) ?_
  refine lv_if_lt (tgt := 13) hx hb dX5_isResult_1 (by decide) (fun cz1 => ?_) (fun cz1 => ?_)
  · refine lv_iconst (v := (nI 0)) hx hb dX5_isResult_13 (by decide +kernel) ?_
    exact mm_zret hx hb hlocks hr (by first | rfl | exact bI_nar _) (Nat.le_of_ble_eq_true rfl) (Nat.le_of_ble_eq_true rfl) hM (ret_f (by have hq : ¬ (0 ≤ k) := Int32.not_le.mpr cz1; simp [inB, hq])) dX5_isResult_14
  refine lv_iload_n hx hb dX5_isResult_4 rfl (lv_at hl 0 rfl) ?_
  refine lv_iconst (v := (nI 4)) hx hb dX5_isResult_5 (by decide +kernel) ?_
  refine lv_icmp_ge (tgt := 13) hx hb dX5_isResult_6 (by decide) (fun cz2 => ?_) (fun cz2 => ?_)
  · refine lv_iconst (v := (nI 0)) hx hb dX5_isResult_13 (by decide +kernel) ?_
    exact mm_zret hx hb hlocks hr (by first | rfl | exact bI_nar _) (Nat.le_of_ble_eq_true rfl) (Nat.le_of_ble_eq_true rfl) hM (ret_f (by have hq : ¬ (k ≤ 3) := fun z => (lt_nI k 3 (by decide)).mpr z cz2; simp [inB, hq])) dX5_isResult_14
  refine lv_iconst (v := (nI 1)) hx hb dX5_isResult_9 (by decide +kernel) ?_
  refine lv_goto (tgt := 14) hx hb dX5_isResult_10 (by decide) ?_
  exact mm_zret hx hb hlocks hr (by first | rfl | exact bI_nar _) (Nat.le_of_ble_eq_true rfl) (Nat.le_of_ble_eq_true rfl) hM (ret_t (by have hq := (lt_nI k 3 (by decide)).mp cz2; simp only [inB, Bool.and_eq_true, decide_eq_true_eq]; exact ⟨Int32.not_lt.mp cz1, hq⟩)) dX5_isResult_14
set_option maxHeartbeats 4000000 in
set_option maxRecDepth 100000 in
theorem c5_isDefinable (l : Launch) (G : mG) (f : mE) (k : Int32) : mC l G yX5_isDefinable wsX5_isDefinable ({ frames := 0, cells := 0, slots := 0, locals := 0 } : Room) f [.int k] (fun v f1 => v = some (.int (bI (inB k 0 5))) ∧ f = f1) 0 0 := by
  refine mC.of (cc := cX5_isDefinable) (maxL := 1) (ret := (some .boolean)) (by decide) rfl (Nat.le_of_ble_eq_true rfl) ?_
  intro pgm env s mt args below meth c A ls hx hb hml hr hlocks hown hname hts hK hE hA hM hl
  have hl : lv_has ls 1 [(0, .int k)] := hl
  refine lv_iload_n hx hb dX5_isDefinable_0 rfl (lv_at hl 0 rfl) ?_
  refine lv_if_lt (tgt := 14) hx hb dX5_isDefinable_1 (by decide) (fun cz1 => ?_) (fun cz1 => ?_)
  · refine lv_iconst (v := (nI 0)) hx hb dX5_isDefinable_14 (by decide +kernel) ?_
    exact mm_zret hx hb hlocks hr (by first | rfl | exact bI_nar _) (Nat.le_of_ble_eq_true rfl) (Nat.le_of_ble_eq_true rfl) hM (ret_f (by have hq : ¬ (0 ≤ k) := Int32.not_le.mpr cz1; simp [inB, hq])) dX5_isDefinable_15
  refine lv_iload_n hx hb dX5_isDefinable_4 rfl (lv_at hl 0 rfl) ?_
  refine lv_bipush (v := (nI 6)) hx hb dX5_isDefinable_5 (by decide +kernel) ?_
  refine lv_icmp_ge (tgt := 14) hx hb dX5_isDefinable_7 (by decide) (fun cz2 => ?_) (fun cz2 => ?_)
  · refine lv_iconst (v := (nI 0)) hx hb dX5_isDefinable_14 (by decide +kernel) ?_
    exact mm_zret hx hb hlocks hr (by first | rfl | exact bI_nar _) (Nat.le_of_ble_eq_true rfl) (Nat.le_of_ble_eq_true rfl) hM (ret_f (by have hq : ¬ (k ≤ 5) := fun z => (lt_nI k 5 (by decide)).mpr z cz2; simp [inB, hq])) dX5_isDefinable_15
  refine lv_iconst (v := (nI 1)) hx hb dX5_isDefinable_10 (by decide +kernel) ?_
  refine lv_goto (tgt := 15) hx hb dX5_isDefinable_11 (by decide) ?_
  exact mm_zret hx hb hlocks hr (by first | rfl | exact bI_nar _) (Nat.le_of_ble_eq_true rfl) (Nat.le_of_ble_eq_true rfl) hM (ret_t (by have hq := (lt_nI k 5 (by decide)).mp cz2; simp only [inB, Bool.and_eq_true, decide_eq_true_eq]; exact ⟨Int32.not_lt.mp cz1, hq⟩)) dX5_isDefinable_15
set_option maxHeartbeats 4000000 in
set_option maxRecDepth 100000 in
theorem c5_isNumber (l : Launch) (G : mG) (f : mE) (k : Int32) : mC l G yX5_isNumber wsX5_isNumber ({ frames := 0, cells := 0, slots := 0, locals := 0 } : Room) f [.int k] (fun v f1 => v = some (.int (bI (inB k (-9999) 9999))) ∧ f = f1) 0 0 := by
  refine mC.of (cc := cX5_isNumber) (maxL := 1) (ret := (some .boolean)) (by decide) rfl (Nat.le_of_ble_eq_true rfl) ?_
  intro pgm env s mt args below meth c A ls hx hb hml hr hlocks hown hname hts hK hE hA hM hl
  have hl : lv_has ls 1 [(0, .int k)] := hl
  refine lv_iload_n hx hb dX5_isNumber_0 rfl (lv_at hl 0 rfl) ?_
  refine lv_sipush (v := (-9999)) hx hb dX5_isNumber_1 (by decide +kernel) ?_
  refine lv_icmp_lt (tgt := 18) hx hb dX5_isNumber_4 (by decide) (fun cz1 => ?_) (fun cz1 => ?_)
  · refine lv_iconst (v := (nI 0)) hx hb dX5_isNumber_18 (by decide +kernel) ?_
    exact mm_zret hx hb hlocks hr (by first | rfl | exact bI_nar _) (Nat.le_of_ble_eq_true rfl) (Nat.le_of_ble_eq_true rfl) hM (ret_f (inB_f1 cz1)) dX5_isNumber_19
  refine lv_iload_n hx hb dX5_isNumber_7 rfl (lv_at hl 0 rfl) ?_
  refine lv_sipush (v := (nI 9999)) hx hb dX5_isNumber_8 (by decide +kernel) ?_
  refine lv_icmp_gt (tgt := 18) hx hb dX5_isNumber_11 (by decide) (fun cz2 => ?_) (fun cz2 => ?_)
  · refine lv_iconst (v := (nI 0)) hx hb dX5_isNumber_18 (by decide +kernel) ?_
    exact mm_zret hx hb hlocks hr (by first | rfl | exact bI_nar _) (Nat.le_of_ble_eq_true rfl) (Nat.le_of_ble_eq_true rfl) hM (ret_f (inB_f2 cz2)) dX5_isNumber_19
  refine lv_iconst (v := (nI 1)) hx hb dX5_isNumber_14 (by decide +kernel) ?_
  refine lv_goto (tgt := 19) hx hb dX5_isNumber_15 (by decide) ?_
  exact mm_zret hx hb hlocks hr (by first | rfl | exact bI_nar _) (Nat.le_of_ble_eq_true rfl) (Nat.le_of_ble_eq_true rfl) hM (ret_t (inB_t cz1 cz2)) dX5_isNumber_19
set_option maxHeartbeats 4000000 in
set_option maxRecDepth 100000 in
theorem c5_isBetween (l : Launch) (G : mG) (f : mE) (x y z : Int32) : mC l G yX5_isBetween wsX5_isBetween ({ frames := 0, cells := 0, slots := 0, locals := 0 } : Room) f [.int x, .int y, .int z] (fun v f1 => v = some (.int (bI (inB y x z))) ∧ f = f1) 0 0 := by
  refine mC.of (cc := cX5_isBetween) (maxL := 3) (ret := (some .boolean)) (by decide) rfl (Nat.le_of_ble_eq_true rfl) ?_
  intro pgm env s mt args below meth c A ls hx hb hml hr hlocks hown hname hts hK hE hA hM hl
  have hl : lv_has ls 3 [(0, .int x), (1, .int y), (2, .int z)] := hl
  refine lv_iload_n hx hb dX5_isBetween_0 rfl (lv_at hl 1 rfl) ?_
  refine lv_iload_n hx hb dX5_isBetween_1 rfl (lv_at hl 0 rfl) ?_
  refine lv_icmp_lt (tgt := 14) hx hb dX5_isBetween_2 (by decide) (fun cz1 => ?_) (fun cz1 => ?_)
  · refine lv_iconst (v := (nI 0)) hx hb dX5_isBetween_14 (by decide +kernel) ?_
    exact mm_zret hx hb hlocks hr (by first | rfl | exact bI_nar _) (Nat.le_of_ble_eq_true rfl) (Nat.le_of_ble_eq_true rfl) hM (ret_f (inB_f1 cz1)) dX5_isBetween_15
  refine lv_iload_n hx hb dX5_isBetween_5 rfl (lv_at hl 1 rfl) ?_
  refine lv_iload_n hx hb dX5_isBetween_6 rfl (lv_at hl 2 rfl) ?_
  refine lv_icmp_gt (tgt := 14) hx hb dX5_isBetween_7 (by decide) (fun cz2 => ?_) (fun cz2 => ?_)
  · refine lv_iconst (v := (nI 0)) hx hb dX5_isBetween_14 (by decide +kernel) ?_
    exact mm_zret hx hb hlocks hr (by first | rfl | exact bI_nar _) (Nat.le_of_ble_eq_true rfl) (Nat.le_of_ble_eq_true rfl) hM (ret_f (inB_f2 cz2)) dX5_isBetween_15
  refine lv_iconst (v := (nI 1)) hx hb dX5_isBetween_10 (by decide +kernel) ?_
  refine lv_goto (tgt := 15) hx hb dX5_isBetween_11 (by decide) ?_
  exact mm_zret hx hb hlocks hr (by first | rfl | exact bI_nar _) (Nat.le_of_ble_eq_true rfl) (Nat.le_of_ble_eq_true rfl) hM (ret_t (inB_t cz1 cz2)) dX5_isBetween_15
set_option maxHeartbeats 4000000 in
set_option maxRecDepth 100000 in
theorem c5_isValueOf (l : Launch) (G : mG) (f : mE) (k x : Int32) : mC l G yX5_isValueOf wsX5_isValueOf ({ frames := 1, cells := 0, slots := 0, locals := 20 } : Room) f [.int k, .int x] (fun v f1 => v = some (.int (bI (inB x (leastF k) (greatestF k)))) ∧ f = f1) 0 0 := by
  refine mC.of (cc := cX5_isValueOf) (maxL := 2) (ret := (some .boolean)) (by decide) rfl (Nat.le_of_ble_eq_true rfl) ?_
  intro pgm env s mt args below meth c A ls hx hb hml hr hlocks hown hname hts hK hE hA hM hl
  have hl : lv_has ls 2 [(0, .int k), (1, .int x)] := hl
  refine lv_iload_n hx hb dX5_isValueOf_0 rfl (lv_at hl 1 rfl) ?_
  refine lv_iload_n hx hb dX5_isValueOf_1 rfl (lv_at hl 0 rfl) ?_
  refine mm_S (As := [.int k]) (rest := [.int x]) ⟨hx, hb, hml, hown, hts⟩ (c5_lowestOf l G _ k) (va_cwS 1 hts gX5_isValueOf_X5_lowestOf rfl rfl rfl (by decide +kernel) ⟨Nat.le_of_ble_eq_true rfl, Nat.le_of_ble_eq_true rfl⟩) hK hE hA hM rfl hl.1 rfl (Nat.le_of_ble_eq_true rfl) dX5_isValueOf_2 ⟨Nat.le_of_ble_eq_true rfl, Nat.le_of_ble_eq_true rfl⟩ (fun v f1 Hp lcs hp hM => ?_)
  obtain ⟨rfl, hf⟩ := hp; subst hf
  refine lv_icmp_lt (tgt := 20) hx hb dX5_isValueOf_5 (by decide) (fun cz1 => ?_) (fun cz1 => ?_)
  · refine lv_iconst (v := (nI 0)) hx hb dX5_isValueOf_20 (by decide +kernel) ?_
    exact mm_zret hx hb hlocks hr (by first | rfl | exact bI_nar _) (Nat.le_of_ble_eq_true rfl) (Nat.le_of_ble_eq_true rfl) hM (ret_f (inB_f1 cz1)) dX5_isValueOf_21
  refine lv_iload_n hx hb dX5_isValueOf_8 rfl (lv_at hl 1 rfl) ?_
  refine lv_iload_n hx hb dX5_isValueOf_9 rfl (lv_at hl 0 rfl) ?_
  refine mm_S (As := [.int k]) (rest := [.int x]) ⟨hx, hb, hml, hown, hts⟩ (c5_highestOf l G _ k) (va_cwS 1 hts gX5_isValueOf_X5_highestOf rfl rfl rfl (by decide +kernel) ⟨Nat.le_of_ble_eq_true rfl, Nat.le_of_ble_eq_true rfl⟩) hK hE hA hM rfl hl.1 rfl (Nat.le_of_ble_eq_true rfl) dX5_isValueOf_10 ⟨Nat.le_of_ble_eq_true rfl, Nat.le_of_ble_eq_true rfl⟩ (fun v f1 Hp lcs hp hM => ?_)
  obtain ⟨rfl, hf⟩ := hp; subst hf
  refine lv_icmp_gt (tgt := 20) hx hb dX5_isValueOf_13 (by decide) (fun cz2 => ?_) (fun cz2 => ?_)
  · refine lv_iconst (v := (nI 0)) hx hb dX5_isValueOf_20 (by decide +kernel) ?_
    exact mm_zret hx hb hlocks hr (by first | rfl | exact bI_nar _) (Nat.le_of_ble_eq_true rfl) (Nat.le_of_ble_eq_true rfl) hM (ret_f (inB_f2 cz2)) dX5_isValueOf_21
  refine lv_iconst (v := (nI 1)) hx hb dX5_isValueOf_16 (by decide +kernel) ?_
  refine lv_goto (tgt := 21) hx hb dX5_isValueOf_17 (by decide) ?_
  exact mm_zret hx hb hlocks hr (by first | rfl | exact bI_nar _) (Nat.le_of_ble_eq_true rfl) (Nat.le_of_ble_eq_true rfl) hM (ret_t (inB_t cz1 cz2)) dX5_isValueOf_21
set_option maxHeartbeats 4000000 in
set_option maxRecDepth 100000 in
theorem c5_isBitSet (l : Launch) (G : mG) (f : mE) (x y : Int32) : mC l G yX5_isBitSet wsX5_isBitSet ({ frames := 0, cells := 0, slots := 0, locals := 0 } : Room) f [.int x, .int y] (fun v f1 => v = some (.int (bI (bitB x y))) ∧ f = f1) 0 0 := by
  refine mC.of (cc := cX5_isBitSet) (maxL := 2) (ret := (some .boolean)) (by decide) rfl (Nat.le_of_ble_eq_true rfl) ?_
  intro pgm env s mt args below meth c A ls hx hb hml hr hlocks hown hname hts hK hE hA hM hl
  have hl : lv_has ls 2 [(0, .int x), (1, .int y)] := hl
  refine lv_iload_n hx hb dX5_isBitSet_0 rfl (lv_at hl 0 rfl) ?_
  refine lv_iload_n hx hb dX5_isBitSet_1 rfl (lv_at hl 1 rfl) ?_
  refine lv_ishr hx hb dX5_isBitSet_2 ?_
  refine lv_iconst (v := (nI 1)) hx hb dX5_isBitSet_3 (by decide +kernel) ?_
  refine lv_iand hx hb dX5_isBitSet_4 ?_
  refine lv_iconst (v := (nI 1)) hx hb dX5_isBitSet_5 (by decide +kernel) ?_
  refine lv_icmp_ne (tgt := 13) hx hb dX5_isBitSet_6 (by decide) (fun cz1 => ?_) (fun cz1 => ?_)
  · refine lv_iconst (v := (nI 0)) hx hb dX5_isBitSet_13 (by decide +kernel) ?_
    exact mm_zret hx hb hlocks hr (by first | rfl | exact bI_nar _) (Nat.le_of_ble_eq_true rfl) (Nat.le_of_ble_eq_true rfl) hM (ret_f (by simp_all [bitB, nI_lit])) dX5_isBitSet_14
  refine lv_iconst (v := (nI 1)) hx hb dX5_isBitSet_9 (by decide +kernel) ?_
  refine lv_goto (tgt := 14) hx hb dX5_isBitSet_10 (by decide) ?_
  exact mm_zret hx hb hlocks hr (by first | rfl | exact bI_nar _) (Nat.le_of_ble_eq_true rfl) (Nat.le_of_ble_eq_true rfl) hM (ret_t (by simp_all [bitB, nI_lit])) dX5_isBitSet_14
set_option maxHeartbeats 4000000 in
set_option maxRecDepth 100000 in
theorem c1_isInside (l : Launch) (G : mG) {f : mE} {r p q : Nat} {lo hi : Nat → Int32} (hc_r : f r = some (.inr (2, [.ref p, .ref q]))) (hc_p : f p = some (mI G 7 lo)) (hc_q : f q = some (mI G 7 hi)) {r2 p2 q2 : Nat} {lo2 hi2 : Nat → Int32} (hc_r2 : f r2 = some (.inr (2, [.ref p2, .ref q2]))) (hc_p2 : f p2 = some (mI G 7 lo2)) (hc_q2 : f q2 = some (mI G 7 hi2)) : mC l G yX1_isInside wsX1_isInside ({ frames := 0, cells := 0, slots := 0, locals := 0 } : Room) f [.ref r, .ref r2] (fun v f1 => v = some (.int (bI (allN (insR lo hi lo2 hi2) 7))) ∧ f = f1) 0 0 := by
  refine mC.of (cc := cX1_isInside) (maxL := 3) (ret := (some .boolean)) (by decide) rfl (Nat.le_of_ble_eq_true rfl) ?_
  intro pgm env s mt args below meth c A ls hx hb hml hr hlocks hown hname hts hK hE hA hM hl
  have hl : lv_has ls 3 [(0, .ref r), (1, .ref r2)] := hl
  refine lv_iconst (v := (nI 0)) hx hb dX1_isInside_0 (by decide +kernel) ?_
  refine lv_istore_n (lv' := [(2, .int (nI 0)), (0, .ref r), (1, .ref r2)]) hx hb dX1_isInside_1 rfl hl (by decide) rfl (fun ls hl => ?_)
  have loopZ : ∀ (fuel : Nat) (i : Nat) (Hp : Heap) (lcs : List Loc) (ls : Array Slot) (hiN : i ≤ 7) (hall : ∀ j, j < i → insR lo hi lo2 hi2 j = true) (hfu : 7 - i < fuel) (hM : mM G A s.heap f Hp lcs) (hl : lv_has ls 3 [(0, .ref r), (1, .ref r2), (2, .int (nI i))]), W pgm l env ({ frames := 0, cells := 0, slots := 0, locals := 0 } : Room) s mt args below meth c Hp lcs 0 0 (MQ below (mQc G A (fun v f1 => v = some (.int (bI (allN (insR lo hi lo2 hi2) 7))) ∧ f = f1)) args s 0 0 A) (F0 mt 2 ls []) := by
    intro fuel
    induction fuel with
    | zero => intro i Hp lcs ls hiN hall hfu; exact absurd hfu (Nat.not_lt_zero _)
    | succ fuel ih =>
      intro i Hp lcs ls hiN hall hfu hM hl
      refine lv_iload_n hx hb dX1_isInside_2 rfl (lv_at hl 2 rfl) ?_
      refine lv_bipush (v := (nI 7)) hx hb dX1_isInside_3 (by decide +kernel) ?_
      refine ln_icmp_ge i 7 (by omega) (by omega) (tgt := 46) hx hb dX1_isInside_5 (by decide) (fun cz1 => ?_) (fun cz1 => ?_)
      · refine lv_iconst (v := (nI 1)) hx hb dX1_isInside_46 (by decide +kernel) ?_
        exact mm_zret hx hb hlocks hr (by first | rfl | exact bI_nar _) (Nat.le_of_ble_eq_true rfl) (Nat.le_of_ble_eq_true rfl) hM (ret_t (by first | exact allN_iff.mpr (fun j hj => hall j (by omega)) | simp [allN_iff.mpr (fun j hj => hall j (by omega))])) dX1_isInside_47
      refine lv_aload_n hx hb dX1_isInside_8 rfl (lv_at hl 0 rfl) ?_
      refine mm_get (C := RX1) (T := TX1) (N := 2) (k := 0) hx hb hts (fun _ h => List.mem_cons_of_mem _ (List.mem_append_right _ h)) hown hK hM hc_r rfl (by decide) (hts (.fieldLink RX1 9 "SentenceRules$Region" "lows" "[I") (List.mem_of_getElem? (i := 1) rfl)) rfl rfl dX1_isInside_9 ?_
      refine lv_iload_n hx hb dX1_isInside_12 rfl (lv_at hl 2 rfl) ?_
      refine mn_iald hx hb hK hM hc_p i (by omega) (by decide) dX1_isInside_13 ?_
      refine lv_aload_n hx hb dX1_isInside_14 rfl (lv_at hl 1 rfl) ?_
      refine mm_get (C := RX1) (T := TX1) (N := 2) (k := 0) hx hb hts (fun _ h => List.mem_cons_of_mem _ (List.mem_append_right _ h)) hown hK hM hc_r2 rfl (by decide) (hts (.fieldLink RX1 9 "SentenceRules$Region" "lows" "[I") (List.mem_of_getElem? (i := 1) rfl)) rfl rfl dX1_isInside_15 ?_
      refine lv_iload_n hx hb dX1_isInside_18 rfl (lv_at hl 2 rfl) ?_
      refine mn_iald hx hb hK hM hc_p2 i (by omega) (by decide) dX1_isInside_19 ?_
      refine lv_icmp_lt (tgt := 38) hx hb dX1_isInside_20 (by decide) (fun cz2 => ?_) (fun cz2 => ?_)
      · refine lv_iconst (v := (nI 0)) hx hb dX1_isInside_38 (by decide +kernel) ?_
        exact mm_zret hx hb hlocks hr (by first | rfl | exact bI_nar _) (Nat.le_of_ble_eq_true rfl) (Nat.le_of_ble_eq_true rfl) hM (ret_f (allN_no (i := i) (by omega) (by simp [insR, cz1, cz2]))) dX1_isInside_39
      refine lv_aload_n hx hb dX1_isInside_23 rfl (lv_at hl 0 rfl) ?_
      refine mm_get (C := RX1) (T := TX1) (N := 2) (k := 1) hx hb hts (fun _ h => List.mem_cons_of_mem _ (List.mem_append_right _ h)) hown hK hM hc_r rfl (by decide) (hts (.fieldLink RX1 15 "SentenceRules$Region" "highs" "[I") (List.mem_of_getElem? (i := 2) rfl)) rfl rfl dX1_isInside_24 ?_
      refine lv_iload_n hx hb dX1_isInside_27 rfl (lv_at hl 2 rfl) ?_
      refine mn_iald hx hb hK hM hc_q i (by omega) (by decide) dX1_isInside_28 ?_
      refine lv_aload_n hx hb dX1_isInside_29 rfl (lv_at hl 1 rfl) ?_
      refine mm_get (C := RX1) (T := TX1) (N := 2) (k := 1) hx hb hts (fun _ h => List.mem_cons_of_mem _ (List.mem_append_right _ h)) hown hK hM hc_r2 rfl (by decide) (hts (.fieldLink RX1 15 "SentenceRules$Region" "highs" "[I") (List.mem_of_getElem? (i := 2) rfl)) rfl rfl dX1_isInside_30 ?_
      refine lv_iload_n hx hb dX1_isInside_33 rfl (lv_at hl 2 rfl) ?_
      refine mn_iald hx hb hK hM hc_q2 i (by omega) (by decide) dX1_isInside_34 ?_
      refine lv_icmp_le (tgt := 40) hx hb dX1_isInside_35 (by decide) (fun cz3 => ?_) (fun cz3 => ?_)
      · refine lv_iinc (v := (nI (i + 1))) (lv' := [(2, .int (nI (i + 1))), (0, .ref r), (1, .ref r2)]) hx hb dX1_isInside_40 hl (k := 2) rfl (nI_add _ _) (by decide) rfl (fun ls hl => ?_)
        refine lv_goto (tgt := 2) hx hb dX1_isInside_43 (by decide) ?_
        exact ih (i + 1) _ _ ls (by omega) (fun j hj => (Nat.lt_succ_iff_lt_or_eq.mp hj).elim (hall j) (fun z => by subst z; simp [insR, cz1, cz2, cz3])) (by omega) hM (lv_sub hl [1, 2, 0] rfl)
      refine lv_iconst (v := (nI 0)) hx hb dX1_isInside_38 (by decide +kernel) ?_
      exact mm_zret hx hb hlocks hr (by first | rfl | exact bI_nar _) (Nat.le_of_ble_eq_true rfl) (Nat.le_of_ble_eq_true rfl) hM (ret_f (allN_no (i := i) (by omega) (by simp [insR, cz1, cz2, cz3]))) dX1_isInside_39
  exact loopZ (7 + 1) 0 _ _ ls (Nat.zero_le _) (fun j hj => absurd hj (Nat.not_lt_zero j)) (by omega) hM (lv_sub hl [1, 2, 0] rfl)
set_option maxHeartbeats 4000000 in
set_option maxRecDepth 100000 in
theorem c1_isSameAs (l : Launch) (G : mG) {f : mE} {r p q : Nat} {lo hi : Nat → Int32} (hc_r : f r = some (.inr (2, [.ref p, .ref q]))) (hc_p : f p = some (mI G 7 lo)) (hc_q : f q = some (mI G 7 hi)) {r2 p2 q2 : Nat} {lo2 hi2 : Nat → Int32} (hc_r2 : f r2 = some (.inr (2, [.ref p2, .ref q2]))) (hc_p2 : f p2 = some (mI G 7 lo2)) (hc_q2 : f q2 = some (mI G 7 hi2)) : mC l G yX1_isSameAs wsX1_isSameAs ({ frames := 1, cells := 0, slots := 0, locals := 22 } : Room) f [.ref r, .ref r2] (fun v f1 => v = some (.int (bI (allN (insR lo hi lo2 hi2) 7 && allN (insR lo2 hi2 lo hi) 7))) ∧ f = f1) 0 0 := by
  refine mC.of (cc := cX1_isSameAs) (maxL := 2) (ret := (some .boolean)) (by decide) rfl (Nat.le_of_ble_eq_true rfl) ?_
  intro pgm env s mt args below meth c A ls hx hb hml hr hlocks hown hname hts hK hE hA hM hl
  have hl : lv_has ls 2 [(0, .ref r), (1, .ref r2)] := hl
  refine lv_aload_n hx hb dX1_isSameAs_0 rfl (lv_at hl 0 rfl) ?_
  refine lv_aload_n hx hb dX1_isSameAs_1 rfl (lv_at hl 1 rfl) ?_
  refine mm_V (As := [.ref r2]) (rest := []) ⟨hx, hb, hml, hown, hts⟩ (c1_isInside l G hc_r hc_p hc_q hc_r2 hc_p2 hc_q2) (cwV 1 hts gX1_isSameAs_X1_isInside rfl rfl rfl (by decide +kernel) ⟨Nat.le_of_ble_eq_true rfl, Nat.le_of_ble_eq_true rfl⟩) hK hE hA hM (mm_recv hK hM hc_r (q := (RX1, TX1, 2)) rfl) rfl hl.1 rfl (Nat.le_of_ble_eq_true rfl) dX1_isSameAs_2 ⟨Nat.le_of_ble_eq_true rfl, Nat.le_of_ble_eq_true rfl⟩ (fun v f1 Hp lcs hp hM => ?_)
  obtain ⟨rfl, hf⟩ := hp; subst hf
  refine lvb_eq (tgt := 20) hx hb dX1_isSameAs_5 (by decide) (fun cz1 => ?_) (fun cz1 => ?_)
  · refine lv_iconst (v := (nI 0)) hx hb dX1_isSameAs_20 (by decide +kernel) ?_
    exact mm_zret hx hb hlocks hr (by first | rfl | exact bI_nar _) (Nat.le_of_ble_eq_true rfl) (Nat.le_of_ble_eq_true rfl) hM (ret_f (by simp [bI, cz1])) dX1_isSameAs_21
  refine lv_aload_n hx hb dX1_isSameAs_8 rfl (lv_at hl 1 rfl) ?_
  refine lv_aload_n hx hb dX1_isSameAs_9 rfl (lv_at hl 0 rfl) ?_
  refine mm_V (As := [.ref r]) (rest := []) ⟨hx, hb, hml, hown, hts⟩ (c1_isInside l G hc_r2 hc_p2 hc_q2 hc_r hc_p hc_q) (cwV 1 hts gX1_isSameAs_X1_isInside rfl rfl rfl (by decide +kernel) ⟨Nat.le_of_ble_eq_true rfl, Nat.le_of_ble_eq_true rfl⟩) hK hE hA hM (mm_recv hK hM hc_r2 (q := (RX1, TX1, 2)) rfl) rfl hl.1 rfl (Nat.le_of_ble_eq_true rfl) dX1_isSameAs_10 ⟨Nat.le_of_ble_eq_true rfl, Nat.le_of_ble_eq_true rfl⟩ (fun v f1 Hp lcs hp hM => ?_)
  obtain ⟨rfl, hf⟩ := hp; subst hf
  refine lvb_eq (tgt := 20) hx hb dX1_isSameAs_13 (by decide) (fun cz2 => ?_) (fun cz2 => ?_)
  · refine lv_iconst (v := (nI 0)) hx hb dX1_isSameAs_20 (by decide +kernel) ?_
    exact mm_zret hx hb hlocks hr (by first | rfl | exact bI_nar _) (Nat.le_of_ble_eq_true rfl) (Nat.le_of_ble_eq_true rfl) hM (ret_f (by simp [bI, cz1, cz2])) dX1_isSameAs_21
  refine lv_iconst (v := (nI 1)) hx hb dX1_isSameAs_16 (by decide +kernel) ?_
  refine lv_goto (tgt := 21) hx hb dX1_isSameAs_17 (by decide) ?_
  exact mm_zret hx hb hlocks hr (by first | rfl | exact bI_nar _) (Nat.le_of_ble_eq_true rfl) (Nat.le_of_ble_eq_true rfl) hM (ret_t (by simp [bI, cz1, cz2])) dX1_isSameAs_21
set_option maxHeartbeats 4000000 in
set_option maxRecDepth 100000 in
theorem c1_isStrictlyInside (l : Launch) (G : mG) {f : mE} {r p q : Nat} {lo hi : Nat → Int32} (hc_r : f r = some (.inr (2, [.ref p, .ref q]))) (hc_p : f p = some (mI G 7 lo)) (hc_q : f q = some (mI G 7 hi)) {r2 p2 q2 : Nat} {lo2 hi2 : Nat → Int32} (hc_r2 : f r2 = some (.inr (2, [.ref p2, .ref q2]))) (hc_p2 : f p2 = some (mI G 7 lo2)) (hc_q2 : f q2 = some (mI G 7 hi2)) : mC l G yX1_isStrictlyInside wsX1_isStrictlyInside ({ frames := 1, cells := 0, slots := 0, locals := 22 } : Room) f [.ref r, .ref r2] (fun v f1 => v = some (.int (bI (allN (insR lo hi lo2 hi2) 7 && !allN (insR lo2 hi2 lo hi) 7))) ∧ f = f1) 0 0 := by
  refine mC.of (cc := cX1_isStrictlyInside) (maxL := 2) (ret := (some .boolean)) (by decide) rfl (Nat.le_of_ble_eq_true rfl) ?_
  intro pgm env s mt args below meth c A ls hx hb hml hr hlocks hown hname hts hK hE hA hM hl
  have hl : lv_has ls 2 [(0, .ref r), (1, .ref r2)] := hl
  refine lv_aload_n hx hb dX1_isStrictlyInside_0 rfl (lv_at hl 0 rfl) ?_
  refine lv_aload_n hx hb dX1_isStrictlyInside_1 rfl (lv_at hl 1 rfl) ?_
  refine mm_V (As := [.ref r2]) (rest := []) ⟨hx, hb, hml, hown, hts⟩ (c1_isInside l G hc_r hc_p hc_q hc_r2 hc_p2 hc_q2) (cwV 1 hts gX1_isStrictlyInside_X1_isInside rfl rfl rfl (by decide +kernel) ⟨Nat.le_of_ble_eq_true rfl, Nat.le_of_ble_eq_true rfl⟩) hK hE hA hM (mm_recv hK hM hc_r (q := (RX1, TX1, 2)) rfl) rfl hl.1 rfl (Nat.le_of_ble_eq_true rfl) dX1_isStrictlyInside_2 ⟨Nat.le_of_ble_eq_true rfl, Nat.le_of_ble_eq_true rfl⟩ (fun v f1 Hp lcs hp hM => ?_)
  obtain ⟨rfl, hf⟩ := hp; subst hf
  refine lvb_eq (tgt := 20) hx hb dX1_isStrictlyInside_5 (by decide) (fun cz1 => ?_) (fun cz1 => ?_)
  · refine lv_iconst (v := (nI 0)) hx hb dX1_isStrictlyInside_20 (by decide +kernel) ?_
    exact mm_zret hx hb hlocks hr (by first | rfl | exact bI_nar _) (Nat.le_of_ble_eq_true rfl) (Nat.le_of_ble_eq_true rfl) hM (ret_f (by simp [bI, cz1])) dX1_isStrictlyInside_21
  refine lv_aload_n hx hb dX1_isStrictlyInside_8 rfl (lv_at hl 1 rfl) ?_
  refine lv_aload_n hx hb dX1_isStrictlyInside_9 rfl (lv_at hl 0 rfl) ?_
  refine mm_V (As := [.ref r]) (rest := []) ⟨hx, hb, hml, hown, hts⟩ (c1_isInside l G hc_r2 hc_p2 hc_q2 hc_r hc_p hc_q) (cwV 1 hts gX1_isStrictlyInside_X1_isInside rfl rfl rfl (by decide +kernel) ⟨Nat.le_of_ble_eq_true rfl, Nat.le_of_ble_eq_true rfl⟩) hK hE hA hM (mm_recv hK hM hc_r2 (q := (RX1, TX1, 2)) rfl) rfl hl.1 rfl (Nat.le_of_ble_eq_true rfl) dX1_isStrictlyInside_10 ⟨Nat.le_of_ble_eq_true rfl, Nat.le_of_ble_eq_true rfl⟩ (fun v f1 Hp lcs hp hM => ?_)
  obtain ⟨rfl, hf⟩ := hp; subst hf
  refine lvb_ne (tgt := 20) hx hb dX1_isStrictlyInside_13 (by decide) (fun cz2 => ?_) (fun cz2 => ?_)
  · refine lv_iconst (v := (nI 0)) hx hb dX1_isStrictlyInside_20 (by decide +kernel) ?_
    exact mm_zret hx hb hlocks hr (by first | rfl | exact bI_nar _) (Nat.le_of_ble_eq_true rfl) (Nat.le_of_ble_eq_true rfl) hM (ret_f (by simp [bI, cz1, cz2])) dX1_isStrictlyInside_21
  refine lv_iconst (v := (nI 1)) hx hb dX1_isStrictlyInside_16 (by decide +kernel) ?_
  refine lv_goto (tgt := 21) hx hb dX1_isStrictlyInside_17 (by decide) ?_
  exact mm_zret hx hb hlocks hr (by first | rfl | exact bI_nar _) (Nat.le_of_ble_eq_true rfl) (Nat.le_of_ble_eq_true rfl) hM (ret_t (by simp [bI, cz1, cz2])) dX1_isStrictlyInside_21
set_option maxHeartbeats 4000000 in
set_option maxRecDepth 100000 in
theorem c1_meets (l : Launch) (G : mG) {f : mE} {r p q : Nat} {lo hi : Nat → Int32} (hc_r : f r = some (.inr (2, [.ref p, .ref q]))) (hc_p : f p = some (mI G 7 lo)) (hc_q : f q = some (mI G 7 hi)) {r2 p2 q2 : Nat} {lo2 hi2 : Nat → Int32} (hc_r2 : f r2 = some (.inr (2, [.ref p2, .ref q2]))) (hc_p2 : f p2 = some (mI G 7 lo2)) (hc_q2 : f q2 = some (mI G 7 hi2)) : mC l G yX1_meets wsX1_meets ({ frames := 1, cells := 0, slots := 0, locals := 21 } : Room) f [.ref r, .ref r2] (fun v f1 => v = some (.int (bI (allN (meeR lo hi lo2 hi2) 7))) ∧ f = f1) 0 0 := by
  refine mC.of (cc := cX1_meets) (maxL := 3) (ret := (some .boolean)) (by decide) rfl (Nat.le_of_ble_eq_true rfl) ?_
  intro pgm env s mt args below meth c A ls hx hb hml hr hlocks hown hname hts hK hE hA hM hl
  have hl : lv_has ls 3 [(0, .ref r), (1, .ref r2)] := hl
  refine lv_iconst (v := (nI 0)) hx hb dX1_meets_0 (by decide +kernel) ?_
  refine lv_istore_n (lv' := [(2, .int (nI 0)), (0, .ref r), (1, .ref r2)]) hx hb dX1_meets_1 rfl hl (by decide) rfl (fun ls hl => ?_)
  have loopZ : ∀ (fuel : Nat) (i : Nat) (Hp : Heap) (lcs : List Loc) (ls : Array Slot) (hiN : i ≤ 7) (hall : ∀ j, j < i → meeR lo hi lo2 hi2 j = true) (hfu : 7 - i < fuel) (hM : mM G A s.heap f Hp lcs) (hl : lv_has ls 3 [(0, .ref r), (1, .ref r2), (2, .int (nI i))]), W pgm l env ({ frames := 1, cells := 0, slots := 0, locals := 21 } : Room) s mt args below meth c Hp lcs 0 0 (MQ below (mQc G A (fun v f1 => v = some (.int (bI (allN (meeR lo hi lo2 hi2) 7))) ∧ f = f1)) args s 0 0 A) (F0 mt 2 ls []) := by
    intro fuel
    induction fuel with
    | zero => intro i Hp lcs ls hiN hall hfu; exact absurd hfu (Nat.not_lt_zero _)
    | succ fuel ih =>
      intro i Hp lcs ls hiN hall hfu hM hl
      refine lv_iload_n hx hb dX1_meets_2 rfl (lv_at hl 2 rfl) ?_
      refine lv_bipush (v := (nI 7)) hx hb dX1_meets_3 (by decide +kernel) ?_
      refine ln_icmp_ge i 7 (by omega) (by omega) (tgt := 49) hx hb dX1_meets_5 (by decide) (fun cz1 => ?_) (fun cz1 => ?_)
      · refine lv_iconst (v := (nI 1)) hx hb dX1_meets_49 (by decide +kernel) ?_
        exact mm_zret hx hb hlocks hr (by first | rfl | exact bI_nar _) (Nat.le_of_ble_eq_true rfl) (Nat.le_of_ble_eq_true rfl) hM (ret_t (by first | exact allN_iff.mpr (fun j hj => hall j (by omega)) | simp [allN_iff.mpr (fun j hj => hall j (by omega))])) dX1_meets_50
      refine lv_aload_n hx hb dX1_meets_8 rfl (lv_at hl 0 rfl) ?_
      refine mm_get (C := RX1) (T := TX1) (N := 2) (k := 0) hx hb hts (fun _ h => List.mem_cons_of_mem _ (List.mem_append_right _ h)) hown hK hM hc_r rfl (by decide) (hts (.fieldLink RX1 9 "SentenceRules$Region" "lows" "[I") (List.mem_of_getElem? (i := 1) rfl)) rfl rfl dX1_meets_9 ?_
      refine lv_iload_n hx hb dX1_meets_12 rfl (lv_at hl 2 rfl) ?_
      refine mn_iald hx hb hK hM hc_p i (by omega) (by decide) dX1_meets_13 ?_
      refine lv_aload_n hx hb dX1_meets_14 rfl (lv_at hl 1 rfl) ?_
      refine mm_get (C := RX1) (T := TX1) (N := 2) (k := 0) hx hb hts (fun _ h => List.mem_cons_of_mem _ (List.mem_append_right _ h)) hown hK hM hc_r2 rfl (by decide) (hts (.fieldLink RX1 9 "SentenceRules$Region" "lows" "[I") (List.mem_of_getElem? (i := 1) rfl)) rfl rfl dX1_meets_15 ?_
      refine lv_iload_n hx hb dX1_meets_18 rfl (lv_at hl 2 rfl) ?_
      refine mn_iald hx hb hK hM hc_p2 i (by omega) (by decide) dX1_meets_19 ?_
      refine va_mmax hx hb (by rw [hml]; exact hl.1.symm) hown (hts (.methodLink RX1 35 Lib.Math.max.name) (List.mem_of_getElem? (i := 2) rfl)) (hts (.static Lib.Math.max.name) (List.mem_of_getElem? (i := 3) rfl)) (hts (.initialized "java/lang/Math") (List.mem_of_getElem? (i := 4) rfl)) (hts (.code Lib.Math.max.name Lib.Math.max.code 2 (some .int)) (List.mem_of_getElem? (i := 5) rfl)) (Nat.le_of_ble_eq_true rfl) (Nat.le_of_ble_eq_true rfl) (Nat.le_of_ble_eq_true rfl) (Nat.le_of_ble_eq_true rfl) dX1_meets_20 ?_
      refine mv_top (y := (mx (lo i) (lo2 i))) rfl ?_
      refine lv_aload_n hx hb dX1_meets_23 rfl (lv_at hl 0 rfl) ?_
      refine mm_get (C := RX1) (T := TX1) (N := 2) (k := 1) hx hb hts (fun _ h => List.mem_cons_of_mem _ (List.mem_append_right _ h)) hown hK hM hc_r rfl (by decide) (hts (.fieldLink RX1 15 "SentenceRules$Region" "highs" "[I") (List.mem_of_getElem? (i := 6) rfl)) rfl rfl dX1_meets_24 ?_
      refine lv_iload_n hx hb dX1_meets_27 rfl (lv_at hl 2 rfl) ?_
      refine mn_iald hx hb hK hM hc_q i (by omega) (by decide) dX1_meets_28 ?_
      refine lv_aload_n hx hb dX1_meets_29 rfl (lv_at hl 1 rfl) ?_
      refine mm_get (C := RX1) (T := TX1) (N := 2) (k := 1) hx hb hts (fun _ h => List.mem_cons_of_mem _ (List.mem_append_right _ h)) hown hK hM hc_r2 rfl (by decide) (hts (.fieldLink RX1 15 "SentenceRules$Region" "highs" "[I") (List.mem_of_getElem? (i := 6) rfl)) rfl rfl dX1_meets_30 ?_
      refine lv_iload_n hx hb dX1_meets_33 rfl (lv_at hl 2 rfl) ?_
      refine mn_iald hx hb hK hM hc_q2 i (by omega) (by decide) dX1_meets_34 ?_
      refine va_mmin hx hb (by rw [hml]; exact hl.1.symm) hown (hts (.methodLink RX1 41 Lib.Math.min.name) (List.mem_of_getElem? (i := 7) rfl)) (hts (.static Lib.Math.min.name) (List.mem_of_getElem? (i := 8) rfl)) (hts (.initialized "java/lang/Math") (List.mem_of_getElem? (i := 4) rfl)) (hts (.code Lib.Math.min.name Lib.Math.min.code 2 (some .int)) (List.mem_of_getElem? (i := 9) rfl)) (Nat.le_of_ble_eq_true rfl) (Nat.le_of_ble_eq_true rfl) (Nat.le_of_ble_eq_true rfl) (Nat.le_of_ble_eq_true rfl) dX1_meets_35 ?_
      refine mv_top (y := (mn (hi i) (hi2 i))) rfl ?_
      refine lv_icmp_le (tgt := 43) hx hb dX1_meets_38 (by decide) (fun cz2 => ?_) (fun cz2 => ?_)
      · refine lv_iinc (v := (nI (i + 1))) (lv' := [(2, .int (nI (i + 1))), (0, .ref r), (1, .ref r2)]) hx hb dX1_meets_43 hl (k := 2) rfl (nI_add _ _) (by decide) rfl (fun ls hl => ?_)
        refine lv_goto (tgt := 2) hx hb dX1_meets_46 (by decide) ?_
        exact ih (i + 1) _ _ ls (by omega) (fun j hj => (Nat.lt_succ_iff_lt_or_eq.mp hj).elim (hall j) (fun z => by subst z; simp [meeR, cz1, cz2])) (by omega) hM (lv_sub hl [1, 2, 0] rfl)
      refine lv_iconst (v := (nI 0)) hx hb dX1_meets_41 (by decide +kernel) ?_
      exact mm_zret hx hb hlocks hr (by first | rfl | exact bI_nar _) (Nat.le_of_ble_eq_true rfl) (Nat.le_of_ble_eq_true rfl) hM (ret_f (allN_no (i := i) (by omega) (by simp [meeR, cz1, cz2]))) dX1_meets_42
  exact loopZ (7 + 1) 0 _ _ ls (Nat.zero_le _) (fun j hj => absurd hj (Nat.not_lt_zero j)) (by omega) hM (lv_sub hl [1, 2, 0] rfl)
set_option maxHeartbeats 4000000 in
set_option maxRecDepth 100000 in
theorem c1_isCommonTo (l : Launch) (G : mG) {f : mE} {r p q : Nat} {lo hi : Nat → Int32} (hc_r : f r = some (.inr (2, [.ref p, .ref q]))) (hc_p : f p = some (mI G 7 lo)) (hc_q : f q = some (mI G 7 hi)) {r2 p2 q2 : Nat} {lo2 hi2 : Nat → Int32} (hc_r2 : f r2 = some (.inr (2, [.ref p2, .ref q2]))) (hc_p2 : f p2 = some (mI G 7 lo2)) (hc_q2 : f q2 = some (mI G 7 hi2)) {r3 p3 q3 : Nat} {lo3 hi3 : Nat → Int32} (hc_r3 : f r3 = some (.inr (2, [.ref p3, .ref q3]))) (hc_p3 : f p3 = some (mI G 7 lo3)) (hc_q3 : f q3 = some (mI G 7 hi3)) : mC l G yX1_isCommonTo wsX1_isCommonTo ({ frames := 1, cells := 0, slots := 0, locals := 21 } : Room) f [.ref r, .ref r2, .ref r3] (fun v f1 => v = some (.int (bI (allN (comR lo hi lo2 hi2 lo3 hi3) 7))) ∧ f = f1) 0 0 := by
  refine mC.of (cc := cX1_isCommonTo) (maxL := 4) (ret := (some .boolean)) (by decide) rfl (Nat.le_of_ble_eq_true rfl) ?_
  intro pgm env s mt args below meth c A ls hx hb hml hr hlocks hown hname hts hK hE hA hM hl
  have hl : lv_has ls 4 [(0, .ref r), (1, .ref r2), (2, .ref r3)] := hl
  refine lv_iconst (v := (nI 0)) hx hb dX1_isCommonTo_0 (by decide +kernel) ?_
  refine lv_istore_n (lv' := [(3, .int (nI 0)), (0, .ref r), (1, .ref r2), (2, .ref r3)]) hx hb dX1_isCommonTo_1 rfl hl (by decide) rfl (fun ls hl => ?_)
  have loopZ : ∀ (fuel : Nat) (i : Nat) (Hp : Heap) (lcs : List Loc) (ls : Array Slot) (hiN : i ≤ 7) (hall : ∀ j, j < i → comR lo hi lo2 hi2 lo3 hi3 j = true) (hfu : 7 - i < fuel) (hM : mM G A s.heap f Hp lcs) (hl : lv_has ls 4 [(0, .ref r), (1, .ref r2), (2, .ref r3), (3, .int (nI i))]), W pgm l env ({ frames := 1, cells := 0, slots := 0, locals := 21 } : Room) s mt args below meth c Hp lcs 0 0 (MQ below (mQc G A (fun v f1 => v = some (.int (bI (allN (comR lo hi lo2 hi2 lo3 hi3) 7))) ∧ f = f1)) args s 0 0 A) (F0 mt 2 ls []) := by
    intro fuel
    induction fuel with
    | zero => intro i Hp lcs ls hiN hall hfu; exact absurd hfu (Nat.not_lt_zero _)
    | succ fuel ih =>
      intro i Hp lcs ls hiN hall hfu hM hl
      refine lv_iload_n hx hb dX1_isCommonTo_2 rfl (lv_at hl 3 rfl) ?_
      refine lv_bipush (v := (nI 7)) hx hb dX1_isCommonTo_3 (by decide +kernel) ?_
      refine ln_icmp_ge i 7 (by omega) (by omega) (tgt := 64) hx hb dX1_isCommonTo_5 (by decide) (fun cz1 => ?_) (fun cz1 => ?_)
      · refine lv_iconst (v := (nI 1)) hx hb dX1_isCommonTo_64 (by decide +kernel) ?_
        exact mm_zret hx hb hlocks hr (by first | rfl | exact bI_nar _) (Nat.le_of_ble_eq_true rfl) (Nat.le_of_ble_eq_true rfl) hM (ret_t (by first | exact allN_iff.mpr (fun j hj => hall j (by omega)) | simp [allN_iff.mpr (fun j hj => hall j (by omega))])) dX1_isCommonTo_65
      refine lv_aload_n hx hb dX1_isCommonTo_8 rfl (lv_at hl 0 rfl) ?_
      refine mm_get (C := RX1) (T := TX1) (N := 2) (k := 0) hx hb hts (fun _ h => List.mem_cons_of_mem _ (List.mem_append_right _ h)) hown hK hM hc_r rfl (by decide) (hts (.fieldLink RX1 9 "SentenceRules$Region" "lows" "[I") (List.mem_of_getElem? (i := 1) rfl)) rfl rfl dX1_isCommonTo_9 ?_
      refine lv_iload_n hx hb dX1_isCommonTo_12 rfl (lv_at hl 3 rfl) ?_
      refine mn_iald hx hb hK hM hc_p i (by omega) (by decide) dX1_isCommonTo_13 ?_
      refine lv_aload_n hx hb dX1_isCommonTo_14 rfl (lv_at hl 1 rfl) ?_
      refine mm_get (C := RX1) (T := TX1) (N := 2) (k := 0) hx hb hts (fun _ h => List.mem_cons_of_mem _ (List.mem_append_right _ h)) hown hK hM hc_r2 rfl (by decide) (hts (.fieldLink RX1 9 "SentenceRules$Region" "lows" "[I") (List.mem_of_getElem? (i := 1) rfl)) rfl rfl dX1_isCommonTo_15 ?_
      refine lv_iload_n hx hb dX1_isCommonTo_18 rfl (lv_at hl 3 rfl) ?_
      refine mn_iald hx hb hK hM hc_p2 i (by omega) (by decide) dX1_isCommonTo_19 ?_
      refine lv_aload_n hx hb dX1_isCommonTo_20 rfl (lv_at hl 2 rfl) ?_
      refine mm_get (C := RX1) (T := TX1) (N := 2) (k := 0) hx hb hts (fun _ h => List.mem_cons_of_mem _ (List.mem_append_right _ h)) hown hK hM hc_r3 rfl (by decide) (hts (.fieldLink RX1 9 "SentenceRules$Region" "lows" "[I") (List.mem_of_getElem? (i := 1) rfl)) rfl rfl dX1_isCommonTo_21 ?_
      refine lv_iload_n hx hb dX1_isCommonTo_24 rfl (lv_at hl 3 rfl) ?_
      refine mn_iald hx hb hK hM hc_p3 i (by omega) (by decide) dX1_isCommonTo_25 ?_
      refine va_mmax hx hb (by rw [hml]; exact hl.1.symm) hown (hts (.methodLink RX1 35 Lib.Math.max.name) (List.mem_of_getElem? (i := 2) rfl)) (hts (.static Lib.Math.max.name) (List.mem_of_getElem? (i := 3) rfl)) (hts (.initialized "java/lang/Math") (List.mem_of_getElem? (i := 4) rfl)) (hts (.code Lib.Math.max.name Lib.Math.max.code 2 (some .int)) (List.mem_of_getElem? (i := 5) rfl)) (Nat.le_of_ble_eq_true rfl) (Nat.le_of_ble_eq_true rfl) (Nat.le_of_ble_eq_true rfl) (Nat.le_of_ble_eq_true rfl) dX1_isCommonTo_26 ?_
      refine mv_top (y := (mx (lo2 i) (lo3 i))) rfl ?_
      refine lv_icmp_ne (tgt := 56) hx hb dX1_isCommonTo_29 (by decide) (fun cz2 => ?_) (fun cz2 => ?_)
      · refine lv_iconst (v := (nI 0)) hx hb dX1_isCommonTo_56 (by decide +kernel) ?_
        exact mm_zret hx hb hlocks hr (by first | rfl | exact bI_nar _) (Nat.le_of_ble_eq_true rfl) (Nat.le_of_ble_eq_true rfl) hM (ret_f (allN_no (i := i) (by omega) (by simp [comR, cz1, cz2]))) dX1_isCommonTo_57
      refine lv_aload_n hx hb dX1_isCommonTo_32 rfl (lv_at hl 0 rfl) ?_
      refine mm_get (C := RX1) (T := TX1) (N := 2) (k := 1) hx hb hts (fun _ h => List.mem_cons_of_mem _ (List.mem_append_right _ h)) hown hK hM hc_r rfl (by decide) (hts (.fieldLink RX1 15 "SentenceRules$Region" "highs" "[I") (List.mem_of_getElem? (i := 6) rfl)) rfl rfl dX1_isCommonTo_33 ?_
      refine lv_iload_n hx hb dX1_isCommonTo_36 rfl (lv_at hl 3 rfl) ?_
      refine mn_iald hx hb hK hM hc_q i (by omega) (by decide) dX1_isCommonTo_37 ?_
      refine lv_aload_n hx hb dX1_isCommonTo_38 rfl (lv_at hl 1 rfl) ?_
      refine mm_get (C := RX1) (T := TX1) (N := 2) (k := 1) hx hb hts (fun _ h => List.mem_cons_of_mem _ (List.mem_append_right _ h)) hown hK hM hc_r2 rfl (by decide) (hts (.fieldLink RX1 15 "SentenceRules$Region" "highs" "[I") (List.mem_of_getElem? (i := 6) rfl)) rfl rfl dX1_isCommonTo_39 ?_
      refine lv_iload_n hx hb dX1_isCommonTo_42 rfl (lv_at hl 3 rfl) ?_
      refine mn_iald hx hb hK hM hc_q2 i (by omega) (by decide) dX1_isCommonTo_43 ?_
      refine lv_aload_n hx hb dX1_isCommonTo_44 rfl (lv_at hl 2 rfl) ?_
      refine mm_get (C := RX1) (T := TX1) (N := 2) (k := 1) hx hb hts (fun _ h => List.mem_cons_of_mem _ (List.mem_append_right _ h)) hown hK hM hc_r3 rfl (by decide) (hts (.fieldLink RX1 15 "SentenceRules$Region" "highs" "[I") (List.mem_of_getElem? (i := 6) rfl)) rfl rfl dX1_isCommonTo_45 ?_
      refine lv_iload_n hx hb dX1_isCommonTo_48 rfl (lv_at hl 3 rfl) ?_
      refine mn_iald hx hb hK hM hc_q3 i (by omega) (by decide) dX1_isCommonTo_49 ?_
      refine va_mmin hx hb (by rw [hml]; exact hl.1.symm) hown (hts (.methodLink RX1 41 Lib.Math.min.name) (List.mem_of_getElem? (i := 7) rfl)) (hts (.static Lib.Math.min.name) (List.mem_of_getElem? (i := 8) rfl)) (hts (.initialized "java/lang/Math") (List.mem_of_getElem? (i := 4) rfl)) (hts (.code Lib.Math.min.name Lib.Math.min.code 2 (some .int)) (List.mem_of_getElem? (i := 9) rfl)) (Nat.le_of_ble_eq_true rfl) (Nat.le_of_ble_eq_true rfl) (Nat.le_of_ble_eq_true rfl) (Nat.le_of_ble_eq_true rfl) dX1_isCommonTo_50 ?_
      refine mv_top (y := (mn (hi2 i) (hi3 i))) rfl ?_
      refine lv_icmp_eq (tgt := 58) hx hb dX1_isCommonTo_53 (by decide) (fun cz3 => ?_) (fun cz3 => ?_)
      · refine lv_iinc (v := (nI (i + 1))) (lv' := [(3, .int (nI (i + 1))), (0, .ref r), (1, .ref r2), (2, .ref r3)]) hx hb dX1_isCommonTo_58 hl (k := 3) rfl (nI_add _ _) (by decide) rfl (fun ls hl => ?_)
        refine lv_goto (tgt := 2) hx hb dX1_isCommonTo_61 (by decide) ?_
        exact ih (i + 1) _ _ ls (by omega) (fun j hj => (Nat.lt_succ_iff_lt_or_eq.mp hj).elim (hall j) (fun z => by subst z; simp [comR, cz1, cz2, cz3])) (by omega) hM (lv_sub hl [1, 2, 3, 0] rfl)
      refine lv_iconst (v := (nI 0)) hx hb dX1_isCommonTo_56 (by decide +kernel) ?_
      exact mm_zret hx hb hlocks hr (by first | rfl | exact bI_nar _) (Nat.le_of_ble_eq_true rfl) (Nat.le_of_ble_eq_true rfl) hM (ret_f (allN_no (i := i) (by omega) (by simp [comR, cz1, cz2, cz3]))) dX1_isCommonTo_57
  exact loopZ (7 + 1) 0 _ _ ls (Nat.zero_le _) (fun j hj => absurd hj (Nat.not_lt_zero j)) (by omega) hM (lv_sub hl [1, 2, 3, 0] rfl)
set_option maxHeartbeats 4000000 in
set_option maxRecDepth 100000 in
theorem c1_isEmpty (l : Launch) (G : mG) {f : mE} {r p q : Nat} {lo hi : Nat → Int32} (hc_r : f r = some (.inr (2, [.ref p, .ref q]))) (hc_p : f p = some (mI G 7 lo)) (hc_q : f q = some (mI G 7 hi)) : mC l G yX1_isEmpty wsX1_isEmpty ({ frames := 0, cells := 0, slots := 0, locals := 0 } : Room) f [.ref r] (fun v f1 => v = some (.int (bI (!allN (nonR lo hi) 7))) ∧ f = f1) 0 0 := by
  refine mC.of (cc := cX1_isEmpty) (maxL := 2) (ret := (some .boolean)) (by decide) rfl (Nat.le_of_ble_eq_true rfl) ?_
  intro pgm env s mt args below meth c A ls hx hb hml hr hlocks hown hname hts hK hE hA hM hl
  have hl : lv_has ls 2 [(0, .ref r)] := hl
  refine lv_iconst (v := (nI 0)) hx hb dX1_isEmpty_0 (by decide +kernel) ?_
  refine lv_istore_n (lv' := [(1, .int (nI 0)), (0, .ref r)]) hx hb dX1_isEmpty_1 rfl hl (by decide) rfl (fun ls hl => ?_)
  have loopZ : ∀ (fuel : Nat) (i : Nat) (Hp : Heap) (lcs : List Loc) (ls : Array Slot) (hiN : i ≤ 7) (hall : ∀ j, j < i → nonR lo hi j = true) (hfu : 7 - i < fuel) (hM : mM G A s.heap f Hp lcs) (hl : lv_has ls 2 [(0, .ref r), (1, .int (nI i))]), W pgm l env ({ frames := 0, cells := 0, slots := 0, locals := 0 } : Room) s mt args below meth c Hp lcs 0 0 (MQ below (mQc G A (fun v f1 => v = some (.int (bI (!allN (nonR lo hi) 7))) ∧ f = f1)) args s 0 0 A) (F0 mt 2 ls []) := by
    intro fuel
    induction fuel with
    | zero => intro i Hp lcs ls hiN hall hfu; exact absurd hfu (Nat.not_lt_zero _)
    | succ fuel ih =>
      intro i Hp lcs ls hiN hall hfu hM hl
      refine lv_iload_n hx hb dX1_isEmpty_2 rfl (lv_at hl 1 rfl) ?_
      refine lv_bipush (v := (nI 7)) hx hb dX1_isEmpty_3 (by decide +kernel) ?_
      refine ln_icmp_ge i 7 (by omega) (by omega) (tgt := 31) hx hb dX1_isEmpty_5 (by decide) (fun cz1 => ?_) (fun cz1 => ?_)
      · refine lv_iconst (v := (nI 0)) hx hb dX1_isEmpty_31 (by decide +kernel) ?_
        exact mm_zret hx hb hlocks hr (by first | rfl | exact bI_nar _) (Nat.le_of_ble_eq_true rfl) (Nat.le_of_ble_eq_true rfl) hM (ret_f (by simp [allN_iff.mpr (fun j hj => hall j (by omega) : ∀ j, j < 7 → nonR lo hi j = true)])) dX1_isEmpty_32
      refine lv_aload_n hx hb dX1_isEmpty_8 rfl (lv_at hl 0 rfl) ?_
      refine mm_get (C := RX1) (T := TX1) (N := 2) (k := 0) hx hb hts (fun _ h => List.mem_cons_of_mem _ (List.mem_append_right _ h)) hown hK hM hc_r rfl (by decide) (hts (.fieldLink RX1 9 "SentenceRules$Region" "lows" "[I") (List.mem_of_getElem? (i := 1) rfl)) rfl rfl dX1_isEmpty_9 ?_
      refine lv_iload_n hx hb dX1_isEmpty_12 rfl (lv_at hl 1 rfl) ?_
      refine mn_iald hx hb hK hM hc_p i (by omega) (by decide) dX1_isEmpty_13 ?_
      refine lv_aload_n hx hb dX1_isEmpty_14 rfl (lv_at hl 0 rfl) ?_
      refine mm_get (C := RX1) (T := TX1) (N := 2) (k := 1) hx hb hts (fun _ h => List.mem_cons_of_mem _ (List.mem_append_right _ h)) hown hK hM hc_r rfl (by decide) (hts (.fieldLink RX1 15 "SentenceRules$Region" "highs" "[I") (List.mem_of_getElem? (i := 2) rfl)) rfl rfl dX1_isEmpty_15 ?_
      refine lv_iload_n hx hb dX1_isEmpty_18 rfl (lv_at hl 1 rfl) ?_
      refine mn_iald hx hb hK hM hc_q i (by omega) (by decide) dX1_isEmpty_19 ?_
      refine lv_icmp_le (tgt := 25) hx hb dX1_isEmpty_20 (by decide) (fun cz2 => ?_) (fun cz2 => ?_)
      · refine lv_iinc (v := (nI (i + 1))) (lv' := [(1, .int (nI (i + 1))), (0, .ref r)]) hx hb dX1_isEmpty_25 hl (k := 1) rfl (nI_add _ _) (by decide) rfl (fun ls hl => ?_)
        refine lv_goto (tgt := 2) hx hb dX1_isEmpty_28 (by decide) ?_
        exact ih (i + 1) _ _ ls (by omega) (fun j hj => (Nat.lt_succ_iff_lt_or_eq.mp hj).elim (hall j) (fun z => by subst z; simp [nonR, cz1, cz2])) (by omega) hM (lv_sub hl [1, 0] rfl)
      refine lv_iconst (v := (nI 1)) hx hb dX1_isEmpty_23 (by decide +kernel) ?_
      exact mm_zret hx hb hlocks hr (by first | rfl | exact bI_nar _) (Nat.le_of_ble_eq_true rfl) (Nat.le_of_ble_eq_true rfl) hM (ret_t (by simp [(allN_no (i := i) (by omega) (by simp [nonR, cz1, cz2]) : allN (nonR lo hi) 7 = false)])) dX1_isEmpty_24
  exact loopZ (7 + 1) 0 _ _ ls (Nat.zero_le _) (fun j hj => absurd hj (Nat.not_lt_zero j)) (by omega) hM (lv_sub hl [1, 0] rfl)
set_option maxHeartbeats 4000000 in
set_option maxRecDepth 100000 in
theorem c1_hasValues (l : Launch) (G : mG) {f : mE} {r p q : Nat} {lo hi : Nat → Int32} (hc_r : f r = some (.inr (2, [.ref p, .ref q]))) (hc_p : f p = some (mI G 7 lo)) (hc_q : f q = some (mI G 7 hi)) {v : Nat} {g : Nat → Int32} (hc_v : f v = some (mI G 7 g)) : mC l G yX1_hasValues wsX1_hasValues ({ frames := 0, cells := 0, slots := 0, locals := 0 } : Room) f [.ref r, .ref v] (fun v f1 => v = some (.int (bI (allN (hasR g lo hi) 7))) ∧ f = f1) 0 0 := by
  refine mC.of (cc := cX1_hasValues) (maxL := 3) (ret := (some .boolean)) (by decide) rfl (Nat.le_of_ble_eq_true rfl) ?_
  intro pgm env s mt args below meth c A ls hx hb hml hr hlocks hown hname hts hK hE hA hM hl
  have hl : lv_has ls 3 [(0, .ref r), (1, .ref v)] := hl
  refine lv_iconst (v := (nI 0)) hx hb dX1_hasValues_0 (by decide +kernel) ?_
  refine lv_istore_n (lv' := [(2, .int (nI 0)), (0, .ref r), (1, .ref v)]) hx hb dX1_hasValues_1 rfl hl (by decide) rfl (fun ls hl => ?_)
  have loopZ : ∀ (fuel : Nat) (i : Nat) (Hp : Heap) (lcs : List Loc) (ls : Array Slot) (hiN : i ≤ 7) (hall : ∀ j, j < i → hasR g lo hi j = true) (hfu : 7 - i < fuel) (hM : mM G A s.heap f Hp lcs) (hl : lv_has ls 3 [(0, .ref r), (1, .ref v), (2, .int (nI i))]), W pgm l env ({ frames := 0, cells := 0, slots := 0, locals := 0 } : Room) s mt args below meth c Hp lcs 0 0 (MQ below (mQc G A (fun v f1 => v = some (.int (bI (allN (hasR g lo hi) 7))) ∧ f = f1)) args s 0 0 A) (F0 mt 2 ls []) := by
    intro fuel
    induction fuel with
    | zero => intro i Hp lcs ls hiN hall hfu; exact absurd hfu (Nat.not_lt_zero _)
    | succ fuel ih =>
      intro i Hp lcs ls hiN hall hfu hM hl
      refine lv_iload_n hx hb dX1_hasValues_2 rfl (lv_at hl 2 rfl) ?_
      refine lv_bipush (v := (nI 7)) hx hb dX1_hasValues_3 (by decide +kernel) ?_
      refine ln_icmp_ge i 7 (by omega) (by omega) (tgt := 46) hx hb dX1_hasValues_5 (by decide) (fun cz1 => ?_) (fun cz1 => ?_)
      · refine lv_iconst (v := (nI 1)) hx hb dX1_hasValues_46 (by decide +kernel) ?_
        exact mm_zret hx hb hlocks hr (by first | rfl | exact bI_nar _) (Nat.le_of_ble_eq_true rfl) (Nat.le_of_ble_eq_true rfl) hM (ret_t (by first | exact allN_iff.mpr (fun j hj => hall j (by omega)) | simp [allN_iff.mpr (fun j hj => hall j (by omega))])) dX1_hasValues_47
      refine lv_iload_n hx hb dX1_hasValues_8 rfl (lv_at hl 2 rfl) ?_
      refine lv_aload_n hx hb dX1_hasValues_9 rfl (lv_at hl 1 rfl) ?_
      refine mm_alen hx hb hK hM hc_v dX1_hasValues_10 ?_
      refine ln_icmp_ge i 7 (by omega) (by omega) (tgt := 46) hx hb dX1_hasValues_11 (by decide) (fun cz2 => ?_) (fun cz2 => ?_)
      · refine lv_iconst (v := (nI 1)) hx hb dX1_hasValues_46 (by decide +kernel) ?_
        exact mm_zret hx hb hlocks hr (by first | rfl | exact bI_nar _) (Nat.le_of_ble_eq_true rfl) (Nat.le_of_ble_eq_true rfl) hM (ret_t (by first | exact allN_iff.mpr (fun j hj => hall j (by omega)) | simp [allN_iff.mpr (fun j hj => hall j (by omega))])) dX1_hasValues_47
      refine lv_aload_n hx hb dX1_hasValues_14 rfl (lv_at hl 1 rfl) ?_
      refine lv_iload_n hx hb dX1_hasValues_15 rfl (lv_at hl 2 rfl) ?_
      refine mn_iald hx hb hK hM hc_v i (by omega) (by decide) dX1_hasValues_16 ?_
      refine lv_aload_n hx hb dX1_hasValues_17 rfl (lv_at hl 0 rfl) ?_
      refine mm_get (C := RX1) (T := TX1) (N := 2) (k := 0) hx hb hts (fun _ h => List.mem_cons_of_mem _ (List.mem_append_right _ h)) hown hK hM hc_r rfl (by decide) (hts (.fieldLink RX1 9 "SentenceRules$Region" "lows" "[I") (List.mem_of_getElem? (i := 1) rfl)) rfl rfl dX1_hasValues_18 ?_
      refine lv_iload_n hx hb dX1_hasValues_21 rfl (lv_at hl 2 rfl) ?_
      refine mn_iald hx hb hK hM hc_p i (by omega) (by decide) dX1_hasValues_22 ?_
      refine lv_icmp_lt (tgt := 38) hx hb dX1_hasValues_23 (by decide) (fun cz3 => ?_) (fun cz3 => ?_)
      · refine lv_iconst (v := (nI 0)) hx hb dX1_hasValues_38 (by decide +kernel) ?_
        exact mm_zret hx hb hlocks hr (by first | rfl | exact bI_nar _) (Nat.le_of_ble_eq_true rfl) (Nat.le_of_ble_eq_true rfl) hM (ret_f (allN_no (i := i) (by omega) (by simp [hasR, cz1, cz2, cz3]))) dX1_hasValues_39
      refine lv_aload_n hx hb dX1_hasValues_26 rfl (lv_at hl 1 rfl) ?_
      refine lv_iload_n hx hb dX1_hasValues_27 rfl (lv_at hl 2 rfl) ?_
      refine mn_iald hx hb hK hM hc_v i (by omega) (by decide) dX1_hasValues_28 ?_
      refine lv_aload_n hx hb dX1_hasValues_29 rfl (lv_at hl 0 rfl) ?_
      refine mm_get (C := RX1) (T := TX1) (N := 2) (k := 1) hx hb hts (fun _ h => List.mem_cons_of_mem _ (List.mem_append_right _ h)) hown hK hM hc_r rfl (by decide) (hts (.fieldLink RX1 15 "SentenceRules$Region" "highs" "[I") (List.mem_of_getElem? (i := 2) rfl)) rfl rfl dX1_hasValues_30 ?_
      refine lv_iload_n hx hb dX1_hasValues_33 rfl (lv_at hl 2 rfl) ?_
      refine mn_iald hx hb hK hM hc_q i (by omega) (by decide) dX1_hasValues_34 ?_
      refine lv_icmp_le (tgt := 40) hx hb dX1_hasValues_35 (by decide) (fun cz4 => ?_) (fun cz4 => ?_)
      · refine lv_iinc (v := (nI (i + 1))) (lv' := [(2, .int (nI (i + 1))), (0, .ref r), (1, .ref v)]) hx hb dX1_hasValues_40 hl (k := 2) rfl (nI_add _ _) (by decide) rfl (fun ls hl => ?_)
        refine lv_goto (tgt := 2) hx hb dX1_hasValues_43 (by decide) ?_
        exact ih (i + 1) _ _ ls (by omega) (fun j hj => (Nat.lt_succ_iff_lt_or_eq.mp hj).elim (hall j) (fun z => by subst z; simp [hasR, cz1, cz2, cz3, cz4])) (by omega) hM (lv_sub hl [1, 2, 0] rfl)
      refine lv_iconst (v := (nI 0)) hx hb dX1_hasValues_38 (by decide +kernel) ?_
      exact mm_zret hx hb hlocks hr (by first | rfl | exact bI_nar _) (Nat.le_of_ble_eq_true rfl) (Nat.le_of_ble_eq_true rfl) hM (ret_f (allN_no (i := i) (by omega) (by simp [hasR, cz1, cz2, cz3, cz4]))) dX1_hasValues_39
  exact loopZ (7 + 1) 0 _ _ ls (Nat.zero_le _) (fun j hj => absurd hj (Nat.not_lt_zero j)) (by omega) hM (lv_sub hl [1, 2, 0] rfl)
set_option maxHeartbeats 4000000 in
set_option maxRecDepth 100000 in
theorem c1_keepFrom (l : Launch) (G : mG) {f : mE} {r p q : Nat} {lo hi : Nat → Int32} (hc_r : f r = some (.inr (2, [.ref p, .ref q]))) (hc_p : f p = some (mI G 7 lo)) (hc_q : f q = some (mI G 7 hi)) (hpq : p ≠ q) (k : Nat) (hk : k < 7) (x : Int32) : mC l G yX1_keepFrom wsX1_keepFrom ({ frames := 1, cells := 0, slots := 0, locals := 21 } : Room) f [.ref r, .int (nI k), .int x] (fun v f1 => v = none ∧ f1 p = some (mI G 7 (upd lo k (mx (lo k) x))) ∧ ∀ b, b ≠ p → f1 b = f b) 0 0 := by
  refine mC.of (cc := cX1_keepFrom) (maxL := 3) (ret := none) (by decide) rfl (Nat.le_of_ble_eq_true rfl) ?_
  intro pgm env s mt args below meth c A ls hx hb hml hr hlocks hown hname hts hK hE hA hM hl
  have hl : lv_has ls 3 [(0, .ref r), (1, .int (nI k)), (2, .int x)] := hl
  refine lv_iload_n hx hb dX1_keepFrom_0 rfl (lv_at hl 1 rfl) ?_
  refine mm_SN (As := [.int (nI k)]) (rest := []) ⟨hx, hb, hml, hown, hts⟩ (c5_isFact l G _ (nI k)) ⟨va_cnB 1 hts gX1_keepFrom_X5_isFact_n31 rfl rfl rfl (hE.1.1 _ (List.mem_of_getElem? (i := 6) rfl)) (hts (.initialized RX5) (List.mem_of_getElem? (i := 7) rfl)) (by decide +kernel) ⟨Nat.le_of_ble_eq_true rfl, Nat.le_of_ble_eq_true rfl⟩, (hts (.static yX5_isFact) (List.mem_of_getElem? (i := 6) rfl)), trivial⟩ hK hE hA hM rfl hl.1 rfl (Nat.le_of_ble_eq_true rfl) dX1_keepFrom_1 ⟨Nat.le_of_ble_eq_true rfl, Nat.le_of_ble_eq_true rfl⟩ (fun v f1 Hp lcs hp hM => ?_)
  obtain ⟨rfl, hf⟩ := hp; subst hf
  refine lvb_eq (tgt := 23) hx hb dX1_keepFrom_4 (by decide) (fun cz1 => ?_) (fun cz1 => ?_)
  · exact absurd cz1 (by rw [fac_t hk]; decide)
  refine lv_aload_n hx hb dX1_keepFrom_7 rfl (lv_at hl 0 rfl) ?_
  refine mm_get (C := RX1) (T := TX1) (N := 2) (k := 0) hx hb hts (fun _ h => List.mem_cons_of_mem _ (List.mem_append_right _ h)) hown hK hM hc_r rfl (by decide) (hts (.fieldLink RX1 9 "SentenceRules$Region" "lows" "[I") (List.mem_of_getElem? (i := 1) rfl)) rfl rfl dX1_keepFrom_8 ?_
  refine lv_iload_n hx hb dX1_keepFrom_11 rfl (lv_at hl 1 rfl) ?_
  refine lv_aload_n hx hb dX1_keepFrom_12 rfl (lv_at hl 0 rfl) ?_
  refine mm_get (C := RX1) (T := TX1) (N := 2) (k := 0) hx hb hts (fun _ h => List.mem_cons_of_mem _ (List.mem_append_right _ h)) hown hK hM hc_r rfl (by decide) (hts (.fieldLink RX1 9 "SentenceRules$Region" "lows" "[I") (List.mem_of_getElem? (i := 1) rfl)) rfl rfl dX1_keepFrom_13 ?_
  refine lv_iload_n hx hb dX1_keepFrom_16 rfl (lv_at hl 1 rfl) ?_
  refine mn_iald hx hb hK hM hc_p k (by omega) (by decide) dX1_keepFrom_17 ?_
  refine lv_iload_n hx hb dX1_keepFrom_18 rfl (lv_at hl 2 rfl) ?_
  refine va_mmax hx hb (by rw [hml]; exact hl.1.symm) hown (hts (.methodLink RX1 35 Lib.Math.max.name) (List.mem_of_getElem? (i := 2) rfl)) (hts (.static Lib.Math.max.name) (List.mem_of_getElem? (i := 3) rfl)) (hts (.initialized "java/lang/Math") (List.mem_of_getElem? (i := 4) rfl)) (hts (.code Lib.Math.max.name Lib.Math.max.code 2 (some .int)) (List.mem_of_getElem? (i := 5) rfl)) (Nat.le_of_ble_eq_true rfl) (Nat.le_of_ble_eq_true rfl) (Nat.le_of_ble_eq_true rfl) (Nat.le_of_ble_eq_true rfl) dX1_keepFrom_19 ?_
  refine mv_top (y := (mx (lo k) x)) rfl ?_
  refine mn_iast hx hb hK hM hc_p k (by omega) (by decide) dX1_keepFrom_22 (fun Hp lcs hM => ?_)
  obtain ⟨gz2, hM, hz3, rz4⟩ := hM.up
  have hz5 := (rz4 _ (ne_oi hc_r hc_p)).trans hc_r
  have hz6 := (rz4 _ (Ne.symm hpq)).trans hc_q
  exact mm_vret hx hb hlocks hr (Nat.le_of_ble_eq_true rfl) (Nat.le_of_ble_eq_true rfl) hM (⟨rfl, hz3, (fun b z0 => by simp only [rz4, ne_eq, z0, not_false_eq_true])⟩) dX1_keepFrom_23
set_option maxHeartbeats 4000000 in
set_option maxRecDepth 100000 in
theorem c1_keepUntil (l : Launch) (G : mG) {f : mE} {r p q : Nat} {lo hi : Nat → Int32} (hc_r : f r = some (.inr (2, [.ref p, .ref q]))) (hc_p : f p = some (mI G 7 lo)) (hc_q : f q = some (mI G 7 hi)) (hpq : p ≠ q) (k : Nat) (hk : k < 7) (x : Int32) : mC l G yX1_keepUntil wsX1_keepUntil ({ frames := 1, cells := 0, slots := 0, locals := 21 } : Room) f [.ref r, .int (nI k), .int x] (fun v f1 => v = none ∧ f1 q = some (mI G 7 (upd hi k (mn (hi k) x))) ∧ ∀ b, b ≠ q → f1 b = f b) 0 0 := by
  refine mC.of (cc := cX1_keepUntil) (maxL := 3) (ret := none) (by decide) rfl (Nat.le_of_ble_eq_true rfl) ?_
  intro pgm env s mt args below meth c A ls hx hb hml hr hlocks hown hname hts hK hE hA hM hl
  have hl : lv_has ls 3 [(0, .ref r), (1, .int (nI k)), (2, .int x)] := hl
  refine lv_iload_n hx hb dX1_keepUntil_0 rfl (lv_at hl 1 rfl) ?_
  refine mm_SN (As := [.int (nI k)]) (rest := []) ⟨hx, hb, hml, hown, hts⟩ (c5_isFact l G _ (nI k)) ⟨va_cnB 1 hts gX1_keepUntil_X5_isFact_n31 rfl rfl rfl (hE.1.1 _ (List.mem_of_getElem? (i := 6) rfl)) (hts (.initialized RX5) (List.mem_of_getElem? (i := 7) rfl)) (by decide +kernel) ⟨Nat.le_of_ble_eq_true rfl, Nat.le_of_ble_eq_true rfl⟩, (hts (.static yX5_isFact) (List.mem_of_getElem? (i := 6) rfl)), trivial⟩ hK hE hA hM rfl hl.1 rfl (Nat.le_of_ble_eq_true rfl) dX1_keepUntil_1 ⟨Nat.le_of_ble_eq_true rfl, Nat.le_of_ble_eq_true rfl⟩ (fun v f1 Hp lcs hp hM => ?_)
  obtain ⟨rfl, hf⟩ := hp; subst hf
  refine lvb_eq (tgt := 23) hx hb dX1_keepUntil_4 (by decide) (fun cz1 => ?_) (fun cz1 => ?_)
  · exact absurd cz1 (by rw [fac_t hk]; decide)
  refine lv_aload_n hx hb dX1_keepUntil_7 rfl (lv_at hl 0 rfl) ?_
  refine mm_get (C := RX1) (T := TX1) (N := 2) (k := 1) hx hb hts (fun _ h => List.mem_cons_of_mem _ (List.mem_append_right _ h)) hown hK hM hc_r rfl (by decide) (hts (.fieldLink RX1 15 "SentenceRules$Region" "highs" "[I") (List.mem_of_getElem? (i := 1) rfl)) rfl rfl dX1_keepUntil_8 ?_
  refine lv_iload_n hx hb dX1_keepUntil_11 rfl (lv_at hl 1 rfl) ?_
  refine lv_aload_n hx hb dX1_keepUntil_12 rfl (lv_at hl 0 rfl) ?_
  refine mm_get (C := RX1) (T := TX1) (N := 2) (k := 1) hx hb hts (fun _ h => List.mem_cons_of_mem _ (List.mem_append_right _ h)) hown hK hM hc_r rfl (by decide) (hts (.fieldLink RX1 15 "SentenceRules$Region" "highs" "[I") (List.mem_of_getElem? (i := 1) rfl)) rfl rfl dX1_keepUntil_13 ?_
  refine lv_iload_n hx hb dX1_keepUntil_16 rfl (lv_at hl 1 rfl) ?_
  refine mn_iald hx hb hK hM hc_q k (by omega) (by decide) dX1_keepUntil_17 ?_
  refine lv_iload_n hx hb dX1_keepUntil_18 rfl (lv_at hl 2 rfl) ?_
  refine va_mmin hx hb (by rw [hml]; exact hl.1.symm) hown (hts (.methodLink RX1 41 Lib.Math.min.name) (List.mem_of_getElem? (i := 2) rfl)) (hts (.static Lib.Math.min.name) (List.mem_of_getElem? (i := 3) rfl)) (hts (.initialized "java/lang/Math") (List.mem_of_getElem? (i := 4) rfl)) (hts (.code Lib.Math.min.name Lib.Math.min.code 2 (some .int)) (List.mem_of_getElem? (i := 5) rfl)) (Nat.le_of_ble_eq_true rfl) (Nat.le_of_ble_eq_true rfl) (Nat.le_of_ble_eq_true rfl) (Nat.le_of_ble_eq_true rfl) dX1_keepUntil_19 ?_
  refine mv_top (y := (mn (hi k) x)) rfl ?_
  refine mn_iast hx hb hK hM hc_q k (by omega) (by decide) dX1_keepUntil_22 (fun Hp lcs hM => ?_)
  obtain ⟨gz2, hM, hz3, rz4⟩ := hM.up
  have hz5 := (rz4 _ (ne_oi hc_r hc_q)).trans hc_r
  have hz6 := (rz4 _ hpq).trans hc_p
  exact mm_vret hx hb hlocks hr (Nat.le_of_ble_eq_true rfl) (Nat.le_of_ble_eq_true rfl) hM (⟨rfl, hz3, (fun b z0 => by simp only [rz4, ne_eq, z0, not_false_eq_true])⟩) dX1_keepUntil_23
set_option maxHeartbeats 4000000 in
set_option maxRecDepth 100000 in
theorem c1_widen (l : Launch) (G : mG) {f : mE} {r p q : Nat} {lo hi : Nat → Int32} (hc_r : f r = some (.inr (2, [.ref p, .ref q]))) (hc_p : f p = some (mI G 7 lo)) (hc_q : f q = some (mI G 7 hi)) (hpq : p ≠ q) : mC l G yX1_widen wsX1_widen ({ frames := 1, cells := 0, slots := 0, locals := 20 } : Room) f [.ref r] (fun v f1 => v = none ∧ f1 p = some (mI G 7 (filN (wholeLo) lo 7)) ∧ f1 q = some (mI G 7 (filN (wholeHi) hi 7)) ∧ ∀ b, b ≠ p → b ≠ q → f1 b = f b) 0 0 := by
  refine mC.of (cc := cX1_widen) (maxL := 2) (ret := none) (by decide) rfl (Nat.le_of_ble_eq_true rfl) ?_
  intro pgm env s mt args below meth c A ls hx hb hml hr hlocks hown hname hts hK hE hA hM hl
  have hl : lv_has ls 2 [(0, .ref r)] := hl
  refine lv_iconst (v := (nI 0)) hx hb dX1_widen_0 (by decide +kernel) ?_
  refine lv_istore_n (lv' := [(1, .int (nI 0)), (0, .ref r)]) hx hb dX1_widen_1 rfl hl (by decide) rfl (fun ls hl => ?_)
  have loopZ : ∀ (fuel : Nat) (i : Nat) (fz : mE) (Hp : Heap) (lcs : List Loc) (ls : Array Slot) (hiN : i ≤ 7) (kr : fz r = f r) (hpz : fz p = some (mI G 7 (filN (wholeLo) lo i))) (hqz : fz q = some (mI G 7 (filN (wholeHi) hi i))) (frz : ∀ b, b ≠ p → b ≠ q → fz b = f b) (hfu : 7 - i < fuel) (hM : mM G A s.heap fz Hp lcs) (hl : lv_has ls 2 [(0, .ref r), (1, .int (nI i))]), W pgm l env ({ frames := 1, cells := 0, slots := 0, locals := 20 } : Room) s mt args below meth c Hp lcs 0 0 (MQ below (mQc G A (fun v f1 => v = none ∧ f1 p = some (mI G 7 (filN (wholeLo) lo 7)) ∧ f1 q = some (mI G 7 (filN (wholeHi) hi 7)) ∧ ∀ b, b ≠ p → b ≠ q → f1 b = f b)) args s 0 0 A) (F0 mt 2 ls []) := by
    intro fuel
    induction fuel with
    | zero => intro i fz Hp lcs ls hiN kr hpz hqz frz hfu; exact absurd hfu (Nat.not_lt_zero _)
    | succ fuel ih =>
      intro i fz Hp lcs ls hiN kr hpz hqz frz hfu hM hl
      have kr := kr.trans hc_r
      refine lv_iload_n hx hb dX1_widen_2 rfl (lv_at hl 1 rfl) ?_
      refine lv_bipush (v := (nI 7)) hx hb dX1_widen_3 (by decide +kernel) ?_
      refine ln_icmp_ge i 7 (by omega) (by omega) (tgt := 34) hx hb dX1_widen_5 (by decide) (fun cz1 => ?_) (fun cz1 => ?_)
      · exact mm_vret hx hb hlocks hr (Nat.le_of_ble_eq_true rfl) (Nat.le_of_ble_eq_true rfl) hM ((by have hz : i = 7 := (by omega); subst hz; exact ⟨rfl, hpz, hqz, frz⟩)) dX1_widen_34
      refine lv_aload_n hx hb dX1_widen_8 rfl (lv_at hl 0 rfl) ?_
      refine mm_get (C := RX1) (T := TX1) (N := 2) (k := 0) hx hb hts (fun _ h => List.mem_cons_of_mem _ (List.mem_append_right _ h)) hown hK hM kr rfl (by decide) (hts (.fieldLink RX1 9 "SentenceRules$Region" "lows" "[I") (List.mem_of_getElem? (i := 1) rfl)) rfl rfl dX1_widen_9 ?_
      refine lv_iload_n hx hb dX1_widen_12 rfl (lv_at hl 1 rfl) ?_
      refine lv_iload_n hx hb dX1_widen_13 rfl (lv_at hl 1 rfl) ?_
      refine mm_SN (As := [.int (nI i)]) (rest := [.int (nI i), .ref p]) ⟨hx, hb, hml, hown, hts⟩ (c5_lowestOf l G _ (nI i)) ⟨va_cnB 1 hts gX1_widen_X5_lowestOf_n18 rfl rfl rfl (hE.1.1 _ (List.mem_of_getElem? (i := 3) rfl)) (hts (.initialized RX5) (List.mem_of_getElem? (i := 4) rfl)) (by decide +kernel) ⟨Nat.le_of_ble_eq_true rfl, Nat.le_of_ble_eq_true rfl⟩, (hts (.static yX5_lowestOf) (List.mem_of_getElem? (i := 3) rfl)), trivial⟩ hK hE hA hM rfl hl.1 rfl (Nat.le_of_ble_eq_true rfl) dX1_widen_14 ⟨Nat.le_of_ble_eq_true rfl, Nat.le_of_ble_eq_true rfl⟩ (fun v f1 Hp lcs hp hM => ?_)
      obtain ⟨rfl, hf⟩ := hp; subst hf
      refine mn_iast hx hb hK hM hpz i (by omega) (by decide) dX1_widen_17 (fun Hp lcs hM => ?_)
      obtain ⟨gz2, hM, hz3, rz4⟩ := hM.up
      have hz5 := (rz4 _ (ne_oi kr hpz)).trans kr
      have hz6 := (rz4 _ (Ne.symm hpq)).trans hqz
      refine lv_aload_n hx hb dX1_widen_18 rfl (lv_at hl 0 rfl) ?_
      refine mm_get (C := RX1) (T := TX1) (N := 2) (k := 1) hx hb hts (fun _ h => List.mem_cons_of_mem _ (List.mem_append_right _ h)) hown hK hM hz5 rfl (by decide) (hts (.fieldLink RX1 15 "SentenceRules$Region" "highs" "[I") (List.mem_of_getElem? (i := 2) rfl)) rfl rfl dX1_widen_19 ?_
      refine lv_iload_n hx hb dX1_widen_22 rfl (lv_at hl 1 rfl) ?_
      refine lv_iload_n hx hb dX1_widen_23 rfl (lv_at hl 1 rfl) ?_
      refine mm_SN (As := [.int (nI i)]) (rest := [.int (nI i), .ref q]) ⟨hx, hb, hml, hown, hts⟩ (c5_highestOf l G _ (nI i)) ⟨va_cnB 1 hts gX1_widen_X5_highestOf_n22 rfl rfl rfl (hE.1.1 _ (List.mem_of_getElem? (i := 4) rfl)) (hts (.initialized RX5) (List.mem_of_getElem? (i := 4) rfl)) (by decide +kernel) ⟨Nat.le_of_ble_eq_true rfl, Nat.le_of_ble_eq_true rfl⟩, (hts (.static yX5_highestOf) (List.mem_of_getElem? (i := 6) rfl)), trivial⟩ hK hE hA hM rfl hl.1 rfl (Nat.le_of_ble_eq_true rfl) dX1_widen_24 ⟨Nat.le_of_ble_eq_true rfl, Nat.le_of_ble_eq_true rfl⟩ (fun v f1 Hp lcs hp hM => ?_)
      obtain ⟨rfl, hf⟩ := hp; subst hf
      refine mn_iast hx hb hK hM hz6 i (by omega) (by decide) dX1_widen_27 (fun Hp lcs hM => ?_)
      obtain ⟨gz7, hM, hz8, rz9⟩ := hM.up
      have hz10 := (rz9 _ (ne_oi hz5 hz6)).trans hz5
      have hz11 := (rz9 _ hpq).trans hz3
      refine lv_iinc (v := (nI (i + 1))) (lv' := [(1, .int (nI (i + 1))), (0, .ref r)]) hx hb dX1_widen_28 hl (k := 1) rfl (nI_add _ _) (by decide) rfl (fun ls hl => ?_)
      refine lv_goto (tgt := 2) hx hb dX1_widen_31 (by decide) ?_
      exact ih (i + 1) _ _ _ ls (by omega) (hz10.trans hc_r.symm) (by rw [hz11]; exact congrArg (fun z => some (mI G 7 z)) (filN_s wholeLo _ _)) (by rw [hz8]; exact congrArg (fun z => some (mI G 7 z)) (filN_s wholeHi _ _)) (fun b z0 z1 => by simp only [rz9, rz4, frz, ne_eq, z0, z1, not_false_eq_true]) (by omega) hM (lv_sub hl [1, 0] rfl)
  exact loopZ 8 0 f _ _ ls (Nat.zero_le _) rfl hc_p hc_q (fun b _ _ => rfl) (by omega) hM (lv_sub hl [1, 0] rfl)
set_option maxHeartbeats 4000000 in
set_option maxRecDepth 100000 in
theorem c1_narrowTo (l : Launch) (G : mG) {f : mE} {r p q : Nat} {lo hi : Nat → Int32} (hc_r : f r = some (.inr (2, [.ref p, .ref q]))) (hc_p : f p = some (mI G 7 lo)) (hc_q : f q = some (mI G 7 hi)) {r2 p2 q2 : Nat} {lo2 hi2 : Nat → Int32} (hc_r2 : f r2 = some (.inr (2, [.ref p2, .ref q2]))) (hc_p2 : f p2 = some (mI G 7 lo2)) (hc_q2 : f q2 = some (mI G 7 hi2)) (hpq : p ≠ q) (h1 : p2 ≠ p) (h2 : p2 ≠ q) (h3 : q2 ≠ p) (h4 : q2 ≠ q) : mC l G yX1_narrowTo wsX1_narrowTo ({ frames := 2, cells := 0, slots := 0, locals := 43 } : Room) f [.ref r, .ref r2] (fun v f1 => v = none ∧ f1 p = some (mI G 7 (filN (fun i => mx (lo i) (lo2 i)) lo 7)) ∧ f1 q = some (mI G 7 (filN (fun i => mn (hi i) (hi2 i)) hi 7)) ∧ ∀ b, b ≠ p → b ≠ q → f1 b = f b) 0 0 := by
  refine mC.of (cc := cX1_narrowTo) (maxL := 3) (ret := none) (by decide) rfl (Nat.le_of_ble_eq_true rfl) ?_
  intro pgm env s mt args below meth c A ls hx hb hml hr hlocks hown hname hts hK hE hA hM hl
  have hl : lv_has ls 3 [(0, .ref r), (1, .ref r2)] := hl
  refine lv_iconst (v := (nI 0)) hx hb dX1_narrowTo_0 (by decide +kernel) ?_
  refine lv_istore_n (lv' := [(2, .int (nI 0)), (0, .ref r), (1, .ref r2)]) hx hb dX1_narrowTo_1 rfl hl (by decide) rfl (fun ls hl => ?_)
  have loopZ : ∀ (fuel : Nat) (i : Nat) (fz : mE) (Hp : Heap) (lcs : List Loc) (ls : Array Slot) (hiN : i ≤ 7) (kr : fz r = f r) (kr2 : fz r2 = f r2) (kp2 : fz p2 = f p2) (kq2 : fz q2 = f q2) (hpz : fz p = some (mI G 7 (filN (fun i => mx (lo i) (lo2 i)) lo i))) (hqz : fz q = some (mI G 7 (filN (fun i => mn (hi i) (hi2 i)) hi i))) (frz : ∀ b, b ≠ p → b ≠ q → fz b = f b) (hfu : 7 - i < fuel) (hM : mM G A s.heap fz Hp lcs) (hl : lv_has ls 3 [(0, .ref r), (1, .ref r2), (2, .int (nI i))]), W pgm l env ({ frames := 2, cells := 0, slots := 0, locals := 43 } : Room) s mt args below meth c Hp lcs 0 0 (MQ below (mQc G A (fun v f1 => v = none ∧ f1 p = some (mI G 7 (filN (fun i => mx (lo i) (lo2 i)) lo 7)) ∧ f1 q = some (mI G 7 (filN (fun i => mn (hi i) (hi2 i)) hi 7)) ∧ ∀ b, b ≠ p → b ≠ q → f1 b = f b)) args s 0 0 A) (F0 mt 2 ls []) := by
    intro fuel
    induction fuel with
    | zero => intro i fz Hp lcs ls hiN kr kr2 kp2 kq2 hpz hqz frz hfu; exact absurd hfu (Nat.not_lt_zero _)
    | succ fuel ih =>
      intro i fz Hp lcs ls hiN kr kr2 kp2 kq2 hpz hqz frz hfu hM hl
      have kr := kr.trans hc_r
      have kr2 := kr2.trans hc_r2
      have kp2 := kp2.trans hc_p2
      have kq2 := kq2.trans hc_q2
      refine lv_iload_n hx hb dX1_narrowTo_2 rfl (lv_at hl 2 rfl) ?_
      refine lv_bipush (v := (nI 7)) hx hb dX1_narrowTo_3 (by decide +kernel) ?_
      refine ln_icmp_ge i 7 (by omega) (by omega) (tgt := 36) hx hb dX1_narrowTo_5 (by decide) (fun cz1 => ?_) (fun cz1 => ?_)
      · exact mm_vret hx hb hlocks hr (Nat.le_of_ble_eq_true rfl) (Nat.le_of_ble_eq_true rfl) hM ((by have hz : i = 7 := (by omega); subst hz; exact ⟨rfl, hpz, hqz, frz⟩)) dX1_narrowTo_36
      refine lv_aload_n hx hb dX1_narrowTo_8 rfl (lv_at hl 0 rfl) ?_
      refine lv_iload_n hx hb dX1_narrowTo_9 rfl (lv_at hl 2 rfl) ?_
      refine lv_aload_n hx hb dX1_narrowTo_10 rfl (lv_at hl 1 rfl) ?_
      refine mm_get (C := RX1) (T := TX1) (N := 2) (k := 0) hx hb hts (fun _ h => List.mem_cons_of_mem _ (List.mem_append_right _ h)) hown hK hM kr2 rfl (by decide) (hts (.fieldLink RX1 9 "SentenceRules$Region" "lows" "[I") (List.mem_of_getElem? (i := 1) rfl)) rfl rfl dX1_narrowTo_11 ?_
      refine lv_iload_n hx hb dX1_narrowTo_14 rfl (lv_at hl 2 rfl) ?_
      refine mn_iald hx hb hK hM kp2 i (by omega) (by decide) dX1_narrowTo_15 ?_
      refine mm_V (As := [.int (nI i), .int (lo2 i)]) (rest := []) ⟨hx, hb, hml, hown, hts⟩ (c1_keepFrom l G kr hpz hqz hpq i (by omega) (lo2 i)) (cwV 2 hts gX1_narrowTo_X1_keepFrom rfl rfl rfl (by decide +kernel) ⟨Nat.le_of_ble_eq_true rfl, Nat.le_of_ble_eq_true rfl⟩) hK hE hA hM (mm_recv hK hM kr (q := (RX1, TX1, 2)) rfl) rfl hl.1 rfl (Nat.le_of_ble_eq_true rfl) dX1_narrowTo_16 ⟨Nat.le_of_ble_eq_true rfl, Nat.le_of_ble_eq_true rfl⟩ (fun v gz2 Hp lcs hp hM => ?_)
      obtain ⟨rfl, hz3, rz4⟩ := hp
      have hz5 := (rz4 _ (ne_oi kr hpz)).trans kr
      have hz6 := (rz4 _ (Ne.symm hpq)).trans hqz
      have hz7 := (rz4 _ (ne_oi kr2 hpz)).trans kr2
      have hz8 := (rz4 _ h1).trans kp2
      have hz9 := (rz4 _ h3).trans kq2
      refine lv_aload_n hx hb dX1_narrowTo_19 rfl (lv_at hl 0 rfl) ?_
      refine lv_iload_n hx hb dX1_narrowTo_20 rfl (lv_at hl 2 rfl) ?_
      refine lv_aload_n hx hb dX1_narrowTo_21 rfl (lv_at hl 1 rfl) ?_
      refine mm_get (C := RX1) (T := TX1) (N := 2) (k := 1) hx hb hts (fun _ h => List.mem_cons_of_mem _ (List.mem_append_right _ h)) hown hK hM hz7 rfl (by decide) (hts (.fieldLink RX1 15 "SentenceRules$Region" "highs" "[I") (List.mem_of_getElem? (i := 2) rfl)) rfl rfl dX1_narrowTo_22 ?_
      refine lv_iload_n hx hb dX1_narrowTo_25 rfl (lv_at hl 2 rfl) ?_
      refine mn_iald hx hb hK hM hz9 i (by omega) (by decide) dX1_narrowTo_26 ?_
      refine mm_V (As := [.int (nI i), .int (hi2 i)]) (rest := []) ⟨hx, hb, hml, hown, hts⟩ (c1_keepUntil l G hz5 hz3 hz6 hpq i (by omega) (hi2 i)) (cwV 2 hts gX1_narrowTo_X1_keepUntil rfl rfl rfl (by decide +kernel) ⟨Nat.le_of_ble_eq_true rfl, Nat.le_of_ble_eq_true rfl⟩) hK hE hA hM (mm_recv hK hM hz5 (q := (RX1, TX1, 2)) rfl) rfl hl.1 rfl (Nat.le_of_ble_eq_true rfl) dX1_narrowTo_27 ⟨Nat.le_of_ble_eq_true rfl, Nat.le_of_ble_eq_true rfl⟩ (fun v gz10 Hp lcs hp hM => ?_)
      obtain ⟨rfl, hz11, rz12⟩ := hp
      have hz13 := (rz12 _ (ne_oi hz5 hz6)).trans hz5
      have hz14 := (rz12 _ (ne_oi hz7 hz6)).trans hz7
      have hz15 := (rz12 _ h2).trans hz8
      have hz16 := (rz12 _ h4).trans hz9
      have hz17 := (rz12 _ hpq).trans hz3
      refine lv_iinc (v := (nI (i + 1))) (lv' := [(2, .int (nI (i + 1))), (0, .ref r), (1, .ref r2)]) hx hb dX1_narrowTo_30 hl (k := 2) rfl (nI_add _ _) (by decide) rfl (fun ls hl => ?_)
      refine lv_goto (tgt := 2) hx hb dX1_narrowTo_33 (by decide) ?_
      exact ih (i + 1) _ _ _ ls (by omega) (hz13.trans hc_r.symm) (hz14.trans hc_r2.symm) (hz15.trans hc_p2.symm) (hz16.trans hc_q2.symm) (by rw [hz17]; exact congrArg (fun z => some (mI G 7 z)) (by rw [filN_at]; exact filN_s (fun i => mx (lo i) (lo2 i)) _ _)) (by rw [hz11]; exact congrArg (fun z => some (mI G 7 z)) (by rw [filN_at]; exact filN_s (fun i => mn (hi i) (hi2 i)) _ _)) (fun b z0 z1 => by simp only [rz12, rz4, frz, ne_eq, z0, z1, not_false_eq_true]) (by omega) hM (lv_sub hl [1, 2, 0] rfl)
  exact loopZ 8 0 f _ _ ls (Nat.zero_le _) rfl rfl rfl rfl hc_p hc_q (fun b _ _ => rfl) (by omega) hM (lv_sub hl [1, 2, 0] rfl)
set_option maxHeartbeats 4000000 in
set_option maxRecDepth 100000 in
theorem c1_copyFrom (l : Launch) (G : mG) {f : mE} {r p q : Nat} {lo hi : Nat → Int32} (hc_r : f r = some (.inr (2, [.ref p, .ref q]))) (hc_p : f p = some (mI G 7 lo)) (hc_q : f q = some (mI G 7 hi)) {r2 p2 q2 : Nat} {lo2 hi2 : Nat → Int32} (hc_r2 : f r2 = some (.inr (2, [.ref p2, .ref q2]))) (hc_p2 : f p2 = some (mI G 7 lo2)) (hc_q2 : f q2 = some (mI G 7 hi2)) (hpq : p ≠ q) (h1 : p2 ≠ p) (h2 : p2 ≠ q) (h3 : q2 ≠ p) (h4 : q2 ≠ q) : mC l G yX1_copyFrom wsX1_copyFrom ({ frames := 1, cells := 0, slots := 0, locals := 26 } : Room) f [.ref r, .ref r2] (fun v f1 => v = none ∧ f1 p = some (mI G 7 (va_cpy lo2 lo 0 0 7)) ∧ f1 q = some (mI G 7 (va_cpy hi2 hi 0 0 7)) ∧ ∀ b, b ≠ p → b ≠ q → f1 b = f b) 0 0 := by
  refine mC.of (cc := cX1_copyFrom) (maxL := 2) (ret := none) (by decide) rfl (Nat.le_of_ble_eq_true rfl) ?_
  intro pgm env s mt args below meth c A ls hx hb hml hr hlocks hown hname hts hK hE hA hM hl
  have hl : lv_has ls 2 [(0, .ref r), (1, .ref r2)] := hl
  refine lv_aload_n hx hb dX1_copyFrom_0 rfl (lv_at hl 1 rfl) ?_
  refine mm_get (C := RX1) (T := TX1) (N := 2) (k := 0) hx hb hts (fun _ h => List.mem_cons_of_mem _ (List.mem_append_right _ h)) hown hK hM hc_r2 rfl (by decide) (hts (.fieldLink RX1 9 "SentenceRules$Region" "lows" "[I") (List.mem_of_getElem? (i := 1) rfl)) rfl rfl dX1_copyFrom_1 ?_
  refine lv_iconst (v := (nI 0)) hx hb dX1_copyFrom_4 (by decide +kernel) ?_
  refine lv_aload_n hx hb dX1_copyFrom_5 rfl (lv_at hl 0 rfl) ?_
  refine mm_get (C := RX1) (T := TX1) (N := 2) (k := 0) hx hb hts (fun _ h => List.mem_cons_of_mem _ (List.mem_append_right _ h)) hown hK hM hc_r rfl (by decide) (hts (.fieldLink RX1 9 "SentenceRules$Region" "lows" "[I") (List.mem_of_getElem? (i := 1) rfl)) rfl rfl dX1_copyFrom_6 ?_
  refine lv_iconst (v := (nI 0)) hx hb dX1_copyFrom_9 (by decide +kernel) ?_
  refine lv_bipush (v := (nI 7)) hx hb dX1_copyFrom_10 (by decide +kernel) ?_
  refine mm_copyI hx hb (by rw [hml]; exact hl.1.symm) hown (hts (.methodLink RX1 25 arraycopyName) (List.mem_of_getElem? (i := 2) rfl)) (hts (.native arraycopyName) (List.mem_of_getElem? (i := 3) rfl)) (hts (.static arraycopyName) (List.mem_of_getElem? (i := 4) rfl)) (hts (.initialized "java/lang/System") (List.mem_of_getElem? (i := 5) rfl)) hK hM hc_p2 hc_p 0 0 7 (by decide) (by decide) (by decide) (by decide) (Nat.le_of_ble_eq_true rfl) (Nat.le_of_ble_eq_true rfl) (Nat.le_of_ble_eq_true rfl) dX1_copyFrom_12 (fun Hp lcs hM => ?_)
  obtain ⟨gz1, hM, hz2, rz3⟩ := hM.up
  have hz4 := (rz3 _ (ne_oi hc_r hc_p)).trans hc_r
  have hz5 := (rz3 _ (Ne.symm hpq)).trans hc_q
  have hz6 := (rz3 _ (ne_oi hc_r2 hc_p)).trans hc_r2
  have hz7 := (rz3 _ h1).trans hc_p2
  have hz8 := (rz3 _ h3).trans hc_q2
  refine lv_aload_n hx hb dX1_copyFrom_15 rfl (lv_at hl 1 rfl) ?_
  refine mm_get (C := RX1) (T := TX1) (N := 2) (k := 1) hx hb hts (fun _ h => List.mem_cons_of_mem _ (List.mem_append_right _ h)) hown hK hM hz6 rfl (by decide) (hts (.fieldLink RX1 15 "SentenceRules$Region" "highs" "[I") (List.mem_of_getElem? (i := 6) rfl)) rfl rfl dX1_copyFrom_16 ?_
  refine lv_iconst (v := (nI 0)) hx hb dX1_copyFrom_19 (by decide +kernel) ?_
  refine lv_aload_n hx hb dX1_copyFrom_20 rfl (lv_at hl 0 rfl) ?_
  refine mm_get (C := RX1) (T := TX1) (N := 2) (k := 1) hx hb hts (fun _ h => List.mem_cons_of_mem _ (List.mem_append_right _ h)) hown hK hM hz4 rfl (by decide) (hts (.fieldLink RX1 15 "SentenceRules$Region" "highs" "[I") (List.mem_of_getElem? (i := 6) rfl)) rfl rfl dX1_copyFrom_21 ?_
  refine lv_iconst (v := (nI 0)) hx hb dX1_copyFrom_24 (by decide +kernel) ?_
  refine lv_bipush (v := (nI 7)) hx hb dX1_copyFrom_25 (by decide +kernel) ?_
  refine mm_copyI hx hb (by rw [hml]; exact hl.1.symm) hown (hts (.methodLink RX1 25 arraycopyName) (List.mem_of_getElem? (i := 2) rfl)) (hts (.native arraycopyName) (List.mem_of_getElem? (i := 3) rfl)) (hts (.static arraycopyName) (List.mem_of_getElem? (i := 4) rfl)) (hts (.initialized "java/lang/System") (List.mem_of_getElem? (i := 5) rfl)) hK hM hz8 hz5 0 0 7 (by decide) (by decide) (by decide) (by decide) (Nat.le_of_ble_eq_true rfl) (Nat.le_of_ble_eq_true rfl) (Nat.le_of_ble_eq_true rfl) dX1_copyFrom_27 (fun Hp lcs hM => ?_)
  obtain ⟨gz9, hM, hz10, rz11⟩ := hM.up
  have hz12 := (rz11 _ (ne_oi hz4 hz5)).trans hz4
  have hz13 := (rz11 _ (ne_oi hz6 hz5)).trans hz6
  have hz14 := (rz11 _ h2).trans hz7
  have hz15 := (rz11 _ h4).trans hz8
  have hz16 := (rz11 _ hpq).trans hz2
  exact mm_vret hx hb hlocks hr (Nat.le_of_ble_eq_true rfl) (Nat.le_of_ble_eq_true rfl) hM (⟨rfl, hz16, hz10, (fun b z0 z1 => by simp only [rz11, rz3, ne_eq, z0, z1, not_false_eq_true])⟩) dX1_copyFrom_30
set_option maxHeartbeats 4000000 in
set_option maxRecDepth 100000 in
theorem c1_limitedFacts (l : Launch) (G : mG) {f : mE} {r p q : Nat} {lo hi : Nat → Int32} (hc_r : f r = some (.inr (2, [.ref p, .ref q]))) (hc_p : f p = some (mI G 7 lo)) (hc_q : f q = some (mI G 7 hi)) : mC l G yX1_limitedFacts wsX1_limitedFacts ({ frames := 1, cells := 0, slots := 0, locals := 20 } : Room) f [.ref r] (fun v f1 => v = some (.int (nI (cntN (limR lo hi) 7))) ∧ f = f1) 0 0 := by
  refine mC.of (cc := cX1_limitedFacts) (maxL := 3) (ret := (some .int)) (by decide) rfl (Nat.le_of_ble_eq_true rfl) ?_
  intro pgm env s mt args below meth c A ls hx hb hml hr hlocks hown hname hts hK hE hA hM hl
  have hl : lv_has ls 3 [(0, .ref r)] := hl
  refine lv_iconst (v := (nI 0)) hx hb dX1_limitedFacts_0 (by decide +kernel) ?_
  refine lv_istore_n (lv' := [(1, .int (nI 0)), (0, .ref r)]) hx hb dX1_limitedFacts_1 rfl hl (by decide) rfl (fun ls hl => ?_)
  refine lv_iconst (v := (nI 0)) hx hb dX1_limitedFacts_2 (by decide +kernel) ?_
  refine lv_istore_n (lv' := [(2, .int (nI 0)), (1, .int (nI 0)), (0, .ref r)]) hx hb dX1_limitedFacts_3 rfl hl (by decide) rfl (fun ls hl => ?_)
  have loopZ : ∀ (fuel : Nat) (i : Nat) (w : Nat) (Hp : Heap) (lcs : List Loc) (ls : Array Slot) (hiN : i ≤ 7) (hr0 : w = cntN (limR lo hi) i) (hfu : 7 - i < fuel) (hM : mM G A s.heap f Hp lcs) (hl : lv_has ls 3 [(0, .ref r), (1, .int (nI w)), (2, .int (nI i))]), W pgm l env ({ frames := 1, cells := 0, slots := 0, locals := 20 } : Room) s mt args below meth c Hp lcs 0 0 (MQ below (mQc G A (fun v f1 => v = some (.int (nI (cntN (limR lo hi) 7))) ∧ f = f1)) args s 0 0 A) (F0 mt 4 ls []) := by
    intro fuel
    induction fuel with
    | zero => intro i w Hp lcs ls hiN hr0 hfu; exact absurd hfu (Nat.not_lt_zero _)
    | succ fuel ih =>
      intro i w Hp lcs ls hiN hr0 hfu hM hl
      subst hr0
      refine lv_iload_n hx hb dX1_limitedFacts_4 rfl (lv_at hl 2 rfl) ?_
      refine lv_bipush (v := (nI 7)) hx hb dX1_limitedFacts_5 (by decide +kernel) ?_
      refine ln_icmp_ge i 7 (by omega) (by omega) (tgt := 45) hx hb dX1_limitedFacts_7 (by decide) (fun cz1 => ?_) (fun cz1 => ?_)
      · refine lv_iload_n hx hb dX1_limitedFacts_45 rfl (lv_at hl 1 rfl) ?_
        exact mm_iret hx hb hlocks hr (Nat.le_of_ble_eq_true rfl) (Nat.le_of_ble_eq_true rfl) hM ((by have hz : i = 7 := (by omega); subst hz; exact ⟨rfl, rfl⟩)) dX1_limitedFacts_46
      refine lv_aload_n hx hb dX1_limitedFacts_10 rfl (lv_at hl 0 rfl) ?_
      refine mm_get (C := RX1) (T := TX1) (N := 2) (k := 0) hx hb hts (fun _ h => List.mem_cons_of_mem _ (List.mem_append_right _ h)) hown hK hM hc_r rfl (by decide) (hts (.fieldLink RX1 9 "SentenceRules$Region" "lows" "[I") (List.mem_of_getElem? (i := 1) rfl)) rfl rfl dX1_limitedFacts_11 ?_
      refine lv_iload_n hx hb dX1_limitedFacts_14 rfl (lv_at hl 2 rfl) ?_
      refine mn_iald hx hb hK hM hc_p i (by omega) (by decide) dX1_limitedFacts_15 ?_
      refine lv_iload_n hx hb dX1_limitedFacts_16 rfl (lv_at hl 2 rfl) ?_
      refine mm_SN (As := [.int (nI i)]) (rest := [.int (lo i)]) ⟨hx, hb, hml, hown, hts⟩ (c5_lowestOf l G _ (nI i)) ⟨va_cnB 1 hts gX1_limitedFacts_X5_lowestOf_n18 rfl rfl rfl (hE.1.1 _ (List.mem_of_getElem? (i := 3) rfl)) (hts (.initialized RX5) (List.mem_of_getElem? (i := 4) rfl)) (by decide +kernel) ⟨Nat.le_of_ble_eq_true rfl, Nat.le_of_ble_eq_true rfl⟩, (hts (.static yX5_lowestOf) (List.mem_of_getElem? (i := 3) rfl)), trivial⟩ hK hE hA hM rfl hl.1 rfl (Nat.le_of_ble_eq_true rfl) dX1_limitedFacts_17 ⟨Nat.le_of_ble_eq_true rfl, Nat.le_of_ble_eq_true rfl⟩ (fun v f1 Hp lcs hp hM => ?_)
      obtain ⟨rfl, hf⟩ := hp; subst hf
      refine lv_icmp_ne (tgt := 36) hx hb dX1_limitedFacts_20 (by decide) (fun cz2 => ?_) (fun cz2 => ?_)
      · refine lv_iinc (v := (nI (cntN (limR lo hi) i + 1))) (lv' := [(1, .int (nI (cntN (limR lo hi) i + 1))), (0, .ref r), (2, .int (nI i))]) hx hb dX1_limitedFacts_36 hl (k := 1) rfl (nI_add _ _) (by decide) rfl (fun ls hl => ?_)
        refine lv_iinc (v := (nI (i + 1))) (lv' := [(2, .int (nI (i + 1))), (1, .int (nI (cntN (limR lo hi) i + 1))), (0, .ref r)]) hx hb dX1_limitedFacts_39 hl (k := 2) rfl (nI_add _ _) (by decide) rfl (fun ls hl => ?_)
        refine lv_goto (tgt := 4) hx hb dX1_limitedFacts_42 (by decide) ?_
        exact ih (i + 1) _ _ _ ls (by omega) (by simp [cntN, limR, cz1, cz2]) (by omega) hM (lv_sub hl [2, 1, 0] rfl)
      refine lv_aload_n hx hb dX1_limitedFacts_23 rfl (lv_at hl 0 rfl) ?_
      refine mm_get (C := RX1) (T := TX1) (N := 2) (k := 1) hx hb hts (fun _ h => List.mem_cons_of_mem _ (List.mem_append_right _ h)) hown hK hM hc_r rfl (by decide) (hts (.fieldLink RX1 15 "SentenceRules$Region" "highs" "[I") (List.mem_of_getElem? (i := 2) rfl)) rfl rfl dX1_limitedFacts_24 ?_
      refine lv_iload_n hx hb dX1_limitedFacts_27 rfl (lv_at hl 2 rfl) ?_
      refine mn_iald hx hb hK hM hc_q i (by omega) (by decide) dX1_limitedFacts_28 ?_
      refine lv_iload_n hx hb dX1_limitedFacts_29 rfl (lv_at hl 2 rfl) ?_
      refine mm_SN (As := [.int (nI i)]) (rest := [.int (hi i)]) ⟨hx, hb, hml, hown, hts⟩ (c5_highestOf l G _ (nI i)) ⟨va_cnB 1 hts gX1_limitedFacts_X5_highestOf_n22 rfl rfl rfl (hE.1.1 _ (List.mem_of_getElem? (i := 4) rfl)) (hts (.initialized RX5) (List.mem_of_getElem? (i := 4) rfl)) (by decide +kernel) ⟨Nat.le_of_ble_eq_true rfl, Nat.le_of_ble_eq_true rfl⟩, (hts (.static yX5_highestOf) (List.mem_of_getElem? (i := 6) rfl)), trivial⟩ hK hE hA hM rfl hl.1 rfl (Nat.le_of_ble_eq_true rfl) dX1_limitedFacts_30 ⟨Nat.le_of_ble_eq_true rfl, Nat.le_of_ble_eq_true rfl⟩ (fun v f1 Hp lcs hp hM => ?_)
      obtain ⟨rfl, hf⟩ := hp; subst hf
      refine lv_icmp_eq (tgt := 39) hx hb dX1_limitedFacts_33 (by decide) (fun cz3 => ?_) (fun cz3 => ?_)
      · refine lv_iinc (v := (nI (i + 1))) (lv' := [(2, .int (nI (i + 1))), (0, .ref r), (1, .int (nI (cntN (limR lo hi) i)))]) hx hb dX1_limitedFacts_39 hl (k := 2) rfl (nI_add _ _) (by decide) rfl (fun ls hl => ?_)
        refine lv_goto (tgt := 4) hx hb dX1_limitedFacts_42 (by decide) ?_
        exact ih (i + 1) _ _ _ ls (by omega) (by simp [cntN, limR, cz1, cz2, cz3]) (by omega) hM (lv_sub hl [1, 2, 0] rfl)
      refine lv_iinc (v := (nI (cntN (limR lo hi) i + 1))) (lv' := [(1, .int (nI (cntN (limR lo hi) i + 1))), (0, .ref r), (2, .int (nI i))]) hx hb dX1_limitedFacts_36 hl (k := 1) rfl (nI_add _ _) (by decide) rfl (fun ls hl => ?_)
      refine lv_iinc (v := (nI (i + 1))) (lv' := [(2, .int (nI (i + 1))), (1, .int (nI (cntN (limR lo hi) i + 1))), (0, .ref r)]) hx hb dX1_limitedFacts_39 hl (k := 2) rfl (nI_add _ _) (by decide) rfl (fun ls hl => ?_)
      refine lv_goto (tgt := 4) hx hb dX1_limitedFacts_42 (by decide) ?_
      exact ih (i + 1) _ _ _ ls (by omega) (by simp [cntN, limR, cz1, cz2, cz3]) (by omega) hM (lv_sub hl [2, 1, 0] rfl)
  exact loopZ 8 0 0 _ _ ls (Nat.zero_le _) rfl (by omega) hM (lv_sub hl [2, 1, 0] rfl)
set_option maxHeartbeats 4000000 in
set_option maxRecDepth 100000 in
theorem c4_append (l : Launch) (G : mG) {f : mE} {t p q n : Nat} {K V : Nat → Int32} (hc_t : f t = some (.inr (5, [.int (nI n), .ref p, .ref q]))) (hc_p : f p = some (mI G 24 K)) (hc_q : f q = some (mI G 24 V)) (hpq : p ≠ q) (hn : n < 24) (x y : Int32) : mC l G yX4_append wsX4_append ({ frames := 0, cells := 0, slots := 0, locals := 0 } : Room) f [.ref t, .int x, .int y] (fun v f1 => v = some (.int (bI true)) ∧ f1 t = some (.inr (5, [.int (nI (n + 1)), .ref p, .ref q])) ∧ f1 p = some (mI G 24 (upd K n x)) ∧ f1 q = some (mI G 24 (upd V n y)) ∧ ∀ b, b ≠ t → b ≠ p → b ≠ q → f1 b = f b) 0 0 := by
  refine mC.of (cc := cX4_append) (maxL := 3) (ret := (some .boolean)) (by decide) rfl (Nat.le_of_ble_eq_true rfl) ?_
  intro pgm env s mt args below meth c A ls hx hb hml hr hlocks hown hname hts hK hE hA hM hl
  have hl : lv_has ls 3 [(0, .ref t), (1, .int x), (2, .int y)] := hl
  refine lv_aload_n hx hb dX4_append_0 rfl (lv_at hl 0 rfl) ?_
  refine mm_get (C := RX4) (T := TX4) (N := 3) (k := 0) hx hb hts (fun _ h => List.mem_cons_of_mem _ (List.mem_append_right _ h)) hown hK hM hc_t rfl (by decide) (hts (.fieldLink RX4 18 "SentenceRules$Tokens" "count" "I") (List.mem_of_getElem? (i := 1) rfl)) rfl rfl dX4_append_1 ?_
  refine lv_bipush (v := (nI 24)) hx hb dX4_append_4 (by decide +kernel) ?_
  refine ln_icmp_lt n 24 (by omega) (by omega) (tgt := 11) hx hb dX4_append_6 (by decide) (fun cz1 => ?_) (fun cz1 => ?_)
  · refine lv_aload_n hx hb dX4_append_11 rfl (lv_at hl 0 rfl) ?_
    refine mm_get (C := RX4) (T := TX4) (N := 3) (k := 1) hx hb hts (fun _ h => List.mem_cons_of_mem _ (List.mem_append_right _ h)) hown hK hM hc_t rfl (by decide) (hts (.fieldLink RX4 9 "SentenceRules$Tokens" "kinds" "[I") (List.mem_of_getElem? (i := 2) rfl)) rfl rfl dX4_append_12 ?_
    refine lv_aload_n hx hb dX4_append_15 rfl (lv_at hl 0 rfl) ?_
    refine mm_get (C := RX4) (T := TX4) (N := 3) (k := 0) hx hb hts (fun _ h => List.mem_cons_of_mem _ (List.mem_append_right _ h)) hown hK hM hc_t rfl (by decide) (hts (.fieldLink RX4 18 "SentenceRules$Tokens" "count" "I") (List.mem_of_getElem? (i := 1) rfl)) rfl rfl dX4_append_16 ?_
    refine lv_iload_n hx hb dX4_append_19 rfl (lv_at hl 1 rfl) ?_
    refine mn_iast hx hb hK hM hc_p n (by omega) (by decide) dX4_append_20 (fun Hp lcs hM => ?_)
    obtain ⟨gz2, hM, hz3, rz4⟩ := hM.up
    have hz5 := (rz4 _ (ne_oi hc_t hc_p)).trans hc_t
    have hz6 := (rz4 _ (Ne.symm hpq)).trans hc_q
    refine lv_aload_n hx hb dX4_append_21 rfl (lv_at hl 0 rfl) ?_
    refine mm_get (C := RX4) (T := TX4) (N := 3) (k := 2) hx hb hts (fun _ h => List.mem_cons_of_mem _ (List.mem_append_right _ h)) hown hK hM hz5 rfl (by decide) (hts (.fieldLink RX4 15 "SentenceRules$Tokens" "values" "[I") (List.mem_of_getElem? (i := 3) rfl)) rfl rfl dX4_append_22 ?_
    refine lv_aload_n hx hb dX4_append_25 rfl (lv_at hl 0 rfl) ?_
    refine mm_get (C := RX4) (T := TX4) (N := 3) (k := 0) hx hb hts (fun _ h => List.mem_cons_of_mem _ (List.mem_append_right _ h)) hown hK hM hz5 rfl (by decide) (hts (.fieldLink RX4 18 "SentenceRules$Tokens" "count" "I") (List.mem_of_getElem? (i := 1) rfl)) rfl rfl dX4_append_26 ?_
    refine lv_iload_n hx hb dX4_append_29 rfl (lv_at hl 2 rfl) ?_
    refine mn_iast hx hb hK hM hz6 n (by omega) (by decide) dX4_append_30 (fun Hp lcs hM => ?_)
    obtain ⟨gz7, hM, hz8, rz9⟩ := hM.up
    have hz10 := (rz9 _ (ne_oi hz5 hz6)).trans hz5
    have hz11 := (rz9 _ hpq).trans hz3
    refine lv_aload_n hx hb dX4_append_31 rfl (lv_at hl 0 rfl) ?_
    refine lv_dup hx hb dX4_append_32 rfl ?_
    refine mm_get (C := RX4) (T := TX4) (N := 3) (k := 0) hx hb hts (fun _ h => List.mem_cons_of_mem _ (List.mem_append_right _ h)) hown hK hM hz10 rfl (by decide) (hts (.fieldLink RX4 18 "SentenceRules$Tokens" "count" "I") (List.mem_of_getElem? (i := 1) rfl)) rfl rfl dX4_append_33 ?_
    refine lv_iconst (v := (nI 1)) hx hb dX4_append_36 (by decide +kernel) ?_
    refine ln_iadd n 1 hx hb dX4_append_37 ?_
    refine mm_put (C := RX4) (T := TX4) (N := 3) (k := 0) hx hb hts (fun _ h => List.mem_cons_of_mem _ (List.mem_append_right _ h)) tyX4 tyX4_ok nmX4 hown hK hM hz10 rfl (by decide) (hts (.fieldLink RX4 18 "SentenceRules$Tokens" "count" "I") (List.mem_of_getElem? (i := 1) rfl)) rfl rfl rfl rfl (Nat.le_of_ble_eq_true rfl) dX4_append_38 (fun Hp lcs hM => ?_)
    obtain ⟨gz12, hM, hz13, rz14⟩ := hM.up
    have hz15 := (rz14 _ (ne_oi hz10 hz11).symm).trans hz11
    have hz16 := (rz14 _ (ne_oi hz10 hz8).symm).trans hz8
    refine lv_iconst (v := (nI 1)) hx hb dX4_append_41 (by decide +kernel) ?_
    exact mm_zret hx hb hlocks hr (by first | rfl | exact bI_nar _) (Nat.le_of_ble_eq_true rfl) (Nat.le_of_ble_eq_true rfl) hM (⟨rfl, hz13, hz15, hz16, (fun b z0 z1 z2 => by simp only [rz14, rz9, rz4, ne_eq, z0, z1, z2, not_false_eq_true])⟩) dX4_append_42
  exact absurd cz1 (by omega)
set_option maxHeartbeats 4000000 in
set_option maxRecDepth 100000 in
theorem c4_appendF (l : Launch) (G : mG) {f : mE} {t p q n : Nat} {K V : Nat → Int32} (hc_t : f t = some (.inr (5, [.int (nI n), .ref p, .ref q]))) (hc_p : f p = some (mI G 24 K)) (hc_q : f q = some (mI G 24 V)) (hn : n = 24) (x y : Int32) : mC l G yX4_append wsX4_append ({ frames := 0, cells := 0, slots := 0, locals := 0 } : Room) f [.ref t, .int x, .int y] (fun v f1 => v = some (.int (bI (false))) ∧ f = f1) 0 0 := by
  refine mC.of (cc := cX4_append) (maxL := 3) (ret := (some .boolean)) (by decide) rfl (Nat.le_of_ble_eq_true rfl) ?_
  intro pgm env s mt args below meth c A ls hx hb hml hr hlocks hown hname hts hK hE hA hM hl
  have hl : lv_has ls 3 [(0, .ref t), (1, .int x), (2, .int y)] := hl
  refine lv_aload_n hx hb dX4_append_0 rfl (lv_at hl 0 rfl) ?_
  refine mm_get (C := RX4) (T := TX4) (N := 3) (k := 0) hx hb hts (fun _ h => List.mem_cons_of_mem _ (List.mem_append_right _ h)) hown hK hM hc_t rfl (by decide) (hts (.fieldLink RX4 18 "SentenceRules$Tokens" "count" "I") (List.mem_of_getElem? (i := 1) rfl)) rfl rfl dX4_append_1 ?_
  refine lv_bipush (v := (nI 24)) hx hb dX4_append_4 (by decide +kernel) ?_
  refine ln_icmp_lt n 24 (by omega) (by omega) (tgt := 11) hx hb dX4_append_6 (by decide) (fun cz1 => ?_) (fun cz1 => ?_)
  · exact absurd cz1 (by omega)
  refine lv_iconst (v := (nI 0)) hx hb dX4_append_9 (by decide +kernel) ?_
  exact mm_zret hx hb hlocks hr (by first | rfl | exact bI_nar _) (Nat.le_of_ble_eq_true rfl) (Nat.le_of_ble_eq_true rfl) hM (⟨rfl, rfl⟩) dX4_append_10
set_option maxHeartbeats 4000000 in
set_option maxRecDepth 100000 in
theorem c4_removeAll (l : Launch) (G : mG) {f : mE} {t p q n : Nat} {K V : Nat → Int32} (hc_t : f t = some (.inr (5, [.int (nI n), .ref p, .ref q]))) (hc_p : f p = some (mI G 24 K)) (hc_q : f q = some (mI G 24 V)) : mC l G yX4_removeAll wsX4_removeAll ({ frames := 0, cells := 0, slots := 0, locals := 0 } : Room) f [.ref t] (fun v f1 => v = none ∧ f1 t = some (.inr (5, [.int (nI 0), .ref p, .ref q])) ∧ ∀ b, b ≠ t → f1 b = f b) 0 0 := by
  refine mC.of (cc := cX4_removeAll) (maxL := 1) (ret := none) (by decide) rfl (Nat.le_of_ble_eq_true rfl) ?_
  intro pgm env s mt args below meth c A ls hx hb hml hr hlocks hown hname hts hK hE hA hM hl
  have hl : lv_has ls 1 [(0, .ref t)] := hl
  refine lv_aload_n hx hb dX4_removeAll_0 rfl (lv_at hl 0 rfl) ?_
  refine lv_iconst (v := (nI 0)) hx hb dX4_removeAll_1 (by decide +kernel) ?_
  refine mm_put (C := RX4) (T := TX4) (N := 3) (k := 0) hx hb hts (fun _ h => List.mem_cons_of_mem _ (List.mem_append_right _ h)) tyX4 tyX4_ok nmX4 hown hK hM hc_t rfl (by decide) (hts (.fieldLink RX4 18 "SentenceRules$Tokens" "count" "I") (List.mem_of_getElem? (i := 1) rfl)) rfl rfl rfl rfl (Nat.le_of_ble_eq_true rfl) dX4_removeAll_2 (fun Hp lcs hM => ?_)
  obtain ⟨gz1, hM, hz2, rz3⟩ := hM.up
  have hz4 := (rz3 _ (ne_oi hc_t hc_p).symm).trans hc_p
  have hz5 := (rz3 _ (ne_oi hc_t hc_q).symm).trans hc_q
  exact mm_vret hx hb hlocks hr (Nat.le_of_ble_eq_true rfl) (Nat.le_of_ble_eq_true rfl) hM (⟨rfl, hz2, (fun b z0 => by simp only [rz3, ne_eq, z0, not_false_eq_true])⟩) dX4_removeAll_5
set_option maxHeartbeats 4000000 in
set_option maxRecDepth 100000 in
theorem c4_copyFrom (l : Launch) (G : mG) {f : mE} {t p q n : Nat} {K V : Nat → Int32} (hc_t : f t = some (.inr (5, [.int (nI n), .ref p, .ref q]))) (hc_p : f p = some (mI G 24 K)) (hc_q : f q = some (mI G 24 V)) {t2 p2 q2 n2 : Nat} {K2 V2 : Nat → Int32} (hc_t2 : f t2 = some (.inr (5, [.int (nI n2), .ref p2, .ref q2]))) (hc_p2 : f p2 = some (mI G 24 K2)) (hc_q2 : f q2 = some (mI G 24 V2)) (ht : t2 ≠ t) (hpq : p ≠ q) (h1 : p2 ≠ p) (h2 : p2 ≠ q) (h3 : q2 ≠ p) (h4 : q2 ≠ q) : mC l G yX4_copyFrom wsX4_copyFrom ({ frames := 1, cells := 0, slots := 0, locals := 26 } : Room) f [.ref t, .ref t2] (fun v f1 => v = none ∧ f1 t = some (.inr (5, [.int (nI n2), .ref p, .ref q])) ∧ f1 p = some (mI G 24 (va_cpy K2 K 0 0 24)) ∧ f1 q = some (mI G 24 (va_cpy V2 V 0 0 24)) ∧ ∀ b, b ≠ t → b ≠ p → b ≠ q → f1 b = f b) 0 0 := by
  refine mC.of (cc := cX4_copyFrom) (maxL := 2) (ret := none) (by decide) rfl (Nat.le_of_ble_eq_true rfl) ?_
  intro pgm env s mt args below meth c A ls hx hb hml hr hlocks hown hname hts hK hE hA hM hl
  have hl : lv_has ls 2 [(0, .ref t), (1, .ref t2)] := hl
  refine lv_aload_n hx hb dX4_copyFrom_0 rfl (lv_at hl 0 rfl) ?_
  refine lv_aload_n hx hb dX4_copyFrom_1 rfl (lv_at hl 1 rfl) ?_
  refine mm_get (C := RX4) (T := TX4) (N := 3) (k := 0) hx hb hts (fun _ h => List.mem_cons_of_mem _ (List.mem_append_right _ h)) hown hK hM hc_t2 rfl (by decide) (hts (.fieldLink RX4 18 "SentenceRules$Tokens" "count" "I") (List.mem_of_getElem? (i := 1) rfl)) rfl rfl dX4_copyFrom_2 ?_
  refine mm_put (C := RX4) (T := TX4) (N := 3) (k := 0) hx hb hts (fun _ h => List.mem_cons_of_mem _ (List.mem_append_right _ h)) tyX4 tyX4_ok nmX4 hown hK hM hc_t rfl (by decide) (hts (.fieldLink RX4 18 "SentenceRules$Tokens" "count" "I") (List.mem_of_getElem? (i := 1) rfl)) rfl rfl rfl rfl (Nat.le_of_ble_eq_true rfl) dX4_copyFrom_5 (fun Hp lcs hM => ?_)
  obtain ⟨gz1, hM, hz2, rz3⟩ := hM.up
  have hz4 := (rz3 _ (ne_oi hc_t hc_p).symm).trans hc_p
  have hz5 := (rz3 _ (ne_oi hc_t hc_q).symm).trans hc_q
  have hz6 := (rz3 _ ht).trans hc_t2
  have hz7 := (rz3 _ (ne_oi hc_t hc_p2).symm).trans hc_p2
  have hz8 := (rz3 _ (ne_oi hc_t hc_q2).symm).trans hc_q2
  refine lv_aload_n hx hb dX4_copyFrom_8 rfl (lv_at hl 1 rfl) ?_
  refine mm_get (C := RX4) (T := TX4) (N := 3) (k := 1) hx hb hts (fun _ h => List.mem_cons_of_mem _ (List.mem_append_right _ h)) hown hK hM hz6 rfl (by decide) (hts (.fieldLink RX4 9 "SentenceRules$Tokens" "kinds" "[I") (List.mem_of_getElem? (i := 2) rfl)) rfl rfl dX4_copyFrom_9 ?_
  refine lv_iconst (v := (nI 0)) hx hb dX4_copyFrom_12 (by decide +kernel) ?_
  refine lv_aload_n hx hb dX4_copyFrom_13 rfl (lv_at hl 0 rfl) ?_
  refine mm_get (C := RX4) (T := TX4) (N := 3) (k := 1) hx hb hts (fun _ h => List.mem_cons_of_mem _ (List.mem_append_right _ h)) hown hK hM hz2 rfl (by decide) (hts (.fieldLink RX4 9 "SentenceRules$Tokens" "kinds" "[I") (List.mem_of_getElem? (i := 2) rfl)) rfl rfl dX4_copyFrom_14 ?_
  refine lv_iconst (v := (nI 0)) hx hb dX4_copyFrom_17 (by decide +kernel) ?_
  refine lv_bipush (v := (nI 24)) hx hb dX4_copyFrom_18 (by decide +kernel) ?_
  refine mm_copyI hx hb (by rw [hml]; exact hl.1.symm) hown (hts (.methodLink RX4 22 arraycopyName) (List.mem_of_getElem? (i := 3) rfl)) (hts (.native arraycopyName) (List.mem_of_getElem? (i := 4) rfl)) (hts (.static arraycopyName) (List.mem_of_getElem? (i := 5) rfl)) (hts (.initialized "java/lang/System") (List.mem_of_getElem? (i := 6) rfl)) hK hM hz7 hz4 0 0 24 (by decide) (by decide) (by decide) (by decide) (Nat.le_of_ble_eq_true rfl) (Nat.le_of_ble_eq_true rfl) (Nat.le_of_ble_eq_true rfl) dX4_copyFrom_20 (fun Hp lcs hM => ?_)
  obtain ⟨gz9, hM, hz10, rz11⟩ := hM.up
  have hz12 := (rz11 _ (Ne.symm hpq)).trans hz5
  have hz13 := (rz11 _ (ne_oi hz6 hz4)).trans hz6
  have hz14 := (rz11 _ h1).trans hz7
  have hz15 := (rz11 _ h3).trans hz8
  have hz16 := (rz11 _ (ne_oi hz2 hz4)).trans hz2
  refine lv_aload_n hx hb dX4_copyFrom_23 rfl (lv_at hl 1 rfl) ?_
  refine mm_get (C := RX4) (T := TX4) (N := 3) (k := 2) hx hb hts (fun _ h => List.mem_cons_of_mem _ (List.mem_append_right _ h)) hown hK hM hz13 rfl (by decide) (hts (.fieldLink RX4 15 "SentenceRules$Tokens" "values" "[I") (List.mem_of_getElem? (i := 7) rfl)) rfl rfl dX4_copyFrom_24 ?_
  refine lv_iconst (v := (nI 0)) hx hb dX4_copyFrom_27 (by decide +kernel) ?_
  refine lv_aload_n hx hb dX4_copyFrom_28 rfl (lv_at hl 0 rfl) ?_
  refine mm_get (C := RX4) (T := TX4) (N := 3) (k := 2) hx hb hts (fun _ h => List.mem_cons_of_mem _ (List.mem_append_right _ h)) hown hK hM hz16 rfl (by decide) (hts (.fieldLink RX4 15 "SentenceRules$Tokens" "values" "[I") (List.mem_of_getElem? (i := 7) rfl)) rfl rfl dX4_copyFrom_29 ?_
  refine lv_iconst (v := (nI 0)) hx hb dX4_copyFrom_32 (by decide +kernel) ?_
  refine lv_bipush (v := (nI 24)) hx hb dX4_copyFrom_33 (by decide +kernel) ?_
  refine mm_copyI hx hb (by rw [hml]; exact hl.1.symm) hown (hts (.methodLink RX4 22 arraycopyName) (List.mem_of_getElem? (i := 3) rfl)) (hts (.native arraycopyName) (List.mem_of_getElem? (i := 4) rfl)) (hts (.static arraycopyName) (List.mem_of_getElem? (i := 5) rfl)) (hts (.initialized "java/lang/System") (List.mem_of_getElem? (i := 6) rfl)) hK hM hz15 hz12 0 0 24 (by decide) (by decide) (by decide) (by decide) (Nat.le_of_ble_eq_true rfl) (Nat.le_of_ble_eq_true rfl) (Nat.le_of_ble_eq_true rfl) dX4_copyFrom_35 (fun Hp lcs hM => ?_)
  obtain ⟨gz17, hM, hz18, rz19⟩ := hM.up
  have hz20 := (rz19 _ (ne_oi hz13 hz12)).trans hz13
  have hz21 := (rz19 _ h2).trans hz14
  have hz22 := (rz19 _ h4).trans hz15
  have hz23 := (rz19 _ (ne_oi hz16 hz12)).trans hz16
  have hz24 := (rz19 _ hpq).trans hz10
  exact mm_vret hx hb hlocks hr (Nat.le_of_ble_eq_true rfl) (Nat.le_of_ble_eq_true rfl) hM (⟨rfl, hz23, hz24, hz18, (fun b z0 z1 z2 => by simp only [rz19, rz11, rz3, ne_eq, z0, z1, z2, not_false_eq_true])⟩) dX4_copyFrom_38
