/-! THE REFERENCE: more of the state's changes -/
def addI (c : Nat) : Int32 := if c = 24 then -100004 else nI (c + 1)
def addT (S : Nat → Int32) (c : Nat) (x y : Int32) : Nat → Int32 := if c = 24 then S else addS S c x y
def recP (S P : Nat → Int32) (q : Nat) : Nat → Int32 := if q = 8 then cpK S (shK P 7791) 7 1113 else cpK S P q 1113
def recN (q : Nat) : Nat := if q = 8 then 8 else q + 1
def dayI (x1 x2 x3 : Int32) : Int32 := nI (dayN x1.toNatClampNeg x2.toNatClampNeg x3.toNatClampNeg)
theorem dayI_nI {y m d : Nat} (hy : y ≤ 2099) (hm : m ≤ 12) (hd : d ≤ 31) : dayI (nI y) (nI m) (nI d) = nI (dayN y m d) := by
  rw [dayI, nI_clamp (by omega), nI_clamp (by omega), nI_clamp (by omega)]
theorem inB_nat2 {k : Int32} {L K : Nat} (hL : L < 2 ^ 31) (hK : K < 2 ^ 31) (h : inB k (nI L) (nI K) = true) : ∃ i, L ≤ i ∧ i ≤ K ∧ k = nI i := by
  rw [inB, Bool.and_eq_true, decide_eq_true_eq, decide_eq_true_eq] at h
  have h1 : ¬ k < 0 := by
    have := Int32.le_iff_toInt_le.mp h.1
    rw [nI_toInt hL] at this
    rw [Int32.lt_iff_toInt_lt, Int32.toInt_zero]; omega
  obtain ⟨i, hi, e⟩ := nI_of2 (nI_toInt hK) h1 h.2
  refine ⟨i, ?_, hi, e⟩
  have h2 := h.1
  rw [e] at h2
  exact (nI_leI hL (by omega)).mp h2
theorem date_nat {x1 x2 x3 : Int32} (h : dateB x1 x2 x3 = true) : ∃ y m d : Nat, 1900 ≤ y ∧ y ≤ 2099 ∧ 1 ≤ m ∧ m ≤ 12 ∧ 1 ≤ d ∧ d ≤ 31 ∧ x1 = nI y ∧ x2 = nI m ∧ x3 = nI d := by
  rw [dateB, Bool.and_eq_true, Bool.and_eq_true] at h
  obtain ⟨y, y1, y2, rfl⟩ := inB_nat2 (L := 1900) (K := 2099) (by decide) (by decide) h.1.1
  obtain ⟨m, m1, m2, rfl⟩ := inB_nat2 (L := 1) (K := 12) (by decide) (by decide) h.1.2
  have h3 := h.2
  rw [daysF_nI (by omega)] at h3
  have hb := daysN_le y m
  obtain ⟨d, d1, d2, rfl⟩ := inB_nat2 (L := 1) (K := daysN y m) (by decide) (by omega) h3
  exact ⟨y, m, d, y1, y2, m1, m2, d1, by omega, rfl, rfl, rfl⟩
/-- month by month -/
def codG : Nat → Nat → Nat → Nat → Nat × Nat × Nat
  | 0, lf, y, m => (lf, y, m)
  | k + 1, lf, y, m => if daysN y m ≤ lf then codG k (lf - daysN y m) (if m = 12 then y + 1 else y) (if m = 12 then 1 else m + 1) else (lf, y, m)
def codeN (x : Nat) : Nat := 10000 * (codG (x + 1) x 1900 1).2.1 + 100 * (codG (x + 1) x 1900 1).2.2 + (codG (x + 1) x 1900 1).1 + 1
theorem codG_st : ∀ {k k2 lf y m : Nat}, lf < k → lf < k2 → codG k lf y m = codG k2 lf y m
  | 0, _, lf, _, _, h, _ => absurd h (Nat.not_lt_zero lf)
  | _ + 1, 0, lf, _, _, _, h => absurd h (Nat.not_lt_zero lf)
  | k + 1, k2 + 1, lf, y, m, h, h2 => by
    have hd := daysN_le y m
    rw [codG, codG]
    split
    · exact codG_st (by omega) (by omega)
    · rfl
theorem codG_go {k lf y m : Nat} {yy mm : Nat} (h : daysN y m ≤ lf) (hy : yy = if m = 12 then y + 1 else y) (hm : mm = if m = 12 then 1 else m + 1) : codG (k + 1) lf y m = codG k (lf - daysN y m) yy mm := by
  rw [codG, if_pos h, hy, hm]
theorem codeN_at {x lf y m : Nat} (h : codG (lf + 1) lf y m = codG (x + 1) x 1900 1) (h2 : lf < daysN y m) : 10000 * y + 100 * m + lf + 1 = codeN x := by
  rw [codeN, ← h, codG, if_neg (by omega)]
def retK (S : Nat → Int32) (j i : Nat) : Nat → Int32 := fun m => if 57 + 66 * j ≤ m ∧ m < 57 + 66 * j + i then S (m + 66) else S m
theorem retK_0 (S : Nat → Int32) (j : Nat) : retK S j 0 = S := by funext m; unfold retK; rw [if_neg (by omega)]
theorem retK_s (S : Nat → Int32) (j i : Nat) : upd (retK S j i) (57 + 66 * j + i) (retK S j i (57 + 66 * j + 66 + i)) = retK S j (i + 1) := by
  funext m
  unfold upd retK
  by_cases h : m = 57 + 66 * j + i
  · subst h
    rw [if_pos rfl, if_neg (by omega), if_pos ⟨by omega, by omega⟩]
    congr 1; omega
  · rw [if_neg h]
    by_cases h2 : 57 + 66 * j ≤ m ∧ m < 57 + 66 * j + i
    · rw [if_pos h2, if_pos ⟨h2.1, by omega⟩]
    · rw [if_neg h2, if_neg (by omega)]
theorem retK_lo {S : Nat → Int32} {j i m : Nat} (h : m < 57) : retK S j i m = S m := by unfold retK; rw [if_neg (by omega)]
def retS (S : Nat → Int32) (n j : Nat) : Nat → Int32 := upd (retK S j (1113 - (57 + 66 * j + 66))) 56 (nI (n - 1))
theorem retS_of {S : Nat → Int32} {n j i : Nat} (h : 57 + 66 * j + 66 + i = 1113) : upd (retK S j i) 56 (nI (n - 1)) = retS S n j := by
  rw [retS, show 1113 - (57 + 66 * j + 66) = i by omega]
def retP (S : Nat → Int32) (n j : Nat) : Bool := !decide (S (57 + 66 * j + 49) < nI 10) && exN (useQ S (S (57 + 66 * j + 49) - nI 10)) n
theorem retP_1 {S : Nat → Int32} {n j : Nat} (h : S (57 + 66 * j + 49) < nI 10) : retP S n j = false := by rw [retP]; simp [h]
theorem retP_2 {S : Nat → Int32} {n j : Nat} (h : exN (useQ S (S (57 + 66 * j + 49) - nI 10)) n = false) : retP S n j = false := by rw [retP, h]; simp
def retV (S : Nat → Int32) (n : Nat) (k : Int32) : Int32 := tolI S k (fun j => if retP S n j = true then -100003 else nI (n - 1))
theorem retV_no {S : Nat → Int32} {n : Nat} {k : Int32} (h : inB k 0 (S 56 - 1) = false) : (-100001) = retV S n k := tol_no h
theorem retV_neg1 {S : Nat → Int32} {n : Nat} {k : Int32} (h : inB k 0 (S 56 - 1) = false) : retV S n k < 0 := by rw [← retV_no h]; decide
theorem retV_us {S : Nat → Int32} {n j : Nat} (hn : S 56 = nI n) (hn16 : n ≤ 16) (hj : j < n) (h1 : ¬ S (57 + 66 * j + 49) < nI 10) (h2 : exN (useQ S (S (57 + 66 * j + 49) - nI 10)) n = true) : (-100003) = retV S n (nI j) :=
  tol_at hn hn16 hj (by rw [if_pos]; rw [retP, h2]; simp [h1])
theorem retV_neg2 {S : Nat → Int32} {n j : Nat} (hn : S 56 = nI n) (hn16 : n ≤ 16) (hj : j < n) (h1 : ¬ S (57 + 66 * j + 49) < nI 10) (h2 : exN (useQ S (S (57 + 66 * j + 49) - nI 10)) n = true) : retV S n (nI j) < 0 := by rw [← retV_us hn hn16 hj h1 h2]; decide
theorem c6_add (l : Launch) (G : mG) {f : mE} {o : Nat} {a : Nat → Nat} {S P lo hi ou : Nat → Int32} {rc isr wd us ab gi wr wo : Int32} (hI : RI G f o a S P lo hi ou rc isr wd us ab gi wr wo) {cn : Nat} (hc : S 7 = nI cn) (hc24 : cn ≤ 24) (x y : Int32) : mC l G yX6_add wsX6_add ({ frames := 0, cells := 0, slots := 0, locals := 0 } : Room) f [.ref o, .int x, .int y] (fun v f1 => v = some (.int (addI cn)) ∧ RI G f1 o a (addT S cn x y) P lo hi ou rc isr wd us ab gi wr wo) 0 0 := by
  rcases Nat.lt_or_ge cn 24 with h | h
  · exact (c6_addL l G hI hc h x y).mono (fun v f1 q => ⟨q.1.trans (by rw [addI, if_neg (by omega)]), by rw [addT, if_neg (by omega)]; exact q.2⟩)
  · obtain rfl : cn = 24 := by omega
    exact (c6_add24 l G hI hc x y).mono (fun v f1 q => ⟨q.1.trans (by rw [addI, if_pos rfl]), by rw [addT, if_pos rfl]; exact q.2 ▸ hI⟩)
theorem c6_record (l : Launch) (G : mG) {f : mE} {q : Nat} {o : Nat} {a : Nat → Nat} {S P lo hi ou : Nat → Int32} {isr wd us ab gi wr wo : Int32} (hI : RI G f o a S P lo hi ou (nI q) isr wd us ab gi wr wo) (hq : q ≤ 8) : mC l G yX6_record wsX6_record ({ frames := 0, cells := 0, slots := 0, locals := 0 } : Room) f [.ref o] (fun v f1 => v = none ∧ RI G f1 o a S (recP S P q) lo hi ou (nI (recN q)) isr wd us ab gi wr wo) 0 0 := by
  rcases Nat.lt_or_ge q 8 with h | h
  · exact (c6_recordL l G hI h).mono (fun v f1 z => ⟨z.1, by rw [recP, if_neg (by omega), recN, if_neg (by omega)]; exact z.2⟩)
  · obtain rfl : q = 8 := by omega
    exact (c6_record8 l G hI).mono (fun v f1 z => ⟨z.1, by rw [recP, if_pos rfl, recN, if_pos rfl]; exact z.2⟩)
set_option maxHeartbeats 4000000 in
set_option maxRecDepth 100000 in
theorem c6_word (l : Launch) (G : mG) {f : mE} {o : Nat} {a : Nat → Nat} {S P lo hi ou : Nat → Int32} {rc isr wd us ab gi wr wo : Int32} (hI : RI G f o a S P lo hi ou rc isr wd us ab gi wr wo) {cn : Nat} (hc : S 7 = nI cn) (hc24 : cn ≤ 24) (x : Int32) : mC l G yX6_word wsX6_word ({ frames := 1, cells := 0, slots := 0, locals := 23 } : Room) f [.ref o, .int x] (fun v f1 => v = some (.int (if inB x 0 25 = true then addI cn else -100002)) ∧ RI G f1 o a (if inB x 0 25 = true then addT S cn 0 x else S) P lo hi ou rc isr wd us ab gi wr wo) 0 0 := by
  refine mC.of (cc := cX6_word) (maxL := 2) (ret := (some .int)) (by decide) rfl (Nat.le_of_ble_eq_true rfl) ?_
  intro pgm env s mt args below meth c A ls hx hb hml hr hlocks hown hname hts hK hE hA hM hl
  have hl : lv_has ls 2 [(0, .ref o), (1, .int x)] := hl
  refine lv_iload_n hx hb dX6_word_0 rfl (lv_at hl 1 rfl) ?_
  refine lv_iconst (v := (nI 0)) hx hb dX6_word_1 (by decide +kernel) ?_
  refine lv_bipush (v := (nI 25)) hx hb dX6_word_2 (by decide +kernel) ?_
  refine mm_S (As := [.int x, .int (nI 0), .int (nI 25)]) (rest := []) ⟨hx, hb, hml, hown, hts⟩ (c6_in l G _ x (nI 0) (nI 25)) (va_cwS 3 hts gX6_word_X6_in rfl rfl rfl (by decide +kernel) ⟨Nat.le_of_ble_eq_true rfl, Nat.le_of_ble_eq_true rfl⟩) hK hE hA hM rfl hl.1 rfl (Nat.le_of_ble_eq_true rfl) dX6_word_4 ⟨Nat.le_of_ble_eq_true rfl, Nat.le_of_ble_eq_true rfl⟩ (fun v f1 Hp lcs hp hM => ?_)
  obtain ⟨rfl, hf⟩ := hp; subst hf
  refine mv_top (y := (bI (inB x 0 25))) rfl ?_
  refine lvb_eq (tgt := 19) hx hb dX6_word_7 (by decide) (fun cz1 => ?_) (fun cz1 => ?_)
  · refine lv_ldc (v := (-100002)) hx hb hown (hts (.constant RX6 64 (-100002)) (List.mem_of_getElem? (i := 1) rfl)) dX6_word_19 ?_
    exact mm_iret hx hb hlocks hr (Nat.le_of_ble_eq_true rfl) (Nat.le_of_ble_eq_true rfl) hM (⟨by rw [if_neg (by rw [cz1]; decide)], by rw [if_neg (by rw [cz1]; decide)]; exact hI⟩) dX6_word_21
  refine lv_aload_n hx hb dX6_word_10 rfl (lv_at hl 0 rfl) ?_
  refine lv_iconst (v := (nI 0)) hx hb dX6_word_11 (by decide +kernel) ?_
  refine lv_iload_n hx hb dX6_word_12 rfl (lv_at hl 1 rfl) ?_
  refine mm_V (As := [.int (nI 0), .int x]) (rest := []) ⟨hx, hb, hml, hown, hts⟩ (c6_add l G hI hc hc24 (nI 0) x) (cwV 2 hts gX6_word_X6_add rfl rfl rfl (by decide +kernel) ⟨Nat.le_of_ble_eq_true rfl, Nat.le_of_ble_eq_true rfl⟩) hK hE hA hM (mm_recv hK hM (hI.obj) (q := (RX6, TX6, 14)) rfl) rfl hl.1 rfl (Nat.le_of_ble_eq_true rfl) dX6_word_13 ⟨Nat.le_of_ble_eq_true rfl, Nat.le_of_ble_eq_true rfl⟩ (fun v gz2 Hp lcs hp hM => ?_)
  obtain ⟨rfl, hI⟩ := hp
  refine lv_goto (tgt := 21) hx hb dX6_word_16 (by decide) ?_
  exact mm_iret hx hb hlocks hr (Nat.le_of_ble_eq_true rfl) (Nat.le_of_ble_eq_true rfl) hM (⟨by rw [if_pos cz1], by rw [if_pos cz1]; exact hI⟩) dX6_word_21
set_option maxHeartbeats 4000000 in
set_option maxRecDepth 100000 in
theorem c6_number (l : Launch) (G : mG) {f : mE} {o : Nat} {a : Nat → Nat} {S P lo hi ou : Nat → Int32} {rc isr wd us ab gi wr wo : Int32} (hI : RI G f o a S P lo hi ou rc isr wd us ab gi wr wo) {cn : Nat} (hc : S 7 = nI cn) (hc24 : cn ≤ 24) (x : Int32) : mC l G yX6_number wsX6_number ({ frames := 1, cells := 0, slots := 0, locals := 23 } : Room) f [.ref o, .int x] (fun v f1 => v = some (.int (if inB x (-9999) 9999 = true then addI cn else -100002)) ∧ RI G f1 o a (if inB x (-9999) 9999 = true then addT S cn 1 x else S) P lo hi ou rc isr wd us ab gi wr wo) 0 0 := by
  refine mC.of (cc := cX6_number) (maxL := 2) (ret := (some .int)) (by decide) rfl (Nat.le_of_ble_eq_true rfl) ?_
  intro pgm env s mt args below meth c A ls hx hb hml hr hlocks hown hname hts hK hE hA hM hl
  have hl : lv_has ls 2 [(0, .ref o), (1, .int x)] := hl
  refine lv_iload_n hx hb dX6_number_0 rfl (lv_at hl 1 rfl) ?_
  refine lv_sipush (v := (-9999)) hx hb dX6_number_1 (by decide +kernel) ?_
  refine lv_sipush (v := (nI 9999)) hx hb dX6_number_4 (by decide +kernel) ?_
  refine mm_S (As := [.int x, .int (-9999), .int (nI 9999)]) (rest := []) ⟨hx, hb, hml, hown, hts⟩ (c6_in l G _ x (-9999) (nI 9999)) (va_cwS 3 hts gX6_number_X6_in rfl rfl rfl (by decide +kernel) ⟨Nat.le_of_ble_eq_true rfl, Nat.le_of_ble_eq_true rfl⟩) hK hE hA hM rfl hl.1 rfl (Nat.le_of_ble_eq_true rfl) dX6_number_7 ⟨Nat.le_of_ble_eq_true rfl, Nat.le_of_ble_eq_true rfl⟩ (fun v f1 Hp lcs hp hM => ?_)
  obtain ⟨rfl, hf⟩ := hp; subst hf
  refine mv_top (y := (bI (inB x (-9999) 9999))) rfl ?_
  refine lvb_eq (tgt := 22) hx hb dX6_number_10 (by decide) (fun cz1 => ?_) (fun cz1 => ?_)
  · refine lv_ldc (v := (-100002)) hx hb hown (hts (.constant RX6 64 (-100002)) (List.mem_of_getElem? (i := 1) rfl)) dX6_number_22 ?_
    exact mm_iret hx hb hlocks hr (Nat.le_of_ble_eq_true rfl) (Nat.le_of_ble_eq_true rfl) hM (⟨by rw [if_neg (by rw [cz1]; decide)], by rw [if_neg (by rw [cz1]; decide)]; exact hI⟩) dX6_number_24
  refine lv_aload_n hx hb dX6_number_13 rfl (lv_at hl 0 rfl) ?_
  refine lv_iconst (v := (nI 1)) hx hb dX6_number_14 (by decide +kernel) ?_
  refine lv_iload_n hx hb dX6_number_15 rfl (lv_at hl 1 rfl) ?_
  refine mm_V (As := [.int (nI 1), .int x]) (rest := []) ⟨hx, hb, hml, hown, hts⟩ (c6_add l G hI hc hc24 (nI 1) x) (cwV 2 hts gX6_number_X6_add rfl rfl rfl (by decide +kernel) ⟨Nat.le_of_ble_eq_true rfl, Nat.le_of_ble_eq_true rfl⟩) hK hE hA hM (mm_recv hK hM (hI.obj) (q := (RX6, TX6, 14)) rfl) rfl hl.1 rfl (Nat.le_of_ble_eq_true rfl) dX6_number_16 ⟨Nat.le_of_ble_eq_true rfl, Nat.le_of_ble_eq_true rfl⟩ (fun v gz2 Hp lcs hp hM => ?_)
  obtain ⟨rfl, hI⟩ := hp
  refine lv_goto (tgt := 24) hx hb dX6_number_19 (by decide) ?_
  exact mm_iret hx hb hlocks hr (Nat.le_of_ble_eq_true rfl) (Nat.le_of_ble_eq_true rfl) hM (⟨by rw [if_pos cz1], by rw [if_pos cz1]; exact hI⟩) dX6_number_24
set_option maxHeartbeats 4000000 in
set_option maxRecDepth 100000 in
theorem c6_date (l : Launch) (G : mG) {f : mE} {o : Nat} {a : Nat → Nat} {S P lo hi ou : Nat → Int32} {rc isr wd us ab gi wr wo : Int32} (hI : RI G f o a S P lo hi ou rc isr wd us ab gi wr wo) {cn : Nat} (hc : S 7 = nI cn) (hc24 : cn ≤ 24) (x1 x2 x3 : Int32) : mC l G yX6_date wsX6_date ({ frames := 3, cells := 0, slots := 0, locals := 65 } : Room) f [.ref o, .int x1, .int x2, .int x3] (fun v f1 => v = some (.int (if dateB x1 x2 x3 = true then addI cn else -100002)) ∧ RI G f1 o a (if dateB x1 x2 x3 = true then addT S cn 2 (dayI x1 x2 x3) else S) P lo hi ou rc isr wd us ab gi wr wo) 0 0 := by
  refine mC.of (cc := cX6_date) (maxL := 4) (ret := (some .int)) (by decide) rfl (Nat.le_of_ble_eq_true rfl) ?_
  intro pgm env s mt args below meth c A ls hx hb hml hr hlocks hown hname hts hK hE hA hM hl
  have hl : lv_has ls 4 [(0, .ref o), (1, .int x1), (2, .int x2), (3, .int x3)] := hl
  refine lv_iload_n hx hb dX6_date_0 rfl (lv_at hl 1 rfl) ?_
  refine lv_iload_n hx hb dX6_date_1 rfl (lv_at hl 2 rfl) ?_
  refine lv_iload_n hx hb dX6_date_2 rfl (lv_at hl 3 rfl) ?_
  refine mm_S (As := [.int x1, .int x2, .int x3]) (rest := []) ⟨hx, hb, hml, hown, hts⟩ (c6_isDate l G _ x1 x2 x3) (va_cwS 3 hts gX6_date_X6_isDate rfl rfl rfl (by decide +kernel) ⟨Nat.le_of_ble_eq_true rfl, Nat.le_of_ble_eq_true rfl⟩) hK hE hA hM rfl hl.1 rfl (Nat.le_of_ble_eq_true rfl) dX6_date_3 ⟨Nat.le_of_ble_eq_true rfl, Nat.le_of_ble_eq_true rfl⟩ (fun v f1 Hp lcs hp hM => ?_)
  obtain ⟨rfl, hf⟩ := hp; subst hf
  refine lvb_eq (tgt := 23) hx hb dX6_date_6 (by decide) (fun cz1 => ?_) (fun cz1 => ?_)
  · refine lv_ldc (v := (-100002)) hx hb hown (hts (.constant RX6 64 (-100002)) (List.mem_of_getElem? (i := 1) rfl)) dX6_date_23 ?_
    exact mm_iret hx hb hlocks hr (Nat.le_of_ble_eq_true rfl) (Nat.le_of_ble_eq_true rfl) hM (⟨by rw [if_neg (by rw [cz1]; decide)], by rw [if_neg (by rw [cz1]; decide)]; exact hI⟩) dX6_date_25
  obtain ⟨y, m, d, hy1, hy2, hm1, hm2, hd1, hd2, rfl, rfl, rfl⟩ := date_nat cz1
  refine lv_aload_n hx hb dX6_date_9 rfl (lv_at hl 0 rfl) ?_
  refine lv_iconst (v := (nI 2)) hx hb dX6_date_10 (by decide +kernel) ?_
  refine lv_iload_n hx hb dX6_date_11 rfl (lv_at hl 1 rfl) ?_
  refine lv_iload_n hx hb dX6_date_12 rfl (lv_at hl 2 rfl) ?_
  refine lv_iload_n hx hb dX6_date_13 rfl (lv_at hl 3 rfl) ?_
  refine mm_S (As := [.int (nI y), .int (nI m), .int (nI d)]) (rest := [.int (nI 2), .ref o]) ⟨hx, hb, hml, hown, hts⟩ (c6_dayOf l G _ y m d (by omega) (by omega) (by omega) (by omega) (by omega) (by omega)) (va_cwS 3 hts gX6_date_X6_dayOf rfl rfl rfl (by decide +kernel) ⟨Nat.le_of_ble_eq_true rfl, Nat.le_of_ble_eq_true rfl⟩) hK hE hA hM rfl hl.1 rfl (Nat.le_of_ble_eq_true rfl) dX6_date_14 ⟨Nat.le_of_ble_eq_true rfl, Nat.le_of_ble_eq_true rfl⟩ (fun v f1 Hp lcs hp hM => ?_)
  obtain ⟨rfl, hf⟩ := hp; subst hf
  refine mv_top (dayI_nI hy2 hm2 hd2).symm ?_
  refine mm_V (As := [.int (nI 2), .int (dayI (nI y) (nI m) (nI d))]) (rest := []) ⟨hx, hb, hml, hown, hts⟩ (c6_add l G hI hc hc24 (nI 2) (dayI (nI y) (nI m) (nI d))) (cwV 2 hts gX6_date_X6_add rfl rfl rfl (by decide +kernel) ⟨Nat.le_of_ble_eq_true rfl, Nat.le_of_ble_eq_true rfl⟩) hK hE hA hM (mm_recv hK hM (hI.obj) (q := (RX6, TX6, 14)) rfl) rfl hl.1 rfl (Nat.le_of_ble_eq_true rfl) dX6_date_17 ⟨Nat.le_of_ble_eq_true rfl, Nat.le_of_ble_eq_true rfl⟩ (fun v gz2 Hp lcs hp hM => ?_)
  obtain ⟨rfl, hI⟩ := hp
  refine lv_goto (tgt := 25) hx hb dX6_date_20 (by decide) ?_
  exact mm_iret hx hb hlocks hr (Nat.le_of_ble_eq_true rfl) (Nat.le_of_ble_eq_true rfl) hM (⟨by rw [if_pos cz1], by rw [if_pos cz1]; exact hI⟩) dX6_date_25
set_option maxHeartbeats 4000000 in
set_option maxRecDepth 100000 in
theorem c6_dayNumber (l : Launch) (G : mG) {f : mE} {o : Nat} {fs : List Value} (hI : f o = some (.inr (7, fs))) (x1 x2 x3 : Int32) : mC l G yX6_dayNumber wsX6_dayNumber ({ frames := 3, cells := 0, slots := 0, locals := 65 } : Room) f [.ref o, .int x1, .int x2, .int x3] (fun v f1 => v = some (.int (if dateB x1 x2 x3 = true then dayI x1 x2 x3 else -100002)) ∧ f = f1) 0 0 := by
  refine mC.of (cc := cX6_dayNumber) (maxL := 4) (ret := (some .int)) (by decide) rfl (Nat.le_of_ble_eq_true rfl) ?_
  intro pgm env s mt args below meth c A ls hx hb hml hr hlocks hown hname hts hK hE hA hM hl
  have hl : lv_has ls 4 [(0, .ref o), (1, .int x1), (2, .int x2), (3, .int x3)] := hl
  refine lv_iload_n hx hb dX6_dayNumber_0 rfl (lv_at hl 1 rfl) ?_
  refine lv_iload_n hx hb dX6_dayNumber_1 rfl (lv_at hl 2 rfl) ?_
  refine lv_iload_n hx hb dX6_dayNumber_2 rfl (lv_at hl 3 rfl) ?_
  refine mm_S (As := [.int x1, .int x2, .int x3]) (rest := []) ⟨hx, hb, hml, hown, hts⟩ (c6_isDate l G _ x1 x2 x3) (va_cwS 3 hts gX6_dayNumber_X6_isDate rfl rfl rfl (by decide +kernel) ⟨Nat.le_of_ble_eq_true rfl, Nat.le_of_ble_eq_true rfl⟩) hK hE hA hM rfl hl.1 rfl (Nat.le_of_ble_eq_true rfl) dX6_dayNumber_3 ⟨Nat.le_of_ble_eq_true rfl, Nat.le_of_ble_eq_true rfl⟩ (fun v f1 Hp lcs hp hM => ?_)
  obtain ⟨rfl, hf⟩ := hp; subst hf
  refine lvb_eq (tgt := 18) hx hb dX6_dayNumber_6 (by decide) (fun cz1 => ?_) (fun cz1 => ?_)
  · refine lv_ldc (v := (-100002)) hx hb hown (hts (.constant RX6 64 (-100002)) (List.mem_of_getElem? (i := 1) rfl)) dX6_dayNumber_18 ?_
    exact mm_iret hx hb hlocks hr (Nat.le_of_ble_eq_true rfl) (Nat.le_of_ble_eq_true rfl) hM (ret_v (by rw [if_neg (by rw [cz1]; decide)])) dX6_dayNumber_20
  obtain ⟨y, m, d, hy1, hy2, hm1, hm2, hd1, hd2, rfl, rfl, rfl⟩ := date_nat cz1
  refine lv_iload_n hx hb dX6_dayNumber_9 rfl (lv_at hl 1 rfl) ?_
  refine lv_iload_n hx hb dX6_dayNumber_10 rfl (lv_at hl 2 rfl) ?_
  refine lv_iload_n hx hb dX6_dayNumber_11 rfl (lv_at hl 3 rfl) ?_
  refine mm_S (As := [.int (nI y), .int (nI m), .int (nI d)]) (rest := []) ⟨hx, hb, hml, hown, hts⟩ (c6_dayOf l G _ y m d (by omega) (by omega) (by omega) (by omega) (by omega) (by omega)) (va_cwS 3 hts gX6_dayNumber_X6_dayOf rfl rfl rfl (by decide +kernel) ⟨Nat.le_of_ble_eq_true rfl, Nat.le_of_ble_eq_true rfl⟩) hK hE hA hM rfl hl.1 rfl (Nat.le_of_ble_eq_true rfl) dX6_dayNumber_12 ⟨Nat.le_of_ble_eq_true rfl, Nat.le_of_ble_eq_true rfl⟩ (fun v f1 Hp lcs hp hM => ?_)
  obtain ⟨rfl, hf⟩ := hp; subst hf
  refine mv_top (dayI_nI hy2 hm2 hd2).symm ?_
  refine lv_goto (tgt := 20) hx hb dX6_dayNumber_15 (by decide) ?_
  exact mm_iret hx hb hlocks hr (Nat.le_of_ble_eq_true rfl) (Nat.le_of_ble_eq_true rfl) hM (ret_v (by rw [if_pos cz1])) dX6_dayNumber_20
set_option maxHeartbeats 4000000 in
set_option maxRecDepth 100000 in
theorem c6_codeOf (l : Launch) (G : mG) (f : mE) (x : Nat) (hx6 : x ≤ 73048) : mC l G yX6_codeOf wsX6_codeOf ({ frames := 2, cells := 0, slots := 0, locals := 41 } : Room) f [.int (nI x)] (fun v f1 => v = some (.int (nI (codeN x))) ∧ f = f1) 0 0 := by
  refine mC.of (cc := cX6_codeOf) (maxL := 4) (ret := (some .int)) (by decide) rfl (Nat.le_of_ble_eq_true rfl) ?_
  intro pgm env s mt args below meth c A ls hx hb hml hr hlocks hown hname hts hK hE hA hM hl
  have hl : lv_has ls 4 [(0, .int (nI x))] := hl
  refine lv_iload_n hx hb dX6_codeOf_0 rfl (lv_at hl 0 rfl) ?_
  refine lv_istore_n (lv' := [(1, .int (nI x)), (0, .int (nI x))]) hx hb dX6_codeOf_1 rfl hl (by decide) rfl (fun ls hl => ?_)
  refine lv_sipush (v := (nI 1900)) hx hb dX6_codeOf_2 (by decide +kernel) ?_
  refine lv_istore_n (lv' := [(2, .int (nI 1900)), (1, .int (nI x)), (0, .int (nI x))]) hx hb dX6_codeOf_5 rfl hl (by decide) rfl (fun ls hl => ?_)
  refine lv_iconst (v := (nI 1)) hx hb dX6_codeOf_6 (by decide +kernel) ?_
  refine lv_istore_n (lv' := [(3, .int (nI 1)), (2, .int (nI 1900)), (1, .int (nI x)), (0, .int (nI x))]) hx hb dX6_codeOf_7 rfl hl (by decide) rfl (fun ls hl => ?_)
  have loopZ : ∀ (fuel : Nat) (lf y m : Nat) (Hp : Heap) (lcs : List Loc) (ls : Array Slot) (hb1 : y + lf ≤ 75000) (hm1 : 1 ≤ m) (hm2 : m ≤ 12) (hfin : ∀ k, lf < k → codG k lf y m = codG (x + 1) x 1900 1) (hfu : lf < fuel) (hM : mM G A s.heap f Hp lcs) (hl : lv_has ls 4 [(0, .int (nI x)), (1, .int (nI lf)), (2, .int (nI y)), (3, .int (nI m))]), W pgm l env ({ frames := 2, cells := 0, slots := 0, locals := 41 } : Room) s mt args below meth c Hp lcs 0 0 (MQ below (mQc G A (fun v f1 => v = some (.int (nI (codeN x))) ∧ f = f1)) args s 0 0 A) (F0 mt 8 ls []) := by
    intro fuel
    induction fuel with
    | zero => intro lf y m Hp lcs ls hb1 hm1 hm2 hfin hfu; exact absurd hfu (Nat.not_lt_zero _)
    | succ fuel ih =>
      intro lf y m Hp lcs ls hb1 hm1 hm2 hfin hfu hM hl
      refine lv_iload_n hx hb dX6_codeOf_8 rfl (lv_at hl 1 rfl) ?_
      refine lv_iload_n hx hb dX6_codeOf_9 rfl (lv_at hl 2 rfl) ?_
      refine lv_iload_n hx hb dX6_codeOf_10 rfl (lv_at hl 3 rfl) ?_
      refine mm_S (As := [.int (nI y), .int (nI m)]) (rest := [.int (nI lf)]) ⟨hx, hb, hml, hown, hts⟩ (c6_daysOf l G _ (nI y) (nI m)) (va_cwS 2 hts gX6_codeOf_X6_daysOf rfl rfl rfl (by decide +kernel) ⟨Nat.le_of_ble_eq_true rfl, Nat.le_of_ble_eq_true rfl⟩) hK hE hA hM rfl hl.1 rfl (Nat.le_of_ble_eq_true rfl) dX6_codeOf_11 ⟨Nat.le_of_ble_eq_true rfl, Nat.le_of_ble_eq_true rfl⟩ (fun v f1 Hp lcs hp hM => ?_)
      obtain ⟨rfl, hf⟩ := hp; subst hf
      refine mv_top (daysF_nI (by omega)) ?_
      have hdb := daysN_le y m
      refine ln_icmp_lt lf (daysN y m) (by omega) (by omega) (tgt := 56) hx hb dX6_codeOf_14 (by decide) (fun cz1 => ?_) (fun cz1 => ?_)
      · refine lv_sipush (v := (nI 10000)) hx hb dX6_codeOf_56 (by decide +kernel) ?_
        refine lv_iload_n hx hb dX6_codeOf_59 rfl (lv_at hl 2 rfl) ?_
        refine ln_imul 10000 y hx hb dX6_codeOf_60 ?_
        refine lv_bipush (v := (nI 100)) hx hb dX6_codeOf_61 (by decide +kernel) ?_
        refine lv_iload_n hx hb dX6_codeOf_63 rfl (lv_at hl 3 rfl) ?_
        refine ln_imul 100 m hx hb dX6_codeOf_64 ?_
        refine ln_iadd (10000 * y) (100 * m) hx hb dX6_codeOf_65 ?_
        refine lv_iload_n hx hb dX6_codeOf_66 rfl (lv_at hl 1 rfl) ?_
        refine ln_iadd ((10000 * y) + (100 * m)) lf hx hb dX6_codeOf_67 ?_
        refine lv_iconst (v := (nI 1)) hx hb dX6_codeOf_68 (by decide +kernel) ?_
        refine ln_iadd (((10000 * y) + (100 * m)) + lf) 1 hx hb dX6_codeOf_69 ?_
        exact mm_iret hx hb hlocks hr (Nat.le_of_ble_eq_true rfl) (Nat.le_of_ble_eq_true rfl) hM (ret_v (congrArg nI (codeN_at (hfin (lf + 1) (by omega)) cz1))) dX6_codeOf_70
      refine lv_iload_n hx hb dX6_codeOf_17 rfl (lv_at hl 1 rfl) ?_
      refine lv_iload_n hx hb dX6_codeOf_18 rfl (lv_at hl 2 rfl) ?_
      refine lv_iload_n hx hb dX6_codeOf_19 rfl (lv_at hl 3 rfl) ?_
      refine mm_S (As := [.int (nI y), .int (nI m)]) (rest := [.int (nI lf)]) ⟨hx, hb, hml, hown, hts⟩ (c6_daysOf l G _ (nI y) (nI m)) (va_cwS 2 hts gX6_codeOf_X6_daysOf rfl rfl rfl (by decide +kernel) ⟨Nat.le_of_ble_eq_true rfl, Nat.le_of_ble_eq_true rfl⟩) hK hE hA hM rfl hl.1 rfl (Nat.le_of_ble_eq_true rfl) dX6_codeOf_20 ⟨Nat.le_of_ble_eq_true rfl, Nat.le_of_ble_eq_true rfl⟩ (fun v f1 Hp lcs hp hM => ?_)
      obtain ⟨rfl, hf⟩ := hp; subst hf
      refine mv_top (daysF_nI (by omega)) ?_
      have hdb := daysN_le y m
      refine ln_isub lf (daysN y m) (by omega) hx hb dX6_codeOf_23 ?_
      refine mv_top (y := (nI (lf - daysN y m))) (congrArg nI (by omega)) ?_
      refine lv_istore_n (lv' := [(1, .int (nI (lf - daysN y m))), (0, .int (nI x)), (2, .int (nI y)), (3, .int (nI m))]) hx hb dX6_codeOf_24 rfl hl (by decide) rfl (fun ls hl => ?_)
      refine lv_iload_n hx hb dX6_codeOf_25 rfl (lv_at hl 2 rfl) ?_
      refine lv_iload_n hx hb dX6_codeOf_26 rfl (lv_at hl 3 rfl) ?_
      refine lv_bipush (v := (nI 12)) hx hb dX6_codeOf_27 (by decide +kernel) ?_
      refine ln_icmp_ne m 12 (by omega) (by omega) (tgt := 36) hx hb dX6_codeOf_29 (by decide) (fun cz2 => ?_) (fun cz2 => ?_)
      · refine lv_iconst (v := (nI 0)) hx hb dX6_codeOf_36 (by decide +kernel) ?_
        refine ln_iadd y 0 hx hb dX6_codeOf_37 ?_
        refine lv_istore_n (lv' := [(2, .int (nI (y + 0))), (1, .int (nI (lf - daysN y m))), (0, .int (nI x)), (3, .int (nI m))]) hx hb dX6_codeOf_38 rfl hl (by decide) rfl (fun ls hl => ?_)
        refine lv_iload_n hx hb dX6_codeOf_39 rfl (lv_at hl 3 rfl) ?_
        refine lv_bipush (v := (nI 12)) hx hb dX6_codeOf_40 (by decide +kernel) ?_
        refine ln_icmp_ne m 12 (by omega) (by omega) (tgt := 49) hx hb dX6_codeOf_42 (by decide) (fun cz3 => ?_) (fun cz3 => ?_)
        · refine lv_iload_n hx hb dX6_codeOf_49 rfl (lv_at hl 3 rfl) ?_
          refine lv_iconst (v := (nI 1)) hx hb dX6_codeOf_50 (by decide +kernel) ?_
          refine ln_iadd m 1 hx hb dX6_codeOf_51 ?_
          refine lv_istore_n (lv' := [(3, .int (nI (m + 1))), (2, .int (nI (y + 0))), (1, .int (nI (lf - daysN y m))), (0, .int (nI x))]) hx hb dX6_codeOf_52 rfl hl (by decide) rfl (fun ls hl => ?_)
          refine lv_goto (tgt := 8) hx hb dX6_codeOf_53 (by decide) ?_
          exact ih _ _ _ _ _ ls (by omega) (by omega) (by omega) (fun k hk => (codG_st hk (by omega : _ < lf)).trans (by rw [← hfin (lf + 1) (by omega)]; exact (codG_go cz1 (by split <;> omega) (by split <;> omega)).symm)) (by omega) hM (lv_sub hl [3, 2, 1, 0] rfl)
        refine lv_iconst (v := (nI 1)) hx hb dX6_codeOf_45 (by decide +kernel) ?_
        refine lv_goto (tgt := 52) hx hb dX6_codeOf_46 (by decide) ?_
        refine lv_istore_n (lv' := [(3, .int (nI 1)), (2, .int (nI (y + 0))), (1, .int (nI (lf - daysN y m))), (0, .int (nI x))]) hx hb dX6_codeOf_52 rfl hl (by decide) rfl (fun ls hl => ?_)
        refine lv_goto (tgt := 8) hx hb dX6_codeOf_53 (by decide) ?_
        exact ih _ _ _ _ _ ls (by omega) (by omega) (by omega) (fun k hk => (codG_st hk (by omega : _ < lf)).trans (by rw [← hfin (lf + 1) (by omega)]; exact (codG_go cz1 (by split <;> omega) (by split <;> omega)).symm)) (by omega) hM (lv_sub hl [3, 2, 1, 0] rfl)
      refine lv_iconst (v := (nI 1)) hx hb dX6_codeOf_32 (by decide +kernel) ?_
      refine lv_goto (tgt := 37) hx hb dX6_codeOf_33 (by decide) ?_
      refine ln_iadd y 1 hx hb dX6_codeOf_37 ?_
      refine lv_istore_n (lv' := [(2, .int (nI (y + 1))), (1, .int (nI (lf - daysN y m))), (0, .int (nI x)), (3, .int (nI m))]) hx hb dX6_codeOf_38 rfl hl (by decide) rfl (fun ls hl => ?_)
      refine lv_iload_n hx hb dX6_codeOf_39 rfl (lv_at hl 3 rfl) ?_
      refine lv_bipush (v := (nI 12)) hx hb dX6_codeOf_40 (by decide +kernel) ?_
      refine ln_icmp_ne m 12 (by omega) (by omega) (tgt := 49) hx hb dX6_codeOf_42 (by decide) (fun cz4 => ?_) (fun cz4 => ?_)
      · refine lv_iload_n hx hb dX6_codeOf_49 rfl (lv_at hl 3 rfl) ?_
        refine lv_iconst (v := (nI 1)) hx hb dX6_codeOf_50 (by decide +kernel) ?_
        refine ln_iadd m 1 hx hb dX6_codeOf_51 ?_
        refine lv_istore_n (lv' := [(3, .int (nI (m + 1))), (2, .int (nI (y + 1))), (1, .int (nI (lf - daysN y m))), (0, .int (nI x))]) hx hb dX6_codeOf_52 rfl hl (by decide) rfl (fun ls hl => ?_)
        refine lv_goto (tgt := 8) hx hb dX6_codeOf_53 (by decide) ?_
        exact ih _ _ _ _ _ ls (by omega) (by omega) (by omega) (fun k hk => (codG_st hk (by omega : _ < lf)).trans (by rw [← hfin (lf + 1) (by omega)]; exact (codG_go cz1 (by split <;> omega) (by split <;> omega)).symm)) (by omega) hM (lv_sub hl [3, 2, 1, 0] rfl)
      refine lv_iconst (v := (nI 1)) hx hb dX6_codeOf_45 (by decide +kernel) ?_
      refine lv_goto (tgt := 52) hx hb dX6_codeOf_46 (by decide) ?_
      refine lv_istore_n (lv' := [(3, .int (nI 1)), (2, .int (nI (y + 1))), (1, .int (nI (lf - daysN y m))), (0, .int (nI x))]) hx hb dX6_codeOf_52 rfl hl (by decide) rfl (fun ls hl => ?_)
      refine lv_goto (tgt := 8) hx hb dX6_codeOf_53 (by decide) ?_
      exact ih _ _ _ _ _ ls (by omega) (by omega) (by omega) (fun k hk => (codG_st hk (by omega : _ < lf)).trans (by rw [← hfin (lf + 1) (by omega)]; exact (codG_go cz1 (by split <;> omega) (by split <;> omega)).symm)) (by omega) hM (lv_sub hl [3, 2, 1, 0] rfl)
  exact loopZ (x + 1) x 1900 1 _ _ ls (by omega) (by omega) (by omega) (fun k hk => codG_st hk (by omega)) (by omega) hM (lv_sub hl [3, 2, 1, 0] rfl)
set_option maxHeartbeats 4000000 in
set_option maxRecDepth 100000 in
theorem c6_dateOf (l : Launch) (G : mG) {f : mE} {o : Nat} {fs : List Value} (hI : f o = some (.inr (7, fs))) (x : Int32) : mC l G yX6_dateOf wsX6_dateOf ({ frames := 3, cells := 0, slots := 0, locals := 64 } : Room) f [.ref o, .int x] (fun v f1 => v = some (.int (if inB x 0 73048 = true then nI (codeN x.toNatClampNeg) else -100002)) ∧ f = f1) 0 0 := by
  refine mC.of (cc := cX6_dateOf) (maxL := 2) (ret := (some .int)) (by decide) rfl (Nat.le_of_ble_eq_true rfl) ?_
  intro pgm env s mt args below meth c A ls hx hb hml hr hlocks hown hname hts hK hE hA hM hl
  have hl : lv_has ls 2 [(0, .ref o), (1, .int x)] := hl
  refine lv_iload_n hx hb dX6_dateOf_0 rfl (lv_at hl 1 rfl) ?_
  refine lv_iconst (v := (nI 0)) hx hb dX6_dateOf_1 (by decide +kernel) ?_
  refine lv_ldc (v := (nI 73048)) hx hb hown (hts (.constant RX6 46 (73048)) (List.mem_of_getElem? (i := 1) rfl)) dX6_dateOf_2 ?_
  refine mm_S (As := [.int x, .int (nI 0), .int (nI 73048)]) (rest := []) ⟨hx, hb, hml, hown, hts⟩ (c6_in l G _ x (nI 0) (nI 73048)) (va_cwS 3 hts gX6_dateOf_X6_in rfl rfl rfl (by decide +kernel) ⟨Nat.le_of_ble_eq_true rfl, Nat.le_of_ble_eq_true rfl⟩) hK hE hA hM rfl hl.1 rfl (Nat.le_of_ble_eq_true rfl) dX6_dateOf_4 ⟨Nat.le_of_ble_eq_true rfl, Nat.le_of_ble_eq_true rfl⟩ (fun v f1 Hp lcs hp hM => ?_)
  obtain ⟨rfl, hf⟩ := hp; subst hf
  refine mv_top (y := (bI (inB x 0 73048))) rfl ?_
  refine lvb_eq (tgt := 17) hx hb dX6_dateOf_7 (by decide) (fun cz1 => ?_) (fun cz1 => ?_)
  · refine lv_ldc (v := (-100002)) hx hb hown (hts (.constant RX6 64 (-100002)) (List.mem_of_getElem? (i := 2) rfl)) dX6_dateOf_17 ?_
    exact mm_iret hx hb hlocks hr (Nat.le_of_ble_eq_true rfl) (Nat.le_of_ble_eq_true rfl) hM (ret_v (by rw [if_neg (by rw [cz1]; decide)])) dX6_dateOf_19
  obtain ⟨i, iN, rfl⟩ := inB_nat (K := 73048) (by decide) cz1
  refine lv_iload_n hx hb dX6_dateOf_10 rfl (lv_at hl 1 rfl) ?_
  refine mm_S (As := [.int (nI i)]) (rest := []) ⟨hx, hb, hml, hown, hts⟩ (c6_codeOf l G _ i (by omega)) (va_cwS 1 hts gX6_dateOf_X6_codeOf rfl rfl rfl (by decide +kernel) ⟨Nat.le_of_ble_eq_true rfl, Nat.le_of_ble_eq_true rfl⟩) hK hE hA hM rfl hl.1 rfl (Nat.le_of_ble_eq_true rfl) dX6_dateOf_11 ⟨Nat.le_of_ble_eq_true rfl, Nat.le_of_ble_eq_true rfl⟩ (fun v f1 Hp lcs hp hM => ?_)
  obtain ⟨rfl, hf⟩ := hp; subst hf
  refine lv_goto (tgt := 19) hx hb dX6_dateOf_14 (by decide) ?_
  exact mm_iret hx hb hlocks hr (Nat.le_of_ble_eq_true rfl) (Nat.le_of_ble_eq_true rfl) hM (ret_v (by rw [if_pos cz1, nI_clamp (by omega)])) dX6_dateOf_19
set_option maxHeartbeats 4000000 in
set_option maxRecDepth 100000 in
theorem c6_setFact (l : Launch) (G : mG) {f : mE} {q : Nat} {o : Nat} {a : Nat → Nat} {S P lo hi ou : Nat → Int32} {isr wd us ab gi wr wo : Int32} (hI : RI G f o a S P lo hi ou (nI q) isr wd us ab gi wr wo) (hq : q ≤ 8) (k x : Int32) : mC l G yX6_setFact wsX6_setFact ({ frames := 3, cells := 0, slots := 0, locals := 63 } : Room) f [.ref o, .int k, .int x] (fun v f1 => (valB k x = false ∧ v = some (.int (-100002)) ∧ f = f1) ∨ (valB k x = true ∧ v = some (.int (S k.toNatClampNeg)) ∧ RI G f1 o a (upd S k.toNatClampNeg x) (recP S P q) lo hi ou (nI (recN q)) isr wd us ab gi wr wo)) 0 0 := by
  refine mC.of (cc := cX6_setFact) (maxL := 4) (ret := (some .int)) (by decide) rfl (Nat.le_of_ble_eq_true rfl) ?_
  intro pgm env s mt args below meth c A ls hx hb hml hr hlocks hown hname hts hK hE hA hM hl
  have hl : lv_has ls 4 [(0, .ref o), (1, .int k), (2, .int x)] := hl
  refine lv_iload_n hx hb dX6_setFact_0 rfl (lv_at hl 1 rfl) ?_
  refine lv_iload_n hx hb dX6_setFact_1 rfl (lv_at hl 2 rfl) ?_
  refine mm_S (As := [.int k, .int x]) (rest := []) ⟨hx, hb, hml, hown, hts⟩ (c6_isValue l G _ k x) (va_cwS 2 hts gX6_setFact_X6_isValue rfl rfl rfl (by decide +kernel) ⟨Nat.le_of_ble_eq_true rfl, Nat.le_of_ble_eq_true rfl⟩) hK hE hA hM rfl hl.1 rfl (Nat.le_of_ble_eq_true rfl) dX6_setFact_2 ⟨Nat.le_of_ble_eq_true rfl, Nat.le_of_ble_eq_true rfl⟩ (fun v f1 Hp lcs hp hM => ?_)
  obtain ⟨rfl, hf⟩ := hp; subst hf
  refine lvb_ne (tgt := 11) hx hb dX6_setFact_5 (by decide) (fun cz1 => ?_) (fun cz1 => ?_)
  · obtain ⟨i, iN, rfl⟩ := val_nat cz1
    refine lv_aload_n hx hb dX6_setFact_11 rfl (lv_at hl 0 rfl) ?_
    refine mm_V (As := []) (rest := []) ⟨hx, hb, hml, hown, hts⟩ (c6_record l G hI hq) (cwV 0 hts gX6_setFact_X6_record rfl rfl rfl (by decide +kernel) ⟨Nat.le_of_ble_eq_true rfl, Nat.le_of_ble_eq_true rfl⟩) hK hE hA hM (mm_recv hK hM (hI.obj) (q := (RX6, TX6, 14)) rfl) rfl hl.1 rfl (Nat.le_of_ble_eq_true rfl) dX6_setFact_12 ⟨Nat.le_of_ble_eq_true rfl, Nat.le_of_ble_eq_true rfl⟩ (fun v gz2 Hp lcs hp hM => ?_)
    obtain ⟨rfl, hI⟩ := hp
    refine lv_aload_n hx hb dX6_setFact_15 rfl (lv_at hl 0 rfl) ?_
    refine mm_get (C := RX6) (T := TX6) (N := 14) (k := 0) hx hb hts (fun _ h => List.mem_cons_of_mem _ (List.mem_append_right _ h)) hown hK hM (hI.obj) rfl (by decide) (hts (.fieldLink RX6 7 "SentenceRulesModel" "now" "[I") (List.mem_of_getElem? (i := 2) rfl)) rfl rfl dX6_setFact_16 ?_
    refine lv_iload_n hx hb dX6_setFact_19 rfl (lv_at hl 1 rfl) ?_
    refine mn_iald hx hb hK hM (hI.now) i (by omega) (by decide) dX6_setFact_20 ?_
    refine lv_istore_n (lv' := [(3, .int (S i)), (0, .ref o), (1, .int (nI i)), (2, .int x)]) hx hb dX6_setFact_21 rfl hl (by decide) rfl (fun ls hl => ?_)
    refine lv_aload_n hx hb dX6_setFact_22 rfl (lv_at hl 1 rfl) ?_
    refine mm_get (C := RX6) (T := TX6) (N := 14) (k := 0) hx hb hts (fun _ h => List.mem_cons_of_mem _ (List.mem_append_right _ h)) hown hK hM (hI.obj) rfl (by decide) (hts (.fieldLink RX6 7 "SentenceRulesModel" "now" "[I") (List.mem_of_getElem? (i := 2) rfl)) rfl rfl dX6_setFact_23 ?_
    refine lv_iload_n hx hb dX6_setFact_26 rfl (lv_at hl 2 rfl) ?_
    refine lv_iload_n hx hb dX6_setFact_27 rfl (lv_at hl 3 rfl) ?_
    refine mn_iast hx hb hK hM (hI.now) i (by omega) (by decide) dX6_setFact_28 (fun Hp lcs hM => ?_)
    have hI := hI.setNow (upd S i x)
    refine lv_iload_n hx hb dX6_setFact_29 rfl (lv_at hl 0 rfl) ?_
    exact mm_iret hx hb hlocks hr (Nat.le_of_ble_eq_true rfl) (Nat.le_of_ble_eq_true rfl) hM (Or.inr ⟨cz1, by rw [nI_clamp (by omega)], by rw [nI_clamp (by omega)]; exact hI⟩) dX6_setFact_30
  refine lv_ldc (v := (-100002)) hx hb hown (hts (.constant RX6 64 (-100002)) (List.mem_of_getElem? (i := 1) rfl)) dX6_setFact_8 ?_
  exact mm_iret hx hb hlocks hr (Nat.le_of_ble_eq_true rfl) (Nat.le_of_ble_eq_true rfl) hM (Or.inl ⟨cz1, rfl, rfl⟩) dX6_setFact_10
set_option maxHeartbeats 4000000 in
set_option maxRecDepth 100000 in
theorem c6_retract (l : Launch) (G : mG) {f : mE} {q : Nat} {o : Nat} {a : Nat → Nat} {S P lo hi ou : Nat → Int32} {isr wd us ab gi wr wo : Int32} (hI : RI G f o a S P lo hi ou (nI q) isr wd us ab gi wr wo) (hq : q ≤ 8) {n : Nat} (hn : S 56 = nI n) (hn16 : n ≤ 16) (k : Int32) : mC l G yX6_retract wsX6_retract ({ frames := 2, cells := 0, slots := 0, locals := 45 } : Room) f [.ref o, .int k] (fun v f1 => (v = some (.int (retV S n k)) ∧ retV S n k < 0 ∧ f = f1) ∨ ∃ jj, jj < n ∧ k = nI jj ∧ retP S n jj = false ∧ v = some (.int (nI (n - 1))) ∧ RI G f1 o a (retS S n jj) (recP S P q) lo hi ou (nI (recN q)) isr wd us ab gi wr wo) 0 0 := by
  refine mC.of (cc := cX6_retract) (maxL := 4) (ret := (some .int)) (by decide) rfl (Nat.le_of_ble_eq_true rfl) ?_
  intro pgm env s mt args below meth c A ls hx hb hml hr hlocks hown hname hts hK hE hA hM hl
  have hl : lv_has ls 4 [(0, .ref o), (1, .int k)] := hl
  refine lv_aload_n hx hb dX6_retract_0 rfl (lv_at hl 0 rfl) ?_
  refine lv_iload_n hx hb dX6_retract_1 rfl (lv_at hl 1 rfl) ?_
  refine mm_V (As := [.int k]) (rest := []) ⟨hx, hb, hml, hown, hts⟩ (c6_isSentence l G hI k) (cwV 1 hts gX6_retract_X6_isSentence rfl rfl rfl (by decide +kernel) ⟨Nat.le_of_ble_eq_true rfl, Nat.le_of_ble_eq_true rfl⟩) hK hE hA hM (mm_recv hK hM (hI.obj) (q := (RX6, TX6, 14)) rfl) rfl hl.1 rfl (Nat.le_of_ble_eq_true rfl) dX6_retract_2 ⟨Nat.le_of_ble_eq_true rfl, Nat.le_of_ble_eq_true rfl⟩ (fun v f1 Hp lcs hp hM => ?_)
  obtain ⟨rfl, hf⟩ := hp; subst hf
  refine lvb_ne (tgt := 11) hx hb dX6_retract_5 (by decide) (fun cz1 => ?_) (fun cz1 => ?_)
  · obtain ⟨j, jN, rfl⟩ := isS_nat hn hn16 cz1
    refine lv_aload_n hx hb dX6_retract_11 rfl (lv_at hl 0 rfl) ?_
    refine lv_iload_n hx hb dX6_retract_12 rfl (lv_at hl 1 rfl) ?_
    refine lv_bipush (v := (nI 49)) hx hb dX6_retract_13 (by decide +kernel) ?_
    refine mm_V (As := [.int (nI j), .int (nI 49)]) (rest := []) ⟨hx, hb, hml, hown, hts⟩ (c6_of l G hI j 49 (by omega)) (cwV 2 hts gX6_retract_X6_of rfl rfl rfl (by decide +kernel) ⟨Nat.le_of_ble_eq_true rfl, Nat.le_of_ble_eq_true rfl⟩) hK hE hA hM (mm_recv hK hM (hI.obj) (q := (RX6, TX6, 14)) rfl) rfl hl.1 rfl (Nat.le_of_ble_eq_true rfl) dX6_retract_15 ⟨Nat.le_of_ble_eq_true rfl, Nat.le_of_ble_eq_true rfl⟩ (fun v f1 Hp lcs hp hM => ?_)
    obtain ⟨rfl, hf⟩ := hp; subst hf
    refine lv_istore_n (lv' := [(2, .int (S (57 + 66 * j + 49))), (0, .ref o), (1, .int (nI j))]) hx hb dX6_retract_18 rfl hl (by decide) rfl (fun ls hl => ?_)
    refine lv_iload_n hx hb dX6_retract_19 rfl (lv_at hl 0 rfl) ?_
    refine lv_bipush (v := (nI 10)) hx hb dX6_retract_20 (by decide +kernel) ?_
    refine lv_icmp_lt (tgt := 39) hx hb dX6_retract_22 (by decide) (fun cz2 => ?_) (fun cz2 => ?_)
    · have hret : retP S n j = false := retP_1 cz2
      refine lv_aload_n hx hb dX6_retract_39 rfl (lv_at hl 1 rfl) ?_
      refine mm_V (As := []) (rest := []) ⟨hx, hb, hml, hown, hts⟩ (c6_record l G hI hq) (cwV 0 hts gX6_retract_X6_record rfl rfl rfl (by decide +kernel) ⟨Nat.le_of_ble_eq_true rfl, Nat.le_of_ble_eq_true rfl⟩) hK hE hA hM (mm_recv hK hM (hI.obj) (q := (RX6, TX6, 14)) rfl) rfl hl.1 rfl (Nat.le_of_ble_eq_true rfl) dX6_retract_40 ⟨Nat.le_of_ble_eq_true rfl, Nat.le_of_ble_eq_true rfl⟩ (fun v gz3 Hp lcs hp hM => ?_)
      obtain ⟨rfl, hI⟩ := hp
      refine lv_bipush (v := (nI 57)) hx hb dX6_retract_43 (by decide +kernel) ?_
      refine lv_bipush (v := (nI 66)) hx hb dX6_retract_45 (by decide +kernel) ?_
      refine lv_iload_n hx hb dX6_retract_47 rfl (lv_at hl 2 rfl) ?_
      refine ln_imul 66 j hx hb dX6_retract_48 ?_
      refine ln_iadd 57 (66 * j) hx hb dX6_retract_49 ?_
      refine lv_bipush (v := (nI 66)) hx hb dX6_retract_50 (by decide +kernel) ?_
      refine ln_iadd (57 + (66 * j)) 66 hx hb dX6_retract_52 ?_
      refine lv_istore_n (lv' := [(3, .int (nI ((57 + (66 * j)) + 66))), (2, .int (S (57 + 66 * j + 49))), (0, .ref o), (1, .int (nI j))]) hx hb dX6_retract_53 rfl hl (by decide) rfl (fun ls hl => ?_)
      have loopZ : ∀ (fuel : Nat) (i : Nat) (fz : mE) (Hp : Heap) (lcs : List Loc) (ls : Array Slot) (hiN : 57 + 66 * j + 66 + i ≤ 1113) (hIz : RI G fz o a (retK S j i) (recP S P q) lo hi ou (nI (recN q)) isr wd us ab gi wr wo) (hfu : 1113 - i < fuel) (hM : mM G A s.heap fz Hp lcs) (hl : lv_has ls 4 [(0, .ref o), (1, .int (nI j)), (2, .int (S (57 + 66 * j + 49))), (3, .int (nI (57 + 66 * j + 66 + i)))]), W pgm l env ({ frames := 2, cells := 0, slots := 0, locals := 45 } : Room) s mt args below meth c Hp lcs 0 0 (MQ below (mQc G A (fun v f1 => (v = some (.int (retV S n (nI j))) ∧ retV S n (nI j) < 0 ∧ f = f1) ∨ ∃ jj, jj < n ∧ (nI j) = nI jj ∧ retP S n jj = false ∧ v = some (.int (nI (n - 1))) ∧ RI G f1 o a (retS S n jj) (recP S P q) lo hi ou (nI (recN q)) isr wd us ab gi wr wo)) args s 0 0 A) (F0 mt 54 ls []) := by
        intro fuel
        induction fuel with
        | zero => intro i fz Hp lcs ls hiN hIz hfu; exact absurd hfu (Nat.not_lt_zero _)
        | succ fuel ih =>
          intro i fz Hp lcs ls hiN hIz hfu hM hl
          have hI := hIz
          refine lv_iload_n hx hb dX6_retract_54 rfl (lv_at hl 3 rfl) ?_
          refine lv_sipush (v := (nI 1113)) hx hb dX6_retract_55 (by decide +kernel) ?_
          refine ln_icmp_ge (57 + 66 * j + 66 + i) 1113 (by omega) (by omega) (tgt := 82) hx hb dX6_retract_58 (by decide) (fun cz4 => ?_) (fun cz4 => ?_)
          · refine lv_aload_n hx hb dX6_retract_82 rfl (lv_at hl 0 rfl) ?_
            refine mm_get (C := RX6) (T := TX6) (N := 14) (k := 0) hx hb hts (fun _ h => List.mem_cons_of_mem _ (List.mem_append_right _ h)) hown hK hM (hI.obj) rfl (by decide) (hts (.fieldLink RX6 7 "SentenceRulesModel" "now" "[I") (List.mem_of_getElem? (i := 3) rfl)) rfl rfl dX6_retract_83 ?_
            refine lv_bipush (v := (nI 56)) hx hb dX6_retract_86 (by decide +kernel) ?_
            refine lv_dup2_11 hx hb dX6_retract_88 rfl rfl ?_
            refine mn_iald hx hb hK hM (hI.now) 56 (by omega) (by decide) dX6_retract_89 ?_
            refine mv_top ((retK_lo (by omega)).trans hn) ?_
            refine lv_iconst (v := (nI 1)) hx hb dX6_retract_90 (by decide +kernel) ?_
            refine ln_isub n 1 (by omega) hx hb dX6_retract_91 ?_
            refine mv_top (y := (nI (n - 1))) (congrArg nI (by omega)) ?_
            refine mn_iast hx hb hK hM (hI.now) 56 (by omega) (by decide) dX6_retract_92 (fun Hp lcs hM => ?_)
            have hI := hI.setNow (upd (retK S j i) 56 (nI (n - 1)))
            refine lv_aload_n hx hb dX6_retract_93 rfl (lv_at hl 0 rfl) ?_
            refine mm_get (C := RX6) (T := TX6) (N := 14) (k := 0) hx hb hts (fun _ h => List.mem_cons_of_mem _ (List.mem_append_right _ h)) hown hK hM (hI.obj) rfl (by decide) (hts (.fieldLink RX6 7 "SentenceRulesModel" "now" "[I") (List.mem_of_getElem? (i := 3) rfl)) rfl rfl dX6_retract_94 ?_
            refine lv_bipush (v := (nI 56)) hx hb dX6_retract_97 (by decide +kernel) ?_
            refine mn_iald hx hb hK hM (hI.now) 56 (by omega) (by decide) dX6_retract_99 ?_
            refine mv_top pk_us ?_
            exact mm_iret hx hb hlocks hr (Nat.le_of_ble_eq_true rfl) (Nat.le_of_ble_eq_true rfl) hM (Or.inr ⟨j, jN, rfl, hret, rfl, by rw [← retS_of (by omega : 57 + 66 * j + 66 + i = 1113)]; exact hI⟩) dX6_retract_100
          refine lv_aload_n hx hb dX6_retract_61 rfl (lv_at hl 0 rfl) ?_
          refine mm_get (C := RX6) (T := TX6) (N := 14) (k := 0) hx hb hts (fun _ h => List.mem_cons_of_mem _ (List.mem_append_right _ h)) hown hK hM (hI.obj) rfl (by decide) (hts (.fieldLink RX6 7 "SentenceRulesModel" "now" "[I") (List.mem_of_getElem? (i := 3) rfl)) rfl rfl dX6_retract_62 ?_
          refine lv_iload_n hx hb dX6_retract_65 rfl (lv_at hl 3 rfl) ?_
          refine lv_bipush (v := (nI 66)) hx hb dX6_retract_66 (by decide +kernel) ?_
          refine ln_isub (57 + 66 * j + 66 + i) 66 (by omega) hx hb dX6_retract_68 ?_
          refine mv_top (y := (nI (57 + 66 * j + i))) (congrArg nI (by omega)) ?_
          refine lv_aload_n hx hb dX6_retract_69 rfl (lv_at hl 0 rfl) ?_
          refine mm_get (C := RX6) (T := TX6) (N := 14) (k := 0) hx hb hts (fun _ h => List.mem_cons_of_mem _ (List.mem_append_right _ h)) hown hK hM (hI.obj) rfl (by decide) (hts (.fieldLink RX6 7 "SentenceRulesModel" "now" "[I") (List.mem_of_getElem? (i := 3) rfl)) rfl rfl dX6_retract_70 ?_
          refine lv_iload_n hx hb dX6_retract_73 rfl (lv_at hl 3 rfl) ?_
          refine mn_iald hx hb hK hM (hI.now) (57 + 66 * j + 66 + i) (by omega) (by decide) dX6_retract_74 ?_
          refine mn_iast hx hb hK hM (hI.now) (57 + 66 * j + i) (by omega) (by decide) dX6_retract_75 (fun Hp lcs hM => ?_)
          have hI := hI.setNow (upd (retK S j i) (57 + 66 * j + i) ((retK S j i) (57 + 66 * j + 66 + i)))
          refine lv_iinc (v := (nI (57 + 66 * j + 66 + i + 1))) (lv' := [(3, .int (nI (57 + 66 * j + 66 + i + 1))), (0, .ref o), (1, .int (nI j)), (2, .int (S (57 + 66 * j + 49)))]) hx hb dX6_retract_76 hl (k := 3) rfl (nI_add _ _) (by decide) rfl (fun ls hl => ?_)
          refine lv_goto (tgt := 54) hx hb dX6_retract_79 (by decide) ?_
          exact ih (i + 1) _ _ _ ls (by omega) (by rw [← retK_s]; exact hI) (by omega) hM (lv_sub hl [1, 2, 3, 0] rfl)
      exact loopZ 1114 0 _ _ _ ls (by omega) (by rw [retK_0]; exact hI) (by omega) hM (lv_sub hl [2, 3, 1, 0] rfl)
    refine lv_aload_n hx hb dX6_retract_25 rfl (lv_at hl 1 rfl) ?_
    refine lv_iload_n hx hb dX6_retract_26 rfl (lv_at hl 0 rfl) ?_
    refine lv_bipush (v := (nI 10)) hx hb dX6_retract_27 (by decide +kernel) ?_
    refine lv_isub hx hb dX6_retract_29 ?_
    refine mm_V (As := [.int ((S (57 + 66 * j + 49)) - (nI 10))]) (rest := []) ⟨hx, hb, hml, hown, hts⟩ (c6_isUsed l G hI hn hn16 ((S (57 + 66 * j + 49)) - (nI 10))) (cwV 1 hts gX6_retract_X6_isUsed rfl rfl rfl (by decide +kernel) ⟨Nat.le_of_ble_eq_true rfl, Nat.le_of_ble_eq_true rfl⟩) hK hE hA hM (mm_recv hK hM (hI.obj) (q := (RX6, TX6, 14)) rfl) rfl hl.1 rfl (Nat.le_of_ble_eq_true rfl) dX6_retract_30 ⟨Nat.le_of_ble_eq_true rfl, Nat.le_of_ble_eq_true rfl⟩ (fun v f1 Hp lcs hp hM => ?_)
    obtain ⟨rfl, hf⟩ := hp; subst hf
    refine lvb_eq (tgt := 39) hx hb dX6_retract_33 (by decide) (fun cz5 => ?_) (fun cz5 => ?_)
    · have hret : retP S n j = false := retP_2 cz5
      refine lv_aload_n hx hb dX6_retract_39 rfl (lv_at hl 1 rfl) ?_
      refine mm_V (As := []) (rest := []) ⟨hx, hb, hml, hown, hts⟩ (c6_record l G hI hq) (cwV 0 hts gX6_retract_X6_record rfl rfl rfl (by decide +kernel) ⟨Nat.le_of_ble_eq_true rfl, Nat.le_of_ble_eq_true rfl⟩) hK hE hA hM (mm_recv hK hM (hI.obj) (q := (RX6, TX6, 14)) rfl) rfl hl.1 rfl (Nat.le_of_ble_eq_true rfl) dX6_retract_40 ⟨Nat.le_of_ble_eq_true rfl, Nat.le_of_ble_eq_true rfl⟩ (fun v gz6 Hp lcs hp hM => ?_)
      obtain ⟨rfl, hI⟩ := hp
      refine lv_bipush (v := (nI 57)) hx hb dX6_retract_43 (by decide +kernel) ?_
      refine lv_bipush (v := (nI 66)) hx hb dX6_retract_45 (by decide +kernel) ?_
      refine lv_iload_n hx hb dX6_retract_47 rfl (lv_at hl 2 rfl) ?_
      refine ln_imul 66 j hx hb dX6_retract_48 ?_
      refine ln_iadd 57 (66 * j) hx hb dX6_retract_49 ?_
      refine lv_bipush (v := (nI 66)) hx hb dX6_retract_50 (by decide +kernel) ?_
      refine ln_iadd (57 + (66 * j)) 66 hx hb dX6_retract_52 ?_
      refine lv_istore_n (lv' := [(3, .int (nI ((57 + (66 * j)) + 66))), (2, .int (S (57 + 66 * j + 49))), (0, .ref o), (1, .int (nI j))]) hx hb dX6_retract_53 rfl hl (by decide) rfl (fun ls hl => ?_)
      have loopZ : ∀ (fuel : Nat) (i : Nat) (fz : mE) (Hp : Heap) (lcs : List Loc) (ls : Array Slot) (hiN : 57 + 66 * j + 66 + i ≤ 1113) (hIz : RI G fz o a (retK S j i) (recP S P q) lo hi ou (nI (recN q)) isr wd us ab gi wr wo) (hfu : 1113 - i < fuel) (hM : mM G A s.heap fz Hp lcs) (hl : lv_has ls 4 [(0, .ref o), (1, .int (nI j)), (2, .int (S (57 + 66 * j + 49))), (3, .int (nI (57 + 66 * j + 66 + i)))]), W pgm l env ({ frames := 2, cells := 0, slots := 0, locals := 45 } : Room) s mt args below meth c Hp lcs 0 0 (MQ below (mQc G A (fun v f1 => (v = some (.int (retV S n (nI j))) ∧ retV S n (nI j) < 0 ∧ f = f1) ∨ ∃ jj, jj < n ∧ (nI j) = nI jj ∧ retP S n jj = false ∧ v = some (.int (nI (n - 1))) ∧ RI G f1 o a (retS S n jj) (recP S P q) lo hi ou (nI (recN q)) isr wd us ab gi wr wo)) args s 0 0 A) (F0 mt 54 ls []) := by
        intro fuel
        induction fuel with
        | zero => intro i fz Hp lcs ls hiN hIz hfu; exact absurd hfu (Nat.not_lt_zero _)
        | succ fuel ih =>
          intro i fz Hp lcs ls hiN hIz hfu hM hl
          have hI := hIz
          refine lv_iload_n hx hb dX6_retract_54 rfl (lv_at hl 3 rfl) ?_
          refine lv_sipush (v := (nI 1113)) hx hb dX6_retract_55 (by decide +kernel) ?_
          refine ln_icmp_ge (57 + 66 * j + 66 + i) 1113 (by omega) (by omega) (tgt := 82) hx hb dX6_retract_58 (by decide) (fun cz7 => ?_) (fun cz7 => ?_)
          · refine lv_aload_n hx hb dX6_retract_82 rfl (lv_at hl 0 rfl) ?_
            refine mm_get (C := RX6) (T := TX6) (N := 14) (k := 0) hx hb hts (fun _ h => List.mem_cons_of_mem _ (List.mem_append_right _ h)) hown hK hM (hI.obj) rfl (by decide) (hts (.fieldLink RX6 7 "SentenceRulesModel" "now" "[I") (List.mem_of_getElem? (i := 3) rfl)) rfl rfl dX6_retract_83 ?_
            refine lv_bipush (v := (nI 56)) hx hb dX6_retract_86 (by decide +kernel) ?_
            refine lv_dup2_11 hx hb dX6_retract_88 rfl rfl ?_
            refine mn_iald hx hb hK hM (hI.now) 56 (by omega) (by decide) dX6_retract_89 ?_
            refine mv_top ((retK_lo (by omega)).trans hn) ?_
            refine lv_iconst (v := (nI 1)) hx hb dX6_retract_90 (by decide +kernel) ?_
            refine ln_isub n 1 (by omega) hx hb dX6_retract_91 ?_
            refine mv_top (y := (nI (n - 1))) (congrArg nI (by omega)) ?_
            refine mn_iast hx hb hK hM (hI.now) 56 (by omega) (by decide) dX6_retract_92 (fun Hp lcs hM => ?_)
            have hI := hI.setNow (upd (retK S j i) 56 (nI (n - 1)))
            refine lv_aload_n hx hb dX6_retract_93 rfl (lv_at hl 0 rfl) ?_
            refine mm_get (C := RX6) (T := TX6) (N := 14) (k := 0) hx hb hts (fun _ h => List.mem_cons_of_mem _ (List.mem_append_right _ h)) hown hK hM (hI.obj) rfl (by decide) (hts (.fieldLink RX6 7 "SentenceRulesModel" "now" "[I") (List.mem_of_getElem? (i := 3) rfl)) rfl rfl dX6_retract_94 ?_
            refine lv_bipush (v := (nI 56)) hx hb dX6_retract_97 (by decide +kernel) ?_
            refine mn_iald hx hb hK hM (hI.now) 56 (by omega) (by decide) dX6_retract_99 ?_
            refine mv_top pk_us ?_
            exact mm_iret hx hb hlocks hr (Nat.le_of_ble_eq_true rfl) (Nat.le_of_ble_eq_true rfl) hM (Or.inr ⟨j, jN, rfl, hret, rfl, by rw [← retS_of (by omega : 57 + 66 * j + 66 + i = 1113)]; exact hI⟩) dX6_retract_100
          refine lv_aload_n hx hb dX6_retract_61 rfl (lv_at hl 0 rfl) ?_
          refine mm_get (C := RX6) (T := TX6) (N := 14) (k := 0) hx hb hts (fun _ h => List.mem_cons_of_mem _ (List.mem_append_right _ h)) hown hK hM (hI.obj) rfl (by decide) (hts (.fieldLink RX6 7 "SentenceRulesModel" "now" "[I") (List.mem_of_getElem? (i := 3) rfl)) rfl rfl dX6_retract_62 ?_
          refine lv_iload_n hx hb dX6_retract_65 rfl (lv_at hl 3 rfl) ?_
          refine lv_bipush (v := (nI 66)) hx hb dX6_retract_66 (by decide +kernel) ?_
          refine ln_isub (57 + 66 * j + 66 + i) 66 (by omega) hx hb dX6_retract_68 ?_
          refine mv_top (y := (nI (57 + 66 * j + i))) (congrArg nI (by omega)) ?_
          refine lv_aload_n hx hb dX6_retract_69 rfl (lv_at hl 0 rfl) ?_
          refine mm_get (C := RX6) (T := TX6) (N := 14) (k := 0) hx hb hts (fun _ h => List.mem_cons_of_mem _ (List.mem_append_right _ h)) hown hK hM (hI.obj) rfl (by decide) (hts (.fieldLink RX6 7 "SentenceRulesModel" "now" "[I") (List.mem_of_getElem? (i := 3) rfl)) rfl rfl dX6_retract_70 ?_
          refine lv_iload_n hx hb dX6_retract_73 rfl (lv_at hl 3 rfl) ?_
          refine mn_iald hx hb hK hM (hI.now) (57 + 66 * j + 66 + i) (by omega) (by decide) dX6_retract_74 ?_
          refine mn_iast hx hb hK hM (hI.now) (57 + 66 * j + i) (by omega) (by decide) dX6_retract_75 (fun Hp lcs hM => ?_)
          have hI := hI.setNow (upd (retK S j i) (57 + 66 * j + i) ((retK S j i) (57 + 66 * j + 66 + i)))
          refine lv_iinc (v := (nI (57 + 66 * j + 66 + i + 1))) (lv' := [(3, .int (nI (57 + 66 * j + 66 + i + 1))), (0, .ref o), (1, .int (nI j)), (2, .int (S (57 + 66 * j + 49)))]) hx hb dX6_retract_76 hl (k := 3) rfl (nI_add _ _) (by decide) rfl (fun ls hl => ?_)
          refine lv_goto (tgt := 54) hx hb dX6_retract_79 (by decide) ?_
          exact ih (i + 1) _ _ _ ls (by omega) (by rw [← retK_s]; exact hI) (by omega) hM (lv_sub hl [1, 2, 3, 0] rfl)
      exact loopZ 1114 0 _ _ _ ls (by omega) (by rw [retK_0]; exact hI) (by omega) hM (lv_sub hl [2, 3, 1, 0] rfl)
    refine lv_ldc (v := (-100003)) hx hb hown (hts (.constant RX6 73 (-100003)) (List.mem_of_getElem? (i := 2) rfl)) dX6_retract_36 ?_
    exact mm_iret hx hb hlocks hr (Nat.le_of_ble_eq_true rfl) (Nat.le_of_ble_eq_true rfl) hM (Or.inl ⟨congrArg (fun z => some (Value.int z)) (retV_us hn hn16 jN cz2 cz5), retV_neg2 hn hn16 jN cz2 cz5, rfl⟩) dX6_retract_38
  refine lv_ldc (v := (-100001)) hx hb hown (hts (.constant RX6 145 (-100001)) (List.mem_of_getElem? (i := 1) rfl)) dX6_retract_8 ?_
  exact mm_iret hx hb hlocks hr (Nat.le_of_ble_eq_true rfl) (Nat.le_of_ble_eq_true rfl) hM (Or.inl ⟨congrArg (fun z => some (Value.int z)) (retV_no cz1), retV_neg1 cz1, rfl⟩) dX6_retract_10
