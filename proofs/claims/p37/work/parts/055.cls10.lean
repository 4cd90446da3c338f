/-! THE CLASS: a sentence made, a state copied, a sentence added or taken out -/
theorem opt_cases (x : Option Nat) : x = none ∨ ∃ y, x = some y := by
  cases x with
  | none => exact Or.inl rfl
  | some y => exact Or.inr ⟨y, rfl⟩
def copB (B1 B : Nat → Option Nat) (i : Nat) : Nat → Option Nat := fun j => if j < i then B1 j else B j
theorem copB_0 (B1 B : Nat → Option Nat) : copB B1 B 0 = B := by funext j; rw [copB, if_neg (Nat.not_lt_zero _)]
theorem copB_s {B1 B : Nat → Option Nat} {i : Nat} {x : Option Nat} (h : B1 i = x) : va_up (copB B1 B i) i x = copB B1 B (i + 1) := by
  funext j
  unfold va_up copB
  by_cases hj : j = i
  · subst hj; rw [if_pos rfl, if_pos (Nat.lt_succ_self _), h]
  · rw [if_neg hj]
    by_cases h2 : j < i
    · rw [if_pos h2, if_pos (by omega)]
    · rw [if_neg h2, if_neg (by omega)]
set_option maxHeartbeats 4000000 in
set_option maxRecDepth 100000 in
theorem c2_init (l : Launch) (G : mG) {f : mE} {x tx : Nat} (hx0 : f x = some (.inr (3, [.null, .null, .int 0, .int 0, .int 0]))) {rd r p q : Nat} {ab gv us pl lf cp : Int32} {ir ng : Bool} {lo hi : Nat → Int32} (hR : RD G f rd r p q ab gv us pl ir lf ng cp lo hi) : mC l G yX2_init wsX2_init ({ frames := 2, cells := 3, slots := 16, locals := 47 } : Room) f [.ref x, .ref tx, .ref rd] (fun v f1 => v = none ∧ ∃ r2 p2 q2 : Nat, f r2 = none ∧ f p2 = none ∧ f q2 = none ∧ f1 x = some (.inr (3, [.ref tx, .ref r2, .int ab, .int gv, .int us])) ∧ f1 r2 = some (.inr (2, [.ref p2, .ref q2])) ∧ f1 p2 = some (mI G 7 (va_cpy lo (fun _ => 0) 0 0 7)) ∧ f1 q2 = some (mI G 7 (va_cpy hi (fun _ => 0) 0 0 7)) ∧ ∀ b e, f b = some e → b ≠ x → f1 b = some e) 3 16 := by
  refine mC.of (cc := cX2_init) (maxL := 3) (ret := none) (by decide) rfl (Nat.le_of_ble_eq_true rfl) ?_
  intro pgm env s mt args below meth c A ls hx hb hml hr hlocks hown hname hts hK hE hA hM hl
  have hl : lv_has ls 3 [(0, .ref x), (1, .ref tx), (2, .ref rd)] := hl
  have hF := fun w9 e (hb : f w9 = some e) (_ : w9 ≠ x) => hb
  refine lv_aload_n hx hb dX2_init_0 rfl (lv_at hl 0 rfl) ?_
  refine W.objInit hx hb hown (hts (.methodLink RX2 3 objectInit) (List.mem_of_getElem? (i := 1) rfl)) (hts (.instanceMethod objectInit) (List.mem_of_getElem? (i := 2) rfl)) (hts _ (List.mem_of_getElem? (i := 3) rfl)) rfl (by rw [hml]; exact hl.1) rfl dX2_init_1 (Nat.le_of_ble_eq_true rfl) (Nat.le_of_ble_eq_true rfl) ?_
  refine W.eq (g2 := F0 mt 4 ls []) rfl ?_
  refine lv_aload_n hx hb dX2_init_4 rfl (lv_at hl 0 rfl) ?_
  refine mm_new (C := RX1) (T := TX1) (N := 2) (ci := 2) hx hb hts (fun _ h => List.mem_cons_of_mem _ (List.mem_append_left _ (List.mem_append_left _ (List.mem_append_right _ h)))) tyX1_ok hown (hts (.classLink RX2 9 RX1) (List.mem_of_getElem? (i := 4) rfl)) (hts (.instantiable RX1 2) (List.mem_of_getElem? (i := 5) rfl)) (hts (.initialized RX1) (List.mem_of_getElem? (i := 6) rfl)) hK hM hA rfl [.null, .null] (by decide) (Nat.le_of_ble_eq_true rfl) (Nat.le_of_ble_eq_true rfl) dX2_init_5 (fun qz1 Hp nz2 hM => ?_)
  obtain ⟨gz3, hM, hz4, rz5⟩ := hM.up
  have fo6 : f qz1 = none := fresh_of (fun e hb => hF qz1 e hb (ne_none hx0 nz2).symm) nz2
  have hF := fun w9 e (hb : f w9 = some e) (hn0 : w9 ≠ x) => (rz5 w9 (ne_none (hF w9 e hb hn0) nz2)).trans (hF w9 e hb hn0)
  have ne7 := ne_none hx0 nz2
  have hz8 := (rz5 _ ne7).trans hx0
  have ne9 := ne_none hR.1 nz2
  have hz10 := (rz5 _ ne9).trans hR.1
  have ne11 := ne_none hR.2.1 nz2
  have hz12 := (rz5 _ ne11).trans hR.2.1
  have ne13 := ne_none hR.2.2.1 nz2
  have hz14 := (rz5 _ ne13).trans hR.2.2.1
  have ne15 := ne_none hR.2.2.2.1 nz2
  have hz16 := (rz5 _ ne15).trans hR.2.2.2.1
  refine lv_dup hx hb dX2_init_8 rfl ?_
  refine mm_IN (As := []) (rest := [.ref qz1, .ref x]) ⟨hx, hb, hml, hown, hts⟩ (c1_init l G hz4) ⟨va_cnB 0 hts gX2_init_X1_init_n11 rfl rfl rfl (hE.1.1 _ (List.mem_of_getElem? (i := 7) rfl)) (hts (.initialized RX1) (List.mem_of_getElem? (i := 6) rfl)) (by decide +kernel) ⟨Nat.le_of_ble_eq_true rfl, Nat.le_of_ble_eq_true rfl⟩, rfl, (hts (.instanceMethod yX1_init) (List.mem_of_getElem? (i := 16) rfl))⟩ hK hE hA hM rfl hl.1 rfl (Nat.le_of_ble_eq_true rfl) dX2_init_9 ⟨Nat.le_of_ble_eq_true rfl, Nat.le_of_ble_eq_true rfl⟩ (fun v gz17 Hp lcs hp hM => ?_)
  obtain ⟨rfl, qz18, qz19, nz20, nz21, ne22, hz23, hz24, hz25, rz26⟩ := hp
  have fo27 : f qz18 = none := fresh_of (fun e hb => hF qz18 e hb (ne_none hz8 nz20).symm) nz20
  have ne28 := ne_none hz8 nz20
  have ne29 := ne_none hz10 nz20
  have ne30 := ne_none hz12 nz20
  have ne31 := ne_none hz14 nz20
  have ne32 := ne_none hz16 nz20
  have ne33 := ne_none hz4 nz20
  have fo34 : f qz19 = none := fresh_of (fun e hb => hF qz19 e hb (ne_none hz8 nz21).symm) nz21
  have ne35 := ne_none hz8 nz21
  have ne36 := ne_none hz10 nz21
  have ne37 := ne_none hz12 nz21
  have ne38 := ne_none hz14 nz21
  have ne39 := ne_none hz16 nz21
  have ne40 := ne_none hz4 nz21
  have hz41 := rz26 _ _ hz8 ne7
  have hz42 := rz26 _ _ hz10 ne9
  have hz43 := rz26 _ _ hz12 ne11
  have hz44 := rz26 _ _ hz14 ne13
  have hz45 := rz26 _ _ hz16 ne15
  have hF := fun w9 e (hb : f w9 = some e) (hn0 : w9 ≠ x) => rz26 w9 e (hF w9 e hb hn0) (ne_none hb fo6)
  refine mm_putF (C := RX2) (T := TX2) (N := 5) (k := 1) hx hb hts (fun _ h => List.mem_cons_of_mem _ (List.mem_append_left _ (List.mem_append_right _ h))) tyX2 tyX2_ok nmX2 hown hK hM hz41 rfl (by decide) (hts (.fieldLink RX2 12 "SentenceRules$Sentence" "region" "LSentenceRules$Region;") (List.mem_of_getElem? (i := 7) rfl)) rfl rfl hname rfl rfl rfl (Nat.le_of_ble_eq_true rfl) dX2_init_12 (fun Hp lcs hM => ?_)
  obtain ⟨gz46, hM, hz47, rz48⟩ := hM.up
  have hz49 := (rz48 _ (ne_oo hz42 hz41 (by show (1 : Nat) ≠ 3; decide))).trans hz42
  have hz50 := (rz48 _ (ne_oo hz43 hz41 (by show (2 : Nat) ≠ 3; decide))).trans hz43
  have hz51 := (rz48 _ (ne_oi hz41 hz44).symm).trans hz44
  have hz52 := (rz48 _ (ne_oi hz41 hz45).symm).trans hz45
  have hz53 := (rz48 _ (Ne.symm ne7)).trans hz23
  have hz54 := (rz48 _ (Ne.symm ne28)).trans hz24
  have hz55 := (rz48 _ (Ne.symm ne35)).trans hz25
  have hF := fun w9 e (hb : f w9 = some e) (hn0 : w9 ≠ x) => (rz48 w9 hn0).trans (hF w9 e hb hn0)
  refine lv_aload_n hx hb dX2_init_15 rfl (lv_at hl 0 rfl) ?_
  refine lv_aload_n hx hb dX2_init_16 rfl (lv_at hl 1 rfl) ?_
  refine mm_putF (C := RX2) (T := TX2) (N := 5) (k := 0) hx hb hts (fun _ h => List.mem_cons_of_mem _ (List.mem_append_left _ (List.mem_append_right _ h))) tyX2 tyX2_ok nmX2 hown hK hM hz47 rfl (by decide) (hts (.fieldLink RX2 18 "SentenceRules$Sentence" "text" "Ljava/lang/String;") (List.mem_of_getElem? (i := 8) rfl)) rfl rfl hname rfl rfl rfl (Nat.le_of_ble_eq_true rfl) dX2_init_17 (fun Hp lcs hM => ?_)
  obtain ⟨gz56, hM, hz57, rz58⟩ := hM.up
  have hz59 := (rz58 _ (ne_oo hz49 hz47 (by show (1 : Nat) ≠ 3; decide))).trans hz49
  have hz60 := (rz58 _ (ne_oo hz50 hz47 (by show (2 : Nat) ≠ 3; decide))).trans hz50
  have hz61 := (rz58 _ (ne_oi hz47 hz51).symm).trans hz51
  have hz62 := (rz58 _ (ne_oi hz47 hz52).symm).trans hz52
  have hz63 := (rz58 _ (Ne.symm ne7)).trans hz53
  have hz64 := (rz58 _ (Ne.symm ne28)).trans hz54
  have hz65 := (rz58 _ (Ne.symm ne35)).trans hz55
  have hF := fun w9 e (hb : f w9 = some e) (hn0 : w9 ≠ x) => (rz58 w9 hn0).trans (hF w9 e hb hn0)
  refine lv_aload_n hx hb dX2_init_20 rfl (lv_at hl 0 rfl) ?_
  refine mm_get (C := RX2) (T := TX2) (N := 5) (k := 1) hx hb hts (fun _ h => List.mem_cons_of_mem _ (List.mem_append_left _ (List.mem_append_right _ h))) hown hK hM hz57 rfl (by decide) (hts (.fieldLink RX2 12 "SentenceRules$Sentence" "region" "LSentenceRules$Region;") (List.mem_of_getElem? (i := 7) rfl)) rfl rfl dX2_init_21 ?_
  refine lv_aload_n hx hb dX2_init_24 rfl (lv_at hl 2 rfl) ?_
  refine mm_get (C := RX0) (T := TX0) (N := 9) (k := 3) hx hb hts (fun _ h => List.mem_cons_of_mem _ (List.mem_append_right _ h)) hown hK hM hz59 rfl (by decide) (hts (.fieldLink RX2 22 "SentenceRules$Reader" "region" "LSentenceRules$Region;") (List.mem_of_getElem? (i := 9) rfl)) rfl rfl dX2_init_25 ?_
  refine mm_V (As := [.ref r]) (rest := []) ⟨hx, hb, hml, hown, hts⟩ (c1_copyFrom l G hz63 hz64 hz65 hz60 hz61 hz62 ne22 ne31 ne38 ne32 ne39) (cwV 1 hts gX2_init_X1_copyFrom rfl rfl rfl (by decide +kernel) ⟨Nat.le_of_ble_eq_true rfl, Nat.le_of_ble_eq_true rfl⟩) hK hE hA hM (mm_recv hK hM hz63 (q := (RX1, TX1, 2)) rfl) rfl hl.1 rfl (Nat.le_of_ble_eq_true rfl) dX2_init_28 ⟨Nat.le_of_ble_eq_true rfl, Nat.le_of_ble_eq_true rfl⟩ (fun v gz66 Hp lcs hp hM => ?_)
  obtain ⟨rfl, hz67, hz68, rz69⟩ := hp
  have hz70 := (rz69 _ ne29 ne36).trans hz59
  have hz71 := (rz69 _ ne30 ne37).trans hz60
  have hz72 := (rz69 _ ne31 ne38).trans hz61
  have hz73 := (rz69 _ ne32 ne39).trans hz62
  have hz74 := (rz69 _ ne33 ne40).trans hz63
  have hz75 := (rz69 _ ne28 ne35).trans hz57
  have hF := fun w9 e (hb : f w9 = some e) (hn0 : w9 ≠ x) => (rz69 w9 (ne_none hb fo27) (ne_none hb fo34)).trans (hF w9 e hb hn0)
  refine lv_aload_n hx hb dX2_init_31 rfl (lv_at hl 0 rfl) ?_
  refine lv_aload_n hx hb dX2_init_32 rfl (lv_at hl 2 rfl) ?_
  refine mm_get (C := RX0) (T := TX0) (N := 9) (k := 0) hx hb hts (fun _ h => List.mem_cons_of_mem _ (List.mem_append_right _ h)) hown hK hM hz70 rfl (by decide) (hts (.fieldLink RX2 29 "SentenceRules$Reader" "about" "I") (List.mem_of_getElem? (i := 10) rfl)) rfl rfl dX2_init_33 ?_
  refine mm_putF (C := RX2) (T := TX2) (N := 5) (k := 2) hx hb hts (fun _ h => List.mem_cons_of_mem _ (List.mem_append_left _ (List.mem_append_right _ h))) tyX2 tyX2_ok nmX2 hown hK hM hz75 rfl (by decide) (hts (.fieldLink RX2 33 "SentenceRules$Sentence" "about" "I") (List.mem_of_getElem? (i := 11) rfl)) rfl rfl hname rfl rfl rfl (Nat.le_of_ble_eq_true rfl) dX2_init_36 (fun Hp lcs hM => ?_)
  obtain ⟨gz76, hM, hz77, rz78⟩ := hM.up
  have hz79 := (rz78 _ (ne_oo hz70 hz75 (by show (1 : Nat) ≠ 3; decide))).trans hz70
  have hz80 := (rz78 _ (ne_oo hz71 hz75 (by show (2 : Nat) ≠ 3; decide))).trans hz71
  have hz81 := (rz78 _ (ne_oi hz75 hz72).symm).trans hz72
  have hz82 := (rz78 _ (ne_oi hz75 hz73).symm).trans hz73
  have hz83 := (rz78 _ (Ne.symm ne7)).trans hz74
  have hz84 := (rz78 _ (Ne.symm ne28)).trans hz67
  have hz85 := (rz78 _ (Ne.symm ne35)).trans hz68
  have hF := fun w9 e (hb : f w9 = some e) (hn0 : w9 ≠ x) => (rz78 w9 hn0).trans (hF w9 e hb hn0)
  refine lv_aload_n hx hb dX2_init_39 rfl (lv_at hl 0 rfl) ?_
  refine lv_aload_n hx hb dX2_init_40 rfl (lv_at hl 2 rfl) ?_
  refine mm_get (C := RX0) (T := TX0) (N := 9) (k := 1) hx hb hts (fun _ h => List.mem_cons_of_mem _ (List.mem_append_right _ h)) hown hK hM hz79 rfl (by decide) (hts (.fieldLink RX2 34 "SentenceRules$Reader" "given" "I") (List.mem_of_getElem? (i := 12) rfl)) rfl rfl dX2_init_41 ?_
  refine mm_putF (C := RX2) (T := TX2) (N := 5) (k := 3) hx hb hts (fun _ h => List.mem_cons_of_mem _ (List.mem_append_left _ (List.mem_append_right _ h))) tyX2 tyX2_ok nmX2 hown hK hM hz77 rfl (by decide) (hts (.fieldLink RX2 37 "SentenceRules$Sentence" "given" "I") (List.mem_of_getElem? (i := 13) rfl)) rfl rfl hname rfl rfl rfl (Nat.le_of_ble_eq_true rfl) dX2_init_44 (fun Hp lcs hM => ?_)
  obtain ⟨gz86, hM, hz87, rz88⟩ := hM.up
  have hz89 := (rz88 _ (ne_oo hz79 hz77 (by show (1 : Nat) ≠ 3; decide))).trans hz79
  have hz90 := (rz88 _ (ne_oo hz80 hz77 (by show (2 : Nat) ≠ 3; decide))).trans hz80
  have hz91 := (rz88 _ (ne_oi hz77 hz81).symm).trans hz81
  have hz92 := (rz88 _ (ne_oi hz77 hz82).symm).trans hz82
  have hz93 := (rz88 _ (Ne.symm ne7)).trans hz83
  have hz94 := (rz88 _ (Ne.symm ne28)).trans hz84
  have hz95 := (rz88 _ (Ne.symm ne35)).trans hz85
  have hF := fun w9 e (hb : f w9 = some e) (hn0 : w9 ≠ x) => (rz88 w9 hn0).trans (hF w9 e hb hn0)
  refine lv_aload_n hx hb dX2_init_47 rfl (lv_at hl 0 rfl) ?_
  refine lv_aload_n hx hb dX2_init_48 rfl (lv_at hl 2 rfl) ?_
  refine mm_get (C := RX0) (T := TX0) (N := 9) (k := 2) hx hb hts (fun _ h => List.mem_cons_of_mem _ (List.mem_append_right _ h)) hown hK hM hz89 rfl (by decide) (hts (.fieldLink RX2 38 "SentenceRules$Reader" "used" "I") (List.mem_of_getElem? (i := 14) rfl)) rfl rfl dX2_init_49 ?_
  refine mm_putF (C := RX2) (T := TX2) (N := 5) (k := 4) hx hb hts (fun _ h => List.mem_cons_of_mem _ (List.mem_append_left _ (List.mem_append_right _ h))) tyX2 tyX2_ok nmX2 hown hK hM hz87 rfl (by decide) (hts (.fieldLink RX2 41 "SentenceRules$Sentence" "used" "I") (List.mem_of_getElem? (i := 15) rfl)) rfl rfl hname rfl rfl rfl (Nat.le_of_ble_eq_true rfl) dX2_init_52 (fun Hp lcs hM => ?_)
  obtain ⟨gz96, hM, hz97, rz98⟩ := hM.up
  have hz99 := (rz98 _ (ne_oo hz89 hz87 (by show (1 : Nat) ≠ 3; decide))).trans hz89
  have hz100 := (rz98 _ (ne_oo hz90 hz87 (by show (2 : Nat) ≠ 3; decide))).trans hz90
  have hz101 := (rz98 _ (ne_oi hz87 hz91).symm).trans hz91
  have hz102 := (rz98 _ (ne_oi hz87 hz92).symm).trans hz92
  have hz103 := (rz98 _ (Ne.symm ne7)).trans hz93
  have hz104 := (rz98 _ (Ne.symm ne28)).trans hz94
  have hz105 := (rz98 _ (Ne.symm ne35)).trans hz95
  have hF := fun w9 e (hb : f w9 = some e) (hn0 : w9 ≠ x) => (rz98 w9 hn0).trans (hF w9 e hb hn0)
  exact mm_vret hx hb hlocks hr (Nat.le_of_ble_eq_true rfl) (Nat.le_of_ble_eq_true rfl) hM (⟨rfl, qz1, qz18, qz19, fo6, fo27, fo34, hz97, hz103, hz104, hz105, hF⟩) dX2_init_55
set_option maxHeartbeats 4000000 in
set_option maxRecDepth 100000 in
theorem c3_copyFrom (l : Launch) (G : mG) {f : mE} {q0 b fc pr ka va n cn : Nat} {B : Nat → Option Nat} {g K Vv : Nat → Int32} (h_q0 : f q0 = some (.inr (4, [.int (nI n), .ref b, .ref fc, .ref pr]))) (h_b : f b = some (mQ G 2 16 B)) (h_fc : f fc = some (mI G 7 g)) (h_pr : f pr = some (.inr (5, [.int (nI cn), .ref ka, .ref va]))) (h_ka : f ka = some (mI G 24 K)) (h_va : f va = some (mI G 24 Vv)) {y0 yb yf yr yk yv n1 cn1 : Nat} {B1 : Nat → Option Nat} {g1 K1 V1 : Nat → Int32} (h_y0 : f y0 = some (.inr (4, [.int (nI n1), .ref yb, .ref yf, .ref yr]))) (h_yb : f yb = some (mQ G 2 16 B1)) (h_yf : f yf = some (mI G 7 g1)) (h_yr : f yr = some (.inr (5, [.int (nI cn1), .ref yk, .ref yv]))) (h_yk : f yk = some (mI G 24 K1)) (h_yv : f yv = some (mI G 24 V1)) (d0 : y0 ≠ q0) (d1 : yb ≠ b) (d2 : yf ≠ fc) (d3 : yr ≠ pr) (d4 : ka ≠ va) (d5 : yk ≠ ka) (d6 : yk ≠ va) (d7 : yv ≠ ka) (d8 : yv ≠ va) (hB1 : ∀ i x, i < 16 → B1 i = some x → ∃ vs, f x = some (.inr (3, vs))) : mC l G yX3_copyFrom wsX3_copyFrom ({ frames := 2, cells := 0, slots := 0, locals := 47 } : Room) f [.ref q0, .ref y0] (fun v f1 => v = none ∧ f1 q0 = some (.inr (4, [.int (nI n1), .ref b, .ref fc, .ref pr])) ∧ f1 b = some (mQ G 2 16 (copB B1 B 16)) ∧ f1 fc = some (mI G 7 (va_cpy g1 g 0 0 7)) ∧ f1 pr = some (.inr (5, [.int (nI cn1), .ref ka, .ref va])) ∧ f1 ka = some (mI G 24 (va_cpy K1 K 0 0 24)) ∧ f1 va = some (mI G 24 (va_cpy V1 Vv 0 0 24)) ∧ ∀ c e, f c = some e → c ≠ q0 → c ≠ b → c ≠ fc → c ≠ pr → c ≠ ka → c ≠ va → f1 c = some e) 0 0 := by
  refine mC.of (cc := cX3_copyFrom) (maxL := 3) (ret := none) (by decide) rfl (Nat.le_of_ble_eq_true rfl) ?_
  intro pgm env s mt args below meth c A ls hx hb hml hr hlocks hown hname hts hK hE hA hM hl
  have hl : lv_has ls 3 [(0, .ref q0), (1, .ref y0)] := hl
  have hF := fun w9 e (hb : f w9 = some e) (_ : w9 ≠ q0) (_ : w9 ≠ b) (_ : w9 ≠ fc) (_ : w9 ≠ pr) (_ : w9 ≠ ka) (_ : w9 ≠ va) => hb
  refine lv_aload_n hx hb dX3_copyFrom_0 rfl (lv_at hl 0 rfl) ?_
  refine lv_aload_n hx hb dX3_copyFrom_1 rfl (lv_at hl 1 rfl) ?_
  refine mm_get (C := RX3) (T := TX3) (N := 4) (k := 0) hx hb hts (fun _ h => List.mem_cons_of_mem _ (List.mem_append_left _ (List.mem_append_right _ h))) hown hK hM h_y0 rfl (by decide) (hts (.fieldLink RX3 29 "SentenceRules$State" "sentenceCount" "I") (List.mem_of_getElem? (i := 1) rfl)) rfl rfl dX3_copyFrom_2 ?_
  refine mm_put (C := RX3) (T := TX3) (N := 4) (k := 0) hx hb hts (fun _ h => List.mem_cons_of_mem _ (List.mem_append_left _ (List.mem_append_right _ h))) tyX3 tyX3_ok nmX3 hown hK hM h_q0 rfl (by decide) (hts (.fieldLink RX3 29 "SentenceRules$State" "sentenceCount" "I") (List.mem_of_getElem? (i := 1) rfl)) rfl rfl rfl rfl (Nat.le_of_ble_eq_true rfl) dX3_copyFrom_5 (fun Hp lcs hM => ?_)
  obtain ⟨gz1, hM, hz2, rz3⟩ := hM.up
  have hz4 := (rz3 _ (ne_oi h_q0 h_b).symm).trans h_b
  have hz5 := (rz3 _ (ne_oi h_q0 h_fc).symm).trans h_fc
  have hz6 := (rz3 _ (ne_oo h_pr h_q0 (by show (5 : Nat) ≠ 4; decide))).trans h_pr
  have hz7 := (rz3 _ (ne_oi h_q0 h_ka).symm).trans h_ka
  have hz8 := (rz3 _ (ne_oi h_q0 h_va).symm).trans h_va
  have hz9 := (rz3 _ d0).trans h_y0
  have hz10 := (rz3 _ (ne_oi h_q0 h_yb).symm).trans h_yb
  have hz11 := (rz3 _ (ne_oi h_q0 h_yf).symm).trans h_yf
  have hz12 := (rz3 _ (ne_oo h_yr h_q0 (by show (5 : Nat) ≠ 4; decide))).trans h_yr
  have hz13 := (rz3 _ (ne_oi h_q0 h_yk).symm).trans h_yk
  have hz14 := (rz3 _ (ne_oi h_q0 h_yv).symm).trans h_yv
  have hF := fun w9 e (hb : f w9 = some e) (hn0 : w9 ≠ q0) (hn1 : w9 ≠ b) (hn2 : w9 ≠ fc) (hn3 : w9 ≠ pr) (hn4 : w9 ≠ ka) (hn5 : w9 ≠ va) => (rz3 w9 hn0).trans (hF w9 e hb hn0 hn1 hn2 hn3 hn4 hn5)
  have hF0 : ∀ c e, f c = some e → c ≠ q0 → _ := fun c e hb hn => (rz3 c hn).trans hb
  refine lv_iconst (v := (nI 0)) hx hb dX3_copyFrom_8 (by decide +kernel) ?_
  refine lv_istore_n (lv' := [(2, .int (nI 0)), (0, .ref q0), (1, .ref y0)]) hx hb dX3_copyFrom_9 rfl hl (by decide) rfl (fun ls hl => ?_)
  have loopZ : ∀ (fuel : Nat) (i : Nat) (fz : mE) (Hp : Heap) (lcs : List Loc) (ls : Array Slot) (hiN : i ≤ 16) (z_q0 : fz q0 = some (.inr (4, [.int (nI n1), .ref b, .ref fc, .ref pr]))) (z_b : fz b = some (mQ G 2 16 (copB B1 B i))) (z_F : ∀ c e, f c = some e → c ≠ q0 → c ≠ b → fz c = some e) (hfu : 16 - i < fuel) (hM : mM G A s.heap fz Hp lcs) (hl : lv_has ls 3 [(0, .ref q0), (1, .ref y0), (2, .int (nI i))]), W pgm l env ({ frames := 2, cells := 0, slots := 0, locals := 47 } : Room) s mt args below meth c Hp lcs 0 0 (MQ below (mQc G A (fun v f1 => v = none ∧ f1 q0 = some (.inr (4, [.int (nI n1), .ref b, .ref fc, .ref pr])) ∧ f1 b = some (mQ G 2 16 (copB B1 B 16)) ∧ f1 fc = some (mI G 7 (va_cpy g1 g 0 0 7)) ∧ f1 pr = some (.inr (5, [.int (nI cn1), .ref ka, .ref va])) ∧ f1 ka = some (mI G 24 (va_cpy K1 K 0 0 24)) ∧ f1 va = some (mI G 24 (va_cpy V1 Vv 0 0 24)) ∧ ∀ c e, f c = some e → c ≠ q0 → c ≠ b → c ≠ fc → c ≠ pr → c ≠ ka → c ≠ va → f1 c = some e)) args s 0 0 A) (F0 mt 10 ls []) := by
    intro fuel
    induction fuel with
    | zero => intro i fz Hp lcs ls hiN z_q0 z_b z_F hfu; exact absurd hfu (Nat.not_lt_zero _)
    | succ fuel ih =>
      intro i fz Hp lcs ls hiN z_q0 z_b z_F hfu hM hl
      have z_fc := z_F fc _ h_fc (ne_oi h_q0 h_fc).symm (ne_QI h_b h_fc).symm
      have z_pr := z_F pr _ h_pr (ne_oo h_pr h_q0 (by show (5 : Nat) ≠ 4; decide)) (ne_oi h_pr h_b)
      have z_ka := z_F ka _ h_ka (ne_oi h_q0 h_ka).symm (ne_QI h_b h_ka).symm
      have z_va := z_F va _ h_va (ne_oi h_q0 h_va).symm (ne_QI h_b h_va).symm
      have z_y0 := z_F y0 _ h_y0 d0 (ne_oi h_y0 h_b)
      have z_yb := z_F yb _ h_yb (ne_oi h_q0 h_yb).symm d1
      have z_yf := z_F yf _ h_yf (ne_oi h_q0 h_yf).symm (ne_QI h_b h_yf).symm
      have z_yr := z_F yr _ h_yr (ne_oo h_yr h_q0 (by show (5 : Nat) ≠ 4; decide)) (ne_oi h_yr h_b)
      have z_yk := z_F yk _ h_yk (ne_oi h_q0 h_yk).symm (ne_QI h_b h_yk).symm
      have z_yv := z_F yv _ h_yv (ne_oi h_q0 h_yv).symm (ne_QI h_b h_yv).symm
      have hF : ∀ w9 e, f w9 = some e → w9 ≠ q0 → w9 ≠ b → w9 ≠ fc → w9 ≠ pr → w9 ≠ ka → w9 ≠ va → fz w9 = some e := fun c e hb hn0 hn1 _ _ _ _ => z_F c e hb hn0 hn1
      refine lv_iload_n hx hb dX3_copyFrom_10 rfl (lv_at hl 2 rfl) ?_
      refine lv_bipush (v := (nI 16)) hx hb dX3_copyFrom_11 (by decide +kernel) ?_
      refine ln_icmp_ge i 16 (by omega) (by omega) (tgt := 34) hx hb dX3_copyFrom_13 (by decide) (fun cz15 => ?_) (fun cz15 => ?_)
      · have hz16 : i = 16 := (by omega)
        subst hz16
        have hF : ∀ b_1 e, f b_1 = some e → b_1 ≠ q0 → b_1 ≠ b → b_1 ≠ fc → b_1 ≠ pr → b_1 ≠ ka → b_1 ≠ va → fz b_1 = some e := fun c e hb hn0 hn1 _ _ _ _ => z_F c e hb hn0 hn1
        refine lv_aload_n hx hb dX3_copyFrom_34 rfl (lv_at hl 1 rfl) ?_
        refine mm_get (C := RX3) (T := TX3) (N := 4) (k := 2) hx hb hts (fun _ h => List.mem_cons_of_mem _ (List.mem_append_left _ (List.mem_append_right _ h))) hown hK hM z_y0 rfl (by decide) (hts (.fieldLink RX3 17 "SentenceRules$State" "facts" "[I") (List.mem_of_getElem? (i := 3) rfl)) rfl rfl dX3_copyFrom_35 ?_
        refine lv_iconst (v := (nI 0)) hx hb dX3_copyFrom_38 (by decide +kernel) ?_
        refine lv_aload_n hx hb dX3_copyFrom_39 rfl (lv_at hl 0 rfl) ?_
        refine mm_get (C := RX3) (T := TX3) (N := 4) (k := 2) hx hb hts (fun _ h => List.mem_cons_of_mem _ (List.mem_append_left _ (List.mem_append_right _ h))) hown hK hM z_q0 rfl (by decide) (hts (.fieldLink RX3 17 "SentenceRules$State" "facts" "[I") (List.mem_of_getElem? (i := 3) rfl)) rfl rfl dX3_copyFrom_40 ?_
        refine lv_iconst (v := (nI 0)) hx hb dX3_copyFrom_43 (by decide +kernel) ?_
        refine lv_bipush (v := (nI 7)) hx hb dX3_copyFrom_44 (by decide +kernel) ?_
        refine mm_copyI hx hb (by rw [hml]; exact hl.1.symm) hown (hts (.methodLink RX3 33 arraycopyName) (List.mem_of_getElem? (i := 4) rfl)) (hts (.native arraycopyName) (List.mem_of_getElem? (i := 5) rfl)) (hts (.static arraycopyName) (List.mem_of_getElem? (i := 6) rfl)) (hts (.initialized "java/lang/System") (List.mem_of_getElem? (i := 7) rfl)) hK hM z_yf z_fc 0 0 7 (by decide) (by decide) (by decide) (by decide) (Nat.le_of_ble_eq_true rfl) (Nat.le_of_ble_eq_true rfl) (Nat.le_of_ble_eq_true rfl) dX3_copyFrom_46 (fun Hp lcs hM => ?_)
        obtain ⟨gz16, hM, hz17, rz18⟩ := hM.up
        have hz19 := (rz18 _ (ne_oi z_q0 z_fc)).trans z_q0
        have hz20 := (rz18 _ (ne_QI z_b z_fc)).trans z_b
        have hz21 := (rz18 _ (ne_oi z_pr z_fc)).trans z_pr
        have hz22 := (rz18 _ (ne_len z_ka z_fc (by decide))).trans z_ka
        have hz23 := (rz18 _ (ne_len z_va z_fc (by decide))).trans z_va
        have hz24 := (rz18 _ (ne_oi z_y0 z_fc)).trans z_y0
        have hz25 := (rz18 _ (ne_QI z_yb z_fc)).trans z_yb
        have hz26 := (rz18 _ d2).trans z_yf
        have hz27 := (rz18 _ (ne_oi z_yr z_fc)).trans z_yr
        have hz28 := (rz18 _ (ne_len z_yk z_fc (by decide))).trans z_yk
        have hz29 := (rz18 _ (ne_len z_yv z_fc (by decide))).trans z_yv
        have hF := fun w9 e (hb : f w9 = some e) (hn0 : w9 ≠ q0) (hn1 : w9 ≠ b) (hn2 : w9 ≠ fc) (hn3 : w9 ≠ pr) (hn4 : w9 ≠ ka) (hn5 : w9 ≠ va) => (rz18 w9 hn2).trans (hF w9 e hb hn0 hn1 hn2 hn3 hn4 hn5)
        refine lv_aload_n hx hb dX3_copyFrom_49 rfl (lv_at hl 0 rfl) ?_
        refine mm_get (C := RX3) (T := TX3) (N := 4) (k := 3) hx hb hts (fun _ h => List.mem_cons_of_mem _ (List.mem_append_left _ (List.mem_append_right _ h))) hown hK hM hz19 rfl (by decide) (hts (.fieldLink RX3 24 "SentenceRules$State" "present" "LSentenceRules$Tokens;") (List.mem_of_getElem? (i := 8) rfl)) rfl rfl dX3_copyFrom_50 ?_
        refine lv_aload_n hx hb dX3_copyFrom_53 rfl (lv_at hl 1 rfl) ?_
        refine mm_get (C := RX3) (T := TX3) (N := 4) (k := 3) hx hb hts (fun _ h => List.mem_cons_of_mem _ (List.mem_append_left _ (List.mem_append_right _ h))) hown hK hM hz24 rfl (by decide) (hts (.fieldLink RX3 24 "SentenceRules$State" "present" "LSentenceRules$Tokens;") (List.mem_of_getElem? (i := 8) rfl)) rfl rfl dX3_copyFrom_54 ?_
        refine mm_V (As := [.ref yr]) (rest := []) ⟨hx, hb, hml, hown, hts⟩ (c4_copyFrom l G hz21 hz22 hz23 hz27 hz28 hz29 d3 d4 d5 d6 d7 d8) (cwV 1 hts gX3_copyFrom_X4_copyFrom rfl rfl rfl (by decide +kernel) ⟨Nat.le_of_ble_eq_true rfl, Nat.le_of_ble_eq_true rfl⟩) hK hE hA hM (mm_recv hK hM hz21 (q := (RX4, TX4, 3)) rfl) rfl hl.1 rfl (Nat.le_of_ble_eq_true rfl) dX3_copyFrom_57 ⟨Nat.le_of_ble_eq_true rfl, Nat.le_of_ble_eq_true rfl⟩ (fun v gz30 Hp lcs hp hM => ?_)
        obtain ⟨rfl, hz31, hz32, hz33, rz34⟩ := hp
        have hz35 := (rz34 _ (ne_oo hz19 hz21 (by show (4 : Nat) ≠ 5; decide)) (ne_oi hz19 hz22) (ne_oi hz19 hz23)).trans hz19
        have hz36 := (rz34 _ (ne_oi hz21 hz20).symm (ne_QI hz20 hz22) (ne_QI hz20 hz23)).trans hz20
        have hz37 := (rz34 _ (ne_oo hz24 hz21 (by show (4 : Nat) ≠ 5; decide)) (ne_oi hz24 hz22) (ne_oi hz24 hz23)).trans hz24
        have hz38 := (rz34 _ (ne_oi hz21 hz25).symm (ne_QI hz25 hz22) (ne_QI hz25 hz23)).trans hz25
        have hz39 := (rz34 _ (ne_oi hz21 hz26).symm (ne_len hz26 hz22 (by decide)) (ne_len hz26 hz23 (by decide))).trans hz26
        have hz40 := (rz34 _ d3 (ne_oi hz27 hz22) (ne_oi hz27 hz23)).trans hz27
        have hz41 := (rz34 _ (ne_oi hz21 hz28).symm d5 d6).trans hz28
        have hz42 := (rz34 _ (ne_oi hz21 hz29).symm d7 d8).trans hz29
        have hz43 := (rz34 _ (ne_oi hz21 hz17).symm (ne_len hz17 hz22 (by decide)) (ne_len hz17 hz23 (by decide))).trans hz17
        have hF := fun w9 e (hb : f w9 = some e) (hn0 : w9 ≠ q0) (hn1 : w9 ≠ b) (hn2 : w9 ≠ fc) (hn3 : w9 ≠ pr) (hn4 : w9 ≠ ka) (hn5 : w9 ≠ va) => (rz34 w9 hn3 hn4 hn5).trans (hF w9 e hb hn0 hn1 hn2 hn3 hn4 hn5)
        exact mm_vret hx hb hlocks hr (Nat.le_of_ble_eq_true rfl) (Nat.le_of_ble_eq_true rfl) hM (⟨rfl, hz35, hz36, hz43, hz31, hz32, hz33, hF⟩) dX3_copyFrom_60
      refine lv_aload_n hx hb dX3_copyFrom_16 rfl (lv_at hl 0 rfl) ?_
      refine mm_get (C := RX3) (T := TX3) (N := 4) (k := 1) hx hb hts (fun _ h => List.mem_cons_of_mem _ (List.mem_append_left _ (List.mem_append_right _ h))) hown hK hM z_q0 rfl (by decide) (hts (.fieldLink RX3 11 "SentenceRules$State" "book" "[LSentenceRules$Sentence;") (List.mem_of_getElem? (i := 2) rfl)) rfl rfl dX3_copyFrom_17 ?_
      refine lv_iload_n hx hb dX3_copyFrom_20 rfl (lv_at hl 2 rfl) ?_
      refine lv_aload_n hx hb dX3_copyFrom_21 rfl (lv_at hl 1 rfl) ?_
      refine mm_get (C := RX3) (T := TX3) (N := 4) (k := 1) hx hb hts (fun _ h => List.mem_cons_of_mem _ (List.mem_append_left _ (List.mem_append_right _ h))) hown hK hM z_y0 rfl (by decide) (hts (.fieldLink RX3 11 "SentenceRules$State" "book" "[LSentenceRules$Sentence;") (List.mem_of_getElem? (i := 2) rfl)) rfl rfl dX3_copyFrom_22 ?_
      refine lv_iload_n hx hb dX3_copyFrom_25 rfl (lv_at hl 2 rfl) ?_
      refine mm_aldS hx hb hK hM z_yb (vp_in_nI (by omega) (by decide)) dX3_copyFrom_26 ?_
      rw [nI_clamp (by omega)]
      rcases opt_cases (B1 i) with hbi | ⟨xz, hbi⟩
      · refine mv_val (y := .null) (by rw [hbi]; rfl) ?_
        refine mm_astSN hx hb hK hM z_b i (by omega) (by decide) dX3_copyFrom_27 (fun Hp lcs hM => ?_)
        obtain ⟨gz44, hM, hz45, rz46⟩ := hM.up
        have hz47 := (rz46 _ (ne_oi z_q0 z_b)).trans z_q0
        have hz48 := (rz46 _ (ne_QI z_b z_fc).symm).trans z_fc
        have hz49 := (rz46 _ (ne_oi z_pr z_b)).trans z_pr
        have hz50 := (rz46 _ (ne_QI z_b z_ka).symm).trans z_ka
        have hz51 := (rz46 _ (ne_QI z_b z_va).symm).trans z_va
        have hz52 := (rz46 _ (ne_oi z_y0 z_b)).trans z_y0
        have hz53 := (rz46 _ d1).trans z_yb
        have hz54 := (rz46 _ (ne_QI z_b z_yf).symm).trans z_yf
        have hz55 := (rz46 _ (ne_oi z_yr z_b)).trans z_yr
        have hz56 := (rz46 _ (ne_QI z_b z_yk).symm).trans z_yk
        have hz57 := (rz46 _ (ne_QI z_b z_yv).symm).trans z_yv
        have hF := fun w9 e (hb : f w9 = some e) (hn0 : w9 ≠ q0) (hn1 : w9 ≠ b) (hn2 : w9 ≠ fc) (hn3 : w9 ≠ pr) (hn4 : w9 ≠ ka) (hn5 : w9 ≠ va) => (rz46 w9 hn1).trans (hF w9 e hb hn0 hn1 hn2 hn3 hn4 hn5)
        have hlf := fun c e hc (hn : c ≠ b) => (rz46 c hn).trans (hc : _ = some e)
        refine lv_iinc (v := (nI (i + 1))) (lv' := [(2, .int (nI (i + 1))), (0, .ref q0), (1, .ref y0)]) hx hb dX3_copyFrom_28 hl (k := 2) rfl (nI_add _ _) (by decide) rfl (fun ls hl => ?_)
        refine lv_goto (tgt := 10) hx hb dX3_copyFrom_31 (by decide) ?_
        exact ih (i + 1) _ _ _ ls (by omega) hz47 (by rw [hz45, copB_s hbi]) (fun c e hb hn0 hn1 => hlf c e (z_F c e hb hn0 hn1) hn1) (by omega) hM (lv_sub hl [1, 2, 0] rfl)
      · refine mv_val (y := .ref xz) (by rw [hbi]; rfl) ?_
        obtain ⟨vsz, hxz⟩ := hB1 i xz (by omega) hbi
        have hxz2 := z_F xz _ hxz (ne_oo hxz h_q0 (by show (3 : Nat) ≠ 4; decide)) (ne_oi hxz h_b)
        refine mm_astS hx hb hK hM z_b hxz2 i (by omega) (by decide) dX3_copyFrom_27 (fun Hp lcs hM => ?_)
        obtain ⟨gz58, hM, hz59, rz60⟩ := hM.up
        have hz61 := (rz60 _ (ne_oi z_q0 z_b)).trans z_q0
        have hz62 := (rz60 _ (ne_QI z_b z_fc).symm).trans z_fc
        have hz63 := (rz60 _ (ne_oi z_pr z_b)).trans z_pr
        have hz64 := (rz60 _ (ne_QI z_b z_ka).symm).trans z_ka
        have hz65 := (rz60 _ (ne_QI z_b z_va).symm).trans z_va
        have hz66 := (rz60 _ (ne_oi z_y0 z_b)).trans z_y0
        have hz67 := (rz60 _ d1).trans z_yb
        have hz68 := (rz60 _ (ne_QI z_b z_yf).symm).trans z_yf
        have hz69 := (rz60 _ (ne_oi z_yr z_b)).trans z_yr
        have hz70 := (rz60 _ (ne_QI z_b z_yk).symm).trans z_yk
        have hz71 := (rz60 _ (ne_QI z_b z_yv).symm).trans z_yv
        have hF := fun w9 e (hb : f w9 = some e) (hn0 : w9 ≠ q0) (hn1 : w9 ≠ b) (hn2 : w9 ≠ fc) (hn3 : w9 ≠ pr) (hn4 : w9 ≠ ka) (hn5 : w9 ≠ va) => (rz60 w9 hn1).trans (hF w9 e hb hn0 hn1 hn2 hn3 hn4 hn5)
        have hlf := fun c e hc (hn : c ≠ b) => (rz60 c hn).trans (hc : _ = some e)
        refine lv_iinc (v := (nI (i + 1))) (lv' := [(2, .int (nI (i + 1))), (0, .ref q0), (1, .ref y0)]) hx hb dX3_copyFrom_28 hl (k := 2) rfl (nI_add _ _) (by decide) rfl (fun ls hl => ?_)
        refine lv_goto (tgt := 10) hx hb dX3_copyFrom_31 (by decide) ?_
        exact ih (i + 1) _ _ _ ls (by omega) hz61 (by rw [hz59, copB_s hbi]) (fun c e hb hn0 hn1 => hlf c e (z_F c e hb hn0 hn1) hn1) (by omega) hM (lv_sub hl [1, 2, 0] rfl)
  exact loopZ 17 0 _ _ _ ls (Nat.zero_le _) hz2 (by rw [copB_0]; exact hz4) (fun c e hb hn0 hn1 => hF0 c e hb hn0) (by omega) hM (lv_sub hl [1, 2, 0] rfl)

