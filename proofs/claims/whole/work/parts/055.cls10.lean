/-! THE CLASS: a sentence made, a state copied, a sentence added or taken out -/
theorem opt_cases (x : Option Nat) : x = none ∨ ∃ y, x = some y := by
  cases x with
  | none => exact Or.inl rfl
  | some y => exact Or.inr ⟨y, rfl⟩
def copB (B1 B : Nat → Option Nat) (i : Nat) : Nat → Option Nat := fun j => if j < i then B1 j else B j
theorem copB_0 (B1 B : Nat → Option Nat) : copB B1 B 0 = B := by funext j; rw [copB, if_neg (Nat.not_lt_zero _)]
theorem copB_s {B1 B : Nat → Option Nat} {i : Nat} {x : Option Nat} (h : B1 i = x) : va_up (copB B1 B i) i x = copB B1 B (i + 1) := by
  funext j
  unfold va_up copB
  by_cases hj : j = i
  · subst hj; rw [if_pos rfl, if_pos (Nat.lt_succ_self _), h]
  · rw [if_neg hj]
    by_cases h2 : j < i
    · rw [if_pos h2, if_pos (by omega)]
    · rw [if_neg h2, if_neg (by omega)]
set_option maxHeartbeats 4000000 in
set_option maxRecDepth 100000 in
theorem c2_init (l : Launch) (G : mG) {f : mE} {x tk ka va cn : Nat} {K Vv : Nat → Int32} (hx0 : f x = some (.inr (3, [.null, .null, .int 0, .int 0, .int 0]))) (htk : f tk = some (.inr (5, [.int (nI cn), .ref ka, .ref va]))) (hka : f ka = some (mI G 24 K)) (hva : f va = some (mI G 24 Vv)) {rd r p q : Nat} {ab gv us pl lf cp : Int32} {ir ng : Bool} {lo hi : Nat → Int32} (hR : RD G f rd r p q ab gv us pl ir lf ng cp lo hi) : mC l G yX2_init wsX2_init ({ frames := 2, cells := 6, slots := 67, locals := 47 } : Room) f [.ref x, .ref tk, .ref rd] (fun v f1 => v = none ∧ ∃ t2 k2 v2 r2 p2 q2 : Nat, f t2 = none ∧ f k2 = none ∧ f v2 = none ∧ f r2 = none ∧ f p2 = none ∧ f q2 = none ∧ f1 x = some (.inr (3, [.ref t2, .ref r2, .int ab, .int gv, .int us])) ∧ f1 t2 = some (.inr (5, [.int (nI cn), .ref k2, .ref v2])) ∧ f1 k2 = some (mI G 24 (va_cpy K (fun _ => 0) 0 0 24)) ∧ f1 v2 = some (mI G 24 (va_cpy Vv (fun _ => 0) 0 0 24)) ∧ f1 r2 = some (.inr (2, [.ref p2, .ref q2])) ∧ f1 p2 = some (mI G 7 (va_cpy lo (fun _ => 0) 0 0 7)) ∧ f1 q2 = some (mI G 7 (va_cpy hi (fun _ => 0) 0 0 7)) ∧ ∀ b e, f b = some e → b ≠ x → f1 b = some e) 6 67 := by
  refine mC.of (cc := cX2_init) (maxL := 3) (ret := none) (by decide) rfl (Nat.le_of_ble_eq_true rfl) ?_
  intro pgm env s mt args below meth c A ls hx hb hml hr hlocks hown hname hts hK hE hA hM hl
  have hl : lv_has ls 3 [(0, .ref x), (1, .ref tk), (2, .ref rd)] := hl
  have hF := fun w9 e (hb : f w9 = some e) (_ : w9 ≠ x) => hb
  refine lv_aload_n hx hb dX2_init_0 rfl (lv_at hl 0 rfl) ?_
  refine W.objInit hx hb hown (hts (.methodLink RX2 3 objectInit) (List.mem_of_getElem? (i := 1) rfl)) (hts (.instanceMethod objectInit) (List.mem_of_getElem? (i := 2) rfl)) (hts _ (List.mem_of_getElem? (i := 3) rfl)) rfl (by rw [hml]; exact hl.1) rfl dX2_init_1 (Nat.le_of_ble_eq_true rfl) (Nat.le_of_ble_eq_true rfl) ?_
  refine W.eq (g2 := F0 mt 4 ls []) rfl ?_
  refine lv_aload_n hx hb dX2_init_4 rfl (lv_at hl 0 rfl) ?_
  refine mm_new (C := RX4) (T := TX4) (N := 3) (ci := 5) hx hb hts (fun _ h => List.mem_cons_of_mem _ (List.mem_append_left _ (List.mem_append_left _ (List.mem_append_left _ (List.mem_append_right _ h))))) tyX4_ok hown (hts (.classLink RX2 9 RX4) (List.mem_of_getElem? (i := 4) rfl)) (hts (.instantiable RX4 3) (List.mem_of_getElem? (i := 5) rfl)) (hts (.initialized RX4) (List.mem_of_getElem? (i := 6) rfl)) hK hM hA rfl [.int 0, .null, .null] (by decide) (Nat.le_of_ble_eq_true rfl) (Nat.le_of_ble_eq_true rfl) dX2_init_5 (fun qz1 Hp nz2 hM => ?_)
  obtain ⟨gz3, hM, hz4, rz5⟩ := hM.up
  have fo6 : f qz1 = none := fresh_of (fun e hb => hF qz1 e hb (ne_none hx0 nz2).symm) nz2
  have hF := fun w9 e (hb : f w9 = some e) (hn0 : w9 ≠ x) => (rz5 w9 (ne_none (hF w9 e hb hn0) nz2)).trans (hF w9 e hb hn0)
  have ne7 := ne_none hx0 nz2
  have hz8 := (rz5 _ ne7).trans hx0
  have ne9 := ne_none htk nz2
  have hz10 := (rz5 _ ne9).trans htk
  have ne11 := ne_none hka nz2
  have hz12 := (rz5 _ ne11).trans hka
  have ne13 := ne_none hva nz2
  have hz14 := (rz5 _ ne13).trans hva
  have ne15 := ne_none hR.1 nz2
  have hz16 := (rz5 _ ne15).trans hR.1
  have ne17 := ne_none hR.2.1 nz2
  have hz18 := (rz5 _ ne17).trans hR.2.1
  have ne19 := ne_none hR.2.2.1 nz2
  have hz20 := (rz5 _ ne19).trans hR.2.2.1
  have ne21 := ne_none hR.2.2.2.1 nz2
  have hz22 := (rz5 _ ne21).trans hR.2.2.2.1
  refine lv_dup hx hb dX2_init_8 rfl ?_
  refine mm_IN (As := []) (rest := [.ref qz1, .ref x]) ⟨hx, hb, hml, hown, hts⟩ (c4_init l G hz4) ⟨va_cnB 0 hts gX2_init_X4_init_n11 rfl rfl rfl (hE.1.1 _ (List.mem_of_getElem? (i := 7) rfl)) (hts (.initialized RX4) (List.mem_of_getElem? (i := 6) rfl)) (by decide +kernel) ⟨Nat.le_of_ble_eq_true rfl, Nat.le_of_ble_eq_true rfl⟩, rfl, (hts (.instanceMethod yX4_init) (List.mem_of_getElem? (i := 19) rfl))⟩ hK hE hA hM rfl hl.1 rfl (Nat.le_of_ble_eq_true rfl) dX2_init_9 ⟨Nat.le_of_ble_eq_true rfl, Nat.le_of_ble_eq_true rfl⟩ (fun v gz23 Hp lcs hp hM => ?_)
  obtain ⟨rfl, qz24, qz25, nz26, nz27, ne28, hz29, hz30, hz31, rz32⟩ := hp
  have fo33 : f qz24 = none := fresh_of (fun e hb => hF qz24 e hb (ne_none hz8 nz26).symm) nz26
  have ne34 := ne_none hz8 nz26
  have ne35 := ne_none hz10 nz26
  have ne36 := ne_none hz12 nz26
  have ne37 := ne_none hz14 nz26
  have ne38 := ne_none hz16 nz26
  have ne39 := ne_none hz18 nz26
  have ne40 := ne_none hz20 nz26
  have ne41 := ne_none hz22 nz26
  have ne42 := ne_none hz4 nz26
  have fo43 : f qz25 = none := fresh_of (fun e hb => hF qz25 e hb (ne_none hz8 nz27).symm) nz27
  have ne44 := ne_none hz8 nz27
  have ne45 := ne_none hz10 nz27
  have ne46 := ne_none hz12 nz27
  have ne47 := ne_none hz14 nz27
  have ne48 := ne_none hz16 nz27
  have ne49 := ne_none hz18 nz27
  have ne50 := ne_none hz20 nz27
  have ne51 := ne_none hz22 nz27
  have ne52 := ne_none hz4 nz27
  have hz53 := rz32 _ _ hz8 ne7
  have hz54 := rz32 _ _ hz10 ne9
  have hz55 := rz32 _ _ hz12 ne11
  have hz56 := rz32 _ _ hz14 ne13
  have hz57 := rz32 _ _ hz16 ne15
  have hz58 := rz32 _ _ hz18 ne17
  have hz59 := rz32 _ _ hz20 ne19
  have hz60 := rz32 _ _ hz22 ne21
  have hF := fun w9 e (hb : f w9 = some e) (hn0 : w9 ≠ x) => rz32 w9 e (hF w9 e hb hn0) (ne_none hb fo6)
  refine mm_putF (C := RX2) (T := TX2) (N := 5) (k := 0) hx hb hts (fun _ h => List.mem_cons_of_mem _ (List.mem_append_left _ (List.mem_append_left _ (List.mem_append_right _ h)))) tyX2 tyX2_ok nmX2 hown hK hM hz53 rfl (by decide) (hts (.fieldLink RX2 12 "SentenceRules$Sentence" "tokens" "LSentenceRules$Tokens;") (List.mem_of_getElem? (i := 7) rfl)) rfl rfl hname rfl rfl rfl (Nat.le_of_ble_eq_true rfl) dX2_init_12 (fun Hp lcs hM => ?_)
  obtain ⟨gz61, hM, hz62, rz63⟩ := hM.up
  have hz64 := (rz63 _ (ne_oo hz54 hz53 (by show (5 : Nat) ≠ 3; decide))).trans hz54
  have hz65 := (rz63 _ (ne_oi hz53 hz55).symm).trans hz55
  have hz66 := (rz63 _ (ne_oi hz53 hz56).symm).trans hz56
  have hz67 := (rz63 _ (ne_oo hz57 hz53 (by show (1 : Nat) ≠ 3; decide))).trans hz57
  have hz68 := (rz63 _ (ne_oo hz58 hz53 (by show (2 : Nat) ≠ 3; decide))).trans hz58
  have hz69 := (rz63 _ (ne_oi hz53 hz59).symm).trans hz59
  have hz70 := (rz63 _ (ne_oi hz53 hz60).symm).trans hz60
  have hz71 := (rz63 _ (Ne.symm ne7)).trans hz29
  have hz72 := (rz63 _ (Ne.symm ne34)).trans hz30
  have hz73 := (rz63 _ (Ne.symm ne44)).trans hz31
  have hF := fun w9 e (hb : f w9 = some e) (hn0 : w9 ≠ x) => (rz63 w9 hn0).trans (hF w9 e hb hn0)
  refine lv_aload_n hx hb dX2_init_15 rfl (lv_at hl 0 rfl) ?_
  refine mm_new (C := RX1) (T := TX1) (N := 2) (ci := 2) hx hb hts (fun _ h => List.mem_cons_of_mem _ (List.mem_append_left _ (List.mem_append_right _ h))) tyX1_ok hown (hts (.classLink RX2 18 RX1) (List.mem_of_getElem? (i := 8) rfl)) (hts (.instantiable RX1 2) (List.mem_of_getElem? (i := 9) rfl)) (hts (.initialized RX1) (List.mem_of_getElem? (i := 10) rfl)) hK hM hA rfl [.null, .null] (by decide) (Nat.le_of_ble_eq_true rfl) (Nat.le_of_ble_eq_true rfl) dX2_init_16 (fun qz74 Hp nz75 hM => ?_)
  obtain ⟨gz76, hM, hz77, rz78⟩ := hM.up
  have fo79 : f qz74 = none := fresh_of (fun e hb => hF qz74 e hb (ne_none hz62 nz75).symm) nz75
  have hF := fun w9 e (hb : f w9 = some e) (hn0 : w9 ≠ x) => (rz78 w9 (ne_none (hF w9 e hb hn0) nz75)).trans (hF w9 e hb hn0)
  have ne80 := ne_none hz64 nz75
  have hz81 := (rz78 _ ne80).trans hz64
  have ne82 := ne_none hz65 nz75
  have hz83 := (rz78 _ ne82).trans hz65
  have ne84 := ne_none hz66 nz75
  have hz85 := (rz78 _ ne84).trans hz66
  have ne86 := ne_none hz67 nz75
  have hz87 := (rz78 _ ne86).trans hz67
  have ne88 := ne_none hz68 nz75
  have hz89 := (rz78 _ ne88).trans hz68
  have ne90 := ne_none hz69 nz75
  have hz91 := (rz78 _ ne90).trans hz69
  have ne92 := ne_none hz70 nz75
  have hz93 := (rz78 _ ne92).trans hz70
  have ne94 := ne_none hz71 nz75
  have hz95 := (rz78 _ ne94).trans hz71
  have ne96 := ne_none hz72 nz75
  have hz97 := (rz78 _ ne96).trans hz72
  have ne98 := ne_none hz73 nz75
  have hz99 := (rz78 _ ne98).trans hz73
  have ne100 := ne_none hz62 nz75
  have hz101 := (rz78 _ ne100).trans hz62
  refine lv_dup hx hb dX2_init_19 rfl ?_
  refine mm_IN (As := []) (rest := [.ref qz74, .ref x]) ⟨hx, hb, hml, hown, hts⟩ (c1_init l G hz77) ⟨va_cnB 0 hts gX2_init_X1_init_n20 rfl rfl rfl (hE.1.1 _ (List.mem_of_getElem? (i := 8) rfl)) (hts (.initialized RX1) (List.mem_of_getElem? (i := 10) rfl)) (by decide +kernel) ⟨Nat.le_of_ble_eq_true rfl, Nat.le_of_ble_eq_true rfl⟩, rfl, (hts (.instanceMethod yX1_init) (List.mem_of_getElem? (i := 25) rfl))⟩ hK hE hA hM rfl hl.1 rfl (Nat.le_of_ble_eq_true rfl) dX2_init_20 ⟨Nat.le_of_ble_eq_true rfl, Nat.le_of_ble_eq_true rfl⟩ (fun v gz102 Hp lcs hp hM => ?_)
  obtain ⟨rfl, qz103, qz104, nz105, nz106, ne107, hz108, hz109, hz110, rz111⟩ := hp
  have fo112 : f qz103 = none := fresh_of (fun e hb => hF qz103 e hb (ne_none hz101 nz105).symm) nz105
  have ne113 := ne_none hz81 nz105
  have ne114 := ne_none hz83 nz105
  have ne115 := ne_none hz85 nz105
  have ne116 := ne_none hz87 nz105
  have ne117 := ne_none hz89 nz105
  have ne118 := ne_none hz91 nz105
  have ne119 := ne_none hz93 nz105
  have ne120 := ne_none hz95 nz105
  have ne121 := ne_none hz97 nz105
  have ne122 := ne_none hz99 nz105
  have ne123 := ne_none hz101 nz105
  have ne124 := ne_none hz77 nz105
  have fo125 : f qz104 = none := fresh_of (fun e hb => hF qz104 e hb (ne_none hz101 nz106).symm) nz106
  have ne126 := ne_none hz81 nz106
  have ne127 := ne_none hz83 nz106
  have ne128 := ne_none hz85 nz106
  have ne129 := ne_none hz87 nz106
  have ne130 := ne_none hz89 nz106
  have ne131 := ne_none hz91 nz106
  have ne132 := ne_none hz93 nz106
  have ne133 := ne_none hz95 nz106
  have ne134 := ne_none hz97 nz106
  have ne135 := ne_none hz99 nz106
  have ne136 := ne_none hz101 nz106
  have ne137 := ne_none hz77 nz106
  have hz138 := rz111 _ _ hz81 ne80
  have hz139 := rz111 _ _ hz83 ne82
  have hz140 := rz111 _ _ hz85 ne84
  have hz141 := rz111 _ _ hz87 ne86
  have hz142 := rz111 _ _ hz89 ne88
  have hz143 := rz111 _ _ hz91 ne90
  have hz144 := rz111 _ _ hz93 ne92
  have hz145 := rz111 _ _ hz95 ne94
  have hz146 := rz111 _ _ hz97 ne96
  have hz147 := rz111 _ _ hz99 ne98
  have hz148 := rz111 _ _ hz101 ne100
  have hF := fun w9 e (hb : f w9 = some e) (hn0 : w9 ≠ x) => rz111 w9 e (hF w9 e hb hn0) (ne_none hb fo79)
  refine mm_putF (C := RX2) (T := TX2) (N := 5) (k := 1) hx hb hts (fun _ h => List.mem_cons_of_mem _ (List.mem_append_left _ (List.mem_append_left _ (List.mem_append_right _ h)))) tyX2 tyX2_ok nmX2 hown hK hM hz148 rfl (by decide) (hts (.fieldLink RX2 21 "SentenceRules$Sentence" "region" "LSentenceRules$Region;") (List.mem_of_getElem? (i := 11) rfl)) rfl rfl hname rfl rfl rfl (Nat.le_of_ble_eq_true rfl) dX2_init_23 (fun Hp lcs hM => ?_)
  obtain ⟨gz149, hM, hz150, rz151⟩ := hM.up
  have hz152 := (rz151 _ (ne_oo hz138 hz148 (by show (5 : Nat) ≠ 3; decide))).trans hz138
  have hz153 := (rz151 _ (ne_oi hz148 hz139).symm).trans hz139
  have hz154 := (rz151 _ (ne_oi hz148 hz140).symm).trans hz140
  have hz155 := (rz151 _ (ne_oo hz141 hz148 (by show (1 : Nat) ≠ 3; decide))).trans hz141
  have hz156 := (rz151 _ (ne_oo hz142 hz148 (by show (2 : Nat) ≠ 3; decide))).trans hz142
  have hz157 := (rz151 _ (ne_oi hz148 hz143).symm).trans hz143
  have hz158 := (rz151 _ (ne_oi hz148 hz144).symm).trans hz144
  have hz159 := (rz151 _ (Ne.symm ne7)).trans hz145
  have hz160 := (rz151 _ (Ne.symm ne34)).trans hz146
  have hz161 := (rz151 _ (Ne.symm ne44)).trans hz147
  have hz162 := (rz151 _ (Ne.symm ne100)).trans hz108
  have hz163 := (rz151 _ (Ne.symm ne123)).trans hz109
  have hz164 := (rz151 _ (Ne.symm ne136)).trans hz110
  have hF := fun w9 e (hb : f w9 = some e) (hn0 : w9 ≠ x) => (rz151 w9 hn0).trans (hF w9 e hb hn0)
  refine lv_aload_n hx hb dX2_init_26 rfl (lv_at hl 0 rfl) ?_
  refine mm_get (C := RX2) (T := TX2) (N := 5) (k := 0) hx hb hts (fun _ h => List.mem_cons_of_mem _ (List.mem_append_left _ (List.mem_append_left _ (List.mem_append_right _ h)))) hown hK hM hz150 rfl (by decide) (hts (.fieldLink RX2 12 "SentenceRules$Sentence" "tokens" "LSentenceRules$Tokens;") (List.mem_of_getElem? (i := 7) rfl)) rfl rfl dX2_init_27 ?_
  refine lv_aload_n hx hb dX2_init_30 rfl (lv_at hl 1 rfl) ?_
  refine mm_V (As := [.ref tk]) (rest := []) ⟨hx, hb, hml, hown, hts⟩ (c4_copyFrom l G hz159 hz160 hz161 hz152 hz153 hz154 ne9 ne28 ne36 ne46 ne37 ne47) (cwV 1 hts gX2_init_X4_copyFrom rfl rfl rfl (by decide +kernel) ⟨Nat.le_of_ble_eq_true rfl, Nat.le_of_ble_eq_true rfl⟩) hK hE hA hM (mm_recv hK hM hz159 (q := (RX4, TX4, 3)) rfl) rfl hl.1 rfl (Nat.le_of_ble_eq_true rfl) dX2_init_31 ⟨Nat.le_of_ble_eq_true rfl, Nat.le_of_ble_eq_true rfl⟩ (fun v gz165 Hp lcs hp hM => ?_)
  obtain ⟨rfl, hz166, hz167, hz168, rz169⟩ := hp
  have hz170 := (rz169 _ ne9 ne35 ne45).trans hz152
  have hz171 := (rz169 _ ne11 ne36 ne46).trans hz153
  have hz172 := (rz169 _ ne13 ne37 ne47).trans hz154
  have hz173 := (rz169 _ ne15 ne38 ne48).trans hz155
  have hz174 := (rz169 _ ne17 ne39 ne49).trans hz156
  have hz175 := (rz169 _ ne19 ne40 ne50).trans hz157
  have hz176 := (rz169 _ ne21 ne41 ne51).trans hz158
  have hz177 := (rz169 _ (Ne.symm ne94) (Ne.symm ne96) (Ne.symm ne98)).trans hz162
  have hz178 := (rz169 _ (Ne.symm ne120) (Ne.symm ne121) (Ne.symm ne122)).trans hz163
  have hz179 := (rz169 _ (Ne.symm ne133) (Ne.symm ne134) (Ne.symm ne135)).trans hz164
  have hz180 := (rz169 _ ne7 ne34 ne44).trans hz150
  have hF := fun w9 e (hb : f w9 = some e) (hn0 : w9 ≠ x) => (rz169 w9 (ne_none hb fo6) (ne_none hb fo33) (ne_none hb fo43)).trans (hF w9 e hb hn0)
  refine lv_aload_n hx hb dX2_init_34 rfl (lv_at hl 0 rfl) ?_
  refine mm_get (C := RX2) (T := TX2) (N := 5) (k := 1) hx hb hts (fun _ h => List.mem_cons_of_mem _ (List.mem_append_left _ (List.mem_append_left _ (List.mem_append_right _ h)))) hown hK hM hz180 rfl (by decide) (hts (.fieldLink RX2 21 "SentenceRules$Sentence" "region" "LSentenceRules$Region;") (List.mem_of_getElem? (i := 11) rfl)) rfl rfl dX2_init_35 ?_
  refine lv_aload_n hx hb dX2_init_38 rfl (lv_at hl 2 rfl) ?_
  refine mm_get (C := RX0) (T := TX0) (N := 9) (k := 3) hx hb hts (fun _ h => List.mem_cons_of_mem _ (List.mem_append_right _ h)) hown hK hM hz173 rfl (by decide) (hts (.fieldLink RX2 29 "SentenceRules$Reader" "region" "LSentenceRules$Region;") (List.mem_of_getElem? (i := 12) rfl)) rfl rfl dX2_init_39 ?_
  refine mm_V (As := [.ref r]) (rest := []) ⟨hx, hb, hml, hown, hts⟩ (c1_copyFrom l G hz177 hz178 hz179 hz174 hz175 hz176 ne107 ne118 ne131 ne119 ne132) (cwV 1 hts gX2_init_X1_copyFrom rfl rfl rfl (by decide +kernel) ⟨Nat.le_of_ble_eq_true rfl, Nat.le_of_ble_eq_true rfl⟩) hK hE hA hM (mm_recv hK hM hz177 (q := (RX1, TX1, 2)) rfl) rfl hl.1 rfl (Nat.le_of_ble_eq_true rfl) dX2_init_42 ⟨Nat.le_of_ble_eq_true rfl, Nat.le_of_ble_eq_true rfl⟩ (fun v gz181 Hp lcs hp hM => ?_)
  obtain ⟨rfl, hz182, hz183, rz184⟩ := hp
  have hz185 := (rz184 _ ne113 ne126).trans hz170
  have hz186 := (rz184 _ ne114 ne127).trans hz171
  have hz187 := (rz184 _ ne115 ne128).trans hz172
  have hz188 := (rz184 _ ne116 ne129).trans hz173
  have hz189 := (rz184 _ ne117 ne130).trans hz174
  have hz190 := (rz184 _ ne118 ne131).trans hz175
  have hz191 := (rz184 _ ne119 ne132).trans hz176
  have hz192 := (rz184 _ ne124 ne137).trans hz177
  have hz193 := (rz184 _ ne123 ne136).trans hz180
  have hz194 := (rz184 _ ne120 ne133).trans hz166
  have hz195 := (rz184 _ ne121 ne134).trans hz167
  have hz196 := (rz184 _ ne122 ne135).trans hz168
  have hF := fun w9 e (hb : f w9 = some e) (hn0 : w9 ≠ x) => (rz184 w9 (ne_none hb fo112) (ne_none hb fo125)).trans (hF w9 e hb hn0)
  refine lv_aload_n hx hb dX2_init_45 rfl (lv_at hl 0 rfl) ?_
  refine lv_aload_n hx hb dX2_init_46 rfl (lv_at hl 2 rfl) ?_
  refine mm_get (C := RX0) (T := TX0) (N := 9) (k := 0) hx hb hts (fun _ h => List.mem_cons_of_mem _ (List.mem_append_right _ h)) hown hK hM hz188 rfl (by decide) (hts (.fieldLink RX2 35 "SentenceRules$Reader" "about" "I") (List.mem_of_getElem? (i := 13) rfl)) rfl rfl dX2_init_47 ?_
  refine mm_putF (C := RX2) (T := TX2) (N := 5) (k := 2) hx hb hts (fun _ h => List.mem_cons_of_mem _ (List.mem_append_left _ (List.mem_append_left _ (List.mem_append_right _ h)))) tyX2 tyX2_ok nmX2 hown hK hM hz193 rfl (by decide) (hts (.fieldLink RX2 39 "SentenceRules$Sentence" "about" "I") (List.mem_of_getElem? (i := 14) rfl)) rfl rfl hname rfl rfl rfl (Nat.le_of_ble_eq_true rfl) dX2_init_50 (fun Hp lcs hM => ?_)
  obtain ⟨gz197, hM, hz198, rz199⟩ := hM.up
  have hz200 := (rz199 _ (ne_oo hz185 hz193 (by show (5 : Nat) ≠ 3; decide))).trans hz185
  have hz201 := (rz199 _ (ne_oi hz193 hz186).symm).trans hz186
  have hz202 := (rz199 _ (ne_oi hz193 hz187).symm).trans hz187
  have hz203 := (rz199 _ (ne_oo hz188 hz193 (by show (1 : Nat) ≠ 3; decide))).trans hz188
  have hz204 := (rz199 _ (ne_oo hz189 hz193 (by show (2 : Nat) ≠ 3; decide))).trans hz189
  have hz205 := (rz199 _ (ne_oi hz193 hz190).symm).trans hz190
  have hz206 := (rz199 _ (ne_oi hz193 hz191).symm).trans hz191
  have hz207 := (rz199 _ (Ne.symm ne100)).trans hz192
  have hz208 := (rz199 _ (Ne.symm ne7)).trans hz194
  have hz209 := (rz199 _ (Ne.symm ne34)).trans hz195
  have hz210 := (rz199 _ (Ne.symm ne44)).trans hz196
  have hz211 := (rz199 _ (Ne.symm ne123)).trans hz182
  have hz212 := (rz199 _ (Ne.symm ne136)).trans hz183
  have hF := fun w9 e (hb : f w9 = some e) (hn0 : w9 ≠ x) => (rz199 w9 hn0).trans (hF w9 e hb hn0)
  refine lv_aload_n hx hb dX2_init_53 rfl (lv_at hl 0 rfl) ?_
  refine lv_aload_n hx hb dX2_init_54 rfl (lv_at hl 2 rfl) ?_
  refine mm_get (C := RX0) (T := TX0) (N := 9) (k := 1) hx hb hts (fun _ h => List.mem_cons_of_mem _ (List.mem_append_right _ h)) hown hK hM hz203 rfl (by decide) (hts (.fieldLink RX2 40 "SentenceRules$Reader" "given" "I") (List.mem_of_getElem? (i := 15) rfl)) rfl rfl dX2_init_55 ?_
  refine mm_putF (C := RX2) (T := TX2) (N := 5) (k := 3) hx hb hts (fun _ h => List.mem_cons_of_mem _ (List.mem_append_left _ (List.mem_append_left _ (List.mem_append_right _ h)))) tyX2 tyX2_ok nmX2 hown hK hM hz198 rfl (by decide) (hts (.fieldLink RX2 43 "SentenceRules$Sentence" "given" "I") (List.mem_of_getElem? (i := 16) rfl)) rfl rfl hname rfl rfl rfl (Nat.le_of_ble_eq_true rfl) dX2_init_58 (fun Hp lcs hM => ?_)
  obtain ⟨gz213, hM, hz214, rz215⟩ := hM.up
  have hz216 := (rz215 _ (ne_oo hz200 hz198 (by show (5 : Nat) ≠ 3; decide))).trans hz200
  have hz217 := (rz215 _ (ne_oi hz198 hz201).symm).trans hz201
  have hz218 := (rz215 _ (ne_oi hz198 hz202).symm).trans hz202
  have hz219 := (rz215 _ (ne_oo hz203 hz198 (by show (1 : Nat) ≠ 3; decide))).trans hz203
  have hz220 := (rz215 _ (ne_oo hz204 hz198 (by show (2 : Nat) ≠ 3; decide))).trans hz204
  have hz221 := (rz215 _ (ne_oi hz198 hz205).symm).trans hz205
  have hz222 := (rz215 _ (ne_oi hz198 hz206).symm).trans hz206
  have hz223 := (rz215 _ (Ne.symm ne100)).trans hz207
  have hz224 := (rz215 _ (Ne.symm ne7)).trans hz208
  have hz225 := (rz215 _ (Ne.symm ne34)).trans hz209
  have hz226 := (rz215 _ (Ne.symm ne44)).trans hz210
  have hz227 := (rz215 _ (Ne.symm ne123)).trans hz211
  have hz228 := (rz215 _ (Ne.symm ne136)).trans hz212
  have hF := fun w9 e (hb : f w9 = some e) (hn0 : w9 ≠ x) => (rz215 w9 hn0).trans (hF w9 e hb hn0)
  refine lv_aload_n hx hb dX2_init_61 rfl (lv_at hl 0 rfl) ?_
  refine lv_aload_n hx hb dX2_init_62 rfl (lv_at hl 2 rfl) ?_
  refine mm_get (C := RX0) (T := TX0) (N := 9) (k := 2) hx hb hts (fun _ h => List.mem_cons_of_mem _ (List.mem_append_right _ h)) hown hK hM hz219 rfl (by decide) (hts (.fieldLink RX2 44 "SentenceRules$Reader" "used" "I") (List.mem_of_getElem? (i := 17) rfl)) rfl rfl dX2_init_63 ?_
  refine mm_putF (C := RX2) (T := TX2) (N := 5) (k := 4) hx hb hts (fun _ h => List.mem_cons_of_mem _ (List.mem_append_left _ (List.mem_append_left _ (List.mem_append_right _ h)))) tyX2 tyX2_ok nmX2 hown hK hM hz214 rfl (by decide) (hts (.fieldLink RX2 47 "SentenceRules$Sentence" "used" "I") (List.mem_of_getElem? (i := 18) rfl)) rfl rfl hname rfl rfl rfl (Nat.le_of_ble_eq_true rfl) dX2_init_66 (fun Hp lcs hM => ?_)
  obtain ⟨gz229, hM, hz230, rz231⟩ := hM.up
  have hz232 := (rz231 _ (ne_oo hz216 hz214 (by show (5 : Nat) ≠ 3; decide))).trans hz216
  have hz233 := (rz231 _ (ne_oi hz214 hz217).symm).trans hz217
  have hz234 := (rz231 _ (ne_oi hz214 hz218).symm).trans hz218
  have hz235 := (rz231 _ (ne_oo hz219 hz214 (by show (1 : Nat) ≠ 3; decide))).trans hz219
  have hz236 := (rz231 _ (ne_oo hz220 hz214 (by show (2 : Nat) ≠ 3; decide))).trans hz220
  have hz237 := (rz231 _ (ne_oi hz214 hz221).symm).trans hz221
  have hz238 := (rz231 _ (ne_oi hz214 hz222).symm).trans hz222
  have hz239 := (rz231 _ (Ne.symm ne100)).trans hz223
  have hz240 := (rz231 _ (Ne.symm ne7)).trans hz224
  have hz241 := (rz231 _ (Ne.symm ne34)).trans hz225
  have hz242 := (rz231 _ (Ne.symm ne44)).trans hz226
  have hz243 := (rz231 _ (Ne.symm ne123)).trans hz227
  have hz244 := (rz231 _ (Ne.symm ne136)).trans hz228
  have hF := fun w9 e (hb : f w9 = some e) (hn0 : w9 ≠ x) => (rz231 w9 hn0).trans (hF w9 e hb hn0)
  exact mm_vret hx hb hlocks hr (Nat.le_of_ble_eq_true rfl) (Nat.le_of_ble_eq_true rfl) hM (⟨rfl, qz1, qz24, qz25, qz74, qz103, qz104, fo6, fo33, fo43, fo79, fo112, fo125, hz230, hz240, hz241, hz242, hz239, hz243, hz244, hF⟩) dX2_init_69
set_option maxHeartbeats 4000000 in
set_option maxRecDepth 100000 in
theorem c3_copyFrom (l : Launch) (G : mG) {f : mE} {q0 b fc pr ka va n cn : Nat} {B : Nat → Option Nat} {g K Vv : Nat → Int32} (h_q0 : f q0 = some (.inr (4, [.int (nI n), .ref b, .ref fc, .ref pr]))) (h_b : f b = some (mQ G 2 16 B)) (h_fc : f fc = some (mI G 7 g)) (h_pr : f pr = some (.inr (5, [.int (nI cn), .ref ka, .ref va]))) (h_ka : f ka = some (mI G 24 K)) (h_va : f va = some (mI G 24 Vv)) {y0 yb yf yr yk yv n1 cn1 : Nat} {B1 : Nat → Option Nat} {g1 K1 V1 : Nat → Int32} (h_y0 : f y0 = some (.inr (4, [.int (nI n1), .ref yb, .ref yf, .ref yr]))) (h_yb : f yb = some (mQ G 2 16 B1)) (h_yf : f yf = some (mI G 7 g1)) (h_yr : f yr = some (.inr (5, [.int (nI cn1), .ref yk, .ref yv]))) (h_yk : f yk = some (mI G 24 K1)) (h_yv : f yv = some (mI G 24 V1)) (d0 : y0 ≠ q0) (d1 : yb ≠ b) (d2 : yf ≠ fc) (d3 : yr ≠ pr) (d4 : ka ≠ va) (d5 : yk ≠ ka) (d6 : yk ≠ va) (d7 : yv ≠ ka) (d8 : yv ≠ va) (hB1 : ∀ i x, i < 16 → B1 i = some x → ∃ vs, f x = some (.inr (3, vs))) : mC l G yX3_copyFrom wsX3_copyFrom ({ frames := 2, cells := 0, slots := 0, locals := 47 } : Room) f [.ref q0, .ref y0] (fun v f1 => v = none ∧ f1 q0 = some (.inr (4, [.int (nI n1), .ref b, .ref fc, .ref pr])) ∧ f1 b = some (mQ G 2 16 (copB B1 B 16)) ∧ f1 fc = some (mI G 7 (va_cpy g1 g 0 0 7)) ∧ f1 pr = some (.inr (5, [.int (nI cn1), .ref ka, .ref va])) ∧ f1 ka = some (mI G 24 (va_cpy K1 K 0 0 24)) ∧ f1 va = some (mI G 24 (va_cpy V1 Vv 0 0 24)) ∧ ∀ c e, f c = some e → c ≠ q0 → c ≠ b → c ≠ fc → c ≠ pr → c ≠ ka → c ≠ va → f1 c = some e) 0 0 := by
  refine mC.of (cc := cX3_copyFrom) (maxL := 3) (ret := none) (by decide) rfl (Nat.le_of_ble_eq_true rfl) ?_
  intro pgm env s mt args below meth c A ls hx hb hml hr hlocks hown hname hts hK hE hA hM hl
  have hl : lv_has ls 3 [(0, .ref q0), (1, .ref y0)] := hl
  have hF := fun w9 e (hb : f w9 = some e) (_ : w9 ≠ q0) (_ : w9 ≠ b) (_ : w9 ≠ fc) (_ : w9 ≠ pr) (_ : w9 ≠ ka) (_ : w9 ≠ va) => hb
  refine lv_aload_n hx hb dX3_copyFrom_0 rfl (lv_at hl 0 rfl) ?_
  refine lv_aload_n hx hb dX3_copyFrom_1 rfl (lv_at hl 1 rfl) ?_
  refine mm_get (C := RX3) (T := TX3) (N := 4) (k := 0) hx hb hts (fun _ h => List.mem_cons_of_mem _ (List.mem_append_left _ (List.mem_append_right _ h))) hown hK hM h_y0 rfl (by decide) (hts (.fieldLink RX3 29 "SentenceRules$State" "sentenceCount" "I") (List.mem_of_getElem? (i := 1) rfl)) rfl rfl dX3_copyFrom_2 ?_
  refine mm_put (C := RX3) (T := TX3) (N := 4) (k := 0) hx hb hts (fun _ h => List.mem_cons_of_mem _ (List.mem_append_left _ (List.mem_append_right _ h))) tyX3 tyX3_ok nmX3 hown hK hM h_q0 rfl (by decide) (hts (.fieldLink RX3 29 "SentenceRules$State" "sentenceCount" "I") (List.mem_of_getElem? (i := 1) rfl)) rfl rfl rfl rfl (Nat.le_of_ble_eq_true rfl) dX3_copyFrom_5 (fun Hp lcs hM => ?_)
  obtain ⟨gz1, hM, hz2, rz3⟩ := hM.up
  have hz4 := (rz3 _ (ne_oi h_q0 h_b).symm).trans h_b
  have hz5 := (rz3 _ (ne_oi h_q0 h_fc).symm).trans h_fc
  have hz6 := (rz3 _ (ne_oo h_pr h_q0 (by show (5 : Nat) ≠ 4; decide))).trans h_pr
  have hz7 := (rz3 _ (ne_oi h_q0 h_ka).symm).trans h_ka
  have hz8 := (rz3 _ (ne_oi h_q0 h_va).symm).trans h_va
  have hz9 := (rz3 _ d0).trans h_y0
  have hz10 := (rz3 _ (ne_oi h_q0 h_yb).symm).trans h_yb
  have hz11 := (rz3 _ (ne_oi h_q0 h_yf).symm).trans h_yf
  have hz12 := (rz3 _ (ne_oo h_yr h_q0 (by show (5 : Nat) ≠ 4; decide))).trans h_yr
  have hz13 := (rz3 _ (ne_oi h_q0 h_yk).symm).trans h_yk
  have hz14 := (rz3 _ (ne_oi h_q0 h_yv).symm).trans h_yv
  have hF := fun w9 e (hb : f w9 = some e) (hn0 : w9 ≠ q0) (hn1 : w9 ≠ b) (hn2 : w9 ≠ fc) (hn3 : w9 ≠ pr) (hn4 : w9 ≠ ka) (hn5 : w9 ≠ va) => (rz3 w9 hn0).trans (hF w9 e hb hn0 hn1 hn2 hn3 hn4 hn5)
  have hF0 : ∀ c e, f c = some e → c ≠ q0 → _ := fun c e hb hn => (rz3 c hn).trans hb
  refine lv_iconst (v := (nI 0)) hx hb dX3_copyFrom_8 (by decide +kernel) ?_
  refine lv_istore_n (lv' := [(2, .int (nI 0)), (0, .ref q0), (1, .ref y0)]) hx hb dX3_copyFrom_9 rfl hl (by decide) rfl (fun ls hl => ?_)
  have loopZ : ∀ (fuel : Nat) (i : Nat) (fz : mE) (Hp : Heap) (lcs : List Loc) (ls : Array Slot) (hiN : i ≤ 16) (z_q0 : fz q0 = some (.inr (4, [.int (nI n1), .ref b, .ref fc, .ref pr]))) (z_b : fz b = some (mQ G 2 16 (copB B1 B i))) (z_F : ∀ c e, f c = some e → c ≠ q0 → c ≠ b → fz c = some e) (hfu : 16 - i < fuel) (hM : mM G A s.heap fz Hp lcs) (hl : lv_has ls 3 [(0, .ref q0), (1, .ref y0), (2, .int (nI i))]), W pgm l env ({ frames := 2, cells := 0, slots := 0, locals := 47 } : Room) s mt args below meth c Hp lcs 0 0 (MQ below (mQc G A (fun v f1 => v = none ∧ f1 q0 = some (.inr (4, [.int (nI n1), .ref b, .ref fc, .ref pr])) ∧ f1 b = some (mQ G 2 16 (copB B1 B 16)) ∧ f1 fc = some (mI G 7 (va_cpy g1 g 0 0 7)) ∧ f1 pr = some (.inr (5, [.int (nI cn1), .ref ka, .ref va])) ∧ f1 ka = some (mI G 24 (va_cpy K1 K 0 0 24)) ∧ f1 va = some (mI G 24 (va_cpy V1 Vv 0 0 24)) ∧ ∀ c e, f c = some e → c ≠ q0 → c ≠ b → c ≠ fc → c ≠ pr → c ≠ ka → c ≠ va → f1 c = some e)) args s 0 0 A) (F0 mt 10 ls []) := by
    intro fuel
    induction fuel with
    | zero => intro i fz Hp lcs ls hiN z_q0 z_b z_F hfu; exact absurd hfu (Nat.not_lt_zero _)
    | succ fuel ih =>
      intro i fz Hp lcs ls hiN z_q0 z_b z_F hfu hM hl
      have z_fc := z_F fc _ h_fc (ne_oi h_q0 h_fc).symm (ne_QI h_b h_fc).symm
      have z_pr := z_F pr _ h_pr (ne_oo h_pr h_q0 (by show (5 : Nat) ≠ 4; decide)) (ne_oi h_pr h_b)
      have z_ka := z_F ka _ h_ka (ne_oi h_q0 h_ka).symm (ne_QI h_b h_ka).symm
      have z_va := z_F va _ h_va (ne_oi h_q0 h_va).symm (ne_QI h_b h_va).symm
      have z_y0 := z_F y0 _ h_y0 d0 (ne_oi h_y0 h_b)
      have z_yb := z_F yb _ h_yb (ne_oi h_q0 h_yb).symm d1
      have z_yf := z_F yf _ h_yf (ne_oi h_q0 h_yf).symm (ne_QI h_b h_yf).symm
      have z_yr := z_F yr _ h_yr (ne_oo h_yr h_q0 (by show (5 : Nat) ≠ 4; decide)) (ne_oi h_yr h_b)
      have z_yk := z_F yk _ h_yk (ne_oi h_q0 h_yk).symm (ne_QI h_b h_yk).symm
      have z_yv := z_F yv _ h_yv (ne_oi h_q0 h_yv).symm (ne_QI h_b h_yv).symm
      have hF : ∀ w9 e, f w9 = some e → w9 ≠ q0 → w9 ≠ b → w9 ≠ fc → w9 ≠ pr → w9 ≠ ka → w9 ≠ va → fz w9 = some e := fun c e hb hn0 hn1 _ _ _ _ => z_F c e hb hn0 hn1
      refine lv_iload_n hx hb dX3_copyFrom_10 rfl (lv_at hl 2 rfl) ?_
      refine lv_bipush (v := (nI 16)) hx hb dX3_copyFrom_11 (by decide +kernel) ?_
      refine ln_icmp_ge i 16 (by omega) (by omega) (tgt := 34) hx hb dX3_copyFrom_13 (by decide) (fun cz15 => ?_) (fun cz15 => ?_)
      · have hz16 : i = 16 := (by omega)
        subst hz16
        have hF : ∀ b_1 e, f b_1 = some e → b_1 ≠ q0 → b_1 ≠ b → b_1 ≠ fc → b_1 ≠ pr → b_1 ≠ ka → b_1 ≠ va → fz b_1 = some e := fun c e hb hn0 hn1 _ _ _ _ => z_F c e hb hn0 hn1
        refine lv_aload_n hx hb dX3_copyFrom_34 rfl (lv_at hl 1 rfl) ?_
        refine mm_get (C := RX3) (T := TX3) (N := 4) (k := 2) hx hb hts (fun _ h => List.mem_cons_of_mem _ (List.mem_append_left _ (List.mem_append_right _ h))) hown hK hM z_y0 rfl (by decide) (hts (.fieldLink RX3 17 "SentenceRules$State" "facts" "[I") (List.mem_of_getElem? (i := 3) rfl)) rfl rfl dX3_copyFrom_35 ?_
        refine lv_iconst (v := (nI 0)) hx hb dX3_copyFrom_38 (by decide +kernel) ?_
        refine lv_aload_n hx hb dX3_copyFrom_39 rfl (lv_at hl 0 rfl) ?_
        refine mm_get (C := RX3) (T := TX3) (N := 4) (k := 2) hx hb hts (fun _ h => List.mem_cons_of_mem _ (List.mem_append_left _ (List.mem_append_right _ h))) hown hK hM z_q0 rfl (by decide) (hts (.fieldLink RX3 17 "SentenceRules$State" "facts" "[I") (List.mem_of_getElem? (i := 3) rfl)) rfl rfl dX3_copyFrom_40 ?_
        refine lv_iconst (v := (nI 0)) hx hb dX3_copyFrom_43 (by decide +kernel) ?_
        refine lv_bipush (v := (nI 7)) hx hb dX3_copyFrom_44 (by decide +kernel) ?_
        refine mm_copyI hx hb (by rw [hml]; exact hl.1.symm) hown (hts (.methodLink RX3 33 arraycopyName) (List.mem_of_getElem? (i := 4) rfl)) (hts (.native arraycopyName) (List.mem_of_getElem? (i := 5) rfl)) (hts (.static arraycopyName) (List.mem_of_getElem? (i := 6) rfl)) (hts (.initialized "java/lang/System") (List.mem_of_getElem? (i := 7) rfl)) hK hM z_yf z_fc 0 0 7 (by decide) (by decide) (by decide) (by decide) (Nat.le_of_ble_eq_true rfl) (Nat.le_of_ble_eq_true rfl) (Nat.le_of_ble_eq_true rfl) dX3_copyFrom_46 (fun Hp lcs hM => ?_)
        obtain ⟨gz16, hM, hz17, rz18⟩ := hM.up
        have hz19 := (rz18 _ (ne_oi z_q0 z_fc)).trans z_q0
        have hz20 := (rz18 _ (ne_QI z_b z_fc)).trans z_b
        have hz21 := (rz18 _ (ne_oi z_pr z_fc)).trans z_pr
        have hz22 := (rz18 _ (ne_len z_ka z_fc (by decide))).trans z_ka
        have hz23 := (rz18 _ (ne_len z_va z_fc (by decide))).trans z_va
        have hz24 := (rz18 _ (ne_oi z_y0 z_fc)).trans z_y0
        have hz25 := (rz18 _ (ne_QI z_yb z_fc)).trans z_yb
        have hz26 := (rz18 _ d2).trans z_yf
        have hz27 := (rz18 _ (ne_oi z_yr z_fc)).trans z_yr
        have hz28 := (rz18 _ (ne_len z_yk z_fc (by decide))).trans z_yk
        have hz29 := (rz18 _ (ne_len z_yv z_fc (by decide))).trans z_yv
        have hF := fun w9 e (hb : f w9 = some e) (hn0 : w9 ≠ q0) (hn1 : w9 ≠ b) (hn2 : w9 ≠ fc) (hn3 : w9 ≠ pr) (hn4 : w9 ≠ ka) (hn5 : w9 ≠ va) => (rz18 w9 hn2).trans (hF w9 e hb hn0 hn1 hn2 hn3 hn4 hn5)
        refine lv_aload_n hx hb dX3_copyFrom_49 rfl (lv_at hl 0 rfl) ?_
        refine mm_get (C := RX3) (T := TX3) (N := 4) (k := 3) hx hb hts (fun _ h => List.mem_cons_of_mem _ (List.mem_append_left _ (List.mem_append_right _ h))) hown hK hM hz19 rfl (by decide) (hts (.fieldLink RX3 24 "SentenceRules$State" "present" "LSentenceRules$Tokens;") (List.mem_of_getElem? (i := 8) rfl)) rfl rfl dX3_copyFrom_50 ?_
        refine lv_aload_n hx hb dX3_copyFrom_53 rfl (lv_at hl 1 rfl) ?_
        refine mm_get (C := RX3) (T := TX3) (N := 4) (k := 3) hx hb hts (fun _ h => List.mem_cons_of_mem _ (List.mem_append_left _ (List.mem_append_right _ h))) hown hK hM hz24 rfl (by decide) (hts (.fieldLink RX3 24 "SentenceRules$State" "present" "LSentenceRules$Tokens;") (List.mem_of_getElem? (i := 8) rfl)) rfl rfl dX3_copyFrom_54 ?_
        refine mm_V (As := [.ref yr]) (rest := []) ⟨hx, hb, hml, hown, hts⟩ (c4_copyFrom l G hz21 hz22 hz23 hz27 hz28 hz29 d3 d4 d5 d6 d7 d8) (cwV 1 hts gX3_copyFrom_X4_copyFrom rfl rfl rfl (by decide +kernel) ⟨Nat.le_of_ble_eq_true rfl, Nat.le_of_ble_eq_true rfl⟩) hK hE hA hM (mm_recv hK hM hz21 (q := (RX4, TX4, 3)) rfl) rfl hl.1 rfl (Nat.le_of_ble_eq_true rfl) dX3_copyFrom_57 ⟨Nat.le_of_ble_eq_true rfl, Nat.le_of_ble_eq_true rfl⟩ (fun v gz30 Hp lcs hp hM => ?_)
        obtain ⟨rfl, hz31, hz32, hz33, rz34⟩ := hp
        have hz35 := (rz34 _ (ne_oo hz19 hz21 (by show (4 : Nat) ≠ 5; decide)) (ne_oi hz19 hz22) (ne_oi hz19 hz23)).trans hz19
        have hz36 := (rz34 _ (ne_oi hz21 hz20).symm (ne_QI hz20 hz22) (ne_QI hz20 hz23)).trans hz20
        have hz37 := (rz34 _ (ne_oo hz24 hz21 (by show (4 : Nat) ≠ 5; decide)) (ne_oi hz24 hz22) (ne_oi hz24 hz23)).trans hz24
        have hz38 := (rz34 _ (ne_oi hz21 hz25).symm (ne_QI hz25 hz22) (ne_QI hz25 hz23)).trans hz25
        have hz39 := (rz34 _ (ne_oi hz21 hz26).symm (ne_len hz26 hz22 (by decide)) (ne_len hz26 hz23 (by decide))).trans hz26
        have hz40 := (rz34 _ d3 (ne_oi hz27 hz22) (ne_oi hz27 hz23)).trans hz27
        have hz41 := (rz34 _ (ne_oi hz21 hz28).symm d5 d6).trans hz28
        have hz42 := (rz34 _ (ne_oi hz21 hz29).symm d7 d8).trans hz29
        have hz43 := (rz34 _ (ne_oi hz21 hz17).symm (ne_len hz17 hz22 (by decide)) (ne_len hz17 hz23 (by decide))).trans hz17
        have hF := fun w9 e (hb : f w9 = some e) (hn0 : w9 ≠ q0) (hn1 : w9 ≠ b) (hn2 : w9 ≠ fc) (hn3 : w9 ≠ pr) (hn4 : w9 ≠ ka) (hn5 : w9 ≠ va) => (rz34 w9 hn3 hn4 hn5).trans (hF w9 e hb hn0 hn1 hn2 hn3 hn4 hn5)
        exact mm_vret hx hb hlocks hr (Nat.le_of_ble_eq_true rfl) (Nat.le_of_ble_eq_true rfl) hM (⟨rfl, hz35, hz36, hz43, hz31, hz32, hz33, hF⟩) dX3_copyFrom_60
      refine lv_aload_n hx hb dX3_copyFrom_16 rfl (lv_at hl 0 rfl) ?_
      refine mm_get (C := RX3) (T := TX3) (N := 4) (k := 1) hx hb hts (fun _ h => List.mem_cons_of_mem _ (List.mem_append_left _ (List.mem_append_right _ h))) hown hK hM z_q0 rfl (by decide) (hts (.fieldLink RX3 11 "SentenceRules$State" "book" "[LSentenceRules$Sentence;") (List.mem_of_getElem? (i := 2) rfl)) rfl rfl dX3_copyFrom_17 ?_
      refine lv_iload_n hx hb dX3_copyFrom_20 rfl (lv_at hl 2 rfl) ?_
      refine lv_aload_n hx hb dX3_copyFrom_21 rfl (lv_at hl 1 rfl) ?_
      refine mm_get (C := RX3) (T := TX3) (N := 4) (k := 1) hx hb hts (fun _ h => List.mem_cons_of_mem _ (List.mem_append_left _ (List.mem_append_right _ h))) hown hK hM z_y0 rfl (by decide) (hts (.fieldLink RX3 11 "SentenceRules$State" "book" "[LSentenceRules$Sentence;") (List.mem_of_getElem? (i := 2) rfl)) rfl rfl dX3_copyFrom_22 ?_
      refine lv_iload_n hx hb dX3_copyFrom_25 rfl (lv_at hl 2 rfl) ?_
      refine mm_aldS hx hb hK hM z_yb (vp_in_nI (by omega) (by decide)) dX3_copyFrom_26 ?_
      rw [nI_clamp (by omega)]
      rcases opt_cases (B1 i) with hbi | ⟨xz, hbi⟩
      · refine mv_val (y := .null) (by rw [hbi]; rfl) ?_
        refine mm_astSN hx hb hK hM z_b i (by omega) (by decide) dX3_copyFrom_27 (fun Hp lcs hM => ?_)
        obtain ⟨gz44, hM, hz45, rz46⟩ := hM.up
        have hz47 := (rz46 _ (ne_oi z_q0 z_b)).trans z_q0
        have hz48 := (rz46 _ (ne_QI z_b z_fc).symm).trans z_fc
        have hz49 := (rz46 _ (ne_oi z_pr z_b)).trans z_pr
        have hz50 := (rz46 _ (ne_QI z_b z_ka).symm).trans z_ka
        have hz51 := (rz46 _ (ne_QI z_b z_va).symm).trans z_va
        have hz52 := (rz46 _ (ne_oi z_y0 z_b)).trans z_y0
        have hz53 := (rz46 _ d1).trans z_yb
        have hz54 := (rz46 _ (ne_QI z_b z_yf).symm).trans z_yf
        have hz55 := (rz46 _ (ne_oi z_yr z_b)).trans z_yr
        have hz56 := (rz46 _ (ne_QI z_b z_yk).symm).trans z_yk
        have hz57 := (rz46 _ (ne_QI z_b z_yv).symm).trans z_yv
        have hF := fun w9 e (hb : f w9 = some e) (hn0 : w9 ≠ q0) (hn1 : w9 ≠ b) (hn2 : w9 ≠ fc) (hn3 : w9 ≠ pr) (hn4 : w9 ≠ ka) (hn5 : w9 ≠ va) => (rz46 w9 hn1).trans (hF w9 e hb hn0 hn1 hn2 hn3 hn4 hn5)
        have hlf := fun c e hc (hn : c ≠ b) => (rz46 c hn).trans (hc : _ = some e)
        refine lv_iinc (v := (nI (i + 1))) (lv' := [(2, .int (nI (i + 1))), (0, .ref q0), (1, .ref y0)]) hx hb dX3_copyFrom_28 hl (k := 2) rfl (nI_add _ _) (by decide) rfl (fun ls hl => ?_)
        refine lv_goto (tgt := 10) hx hb dX3_copyFrom_31 (by decide) ?_
        exact ih (i + 1) _ _ _ ls (by omega) hz47 (by rw [hz45, copB_s hbi]) (fun c e hb hn0 hn1 => hlf c e (z_F c e hb hn0 hn1) hn1) (by omega) hM (lv_sub hl [1, 2, 0] rfl)
      · refine mv_val (y := .ref xz) (by rw [hbi]; rfl) ?_
        obtain ⟨vsz, hxz⟩ := hB1 i xz (by omega) hbi
        have hxz2 := z_F xz _ hxz (ne_oo hxz h_q0 (by show (3 : Nat) ≠ 4; decide)) (ne_oi hxz h_b)
        refine mm_astS hx hb hK hM z_b hxz2 i (by omega) (by decide) dX3_copyFrom_27 (fun Hp lcs hM => ?_)
        obtain ⟨gz58, hM, hz59, rz60⟩ := hM.up
        have hz61 := (rz60 _ (ne_oi z_q0 z_b)).trans z_q0
        have hz62 := (rz60 _ (ne_QI z_b z_fc).symm).trans z_fc
        have hz63 := (rz60 _ (ne_oi z_pr z_b)).trans z_pr
        have hz64 := (rz60 _ (ne_QI z_b z_ka).symm).trans z_ka
        have hz65 := (rz60 _ (ne_QI z_b z_va).symm).trans z_va
        have hz66 := (rz60 _ (ne_oi z_y0 z_b)).trans z_y0
        have hz67 := (rz60 _ d1).trans z_yb
        have hz68 := (rz60 _ (ne_QI z_b z_yf).symm).trans z_yf
        have hz69 := (rz60 _ (ne_oi z_yr z_b)).trans z_yr
        have hz70 := (rz60 _ (ne_QI z_b z_yk).symm).trans z_yk
        have hz71 := (rz60 _ (ne_QI z_b z_yv).symm).trans z_yv
        have hF := fun w9 e (hb : f w9 = some e) (hn0 : w9 ≠ q0) (hn1 : w9 ≠ b) (hn2 : w9 ≠ fc) (hn3 : w9 ≠ pr) (hn4 : w9 ≠ ka) (hn5 : w9 ≠ va) => (rz60 w9 hn1).trans (hF w9 e hb hn0 hn1 hn2 hn3 hn4 hn5)
        have hlf := fun c e hc (hn : c ≠ b) => (rz60 c hn).trans (hc : _ = some e)
        refine lv_iinc (v := (nI (i + 1))) (lv' := [(2, .int (nI (i + 1))), (0, .ref q0), (1, .ref y0)]) hx hb dX3_copyFrom_28 hl (k := 2) rfl (nI_add _ _) (by decide) rfl (fun ls hl => ?_)
        refine lv_goto (tgt := 10) hx hb dX3_copyFrom_31 (by decide) ?_
        exact ih (i + 1) _ _ _ ls (by omega) hz61 (by rw [hz59, copB_s hbi]) (fun c e hb hn0 hn1 => hlf c e (z_F c e hb hn0 hn1) hn1) (by omega) hM (lv_sub hl [1, 2, 0] rfl)
  exact loopZ 17 0 _ _ _ ls (Nat.zero_le _) hz2 (by rw [copB_0]; exact hz4) (fun c e hb hn0 hn1 => hF0 c e hb hn0) (by omega) hM (lv_sub hl [1, 2, 0] rfl)
