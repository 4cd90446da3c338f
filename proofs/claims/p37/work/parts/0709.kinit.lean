/-! THE CLASS: made -/
def S00 : Nat → Int32 := upd (fun _ => 0) 6 (nI 36524)
theorem VSn00 : VSn S00 0 0 := by
  have e : ∀ j, j ≠ 6 → S00 j = 0 := fun j h => by unfold S00; exact updN h
  refine ⟨e 56 (by decide), by decide, e 7 (by decide), by decide, fun j hj => absurd hj (Nat.not_lt_zero j), fun j hj => absurd hj (Nat.not_lt_zero j), fun j hj => ?_⟩
  by_cases h : j = 6
  · subst h; unfold S00; rw [updE rfl]; decide
  · rw [e j h]; decide
def T0x (q0 b fc pr ka va rd r p q sp rr sb z o : Nat) (c : Nat) : Nat := if c = q0 ∨ c = b ∨ c = fc ∨ c = pr ∨ c = ka ∨ c = va then q0 + 1 else if c = rd ∨ c = r ∨ c = p ∨ c = q then rd + 1 else if c = sp then sp + 1 else if c = rr then rr + 1 else if c = sb ∨ c = z then sb + 1 else o + 1
set_option maxHeartbeats 4000000 in
set_option maxRecDepth 100000 in
theorem k_init (l : Launch) (G : mG) {f : mE} {o : Nat} (ho : f o = some (.inr (6, [.null, .null, .int 0, .null, .null, .null, .null]))) : mC l G yX5_init wsX5_init ({ frames := 3, cells := 15, slots := 160, locals := 61 } : Room) f [.ref o] (fun v f1 => v = none ∧ CI G f1 o S00 (fun _ => 0) 0) 15 160 := by
  refine mC.of (cc := cX5_init) (maxL := 1) (ret := none) (by decide) rfl (Nat.le_of_ble_eq_true rfl) ?_
  intro pgm env s mt args below meth c A ls hx hb hml hr hlocks hown hname hts hK hE hA hM hl
  have hl : lv_has ls 1 [(0, .ref o)] := hl
  have hF := fun w9 e (hb : f w9 = some e) (_ : w9 ≠ o) => hb
  refine lv_aload_n hx hb dX5_init_0 rfl (lv_at hl 0 rfl) ?_
  refine W.objInit hx hb hown (hts (.methodLink RX5 3 objectInit) (List.mem_of_getElem? (i := 1) rfl)) (hts (.instanceMethod objectInit) (List.mem_of_getElem? (i := 2) rfl)) (hts _ (List.mem_of_getElem? (i := 3) rfl)) rfl (by rw [hml]; exact hl.1) rfl dX5_init_1 (Nat.le_of_ble_eq_true rfl) (Nat.le_of_ble_eq_true rfl) ?_
  refine W.eq (g2 := F0 mt 4 ls []) rfl ?_
  refine lv_aload_n hx hb dX5_init_4 rfl (lv_at hl 0 rfl) ?_
  refine mm_new (C := RX3) (T := TX3) (N := 4) (ci := 4) hx hb hts (fun _ h => List.mem_cons_of_mem _ (List.mem_append_left _ (List.mem_append_left _ (List.mem_append_left _ (List.mem_append_left _ (List.mem_append_left _ (List.mem_append_right _ h))))))) tyX3_ok hown (hts (.classLink RX5 9 RX3) (List.mem_of_getElem? (i := 4) rfl)) (hts (.instantiable RX3 4) (List.mem_of_getElem? (i := 5) rfl)) (hts (.initialized RX3) (List.mem_of_getElem? (i := 6) rfl)) hK hM hA rfl [.int 0, .null, .null, .null] (by decide) (Nat.le_of_ble_eq_true rfl) (Nat.le_of_ble_eq_true rfl) dX5_init_5 (fun qz1 Hp nz2 hM => ?_)
  obtain ⟨gz3, hM, hz4, rz5⟩ := hM.up
  have fo6 : f qz1 = none := fresh_of (fun e hb => hF qz1 e hb (ne_none ho nz2).symm) nz2
  have hF := fun w9 e (hb : f w9 = some e) (hn0 : w9 ≠ o) => (rz5 w9 (ne_none (hF w9 e hb hn0) nz2)).trans (hF w9 e hb hn0)
  have ne7 := ne_none ho nz2
  have hz8 := (rz5 _ ne7).trans ho
  refine lv_dup hx hb dX5_init_8 rfl ?_
  refine mm_I (As := []) (rest := [.ref qz1, .ref o]) ⟨hx, hb, hml, hown, hts⟩ (c3_init l G hz4) (cwI 0 hts gX5_init_X3_init rfl rfl rfl (hts (.initialized RX3) (List.mem_of_getElem? (i := 6) rfl)) (hts (.methodLink RX5 11 yX3_init) (List.mem_of_getElem? (i := 20) rfl)) (hts (.instanceMethod yX3_init) (List.mem_of_getElem? (i := 21) rfl)) rfl (by decide +kernel) ⟨Nat.le_of_ble_eq_true rfl, Nat.le_of_ble_eq_true rfl⟩) hK hE hA hM rfl hl.1 rfl (Nat.le_of_ble_eq_true rfl) dX5_init_9 ⟨Nat.le_of_ble_eq_true rfl, Nat.le_of_ble_eq_true rfl⟩ (fun v gz9 Hp lcs hp hM => ?_)
  obtain ⟨rfl, qz10, qz11, qz12, qz13, qz14, nz15, nz16, nz17, nz18, nz19, ne20, ne21, ne22, ne23, ne24, ne25, ne26, ne27, ne28, ne29, hz30, hz31, hz32, hz33, hz34, hz35, rz36⟩ := hp
  have fo37 : f qz10 = none := fresh_of (fun e hb => hF qz10 e hb (ne_none hz8 nz15).symm) nz15
  have ne38 := ne_none hz8 nz15
  have ne39 := ne_none hz4 nz15
  have fo40 : f qz11 = none := fresh_of (fun e hb => hF qz11 e hb (ne_none hz8 nz16).symm) nz16
  have ne41 := ne_none hz8 nz16
  have ne42 := ne_none hz4 nz16
  have fo43 : f qz12 = none := fresh_of (fun e hb => hF qz12 e hb (ne_none hz8 nz17).symm) nz17
  have ne44 := ne_none hz8 nz17
  have ne45 := ne_none hz4 nz17
  have fo46 : f qz13 = none := fresh_of (fun e hb => hF qz13 e hb (ne_none hz8 nz18).symm) nz18
  have ne47 := ne_none hz8 nz18
  have ne48 := ne_none hz4 nz18
  have fo49 : f qz14 = none := fresh_of (fun e hb => hF qz14 e hb (ne_none hz8 nz19).symm) nz19
  have ne50 := ne_none hz8 nz19
  have ne51 := ne_none hz4 nz19
  have hz52 := rz36 _ _ hz8 ne7
  have hF := fun w9 e (hb : f w9 = some e) (hn0 : w9 ≠ o) => rz36 w9 e (hF w9 e hb hn0) (ne_none hb fo6)
  refine mm_putF (C := RX5) (T := TX5) (N := 7) (k := 0) hx hb hts (fun _ h => List.mem_cons_of_mem _ (List.mem_append_left _ (List.mem_append_left _ (List.mem_append_left _ (List.mem_append_left _ (List.mem_append_right _ h)))))) tyX5 tyX5_ok nmX5 hown hK hM hz52 rfl (by decide) (hts (.fieldLink RX5 12 "SentenceRules" "now" "LSentenceRules$State;") (List.mem_of_getElem? (i := 7) rfl)) rfl rfl hname rfl rfl rfl (Nat.le_of_ble_eq_true rfl) dX5_init_12 (fun Hp lcs hM => ?_)
  obtain ⟨gz53, hM, hz54, rz55⟩ := hM.up
  have hz56 := (rz55 _ (Ne.symm ne7)).trans hz30
  have hz57 := (rz55 _ (Ne.symm ne38)).trans hz31
  have hz58 := (rz55 _ (Ne.symm ne41)).trans hz32
  have hz59 := (rz55 _ (Ne.symm ne44)).trans hz33
  have hz60 := (rz55 _ (Ne.symm ne47)).trans hz34
  have hz61 := (rz55 _ (Ne.symm ne50)).trans hz35
  have hF := fun w9 e (hb : f w9 = some e) (hn0 : w9 ≠ o) => (rz55 w9 hn0).trans (hF w9 e hb hn0)
  refine lv_aload_n hx hb dX5_init_15 rfl (lv_at hl 0 rfl) ?_
  refine lv_bipush (v := (nI 8)) hx hb dX5_init_16 (by decide +kernel) ?_
  refine mm_newT hx hb hown (hts (.classLink RX5 9 RX3) (List.mem_of_getElem? (i := 4) rfl)) hE hK hM hA 8 (by decide) (by decide) (Nat.le_of_ble_eq_true rfl) (Nat.le_of_ble_eq_true rfl) (Nat.le_of_ble_eq_true rfl) dX5_init_18 (fun qz62 Hp nz63 hM => ?_)
  obtain ⟨gz64, hM, hz65, rz66⟩ := hM.up
  have fo67 : f qz62 = none := fresh_of (fun e hb => hF qz62 e hb (ne_none hz54 nz63).symm) nz63
  have hF := fun w9 e (hb : f w9 = some e) (hn0 : w9 ≠ o) => (rz66 w9 (ne_none (hF w9 e hb hn0) nz63)).trans (hF w9 e hb hn0)
  have ne68 := ne_none hz56 nz63
  have hz69 := (rz66 _ ne68).trans hz56
  have ne70 := ne_none hz57 nz63
  have hz71 := (rz66 _ ne70).trans hz57
  have ne72 := ne_none hz58 nz63
  have hz73 := (rz66 _ ne72).trans hz58
  have ne74 := ne_none hz59 nz63
  have hz75 := (rz66 _ ne74).trans hz59
  have ne76 := ne_none hz60 nz63
  have hz77 := (rz66 _ ne76).trans hz60
  have ne78 := ne_none hz61 nz63
  have hz79 := (rz66 _ ne78).trans hz61
  have ne80 := ne_none hz54 nz63
  have hz81 := (rz66 _ ne80).trans hz54
  refine mm_putF (C := RX5) (T := TX5) (N := 7) (k := 1) hx hb hts (fun _ h => List.mem_cons_of_mem _ (List.mem_append_left _ (List.mem_append_left _ (List.mem_append_left _ (List.mem_append_left _ (List.mem_append_right _ h)))))) tyX5 tyX5_ok nmX5 hown hK hM hz81 rfl (by decide) (hts (.fieldLink RX5 16 "SentenceRules" "recorded" "[LSentenceRules$State;") (List.mem_of_getElem? (i := 8) rfl)) rfl rfl hname rfl rfl rfl (Nat.le_of_ble_eq_true rfl) dX5_init_21 (fun Hp lcs hM => ?_)
  obtain ⟨gz82, hM, hz83, rz84⟩ := hM.up
  have hz85 := (rz84 _ (Ne.symm ne7)).trans hz69
  have hz86 := (rz84 _ (Ne.symm ne38)).trans hz71
  have hz87 := (rz84 _ (Ne.symm ne41)).trans hz73
  have hz88 := (rz84 _ (Ne.symm ne44)).trans hz75
  have hz89 := (rz84 _ (Ne.symm ne47)).trans hz77
  have hz90 := (rz84 _ (Ne.symm ne50)).trans hz79
  have hz91 := (rz84 _ (Ne.symm ne80)).trans hz65
  have hF := fun w9 e (hb : f w9 = some e) (hn0 : w9 ≠ o) => (rz84 w9 hn0).trans (hF w9 e hb hn0)
  refine lv_aload_n hx hb dX5_init_24 rfl (lv_at hl 0 rfl) ?_
  refine mm_new (C := RX0) (T := TX0) (N := 9) (ci := 1) hx hb hts (fun _ h => List.mem_cons_of_mem _ (List.mem_append_left _ (List.mem_append_left _ (List.mem_append_left _ (List.mem_append_right _ h))))) tyX0_ok hown (hts (.classLink RX5 20 RX0) (List.mem_of_getElem? (i := 9) rfl)) (hts (.instantiable RX0 9) (List.mem_of_getElem? (i := 10) rfl)) (hts (.initialized RX0) (List.mem_of_getElem? (i := 11) rfl)) hK hM hA rfl [.int 0, .int 0, .int 0, .null, .int 0, .int 0, .int 0, .int 0, .int 0] (by decide) (Nat.le_of_ble_eq_true rfl) (Nat.le_of_ble_eq_true rfl) dX5_init_25 (fun qz92 Hp nz93 hM => ?_)
  obtain ⟨gz94, hM, hz95, rz96⟩ := hM.up
  have fo97 : f qz92 = none := fresh_of (fun e hb => hF qz92 e hb (ne_none hz83 nz93).symm) nz93
  have hF := fun w9 e (hb : f w9 = some e) (hn0 : w9 ≠ o) => (rz96 w9 (ne_none (hF w9 e hb hn0) nz93)).trans (hF w9 e hb hn0)
  have ne98 := ne_none hz85 nz93
  have hz99 := (rz96 _ ne98).trans hz85
  have ne100 := ne_none hz86 nz93
  have hz101 := (rz96 _ ne100).trans hz86
  have ne102 := ne_none hz87 nz93
  have hz103 := (rz96 _ ne102).trans hz87
  have ne104 := ne_none hz88 nz93
  have hz105 := (rz96 _ ne104).trans hz88
  have ne106 := ne_none hz89 nz93
  have hz107 := (rz96 _ ne106).trans hz89
  have ne108 := ne_none hz90 nz93
  have hz109 := (rz96 _ ne108).trans hz90
  have ne110 := ne_none hz91 nz93
  have hz111 := (rz96 _ ne110).trans hz91
  have ne112 := ne_none hz83 nz93
  have hz113 := (rz96 _ ne112).trans hz83
  refine lv_dup hx hb dX5_init_28 rfl ?_
  refine mm_IN (As := []) (rest := [.ref qz92, .ref o]) ⟨hx, hb, hml, hown, hts⟩ (c0_init l G hz95) ⟨va_cnB 0 hts gX5_init_X0_init_n22 rfl rfl rfl (hE.1.1 _ (List.mem_of_getElem? (i := 1) rfl)) (hts (.initialized RX0) (List.mem_of_getElem? (i := 11) rfl)) (by decide +kernel) ⟨Nat.le_of_ble_eq_true rfl, Nat.le_of_ble_eq_true rfl⟩, rfl, (hts (.instanceMethod yX0_init) (List.mem_of_getElem? (i := 37) rfl))⟩ hK hE hA hM rfl hl.1 rfl (Nat.le_of_ble_eq_true rfl) dX5_init_29 ⟨Nat.le_of_ble_eq_true rfl, Nat.le_of_ble_eq_true rfl⟩ (fun v gz114 Hp lcs hp hM => ?_)
  obtain ⟨rfl, qz115, qz116, qz117, nz118, nz119, nz120, ne121, ne122, ne123, hz124, hz125, hz126, hz127, rz128⟩ := hp
  have fo129 : f qz115 = none := fresh_of (fun e hb => hF qz115 e hb (ne_none hz113 nz118).symm) nz118
  have ne130 := ne_none hz99 nz118
  have ne131 := ne_none hz101 nz118
  have ne132 := ne_none hz103 nz118
  have ne133 := ne_none hz105 nz118
  have ne134 := ne_none hz107 nz118
  have ne135 := ne_none hz109 nz118
  have ne136 := ne_none hz111 nz118
  have ne137 := ne_none hz113 nz118
  have ne138 := ne_none hz95 nz118
  have fo139 : f qz116 = none := fresh_of (fun e hb => hF qz116 e hb (ne_none hz113 nz119).symm) nz119
  have ne140 := ne_none hz99 nz119
  have ne141 := ne_none hz101 nz119
  have ne142 := ne_none hz103 nz119
  have ne143 := ne_none hz105 nz119
  have ne144 := ne_none hz107 nz119
  have ne145 := ne_none hz109 nz119
  have ne146 := ne_none hz111 nz119
  have ne147 := ne_none hz113 nz119
  have ne148 := ne_none hz95 nz119
  have fo149 : f qz117 = none := fresh_of (fun e hb => hF qz117 e hb (ne_none hz113 nz120).symm) nz120
  have ne150 := ne_none hz99 nz120
  have ne151 := ne_none hz101 nz120
  have ne152 := ne_none hz103 nz120
  have ne153 := ne_none hz105 nz120
  have ne154 := ne_none hz107 nz120
  have ne155 := ne_none hz109 nz120
  have ne156 := ne_none hz111 nz120
  have ne157 := ne_none hz113 nz120
  have ne158 := ne_none hz95 nz120
  have hz159 := rz128 _ _ hz99 ne98
  have hz160 := rz128 _ _ hz101 ne100
  have hz161 := rz128 _ _ hz103 ne102
  have hz162 := rz128 _ _ hz105 ne104
  have hz163 := rz128 _ _ hz107 ne106
  have hz164 := rz128 _ _ hz109 ne108
  have hz165 := rz128 _ _ hz111 ne110
  have hz166 := rz128 _ _ hz113 ne112
  have hF := fun w9 e (hb : f w9 = some e) (hn0 : w9 ≠ o) => rz128 w9 e (hF w9 e hb hn0) (ne_none hb fo97)
  refine mm_putF (C := RX5) (T := TX5) (N := 7) (k := 3) hx hb hts (fun _ h => List.mem_cons_of_mem _ (List.mem_append_left _ (List.mem_append_left _ (List.mem_append_left _ (List.mem_append_left _ (List.mem_append_right _ h)))))) tyX5 tyX5_ok nmX5 hown hK hM hz166 rfl (by decide) (hts (.fieldLink RX5 23 "SentenceRules" "reader" "LSentenceRules$Reader;") (List.mem_of_getElem? (i := 12) rfl)) rfl rfl hname rfl rfl rfl (Nat.le_of_ble_eq_true rfl) dX5_init_32 (fun Hp lcs hM => ?_)
  obtain ⟨gz167, hM, hz168, rz169⟩ := hM.up
  have hz170 := (rz169 _ (Ne.symm ne7)).trans hz159
  have hz171 := (rz169 _ (Ne.symm ne38)).trans hz160
  have hz172 := (rz169 _ (Ne.symm ne41)).trans hz161
  have hz173 := (rz169 _ (Ne.symm ne44)).trans hz162
  have hz174 := (rz169 _ (Ne.symm ne47)).trans hz163
  have hz175 := (rz169 _ (Ne.symm ne50)).trans hz164
  have hz176 := (rz169 _ (Ne.symm ne80)).trans hz165
  have hz177 := (rz169 _ (Ne.symm ne112)).trans hz124
  have hz178 := (rz169 _ (Ne.symm ne137)).trans hz125
  have hz179 := (rz169 _ (Ne.symm ne147)).trans hz126
  have hz180 := (rz169 _ (Ne.symm ne157)).trans hz127
  have hF := fun w9 e (hb : f w9 = some e) (hn0 : w9 ≠ o) => (rz169 w9 hn0).trans (hF w9 e hb hn0)
  refine lv_aload_n hx hb dX5_init_35 rfl (lv_at hl 0 rfl) ?_
  refine lv_bipush (v := (nI 7)) hx hb dX5_init_36 (by decide +kernel) ?_
  refine mm_newI hx hb (hts (.arrayClass .int) (List.mem_of_getElem? (i := 13) rfl)) hK hM hA 7 (by decide) (by decide) (Nat.le_of_ble_eq_true rfl) (Nat.le_of_ble_eq_true rfl) (Nat.le_of_ble_eq_true rfl) dX5_init_38 (fun qz181 Hp nz182 hM => ?_)
  obtain ⟨gz183, hM, hz184, rz185⟩ := hM.up
  have fo186 : f qz181 = none := fresh_of (fun e hb => hF qz181 e hb (ne_none hz168 nz182).symm) nz182
  have hF := fun w9 e (hb : f w9 = some e) (hn0 : w9 ≠ o) => (rz185 w9 (ne_none (hF w9 e hb hn0) nz182)).trans (hF w9 e hb hn0)
  have ne187 := ne_none hz170 nz182
  have hz188 := (rz185 _ ne187).trans hz170
  have ne189 := ne_none hz171 nz182
  have hz190 := (rz185 _ ne189).trans hz171
  have ne191 := ne_none hz172 nz182
  have hz192 := (rz185 _ ne191).trans hz172
  have ne193 := ne_none hz173 nz182
  have hz194 := (rz185 _ ne193).trans hz173
  have ne195 := ne_none hz174 nz182
  have hz196 := (rz185 _ ne195).trans hz174
  have ne197 := ne_none hz175 nz182
  have hz198 := (rz185 _ ne197).trans hz175
  have ne199 := ne_none hz176 nz182
  have hz200 := (rz185 _ ne199).trans hz176
  have ne201 := ne_none hz177 nz182
  have hz202 := (rz185 _ ne201).trans hz177
  have ne203 := ne_none hz178 nz182
  have hz204 := (rz185 _ ne203).trans hz178
  have ne205 := ne_none hz179 nz182
  have hz206 := (rz185 _ ne205).trans hz179
  have ne207 := ne_none hz180 nz182
  have hz208 := (rz185 _ ne207).trans hz180
  have ne209 := ne_none hz168 nz182
  have hz210 := (rz185 _ ne209).trans hz168
  refine mm_putF (C := RX5) (T := TX5) (N := 7) (k := 4) hx hb hts (fun _ h => List.mem_cons_of_mem _ (List.mem_append_left _ (List.mem_append_left _ (List.mem_append_left _ (List.mem_append_left _ (List.mem_append_right _ h)))))) tyX5 tyX5_ok nmX5 hown hK hM hz210 rfl (by decide) (hts (.fieldLink RX5 27 "SentenceRules" "supposed" "[I") (List.mem_of_getElem? (i := 14) rfl)) rfl rfl hname rfl rfl rfl (Nat.le_of_ble_eq_true rfl) dX5_init_40 (fun Hp lcs hM => ?_)
  obtain ⟨gz211, hM, hz212, rz213⟩ := hM.up
  have hz214 := (rz213 _ (Ne.symm ne7)).trans hz188
  have hz215 := (rz213 _ (Ne.symm ne38)).trans hz190
  have hz216 := (rz213 _ (Ne.symm ne41)).trans hz192
  have hz217 := (rz213 _ (Ne.symm ne44)).trans hz194
  have hz218 := (rz213 _ (Ne.symm ne47)).trans hz196
  have hz219 := (rz213 _ (Ne.symm ne50)).trans hz198
  have hz220 := (rz213 _ (Ne.symm ne80)).trans hz200
  have hz221 := (rz213 _ (Ne.symm ne112)).trans hz202
  have hz222 := (rz213 _ (Ne.symm ne137)).trans hz204
  have hz223 := (rz213 _ (Ne.symm ne147)).trans hz206
  have hz224 := (rz213 _ (Ne.symm ne157)).trans hz208
  have hz225 := (rz213 _ (Ne.symm ne209)).trans hz184
  have hF := fun w9 e (hb : f w9 = some e) (hn0 : w9 ≠ o) => (rz213 w9 hn0).trans (hF w9 e hb hn0)
  refine lv_aload_n hx hb dX5_init_43 rfl (lv_at hl 0 rfl) ?_
  refine lv_bipush (v := (nI 16)) hx hb dX5_init_44 (by decide +kernel) ?_
  refine mm_newI hx hb (hts (.arrayClass .int) (List.mem_of_getElem? (i := 13) rfl)) hK hM hA 16 (by decide) (by decide) (Nat.le_of_ble_eq_true rfl) (Nat.le_of_ble_eq_true rfl) (Nat.le_of_ble_eq_true rfl) dX5_init_46 (fun qz226 Hp nz227 hM => ?_)
  obtain ⟨gz228, hM, hz229, rz230⟩ := hM.up
  have fo231 : f qz226 = none := fresh_of (fun e hb => hF qz226 e hb (ne_none hz212 nz227).symm) nz227
  have hF := fun w9 e (hb : f w9 = some e) (hn0 : w9 ≠ o) => (rz230 w9 (ne_none (hF w9 e hb hn0) nz227)).trans (hF w9 e hb hn0)
  have ne232 := ne_none hz214 nz227
  have hz233 := (rz230 _ ne232).trans hz214
  have ne234 := ne_none hz215 nz227
  have hz235 := (rz230 _ ne234).trans hz215
  have ne236 := ne_none hz216 nz227
  have hz237 := (rz230 _ ne236).trans hz216
  have ne238 := ne_none hz217 nz227
  have hz239 := (rz230 _ ne238).trans hz217
  have ne240 := ne_none hz218 nz227
  have hz241 := (rz230 _ ne240).trans hz218
  have ne242 := ne_none hz219 nz227
  have hz243 := (rz230 _ ne242).trans hz219
  have ne244 := ne_none hz220 nz227
  have hz245 := (rz230 _ ne244).trans hz220
  have ne246 := ne_none hz221 nz227
  have hz247 := (rz230 _ ne246).trans hz221
  have ne248 := ne_none hz222 nz227
  have hz249 := (rz230 _ ne248).trans hz222
  have ne250 := ne_none hz223 nz227
  have hz251 := (rz230 _ ne250).trans hz223
  have ne252 := ne_none hz224 nz227
  have hz253 := (rz230 _ ne252).trans hz224
  have ne254 := ne_none hz225 nz227
  have hz255 := (rz230 _ ne254).trans hz225
  have ne256 := ne_none hz212 nz227
  have hz257 := (rz230 _ ne256).trans hz212
  refine mm_putF (C := RX5) (T := TX5) (N := 7) (k := 5) hx hb hts (fun _ h => List.mem_cons_of_mem _ (List.mem_append_left _ (List.mem_append_left _ (List.mem_append_left _ (List.mem_append_left _ (List.mem_append_right _ h)))))) tyX5 tyX5_ok nmX5 hown hK hM hz257 rfl (by decide) (hts (.fieldLink RX5 31 "SentenceRules" "reasonRow" "[I") (List.mem_of_getElem? (i := 15) rfl)) rfl rfl hname rfl rfl rfl (Nat.le_of_ble_eq_true rfl) dX5_init_48 (fun Hp lcs hM => ?_)
  obtain ⟨gz258, hM, hz259, rz260⟩ := hM.up
  have hz261 := (rz260 _ (Ne.symm ne7)).trans hz233
  have hz262 := (rz260 _ (Ne.symm ne38)).trans hz235
  have hz263 := (rz260 _ (Ne.symm ne41)).trans hz237
  have hz264 := (rz260 _ (Ne.symm ne44)).trans hz239
  have hz265 := (rz260 _ (Ne.symm ne47)).trans hz241
  have hz266 := (rz260 _ (Ne.symm ne50)).trans hz243
  have hz267 := (rz260 _ (Ne.symm ne80)).trans hz245
  have hz268 := (rz260 _ (Ne.symm ne112)).trans hz247
  have hz269 := (rz260 _ (Ne.symm ne137)).trans hz249
  have hz270 := (rz260 _ (Ne.symm ne147)).trans hz251
  have hz271 := (rz260 _ (Ne.symm ne157)).trans hz253
  have hz272 := (rz260 _ (Ne.symm ne209)).trans hz255
  have hz273 := (rz260 _ (Ne.symm ne256)).trans hz229
  have hF := fun w9 e (hb : f w9 = some e) (hn0 : w9 ≠ o) => (rz260 w9 hn0).trans (hF w9 e hb hn0)
  refine lv_aload_n hx hb dX5_init_51 rfl (lv_at hl 0 rfl) ?_
  refine mm_new (C := RJ4) (T := TJ4) (N := 4) (ci := 0) hx hb hts (fun _ h => List.mem_cons_of_mem _ (List.mem_append_left _ (List.mem_append_left _ (List.mem_append_right _ h)))) tyJ4_ok hown (hts (.classLink RX5 34 RJ4) (List.mem_of_getElem? (i := 16) rfl)) (hts (.instantiable RJ4 4) (List.mem_of_getElem? (i := 17) rfl)) (hts (.initialized RJ4) (List.mem_of_getElem? (i := 18) rfl)) hK hM hA rfl [.null, .int 0, .int 0, .int 0] (by decide) (Nat.le_of_ble_eq_true rfl) (Nat.le_of_ble_eq_true rfl) dX5_init_52 (fun qz274 Hp nz275 hM => ?_)
  obtain ⟨gz276, hM, hz277, rz278⟩ := hM.up
  have fo279 : f qz274 = none := fresh_of (fun e hb => hF qz274 e hb (ne_none hz259 nz275).symm) nz275
  have hF := fun w9 e (hb : f w9 = some e) (hn0 : w9 ≠ o) => (rz278 w9 (ne_none (hF w9 e hb hn0) nz275)).trans (hF w9 e hb hn0)
  have ne280 := ne_none hz261 nz275
  have hz281 := (rz278 _ ne280).trans hz261
  have ne282 := ne_none hz262 nz275
  have hz283 := (rz278 _ ne282).trans hz262
  have ne284 := ne_none hz263 nz275
  have hz285 := (rz278 _ ne284).trans hz263
  have ne286 := ne_none hz264 nz275
  have hz287 := (rz278 _ ne286).trans hz264
  have ne288 := ne_none hz265 nz275
  have hz289 := (rz278 _ ne288).trans hz265
  have ne290 := ne_none hz266 nz275
  have hz291 := (rz278 _ ne290).trans hz266
  have ne292 := ne_none hz267 nz275
  have hz293 := (rz278 _ ne292).trans hz267
  have ne294 := ne_none hz268 nz275
  have hz295 := (rz278 _ ne294).trans hz268
  have ne296 := ne_none hz269 nz275
  have hz297 := (rz278 _ ne296).trans hz269
  have ne298 := ne_none hz270 nz275
  have hz299 := (rz278 _ ne298).trans hz270
  have ne300 := ne_none hz271 nz275
  have hz301 := (rz278 _ ne300).trans hz271
  have ne302 := ne_none hz272 nz275
  have hz303 := (rz278 _ ne302).trans hz272
  have ne304 := ne_none hz273 nz275
  have hz305 := (rz278 _ ne304).trans hz273
  have ne306 := ne_none hz259 nz275
  have hz307 := (rz278 _ ne306).trans hz259
  refine lv_dup hx hb dX5_init_55 rfl ?_
  refine mm_I (As := []) (rest := [.ref qz274, .ref o]) ⟨hx, hb, hml, hown, hts⟩ (j4_init l G hz277) (cwI 0 hts gX5_init_J4_init_da8c8 rfl rfl rfl (hts (.initialized RJ4) (List.mem_of_getElem? (i := 18) rfl)) (hts (.methodLink RX5 36 yJ4_init_da8c8) (List.mem_of_getElem? (i := 49) rfl)) (hts (.instanceMethod yJ4_init_da8c8) (List.mem_of_getElem? (i := 50) rfl)) rfl (by decide +kernel) ⟨Nat.le_of_ble_eq_true rfl, Nat.le_of_ble_eq_true rfl⟩) hK hE hA hM rfl hl.1 rfl (Nat.le_of_ble_eq_true rfl) dX5_init_56 ⟨Nat.le_of_ble_eq_true rfl, Nat.le_of_ble_eq_true rfl⟩ (fun v gz308 Hp lcs hp hM => ?_)
  obtain ⟨rfl, qz309, nz310, hz311, hz312, rz313⟩ := hp
  have fo314 : f qz309 = none := fresh_of (fun e hb => hF qz309 e hb (ne_none hz307 nz310).symm) nz310
  have ne315 := ne_none hz281 nz310
  have ne316 := ne_none hz283 nz310
  have ne317 := ne_none hz285 nz310
  have ne318 := ne_none hz287 nz310
  have ne319 := ne_none hz289 nz310
  have ne320 := ne_none hz291 nz310
  have ne321 := ne_none hz293 nz310
  have ne322 := ne_none hz295 nz310
  have ne323 := ne_none hz297 nz310
  have ne324 := ne_none hz299 nz310
  have ne325 := ne_none hz301 nz310
  have ne326 := ne_none hz303 nz310
  have ne327 := ne_none hz305 nz310
  have ne328 := ne_none hz307 nz310
  have ne329 := ne_none hz277 nz310
  have hz330 := rz313 _ _ hz281 ne280
  have hz331 := rz313 _ _ hz283 ne282
  have hz332 := rz313 _ _ hz285 ne284
  have hz333 := rz313 _ _ hz287 ne286
  have hz334 := rz313 _ _ hz289 ne288
  have hz335 := rz313 _ _ hz291 ne290
  have hz336 := rz313 _ _ hz293 ne292
  have hz337 := rz313 _ _ hz295 ne294
  have hz338 := rz313 _ _ hz297 ne296
  have hz339 := rz313 _ _ hz299 ne298
  have hz340 := rz313 _ _ hz301 ne300
  have hz341 := rz313 _ _ hz303 ne302
  have hz342 := rz313 _ _ hz305 ne304
  have hz343 := rz313 _ _ hz307 ne306
  have hF := fun w9 e (hb : f w9 = some e) (hn0 : w9 ≠ o) => rz313 w9 e (hF w9 e hb hn0) (ne_none hb fo279)
  refine mm_putF (C := RX5) (T := TX5) (N := 7) (k := 6) hx hb hts (fun _ h => List.mem_cons_of_mem _ (List.mem_append_left _ (List.mem_append_left _ (List.mem_append_left _ (List.mem_append_left _ (List.mem_append_right _ h)))))) tyX5 tyX5_ok nmX5 hown hK hM hz343 rfl (by decide) (hts (.fieldLink RX5 37 "SentenceRules" "builder" "Ljava/lang/StringBuilder;") (List.mem_of_getElem? (i := 19) rfl)) rfl rfl hname rfl rfl rfl (Nat.le_of_ble_eq_true rfl) dX5_init_59 (fun Hp lcs hM => ?_)
  obtain ⟨gz344, hM, hz345, rz346⟩ := hM.up
  have hz347 := (rz346 _ (Ne.symm ne7)).trans hz330
  have hz348 := (rz346 _ (Ne.symm ne38)).trans hz331
  have hz349 := (rz346 _ (Ne.symm ne41)).trans hz332
  have hz350 := (rz346 _ (Ne.symm ne44)).trans hz333
  have hz351 := (rz346 _ (Ne.symm ne47)).trans hz334
  have hz352 := (rz346 _ (Ne.symm ne50)).trans hz335
  have hz353 := (rz346 _ (Ne.symm ne80)).trans hz336
  have hz354 := (rz346 _ (Ne.symm ne112)).trans hz337
  have hz355 := (rz346 _ (Ne.symm ne137)).trans hz338
  have hz356 := (rz346 _ (Ne.symm ne147)).trans hz339
  have hz357 := (rz346 _ (Ne.symm ne157)).trans hz340
  have hz358 := (rz346 _ (Ne.symm ne209)).trans hz341
  have hz359 := (rz346 _ (Ne.symm ne256)).trans hz342
  have hz360 := (rz346 _ (Ne.symm ne306)).trans hz311
  have hz361 := (rz346 _ (Ne.symm ne328)).trans hz312
  have hF := fun w9 e (hb : f w9 = some e) (hn0 : w9 ≠ o) => (rz346 w9 hn0).trans (hF w9 e hb hn0)
  exact mm_vret hx hb hlocks hr (Nat.le_of_ble_eq_true rfl) (Nat.le_of_ble_eq_true rfl) hM (by have tg0 : (T0x qz1 qz10 qz11 qz12 qz13 qz14 qz92 qz115 qz116 qz117 qz181 qz226 qz274 qz309 o) qz1 = qz1 + 1 := (by unfold T0x; rw [if_pos (Or.inl rfl)]); have tg1 : (T0x qz1 qz10 qz11 qz12 qz13 qz14 qz92 qz115 qz116 qz117 qz181 qz226 qz274 qz309 o) qz10 = qz1 + 1 := (by unfold T0x; rw [if_pos (Or.inr (Or.inl rfl))]); have tg2 : (T0x qz1 qz10 qz11 qz12 qz13 qz14 qz92 qz115 qz116 qz117 qz181 qz226 qz274 qz309 o) qz11 = qz1 + 1 := (by unfold T0x; rw [if_pos (Or.inr (Or.inr (Or.inl rfl)))]); have tg3 : (T0x qz1 qz10 qz11 qz12 qz13 qz14 qz92 qz115 qz116 qz117 qz181 qz226 qz274 qz309 o) qz12 = qz1 + 1 := (by unfold T0x; rw [if_pos (Or.inr (Or.inr (Or.inr (Or.inl rfl))))]); have tg4 : (T0x qz1 qz10 qz11 qz12 qz13 qz14 qz92 qz115 qz116 qz117 qz181 qz226 qz274 qz309 o) qz13 = qz1 + 1 := (by unfold T0x; rw [if_pos (Or.inr (Or.inr (Or.inr (Or.inr (Or.inl rfl)))))]); have tg5 : (T0x qz1 qz10 qz11 qz12 qz13 qz14 qz92 qz115 qz116 qz117 qz181 qz226 qz274 qz309 o) qz14 = qz1 + 1 := (by unfold T0x; rw [if_pos (Or.inr (Or.inr (Or.inr (Or.inr (Or.inr rfl)))))]); have tg6 : (T0x qz1 qz10 qz11 qz12 qz13 qz14 qz92 qz115 qz116 qz117 qz181 qz226 qz274 qz309 o) qz92 = qz92 + 1 := (by unfold T0x; rw [if_neg (fun w => w.elim (Ne.symm ne98) (fun w => w.elim (Ne.symm ne100) (fun w => w.elim (Ne.symm ne102) (fun w => w.elim (Ne.symm ne104) (fun w => w.elim (Ne.symm ne106) (fun w => (Ne.symm ne108) w)))))), if_pos (Or.inl rfl)]); have tg7 : (T0x qz1 qz10 qz11 qz12 qz13 qz14 qz92 qz115 qz116 qz117 qz181 qz226 qz274 qz309 o) qz115 = qz92 + 1 := (by unfold T0x; rw [if_neg (fun w => w.elim (Ne.symm ne130) (fun w => w.elim (Ne.symm ne131) (fun w => w.elim (Ne.symm ne132) (fun w => w.elim (Ne.symm ne133) (fun w => w.elim (Ne.symm ne134) (fun w => (Ne.symm ne135) w)))))), if_pos (Or.inr (Or.inl rfl))]); have tg8 : (T0x qz1 qz10 qz11 qz12 qz13 qz14 qz92 qz115 qz116 qz117 qz181 qz226 qz274 qz309 o) qz116 = qz92 + 1 := (by unfold T0x; rw [if_neg (fun w => w.elim (Ne.symm ne140) (fun w => w.elim (Ne.symm ne141) (fun w => w.elim (Ne.symm ne142) (fun w => w.elim (Ne.symm ne143) (fun w => w.elim (Ne.symm ne144) (fun w => (Ne.symm ne145) w)))))), if_pos (Or.inr (Or.inr (Or.inl rfl)))]); have tg9 : (T0x qz1 qz10 qz11 qz12 qz13 qz14 qz92 qz115 qz116 qz117 qz181 qz226 qz274 qz309 o) qz117 = qz92 + 1 := (by unfold T0x; rw [if_neg (fun w => w.elim (Ne.symm ne150) (fun w => w.elim (Ne.symm ne151) (fun w => w.elim (Ne.symm ne152) (fun w => w.elim (Ne.symm ne153) (fun w => w.elim (Ne.symm ne154) (fun w => (Ne.symm ne155) w)))))), if_pos (Or.inr (Or.inr (Or.inr rfl)))]); have tg10 : (T0x qz1 qz10 qz11 qz12 qz13 qz14 qz92 qz115 qz116 qz117 qz181 qz226 qz274 qz309 o) qz181 = qz181 + 1 := (by unfold T0x; rw [if_neg (fun w => w.elim (Ne.symm ne187) (fun w => w.elim (Ne.symm ne189) (fun w => w.elim (Ne.symm ne191) (fun w => w.elim (Ne.symm ne193) (fun w => w.elim (Ne.symm ne195) (fun w => (Ne.symm ne197) w)))))), if_neg (fun w => w.elim (Ne.symm ne201) (fun w => w.elim (Ne.symm ne203) (fun w => w.elim (Ne.symm ne205) (fun w => (Ne.symm ne207) w)))), if_pos rfl]); have tg11 : (T0x qz1 qz10 qz11 qz12 qz13 qz14 qz92 qz115 qz116 qz117 qz181 qz226 qz274 qz309 o) qz226 = qz226 + 1 := (by unfold T0x; rw [if_neg (fun w => w.elim (Ne.symm ne232) (fun w => w.elim (Ne.symm ne234) (fun w => w.elim (Ne.symm ne236) (fun w => w.elim (Ne.symm ne238) (fun w => w.elim (Ne.symm ne240) (fun w => (Ne.symm ne242) w)))))), if_neg (fun w => w.elim (Ne.symm ne246) (fun w => w.elim (Ne.symm ne248) (fun w => w.elim (Ne.symm ne250) (fun w => (Ne.symm ne252) w)))), if_neg (Ne.symm ne254), if_pos rfl]); have tg12 : (T0x qz1 qz10 qz11 qz12 qz13 qz14 qz92 qz115 qz116 qz117 qz181 qz226 qz274 qz309 o) qz274 = qz274 + 1 := (by unfold T0x; rw [if_neg (fun w => w.elim (Ne.symm ne280) (fun w => w.elim (Ne.symm ne282) (fun w => w.elim (Ne.symm ne284) (fun w => w.elim (Ne.symm ne286) (fun w => w.elim (Ne.symm ne288) (fun w => (Ne.symm ne290) w)))))), if_neg (fun w => w.elim (Ne.symm ne294) (fun w => w.elim (Ne.symm ne296) (fun w => w.elim (Ne.symm ne298) (fun w => (Ne.symm ne300) w)))), if_neg (Ne.symm ne302), if_neg (Ne.symm ne304), if_pos (Or.inl rfl)]); have tg13 : (T0x qz1 qz10 qz11 qz12 qz13 qz14 qz92 qz115 qz116 qz117 qz181 qz226 qz274 qz309 o) qz309 = qz274 + 1 := (by unfold T0x; rw [if_neg (fun w => w.elim (Ne.symm ne315) (fun w => w.elim (Ne.symm ne316) (fun w => w.elim (Ne.symm ne317) (fun w => w.elim (Ne.symm ne318) (fun w => w.elim (Ne.symm ne319) (fun w => (Ne.symm ne320) w)))))), if_neg (fun w => w.elim (Ne.symm ne322) (fun w => w.elim (Ne.symm ne323) (fun w => w.elim (Ne.symm ne324) (fun w => (Ne.symm ne325) w)))), if_neg (Ne.symm ne326), if_neg (Ne.symm ne327), if_pos (Or.inr rfl)]); have tg14 : (T0x qz1 qz10 qz11 qz12 qz13 qz14 qz92 qz115 qz116 qz117 qz181 qz226 qz274 qz309 o) o = o + 1 := (by unfold T0x; rw [if_neg (fun w => w.elim ne7 (fun w => w.elim ne38 (fun w => w.elim ne41 (fun w => w.elim ne44 (fun w => w.elim ne47 (fun w => ne50 w)))))), if_neg (fun w => w.elim ne112 (fun w => w.elim ne137 (fun w => w.elim ne147 (fun w => ne157 w)))), if_neg ne209, if_neg ne256, if_neg (fun w => w.elim ne306 (fun w => ne328 w))]); have tg15 : (T0x qz1 qz10 qz11 qz12 qz13 qz14 qz92 qz115 qz116 qz117 qz181 qz226 qz274 qz309 o) qz62 = o + 1 := (by unfold T0x; rw [if_neg (fun w => w.elim (Ne.symm ne68) (fun w => w.elim (Ne.symm ne70) (fun w => w.elim (Ne.symm ne72) (fun w => w.elim (Ne.symm ne74) (fun w => w.elim (Ne.symm ne76) (fun w => (Ne.symm ne78) w)))))), if_neg (fun w => w.elim ne110 (fun w => w.elim ne136 (fun w => w.elim ne146 (fun w => ne156 w)))), if_neg ne199, if_neg ne244, if_neg (fun w => w.elim ne292 (fun w => ne321 w))]); exact ⟨rfl, (T0x qz1 qz10 qz11 qz12 qz13 qz14 qz92 qz115 qz116 qz117 qz181 qz226 qz274 qz309 o), qz1, qz62, qz92, qz181, qz226, qz274, hz345, tg14, ⟨qz115, qz116, qz117, 0, 0, 0, 0, 0, false, false, 0, _, _, ⟨hz354, hz355, hz356, hz357, ne123⟩, by decide, tg6, tg7, tg8, tg9⟩, ⟨_, hz358, tg10⟩, ⟨_, hz359, tg11⟩, ⟨qz309, 0, 16, 0, _, ⟨hz360, hz361, by decide, by decide, sb_fit0⟩, by decide, tg12, tg13, Or.inl rfl⟩, ⟨qz10, qz11, qz12, qz13, qz14, 0, 0, _, _, _, _, ⟨⟨hz347, hz348, hz349, hz350, hz351, hz352⟩, ne29, ⟨tg0, tg1, tg2, tg3, tg4, tg5⟩, rfl, by decide, rfl, by decide, fun j hj => absurd hj (Nat.not_lt_zero j), fun j hj => rfl⟩, ⟨fun i hi => absurd hi (Nat.not_lt_zero i), fun i _ _ => rfl⟩⟩, ⟨fun _ => none, fun _ => S00, hz353, tg15, by decide, fun i q _ e => (by cases e), fun i hi => absurd hi (Nat.not_lt_zero i), fun i j q _ _ e => (by cases e)⟩⟩) dX5_init_62

