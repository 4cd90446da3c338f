/-! THE REFERENCE: a new one -/
theorem ne_none {f : mE} {x y : Nat} {e : va_E} (hx : f x = some e) (hy : f y = none) : x ≠ y := fun h => by rw [h, hy] at hx; cases hx
theorem mm_self {G : mG} {A : Nat → Prop} {H0 Hp : Heap} {f : mE} {x : Nat} {e : Option va_E} {lcs : List Loc} (_ : mM G A H0 (va_up f x e) Hp lcs) : va_up f x e x = e := va_up_self _ _ _
def PV (G : mG) (f : mE) (o q0 q1 q2 q3 q4 q5 : Nat) (N V : Nat → Int32) : Prop :=
  f o = some (.inr (7, [.ref q0, .ref q1, .ref q2, .int 0, .int 0, .int 0, .ref q3, .ref q4, .int 0, .int 0, .int 0, .ref q5, .int 0, .int (-100005)])) ∧ f q0 = some (mI G 1113 N) ∧ f q1 = some (mI G 26 V) ∧ f q2 = some (mI G 8904 (fun _ => 0)) ∧ f q3 = some (mI G 7 (fun _ => 0)) ∧ f q4 = some (mI G 7 (fun _ => 0)) ∧ f q5 = some (mI G 300 (fun _ => 0)) ∧ q3 ≠ q4
theorem PV.setN {G : mG} {f : mE} {o q0 q1 q2 q3 q4 q5 : Nat} {N V : Nat → Int32} (h : PV G f o q0 q1 q2 q3 q4 q5 N V) (T : Nat → Int32) : PV G (va_up f q0 (some (mI G 1113 T))) o q0 q1 q2 q3 q4 q5 T V := by
  obtain ⟨h1, h2, h3, h4, h5, h6, h7, h8⟩ := h
  exact ⟨(va_up_ne _ _ (ne_oi h1 h2)).trans h1, va_up_self _ _ _, (va_up_ne _ _ (ne_len h3 h2 (by decide))).trans h3, (va_up_ne _ _ (ne_len h4 h2 (by decide))).trans h4, (va_up_ne _ _ (ne_len h5 h2 (by decide))).trans h5, (va_up_ne _ _ (ne_len h6 h2 (by decide))).trans h6, (va_up_ne _ _ (ne_len h7 h2 (by decide))).trans h7, h8⟩
theorem PV.setV {G : mG} {f : mE} {o q0 q1 q2 q3 q4 q5 : Nat} {N V : Nat → Int32} (h : PV G f o q0 q1 q2 q3 q4 q5 N V) (T : Nat → Int32) : PV G (va_up f q1 (some (mI G 26 T))) o q0 q1 q2 q3 q4 q5 N T := by
  obtain ⟨h1, h2, h3, h4, h5, h6, h7, h8⟩ := h
  exact ⟨(va_up_ne _ _ (ne_oi h1 h3)).trans h1, (va_up_ne _ _ (ne_len h2 h3 (by decide))).trans h2, va_up_self _ _ _, (va_up_ne _ _ (ne_len h4 h3 (by decide))).trans h4, (va_up_ne _ _ (ne_len h5 h3 (by decide))).trans h5, (va_up_ne _ _ (ne_len h6 h3 (by decide))).trans h6, (va_up_ne _ _ (ne_len h7 h3 (by decide))).trans h7, h8⟩
set_option maxRecDepth 100000 in
theorem voc_at : ∀ j, j < 26 → ((upd (upd (upd (upd (upd (upd (upd (upd (upd (upd (upd (upd (upd (upd (upd (upd (upd (upd (upd (upd (upd (upd (upd (upd (upd (upd (fun _ => 0) 0 (spellF (nI 105) (nI 102) (nI 0) (nI 0) (nI 0) (nI 0))) 1 (spellF (nI 97) (nI 110) (nI 100) (nI 0) (nI 0) (nI 0))) 2 (spellF (nI 116) (nI 104) (nI 101) (nI 110) (nI 0) (nI 0))) 3 (spellF (nI 109) (nI 101) (nI 97) (nI 110) (nI 115) (nI 0))) 4 (spellF (nI 105) (nI 115) (nI 0) (nI 0) (nI 0) (nI 0))) 5 (spellF (nI 111) (nI 118) (nI 101) (nI 114) (nI 0) (nI 0))) 6 (spellF (nI 117) (nI 110) (nI 100) (nI 101) (nI 114) (nI 0))) 7 (spellF (nI 110) (nI 111) (nI 116) (nI 0) (nI 0) (nI 0))) 8 (spellF (nI 102) (nI 114) (nI 111) (nI 109) (nI 0) (nI 0))) 9 (spellF (nI 117) (nI 110) (nI 116) (nI 105) (nI 108) (nI 0))) 10 (spellF (nI 97) (nI 103) (nI 101) (nI 0) (nI 0) (nI 0))) 11 (spellF (nI 105) (nI 110) (nI 99) (nI 111) (nI 109) (nI 101))) 12 (spellF (nI 115) (nI 105) (nI 122) (nI 101) (nI 0) (nI 0))) 13 (spellF (nI 99) (nI 111) (nI 117) (nI 110) (nI 116) (nI 0))) 14 (spellF (nI 98) (nI 105) (nI 114) (nI 116) (nI 104) (nI 0))) 15 (spellF (nI 101) (nI 110) (nI 116) (nI 114) (nI 121) (nI 0))) 16 (spellF (nI 109) (nI 105) (nI 110) (nI 111) (nI 114) (nI 0))) 17 (spellF (nI 115) (nI 101) (nI 110) (nI 105) (nI 111) (nI 114))) 18 (spellF (nI 115) (nI 109) (nI 97) (nI 108) (nI 108) (nI 0))) 19 (spellF (nI 108) (nI 97) (nI 114) (nI 103) (nI 101) (nI 0))) 20 (spellF (nI 101) (nI 97) (nI 114) (nI 108) (nI 121) (nI 0))) 21 (spellF (nI 108) (nI 97) (nI 116) (nI 101) (nI 0) (nI 0))) 22 (spellF (nI 102) (nI 101) (nI 101) (nI 0) (nI 0) (nI 0))) 23 (spellF (nI 114) (nI 97) (nI 116) (nI 101) (nI 0) (nI 0))) 24 (spellF (nI 108) (nI 105) (nI 109) (nI 105) (nI 116) (nI 0))) 25 (spellF (nI 103) (nI 114) (nI 97) (nI 100) (nI 101) (nI 0)))) j = vocF j := by decide +kernel
theorem voc_out {j : Nat} (h : 26 ≤ j) : ((upd (upd (upd (upd (upd (upd (upd (upd (upd (upd (upd (upd (upd (upd (upd (upd (upd (upd (upd (upd (upd (upd (upd (upd (upd (upd (fun _ => 0) 0 (spellF (nI 105) (nI 102) (nI 0) (nI 0) (nI 0) (nI 0))) 1 (spellF (nI 97) (nI 110) (nI 100) (nI 0) (nI 0) (nI 0))) 2 (spellF (nI 116) (nI 104) (nI 101) (nI 110) (nI 0) (nI 0))) 3 (spellF (nI 109) (nI 101) (nI 97) (nI 110) (nI 115) (nI 0))) 4 (spellF (nI 105) (nI 115) (nI 0) (nI 0) (nI 0) (nI 0))) 5 (spellF (nI 111) (nI 118) (nI 101) (nI 114) (nI 0) (nI 0))) 6 (spellF (nI 117) (nI 110) (nI 100) (nI 101) (nI 114) (nI 0))) 7 (spellF (nI 110) (nI 111) (nI 116) (nI 0) (nI 0) (nI 0))) 8 (spellF (nI 102) (nI 114) (nI 111) (nI 109) (nI 0) (nI 0))) 9 (spellF (nI 117) (nI 110) (nI 116) (nI 105) (nI 108) (nI 0))) 10 (spellF (nI 97) (nI 103) (nI 101) (nI 0) (nI 0) (nI 0))) 11 (spellF (nI 105) (nI 110) (nI 99) (nI 111) (nI 109) (nI 101))) 12 (spellF (nI 115) (nI 105) (nI 122) (nI 101) (nI 0) (nI 0))) 13 (spellF (nI 99) (nI 111) (nI 117) (nI 110) (nI 116) (nI 0))) 14 (spellF (nI 98) (nI 105) (nI 114) (nI 116) (nI 104) (nI 0))) 15 (spellF (nI 101) (nI 110) (nI 116) (nI 114) (nI 121) (nI 0))) 16 (spellF (nI 109) (nI 105) (nI 110) (nI 111) (nI 114) (nI 0))) 17 (spellF (nI 115) (nI 101) (nI 110) (nI 105) (nI 111) (nI 114))) 18 (spellF (nI 115) (nI 109) (nI 97) (nI 108) (nI 108) (nI 0))) 19 (spellF (nI 108) (nI 97) (nI 114) (nI 103) (nI 101) (nI 0))) 20 (spellF (nI 101) (nI 97) (nI 114) (nI 108) (nI 121) (nI 0))) 21 (spellF (nI 108) (nI 97) (nI 116) (nI 101) (nI 0) (nI 0))) 22 (spellF (nI 102) (nI 101) (nI 101) (nI 0) (nI 0) (nI 0))) 23 (spellF (nI 114) (nI 97) (nI 116) (nI 101) (nI 0) (nI 0))) 24 (spellF (nI 108) (nI 105) (nI 109) (nI 105) (nI 116) (nI 0))) 25 (spellF (nI 103) (nI 114) (nI 97) (nI 100) (nI 101) (nI 0)))) j = vocF j := by
  rw [vocF, List.getD_eq_getElem?_getD, List.getElem?_eq_none (by exact h)]
  repeat rw [pk_un (by omega)]
  rfl
theorem voc_end : (upd (upd (upd (upd (upd (upd (upd (upd (upd (upd (upd (upd (upd (upd (upd (upd (upd (upd (upd (upd (upd (upd (upd (upd (upd (upd (fun _ => 0) 0 (spellF (nI 105) (nI 102) (nI 0) (nI 0) (nI 0) (nI 0))) 1 (spellF (nI 97) (nI 110) (nI 100) (nI 0) (nI 0) (nI 0))) 2 (spellF (nI 116) (nI 104) (nI 101) (nI 110) (nI 0) (nI 0))) 3 (spellF (nI 109) (nI 101) (nI 97) (nI 110) (nI 115) (nI 0))) 4 (spellF (nI 105) (nI 115) (nI 0) (nI 0) (nI 0) (nI 0))) 5 (spellF (nI 111) (nI 118) (nI 101) (nI 114) (nI 0) (nI 0))) 6 (spellF (nI 117) (nI 110) (nI 100) (nI 101) (nI 114) (nI 0))) 7 (spellF (nI 110) (nI 111) (nI 116) (nI 0) (nI 0) (nI 0))) 8 (spellF (nI 102) (nI 114) (nI 111) (nI 109) (nI 0) (nI 0))) 9 (spellF (nI 117) (nI 110) (nI 116) (nI 105) (nI 108) (nI 0))) 10 (spellF (nI 97) (nI 103) (nI 101) (nI 0) (nI 0) (nI 0))) 11 (spellF (nI 105) (nI 110) (nI 99) (nI 111) (nI 109) (nI 101))) 12 (spellF (nI 115) (nI 105) (nI 122) (nI 101) (nI 0) (nI 0))) 13 (spellF (nI 99) (nI 111) (nI 117) (nI 110) (nI 116) (nI 0))) 14 (spellF (nI 98) (nI 105) (nI 114) (nI 116) (nI 104) (nI 0))) 15 (spellF (nI 101) (nI 110) (nI 116) (nI 114) (nI 121) (nI 0))) 16 (spellF (nI 109) (nI 105) (nI 110) (nI 111) (nI 114) (nI 0))) 17 (spellF (nI 115) (nI 101) (nI 110) (nI 105) (nI 111) (nI 114))) 18 (spellF (nI 115) (nI 109) (nI 97) (nI 108) (nI 108) (nI 0))) 19 (spellF (nI 108) (nI 97) (nI 114) (nI 103) (nI 101) (nI 0))) 20 (spellF (nI 101) (nI 97) (nI 114) (nI 108) (nI 121) (nI 0))) 21 (spellF (nI 108) (nI 97) (nI 116) (nI 101) (nI 0) (nI 0))) 22 (spellF (nI 102) (nI 101) (nI 101) (nI 0) (nI 0) (nI 0))) 23 (spellF (nI 114) (nI 97) (nI 116) (nI 101) (nI 0) (nI 0))) 24 (spellF (nI 108) (nI 105) (nI 109) (nI 105) (nI 116) (nI 0))) 25 (spellF (nI 103) (nI 114) (nI 97) (nI 100) (nI 101) (nI 0))) = vocF := by
  funext j
  rcases Nat.lt_or_ge j 26 with h | h
  · exact voc_at j h
  · exact voc_out h
set_option maxHeartbeats 4000000 in
set_option maxRecDepth 100000 in
theorem c6_init (l : Launch) (G : mG) {f : mE} {o : Nat} (ho : f o = some (.inr (7, [.null, .null, .null, .int 0, .int 0, .int 0, .null, .null, .int 0, .int 0, .int 0, .null, .int 0, .int 0]))) : mC l G yX6_init wsX6_init ({ frames := 2, cells := 6, slots := 10357, locals := 46 } : Room) f [.ref o] (fun v f1 => v = none ∧ ∃ a : Nat → Nat, RI G f1 o a (upd (fun _ => 0) 6 (nI 36524)) (fun _ => 0) (fun _ => 0) (fun _ => 0) (fun _ => 0) 0 0 0 0 0 0 0 (-100005)) 6 10357 := by
  refine mC.of (cc := cX6_init) (maxL := 1) (ret := none) (by decide) rfl (Nat.le_of_ble_eq_true rfl) ?_
  intro pgm env s mt args below meth c A ls hx hb hml hr hlocks hown hname hts hK hE hA hM hl
  have hl : lv_has ls 1 [(0, .ref o)] := hl
  refine lv_aload_n hx hb dX6_init_0 rfl (lv_at hl 0 rfl) ?_
  refine W.objInit hx hb hown (hts (.methodLink RX6 1 objectInit) (List.mem_of_getElem? (i := 1) rfl)) (hts (.instanceMethod objectInit) (List.mem_of_getElem? (i := 2) rfl)) (hts _ (List.mem_of_getElem? (i := 3) rfl)) rfl (by rw [hml]; exact hl.1) rfl dX6_init_1 (Nat.le_of_ble_eq_true rfl) (Nat.le_of_ble_eq_true rfl) ?_
  refine W.eq (g2 := F0 mt 4 ls []) rfl ?_
  refine lv_aload_n hx hb dX6_init_4 rfl (lv_at hl 0 rfl) ?_
  refine lv_sipush (v := (nI 1113)) hx hb dX6_init_5 (by decide +kernel) ?_
  refine mm_newI hx hb (hts (.arrayClass .int) (List.mem_of_getElem? (i := 4) rfl)) hK hM hA 1113 (by decide) (by decide) (Nat.le_of_ble_eq_true rfl) (Nat.le_of_ble_eq_true rfl) (Nat.le_of_ble_eq_true rfl) dX6_init_8 (fun qz1 Hp nz2 hM => ?_)
  have hoq := ne_none ho nz2
  have ho := (va_up_ne _ (some (mI G 1113 (fun _ => 0))) hoq).trans ho
  have ha0 := mm_self hM
  refine mm_putF (C := RX6) (T := TX6) (N := 14) (k := 0) hx hb hts (fun _ h => List.mem_cons_of_mem _ (List.mem_append_right _ h)) tyX6 tyX6_ok nmX6 hown hK hM ho rfl (by decide) (hts (.fieldLink RX6 7 "SentenceRulesModel" "now" "[I") (List.mem_of_getElem? (i := 5) rfl)) rfl rfl hname rfl rfl rfl (Nat.le_of_ble_eq_true rfl) dX6_init_10 (fun Hp lcs hM => ?_)
  have ha0 := (va_up_ne _ (some (Sum.inr (7, [.ref qz1, .null, .null, .int 0, .int 0, .int 0, .null, .null, .int 0, .int 0, .int 0, .null, .int 0, .int 0]))) (ne_oi ho ha0).symm).trans ha0
  have ho := mm_self hM
  refine lv_aload_n hx hb dX6_init_13 rfl (lv_at hl 0 rfl) ?_
  refine lv_bipush (v := (nI 26)) hx hb dX6_init_14 (by decide +kernel) ?_
  refine mm_newI hx hb (hts (.arrayClass .int) (List.mem_of_getElem? (i := 4) rfl)) hK hM hA 26 (by decide) (by decide) (Nat.le_of_ble_eq_true rfl) (Nat.le_of_ble_eq_true rfl) (Nat.le_of_ble_eq_true rfl) dX6_init_16 (fun qz3 Hp nz4 hM => ?_)
  have hoq := ne_none ho nz4
  have ho := (va_up_ne _ (some (mI G 26 (fun _ => 0))) hoq).trans ho
  have he0_1 := ne_none ha0 nz4
  have ha0 := (va_up_ne _ (some (mI G 26 (fun _ => 0))) he0_1).trans ha0
  have ha1 := mm_self hM
  refine mm_putF (C := RX6) (T := TX6) (N := 14) (k := 1) hx hb hts (fun _ h => List.mem_cons_of_mem _ (List.mem_append_right _ h)) tyX6 tyX6_ok nmX6 hown hK hM ho rfl (by decide) (hts (.fieldLink RX6 13 "SentenceRulesModel" "vocabulary" "[I") (List.mem_of_getElem? (i := 6) rfl)) rfl rfl hname rfl rfl rfl (Nat.le_of_ble_eq_true rfl) dX6_init_18 (fun Hp lcs hM => ?_)
  have ha0 := (va_up_ne _ (some (Sum.inr (7, [.ref qz1, .ref qz3, .null, .int 0, .int 0, .int 0, .null, .null, .int 0, .int 0, .int 0, .null, .int 0, .int 0]))) (ne_oi ho ha0).symm).trans ha0
  have ha1 := (va_up_ne _ (some (Sum.inr (7, [.ref qz1, .ref qz3, .null, .int 0, .int 0, .int 0, .null, .null, .int 0, .int 0, .int 0, .null, .int 0, .int 0]))) (ne_oi ho ha1).symm).trans ha1
  have ho := mm_self hM
  refine lv_aload_n hx hb dX6_init_21 rfl (lv_at hl 0 rfl) ?_
  refine lv_sipush (v := (nI 8904)) hx hb dX6_init_22 (by decide +kernel) ?_
  refine mm_newI hx hb (hts (.arrayClass .int) (List.mem_of_getElem? (i := 4) rfl)) hK hM hA 8904 (by decide) (by decide) (Nat.le_of_ble_eq_true rfl) (Nat.le_of_ble_eq_true rfl) (Nat.le_of_ble_eq_true rfl) dX6_init_25 (fun qz5 Hp nz6 hM => ?_)
  have hoq := ne_none ho nz6
  have ho := (va_up_ne _ (some (mI G 8904 (fun _ => 0))) hoq).trans ho
  have he0_2 := ne_none ha0 nz6
  have ha0 := (va_up_ne _ (some (mI G 8904 (fun _ => 0))) he0_2).trans ha0
  have he1_2 := ne_none ha1 nz6
  have ha1 := (va_up_ne _ (some (mI G 8904 (fun _ => 0))) he1_2).trans ha1
  have ha2 := mm_self hM
  refine mm_putF (C := RX6) (T := TX6) (N := 14) (k := 2) hx hb hts (fun _ h => List.mem_cons_of_mem _ (List.mem_append_right _ h)) tyX6 tyX6_ok nmX6 hown hK hM ho rfl (by decide) (hts (.fieldLink RX6 16 "SentenceRulesModel" "past" "[I") (List.mem_of_getElem? (i := 7) rfl)) rfl rfl hname rfl rfl rfl (Nat.le_of_ble_eq_true rfl) dX6_init_27 (fun Hp lcs hM => ?_)
  have ha0 := (va_up_ne _ (some (Sum.inr (7, [.ref qz1, .ref qz3, .ref qz5, .int 0, .int 0, .int 0, .null, .null, .int 0, .int 0, .int 0, .null, .int 0, .int 0]))) (ne_oi ho ha0).symm).trans ha0
  have ha1 := (va_up_ne _ (some (Sum.inr (7, [.ref qz1, .ref qz3, .ref qz5, .int 0, .int 0, .int 0, .null, .null, .int 0, .int 0, .int 0, .null, .int 0, .int 0]))) (ne_oi ho ha1).symm).trans ha1
  have ha2 := (va_up_ne _ (some (Sum.inr (7, [.ref qz1, .ref qz3, .ref qz5, .int 0, .int 0, .int 0, .null, .null, .int 0, .int 0, .int 0, .null, .int 0, .int 0]))) (ne_oi ho ha2).symm).trans ha2
  have ho := mm_self hM
  refine lv_aload_n hx hb dX6_init_30 rfl (lv_at hl 0 rfl) ?_
  refine lv_bipush (v := (nI 7)) hx hb dX6_init_31 (by decide +kernel) ?_
  refine mm_newI hx hb (hts (.arrayClass .int) (List.mem_of_getElem? (i := 4) rfl)) hK hM hA 7 (by decide) (by decide) (Nat.le_of_ble_eq_true rfl) (Nat.le_of_ble_eq_true rfl) (Nat.le_of_ble_eq_true rfl) dX6_init_33 (fun qz7 Hp nz8 hM => ?_)
  have hoq := ne_none ho nz8
  have ho := (va_up_ne _ (some (mI G 7 (fun _ => 0))) hoq).trans ho
  have he0_3 := ne_none ha0 nz8
  have ha0 := (va_up_ne _ (some (mI G 7 (fun _ => 0))) he0_3).trans ha0
  have he1_3 := ne_none ha1 nz8
  have ha1 := (va_up_ne _ (some (mI G 7 (fun _ => 0))) he1_3).trans ha1
  have he2_3 := ne_none ha2 nz8
  have ha2 := (va_up_ne _ (some (mI G 7 (fun _ => 0))) he2_3).trans ha2
  have ha3 := mm_self hM
  refine mm_putF (C := RX6) (T := TX6) (N := 14) (k := 6) hx hb hts (fun _ h => List.mem_cons_of_mem _ (List.mem_append_right _ h)) tyX6 tyX6_ok nmX6 hown hK hM ho rfl (by decide) (hts (.fieldLink RX6 19 "SentenceRulesModel" "low" "[I") (List.mem_of_getElem? (i := 8) rfl)) rfl rfl hname rfl rfl rfl (Nat.le_of_ble_eq_true rfl) dX6_init_35 (fun Hp lcs hM => ?_)
  have ha0 := (va_up_ne _ (some (Sum.inr (7, [.ref qz1, .ref qz3, .ref qz5, .int 0, .int 0, .int 0, .ref qz7, .null, .int 0, .int 0, .int 0, .null, .int 0, .int 0]))) (ne_oi ho ha0).symm).trans ha0
  have ha1 := (va_up_ne _ (some (Sum.inr (7, [.ref qz1, .ref qz3, .ref qz5, .int 0, .int 0, .int 0, .ref qz7, .null, .int 0, .int 0, .int 0, .null, .int 0, .int 0]))) (ne_oi ho ha1).symm).trans ha1
  have ha2 := (va_up_ne _ (some (Sum.inr (7, [.ref qz1, .ref qz3, .ref qz5, .int 0, .int 0, .int 0, .ref qz7, .null, .int 0, .int 0, .int 0, .null, .int 0, .int 0]))) (ne_oi ho ha2).symm).trans ha2
  have ha3 := (va_up_ne _ (some (Sum.inr (7, [.ref qz1, .ref qz3, .ref qz5, .int 0, .int 0, .int 0, .ref qz7, .null, .int 0, .int 0, .int 0, .null, .int 0, .int 0]))) (ne_oi ho ha3).symm).trans ha3
  have ho := mm_self hM
  refine lv_aload_n hx hb dX6_init_38 rfl (lv_at hl 0 rfl) ?_
  refine lv_bipush (v := (nI 7)) hx hb dX6_init_39 (by decide +kernel) ?_
  refine mm_newI hx hb (hts (.arrayClass .int) (List.mem_of_getElem? (i := 4) rfl)) hK hM hA 7 (by decide) (by decide) (Nat.le_of_ble_eq_true rfl) (Nat.le_of_ble_eq_true rfl) (Nat.le_of_ble_eq_true rfl) dX6_init_41 (fun qz9 Hp nz10 hM => ?_)
  have hoq := ne_none ho nz10
  have ho := (va_up_ne _ (some (mI G 7 (fun _ => 0))) hoq).trans ho
  have he0_4 := ne_none ha0 nz10
  have ha0 := (va_up_ne _ (some (mI G 7 (fun _ => 0))) he0_4).trans ha0
  have he1_4 := ne_none ha1 nz10
  have ha1 := (va_up_ne _ (some (mI G 7 (fun _ => 0))) he1_4).trans ha1
  have he2_4 := ne_none ha2 nz10
  have ha2 := (va_up_ne _ (some (mI G 7 (fun _ => 0))) he2_4).trans ha2
  have he3_4 := ne_none ha3 nz10
  have ha3 := (va_up_ne _ (some (mI G 7 (fun _ => 0))) he3_4).trans ha3
  have ha4 := mm_self hM
  refine mm_putF (C := RX6) (T := TX6) (N := 14) (k := 7) hx hb hts (fun _ h => List.mem_cons_of_mem _ (List.mem_append_right _ h)) tyX6 tyX6_ok nmX6 hown hK hM ho rfl (by decide) (hts (.fieldLink RX6 22 "SentenceRulesModel" "high" "[I") (List.mem_of_getElem? (i := 9) rfl)) rfl rfl hname rfl rfl rfl (Nat.le_of_ble_eq_true rfl) dX6_init_43 (fun Hp lcs hM => ?_)
  have ha0 := (va_up_ne _ (some (Sum.inr (7, [.ref qz1, .ref qz3, .ref qz5, .int 0, .int 0, .int 0, .ref qz7, .ref qz9, .int 0, .int 0, .int 0, .null, .int 0, .int 0]))) (ne_oi ho ha0).symm).trans ha0
  have ha1 := (va_up_ne _ (some (Sum.inr (7, [.ref qz1, .ref qz3, .ref qz5, .int 0, .int 0, .int 0, .ref qz7, .ref qz9, .int 0, .int 0, .int 0, .null, .int 0, .int 0]))) (ne_oi ho ha1).symm).trans ha1
  have ha2 := (va_up_ne _ (some (Sum.inr (7, [.ref qz1, .ref qz3, .ref qz5, .int 0, .int 0, .int 0, .ref qz7, .ref qz9, .int 0, .int 0, .int 0, .null, .int 0, .int 0]))) (ne_oi ho ha2).symm).trans ha2
  have ha3 := (va_up_ne _ (some (Sum.inr (7, [.ref qz1, .ref qz3, .ref qz5, .int 0, .int 0, .int 0, .ref qz7, .ref qz9, .int 0, .int 0, .int 0, .null, .int 0, .int 0]))) (ne_oi ho ha3).symm).trans ha3
  have ha4 := (va_up_ne _ (some (Sum.inr (7, [.ref qz1, .ref qz3, .ref qz5, .int 0, .int 0, .int 0, .ref qz7, .ref qz9, .int 0, .int 0, .int 0, .null, .int 0, .int 0]))) (ne_oi ho ha4).symm).trans ha4
  have ho := mm_self hM
  refine lv_aload_n hx hb dX6_init_46 rfl (lv_at hl 0 rfl) ?_
  refine lv_sipush (v := (nI 300)) hx hb dX6_init_47 (by decide +kernel) ?_
  refine mm_newI hx hb (hts (.arrayClass .int) (List.mem_of_getElem? (i := 4) rfl)) hK hM hA 300 (by decide) (by decide) (Nat.le_of_ble_eq_true rfl) (Nat.le_of_ble_eq_true rfl) (Nat.le_of_ble_eq_true rfl) dX6_init_50 (fun qz11 Hp nz12 hM => ?_)
  have hoq := ne_none ho nz12
  have ho := (va_up_ne _ (some (mI G 300 (fun _ => 0))) hoq).trans ho
  have he0_5 := ne_none ha0 nz12
  have ha0 := (va_up_ne _ (some (mI G 300 (fun _ => 0))) he0_5).trans ha0
  have he1_5 := ne_none ha1 nz12
  have ha1 := (va_up_ne _ (some (mI G 300 (fun _ => 0))) he1_5).trans ha1
  have he2_5 := ne_none ha2 nz12
  have ha2 := (va_up_ne _ (some (mI G 300 (fun _ => 0))) he2_5).trans ha2
  have he3_5 := ne_none ha3 nz12
  have ha3 := (va_up_ne _ (some (mI G 300 (fun _ => 0))) he3_5).trans ha3
  have he4_5 := ne_none ha4 nz12
  have ha4 := (va_up_ne _ (some (mI G 300 (fun _ => 0))) he4_5).trans ha4
  have ha5 := mm_self hM
  refine mm_putF (C := RX6) (T := TX6) (N := 14) (k := 11) hx hb hts (fun _ h => List.mem_cons_of_mem _ (List.mem_append_right _ h)) tyX6 tyX6_ok nmX6 hown hK hM ho rfl (by decide) (hts (.fieldLink RX6 25 "SentenceRulesModel" "out" "[I") (List.mem_of_getElem? (i := 10) rfl)) rfl rfl hname rfl rfl rfl (Nat.le_of_ble_eq_true rfl) dX6_init_52 (fun Hp lcs hM => ?_)
  have ha0 := (va_up_ne _ (some (Sum.inr (7, [.ref qz1, .ref qz3, .ref qz5, .int 0, .int 0, .int 0, .ref qz7, .ref qz9, .int 0, .int 0, .int 0, .ref qz11, .int 0, .int 0]))) (ne_oi ho ha0).symm).trans ha0
  have ha1 := (va_up_ne _ (some (Sum.inr (7, [.ref qz1, .ref qz3, .ref qz5, .int 0, .int 0, .int 0, .ref qz7, .ref qz9, .int 0, .int 0, .int 0, .ref qz11, .int 0, .int 0]))) (ne_oi ho ha1).symm).trans ha1
  have ha2 := (va_up_ne _ (some (Sum.inr (7, [.ref qz1, .ref qz3, .ref qz5, .int 0, .int 0, .int 0, .ref qz7, .ref qz9, .int 0, .int 0, .int 0, .ref qz11, .int 0, .int 0]))) (ne_oi ho ha2).symm).trans ha2
  have ha3 := (va_up_ne _ (some (Sum.inr (7, [.ref qz1, .ref qz3, .ref qz5, .int 0, .int 0, .int 0, .ref qz7, .ref qz9, .int 0, .int 0, .int 0, .ref qz11, .int 0, .int 0]))) (ne_oi ho ha3).symm).trans ha3
  have ha4 := (va_up_ne _ (some (Sum.inr (7, [.ref qz1, .ref qz3, .ref qz5, .int 0, .int 0, .int 0, .ref qz7, .ref qz9, .int 0, .int 0, .int 0, .ref qz11, .int 0, .int 0]))) (ne_oi ho ha4).symm).trans ha4
  have ha5 := (va_up_ne _ (some (Sum.inr (7, [.ref qz1, .ref qz3, .ref qz5, .int 0, .int 0, .int 0, .ref qz7, .ref qz9, .int 0, .int 0, .int 0, .ref qz11, .int 0, .int 0]))) (ne_oi ho ha5).symm).trans ha5
  have ho := mm_self hM
  refine lv_aload_n hx hb dX6_init_55 rfl (lv_at hl 0 rfl) ?_
  refine lv_ldc (v := (-100005)) hx hb hown (hts (.constant RX6 28 (-100005)) (List.mem_of_getElem? (i := 11) rfl)) dX6_init_56 ?_
  refine mm_put (C := RX6) (T := TX6) (N := 14) (k := 13) hx hb hts (fun _ h => List.mem_cons_of_mem _ (List.mem_append_right _ h)) tyX6 tyX6_ok nmX6 hown hK hM ho rfl (by decide) (hts (.fieldLink RX6 29 "SentenceRulesModel" "without" "I") (List.mem_of_getElem? (i := 12) rfl)) rfl rfl rfl rfl (Nat.le_of_ble_eq_true rfl) dX6_init_58 (fun Hp lcs hM => ?_)
  have ha0 := (va_up_ne _ (some (Sum.inr (7, [.ref qz1, .ref qz3, .ref qz5, .int 0, .int 0, .int 0, .ref qz7, .ref qz9, .int 0, .int 0, .int 0, .ref qz11, .int 0, .int (-100005)]))) (ne_oi ho ha0).symm).trans ha0
  have ha1 := (va_up_ne _ (some (Sum.inr (7, [.ref qz1, .ref qz3, .ref qz5, .int 0, .int 0, .int 0, .ref qz7, .ref qz9, .int 0, .int 0, .int 0, .ref qz11, .int 0, .int (-100005)]))) (ne_oi ho ha1).symm).trans ha1
  have ha2 := (va_up_ne _ (some (Sum.inr (7, [.ref qz1, .ref qz3, .ref qz5, .int 0, .int 0, .int 0, .ref qz7, .ref qz9, .int 0, .int 0, .int 0, .ref qz11, .int 0, .int (-100005)]))) (ne_oi ho ha2).symm).trans ha2
  have ha3 := (va_up_ne _ (some (Sum.inr (7, [.ref qz1, .ref qz3, .ref qz5, .int 0, .int 0, .int 0, .ref qz7, .ref qz9, .int 0, .int 0, .int 0, .ref qz11, .int 0, .int (-100005)]))) (ne_oi ho ha3).symm).trans ha3
  have ha4 := (va_up_ne _ (some (Sum.inr (7, [.ref qz1, .ref qz3, .ref qz5, .int 0, .int 0, .int 0, .ref qz7, .ref qz9, .int 0, .int 0, .int 0, .ref qz11, .int 0, .int (-100005)]))) (ne_oi ho ha4).symm).trans ha4
  have ha5 := (va_up_ne _ (some (Sum.inr (7, [.ref qz1, .ref qz3, .ref qz5, .int 0, .int 0, .int 0, .ref qz7, .ref qz9, .int 0, .int 0, .int 0, .ref qz11, .int 0, .int (-100005)]))) (ne_oi ho ha5).symm).trans ha5
  have ho := mm_self hM
  have hJ : PV G _ o qz1 qz3 qz5 qz7 qz9 qz11 (fun _ => 0) (fun _ => 0) := ⟨ho, ha0, ha1, ha2, ha3, ha4, ha5, he3_4⟩
  refine lv_aload_n hx hb dX6_init_61 rfl (lv_at hl 0 rfl) ?_
  refine mm_get (C := RX6) (T := TX6) (N := 14) (k := 0) hx hb hts (fun _ h => List.mem_cons_of_mem _ (List.mem_append_right _ h)) hown hK hM (hJ.1) rfl (by decide) (hts (.fieldLink RX6 7 "SentenceRulesModel" "now" "[I") (List.mem_of_getElem? (i := 5) rfl)) rfl rfl dX6_init_62 ?_
  refine lv_bipush (v := (nI 6)) hx hb dX6_init_65 (by decide +kernel) ?_
  refine lv_ldc (v := (nI 36524)) hx hb hown (hts (.constant RX6 33 (36524)) (List.mem_of_getElem? (i := 13) rfl)) dX6_init_67 ?_
  refine mn_iast hx hb hK hM (hJ.2.1) 6 (by omega) (by decide) dX6_init_69 (fun Hp lcs hM => ?_)
  have hJ := hJ.setN (upd (fun _ => 0) 6 (nI 36524))
  refine lv_aload_n hx hb dX6_init_70 rfl (lv_at hl 0 rfl) ?_
  refine mm_get (C := RX6) (T := TX6) (N := 14) (k := 1) hx hb hts (fun _ h => List.mem_cons_of_mem _ (List.mem_append_right _ h)) hown hK hM (hJ.1) rfl (by decide) (hts (.fieldLink RX6 13 "SentenceRulesModel" "vocabulary" "[I") (List.mem_of_getElem? (i := 6) rfl)) rfl rfl dX6_init_71 ?_
  refine lv_iconst (v := (nI 0)) hx hb dX6_init_74 (by decide +kernel) ?_
  refine lv_bipush (v := (nI 105)) hx hb dX6_init_75 (by decide +kernel) ?_
  refine lv_bipush (v := (nI 102)) hx hb dX6_init_77 (by decide +kernel) ?_
  refine lv_iconst (v := (nI 0)) hx hb dX6_init_79 (by decide +kernel) ?_
  refine lv_iconst (v := (nI 0)) hx hb dX6_init_80 (by decide +kernel) ?_
  refine lv_iconst (v := (nI 0)) hx hb dX6_init_81 (by decide +kernel) ?_
  refine lv_iconst (v := (nI 0)) hx hb dX6_init_82 (by decide +kernel) ?_
  refine mm_S (As := [.int (nI 105), .int (nI 102), .int (nI 0), .int (nI 0), .int (nI 0), .int (nI 0)]) (rest := [.int (nI 0), .ref qz3]) ⟨hx, hb, hml, hown, hts⟩ (c6_spell l G _ (nI 105) (nI 102) (nI 0) (nI 0) (nI 0) (nI 0)) (va_cwS 6 hts gX6_init_X6_spell rfl rfl rfl (by decide +kernel) ⟨Nat.le_of_ble_eq_true rfl, Nat.le_of_ble_eq_true rfl⟩) hK hE hA hM rfl hl.1 rfl (Nat.le_of_ble_eq_true rfl) dX6_init_83 ⟨Nat.le_of_ble_eq_true rfl, Nat.le_of_ble_eq_true rfl⟩ (fun v f1 Hp lcs hp hM => ?_)
  obtain ⟨rfl, hf⟩ := hp; subst hf
  refine mn_iast hx hb hK hM (hJ.2.2.1) 0 (by omega) (by decide) dX6_init_86 (fun Hp lcs hM => ?_)
  have hJ := hJ.setV (upd (fun _ => 0) 0 (spellF (nI 105) (nI 102) (nI 0) (nI 0) (nI 0) (nI 0)))
  refine lv_aload_n hx hb dX6_init_87 rfl (lv_at hl 0 rfl) ?_
  refine mm_get (C := RX6) (T := TX6) (N := 14) (k := 1) hx hb hts (fun _ h => List.mem_cons_of_mem _ (List.mem_append_right _ h)) hown hK hM (hJ.1) rfl (by decide) (hts (.fieldLink RX6 13 "SentenceRulesModel" "vocabulary" "[I") (List.mem_of_getElem? (i := 6) rfl)) rfl rfl dX6_init_88 ?_
  refine lv_iconst (v := (nI 1)) hx hb dX6_init_91 (by decide +kernel) ?_
  refine lv_bipush (v := (nI 97)) hx hb dX6_init_92 (by decide +kernel) ?_
  refine lv_bipush (v := (nI 110)) hx hb dX6_init_94 (by decide +kernel) ?_
  refine lv_bipush (v := (nI 100)) hx hb dX6_init_96 (by decide +kernel) ?_
  refine lv_iconst (v := (nI 0)) hx hb dX6_init_98 (by decide +kernel) ?_
  refine lv_iconst (v := (nI 0)) hx hb dX6_init_99 (by decide +kernel) ?_
  refine lv_iconst (v := (nI 0)) hx hb dX6_init_100 (by decide +kernel) ?_
  refine mm_S (As := [.int (nI 97), .int (nI 110), .int (nI 100), .int (nI 0), .int (nI 0), .int (nI 0)]) (rest := [.int (nI 1), .ref qz3]) ⟨hx, hb, hml, hown, hts⟩ (c6_spell l G _ (nI 97) (nI 110) (nI 100) (nI 0) (nI 0) (nI 0)) (va_cwS 6 hts gX6_init_X6_spell rfl rfl rfl (by decide +kernel) ⟨Nat.le_of_ble_eq_true rfl, Nat.le_of_ble_eq_true rfl⟩) hK hE hA hM rfl hl.1 rfl (Nat.le_of_ble_eq_true rfl) dX6_init_101 ⟨Nat.le_of_ble_eq_true rfl, Nat.le_of_ble_eq_true rfl⟩ (fun v f1 Hp lcs hp hM => ?_)
  obtain ⟨rfl, hf⟩ := hp; subst hf
  refine mn_iast hx hb hK hM (hJ.2.2.1) 1 (by omega) (by decide) dX6_init_104 (fun Hp lcs hM => ?_)
  have hJ := hJ.setV (upd (upd (fun _ => 0) 0 (spellF (nI 105) (nI 102) (nI 0) (nI 0) (nI 0) (nI 0))) 1 (spellF (nI 97) (nI 110) (nI 100) (nI 0) (nI 0) (nI 0)))
  refine lv_aload_n hx hb dX6_init_105 rfl (lv_at hl 0 rfl) ?_
  refine mm_get (C := RX6) (T := TX6) (N := 14) (k := 1) hx hb hts (fun _ h => List.mem_cons_of_mem _ (List.mem_append_right _ h)) hown hK hM (hJ.1) rfl (by decide) (hts (.fieldLink RX6 13 "SentenceRulesModel" "vocabulary" "[I") (List.mem_of_getElem? (i := 6) rfl)) rfl rfl dX6_init_106 ?_
  refine lv_iconst (v := (nI 2)) hx hb dX6_init_109 (by decide +kernel) ?_
  refine lv_bipush (v := (nI 116)) hx hb dX6_init_110 (by decide +kernel) ?_
  refine lv_bipush (v := (nI 104)) hx hb dX6_init_112 (by decide +kernel) ?_
  refine lv_bipush (v := (nI 101)) hx hb dX6_init_114 (by decide +kernel) ?_
  refine lv_bipush (v := (nI 110)) hx hb dX6_init_116 (by decide +kernel) ?_
  refine lv_iconst (v := (nI 0)) hx hb dX6_init_118 (by decide +kernel) ?_
  refine lv_iconst (v := (nI 0)) hx hb dX6_init_119 (by decide +kernel) ?_
  refine mm_S (As := [.int (nI 116), .int (nI 104), .int (nI 101), .int (nI 110), .int (nI 0), .int (nI 0)]) (rest := [.int (nI 2), .ref qz3]) ⟨hx, hb, hml, hown, hts⟩ (c6_spell l G _ (nI 116) (nI 104) (nI 101) (nI 110) (nI 0) (nI 0)) (va_cwS 6 hts gX6_init_X6_spell rfl rfl rfl (by decide +kernel) ⟨Nat.le_of_ble_eq_true rfl, Nat.le_of_ble_eq_true rfl⟩) hK hE hA hM rfl hl.1 rfl (Nat.le_of_ble_eq_true rfl) dX6_init_120 ⟨Nat.le_of_ble_eq_true rfl, Nat.le_of_ble_eq_true rfl⟩ (fun v f1 Hp lcs hp hM => ?_)
  obtain ⟨rfl, hf⟩ := hp; subst hf
  refine mn_iast hx hb hK hM (hJ.2.2.1) 2 (by omega) (by decide) dX6_init_123 (fun Hp lcs hM => ?_)
  have hJ := hJ.setV (upd (upd (upd (fun _ => 0) 0 (spellF (nI 105) (nI 102) (nI 0) (nI 0) (nI 0) (nI 0))) 1 (spellF (nI 97) (nI 110) (nI 100) (nI 0) (nI 0) (nI 0))) 2 (spellF (nI 116) (nI 104) (nI 101) (nI 110) (nI 0) (nI 0)))
  refine lv_aload_n hx hb dX6_init_124 rfl (lv_at hl 0 rfl) ?_
  refine mm_get (C := RX6) (T := TX6) (N := 14) (k := 1) hx hb hts (fun _ h => List.mem_cons_of_mem _ (List.mem_append_right _ h)) hown hK hM (hJ.1) rfl (by decide) (hts (.fieldLink RX6 13 "SentenceRulesModel" "vocabulary" "[I") (List.mem_of_getElem? (i := 6) rfl)) rfl rfl dX6_init_125 ?_
  refine lv_iconst (v := (nI 3)) hx hb dX6_init_128 (by decide +kernel) ?_
  refine lv_bipush (v := (nI 109)) hx hb dX6_init_129 (by decide +kernel) ?_
  refine lv_bipush (v := (nI 101)) hx hb dX6_init_131 (by decide +kernel) ?_
  refine lv_bipush (v := (nI 97)) hx hb dX6_init_133 (by decide +kernel) ?_
  refine lv_bipush (v := (nI 110)) hx hb dX6_init_135 (by decide +kernel) ?_
  refine lv_bipush (v := (nI 115)) hx hb dX6_init_137 (by decide +kernel) ?_
  refine lv_iconst (v := (nI 0)) hx hb dX6_init_139 (by decide +kernel) ?_
  refine mm_S (As := [.int (nI 109), .int (nI 101), .int (nI 97), .int (nI 110), .int (nI 115), .int (nI 0)]) (rest := [.int (nI 3), .ref qz3]) ⟨hx, hb, hml, hown, hts⟩ (c6_spell l G _ (nI 109) (nI 101) (nI 97) (nI 110) (nI 115) (nI 0)) (va_cwS 6 hts gX6_init_X6_spell rfl rfl rfl (by decide +kernel) ⟨Nat.le_of_ble_eq_true rfl, Nat.le_of_ble_eq_true rfl⟩) hK hE hA hM rfl hl.1 rfl (Nat.le_of_ble_eq_true rfl) dX6_init_140 ⟨Nat.le_of_ble_eq_true rfl, Nat.le_of_ble_eq_true rfl⟩ (fun v f1 Hp lcs hp hM => ?_)
  obtain ⟨rfl, hf⟩ := hp; subst hf
  refine mn_iast hx hb hK hM (hJ.2.2.1) 3 (by omega) (by decide) dX6_init_143 (fun Hp lcs hM => ?_)
  have hJ := hJ.setV (upd (upd (upd (upd (fun _ => 0) 0 (spellF (nI 105) (nI 102) (nI 0) (nI 0) (nI 0) (nI 0))) 1 (spellF (nI 97) (nI 110) (nI 100) (nI 0) (nI 0) (nI 0))) 2 (spellF (nI 116) (nI 104) (nI 101) (nI 110) (nI 0) (nI 0))) 3 (spellF (nI 109) (nI 101) (nI 97) (nI 110) (nI 115) (nI 0)))
  refine lv_aload_n hx hb dX6_init_144 rfl (lv_at hl 0 rfl) ?_
  refine mm_get (C := RX6) (T := TX6) (N := 14) (k := 1) hx hb hts (fun _ h => List.mem_cons_of_mem _ (List.mem_append_right _ h)) hown hK hM (hJ.1) rfl (by decide) (hts (.fieldLink RX6 13 "SentenceRulesModel" "vocabulary" "[I") (List.mem_of_getElem? (i := 6) rfl)) rfl rfl dX6_init_145 ?_
  refine lv_iconst (v := (nI 4)) hx hb dX6_init_148 (by decide +kernel) ?_
  refine lv_bipush (v := (nI 105)) hx hb dX6_init_149 (by decide +kernel) ?_
  refine lv_bipush (v := (nI 115)) hx hb dX6_init_151 (by decide +kernel) ?_
  refine lv_iconst (v := (nI 0)) hx hb dX6_init_153 (by decide +kernel) ?_
  refine lv_iconst (v := (nI 0)) hx hb dX6_init_154 (by decide +kernel) ?_
  refine lv_iconst (v := (nI 0)) hx hb dX6_init_155 (by decide +kernel) ?_
  refine lv_iconst (v := (nI 0)) hx hb dX6_init_156 (by decide +kernel) ?_
  refine mm_S (As := [.int (nI 105), .int (nI 115), .int (nI 0), .int (nI 0), .int (nI 0), .int (nI 0)]) (rest := [.int (nI 4), .ref qz3]) ⟨hx, hb, hml, hown, hts⟩ (c6_spell l G _ (nI 105) (nI 115) (nI 0) (nI 0) (nI 0) (nI 0)) (va_cwS 6 hts gX6_init_X6_spell rfl rfl rfl (by decide +kernel) ⟨Nat.le_of_ble_eq_true rfl, Nat.le_of_ble_eq_true rfl⟩) hK hE hA hM rfl hl.1 rfl (Nat.le_of_ble_eq_true rfl) dX6_init_157 ⟨Nat.le_of_ble_eq_true rfl, Nat.le_of_ble_eq_true rfl⟩ (fun v f1 Hp lcs hp hM => ?_)
  obtain ⟨rfl, hf⟩ := hp; subst hf
  refine mn_iast hx hb hK hM (hJ.2.2.1) 4 (by omega) (by decide) dX6_init_160 (fun Hp lcs hM => ?_)
  have hJ := hJ.setV (upd (upd (upd (upd (upd (fun _ => 0) 0 (spellF (nI 105) (nI 102) (nI 0) (nI 0) (nI 0) (nI 0))) 1 (spellF (nI 97) (nI 110) (nI 100) (nI 0) (nI 0) (nI 0))) 2 (spellF (nI 116) (nI 104) (nI 101) (nI 110) (nI 0) (nI 0))) 3 (spellF (nI 109) (nI 101) (nI 97) (nI 110) (nI 115) (nI 0))) 4 (spellF (nI 105) (nI 115) (nI 0) (nI 0) (nI 0) (nI 0)))
  refine lv_aload_n hx hb dX6_init_161 rfl (lv_at hl 0 rfl) ?_
  refine mm_get (C := RX6) (T := TX6) (N := 14) (k := 1) hx hb hts (fun _ h => List.mem_cons_of_mem _ (List.mem_append_right _ h)) hown hK hM (hJ.1) rfl (by decide) (hts (.fieldLink RX6 13 "SentenceRulesModel" "vocabulary" "[I") (List.mem_of_getElem? (i := 6) rfl)) rfl rfl dX6_init_162 ?_
  refine lv_iconst (v := (nI 5)) hx hb dX6_init_165 (by decide +kernel) ?_
  refine lv_bipush (v := (nI 111)) hx hb dX6_init_166 (by decide +kernel) ?_
  refine lv_bipush (v := (nI 118)) hx hb dX6_init_168 (by decide +kernel) ?_
  refine lv_bipush (v := (nI 101)) hx hb dX6_init_170 (by decide +kernel) ?_
  refine lv_bipush (v := (nI 114)) hx hb dX6_init_172 (by decide +kernel) ?_
  refine lv_iconst (v := (nI 0)) hx hb dX6_init_174 (by decide +kernel) ?_
  refine lv_iconst (v := (nI 0)) hx hb dX6_init_175 (by decide +kernel) ?_
  refine mm_S (As := [.int (nI 111), .int (nI 118), .int (nI 101), .int (nI 114), .int (nI 0), .int (nI 0)]) (rest := [.int (nI 5), .ref qz3]) ⟨hx, hb, hml, hown, hts⟩ (c6_spell l G _ (nI 111) (nI 118) (nI 101) (nI 114) (nI 0) (nI 0)) (va_cwS 6 hts gX6_init_X6_spell rfl rfl rfl (by decide +kernel) ⟨Nat.le_of_ble_eq_true rfl, Nat.le_of_ble_eq_true rfl⟩) hK hE hA hM rfl hl.1 rfl (Nat.le_of_ble_eq_true rfl) dX6_init_176 ⟨Nat.le_of_ble_eq_true rfl, Nat.le_of_ble_eq_true rfl⟩ (fun v f1 Hp lcs hp hM => ?_)
  obtain ⟨rfl, hf⟩ := hp; subst hf
  refine mn_iast hx hb hK hM (hJ.2.2.1) 5 (by omega) (by decide) dX6_init_179 (fun Hp lcs hM => ?_)
  have hJ := hJ.setV (upd (upd (upd (upd (upd (upd (fun _ => 0) 0 (spellF (nI 105) (nI 102) (nI 0) (nI 0) (nI 0) (nI 0))) 1 (spellF (nI 97) (nI 110) (nI 100) (nI 0) (nI 0) (nI 0))) 2 (spellF (nI 116) (nI 104) (nI 101) (nI 110) (nI 0) (nI 0))) 3 (spellF (nI 109) (nI 101) (nI 97) (nI 110) (nI 115) (nI 0))) 4 (spellF (nI 105) (nI 115) (nI 0) (nI 0) (nI 0) (nI 0))) 5 (spellF (nI 111) (nI 118) (nI 101) (nI 114) (nI 0) (nI 0)))
  refine lv_aload_n hx hb dX6_init_180 rfl (lv_at hl 0 rfl) ?_
  refine mm_get (C := RX6) (T := TX6) (N := 14) (k := 1) hx hb hts (fun _ h => List.mem_cons_of_mem _ (List.mem_append_right _ h)) hown hK hM (hJ.1) rfl (by decide) (hts (.fieldLink RX6 13 "SentenceRulesModel" "vocabulary" "[I") (List.mem_of_getElem? (i := 6) rfl)) rfl rfl dX6_init_181 ?_
  refine lv_bipush (v := (nI 6)) hx hb dX6_init_184 (by decide +kernel) ?_
  refine lv_bipush (v := (nI 117)) hx hb dX6_init_186 (by decide +kernel) ?_
  refine lv_bipush (v := (nI 110)) hx hb dX6_init_188 (by decide +kernel) ?_
  refine lv_bipush (v := (nI 100)) hx hb dX6_init_190 (by decide +kernel) ?_
  refine lv_bipush (v := (nI 101)) hx hb dX6_init_192 (by decide +kernel) ?_
  refine lv_bipush (v := (nI 114)) hx hb dX6_init_194 (by decide +kernel) ?_
  refine lv_iconst (v := (nI 0)) hx hb dX6_init_196 (by decide +kernel) ?_
  refine mm_S (As := [.int (nI 117), .int (nI 110), .int (nI 100), .int (nI 101), .int (nI 114), .int (nI 0)]) (rest := [.int (nI 6), .ref qz3]) ⟨hx, hb, hml, hown, hts⟩ (c6_spell l G _ (nI 117) (nI 110) (nI 100) (nI 101) (nI 114) (nI 0)) (va_cwS 6 hts gX6_init_X6_spell rfl rfl rfl (by decide +kernel) ⟨Nat.le_of_ble_eq_true rfl, Nat.le_of_ble_eq_true rfl⟩) hK hE hA hM rfl hl.1 rfl (Nat.le_of_ble_eq_true rfl) dX6_init_197 ⟨Nat.le_of_ble_eq_true rfl, Nat.le_of_ble_eq_true rfl⟩ (fun v f1 Hp lcs hp hM => ?_)
  obtain ⟨rfl, hf⟩ := hp; subst hf
  refine mn_iast hx hb hK hM (hJ.2.2.1) 6 (by omega) (by decide) dX6_init_200 (fun Hp lcs hM => ?_)
  have hJ := hJ.setV (upd (upd (upd (upd (upd (upd (upd (fun _ => 0) 0 (spellF (nI 105) (nI 102) (nI 0) (nI 0) (nI 0) (nI 0))) 1 (spellF (nI 97) (nI 110) (nI 100) (nI 0) (nI 0) (nI 0))) 2 (spellF (nI 116) (nI 104) (nI 101) (nI 110) (nI 0) (nI 0))) 3 (spellF (nI 109) (nI 101) (nI 97) (nI 110) (nI 115) (nI 0))) 4 (spellF (nI 105) (nI 115) (nI 0) (nI 0) (nI 0) (nI 0))) 5 (spellF (nI 111) (nI 118) (nI 101) (nI 114) (nI 0) (nI 0))) 6 (spellF (nI 117) (nI 110) (nI 100) (nI 101) (nI 114) (nI 0)))
  refine lv_aload_n hx hb dX6_init_201 rfl (lv_at hl 0 rfl) ?_
  refine mm_get (C := RX6) (T := TX6) (N := 14) (k := 1) hx hb hts (fun _ h => List.mem_cons_of_mem _ (List.mem_append_right _ h)) hown hK hM (hJ.1) rfl (by decide) (hts (.fieldLink RX6 13 "SentenceRulesModel" "vocabulary" "[I") (List.mem_of_getElem? (i := 6) rfl)) rfl rfl dX6_init_202 ?_
  refine lv_bipush (v := (nI 7)) hx hb dX6_init_205 (by decide +kernel) ?_
  refine lv_bipush (v := (nI 110)) hx hb dX6_init_207 (by decide +kernel) ?_
  refine lv_bipush (v := (nI 111)) hx hb dX6_init_209 (by decide +kernel) ?_
  refine lv_bipush (v := (nI 116)) hx hb dX6_init_211 (by decide +kernel) ?_
  refine lv_iconst (v := (nI 0)) hx hb dX6_init_213 (by decide +kernel) ?_
  refine lv_iconst (v := (nI 0)) hx hb dX6_init_214 (by decide +kernel) ?_
  refine lv_iconst (v := (nI 0)) hx hb dX6_init_215 (by decide +kernel) ?_
  refine mm_S (As := [.int (nI 110), .int (nI 111), .int (nI 116), .int (nI 0), .int (nI 0), .int (nI 0)]) (rest := [.int (nI 7), .ref qz3]) ⟨hx, hb, hml, hown, hts⟩ (c6_spell l G _ (nI 110) (nI 111) (nI 116) (nI 0) (nI 0) (nI 0)) (va_cwS 6 hts gX6_init_X6_spell rfl rfl rfl (by decide +kernel) ⟨Nat.le_of_ble_eq_true rfl, Nat.le_of_ble_eq_true rfl⟩) hK hE hA hM rfl hl.1 rfl (Nat.le_of_ble_eq_true rfl) dX6_init_216 ⟨Nat.le_of_ble_eq_true rfl, Nat.le_of_ble_eq_true rfl⟩ (fun v f1 Hp lcs hp hM => ?_)
  obtain ⟨rfl, hf⟩ := hp; subst hf
  refine mn_iast hx hb hK hM (hJ.2.2.1) 7 (by omega) (by decide) dX6_init_219 (fun Hp lcs hM => ?_)
  have hJ := hJ.setV (upd (upd (upd (upd (upd (upd (upd (upd (fun _ => 0) 0 (spellF (nI 105) (nI 102) (nI 0) (nI 0) (nI 0) (nI 0))) 1 (spellF (nI 97) (nI 110) (nI 100) (nI 0) (nI 0) (nI 0))) 2 (spellF (nI 116) (nI 104) (nI 101) (nI 110) (nI 0) (nI 0))) 3 (spellF (nI 109) (nI 101) (nI 97) (nI 110) (nI 115) (nI 0))) 4 (spellF (nI 105) (nI 115) (nI 0) (nI 0) (nI 0) (nI 0))) 5 (spellF (nI 111) (nI 118) (nI 101) (nI 114) (nI 0) (nI 0))) 6 (spellF (nI 117) (nI 110) (nI 100) (nI 101) (nI 114) (nI 0))) 7 (spellF (nI 110) (nI 111) (nI 116) (nI 0) (nI 0) (nI 0)))
  refine lv_aload_n hx hb dX6_init_220 rfl (lv_at hl 0 rfl) ?_
  refine mm_get (C := RX6) (T := TX6) (N := 14) (k := 1) hx hb hts (fun _ h => List.mem_cons_of_mem _ (List.mem_append_right _ h)) hown hK hM (hJ.1) rfl (by decide) (hts (.fieldLink RX6 13 "SentenceRulesModel" "vocabulary" "[I") (List.mem_of_getElem? (i := 6) rfl)) rfl rfl dX6_init_221 ?_
  refine lv_bipush (v := (nI 8)) hx hb dX6_init_224 (by decide +kernel) ?_
  refine lv_bipush (v := (nI 102)) hx hb dX6_init_226 (by decide +kernel) ?_
  refine lv_bipush (v := (nI 114)) hx hb dX6_init_228 (by decide +kernel) ?_
  refine lv_bipush (v := (nI 111)) hx hb dX6_init_230 (by decide +kernel) ?_
  refine lv_bipush (v := (nI 109)) hx hb dX6_init_232 (by decide +kernel) ?_
  refine lv_iconst (v := (nI 0)) hx hb dX6_init_234 (by decide +kernel) ?_
  refine lv_iconst (v := (nI 0)) hx hb dX6_init_235 (by decide +kernel) ?_
  refine mm_S (As := [.int (nI 102), .int (nI 114), .int (nI 111), .int (nI 109), .int (nI 0), .int (nI 0)]) (rest := [.int (nI 8), .ref qz3]) ⟨hx, hb, hml, hown, hts⟩ (c6_spell l G _ (nI 102) (nI 114) (nI 111) (nI 109) (nI 0) (nI 0)) (va_cwS 6 hts gX6_init_X6_spell rfl rfl rfl (by decide +kernel) ⟨Nat.le_of_ble_eq_true rfl, Nat.le_of_ble_eq_true rfl⟩) hK hE hA hM rfl hl.1 rfl (Nat.le_of_ble_eq_true rfl) dX6_init_236 ⟨Nat.le_of_ble_eq_true rfl, Nat.le_of_ble_eq_true rfl⟩ (fun v f1 Hp lcs hp hM => ?_)
  obtain ⟨rfl, hf⟩ := hp; subst hf
  refine mn_iast hx hb hK hM (hJ.2.2.1) 8 (by omega) (by decide) dX6_init_239 (fun Hp lcs hM => ?_)
  have hJ := hJ.setV (upd (upd (upd (upd (upd (upd (upd (upd (upd (fun _ => 0) 0 (spellF (nI 105) (nI 102) (nI 0) (nI 0) (nI 0) (nI 0))) 1 (spellF (nI 97) (nI 110) (nI 100) (nI 0) (nI 0) (nI 0))) 2 (spellF (nI 116) (nI 104) (nI 101) (nI 110) (nI 0) (nI 0))) 3 (spellF (nI 109) (nI 101) (nI 97) (nI 110) (nI 115) (nI 0))) 4 (spellF (nI 105) (nI 115) (nI 0) (nI 0) (nI 0) (nI 0))) 5 (spellF (nI 111) (nI 118) (nI 101) (nI 114) (nI 0) (nI 0))) 6 (spellF (nI 117) (nI 110) (nI 100) (nI 101) (nI 114) (nI 0))) 7 (spellF (nI 110) (nI 111) (nI 116) (nI 0) (nI 0) (nI 0))) 8 (spellF (nI 102) (nI 114) (nI 111) (nI 109) (nI 0) (nI 0)))
  refine lv_aload_n hx hb dX6_init_240 rfl (lv_at hl 0 rfl) ?_
  refine mm_get (C := RX6) (T := TX6) (N := 14) (k := 1) hx hb hts (fun _ h => List.mem_cons_of_mem _ (List.mem_append_right _ h)) hown hK hM (hJ.1) rfl (by decide) (hts (.fieldLink RX6 13 "SentenceRulesModel" "vocabulary" "[I") (List.mem_of_getElem? (i := 6) rfl)) rfl rfl dX6_init_241 ?_
  refine lv_bipush (v := (nI 9)) hx hb dX6_init_244 (by decide +kernel) ?_
  refine lv_bipush (v := (nI 117)) hx hb dX6_init_246 (by decide +kernel) ?_
  refine lv_bipush (v := (nI 110)) hx hb dX6_init_248 (by decide +kernel) ?_
  refine lv_bipush (v := (nI 116)) hx hb dX6_init_250 (by decide +kernel) ?_
  refine lv_bipush (v := (nI 105)) hx hb dX6_init_252 (by decide +kernel) ?_
  refine lv_bipush (v := (nI 108)) hx hb dX6_init_254 (by decide +kernel) ?_
  refine lv_iconst (v := (nI 0)) hx hb dX6_init_256 (by decide +kernel) ?_
  refine mm_S (As := [.int (nI 117), .int (nI 110), .int (nI 116), .int (nI 105), .int (nI 108), .int (nI 0)]) (rest := [.int (nI 9), .ref qz3]) ⟨hx, hb, hml, hown, hts⟩ (c6_spell l G _ (nI 117) (nI 110) (nI 116) (nI 105) (nI 108) (nI 0)) (va_cwS 6 hts gX6_init_X6_spell rfl rfl rfl (by decide +kernel) ⟨Nat.le_of_ble_eq_true rfl, Nat.le_of_ble_eq_true rfl⟩) hK hE hA hM rfl hl.1 rfl (Nat.le_of_ble_eq_true rfl) dX6_init_257 ⟨Nat.le_of_ble_eq_true rfl, Nat.le_of_ble_eq_true rfl⟩ (fun v f1 Hp lcs hp hM => ?_)
  obtain ⟨rfl, hf⟩ := hp; subst hf
  refine mn_iast hx hb hK hM (hJ.2.2.1) 9 (by omega) (by decide) dX6_init_260 (fun Hp lcs hM => ?_)
  have hJ := hJ.setV (upd (upd (upd (upd (upd (upd (upd (upd (upd (upd (fun _ => 0) 0 (spellF (nI 105) (nI 102) (nI 0) (nI 0) (nI 0) (nI 0))) 1 (spellF (nI 97) (nI 110) (nI 100) (nI 0) (nI 0) (nI 0))) 2 (spellF (nI 116) (nI 104) (nI 101) (nI 110) (nI 0) (nI 0))) 3 (spellF (nI 109) (nI 101) (nI 97) (nI 110) (nI 115) (nI 0))) 4 (spellF (nI 105) (nI 115) (nI 0) (nI 0) (nI 0) (nI 0))) 5 (spellF (nI 111) (nI 118) (nI 101) (nI 114) (nI 0) (nI 0))) 6 (spellF (nI 117) (nI 110) (nI 100) (nI 101) (nI 114) (nI 0))) 7 (spellF (nI 110) (nI 111) (nI 116) (nI 0) (nI 0) (nI 0))) 8 (spellF (nI 102) (nI 114) (nI 111) (nI 109) (nI 0) (nI 0))) 9 (spellF (nI 117) (nI 110) (nI 116) (nI 105) (nI 108) (nI 0)))
  refine lv_aload_n hx hb dX6_init_261 rfl (lv_at hl 0 rfl) ?_
  refine mm_get (C := RX6) (T := TX6) (N := 14) (k := 1) hx hb hts (fun _ h => List.mem_cons_of_mem _ (List.mem_append_right _ h)) hown hK hM (hJ.1) rfl (by decide) (hts (.fieldLink RX6 13 "SentenceRulesModel" "vocabulary" "[I") (List.mem_of_getElem? (i := 6) rfl)) rfl rfl dX6_init_262 ?_
  refine lv_bipush (v := (nI 10)) hx hb dX6_init_265 (by decide +kernel) ?_
  refine lv_bipush (v := (nI 97)) hx hb dX6_init_267 (by decide +kernel) ?_
  refine lv_bipush (v := (nI 103)) hx hb dX6_init_269 (by decide +kernel) ?_
  refine lv_bipush (v := (nI 101)) hx hb dX6_init_271 (by decide +kernel) ?_
  refine lv_iconst (v := (nI 0)) hx hb dX6_init_273 (by decide +kernel) ?_
  refine lv_iconst (v := (nI 0)) hx hb dX6_init_274 (by decide +kernel) ?_
  refine lv_iconst (v := (nI 0)) hx hb dX6_init_275 (by decide +kernel) ?_
  refine mm_S (As := [.int (nI 97), .int (nI 103), .int (nI 101), .int (nI 0), .int (nI 0), .int (nI 0)]) (rest := [.int (nI 10), .ref qz3]) ⟨hx, hb, hml, hown, hts⟩ (c6_spell l G _ (nI 97) (nI 103) (nI 101) (nI 0) (nI 0) (nI 0)) (va_cwS 6 hts gX6_init_X6_spell rfl rfl rfl (by decide +kernel) ⟨Nat.le_of_ble_eq_true rfl, Nat.le_of_ble_eq_true rfl⟩) hK hE hA hM rfl hl.1 rfl (Nat.le_of_ble_eq_true rfl) dX6_init_276 ⟨Nat.le_of_ble_eq_true rfl, Nat.le_of_ble_eq_true rfl⟩ (fun v f1 Hp lcs hp hM => ?_)
  obtain ⟨rfl, hf⟩ := hp; subst hf
  refine mn_iast hx hb hK hM (hJ.2.2.1) 10 (by omega) (by decide) dX6_init_279 (fun Hp lcs hM => ?_)
  have hJ := hJ.setV (upd (upd (upd (upd (upd (upd (upd (upd (upd (upd (upd (fun _ => 0) 0 (spellF (nI 105) (nI 102) (nI 0) (nI 0) (nI 0) (nI 0))) 1 (spellF (nI 97) (nI 110) (nI 100) (nI 0) (nI 0) (nI 0))) 2 (spellF (nI 116) (nI 104) (nI 101) (nI 110) (nI 0) (nI 0))) 3 (spellF (nI 109) (nI 101) (nI 97) (nI 110) (nI 115) (nI 0))) 4 (spellF (nI 105) (nI 115) (nI 0) (nI 0) (nI 0) (nI 0))) 5 (spellF (nI 111) (nI 118) (nI 101) (nI 114) (nI 0) (nI 0))) 6 (spellF (nI 117) (nI 110) (nI 100) (nI 101) (nI 114) (nI 0))) 7 (spellF (nI 110) (nI 111) (nI 116) (nI 0) (nI 0) (nI 0))) 8 (spellF (nI 102) (nI 114) (nI 111) (nI 109) (nI 0) (nI 0))) 9 (spellF (nI 117) (nI 110) (nI 116) (nI 105) (nI 108) (nI 0))) 10 (spellF (nI 97) (nI 103) (nI 101) (nI 0) (nI 0) (nI 0)))
  refine lv_aload_n hx hb dX6_init_280 rfl (lv_at hl 0 rfl) ?_
  refine mm_get (C := RX6) (T := TX6) (N := 14) (k := 1) hx hb hts (fun _ h => List.mem_cons_of_mem _ (List.mem_append_right _ h)) hown hK hM (hJ.1) rfl (by decide) (hts (.fieldLink RX6 13 "SentenceRulesModel" "vocabulary" "[I") (List.mem_of_getElem? (i := 6) rfl)) rfl rfl dX6_init_281 ?_
  refine lv_bipush (v := (nI 11)) hx hb dX6_init_284 (by decide +kernel) ?_
  refine lv_bipush (v := (nI 105)) hx hb dX6_init_286 (by decide +kernel) ?_
  refine lv_bipush (v := (nI 110)) hx hb dX6_init_288 (by decide +kernel) ?_
  refine lv_bipush (v := (nI 99)) hx hb dX6_init_290 (by decide +kernel) ?_
  refine lv_bipush (v := (nI 111)) hx hb dX6_init_292 (by decide +kernel) ?_
  refine lv_bipush (v := (nI 109)) hx hb dX6_init_294 (by decide +kernel) ?_
  refine lv_bipush (v := (nI 101)) hx hb dX6_init_296 (by decide +kernel) ?_
  refine mm_S (As := [.int (nI 105), .int (nI 110), .int (nI 99), .int (nI 111), .int (nI 109), .int (nI 101)]) (rest := [.int (nI 11), .ref qz3]) ⟨hx, hb, hml, hown, hts⟩ (c6_spell l G _ (nI 105) (nI 110) (nI 99) (nI 111) (nI 109) (nI 101)) (va_cwS 6 hts gX6_init_X6_spell rfl rfl rfl (by decide +kernel) ⟨Nat.le_of_ble_eq_true rfl, Nat.le_of_ble_eq_true rfl⟩) hK hE hA hM rfl hl.1 rfl (Nat.le_of_ble_eq_true rfl) dX6_init_298 ⟨Nat.le_of_ble_eq_true rfl, Nat.le_of_ble_eq_true rfl⟩ (fun v f1 Hp lcs hp hM => ?_)
  obtain ⟨rfl, hf⟩ := hp; subst hf
  refine mn_iast hx hb hK hM (hJ.2.2.1) 11 (by omega) (by decide) dX6_init_301 (fun Hp lcs hM => ?_)
  have hJ := hJ.setV (upd (upd (upd (upd (upd (upd (upd (upd (upd (upd (upd (upd (fun _ => 0) 0 (spellF (nI 105) (nI 102) (nI 0) (nI 0) (nI 0) (nI 0))) 1 (spellF (nI 97) (nI 110) (nI 100) (nI 0) (nI 0) (nI 0))) 2 (spellF (nI 116) (nI 104) (nI 101) (nI 110) (nI 0) (nI 0))) 3 (spellF (nI 109) (nI 101) (nI 97) (nI 110) (nI 115) (nI 0))) 4 (spellF (nI 105) (nI 115) (nI 0) (nI 0) (nI 0) (nI 0))) 5 (spellF (nI 111) (nI 118) (nI 101) (nI 114) (nI 0) (nI 0))) 6 (spellF (nI 117) (nI 110) (nI 100) (nI 101) (nI 114) (nI 0))) 7 (spellF (nI 110) (nI 111) (nI 116) (nI 0) (nI 0) (nI 0))) 8 (spellF (nI 102) (nI 114) (nI 111) (nI 109) (nI 0) (nI 0))) 9 (spellF (nI 117) (nI 110) (nI 116) (nI 105) (nI 108) (nI 0))) 10 (spellF (nI 97) (nI 103) (nI 101) (nI 0) (nI 0) (nI 0))) 11 (spellF (nI 105) (nI 110) (nI 99) (nI 111) (nI 109) (nI 101)))
  refine lv_aload_n hx hb dX6_init_302 rfl (lv_at hl 0 rfl) ?_
  refine mm_get (C := RX6) (T := TX6) (N := 14) (k := 1) hx hb hts (fun _ h => List.mem_cons_of_mem _ (List.mem_append_right _ h)) hown hK hM (hJ.1) rfl (by decide) (hts (.fieldLink RX6 13 "SentenceRulesModel" "vocabulary" "[I") (List.mem_of_getElem? (i := 6) rfl)) rfl rfl dX6_init_303 ?_
  refine lv_bipush (v := (nI 12)) hx hb dX6_init_306 (by decide +kernel) ?_
  refine lv_bipush (v := (nI 115)) hx hb dX6_init_308 (by decide +kernel) ?_
  refine lv_bipush (v := (nI 105)) hx hb dX6_init_310 (by decide +kernel) ?_
  refine lv_bipush (v := (nI 122)) hx hb dX6_init_312 (by decide +kernel) ?_
  refine lv_bipush (v := (nI 101)) hx hb dX6_init_314 (by decide +kernel) ?_
  refine lv_iconst (v := (nI 0)) hx hb dX6_init_316 (by decide +kernel) ?_
  refine lv_iconst (v := (nI 0)) hx hb dX6_init_317 (by decide +kernel) ?_
  refine mm_S (As := [.int (nI 115), .int (nI 105), .int (nI 122), .int (nI 101), .int (nI 0), .int (nI 0)]) (rest := [.int (nI 12), .ref qz3]) ⟨hx, hb, hml, hown, hts⟩ (c6_spell l G _ (nI 115) (nI 105) (nI 122) (nI 101) (nI 0) (nI 0)) (va_cwS 6 hts gX6_init_X6_spell rfl rfl rfl (by decide +kernel) ⟨Nat.le_of_ble_eq_true rfl, Nat.le_of_ble_eq_true rfl⟩) hK hE hA hM rfl hl.1 rfl (Nat.le_of_ble_eq_true rfl) dX6_init_318 ⟨Nat.le_of_ble_eq_true rfl, Nat.le_of_ble_eq_true rfl⟩ (fun v f1 Hp lcs hp hM => ?_)
  obtain ⟨rfl, hf⟩ := hp; subst hf
  refine mn_iast hx hb hK hM (hJ.2.2.1) 12 (by omega) (by decide) dX6_init_321 (fun Hp lcs hM => ?_)
  have hJ := hJ.setV (upd (upd (upd (upd (upd (upd (upd (upd (upd (upd (upd (upd (upd (fun _ => 0) 0 (spellF (nI 105) (nI 102) (nI 0) (nI 0) (nI 0) (nI 0))) 1 (spellF (nI 97) (nI 110) (nI 100) (nI 0) (nI 0) (nI 0))) 2 (spellF (nI 116) (nI 104) (nI 101) (nI 110) (nI 0) (nI 0))) 3 (spellF (nI 109) (nI 101) (nI 97) (nI 110) (nI 115) (nI 0))) 4 (spellF (nI 105) (nI 115) (nI 0) (nI 0) (nI 0) (nI 0))) 5 (spellF (nI 111) (nI 118) (nI 101) (nI 114) (nI 0) (nI 0))) 6 (spellF (nI 117) (nI 110) (nI 100) (nI 101) (nI 114) (nI 0))) 7 (spellF (nI 110) (nI 111) (nI 116) (nI 0) (nI 0) (nI 0))) 8 (spellF (nI 102) (nI 114) (nI 111) (nI 109) (nI 0) (nI 0))) 9 (spellF (nI 117) (nI 110) (nI 116) (nI 105) (nI 108) (nI 0))) 10 (spellF (nI 97) (nI 103) (nI 101) (nI 0) (nI 0) (nI 0))) 11 (spellF (nI 105) (nI 110) (nI 99) (nI 111) (nI 109) (nI 101))) 12 (spellF (nI 115) (nI 105) (nI 122) (nI 101) (nI 0) (nI 0)))
  refine lv_aload_n hx hb dX6_init_322 rfl (lv_at hl 0 rfl) ?_
  refine mm_get (C := RX6) (T := TX6) (N := 14) (k := 1) hx hb hts (fun _ h => List.mem_cons_of_mem _ (List.mem_append_right _ h)) hown hK hM (hJ.1) rfl (by decide) (hts (.fieldLink RX6 13 "SentenceRulesModel" "vocabulary" "[I") (List.mem_of_getElem? (i := 6) rfl)) rfl rfl dX6_init_323 ?_
  refine lv_bipush (v := (nI 13)) hx hb dX6_init_326 (by decide +kernel) ?_
  refine lv_bipush (v := (nI 99)) hx hb dX6_init_328 (by decide +kernel) ?_
  refine lv_bipush (v := (nI 111)) hx hb dX6_init_330 (by decide +kernel) ?_
  refine lv_bipush (v := (nI 117)) hx hb dX6_init_332 (by decide +kernel) ?_
  refine lv_bipush (v := (nI 110)) hx hb dX6_init_334 (by decide +kernel) ?_
  refine lv_bipush (v := (nI 116)) hx hb dX6_init_336 (by decide +kernel) ?_
  refine lv_iconst (v := (nI 0)) hx hb dX6_init_338 (by decide +kernel) ?_
  refine mm_S (As := [.int (nI 99), .int (nI 111), .int (nI 117), .int (nI 110), .int (nI 116), .int (nI 0)]) (rest := [.int (nI 13), .ref qz3]) ⟨hx, hb, hml, hown, hts⟩ (c6_spell l G _ (nI 99) (nI 111) (nI 117) (nI 110) (nI 116) (nI 0)) (va_cwS 6 hts gX6_init_X6_spell rfl rfl rfl (by decide +kernel) ⟨Nat.le_of_ble_eq_true rfl, Nat.le_of_ble_eq_true rfl⟩) hK hE hA hM rfl hl.1 rfl (Nat.le_of_ble_eq_true rfl) dX6_init_339 ⟨Nat.le_of_ble_eq_true rfl, Nat.le_of_ble_eq_true rfl⟩ (fun v f1 Hp lcs hp hM => ?_)
  obtain ⟨rfl, hf⟩ := hp; subst hf
  refine mn_iast hx hb hK hM (hJ.2.2.1) 13 (by omega) (by decide) dX6_init_342 (fun Hp lcs hM => ?_)
  have hJ := hJ.setV (upd (upd (upd (upd (upd (upd (upd (upd (upd (upd (upd (upd (upd (upd (fun _ => 0) 0 (spellF (nI 105) (nI 102) (nI 0) (nI 0) (nI 0) (nI 0))) 1 (spellF (nI 97) (nI 110) (nI 100) (nI 0) (nI 0) (nI 0))) 2 (spellF (nI 116) (nI 104) (nI 101) (nI 110) (nI 0) (nI 0))) 3 (spellF (nI 109) (nI 101) (nI 97) (nI 110) (nI 115) (nI 0))) 4 (spellF (nI 105) (nI 115) (nI 0) (nI 0) (nI 0) (nI 0))) 5 (spellF (nI 111) (nI 118) (nI 101) (nI 114) (nI 0) (nI 0))) 6 (spellF (nI 117) (nI 110) (nI 100) (nI 101) (nI 114) (nI 0))) 7 (spellF (nI 110) (nI 111) (nI 116) (nI 0) (nI 0) (nI 0))) 8 (spellF (nI 102) (nI 114) (nI 111) (nI 109) (nI 0) (nI 0))) 9 (spellF (nI 117) (nI 110) (nI 116) (nI 105) (nI 108) (nI 0))) 10 (spellF (nI 97) (nI 103) (nI 101) (nI 0) (nI 0) (nI 0))) 11 (spellF (nI 105) (nI 110) (nI 99) (nI 111) (nI 109) (nI 101))) 12 (spellF (nI 115) (nI 105) (nI 122) (nI 101) (nI 0) (nI 0))) 13 (spellF (nI 99) (nI 111) (nI 117) (nI 110) (nI 116) (nI 0)))
  refine lv_aload_n hx hb dX6_init_343 rfl (lv_at hl 0 rfl) ?_
  refine mm_get (C := RX6) (T := TX6) (N := 14) (k := 1) hx hb hts (fun _ h => List.mem_cons_of_mem _ (List.mem_append_right _ h)) hown hK hM (hJ.1) rfl (by decide) (hts (.fieldLink RX6 13 "SentenceRulesModel" "vocabulary" "[I") (List.mem_of_getElem? (i := 6) rfl)) rfl rfl dX6_init_344 ?_
  refine lv_bipush (v := (nI 14)) hx hb dX6_init_347 (by decide +kernel) ?_
  refine lv_bipush (v := (nI 98)) hx hb dX6_init_349 (by decide +kernel) ?_
  refine lv_bipush (v := (nI 105)) hx hb dX6_init_351 (by decide +kernel) ?_
  refine lv_bipush (v := (nI 114)) hx hb dX6_init_353 (by decide +kernel) ?_
  refine lv_bipush (v := (nI 116)) hx hb dX6_init_355 (by decide +kernel) ?_
  refine lv_bipush (v := (nI 104)) hx hb dX6_init_357 (by decide +kernel) ?_
  refine lv_iconst (v := (nI 0)) hx hb dX6_init_359 (by decide +kernel) ?_
  refine mm_S (As := [.int (nI 98), .int (nI 105), .int (nI 114), .int (nI 116), .int (nI 104), .int (nI 0)]) (rest := [.int (nI 14), .ref qz3]) ⟨hx, hb, hml, hown, hts⟩ (c6_spell l G _ (nI 98) (nI 105) (nI 114) (nI 116) (nI 104) (nI 0)) (va_cwS 6 hts gX6_init_X6_spell rfl rfl rfl (by decide +kernel) ⟨Nat.le_of_ble_eq_true rfl, Nat.le_of_ble_eq_true rfl⟩) hK hE hA hM rfl hl.1 rfl (Nat.le_of_ble_eq_true rfl) dX6_init_360 ⟨Nat.le_of_ble_eq_true rfl, Nat.le_of_ble_eq_true rfl⟩ (fun v f1 Hp lcs hp hM => ?_)
  obtain ⟨rfl, hf⟩ := hp; subst hf
  refine mn_iast hx hb hK hM (hJ.2.2.1) 14 (by omega) (by decide) dX6_init_363 (fun Hp lcs hM => ?_)
  have hJ := hJ.setV (upd (upd (upd (upd (upd (upd (upd (upd (upd (upd (upd (upd (upd (upd (upd (fun _ => 0) 0 (spellF (nI 105) (nI 102) (nI 0) (nI 0) (nI 0) (nI 0))) 1 (spellF (nI 97) (nI 110) (nI 100) (nI 0) (nI 0) (nI 0))) 2 (spellF (nI 116) (nI 104) (nI 101) (nI 110) (nI 0) (nI 0))) 3 (spellF (nI 109) (nI 101) (nI 97) (nI 110) (nI 115) (nI 0))) 4 (spellF (nI 105) (nI 115) (nI 0) (nI 0) (nI 0) (nI 0))) 5 (spellF (nI 111) (nI 118) (nI 101) (nI 114) (nI 0) (nI 0))) 6 (spellF (nI 117) (nI 110) (nI 100) (nI 101) (nI 114) (nI 0))) 7 (spellF (nI 110) (nI 111) (nI 116) (nI 0) (nI 0) (nI 0))) 8 (spellF (nI 102) (nI 114) (nI 111) (nI 109) (nI 0) (nI 0))) 9 (spellF (nI 117) (nI 110) (nI 116) (nI 105) (nI 108) (nI 0))) 10 (spellF (nI 97) (nI 103) (nI 101) (nI 0) (nI 0) (nI 0))) 11 (spellF (nI 105) (nI 110) (nI 99) (nI 111) (nI 109) (nI 101))) 12 (spellF (nI 115) (nI 105) (nI 122) (nI 101) (nI 0) (nI 0))) 13 (spellF (nI 99) (nI 111) (nI 117) (nI 110) (nI 116) (nI 0))) 14 (spellF (nI 98) (nI 105) (nI 114) (nI 116) (nI 104) (nI 0)))
  refine lv_aload_n hx hb dX6_init_364 rfl (lv_at hl 0 rfl) ?_
  refine mm_get (C := RX6) (T := TX6) (N := 14) (k := 1) hx hb hts (fun _ h => List.mem_cons_of_mem _ (List.mem_append_right _ h)) hown hK hM (hJ.1) rfl (by decide) (hts (.fieldLink RX6 13 "SentenceRulesModel" "vocabulary" "[I") (List.mem_of_getElem? (i := 6) rfl)) rfl rfl dX6_init_365 ?_
  refine lv_bipush (v := (nI 15)) hx hb dX6_init_368 (by decide +kernel) ?_
  refine lv_bipush (v := (nI 101)) hx hb dX6_init_370 (by decide +kernel) ?_
  refine lv_bipush (v := (nI 110)) hx hb dX6_init_372 (by decide +kernel) ?_
  refine lv_bipush (v := (nI 116)) hx hb dX6_init_374 (by decide +kernel) ?_
  refine lv_bipush (v := (nI 114)) hx hb dX6_init_376 (by decide +kernel) ?_
  refine lv_bipush (v := (nI 121)) hx hb dX6_init_378 (by decide +kernel) ?_
  refine lv_iconst (v := (nI 0)) hx hb dX6_init_380 (by decide +kernel) ?_
  refine mm_S (As := [.int (nI 101), .int (nI 110), .int (nI 116), .int (nI 114), .int (nI 121), .int (nI 0)]) (rest := [.int (nI 15), .ref qz3]) ⟨hx, hb, hml, hown, hts⟩ (c6_spell l G _ (nI 101) (nI 110) (nI 116) (nI 114) (nI 121) (nI 0)) (va_cwS 6 hts gX6_init_X6_spell rfl rfl rfl (by decide +kernel) ⟨Nat.le_of_ble_eq_true rfl, Nat.le_of_ble_eq_true rfl⟩) hK hE hA hM rfl hl.1 rfl (Nat.le_of_ble_eq_true rfl) dX6_init_381 ⟨Nat.le_of_ble_eq_true rfl, Nat.le_of_ble_eq_true rfl⟩ (fun v f1 Hp lcs hp hM => ?_)
  obtain ⟨rfl, hf⟩ := hp; subst hf
  refine mn_iast hx hb hK hM (hJ.2.2.1) 15 (by omega) (by decide) dX6_init_384 (fun Hp lcs hM => ?_)
  have hJ := hJ.setV (upd (upd (upd (upd (upd (upd (upd (upd (upd (upd (upd (upd (upd (upd (upd (upd (fun _ => 0) 0 (spellF (nI 105) (nI 102) (nI 0) (nI 0) (nI 0) (nI 0))) 1 (spellF (nI 97) (nI 110) (nI 100) (nI 0) (nI 0) (nI 0))) 2 (spellF (nI 116) (nI 104) (nI 101) (nI 110) (nI 0) (nI 0))) 3 (spellF (nI 109) (nI 101) (nI 97) (nI 110) (nI 115) (nI 0))) 4 (spellF (nI 105) (nI 115) (nI 0) (nI 0) (nI 0) (nI 0))) 5 (spellF (nI 111) (nI 118) (nI 101) (nI 114) (nI 0) (nI 0))) 6 (spellF (nI 117) (nI 110) (nI 100) (nI 101) (nI 114) (nI 0))) 7 (spellF (nI 110) (nI 111) (nI 116) (nI 0) (nI 0) (nI 0))) 8 (spellF (nI 102) (nI 114) (nI 111) (nI 109) (nI 0) (nI 0))) 9 (spellF (nI 117) (nI 110) (nI 116) (nI 105) (nI 108) (nI 0))) 10 (spellF (nI 97) (nI 103) (nI 101) (nI 0) (nI 0) (nI 0))) 11 (spellF (nI 105) (nI 110) (nI 99) (nI 111) (nI 109) (nI 101))) 12 (spellF (nI 115) (nI 105) (nI 122) (nI 101) (nI 0) (nI 0))) 13 (spellF (nI 99) (nI 111) (nI 117) (nI 110) (nI 116) (nI 0))) 14 (spellF (nI 98) (nI 105) (nI 114) (nI 116) (nI 104) (nI 0))) 15 (spellF (nI 101) (nI 110) (nI 116) (nI 114) (nI 121) (nI 0)))
  refine lv_aload_n hx hb dX6_init_385 rfl (lv_at hl 0 rfl) ?_
  refine mm_get (C := RX6) (T := TX6) (N := 14) (k := 1) hx hb hts (fun _ h => List.mem_cons_of_mem _ (List.mem_append_right _ h)) hown hK hM (hJ.1) rfl (by decide) (hts (.fieldLink RX6 13 "SentenceRulesModel" "vocabulary" "[I") (List.mem_of_getElem? (i := 6) rfl)) rfl rfl dX6_init_386 ?_
  refine lv_bipush (v := (nI 16)) hx hb dX6_init_389 (by decide +kernel) ?_
  refine lv_bipush (v := (nI 109)) hx hb dX6_init_391 (by decide +kernel) ?_
  refine lv_bipush (v := (nI 105)) hx hb dX6_init_393 (by decide +kernel) ?_
  refine lv_bipush (v := (nI 110)) hx hb dX6_init_395 (by decide +kernel) ?_
  refine lv_bipush (v := (nI 111)) hx hb dX6_init_397 (by decide +kernel) ?_
  refine lv_bipush (v := (nI 114)) hx hb dX6_init_399 (by decide +kernel) ?_
  refine lv_iconst (v := (nI 0)) hx hb dX6_init_401 (by decide +kernel) ?_
  refine mm_S (As := [.int (nI 109), .int (nI 105), .int (nI 110), .int (nI 111), .int (nI 114), .int (nI 0)]) (rest := [.int (nI 16), .ref qz3]) ⟨hx, hb, hml, hown, hts⟩ (c6_spell l G _ (nI 109) (nI 105) (nI 110) (nI 111) (nI 114) (nI 0)) (va_cwS 6 hts gX6_init_X6_spell rfl rfl rfl (by decide +kernel) ⟨Nat.le_of_ble_eq_true rfl, Nat.le_of_ble_eq_true rfl⟩) hK hE hA hM rfl hl.1 rfl (Nat.le_of_ble_eq_true rfl) dX6_init_402 ⟨Nat.le_of_ble_eq_true rfl, Nat.le_of_ble_eq_true rfl⟩ (fun v f1 Hp lcs hp hM => ?_)
  obtain ⟨rfl, hf⟩ := hp; subst hf
  refine mn_iast hx hb hK hM (hJ.2.2.1) 16 (by omega) (by decide) dX6_init_405 (fun Hp lcs hM => ?_)
  have hJ := hJ.setV (upd (upd (upd (upd (upd (upd (upd (upd (upd (upd (upd (upd (upd (upd (upd (upd (upd (fun _ => 0) 0 (spellF (nI 105) (nI 102) (nI 0) (nI 0) (nI 0) (nI 0))) 1 (spellF (nI 97) (nI 110) (nI 100) (nI 0) (nI 0) (nI 0))) 2 (spellF (nI 116) (nI 104) (nI 101) (nI 110) (nI 0) (nI 0))) 3 (spellF (nI 109) (nI 101) (nI 97) (nI 110) (nI 115) (nI 0))) 4 (spellF (nI 105) (nI 115) (nI 0) (nI 0) (nI 0) (nI 0))) 5 (spellF (nI 111) (nI 118) (nI 101) (nI 114) (nI 0) (nI 0))) 6 (spellF (nI 117) (nI 110) (nI 100) (nI 101) (nI 114) (nI 0))) 7 (spellF (nI 110) (nI 111) (nI 116) (nI 0) (nI 0) (nI 0))) 8 (spellF (nI 102) (nI 114) (nI 111) (nI 109) (nI 0) (nI 0))) 9 (spellF (nI 117) (nI 110) (nI 116) (nI 105) (nI 108) (nI 0))) 10 (spellF (nI 97) (nI 103) (nI 101) (nI 0) (nI 0) (nI 0))) 11 (spellF (nI 105) (nI 110) (nI 99) (nI 111) (nI 109) (nI 101))) 12 (spellF (nI 115) (nI 105) (nI 122) (nI 101) (nI 0) (nI 0))) 13 (spellF (nI 99) (nI 111) (nI 117) (nI 110) (nI 116) (nI 0))) 14 (spellF (nI 98) (nI 105) (nI 114) (nI 116) (nI 104) (nI 0))) 15 (spellF (nI 101) (nI 110) (nI 116) (nI 114) (nI 121) (nI 0))) 16 (spellF (nI 109) (nI 105) (nI 110) (nI 111) (nI 114) (nI 0)))
  refine lv_aload_n hx hb dX6_init_406 rfl (lv_at hl 0 rfl) ?_
  refine mm_get (C := RX6) (T := TX6) (N := 14) (k := 1) hx hb hts (fun _ h => List.mem_cons_of_mem _ (List.mem_append_right _ h)) hown hK hM (hJ.1) rfl (by decide) (hts (.fieldLink RX6 13 "SentenceRulesModel" "vocabulary" "[I") (List.mem_of_getElem? (i := 6) rfl)) rfl rfl dX6_init_407 ?_
  refine lv_bipush (v := (nI 17)) hx hb dX6_init_410 (by decide +kernel) ?_
  refine lv_bipush (v := (nI 115)) hx hb dX6_init_412 (by decide +kernel) ?_
  refine lv_bipush (v := (nI 101)) hx hb dX6_init_414 (by decide +kernel) ?_
  refine lv_bipush (v := (nI 110)) hx hb dX6_init_416 (by decide +kernel) ?_
  refine lv_bipush (v := (nI 105)) hx hb dX6_init_418 (by decide +kernel) ?_
  refine lv_bipush (v := (nI 111)) hx hb dX6_init_420 (by decide +kernel) ?_
  refine lv_bipush (v := (nI 114)) hx hb dX6_init_422 (by decide +kernel) ?_
  refine mm_S (As := [.int (nI 115), .int (nI 101), .int (nI 110), .int (nI 105), .int (nI 111), .int (nI 114)]) (rest := [.int (nI 17), .ref qz3]) ⟨hx, hb, hml, hown, hts⟩ (c6_spell l G _ (nI 115) (nI 101) (nI 110) (nI 105) (nI 111) (nI 114)) (va_cwS 6 hts gX6_init_X6_spell rfl rfl rfl (by decide +kernel) ⟨Nat.le_of_ble_eq_true rfl, Nat.le_of_ble_eq_true rfl⟩) hK hE hA hM rfl hl.1 rfl (Nat.le_of_ble_eq_true rfl) dX6_init_424 ⟨Nat.le_of_ble_eq_true rfl, Nat.le_of_ble_eq_true rfl⟩ (fun v f1 Hp lcs hp hM => ?_)
  obtain ⟨rfl, hf⟩ := hp; subst hf
  refine mn_iast hx hb hK hM (hJ.2.2.1) 17 (by omega) (by decide) dX6_init_427 (fun Hp lcs hM => ?_)
  have hJ := hJ.setV (upd (upd (upd (upd (upd (upd (upd (upd (upd (upd (upd (upd (upd (upd (upd (upd (upd (upd (fun _ => 0) 0 (spellF (nI 105) (nI 102) (nI 0) (nI 0) (nI 0) (nI 0))) 1 (spellF (nI 97) (nI 110) (nI 100) (nI 0) (nI 0) (nI 0))) 2 (spellF (nI 116) (nI 104) (nI 101) (nI 110) (nI 0) (nI 0))) 3 (spellF (nI 109) (nI 101) (nI 97) (nI 110) (nI 115) (nI 0))) 4 (spellF (nI 105) (nI 115) (nI 0) (nI 0) (nI 0) (nI 0))) 5 (spellF (nI 111) (nI 118) (nI 101) (nI 114) (nI 0) (nI 0))) 6 (spellF (nI 117) (nI 110) (nI 100) (nI 101) (nI 114) (nI 0))) 7 (spellF (nI 110) (nI 111) (nI 116) (nI 0) (nI 0) (nI 0))) 8 (spellF (nI 102) (nI 114) (nI 111) (nI 109) (nI 0) (nI 0))) 9 (spellF (nI 117) (nI 110) (nI 116) (nI 105) (nI 108) (nI 0))) 10 (spellF (nI 97) (nI 103) (nI 101) (nI 0) (nI 0) (nI 0))) 11 (spellF (nI 105) (nI 110) (nI 99) (nI 111) (nI 109) (nI 101))) 12 (spellF (nI 115) (nI 105) (nI 122) (nI 101) (nI 0) (nI 0))) 13 (spellF (nI 99) (nI 111) (nI 117) (nI 110) (nI 116) (nI 0))) 14 (spellF (nI 98) (nI 105) (nI 114) (nI 116) (nI 104) (nI 0))) 15 (spellF (nI 101) (nI 110) (nI 116) (nI 114) (nI 121) (nI 0))) 16 (spellF (nI 109) (nI 105) (nI 110) (nI 111) (nI 114) (nI 0))) 17 (spellF (nI 115) (nI 101) (nI 110) (nI 105) (nI 111) (nI 114)))
  refine lv_aload_n hx hb dX6_init_428 rfl (lv_at hl 0 rfl) ?_
  refine mm_get (C := RX6) (T := TX6) (N := 14) (k := 1) hx hb hts (fun _ h => List.mem_cons_of_mem _ (List.mem_append_right _ h)) hown hK hM (hJ.1) rfl (by decide) (hts (.fieldLink RX6 13 "SentenceRulesModel" "vocabulary" "[I") (List.mem_of_getElem? (i := 6) rfl)) rfl rfl dX6_init_429 ?_
  refine lv_bipush (v := (nI 18)) hx hb dX6_init_432 (by decide +kernel) ?_
  refine lv_bipush (v := (nI 115)) hx hb dX6_init_434 (by decide +kernel) ?_
  refine lv_bipush (v := (nI 109)) hx hb dX6_init_436 (by decide +kernel) ?_
  refine lv_bipush (v := (nI 97)) hx hb dX6_init_438 (by decide +kernel) ?_
  refine lv_bipush (v := (nI 108)) hx hb dX6_init_440 (by decide +kernel) ?_
  refine lv_bipush (v := (nI 108)) hx hb dX6_init_442 (by decide +kernel) ?_
  refine lv_iconst (v := (nI 0)) hx hb dX6_init_444 (by decide +kernel) ?_
  refine mm_S (As := [.int (nI 115), .int (nI 109), .int (nI 97), .int (nI 108), .int (nI 108), .int (nI 0)]) (rest := [.int (nI 18), .ref qz3]) ⟨hx, hb, hml, hown, hts⟩ (c6_spell l G _ (nI 115) (nI 109) (nI 97) (nI 108) (nI 108) (nI 0)) (va_cwS 6 hts gX6_init_X6_spell rfl rfl rfl (by decide +kernel) ⟨Nat.le_of_ble_eq_true rfl, Nat.le_of_ble_eq_true rfl⟩) hK hE hA hM rfl hl.1 rfl (Nat.le_of_ble_eq_true rfl) dX6_init_445 ⟨Nat.le_of_ble_eq_true rfl, Nat.le_of_ble_eq_true rfl⟩ (fun v f1 Hp lcs hp hM => ?_)
  obtain ⟨rfl, hf⟩ := hp; subst hf
  refine mn_iast hx hb hK hM (hJ.2.2.1) 18 (by omega) (by decide) dX6_init_448 (fun Hp lcs hM => ?_)
  have hJ := hJ.setV (upd (upd (upd (upd (upd (upd (upd (upd (upd (upd (upd (upd (upd (upd (upd (upd (upd (upd (upd (fun _ => 0) 0 (spellF (nI 105) (nI 102) (nI 0) (nI 0) (nI 0) (nI 0))) 1 (spellF (nI 97) (nI 110) (nI 100) (nI 0) (nI 0) (nI 0))) 2 (spellF (nI 116) (nI 104) (nI 101) (nI 110) (nI 0) (nI 0))) 3 (spellF (nI 109) (nI 101) (nI 97) (nI 110) (nI 115) (nI 0))) 4 (spellF (nI 105) (nI 115) (nI 0) (nI 0) (nI 0) (nI 0))) 5 (spellF (nI 111) (nI 118) (nI 101) (nI 114) (nI 0) (nI 0))) 6 (spellF (nI 117) (nI 110) (nI 100) (nI 101) (nI 114) (nI 0))) 7 (spellF (nI 110) (nI 111) (nI 116) (nI 0) (nI 0) (nI 0))) 8 (spellF (nI 102) (nI 114) (nI 111) (nI 109) (nI 0) (nI 0))) 9 (spellF (nI 117) (nI 110) (nI 116) (nI 105) (nI 108) (nI 0))) 10 (spellF (nI 97) (nI 103) (nI 101) (nI 0) (nI 0) (nI 0))) 11 (spellF (nI 105) (nI 110) (nI 99) (nI 111) (nI 109) (nI 101))) 12 (spellF (nI 115) (nI 105) (nI 122) (nI 101) (nI 0) (nI 0))) 13 (spellF (nI 99) (nI 111) (nI 117) (nI 110) (nI 116) (nI 0))) 14 (spellF (nI 98) (nI 105) (nI 114) (nI 116) (nI 104) (nI 0))) 15 (spellF (nI 101) (nI 110) (nI 116) (nI 114) (nI 121) (nI 0))) 16 (spellF (nI 109) (nI 105) (nI 110) (nI 111) (nI 114) (nI 0))) 17 (spellF (nI 115) (nI 101) (nI 110) (nI 105) (nI 111) (nI 114))) 18 (spellF (nI 115) (nI 109) (nI 97) (nI 108) (nI 108) (nI 0)))
  refine lv_aload_n hx hb dX6_init_449 rfl (lv_at hl 0 rfl) ?_
  refine mm_get (C := RX6) (T := TX6) (N := 14) (k := 1) hx hb hts (fun _ h => List.mem_cons_of_mem _ (List.mem_append_right _ h)) hown hK hM (hJ.1) rfl (by decide) (hts (.fieldLink RX6 13 "SentenceRulesModel" "vocabulary" "[I") (List.mem_of_getElem? (i := 6) rfl)) rfl rfl dX6_init_450 ?_
  refine lv_bipush (v := (nI 19)) hx hb dX6_init_453 (by decide +kernel) ?_
  refine lv_bipush (v := (nI 108)) hx hb dX6_init_455 (by decide +kernel) ?_
  refine lv_bipush (v := (nI 97)) hx hb dX6_init_457 (by decide +kernel) ?_
  refine lv_bipush (v := (nI 114)) hx hb dX6_init_459 (by decide +kernel) ?_
  refine lv_bipush (v := (nI 103)) hx hb dX6_init_461 (by decide +kernel) ?_
  refine lv_bipush (v := (nI 101)) hx hb dX6_init_463 (by decide +kernel) ?_
  refine lv_iconst (v := (nI 0)) hx hb dX6_init_465 (by decide +kernel) ?_
  refine mm_S (As := [.int (nI 108), .int (nI 97), .int (nI 114), .int (nI 103), .int (nI 101), .int (nI 0)]) (rest := [.int (nI 19), .ref qz3]) ⟨hx, hb, hml, hown, hts⟩ (c6_spell l G _ (nI 108) (nI 97) (nI 114) (nI 103) (nI 101) (nI 0)) (va_cwS 6 hts gX6_init_X6_spell rfl rfl rfl (by decide +kernel) ⟨Nat.le_of_ble_eq_true rfl, Nat.le_of_ble_eq_true rfl⟩) hK hE hA hM rfl hl.1 rfl (Nat.le_of_ble_eq_true rfl) dX6_init_466 ⟨Nat.le_of_ble_eq_true rfl, Nat.le_of_ble_eq_true rfl⟩ (fun v f1 Hp lcs hp hM => ?_)
  obtain ⟨rfl, hf⟩ := hp; subst hf
  refine mn_iast hx hb hK hM (hJ.2.2.1) 19 (by omega) (by decide) dX6_init_469 (fun Hp lcs hM => ?_)
  have hJ := hJ.setV (upd (upd (upd (upd (upd (upd (upd (upd (upd (upd (upd (upd (upd (upd (upd (upd (upd (upd (upd (upd (fun _ => 0) 0 (spellF (nI 105) (nI 102) (nI 0) (nI 0) (nI 0) (nI 0))) 1 (spellF (nI 97) (nI 110) (nI 100) (nI 0) (nI 0) (nI 0))) 2 (spellF (nI 116) (nI 104) (nI 101) (nI 110) (nI 0) (nI 0))) 3 (spellF (nI 109) (nI 101) (nI 97) (nI 110) (nI 115) (nI 0))) 4 (spellF (nI 105) (nI 115) (nI 0) (nI 0) (nI 0) (nI 0))) 5 (spellF (nI 111) (nI 118) (nI 101) (nI 114) (nI 0) (nI 0))) 6 (spellF (nI 117) (nI 110) (nI 100) (nI 101) (nI 114) (nI 0))) 7 (spellF (nI 110) (nI 111) (nI 116) (nI 0) (nI 0) (nI 0))) 8 (spellF (nI 102) (nI 114) (nI 111) (nI 109) (nI 0) (nI 0))) 9 (spellF (nI 117) (nI 110) (nI 116) (nI 105) (nI 108) (nI 0))) 10 (spellF (nI 97) (nI 103) (nI 101) (nI 0) (nI 0) (nI 0))) 11 (spellF (nI 105) (nI 110) (nI 99) (nI 111) (nI 109) (nI 101))) 12 (spellF (nI 115) (nI 105) (nI 122) (nI 101) (nI 0) (nI 0))) 13 (spellF (nI 99) (nI 111) (nI 117) (nI 110) (nI 116) (nI 0))) 14 (spellF (nI 98) (nI 105) (nI 114) (nI 116) (nI 104) (nI 0))) 15 (spellF (nI 101) (nI 110) (nI 116) (nI 114) (nI 121) (nI 0))) 16 (spellF (nI 109) (nI 105) (nI 110) (nI 111) (nI 114) (nI 0))) 17 (spellF (nI 115) (nI 101) (nI 110) (nI 105) (nI 111) (nI 114))) 18 (spellF (nI 115) (nI 109) (nI 97) (nI 108) (nI 108) (nI 0))) 19 (spellF (nI 108) (nI 97) (nI 114) (nI 103) (nI 101) (nI 0)))
  refine lv_aload_n hx hb dX6_init_470 rfl (lv_at hl 0 rfl) ?_
  refine mm_get (C := RX6) (T := TX6) (N := 14) (k := 1) hx hb hts (fun _ h => List.mem_cons_of_mem _ (List.mem_append_right _ h)) hown hK hM (hJ.1) rfl (by decide) (hts (.fieldLink RX6 13 "SentenceRulesModel" "vocabulary" "[I") (List.mem_of_getElem? (i := 6) rfl)) rfl rfl dX6_init_471 ?_
  refine lv_bipush (v := (nI 20)) hx hb dX6_init_474 (by decide +kernel) ?_
  refine lv_bipush (v := (nI 101)) hx hb dX6_init_476 (by decide +kernel) ?_
  refine lv_bipush (v := (nI 97)) hx hb dX6_init_478 (by decide +kernel) ?_
  refine lv_bipush (v := (nI 114)) hx hb dX6_init_480 (by decide +kernel) ?_
  refine lv_bipush (v := (nI 108)) hx hb dX6_init_482 (by decide +kernel) ?_
  refine lv_bipush (v := (nI 121)) hx hb dX6_init_484 (by decide +kernel) ?_
  refine lv_iconst (v := (nI 0)) hx hb dX6_init_486 (by decide +kernel) ?_
  refine mm_S (As := [.int (nI 101), .int (nI 97), .int (nI 114), .int (nI 108), .int (nI 121), .int (nI 0)]) (rest := [.int (nI 20), .ref qz3]) ⟨hx, hb, hml, hown, hts⟩ (c6_spell l G _ (nI 101) (nI 97) (nI 114) (nI 108) (nI 121) (nI 0)) (va_cwS 6 hts gX6_init_X6_spell rfl rfl rfl (by decide +kernel) ⟨Nat.le_of_ble_eq_true rfl, Nat.le_of_ble_eq_true rfl⟩) hK hE hA hM rfl hl.1 rfl (Nat.le_of_ble_eq_true rfl) dX6_init_487 ⟨Nat.le_of_ble_eq_true rfl, Nat.le_of_ble_eq_true rfl⟩ (fun v f1 Hp lcs hp hM => ?_)
  obtain ⟨rfl, hf⟩ := hp; subst hf
  refine mn_iast hx hb hK hM (hJ.2.2.1) 20 (by omega) (by decide) dX6_init_490 (fun Hp lcs hM => ?_)
  have hJ := hJ.setV (upd (upd (upd (upd (upd (upd (upd (upd (upd (upd (upd (upd (upd (upd (upd (upd (upd (upd (upd (upd (upd (fun _ => 0) 0 (spellF (nI 105) (nI 102) (nI 0) (nI 0) (nI 0) (nI 0))) 1 (spellF (nI 97) (nI 110) (nI 100) (nI 0) (nI 0) (nI 0))) 2 (spellF (nI 116) (nI 104) (nI 101) (nI 110) (nI 0) (nI 0))) 3 (spellF (nI 109) (nI 101) (nI 97) (nI 110) (nI 115) (nI 0))) 4 (spellF (nI 105) (nI 115) (nI 0) (nI 0) (nI 0) (nI 0))) 5 (spellF (nI 111) (nI 118) (nI 101) (nI 114) (nI 0) (nI 0))) 6 (spellF (nI 117) (nI 110) (nI 100) (nI 101) (nI 114) (nI 0))) 7 (spellF (nI 110) (nI 111) (nI 116) (nI 0) (nI 0) (nI 0))) 8 (spellF (nI 102) (nI 114) (nI 111) (nI 109) (nI 0) (nI 0))) 9 (spellF (nI 117) (nI 110) (nI 116) (nI 105) (nI 108) (nI 0))) 10 (spellF (nI 97) (nI 103) (nI 101) (nI 0) (nI 0) (nI 0))) 11 (spellF (nI 105) (nI 110) (nI 99) (nI 111) (nI 109) (nI 101))) 12 (spellF (nI 115) (nI 105) (nI 122) (nI 101) (nI 0) (nI 0))) 13 (spellF (nI 99) (nI 111) (nI 117) (nI 110) (nI 116) (nI 0))) 14 (spellF (nI 98) (nI 105) (nI 114) (nI 116) (nI 104) (nI 0))) 15 (spellF (nI 101) (nI 110) (nI 116) (nI 114) (nI 121) (nI 0))) 16 (spellF (nI 109) (nI 105) (nI 110) (nI 111) (nI 114) (nI 0))) 17 (spellF (nI 115) (nI 101) (nI 110) (nI 105) (nI 111) (nI 114))) 18 (spellF (nI 115) (nI 109) (nI 97) (nI 108) (nI 108) (nI 0))) 19 (spellF (nI 108) (nI 97) (nI 114) (nI 103) (nI 101) (nI 0))) 20 (spellF (nI 101) (nI 97) (nI 114) (nI 108) (nI 121) (nI 0)))
  refine lv_aload_n hx hb dX6_init_491 rfl (lv_at hl 0 rfl) ?_
  refine mm_get (C := RX6) (T := TX6) (N := 14) (k := 1) hx hb hts (fun _ h => List.mem_cons_of_mem _ (List.mem_append_right _ h)) hown hK hM (hJ.1) rfl (by decide) (hts (.fieldLink RX6 13 "SentenceRulesModel" "vocabulary" "[I") (List.mem_of_getElem? (i := 6) rfl)) rfl rfl dX6_init_492 ?_
  refine lv_bipush (v := (nI 21)) hx hb dX6_init_495 (by decide +kernel) ?_
  refine lv_bipush (v := (nI 108)) hx hb dX6_init_497 (by decide +kernel) ?_
  refine lv_bipush (v := (nI 97)) hx hb dX6_init_499 (by decide +kernel) ?_
  refine lv_bipush (v := (nI 116)) hx hb dX6_init_501 (by decide +kernel) ?_
  refine lv_bipush (v := (nI 101)) hx hb dX6_init_503 (by decide +kernel) ?_
  refine lv_iconst (v := (nI 0)) hx hb dX6_init_505 (by decide +kernel) ?_
  refine lv_iconst (v := (nI 0)) hx hb dX6_init_506 (by decide +kernel) ?_
  refine mm_S (As := [.int (nI 108), .int (nI 97), .int (nI 116), .int (nI 101), .int (nI 0), .int (nI 0)]) (rest := [.int (nI 21), .ref qz3]) ⟨hx, hb, hml, hown, hts⟩ (c6_spell l G _ (nI 108) (nI 97) (nI 116) (nI 101) (nI 0) (nI 0)) (va_cwS 6 hts gX6_init_X6_spell rfl rfl rfl (by decide +kernel) ⟨Nat.le_of_ble_eq_true rfl, Nat.le_of_ble_eq_true rfl⟩) hK hE hA hM rfl hl.1 rfl (Nat.le_of_ble_eq_true rfl) dX6_init_507 ⟨Nat.le_of_ble_eq_true rfl, Nat.le_of_ble_eq_true rfl⟩ (fun v f1 Hp lcs hp hM => ?_)
  obtain ⟨rfl, hf⟩ := hp; subst hf
  refine mn_iast hx hb hK hM (hJ.2.2.1) 21 (by omega) (by decide) dX6_init_510 (fun Hp lcs hM => ?_)
  have hJ := hJ.setV (upd (upd (upd (upd (upd (upd (upd (upd (upd (upd (upd (upd (upd (upd (upd (upd (upd (upd (upd (upd (upd (upd (fun _ => 0) 0 (spellF (nI 105) (nI 102) (nI 0) (nI 0) (nI 0) (nI 0))) 1 (spellF (nI 97) (nI 110) (nI 100) (nI 0) (nI 0) (nI 0))) 2 (spellF (nI 116) (nI 104) (nI 101) (nI 110) (nI 0) (nI 0))) 3 (spellF (nI 109) (nI 101) (nI 97) (nI 110) (nI 115) (nI 0))) 4 (spellF (nI 105) (nI 115) (nI 0) (nI 0) (nI 0) (nI 0))) 5 (spellF (nI 111) (nI 118) (nI 101) (nI 114) (nI 0) (nI 0))) 6 (spellF (nI 117) (nI 110) (nI 100) (nI 101) (nI 114) (nI 0))) 7 (spellF (nI 110) (nI 111) (nI 116) (nI 0) (nI 0) (nI 0))) 8 (spellF (nI 102) (nI 114) (nI 111) (nI 109) (nI 0) (nI 0))) 9 (spellF (nI 117) (nI 110) (nI 116) (nI 105) (nI 108) (nI 0))) 10 (spellF (nI 97) (nI 103) (nI 101) (nI 0) (nI 0) (nI 0))) 11 (spellF (nI 105) (nI 110) (nI 99) (nI 111) (nI 109) (nI 101))) 12 (spellF (nI 115) (nI 105) (nI 122) (nI 101) (nI 0) (nI 0))) 13 (spellF (nI 99) (nI 111) (nI 117) (nI 110) (nI 116) (nI 0))) 14 (spellF (nI 98) (nI 105) (nI 114) (nI 116) (nI 104) (nI 0))) 15 (spellF (nI 101) (nI 110) (nI 116) (nI 114) (nI 121) (nI 0))) 16 (spellF (nI 109) (nI 105) (nI 110) (nI 111) (nI 114) (nI 0))) 17 (spellF (nI 115) (nI 101) (nI 110) (nI 105) (nI 111) (nI 114))) 18 (spellF (nI 115) (nI 109) (nI 97) (nI 108) (nI 108) (nI 0))) 19 (spellF (nI 108) (nI 97) (nI 114) (nI 103) (nI 101) (nI 0))) 20 (spellF (nI 101) (nI 97) (nI 114) (nI 108) (nI 121) (nI 0))) 21 (spellF (nI 108) (nI 97) (nI 116) (nI 101) (nI 0) (nI 0)))
  refine lv_aload_n hx hb dX6_init_511 rfl (lv_at hl 0 rfl) ?_
  refine mm_get (C := RX6) (T := TX6) (N := 14) (k := 1) hx hb hts (fun _ h => List.mem_cons_of_mem _ (List.mem_append_right _ h)) hown hK hM (hJ.1) rfl (by decide) (hts (.fieldLink RX6 13 "SentenceRulesModel" "vocabulary" "[I") (List.mem_of_getElem? (i := 6) rfl)) rfl rfl dX6_init_512 ?_
  refine lv_bipush (v := (nI 22)) hx hb dX6_init_515 (by decide +kernel) ?_
  refine lv_bipush (v := (nI 102)) hx hb dX6_init_517 (by decide +kernel) ?_
  refine lv_bipush (v := (nI 101)) hx hb dX6_init_519 (by decide +kernel) ?_
  refine lv_bipush (v := (nI 101)) hx hb dX6_init_521 (by decide +kernel) ?_
  refine lv_iconst (v := (nI 0)) hx hb dX6_init_523 (by decide +kernel) ?_
  refine lv_iconst (v := (nI 0)) hx hb dX6_init_524 (by decide +kernel) ?_
  refine lv_iconst (v := (nI 0)) hx hb dX6_init_525 (by decide +kernel) ?_
  refine mm_S (As := [.int (nI 102), .int (nI 101), .int (nI 101), .int (nI 0), .int (nI 0), .int (nI 0)]) (rest := [.int (nI 22), .ref qz3]) ⟨hx, hb, hml, hown, hts⟩ (c6_spell l G _ (nI 102) (nI 101) (nI 101) (nI 0) (nI 0) (nI 0)) (va_cwS 6 hts gX6_init_X6_spell rfl rfl rfl (by decide +kernel) ⟨Nat.le_of_ble_eq_true rfl, Nat.le_of_ble_eq_true rfl⟩) hK hE hA hM rfl hl.1 rfl (Nat.le_of_ble_eq_true rfl) dX6_init_526 ⟨Nat.le_of_ble_eq_true rfl, Nat.le_of_ble_eq_true rfl⟩ (fun v f1 Hp lcs hp hM => ?_)
  obtain ⟨rfl, hf⟩ := hp; subst hf
  refine mn_iast hx hb hK hM (hJ.2.2.1) 22 (by omega) (by decide) dX6_init_529 (fun Hp lcs hM => ?_)
  have hJ := hJ.setV (upd (upd (upd (upd (upd (upd (upd (upd (upd (upd (upd (upd (upd (upd (upd (upd (upd (upd (upd (upd (upd (upd (upd (fun _ => 0) 0 (spellF (nI 105) (nI 102) (nI 0) (nI 0) (nI 0) (nI 0))) 1 (spellF (nI 97) (nI 110) (nI 100) (nI 0) (nI 0) (nI 0))) 2 (spellF (nI 116) (nI 104) (nI 101) (nI 110) (nI 0) (nI 0))) 3 (spellF (nI 109) (nI 101) (nI 97) (nI 110) (nI 115) (nI 0))) 4 (spellF (nI 105) (nI 115) (nI 0) (nI 0) (nI 0) (nI 0))) 5 (spellF (nI 111) (nI 118) (nI 101) (nI 114) (nI 0) (nI 0))) 6 (spellF (nI 117) (nI 110) (nI 100) (nI 101) (nI 114) (nI 0))) 7 (spellF (nI 110) (nI 111) (nI 116) (nI 0) (nI 0) (nI 0))) 8 (spellF (nI 102) (nI 114) (nI 111) (nI 109) (nI 0) (nI 0))) 9 (spellF (nI 117) (nI 110) (nI 116) (nI 105) (nI 108) (nI 0))) 10 (spellF (nI 97) (nI 103) (nI 101) (nI 0) (nI 0) (nI 0))) 11 (spellF (nI 105) (nI 110) (nI 99) (nI 111) (nI 109) (nI 101))) 12 (spellF (nI 115) (nI 105) (nI 122) (nI 101) (nI 0) (nI 0))) 13 (spellF (nI 99) (nI 111) (nI 117) (nI 110) (nI 116) (nI 0))) 14 (spellF (nI 98) (nI 105) (nI 114) (nI 116) (nI 104) (nI 0))) 15 (spellF (nI 101) (nI 110) (nI 116) (nI 114) (nI 121) (nI 0))) 16 (spellF (nI 109) (nI 105) (nI 110) (nI 111) (nI 114) (nI 0))) 17 (spellF (nI 115) (nI 101) (nI 110) (nI 105) (nI 111) (nI 114))) 18 (spellF (nI 115) (nI 109) (nI 97) (nI 108) (nI 108) (nI 0))) 19 (spellF (nI 108) (nI 97) (nI 114) (nI 103) (nI 101) (nI 0))) 20 (spellF (nI 101) (nI 97) (nI 114) (nI 108) (nI 121) (nI 0))) 21 (spellF (nI 108) (nI 97) (nI 116) (nI 101) (nI 0) (nI 0))) 22 (spellF (nI 102) (nI 101) (nI 101) (nI 0) (nI 0) (nI 0)))
  refine lv_aload_n hx hb dX6_init_530 rfl (lv_at hl 0 rfl) ?_
  refine mm_get (C := RX6) (T := TX6) (N := 14) (k := 1) hx hb hts (fun _ h => List.mem_cons_of_mem _ (List.mem_append_right _ h)) hown hK hM (hJ.1) rfl (by decide) (hts (.fieldLink RX6 13 "SentenceRulesModel" "vocabulary" "[I") (List.mem_of_getElem? (i := 6) rfl)) rfl rfl dX6_init_531 ?_
  refine lv_bipush (v := (nI 23)) hx hb dX6_init_534 (by decide +kernel) ?_
  refine lv_bipush (v := (nI 114)) hx hb dX6_init_536 (by decide +kernel) ?_
  refine lv_bipush (v := (nI 97)) hx hb dX6_init_538 (by decide +kernel) ?_
  refine lv_bipush (v := (nI 116)) hx hb dX6_init_540 (by decide +kernel) ?_
  refine lv_bipush (v := (nI 101)) hx hb dX6_init_542 (by decide +kernel) ?_
  refine lv_iconst (v := (nI 0)) hx hb dX6_init_544 (by decide +kernel) ?_
  refine lv_iconst (v := (nI 0)) hx hb dX6_init_545 (by decide +kernel) ?_
  refine mm_S (As := [.int (nI 114), .int (nI 97), .int (nI 116), .int (nI 101), .int (nI 0), .int (nI 0)]) (rest := [.int (nI 23), .ref qz3]) ⟨hx, hb, hml, hown, hts⟩ (c6_spell l G _ (nI 114) (nI 97) (nI 116) (nI 101) (nI 0) (nI 0)) (va_cwS 6 hts gX6_init_X6_spell rfl rfl rfl (by decide +kernel) ⟨Nat.le_of_ble_eq_true rfl, Nat.le_of_ble_eq_true rfl⟩) hK hE hA hM rfl hl.1 rfl (Nat.le_of_ble_eq_true rfl) dX6_init_546 ⟨Nat.le_of_ble_eq_true rfl, Nat.le_of_ble_eq_true rfl⟩ (fun v f1 Hp lcs hp hM => ?_)
  obtain ⟨rfl, hf⟩ := hp; subst hf
  refine mn_iast hx hb hK hM (hJ.2.2.1) 23 (by omega) (by decide) dX6_init_549 (fun Hp lcs hM => ?_)
  have hJ := hJ.setV (upd (upd (upd (upd (upd (upd (upd (upd (upd (upd (upd (upd (upd (upd (upd (upd (upd (upd (upd (upd (upd (upd (upd (upd (fun _ => 0) 0 (spellF (nI 105) (nI 102) (nI 0) (nI 0) (nI 0) (nI 0))) 1 (spellF (nI 97) (nI 110) (nI 100) (nI 0) (nI 0) (nI 0))) 2 (spellF (nI 116) (nI 104) (nI 101) (nI 110) (nI 0) (nI 0))) 3 (spellF (nI 109) (nI 101) (nI 97) (nI 110) (nI 115) (nI 0))) 4 (spellF (nI 105) (nI 115) (nI 0) (nI 0) (nI 0) (nI 0))) 5 (spellF (nI 111) (nI 118) (nI 101) (nI 114) (nI 0) (nI 0))) 6 (spellF (nI 117) (nI 110) (nI 100) (nI 101) (nI 114) (nI 0))) 7 (spellF (nI 110) (nI 111) (nI 116) (nI 0) (nI 0) (nI 0))) 8 (spellF (nI 102) (nI 114) (nI 111) (nI 109) (nI 0) (nI 0))) 9 (spellF (nI 117) (nI 110) (nI 116) (nI 105) (nI 108) (nI 0))) 10 (spellF (nI 97) (nI 103) (nI 101) (nI 0) (nI 0) (nI 0))) 11 (spellF (nI 105) (nI 110) (nI 99) (nI 111) (nI 109) (nI 101))) 12 (spellF (nI 115) (nI 105) (nI 122) (nI 101) (nI 0) (nI 0))) 13 (spellF (nI 99) (nI 111) (nI 117) (nI 110) (nI 116) (nI 0))) 14 (spellF (nI 98) (nI 105) (nI 114) (nI 116) (nI 104) (nI 0))) 15 (spellF (nI 101) (nI 110) (nI 116) (nI 114) (nI 121) (nI 0))) 16 (spellF (nI 109) (nI 105) (nI 110) (nI 111) (nI 114) (nI 0))) 17 (spellF (nI 115) (nI 101) (nI 110) (nI 105) (nI 111) (nI 114))) 18 (spellF (nI 115) (nI 109) (nI 97) (nI 108) (nI 108) (nI 0))) 19 (spellF (nI 108) (nI 97) (nI 114) (nI 103) (nI 101) (nI 0))) 20 (spellF (nI 101) (nI 97) (nI 114) (nI 108) (nI 121) (nI 0))) 21 (spellF (nI 108) (nI 97) (nI 116) (nI 101) (nI 0) (nI 0))) 22 (spellF (nI 102) (nI 101) (nI 101) (nI 0) (nI 0) (nI 0))) 23 (spellF (nI 114) (nI 97) (nI 116) (nI 101) (nI 0) (nI 0)))
  refine lv_aload_n hx hb dX6_init_550 rfl (lv_at hl 0 rfl) ?_
  refine mm_get (C := RX6) (T := TX6) (N := 14) (k := 1) hx hb hts (fun _ h => List.mem_cons_of_mem _ (List.mem_append_right _ h)) hown hK hM (hJ.1) rfl (by decide) (hts (.fieldLink RX6 13 "SentenceRulesModel" "vocabulary" "[I") (List.mem_of_getElem? (i := 6) rfl)) rfl rfl dX6_init_551 ?_
  refine lv_bipush (v := (nI 24)) hx hb dX6_init_554 (by decide +kernel) ?_
  refine lv_bipush (v := (nI 108)) hx hb dX6_init_556 (by decide +kernel) ?_
  refine lv_bipush (v := (nI 105)) hx hb dX6_init_558 (by decide +kernel) ?_
  refine lv_bipush (v := (nI 109)) hx hb dX6_init_560 (by decide +kernel) ?_
  refine lv_bipush (v := (nI 105)) hx hb dX6_init_562 (by decide +kernel) ?_
  refine lv_bipush (v := (nI 116)) hx hb dX6_init_564 (by decide +kernel) ?_
  refine lv_iconst (v := (nI 0)) hx hb dX6_init_566 (by decide +kernel) ?_
  refine mm_S (As := [.int (nI 108), .int (nI 105), .int (nI 109), .int (nI 105), .int (nI 116), .int (nI 0)]) (rest := [.int (nI 24), .ref qz3]) ⟨hx, hb, hml, hown, hts⟩ (c6_spell l G _ (nI 108) (nI 105) (nI 109) (nI 105) (nI 116) (nI 0)) (va_cwS 6 hts gX6_init_X6_spell rfl rfl rfl (by decide +kernel) ⟨Nat.le_of_ble_eq_true rfl, Nat.le_of_ble_eq_true rfl⟩) hK hE hA hM rfl hl.1 rfl (Nat.le_of_ble_eq_true rfl) dX6_init_567 ⟨Nat.le_of_ble_eq_true rfl, Nat.le_of_ble_eq_true rfl⟩ (fun v f1 Hp lcs hp hM => ?_)
  obtain ⟨rfl, hf⟩ := hp; subst hf
  refine mn_iast hx hb hK hM (hJ.2.2.1) 24 (by omega) (by decide) dX6_init_570 (fun Hp lcs hM => ?_)
  have hJ := hJ.setV (upd (upd (upd (upd (upd (upd (upd (upd (upd (upd (upd (upd (upd (upd (upd (upd (upd (upd (upd (upd (upd (upd (upd (upd (upd (fun _ => 0) 0 (spellF (nI 105) (nI 102) (nI 0) (nI 0) (nI 0) (nI 0))) 1 (spellF (nI 97) (nI 110) (nI 100) (nI 0) (nI 0) (nI 0))) 2 (spellF (nI 116) (nI 104) (nI 101) (nI 110) (nI 0) (nI 0))) 3 (spellF (nI 109) (nI 101) (nI 97) (nI 110) (nI 115) (nI 0))) 4 (spellF (nI 105) (nI 115) (nI 0) (nI 0) (nI 0) (nI 0))) 5 (spellF (nI 111) (nI 118) (nI 101) (nI 114) (nI 0) (nI 0))) 6 (spellF (nI 117) (nI 110) (nI 100) (nI 101) (nI 114) (nI 0))) 7 (spellF (nI 110) (nI 111) (nI 116) (nI 0) (nI 0) (nI 0))) 8 (spellF (nI 102) (nI 114) (nI 111) (nI 109) (nI 0) (nI 0))) 9 (spellF (nI 117) (nI 110) (nI 116) (nI 105) (nI 108) (nI 0))) 10 (spellF (nI 97) (nI 103) (nI 101) (nI 0) (nI 0) (nI 0))) 11 (spellF (nI 105) (nI 110) (nI 99) (nI 111) (nI 109) (nI 101))) 12 (spellF (nI 115) (nI 105) (nI 122) (nI 101) (nI 0) (nI 0))) 13 (spellF (nI 99) (nI 111) (nI 117) (nI 110) (nI 116) (nI 0))) 14 (spellF (nI 98) (nI 105) (nI 114) (nI 116) (nI 104) (nI 0))) 15 (spellF (nI 101) (nI 110) (nI 116) (nI 114) (nI 121) (nI 0))) 16 (spellF (nI 109) (nI 105) (nI 110) (nI 111) (nI 114) (nI 0))) 17 (spellF (nI 115) (nI 101) (nI 110) (nI 105) (nI 111) (nI 114))) 18 (spellF (nI 115) (nI 109) (nI 97) (nI 108) (nI 108) (nI 0))) 19 (spellF (nI 108) (nI 97) (nI 114) (nI 103) (nI 101) (nI 0))) 20 (spellF (nI 101) (nI 97) (nI 114) (nI 108) (nI 121) (nI 0))) 21 (spellF (nI 108) (nI 97) (nI 116) (nI 101) (nI 0) (nI 0))) 22 (spellF (nI 102) (nI 101) (nI 101) (nI 0) (nI 0) (nI 0))) 23 (spellF (nI 114) (nI 97) (nI 116) (nI 101) (nI 0) (nI 0))) 24 (spellF (nI 108) (nI 105) (nI 109) (nI 105) (nI 116) (nI 0)))
  refine lv_aload_n hx hb dX6_init_571 rfl (lv_at hl 0 rfl) ?_
  refine mm_get (C := RX6) (T := TX6) (N := 14) (k := 1) hx hb hts (fun _ h => List.mem_cons_of_mem _ (List.mem_append_right _ h)) hown hK hM (hJ.1) rfl (by decide) (hts (.fieldLink RX6 13 "SentenceRulesModel" "vocabulary" "[I") (List.mem_of_getElem? (i := 6) rfl)) rfl rfl dX6_init_572 ?_
  refine lv_bipush (v := (nI 25)) hx hb dX6_init_575 (by decide +kernel) ?_
  refine lv_bipush (v := (nI 103)) hx hb dX6_init_577 (by decide +kernel) ?_
  refine lv_bipush (v := (nI 114)) hx hb dX6_init_579 (by decide +kernel) ?_
  refine lv_bipush (v := (nI 97)) hx hb dX6_init_581 (by decide +kernel) ?_
  refine lv_bipush (v := (nI 100)) hx hb dX6_init_583 (by decide +kernel) ?_
  refine lv_bipush (v := (nI 101)) hx hb dX6_init_585 (by decide +kernel) ?_
  refine lv_iconst (v := (nI 0)) hx hb dX6_init_587 (by decide +kernel) ?_
  refine mm_S (As := [.int (nI 103), .int (nI 114), .int (nI 97), .int (nI 100), .int (nI 101), .int (nI 0)]) (rest := [.int (nI 25), .ref qz3]) ⟨hx, hb, hml, hown, hts⟩ (c6_spell l G _ (nI 103) (nI 114) (nI 97) (nI 100) (nI 101) (nI 0)) (va_cwS 6 hts gX6_init_X6_spell rfl rfl rfl (by decide +kernel) ⟨Nat.le_of_ble_eq_true rfl, Nat.le_of_ble_eq_true rfl⟩) hK hE hA hM rfl hl.1 rfl (Nat.le_of_ble_eq_true rfl) dX6_init_588 ⟨Nat.le_of_ble_eq_true rfl, Nat.le_of_ble_eq_true rfl⟩ (fun v f1 Hp lcs hp hM => ?_)
  obtain ⟨rfl, hf⟩ := hp; subst hf
  refine mn_iast hx hb hK hM (hJ.2.2.1) 25 (by omega) (by decide) dX6_init_591 (fun Hp lcs hM => ?_)
  have hJ := hJ.setV (upd (upd (upd (upd (upd (upd (upd (upd (upd (upd (upd (upd (upd (upd (upd (upd (upd (upd (upd (upd (upd (upd (upd (upd (upd (upd (fun _ => 0) 0 (spellF (nI 105) (nI 102) (nI 0) (nI 0) (nI 0) (nI 0))) 1 (spellF (nI 97) (nI 110) (nI 100) (nI 0) (nI 0) (nI 0))) 2 (spellF (nI 116) (nI 104) (nI 101) (nI 110) (nI 0) (nI 0))) 3 (spellF (nI 109) (nI 101) (nI 97) (nI 110) (nI 115) (nI 0))) 4 (spellF (nI 105) (nI 115) (nI 0) (nI 0) (nI 0) (nI 0))) 5 (spellF (nI 111) (nI 118) (nI 101) (nI 114) (nI 0) (nI 0))) 6 (spellF (nI 117) (nI 110) (nI 100) (nI 101) (nI 114) (nI 0))) 7 (spellF (nI 110) (nI 111) (nI 116) (nI 0) (nI 0) (nI 0))) 8 (spellF (nI 102) (nI 114) (nI 111) (nI 109) (nI 0) (nI 0))) 9 (spellF (nI 117) (nI 110) (nI 116) (nI 105) (nI 108) (nI 0))) 10 (spellF (nI 97) (nI 103) (nI 101) (nI 0) (nI 0) (nI 0))) 11 (spellF (nI 105) (nI 110) (nI 99) (nI 111) (nI 109) (nI 101))) 12 (spellF (nI 115) (nI 105) (nI 122) (nI 101) (nI 0) (nI 0))) 13 (spellF (nI 99) (nI 111) (nI 117) (nI 110) (nI 116) (nI 0))) 14 (spellF (nI 98) (nI 105) (nI 114) (nI 116) (nI 104) (nI 0))) 15 (spellF (nI 101) (nI 110) (nI 116) (nI 114) (nI 121) (nI 0))) 16 (spellF (nI 109) (nI 105) (nI 110) (nI 111) (nI 114) (nI 0))) 17 (spellF (nI 115) (nI 101) (nI 110) (nI 105) (nI 111) (nI 114))) 18 (spellF (nI 115) (nI 109) (nI 97) (nI 108) (nI 108) (nI 0))) 19 (spellF (nI 108) (nI 97) (nI 114) (nI 103) (nI 101) (nI 0))) 20 (spellF (nI 101) (nI 97) (nI 114) (nI 108) (nI 121) (nI 0))) 21 (spellF (nI 108) (nI 97) (nI 116) (nI 101) (nI 0) (nI 0))) 22 (spellF (nI 102) (nI 101) (nI 101) (nI 0) (nI 0) (nI 0))) 23 (spellF (nI 114) (nI 97) (nI 116) (nI 101) (nI 0) (nI 0))) 24 (spellF (nI 108) (nI 105) (nI 109) (nI 105) (nI 116) (nI 0))) 25 (spellF (nI 103) (nI 114) (nI 97) (nI 100) (nI 101) (nI 0)))
  exact mm_vret hx hb hlocks hr (Nat.le_of_ble_eq_true rfl) (Nat.le_of_ble_eq_true rfl) hM (⟨rfl, fun k => [qz1, qz3, qz5, qz7, qz9, qz11].getD k 0, hJ.1, hJ.2.1, hJ.2.2.1.trans (by rw [voc_end]), hJ.2.2.2⟩) dX6_init_592
