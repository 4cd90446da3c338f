/-! THE CLASS: makers -/
theorem fresh_of {f f2 : mE} {q : Nat} (h : ∀ e, f q = some e → f2 q = some e) (hn : f2 q = none) : f q = none := by
  cases e : f q with
  | none => rfl
  | some u => rw [h u e] at hn; cases hn
set_option maxHeartbeats 4000000 in
set_option maxRecDepth 100000 in
theorem c1_init (l : Launch) (G : mG) {f : mE} {t : Nat} (ht : f t = some (.inr (2, [.null, .null]))) : mC l G yX1_init wsX1_init ({ frames := 1, cells := 2, slots := 14, locals := 20 } : Room) f [.ref t] (fun v f1 => v = none ∧ ∃ p q : Nat, f p = none ∧ f q = none ∧ p ≠ q ∧ f1 t = some (.inr (2, [.ref p, .ref q])) ∧ f1 p = some (mI G 7 (fun _ => 0)) ∧ f1 q = some (mI G 7 (fun _ => 0)) ∧ ∀ b e, f b = some e → b ≠ t → f1 b = some e) 2 14 := by
  refine mC.of (cc := cX1_init) (maxL := 1) (ret := none) (by decide) rfl (Nat.le_of_ble_eq_true rfl) ?_
  intro pgm env s mt args below meth c A ls hx hb hml hr hlocks hown hname hts hK hE hA hM hl
  have hl : lv_has ls 1 [(0, .ref t)] := hl
  have hF := fun w9 e (hb : f w9 = some e) (_ : w9 ≠ t) => hb
  refine lv_aload_n hx hb dX1_init_0 rfl (lv_at hl 0 rfl) ?_
  refine W.objInit hx hb hown (hts (.methodLink RX1 3 objectInit) (List.mem_of_getElem? (i := 1) rfl)) (hts (.instanceMethod objectInit) (List.mem_of_getElem? (i := 2) rfl)) (hts _ (List.mem_of_getElem? (i := 3) rfl)) rfl (by rw [hml]; exact hl.1) rfl dX1_init_1 (Nat.le_of_ble_eq_true rfl) (Nat.le_of_ble_eq_true rfl) ?_
  refine W.eq (g2 := F0 mt 4 ls []) rfl ?_
  refine lv_aload_n hx hb dX1_init_4 rfl (lv_at hl 0 rfl) ?_
  refine lv_bipush (v := (nI 7)) hx hb dX1_init_5 (by decide +kernel) ?_
  refine mm_newI hx hb (hts (.arrayClass .int) (List.mem_of_getElem? (i := 4) rfl)) hK hM hA 7 (by decide) (by decide) (Nat.le_of_ble_eq_true rfl) (Nat.le_of_ble_eq_true rfl) (Nat.le_of_ble_eq_true rfl) dX1_init_7 (fun qz1 Hp nz2 hM => ?_)
  obtain ⟨gz3, hM, hz4, rz5⟩ := hM.up
  have fo6 : f qz1 = none := fresh_of (fun e hb => hF qz1 e hb (ne_none ht nz2).symm) nz2
  have hF := fun w9 e (hb : f w9 = some e) (hn0 : w9 ≠ t) => (rz5 w9 (ne_none (hF w9 e hb hn0) nz2)).trans (hF w9 e hb hn0)
  have ne7 := ne_none ht nz2
  have hz8 := (rz5 _ ne7).trans ht
  refine mm_putF (C := RX1) (T := TX1) (N := 2) (k := 0) hx hb hts (fun _ h => List.mem_cons_of_mem _ (List.mem_append_right _ h)) tyX1 tyX1_ok nmX1 hown hK hM hz8 rfl (by decide) (hts (.fieldLink RX1 9 "SentenceRules$Region" "lows" "[I") (List.mem_of_getElem? (i := 5) rfl)) rfl rfl hname rfl rfl rfl (Nat.le_of_ble_eq_true rfl) dX1_init_9 (fun Hp lcs hM => ?_)
  obtain ⟨gz9, hM, hz10, rz11⟩ := hM.up
  have hz12 := (rz11 _ (Ne.symm ne7)).trans hz4
  have hF := fun w9 e (hb : f w9 = some e) (hn0 : w9 ≠ t) => (rz11 w9 hn0).trans (hF w9 e hb hn0)
  refine lv_aload_n hx hb dX1_init_12 rfl (lv_at hl 0 rfl) ?_
  refine lv_bipush (v := (nI 7)) hx hb dX1_init_13 (by decide +kernel) ?_
  refine mm_newI hx hb (hts (.arrayClass .int) (List.mem_of_getElem? (i := 4) rfl)) hK hM hA 7 (by decide) (by decide) (Nat.le_of_ble_eq_true rfl) (Nat.le_of_ble_eq_true rfl) (Nat.le_of_ble_eq_true rfl) dX1_init_15 (fun qz13 Hp nz14 hM => ?_)
  obtain ⟨gz15, hM, hz16, rz17⟩ := hM.up
  have fo18 : f qz13 = none := fresh_of (fun e hb => hF qz13 e hb (ne_none hz10 nz14).symm) nz14
  have hF := fun w9 e (hb : f w9 = some e) (hn0 : w9 ≠ t) => (rz17 w9 (ne_none (hF w9 e hb hn0) nz14)).trans (hF w9 e hb hn0)
  have ne19 := ne_none hz12 nz14
  have hz20 := (rz17 _ ne19).trans hz12
  have ne21 := ne_none hz10 nz14
  have hz22 := (rz17 _ ne21).trans hz10
  refine mm_putF (C := RX1) (T := TX1) (N := 2) (k := 1) hx hb hts (fun _ h => List.mem_cons_of_mem _ (List.mem_append_right _ h)) tyX1 tyX1_ok nmX1 hown hK hM hz22 rfl (by decide) (hts (.fieldLink RX1 15 "SentenceRules$Region" "highs" "[I") (List.mem_of_getElem? (i := 6) rfl)) rfl rfl hname rfl rfl rfl (Nat.le_of_ble_eq_true rfl) dX1_init_17 (fun Hp lcs hM => ?_)
  obtain ⟨gz23, hM, hz24, rz25⟩ := hM.up
  have hz26 := (rz25 _ (Ne.symm ne7)).trans hz20
  have hz27 := (rz25 _ (Ne.symm ne21)).trans hz16
  have hF := fun w9 e (hb : f w9 = some e) (hn0 : w9 ≠ t) => (rz25 w9 hn0).trans (hF w9 e hb hn0)
  exact mm_vret hx hb hlocks hr (Nat.le_of_ble_eq_true rfl) (Nat.le_of_ble_eq_true rfl) hM (⟨rfl, qz1, qz13, fo6, fo18, ne19, hz24, hz26, hz27, hF⟩) dX1_init_20
set_option maxHeartbeats 4000000 in
set_option maxRecDepth 100000 in
theorem c4_init (l : Launch) (G : mG) {f : mE} {t : Nat} (ht : f t = some (.inr (5, [.int 0, .null, .null]))) : mC l G yX4_init wsX4_init ({ frames := 1, cells := 2, slots := 48, locals := 20 } : Room) f [.ref t] (fun v f1 => v = none ∧ ∃ p q : Nat, f p = none ∧ f q = none ∧ p ≠ q ∧ f1 t = some (.inr (5, [.int (nI 0), .ref p, .ref q])) ∧ f1 p = some (mI G 24 (fun _ => 0)) ∧ f1 q = some (mI G 24 (fun _ => 0)) ∧ ∀ b e, f b = some e → b ≠ t → f1 b = some e) 2 48 := by
  refine mC.of (cc := cX4_init) (maxL := 1) (ret := none) (by decide) rfl (Nat.le_of_ble_eq_true rfl) ?_
  intro pgm env s mt args below meth c A ls hx hb hml hr hlocks hown hname hts hK hE hA hM hl
  have hl : lv_has ls 1 [(0, .ref t)] := hl
  have hF := fun w9 e (hb : f w9 = some e) (_ : w9 ≠ t) => hb
  refine lv_aload_n hx hb dX4_init_0 rfl (lv_at hl 0 rfl) ?_
  refine W.objInit hx hb hown (hts (.methodLink RX4 3 objectInit) (List.mem_of_getElem? (i := 1) rfl)) (hts (.instanceMethod objectInit) (List.mem_of_getElem? (i := 2) rfl)) (hts _ (List.mem_of_getElem? (i := 3) rfl)) rfl (by rw [hml]; exact hl.1) rfl dX4_init_1 (Nat.le_of_ble_eq_true rfl) (Nat.le_of_ble_eq_true rfl) ?_
  refine W.eq (g2 := F0 mt 4 ls []) rfl ?_
  refine lv_aload_n hx hb dX4_init_4 rfl (lv_at hl 0 rfl) ?_
  refine lv_bipush (v := (nI 24)) hx hb dX4_init_5 (by decide +kernel) ?_
  refine mm_newI hx hb (hts (.arrayClass .int) (List.mem_of_getElem? (i := 4) rfl)) hK hM hA 24 (by decide) (by decide) (Nat.le_of_ble_eq_true rfl) (Nat.le_of_ble_eq_true rfl) (Nat.le_of_ble_eq_true rfl) dX4_init_7 (fun qz1 Hp nz2 hM => ?_)
  obtain ⟨gz3, hM, hz4, rz5⟩ := hM.up
  have fo6 : f qz1 = none := fresh_of (fun e hb => hF qz1 e hb (ne_none ht nz2).symm) nz2
  have hF := fun w9 e (hb : f w9 = some e) (hn0 : w9 ≠ t) => (rz5 w9 (ne_none (hF w9 e hb hn0) nz2)).trans (hF w9 e hb hn0)
  have ne7 := ne_none ht nz2
  have hz8 := (rz5 _ ne7).trans ht
  refine mm_putF (C := RX4) (T := TX4) (N := 3) (k := 1) hx hb hts (fun _ h => List.mem_cons_of_mem _ (List.mem_append_right _ h)) tyX4 tyX4_ok nmX4 hown hK hM hz8 rfl (by decide) (hts (.fieldLink RX4 9 "SentenceRules$Tokens" "kinds" "[I") (List.mem_of_getElem? (i := 5) rfl)) rfl rfl hname rfl rfl rfl (Nat.le_of_ble_eq_true rfl) dX4_init_9 (fun Hp lcs hM => ?_)
  obtain ⟨gz9, hM, hz10, rz11⟩ := hM.up
  have hz12 := (rz11 _ (Ne.symm ne7)).trans hz4
  have hF := fun w9 e (hb : f w9 = some e) (hn0 : w9 ≠ t) => (rz11 w9 hn0).trans (hF w9 e hb hn0)
  refine lv_aload_n hx hb dX4_init_12 rfl (lv_at hl 0 rfl) ?_
  refine lv_bipush (v := (nI 24)) hx hb dX4_init_13 (by decide +kernel) ?_
  refine mm_newI hx hb (hts (.arrayClass .int) (List.mem_of_getElem? (i := 4) rfl)) hK hM hA 24 (by decide) (by decide) (Nat.le_of_ble_eq_true rfl) (Nat.le_of_ble_eq_true rfl) (Nat.le_of_ble_eq_true rfl) dX4_init_15 (fun qz13 Hp nz14 hM => ?_)
  obtain ⟨gz15, hM, hz16, rz17⟩ := hM.up
  have fo18 : f qz13 = none := fresh_of (fun e hb => hF qz13 e hb (ne_none hz10 nz14).symm) nz14
  have hF := fun w9 e (hb : f w9 = some e) (hn0 : w9 ≠ t) => (rz17 w9 (ne_none (hF w9 e hb hn0) nz14)).trans (hF w9 e hb hn0)
  have ne19 := ne_none hz12 nz14
  have hz20 := (rz17 _ ne19).trans hz12
  have ne21 := ne_none hz10 nz14
  have hz22 := (rz17 _ ne21).trans hz10
  refine mm_putF (C := RX4) (T := TX4) (N := 3) (k := 2) hx hb hts (fun _ h => List.mem_cons_of_mem _ (List.mem_append_right _ h)) tyX4 tyX4_ok nmX4 hown hK hM hz22 rfl (by decide) (hts (.fieldLink RX4 15 "SentenceRules$Tokens" "values" "[I") (List.mem_of_getElem? (i := 6) rfl)) rfl rfl hname rfl rfl rfl (Nat.le_of_ble_eq_true rfl) dX4_init_17 (fun Hp lcs hM => ?_)
  obtain ⟨gz23, hM, hz24, rz25⟩ := hM.up
  have hz26 := (rz25 _ (Ne.symm ne7)).trans hz20
  have hz27 := (rz25 _ (Ne.symm ne21)).trans hz16
  have hF := fun w9 e (hb : f w9 = some e) (hn0 : w9 ≠ t) => (rz25 w9 hn0).trans (hF w9 e hb hn0)
  exact mm_vret hx hb hlocks hr (Nat.le_of_ble_eq_true rfl) (Nat.le_of_ble_eq_true rfl) hM (⟨rfl, qz1, qz13, fo6, fo18, ne19, hz24, hz26, hz27, hF⟩) dX4_init_20
set_option maxHeartbeats 4000000 in
set_option maxRecDepth 100000 in
theorem c0_init (l : Launch) (G : mG) {f : mE} {t : Nat} (ht : f t = some (.inr (1, [.int 0, .int 0, .int 0, .null, .int 0, .int 0, .int 0, .int 0, .int 0]))) : mC l G yX0_init wsX0_init ({ frames := 2, cells := 3, slots := 16, locals := 40 } : Room) f [.ref t] (fun v f1 => v = none ∧ ∃ r p q : Nat, f r = none ∧ f p = none ∧ f q = none ∧ r ≠ p ∧ r ≠ q ∧ p ≠ q ∧ f1 t = some (.inr (1, [.int 0, .int 0, .int 0, .ref r, .int 0, .int 0, .int 0, .int 0, .int 0])) ∧ f1 r = some (.inr (2, [.ref p, .ref q])) ∧ f1 p = some (mI G 7 (fun _ => 0)) ∧ f1 q = some (mI G 7 (fun _ => 0)) ∧ ∀ b e, f b = some e → b ≠ t → f1 b = some e) 3 16 := by
  refine mC.of (cc := cX0_init) (maxL := 1) (ret := none) (by decide) rfl (Nat.le_of_ble_eq_true rfl) ?_
  intro pgm env s mt args below meth c A ls hx hb hml hr hlocks hown hname hts hK hE hA hM hl
  have hl : lv_has ls 1 [(0, .ref t)] := hl
  have hF := fun w9 e (hb : f w9 = some e) (_ : w9 ≠ t) => hb
  refine lv_aload_n hx hb dX0_init_0 rfl (lv_at hl 0 rfl) ?_
  refine W.objInit hx hb hown (hts (.methodLink RX0 3 objectInit) (List.mem_of_getElem? (i := 1) rfl)) (hts (.instanceMethod objectInit) (List.mem_of_getElem? (i := 2) rfl)) (hts _ (List.mem_of_getElem? (i := 3) rfl)) rfl (by rw [hml]; exact hl.1) rfl dX0_init_1 (Nat.le_of_ble_eq_true rfl) (Nat.le_of_ble_eq_true rfl) ?_
  refine W.eq (g2 := F0 mt 4 ls []) rfl ?_
  refine lv_aload_n hx hb dX0_init_4 rfl (lv_at hl 0 rfl) ?_
  refine mm_new (C := RX1) (T := TX1) (N := 2) (ci := 2) hx hb hts (fun _ h => List.mem_cons_of_mem _ (List.mem_append_left _ (List.mem_append_right _ h))) tyX1_ok hown (hts (.classLink RX0 9 RX1) (List.mem_of_getElem? (i := 4) rfl)) (hts (.instantiable RX1 2) (List.mem_of_getElem? (i := 5) rfl)) (hts (.initialized RX1) (List.mem_of_getElem? (i := 6) rfl)) hK hM hA rfl [.null, .null] (by decide) (Nat.le_of_ble_eq_true rfl) (Nat.le_of_ble_eq_true rfl) dX0_init_5 (fun qz1 Hp nz2 hM => ?_)
  obtain ⟨gz3, hM, hz4, rz5⟩ := hM.up
  have fo6 : f qz1 = none := fresh_of (fun e hb => hF qz1 e hb (ne_none ht nz2).symm) nz2
  have hF := fun w9 e (hb : f w9 = some e) (hn0 : w9 ≠ t) => (rz5 w9 (ne_none (hF w9 e hb hn0) nz2)).trans (hF w9 e hb hn0)
  have ne7 := ne_none ht nz2
  have hz8 := (rz5 _ ne7).trans ht
  refine lv_dup hx hb dX0_init_8 rfl ?_
  refine mm_IN (As := []) (rest := [.ref qz1, .ref t]) ⟨hx, hb, hml, hown, hts⟩ (c1_init l G hz4) ⟨va_cnB 0 hts gX0_init_X1_init_n11 rfl rfl rfl (hE.1.1 _ (List.mem_of_getElem? (i := 2) rfl)) (hts (.initialized RX1) (List.mem_of_getElem? (i := 6) rfl)) (by decide +kernel) ⟨Nat.le_of_ble_eq_true rfl, Nat.le_of_ble_eq_true rfl⟩, rfl, (hts (.instanceMethod yX1_init) (List.mem_of_getElem? (i := 8) rfl))⟩ hK hE hA hM rfl hl.1 rfl (Nat.le_of_ble_eq_true rfl) dX0_init_9 ⟨Nat.le_of_ble_eq_true rfl, Nat.le_of_ble_eq_true rfl⟩ (fun v gz9 Hp lcs hp hM => ?_)
  obtain ⟨rfl, qz10, qz11, nz12, nz13, ne14, hz15, hz16, hz17, rz18⟩ := hp
  have fo19 : f qz10 = none := fresh_of (fun e hb => hF qz10 e hb (ne_none hz8 nz12).symm) nz12
  have ne20 := ne_none hz8 nz12
  have ne21 := ne_none hz4 nz12
  have fo22 : f qz11 = none := fresh_of (fun e hb => hF qz11 e hb (ne_none hz8 nz13).symm) nz13
  have ne23 := ne_none hz8 nz13
  have ne24 := ne_none hz4 nz13
  have hz25 := rz18 _ _ hz8 ne7
  have hF := fun w9 e (hb : f w9 = some e) (hn0 : w9 ≠ t) => rz18 w9 e (hF w9 e hb hn0) (ne_none hb fo6)
  refine mm_putF (C := RX0) (T := TX0) (N := 9) (k := 3) hx hb hts (fun _ h => List.mem_cons_of_mem _ (List.mem_append_right _ h)) tyX0 tyX0_ok nmX0 hown hK hM hz25 rfl (by decide) (hts (.fieldLink RX0 12 "SentenceRules$Reader" "region" "LSentenceRules$Region;") (List.mem_of_getElem? (i := 7) rfl)) rfl rfl hname rfl rfl rfl (Nat.le_of_ble_eq_true rfl) dX0_init_12 (fun Hp lcs hM => ?_)
  obtain ⟨gz26, hM, hz27, rz28⟩ := hM.up
  have hz29 := (rz28 _ (Ne.symm ne7)).trans hz15
  have hz30 := (rz28 _ (Ne.symm ne20)).trans hz16
  have hz31 := (rz28 _ (Ne.symm ne23)).trans hz17
  have hF := fun w9 e (hb : f w9 = some e) (hn0 : w9 ≠ t) => (rz28 w9 hn0).trans (hF w9 e hb hn0)
  exact mm_vret hx hb hlocks hr (Nat.le_of_ble_eq_true rfl) (Nat.le_of_ble_eq_true rfl) hM (⟨rfl, qz1, qz10, qz11, fo6, fo19, fo22, ne21, ne24, ne14, hz27, hz29, hz30, hz31, hF⟩) dX0_init_15
set_option maxHeartbeats 4000000 in
set_option maxRecDepth 100000 in
theorem c3_init (l : Launch) (G : mG) {f : mE} {t : Nat} (ht : f t = some (.inr (4, [.int 0, .null, .null, .null]))) : mC l G yX3_init wsX3_init ({ frames := 2, cells := 5, slots := 74, locals := 40 } : Room) f [.ref t] (fun v f1 => v = none ∧ ∃ b1 fc pr p q : Nat, f b1 = none ∧ f fc = none ∧ f pr = none ∧ f p = none ∧ f q = none ∧ b1 ≠ fc ∧ b1 ≠ pr ∧ b1 ≠ p ∧ b1 ≠ q ∧ fc ≠ pr ∧ fc ≠ p ∧ fc ≠ q ∧ pr ≠ p ∧ pr ≠ q ∧ p ≠ q ∧ f1 t = some (.inr (4, [.int 0, .ref b1, .ref fc, .ref pr])) ∧ f1 b1 = some (mQ G 2 16 (fun _ => none)) ∧ f1 fc = some (mI G 7 (upd (fun _ => 0) 6 (nI 36524))) ∧ f1 pr = some (.inr (5, [.int (nI 0), .ref p, .ref q])) ∧ f1 p = some (mI G 24 (fun _ => 0)) ∧ f1 q = some (mI G 24 (fun _ => 0)) ∧ ∀ b e, f b = some e → b ≠ t → f1 b = some e) 5 74 := by
  refine mC.of (cc := cX3_init) (maxL := 1) (ret := none) (by decide) rfl (Nat.le_of_ble_eq_true rfl) ?_
  intro pgm env s mt args below meth c A ls hx hb hml hr hlocks hown hname hts hK hE hA hM hl
  have hl : lv_has ls 1 [(0, .ref t)] := hl
  have hF := fun w9 e (hb : f w9 = some e) (_ : w9 ≠ t) => hb
  refine lv_aload_n hx hb dX3_init_0 rfl (lv_at hl 0 rfl) ?_
  refine W.objInit hx hb hown (hts (.methodLink RX3 3 objectInit) (List.mem_of_getElem? (i := 1) rfl)) (hts (.instanceMethod objectInit) (List.mem_of_getElem? (i := 2) rfl)) (hts _ (List.mem_of_getElem? (i := 3) rfl)) rfl (by rw [hml]; exact hl.1) rfl dX3_init_1 (Nat.le_of_ble_eq_true rfl) (Nat.le_of_ble_eq_true rfl) ?_
  refine W.eq (g2 := F0 mt 4 ls []) rfl ?_
  refine lv_aload_n hx hb dX3_init_4 rfl (lv_at hl 0 rfl) ?_
  refine lv_bipush (v := (nI 16)) hx hb dX3_init_5 (by decide +kernel) ?_
  refine mm_newS hx hb hown (hts (.classLink RX3 9 RX2) (List.mem_of_getElem? (i := 4) rfl)) hE hK hM hA 16 (by decide) (by decide) (Nat.le_of_ble_eq_true rfl) (Nat.le_of_ble_eq_true rfl) (Nat.le_of_ble_eq_true rfl) dX3_init_7 (fun qz1 Hp nz2 hM => ?_)
  obtain ⟨gz3, hM, hz4, rz5⟩ := hM.up
  have fo6 : f qz1 = none := fresh_of (fun e hb => hF qz1 e hb (ne_none ht nz2).symm) nz2
  have hF := fun w9 e (hb : f w9 = some e) (hn0 : w9 ≠ t) => (rz5 w9 (ne_none (hF w9 e hb hn0) nz2)).trans (hF w9 e hb hn0)
  have ne7 := ne_none ht nz2
  have hz8 := (rz5 _ ne7).trans ht
  refine mm_putF (C := RX3) (T := TX3) (N := 4) (k := 1) hx hb hts (fun _ h => List.mem_cons_of_mem _ (List.mem_append_left _ (List.mem_append_right _ h))) tyX3 tyX3_ok nmX3 hown hK hM hz8 rfl (by decide) (hts (.fieldLink RX3 11 "SentenceRules$State" "book" "[LSentenceRules$Sentence;") (List.mem_of_getElem? (i := 5) rfl)) rfl rfl hname rfl rfl rfl (Nat.le_of_ble_eq_true rfl) dX3_init_10 (fun Hp lcs hM => ?_)
  obtain ⟨gz9, hM, hz10, rz11⟩ := hM.up
  have hz12 := (rz11 _ (Ne.symm ne7)).trans hz4
  have hF := fun w9 e (hb : f w9 = some e) (hn0 : w9 ≠ t) => (rz11 w9 hn0).trans (hF w9 e hb hn0)
  refine lv_aload_n hx hb dX3_init_13 rfl (lv_at hl 0 rfl) ?_
  refine lv_bipush (v := (nI 7)) hx hb dX3_init_14 (by decide +kernel) ?_
  refine mm_newI hx hb (hts (.arrayClass .int) (List.mem_of_getElem? (i := 6) rfl)) hK hM hA 7 (by decide) (by decide) (Nat.le_of_ble_eq_true rfl) (Nat.le_of_ble_eq_true rfl) (Nat.le_of_ble_eq_true rfl) dX3_init_16 (fun qz13 Hp nz14 hM => ?_)
  obtain ⟨gz15, hM, hz16, rz17⟩ := hM.up
  have fo18 : f qz13 = none := fresh_of (fun e hb => hF qz13 e hb (ne_none hz10 nz14).symm) nz14
  have hF := fun w9 e (hb : f w9 = some e) (hn0 : w9 ≠ t) => (rz17 w9 (ne_none (hF w9 e hb hn0) nz14)).trans (hF w9 e hb hn0)
  have ne19 := ne_none hz12 nz14
  have hz20 := (rz17 _ ne19).trans hz12
  have ne21 := ne_none hz10 nz14
  have hz22 := (rz17 _ ne21).trans hz10
  refine mm_putF (C := RX3) (T := TX3) (N := 4) (k := 2) hx hb hts (fun _ h => List.mem_cons_of_mem _ (List.mem_append_left _ (List.mem_append_right _ h))) tyX3 tyX3_ok nmX3 hown hK hM hz22 rfl (by decide) (hts (.fieldLink RX3 17 "SentenceRules$State" "facts" "[I") (List.mem_of_getElem? (i := 7) rfl)) rfl rfl hname rfl rfl rfl (Nat.le_of_ble_eq_true rfl) dX3_init_18 (fun Hp lcs hM => ?_)
  obtain ⟨gz23, hM, hz24, rz25⟩ := hM.up
  have hz26 := (rz25 _ (Ne.symm ne7)).trans hz20
  have hz27 := (rz25 _ (Ne.symm ne21)).trans hz16
  have hF := fun w9 e (hb : f w9 = some e) (hn0 : w9 ≠ t) => (rz25 w9 hn0).trans (hF w9 e hb hn0)
  refine lv_aload_n hx hb dX3_init_21 rfl (lv_at hl 0 rfl) ?_
  refine mm_new (C := RX4) (T := TX4) (N := 3) (ci := 5) hx hb hts (fun _ h => List.mem_cons_of_mem _ (List.mem_append_right _ h)) tyX4_ok hown (hts (.classLink RX3 21 RX4) (List.mem_of_getElem? (i := 8) rfl)) (hts (.instantiable RX4 3) (List.mem_of_getElem? (i := 9) rfl)) (hts (.initialized RX4) (List.mem_of_getElem? (i := 10) rfl)) hK hM hA rfl [.int 0, .null, .null] (by decide) (Nat.le_of_ble_eq_true rfl) (Nat.le_of_ble_eq_true rfl) dX3_init_22 (fun qz28 Hp nz29 hM => ?_)
  obtain ⟨gz30, hM, hz31, rz32⟩ := hM.up
  have fo33 : f qz28 = none := fresh_of (fun e hb => hF qz28 e hb (ne_none hz24 nz29).symm) nz29
  have hF := fun w9 e (hb : f w9 = some e) (hn0 : w9 ≠ t) => (rz32 w9 (ne_none (hF w9 e hb hn0) nz29)).trans (hF w9 e hb hn0)
  have ne34 := ne_none hz26 nz29
  have hz35 := (rz32 _ ne34).trans hz26
  have ne36 := ne_none hz27 nz29
  have hz37 := (rz32 _ ne36).trans hz27
  have ne38 := ne_none hz24 nz29
  have hz39 := (rz32 _ ne38).trans hz24
  refine lv_dup hx hb dX3_init_25 rfl ?_
  refine mm_IN (As := []) (rest := [.ref qz28, .ref t]) ⟨hx, hb, hml, hown, hts⟩ (c4_init l G hz31) ⟨va_cnB 0 hts gX3_init_X4_init_n23 rfl rfl rfl (hE.1.1 _ (List.mem_of_getElem? (i := 0) rfl)) (hts (.initialized RX4) (List.mem_of_getElem? (i := 10) rfl)) (by decide +kernel) ⟨Nat.le_of_ble_eq_true rfl, Nat.le_of_ble_eq_true rfl⟩, rfl, (hts (.instanceMethod yX4_init) (List.mem_of_getElem? (i := 13) rfl))⟩ hK hE hA hM rfl hl.1 rfl (Nat.le_of_ble_eq_true rfl) dX3_init_26 ⟨Nat.le_of_ble_eq_true rfl, Nat.le_of_ble_eq_true rfl⟩ (fun v gz40 Hp lcs hp hM => ?_)
  obtain ⟨rfl, qz41, qz42, nz43, nz44, ne45, hz46, hz47, hz48, rz49⟩ := hp
  have fo50 : f qz41 = none := fresh_of (fun e hb => hF qz41 e hb (ne_none hz39 nz43).symm) nz43
  have ne51 := ne_none hz35 nz43
  have ne52 := ne_none hz37 nz43
  have ne53 := ne_none hz39 nz43
  have ne54 := ne_none hz31 nz43
  have fo55 : f qz42 = none := fresh_of (fun e hb => hF qz42 e hb (ne_none hz39 nz44).symm) nz44
  have ne56 := ne_none hz35 nz44
  have ne57 := ne_none hz37 nz44
  have ne58 := ne_none hz39 nz44
  have ne59 := ne_none hz31 nz44
  have hz60 := rz49 _ _ hz35 ne34
  have hz61 := rz49 _ _ hz37 ne36
  have hz62 := rz49 _ _ hz39 ne38
  have hF := fun w9 e (hb : f w9 = some e) (hn0 : w9 ≠ t) => rz49 w9 e (hF w9 e hb hn0) (ne_none hb fo33)
  refine mm_putF (C := RX3) (T := TX3) (N := 4) (k := 3) hx hb hts (fun _ h => List.mem_cons_of_mem _ (List.mem_append_left _ (List.mem_append_right _ h))) tyX3 tyX3_ok nmX3 hown hK hM hz62 rfl (by decide) (hts (.fieldLink RX3 24 "SentenceRules$State" "present" "LSentenceRules$Tokens;") (List.mem_of_getElem? (i := 11) rfl)) rfl rfl hname rfl rfl rfl (Nat.le_of_ble_eq_true rfl) dX3_init_29 (fun Hp lcs hM => ?_)
  obtain ⟨gz63, hM, hz64, rz65⟩ := hM.up
  have hz66 := (rz65 _ (Ne.symm ne7)).trans hz60
  have hz67 := (rz65 _ (Ne.symm ne21)).trans hz61
  have hz68 := (rz65 _ (Ne.symm ne38)).trans hz46
  have hz69 := (rz65 _ (Ne.symm ne53)).trans hz47
  have hz70 := (rz65 _ (Ne.symm ne58)).trans hz48
  have hF := fun w9 e (hb : f w9 = some e) (hn0 : w9 ≠ t) => (rz65 w9 hn0).trans (hF w9 e hb hn0)
  refine lv_aload_n hx hb dX3_init_32 rfl (lv_at hl 0 rfl) ?_
  refine mm_get (C := RX3) (T := TX3) (N := 4) (k := 2) hx hb hts (fun _ h => List.mem_cons_of_mem _ (List.mem_append_left _ (List.mem_append_right _ h))) hown hK hM hz64 rfl (by decide) (hts (.fieldLink RX3 17 "SentenceRules$State" "facts" "[I") (List.mem_of_getElem? (i := 7) rfl)) rfl rfl dX3_init_33 ?_
  refine lv_bipush (v := (nI 6)) hx hb dX3_init_36 (by decide +kernel) ?_
  refine lv_ldc (v := (nI 36524)) hx hb hown (hts (.constant RX3 28 (36524)) (List.mem_of_getElem? (i := 12) rfl)) dX3_init_38 ?_
  refine mn_iast hx hb hK hM hz67 6 (by omega) (by decide) dX3_init_40 (fun Hp lcs hM => ?_)
  obtain ⟨gz71, hM, hz72, rz73⟩ := hM.up
  have hz74 := (rz73 _ ne19).trans hz66
  have hz75 := (rz73 _ (Ne.symm ne36)).trans hz68
  have hz76 := (rz73 _ (Ne.symm ne52)).trans hz69
  have hz77 := (rz73 _ (Ne.symm ne57)).trans hz70
  have hz78 := (rz73 _ ne21).trans hz64
  have hF := fun w9 e (hb : f w9 = some e) (hn0 : w9 ≠ t) => (rz73 w9 (ne_none hb fo18)).trans (hF w9 e hb hn0)
  exact mm_vret hx hb hlocks hr (Nat.le_of_ble_eq_true rfl) (Nat.le_of_ble_eq_true rfl) hM (⟨rfl, qz1, qz13, qz28, qz41, qz42, fo6, fo18, fo33, fo50, fo55, ne19, ne34, ne51, ne56, ne36, ne52, ne57, ne54, ne59, ne45, hz78, hz74, hz72, hz75, hz76, hz77, hF⟩) dX3_init_41

