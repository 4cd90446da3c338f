/-! THE JDK's text builder: words and numbers -/
theorem txt_all : ∀ i, i < 27 → textL.getD i 0 ≤ 8 ∧ ∀ j, j < textL.getD i 0 → fits .byte (.int ((textB.getD i []).getD j 0)) = true := by decide +kernel
theorem txt_fit {i j : Nat} (hi : i < 27) (hj : j < textL.getD i 0) : fits .byte (.int ((textB.getD i []).getD (0 + j) 0)) = true := by rw [Nat.zero_add]; exact (txt_all i hi).2 j hj
def szP (w : Nat) : Nat := if w < 10 then 1 else if w < 100 then 2 else if w < 1000 then 3 else 4
theorem szP_1 (w : Nat) : 1 ≤ szP w ∧ szP w ≤ 4 := by unfold szP; (repeat' split) <;> omega
theorem szP_3 {w : Nat} (h : ¬ w < 100) : 3 ≤ szP w := by unfold szP; (repeat' split) <;> omega
def decL (w : Nat) : List Int32 := if w < 100 then (if w < 10 then [nI (48 + w % 10)] else [nI (48 + w / 10), nI (48 + w % 10)]) else if w / 100 < 10 then [nI (48 + w / 100 % 10), nI (48 + w % 100 / 10), nI (48 + w % 100 % 10)] else [nI (48 + w / 100 / 10), nI (48 + w / 100 % 10), nI (48 + w % 100 / 10), nI (48 + w % 100 % 10)]
theorem decL_len (w : Nat) : (decL w).length = szP w := by
  unfold decL szP
  (repeat' split) <;> first | rfl | (exfalso; omega)
def isDec (x : Int32) (L : List Int32) : Prop := (∃ w : Nat, w ≤ 9999 ∧ x = nI w ∧ L = decL w) ∨ ∃ w : Nat, 1 ≤ w ∧ w ≤ 9999 ∧ x = -(nI w) ∧ L = nI 45 :: decL w
theorem neg_nI {w : Nat} (h : 1 ≤ w) (h2 : w < 2 ^ 31) : -(nI w) < 0 := by
  rw [Int32.lt_iff_toInt_lt, sb_negT h2, Int32.toInt_zero]; omega
set_option maxHeartbeats 4000000 in
set_option maxRecDepth 100000 in
theorem j0_coder (l : Launch) (G : mG) (f : mE) (i : Nat) (hi : i < 27) : mC l G yJ0_coder_7d493 wsJ0_coder_7d493 ({ frames := 0, cells := 0, slots := 0, locals := 0 } : Room) f [.ref (G.2.2 (10 + i))] (fun v f1 => v = some (.int (nI 0)) ∧ f = f1) 0 0 := by
  refine mC.ofF (cc := cJ0_coder_7d493) (maxL := 1) (ret := (some .byte)) (by decide +kernel) rfl (Nat.le_of_ble_eq_true rfl) ?_
  intro pgm env s mt args below meth c A ls hx hb hml hr hlocks hown hname hts hK hE hA hM hl
  have hl : lv_has ls 1 [(0, .ref (G.2.2 (10 + i)))] := hl
  have hF := fun w9 e (hb : f w9 = some e)  => hb
  refine va_gets hx hb hE.2.2.1 hM.2 hown (hts (.fieldLink RJ0 38 "java/lang/String" "COMPACT_STRINGS" "Z") (List.mem_of_getElem? (i := 1) rfl)) (fun _ h => h) dJ0_coder_7d493_0 ?_
  refine lv_if_eq (tgt := 13) hx hb dJ0_coder_7d493_3 (by decide) (fun hq9 => absurd hq9 (by decide)) (fun _ => ?_)
  refine lv_aload_n hx hb dJ0_coder_7d493_6 rfl (lv_at hl 0 rfl) ?_
  refine vk_getf hx hb (hE.2.2.2.2.2.1.1 i hi).2.1 hM.2 hown (hts (.fieldLink RJ0 15 "java/lang/String" "coder" "B") (List.mem_of_getElem? (i := 2) rfl)) (fun _ h => h) dJ0_coder_7d493_7 ?_
  refine lv_goto (tgt := 14) hx hb dJ0_coder_7d493_10 (by decide) ?_
  exact mm_zret hx hb hlocks hr (by first | rfl | exact bI_nar _ | exact nar_c _ (by assumption) | exact nar_x hch) (Nat.le_of_ble_eq_true rfl) (Nat.le_of_ble_eq_true rfl) hM (⟨rfl, rfl⟩) dJ0_coder_7d493_14
set_option maxHeartbeats 4000000 in
set_option maxRecDepth 100000 in
theorem j0_length (l : Launch) (G : mG) (f : mE) (i : Nat) (hi : i < 27) : mC l G yJ0_length_8abf5 wsJ0_length_8abf5 ({ frames := 1, cells := 0, slots := 0, locals := 20 } : Room) f [.ref (G.2.2 (10 + i))] (fun v f1 => v = some (.int (nI (textL.getD i 0))) ∧ f = f1) 0 0 := by
  refine mC.ofF (cc := cJ0_length_8abf5) (maxL := 1) (ret := (some .int)) (by decide +kernel) rfl (Nat.le_of_ble_eq_true rfl) ?_
  intro pgm env s mt args below meth c A ls hx hb hml hr hlocks hown hname hts hK hE hA hM hl
  have hl : lv_has ls 1 [(0, .ref (G.2.2 (10 + i)))] := hl
  have hF := fun w9 e (hb : f w9 = some e)  => hb
  refine lv_aload_n hx hb dJ0_length_8abf5_0 rfl (lv_at hl 0 rfl) ?_
  refine vk_getf hx hb (hE.2.2.2.2.2.1.1 i hi).2.2.1 hM.2 hown (hts (.fieldLink RJ0 9 "java/lang/String" "value" "[B") (List.mem_of_getElem? (i := 1) rfl)) (fun _ h => h) dJ0_length_8abf5_1 ?_
  refine va_tlen hx hb (hE.2.2.2.2.2.1.1 i hi).2.2.2 hM.2 (v := nI (textL.getD i 0)) rfl dJ0_length_8abf5_4 ?_
  refine lv_aload_n hx hb dJ0_length_8abf5_5 rfl (lv_at hl 0 rfl) ?_
  refine mm_V (As := []) (rest := [.int (nI (textL.getD i 0))]) ⟨hx, hb, hml, hown, hts⟩ (j0_coder l G _ i hi) (cwV 0 hts gJ0_length_8abf5_J0_coder_7d493 rfl rfl rfl (by decide +kernel) ⟨Nat.le_of_ble_eq_true rfl, Nat.le_of_ble_eq_true rfl⟩) hK hE hA hM (vk_recv (adK := fun i => G.2.2 (10 + i)) (i := i) hE.2.2.2.2.2.1 hi hM.2) rfl hl.1 rfl (Nat.le_of_ble_eq_true rfl) dJ0_length_8abf5_6 ⟨Nat.le_of_ble_eq_true rfl, Nat.le_of_ble_eq_true rfl⟩ (fun v f1 Hp lcs hp hM => ?_)
  obtain ⟨rfl, hf⟩ := hp; subst hf
  refine lv_ishr hx hb dJ0_length_8abf5_9 ?_
  refine mv_top (y := nI (textL.getD i 0)) (sb_shr0 _) ?_
  exact mm_iret hx hb hlocks hr (Nat.le_of_ble_eq_true rfl) (Nat.le_of_ble_eq_true rfl) hM (⟨rfl, rfl⟩) dJ0_length_8abf5_10
set_option maxHeartbeats 4000000 in
set_option maxRecDepth 100000 in
theorem j0_getBytes (l : Launch) (G : mG) {f : mE} {va cap ct : Nat} {by1 : Nat → Int32} (h_va : f va = some (mB G cap by1)) (i : Nat) (hi : i < 27) (hl8 : textL.getD i 0 ≤ 8) (hq : ct + textL.getD i 0 ≤ cap) (hc2 : cap ≤ 65000) : mC l G yJ0_getBytes_840e7 wsJ0_getBytes_840e7 ({ frames := 1, cells := 0, slots := 0, locals := 26 } : Room) f [.ref (G.2.2 (10 + i)), .ref va, .int (nI ct), .int (nI 0)] (fun v f1 => v = none ∧ f1 va = some (mB G cap (va_cpy (fun j => (textB.getD i []).getD j 0) by1 0 ct (textL.getD i 0))) ∧ ∀ b e, f b = some e → b ≠ va → f1 b = some e) 0 0 := by
  refine mC.ofF (cc := cJ0_getBytes_840e7) (maxL := 4) (ret := none) (by decide +kernel) rfl (Nat.le_of_ble_eq_true rfl) ?_
  intro pgm env s mt args below meth c A ls hx hb hml hr hlocks hown hname hts hK hE hA hM hl
  have hl : lv_has ls 4 [(0, .ref (G.2.2 (10 + i))), (1, .ref va), (2, .int (nI ct)), (3, .int (nI 0))] := hl
  have hF := fun w9 e (hb : f w9 = some e) (_ : w9 ≠ va) => hb
  refine lv_aload_n hx hb dJ0_getBytes_840e7_0 rfl (lv_at hl 0 rfl) ?_
  refine mm_V (As := []) (rest := []) ⟨hx, hb, hml, hown, hts⟩ (j0_coder l G _ i hi) (cwV 0 hts gJ0_getBytes_840e7_J0_coder_7d493 rfl rfl rfl (by decide +kernel) ⟨Nat.le_of_ble_eq_true rfl, Nat.le_of_ble_eq_true rfl⟩) hK hE hA hM (vk_recv (adK := fun i => G.2.2 (10 + i)) (i := i) hE.2.2.2.2.2.1 hi hM.2) rfl hl.1 rfl (Nat.le_of_ble_eq_true rfl) dJ0_getBytes_840e7_1 ⟨Nat.le_of_ble_eq_true rfl, Nat.le_of_ble_eq_true rfl⟩ (fun v f1 Hp lcs hp hM => ?_)
  obtain ⟨rfl, hf⟩ := hp; subst hf
  refine lv_iload_n hx hb dJ0_getBytes_840e7_4 rfl (lv_at hl 3 rfl) ?_
  refine ln_icmp_ne 0 0 (by omega) (by omega) (tgt := 28) hx hb dJ0_getBytes_840e7_5 (by decide) (fun hq9 => absurd hq9 (by decide)) (fun _ => ?_)
  refine lv_aload_n hx hb dJ0_getBytes_840e7_8 rfl (lv_at hl 0 rfl) ?_
  refine vk_getf hx hb (hE.2.2.2.2.2.1.1 i hi).2.2.1 hM.2 hown (hts (.fieldLink RJ0 9 "java/lang/String" "value" "[B") (List.mem_of_getElem? (i := 1) rfl)) (fun _ h => h) dJ0_getBytes_840e7_9 ?_
  refine lv_iconst (v := (nI 0)) hx hb dJ0_getBytes_840e7_12 (by decide +kernel) ?_
  refine lv_aload_n hx hb dJ0_getBytes_840e7_13 rfl (lv_at hl 1 rfl) ?_
  refine lv_iload_n hx hb dJ0_getBytes_840e7_14 rfl (lv_at hl 2 rfl) ?_
  refine lv_iload_n hx hb dJ0_getBytes_840e7_15 rfl (lv_at hl 3 rfl) ?_
  refine lv_ishl hx hb dJ0_getBytes_840e7_16 ?_
  refine mv_top (y := nI ct) (sb_shl0 _) ?_
  refine lv_aload_n hx hb dJ0_getBytes_840e7_17 rfl (lv_at hl 0 rfl) ?_
  refine vk_getf hx hb (hE.2.2.2.2.2.1.1 i hi).2.2.1 hM.2 hown (hts (.fieldLink RJ0 9 "java/lang/String" "value" "[B") (List.mem_of_getElem? (i := 1) rfl)) (fun _ h => h) dJ0_getBytes_840e7_18 ?_
  refine va_tlen hx hb (hE.2.2.2.2.2.1.1 i hi).2.2.2 hM.2 (v := nI (textL.getD i 0)) rfl dJ0_getBytes_840e7_21 ?_
  refine mm_copyT hx hb (by rw [hml]; exact hl.1.symm) hown (hts (.methodLink RJ0 212 arraycopyName) (List.mem_of_getElem? (i := 2) rfl)) (hts (.native arraycopyName) (List.mem_of_getElem? (i := 3) rfl)) (hts (.static arraycopyName) (List.mem_of_getElem? (i := 4) rfl)) (hts (.initialized "java/lang/System") (List.mem_of_getElem? (i := 5) rfl)) hK hM (hE.2.2.2.2.2.1.1 i hi).2.2.2 h_va 0 ct (textL.getD i 0) (fun j hj => txt_fit hi (by omega)) (by omega) (by omega) (by omega) (by omega) (Nat.le_of_ble_eq_true rfl) (Nat.le_of_ble_eq_true rfl) (Nat.le_of_ble_eq_true rfl) dJ0_getBytes_840e7_22 (fun Hp lcs hM => ?_)
  obtain ⟨gz2, hM, hz3, rz4⟩ := hM.up
  have hF := fun w9 e (hb : f w9 = some e) (hn0 : w9 ≠ va) => (rz4 w9 hn0).trans (hF w9 e hb hn0)
  refine lv_goto (tgt := 43) hx hb dJ0_getBytes_840e7_25 (by decide) ?_
  exact mm_vret hx hb hlocks hr (Nat.le_of_ble_eq_true rfl) (Nat.le_of_ble_eq_true rfl) hM (⟨rfl, hz3, hF⟩) dJ0_getBytes_840e7_43
set_option maxHeartbeats 4000000 in
set_option maxRecDepth 100000 in
theorem j5_inflate (l : Launch) (G : mG) {f : mE} {sb va ct cap : Nat} {ml : Int32} {by1 : Nat → Int32} (h_sb : f sb = some (.inr (0, [.ref va, .int (nI 0), .int ml, .int (nI ct)]))) (h_va : f va = some (mB G cap by1)) (i : Nat) (hi : i < 27) : mC l G yJ5_inflateIfNeededFor_a7421 wsJ5_inflateIfNeededFor_a7421 ({ frames := 1, cells := 0, slots := 0, locals := 20 } : Room) f [.ref sb, .ref (G.2.2 (10 + i))] (fun v f1 => v = none ∧ f = f1) 0 0 := by
  refine mC.ofF (cc := cJ5_inflateIfNeededFor_a7421) (maxL := 2) (ret := none) (by decide +kernel) rfl (Nat.le_of_ble_eq_true rfl) ?_
  intro pgm env s mt args below meth c A ls hx hb hml hr hlocks hown hname hts hK hE hA hM hl
  have hl : lv_has ls 2 [(0, .ref sb), (1, .ref (G.2.2 (10 + i)))] := hl
  have hF := fun w9 e (hb : f w9 = some e)  => hb
  refine va_gets hx hb hE.2.2.1 hM.2 hown (hts (.fieldLink RJ5 18 "java/lang/String" "COMPACT_STRINGS" "Z") (List.mem_of_getElem? (i := 1) rfl)) (fun _ h => h) dJ5_inflateIfNeededFor_a7421_0 ?_
  refine lv_if_eq (tgt := 21) hx hb dJ5_inflateIfNeededFor_a7421_3 (by decide) (fun hq9 => absurd hq9 (by decide)) (fun _ => ?_)
  refine lv_aload_n hx hb dJ5_inflateIfNeededFor_a7421_6 rfl (lv_at hl 0 rfl) ?_
  refine mm_get (C := RJ4) (T := TJ4) (N := 4) (k := 1) hx hb hts (fun _ h => List.mem_cons_of_mem _ (List.mem_append_left _ (List.mem_append_right _ h))) hown hK hM h_sb rfl (by decide) (hts (.fieldLink RJ5 22 "java/lang/AbstractStringBuilder" "coder" "B") (List.mem_of_getElem? (i := 2) rfl)) rfl rfl dJ5_inflateIfNeededFor_a7421_7 ?_
  refine lv_aload_n hx hb dJ5_inflateIfNeededFor_a7421_10 rfl (lv_at hl 1 rfl) ?_
  refine mm_V (As := []) (rest := [.int (nI 0)]) ⟨hx, hb, hml, hown, hts⟩ (j0_coder l G _ i hi) (cwV 0 hts gJ5_inflateIfNeededFor_a7421_J0_coder_7d493 rfl rfl rfl (by decide +kernel) ⟨Nat.le_of_ble_eq_true rfl, Nat.le_of_ble_eq_true rfl⟩) hK hE hA hM (vk_recv (adK := fun i => G.2.2 (10 + i)) (i := i) hE.2.2.2.2.2.1 hi hM.2) rfl hl.1 rfl (Nat.le_of_ble_eq_true rfl) dJ5_inflateIfNeededFor_a7421_11 ⟨Nat.le_of_ble_eq_true rfl, Nat.le_of_ble_eq_true rfl⟩ (fun v f1 Hp lcs hp hM => ?_)
  obtain ⟨rfl, hf⟩ := hp; subst hf
  refine ln_icmp_eq 0 0 (by omega) (by omega) (tgt := 21) hx hb dJ5_inflateIfNeededFor_a7421_14 (by decide) (fun _ => ?_) (fun hq9 => absurd hq9 (by decide))
  exact mm_vret hx hb hlocks hr (Nat.le_of_ble_eq_true rfl) (Nat.le_of_ble_eq_true rfl) hM (⟨rfl, rfl⟩) dJ5_inflateIfNeededFor_a7421_21
set_option maxHeartbeats 4000000 in
set_option maxRecDepth 100000 in
theorem j5_putString (l : Launch) (G : mG) {f : mE} {sb va ct cap : Nat} {ml : Int32} {by1 : Nat → Int32} (h_sb : f sb = some (.inr (0, [.ref va, .int (nI 0), .int ml, .int (nI ct)]))) (h_va : f va = some (mB G cap by1)) (i : Nat) (hi : i < 27) (hl8 : textL.getD i 0 ≤ 8) (hq : ct + textL.getD i 0 ≤ cap) (hc2 : cap ≤ 65000) : mC l G yJ5_putStringAt_47b60 wsJ5_putStringAt_47b60 ({ frames := 2, cells := 0, slots := 0, locals := 49 } : Room) f [.ref sb, .int (nI ct), .ref (G.2.2 (10 + i))] (fun v f1 => v = none ∧ f1 va = some (mB G cap (va_cpy (fun j => (textB.getD i []).getD j 0) by1 0 ct (textL.getD i 0))) ∧ ∀ b e, f b = some e → b ≠ va → f1 b = some e) 0 0 := by
  refine mC.ofF (cc := cJ5_putStringAt_47b60) (maxL := 3) (ret := none) (by decide +kernel) rfl (Nat.le_of_ble_eq_true rfl) ?_
  intro pgm env s mt args below meth c A ls hx hb hml hr hlocks hown hname hts hK hE hA hM hl
  have hl : lv_has ls 3 [(0, .ref sb), (1, .int (nI ct)), (2, .ref (G.2.2 (10 + i)))] := hl
  have hF := fun w9 e (hb : f w9 = some e) (_ : w9 ≠ va) => hb
  refine lv_aload_n hx hb dJ5_putStringAt_47b60_0 rfl (lv_at hl 0 rfl) ?_
  refine lv_aload_n hx hb dJ5_putStringAt_47b60_1 rfl (lv_at hl 2 rfl) ?_
  refine mm_U (As := [.ref (G.2.2 (10 + i))]) (rest := []) ⟨hx, hb, hml, hown, hts⟩ (j5_inflate l G h_sb h_va i hi) (va_cwU 1 hts gJ5_putStringAt_47b60_J5_inflateIfNeededFor_a7421_u397J4 rfl rfl rfl rfl (by decide +kernel) ⟨Nat.le_of_ble_eq_true rfl, Nat.le_of_ble_eq_true rfl⟩) hK hE hA hM (mm_recv hK hM h_sb (q := (RJ4, TJ4, 4)) rfl) rfl hl.1 rfl (Nat.le_of_ble_eq_true rfl) dJ5_putStringAt_47b60_2 ⟨Nat.le_of_ble_eq_true rfl, Nat.le_of_ble_eq_true rfl⟩ (fun v f1 Hp lcs hp hM => ?_)
  obtain ⟨rfl, hf⟩ := hp; subst hf
  refine lv_aload_n hx hb dJ5_putStringAt_47b60_5 rfl (lv_at hl 2 rfl) ?_
  refine lv_aload_n hx hb dJ5_putStringAt_47b60_6 rfl (lv_at hl 0 rfl) ?_
  refine mm_get (C := RJ4) (T := TJ4) (N := 4) (k := 0) hx hb hts (fun _ h => List.mem_cons_of_mem _ (List.mem_append_left _ (List.mem_append_right _ h))) hown hK hM h_sb rfl (by decide) (hts (.fieldLink RJ5 15 "java/lang/AbstractStringBuilder" "value" "[B") (List.mem_of_getElem? (i := 1) rfl)) rfl rfl dJ5_putStringAt_47b60_7 ?_
  refine lv_iload_n hx hb dJ5_putStringAt_47b60_10 rfl (lv_at hl 1 rfl) ?_
  refine lv_aload_n hx hb dJ5_putStringAt_47b60_11 rfl (lv_at hl 0 rfl) ?_
  refine mm_get (C := RJ4) (T := TJ4) (N := 4) (k := 1) hx hb hts (fun _ h => List.mem_cons_of_mem _ (List.mem_append_left _ (List.mem_append_right _ h))) hown hK hM h_sb rfl (by decide) (hts (.fieldLink RJ5 22 "java/lang/AbstractStringBuilder" "coder" "B") (List.mem_of_getElem? (i := 2) rfl)) rfl rfl dJ5_putStringAt_47b60_12 ?_
  refine mm_V (As := [.ref va, .int (nI ct), .int (nI 0)]) (rest := []) ⟨hx, hb, hml, hown, hts⟩ (j0_getBytes l G h_va i hi hl8 (by omega) (by omega)) (cwV 3 hts gJ5_putStringAt_47b60_J0_getBytes_840e7 rfl rfl rfl (by decide +kernel) ⟨Nat.le_of_ble_eq_true rfl, Nat.le_of_ble_eq_true rfl⟩) hK hE hA hM (vk_recv (adK := fun i => G.2.2 (10 + i)) (i := i) hE.2.2.2.2.2.1 hi hM.2) rfl hl.1 rfl (Nat.le_of_ble_eq_true rfl) dJ5_putStringAt_47b60_15 ⟨Nat.le_of_ble_eq_true rfl, Nat.le_of_ble_eq_true rfl⟩ (fun v gz1 Hp lcs hp hM => ?_)
  obtain ⟨rfl, hz2, rz3⟩ := hp
  have hz4 := rz3 _ _ h_sb (ne_oi h_sb h_va)
  have hF := fun w9 e (hb : f w9 = some e) (hn0 : w9 ≠ va) => rz3 w9 e (hF w9 e hb hn0) hn0
  exact mm_vret hx hb hlocks hr (Nat.le_of_ble_eq_true rfl) (Nat.le_of_ble_eq_true rfl) hM (⟨rfl, hz2, hF⟩) dJ5_putStringAt_47b60_18
set_option maxHeartbeats 4000000 in
set_option maxRecDepth 100000 in
theorem j5_appS0 (l : Launch) (G : mG) {f : mE} {sb va ct cap : Nat} {ml : Int32} {by1 : Nat → Int32} (h_sb : f sb = some (.inr (0, [.ref va, .int (nI 0), .int ml, .int (nI ct)]))) (h_va : f va = some (mB G cap by1)) (i : Nat) (hi : i < 27) (hl8 : textL.getD i 0 ≤ 8) (hq : ct + textL.getD i 0 ≤ cap) (hc2 : cap ≤ 32000) : mC l G yJ5_append_cf1ce wsJ5_append_cf1ce ({ frames := 4, cells := 0, slots := 0, locals := 91 } : Room) f [.ref sb, .ref (G.2.2 (10 + i))] (fun v f1 => v = some (va_rf (some sb)) ∧ f1 sb = some (.inr (0, [.ref va, .int (nI 0), .int ml, .int (nI (ct + textL.getD i 0))])) ∧ f1 va = some (mB G cap (va_cpy (fun j => (textB.getD i []).getD j 0) by1 0 ct (textL.getD i 0))) ∧ ∀ b e, f b = some e → b ≠ sb → b ≠ va → f1 b = some e) 0 0 := by
  refine mC.ofF (cc := cJ5_append_cf1ce) (maxL := 3) (ret := (some (.object "java/lang/AbstractStringBuilder"))) (by decide +kernel) rfl (Nat.le_of_ble_eq_true rfl) ?_
  intro pgm env s mt args below meth c A ls hx hb hml hr hlocks hown hname hts hK hE hA hM hl
  have hl : lv_has ls 3 [(0, .ref sb), (1, .ref (G.2.2 (10 + i)))] := hl
  have hF := fun w9 e (hb : f w9 = some e) (_ : w9 ≠ sb) (_ : w9 ≠ va) => hb
  refine lv_aload_n hx hb dJ5_append_cf1ce_0 rfl (lv_at hl 1 rfl) ?_
  refine lv_ifnonnull (tgt := 9) hx hb dJ5_append_cf1ce_1 (by decide) ?_
  refine lv_aload_n hx hb dJ5_append_cf1ce_9 rfl (lv_at hl 1 rfl) ?_
  refine mm_V (As := []) (rest := []) ⟨hx, hb, hml, hown, hts⟩ (j0_length l G _ i hi) (cwV 0 hts gJ5_append_cf1ce_J0_length_8abf5 rfl rfl rfl (by decide +kernel) ⟨Nat.le_of_ble_eq_true rfl, Nat.le_of_ble_eq_true rfl⟩) hK hE hA hM (vk_recv (adK := fun i => G.2.2 (10 + i)) (i := i) hE.2.2.2.2.2.1 hi hM.2) rfl hl.1 rfl (Nat.le_of_ble_eq_true rfl) dJ5_append_cf1ce_10 ⟨Nat.le_of_ble_eq_true rfl, Nat.le_of_ble_eq_true rfl⟩ (fun v f1 Hp lcs hp hM => ?_)
  obtain ⟨rfl, hf⟩ := hp; subst hf
  refine lv_istore_n (lv' := [(2, .int (nI (textL.getD i 0))), (0, .ref sb), (1, .ref (G.2.2 (10 + i)))]) hx hb dJ5_append_cf1ce_13 rfl hl (by decide) rfl (fun ls hl => ?_)
  refine lv_aload_n hx hb dJ5_append_cf1ce_14 rfl (lv_at hl 1 rfl) ?_
  refine lv_aload_n hx hb dJ5_append_cf1ce_15 rfl (lv_at hl 1 rfl) ?_
  refine mm_get (C := RJ4) (T := TJ4) (N := 4) (k := 3) hx hb hts (fun _ h => List.mem_cons_of_mem _ (List.mem_append_left _ (List.mem_append_right _ h))) hown hK hM h_sb rfl (by decide) (hts (.fieldLink RJ5 79 "java/lang/AbstractStringBuilder" "count" "I") (List.mem_of_getElem? (i := 1) rfl)) rfl rfl dJ5_append_cf1ce_16 ?_
  refine lv_iload_n hx hb dJ5_append_cf1ce_19 rfl (lv_at hl 0 rfl) ?_
  refine ln_iadd ct (textL.getD i 0) hx hb dJ5_append_cf1ce_20 ?_
  refine mm_U (As := [.int (nI (ct + (textL.getD i 0)))]) (rest := []) ⟨hx, hb, hml, hown, hts⟩ (j5_ensure0 l G h_sb h_va (ct + (textL.getD i 0)) (by omega) (by omega)) (va_cwU 1 hts gJ5_append_cf1ce_J5_ensureCapacityInternal_d00df_u100J4 rfl rfl rfl rfl (by decide +kernel) ⟨Nat.le_of_ble_eq_true rfl, Nat.le_of_ble_eq_true rfl⟩) hK hE hA hM (mm_recv hK hM h_sb (q := (RJ4, TJ4, 4)) rfl) rfl hl.1 rfl (Nat.le_of_ble_eq_true rfl) dJ5_append_cf1ce_21 ⟨Nat.le_of_ble_eq_true rfl, Nat.le_of_ble_eq_true rfl⟩ (fun v f1 Hp lcs hp hM => ?_)
  obtain ⟨rfl, hf⟩ := hp; subst hf
  refine lv_aload_n hx hb dJ5_append_cf1ce_24 rfl (lv_at hl 1 rfl) ?_
  refine lv_aload_n hx hb dJ5_append_cf1ce_25 rfl (lv_at hl 1 rfl) ?_
  refine mm_get (C := RJ4) (T := TJ4) (N := 4) (k := 3) hx hb hts (fun _ h => List.mem_cons_of_mem _ (List.mem_append_left _ (List.mem_append_right _ h))) hown hK hM h_sb rfl (by decide) (hts (.fieldLink RJ5 79 "java/lang/AbstractStringBuilder" "count" "I") (List.mem_of_getElem? (i := 1) rfl)) rfl rfl dJ5_append_cf1ce_26 ?_
  refine lv_aload_n hx hb dJ5_append_cf1ce_29 rfl (lv_at hl 2 rfl) ?_
  refine mm_U (As := [.int (nI ct), .ref (G.2.2 (10 + i))]) (rest := []) ⟨hx, hb, hml, hown, hts⟩ (j5_putString l G h_sb h_va i hi hl8 (by omega) (by omega)) (va_cwU 2 hts gJ5_append_cf1ce_J5_putStringAt_47b60_u208J4 rfl rfl rfl rfl (by decide +kernel) ⟨Nat.le_of_ble_eq_true rfl, Nat.le_of_ble_eq_true rfl⟩) hK hE hA hM (mm_recv hK hM h_sb (q := (RJ4, TJ4, 4)) rfl) rfl hl.1 rfl (Nat.le_of_ble_eq_true rfl) dJ5_append_cf1ce_30 ⟨Nat.le_of_ble_eq_true rfl, Nat.le_of_ble_eq_true rfl⟩ (fun v gz1 Hp lcs hp hM => ?_)
  obtain ⟨rfl, hz2, rz3⟩ := hp
  have hz4 := rz3 _ _ h_sb (ne_oi h_sb h_va)
  have hF := fun w9 e (hb : f w9 = some e) (hn0 : w9 ≠ sb) (hn1 : w9 ≠ va) => rz3 w9 e (hF w9 e hb hn0 hn1) hn1
  refine lv_aload_n hx hb dJ5_append_cf1ce_33 rfl (lv_at hl 1 rfl) ?_
  refine lv_dup hx hb dJ5_append_cf1ce_34 rfl ?_
  refine mm_get (C := RJ4) (T := TJ4) (N := 4) (k := 3) hx hb hts (fun _ h => List.mem_cons_of_mem _ (List.mem_append_left _ (List.mem_append_right _ h))) hown hK hM hz4 rfl (by decide) (hts (.fieldLink RJ5 79 "java/lang/AbstractStringBuilder" "count" "I") (List.mem_of_getElem? (i := 1) rfl)) rfl rfl dJ5_append_cf1ce_35 ?_
  refine lv_iload_n hx hb dJ5_append_cf1ce_38 rfl (lv_at hl 0 rfl) ?_
  refine ln_iadd ct (textL.getD i 0) hx hb dJ5_append_cf1ce_39 ?_
  refine mm_put (C := RJ4) (T := TJ4) (N := 4) (k := 3) hx hb hts (fun _ h => List.mem_cons_of_mem _ (List.mem_append_left _ (List.mem_append_right _ h))) tyJ4 tyJ4_ok nmJ4 hown hK hM hz4 rfl (by decide) (hts (.fieldLink RJ5 79 "java/lang/AbstractStringBuilder" "count" "I") (List.mem_of_getElem? (i := 1) rfl)) rfl rfl rfl rfl (Nat.le_of_ble_eq_true rfl) dJ5_append_cf1ce_40 (fun Hp lcs hM => ?_)
  obtain ⟨gz5, hM, hz6, rz7⟩ := hM.up
  have hz8 := (rz7 _ (ne_oi hz4 hz2).symm).trans hz2
  have hF := fun w9 e (hb : f w9 = some e) (hn0 : w9 ≠ sb) (hn1 : w9 ≠ va) => (rz7 w9 hn0).trans (hF w9 e hb hn0 hn1)
  refine lv_aload_n hx hb dJ5_append_cf1ce_43 rfl (lv_at hl 1 rfl) ?_
  exact mm_aret (r := (some sb)) hx hb hlocks hr (by first | exact Or.inl ⟨_, rfl⟩ | exact Or.inr ⟨_, rfl⟩) (Nat.le_of_ble_eq_true rfl) (Nat.le_of_ble_eq_true rfl) hM (⟨rfl, hz6, hz8, hF⟩) dJ5_append_cf1ce_44
set_option maxHeartbeats 4000000 in
set_option maxRecDepth 100000 in
theorem j5_appS1 (l : Launch) (G : mG) {f : mE} {sb va ct cap : Nat} {ml : Int32} {by1 : Nat → Int32} (h_sb : f sb = some (.inr (0, [.ref va, .int (nI 0), .int ml, .int (nI ct)]))) (h_va : f va = some (mB G cap by1)) (i : Nat) (hi : i < 27) (hl8 : textL.getD i 0 ≤ 8) (hfit : sb_Fit by1) (hq : cap < ct + textL.getD i 0) (hct : ct ≤ cap) (hc : 16 ≤ cap) (hc2 : cap ≤ 15000) : mC l G yJ5_append_cf1ce wsJ5_append_cf1ce ({ frames := 4, cells := (cap + 2), slots := (2 * (cap + 2)), locals := 91 } : Room) f [.ref sb, .ref (G.2.2 (10 + i))] (fun v f1 => v = some (va_rf (some sb)) ∧ ∃ z : Nat, f z = none ∧ f1 sb = some (.inr (0, [.ref z, .int (nI 0), .int ml, .int (nI (ct + textL.getD i 0))])) ∧ f1 z = some (mB G (2 * cap + 2) (va_cpy (fun j => (textB.getD i []).getD j 0) (va_cpy by1 (fun _ => 0) 0 0 cap) 0 ct (textL.getD i 0))) ∧ ∀ b e, f b = some e → b ≠ sb → b ≠ va → f1 b = some e) (cap + 2) (2 * (cap + 2)) := by
  refine mC.ofF (cc := cJ5_append_cf1ce) (maxL := 3) (ret := (some (.object "java/lang/AbstractStringBuilder"))) (by decide +kernel) rfl (Nat.le_of_ble_eq_true rfl) ?_
  intro pgm env s mt args below meth c A ls hx hb hml hr hlocks hown hname hts hK hE hA hM hl
  have hl : lv_has ls 3 [(0, .ref sb), (1, .ref (G.2.2 (10 + i)))] := hl
  have hF := fun w9 e (hb : f w9 = some e) (_ : w9 ≠ sb) (_ : w9 ≠ va) => hb
  refine lv_aload_n hx hb dJ5_append_cf1ce_0 rfl (lv_at hl 1 rfl) ?_
  refine lv_ifnonnull (tgt := 9) hx hb dJ5_append_cf1ce_1 (by decide) ?_
  refine lv_aload_n hx hb dJ5_append_cf1ce_9 rfl (lv_at hl 1 rfl) ?_
  refine mm_V (As := []) (rest := []) ⟨hx, hb, hml, hown, hts⟩ (j0_length l G _ i hi) (cwV 0 hts gJ5_append_cf1ce_J0_length_8abf5 rfl rfl rfl (by decide +kernel) ⟨(by first | exact Nat.le_of_ble_eq_true rfl | omega | (dsimp only; omega)), (by first | exact Nat.le_of_ble_eq_true rfl | omega | (dsimp only; omega))⟩) hK hE hA hM (vk_recv (adK := fun i => G.2.2 (10 + i)) (i := i) hE.2.2.2.2.2.1 hi hM.2) rfl hl.1 rfl (by first | exact Nat.le_of_ble_eq_true rfl | omega | (dsimp only; omega)) dJ5_append_cf1ce_10 ⟨(by first | exact Nat.le_of_ble_eq_true rfl | omega | (dsimp only; omega)), (by first | exact Nat.le_of_ble_eq_true rfl | omega | (dsimp only; omega))⟩ (fun v f1 Hp lcs hp hM => ?_)
  obtain ⟨rfl, hf⟩ := hp; subst hf
  refine lv_istore_n (lv' := [(2, .int (nI (textL.getD i 0))), (0, .ref sb), (1, .ref (G.2.2 (10 + i)))]) hx hb dJ5_append_cf1ce_13 rfl hl (by decide) rfl (fun ls hl => ?_)
  refine lv_aload_n hx hb dJ5_append_cf1ce_14 rfl (lv_at hl 1 rfl) ?_
  refine lv_aload_n hx hb dJ5_append_cf1ce_15 rfl (lv_at hl 1 rfl) ?_
  refine mm_get (C := RJ4) (T := TJ4) (N := 4) (k := 3) hx hb hts (fun _ h => List.mem_cons_of_mem _ (List.mem_append_left _ (List.mem_append_right _ h))) hown hK hM h_sb rfl (by decide) (hts (.fieldLink RJ5 79 "java/lang/AbstractStringBuilder" "count" "I") (List.mem_of_getElem? (i := 1) rfl)) rfl rfl dJ5_append_cf1ce_16 ?_
  refine lv_iload_n hx hb dJ5_append_cf1ce_19 rfl (lv_at hl 0 rfl) ?_
  refine ln_iadd ct (textL.getD i 0) hx hb dJ5_append_cf1ce_20 ?_
  refine mm_U (As := [.int (nI (ct + (textL.getD i 0)))]) (rest := []) ⟨hx, hb, hml, hown, hts⟩ (j5_ensure1 l G h_sb h_va hfit (ct + (textL.getD i 0)) (by omega) (by omega) (by omega) (by omega)) (va_cwU 1 hts gJ5_append_cf1ce_J5_ensureCapacityInternal_d00df_u100J4 rfl rfl rfl rfl (by decide +kernel) ⟨(by first | exact Nat.le_of_ble_eq_true rfl | omega | (dsimp only; omega)), (by first | exact Nat.le_of_ble_eq_true rfl | omega | (dsimp only; omega))⟩) hK hE hA hM (mm_recv hK hM h_sb (q := (RJ4, TJ4, 4)) rfl) rfl hl.1 rfl (by first | exact Nat.le_of_ble_eq_true rfl | omega | (dsimp only; omega)) dJ5_append_cf1ce_21 ⟨(by first | exact Nat.le_of_ble_eq_true rfl | omega | (dsimp only; omega)), (by first | exact Nat.le_of_ble_eq_true rfl | omega | (dsimp only; omega))⟩ (fun v gz1 Hp lcs hp hM => ?_)
  obtain ⟨rfl, qz2, nz3, hz4, hz5, rz6⟩ := hp
  have fo7 : f qz2 = none := fresh_of (fun e hb => hF qz2 e hb (ne_none h_sb nz3).symm (ne_none h_va nz3).symm) nz3
  have ne8 := ne_none h_sb nz3
  have ne9 := ne_none h_va nz3
  have hz10 := rz6 _ _ h_va (ne_oi h_sb h_va).symm
  have hF := fun w9 e (hb : f w9 = some e) (hn0 : w9 ≠ sb) (hn1 : w9 ≠ va) => rz6 w9 e (hF w9 e hb hn0 hn1) hn0
  refine lv_aload_n hx hb dJ5_append_cf1ce_24 rfl (lv_at hl 1 rfl) ?_
  refine lv_aload_n hx hb dJ5_append_cf1ce_25 rfl (lv_at hl 1 rfl) ?_
  refine mm_get (C := RJ4) (T := TJ4) (N := 4) (k := 3) hx hb hts (fun _ h => List.mem_cons_of_mem _ (List.mem_append_left _ (List.mem_append_right _ h))) hown hK hM hz4 rfl (by decide) (hts (.fieldLink RJ5 79 "java/lang/AbstractStringBuilder" "count" "I") (List.mem_of_getElem? (i := 1) rfl)) rfl rfl dJ5_append_cf1ce_26 ?_
  refine lv_aload_n hx hb dJ5_append_cf1ce_29 rfl (lv_at hl 2 rfl) ?_
  refine mm_U (As := [.int (nI ct), .ref (G.2.2 (10 + i))]) (rest := []) ⟨hx, hb, hml, hown, hts⟩ (j5_putString l G hz4 hz5 i hi hl8 (by omega) (by omega)) (va_cwU 2 hts gJ5_append_cf1ce_J5_putStringAt_47b60_u208J4 rfl rfl rfl rfl (by decide +kernel) ⟨(by first | exact Nat.le_of_ble_eq_true rfl | omega | (dsimp only; omega)), (by first | exact Nat.le_of_ble_eq_true rfl | omega | (dsimp only; omega))⟩) hK hE hA hM (mm_recv hK hM hz4 (q := (RJ4, TJ4, 4)) rfl) rfl hl.1 rfl (by first | exact Nat.le_of_ble_eq_true rfl | omega | (dsimp only; omega)) dJ5_append_cf1ce_30 ⟨(by first | exact Nat.le_of_ble_eq_true rfl | omega | (dsimp only; omega)), (by first | exact Nat.le_of_ble_eq_true rfl | omega | (dsimp only; omega))⟩ (fun v gz11 Hp lcs hp hM => ?_)
  obtain ⟨rfl, hz12, rz13⟩ := hp
  have hz14 := rz13 _ _ hz10 ne9
  have hz15 := rz13 _ _ hz4 ne8
  have hF := fun w9 e (hb : f w9 = some e) (hn0 : w9 ≠ sb) (hn1 : w9 ≠ va) => rz13 w9 e (hF w9 e hb hn0 hn1) (ne_none hb fo7)
  refine lv_aload_n hx hb dJ5_append_cf1ce_33 rfl (lv_at hl 1 rfl) ?_
  refine lv_dup hx hb dJ5_append_cf1ce_34 rfl ?_
  refine mm_get (C := RJ4) (T := TJ4) (N := 4) (k := 3) hx hb hts (fun _ h => List.mem_cons_of_mem _ (List.mem_append_left _ (List.mem_append_right _ h))) hown hK hM hz15 rfl (by decide) (hts (.fieldLink RJ5 79 "java/lang/AbstractStringBuilder" "count" "I") (List.mem_of_getElem? (i := 1) rfl)) rfl rfl dJ5_append_cf1ce_35 ?_
  refine lv_iload_n hx hb dJ5_append_cf1ce_38 rfl (lv_at hl 0 rfl) ?_
  refine ln_iadd ct (textL.getD i 0) hx hb dJ5_append_cf1ce_39 ?_
  refine mm_put (C := RJ4) (T := TJ4) (N := 4) (k := 3) hx hb hts (fun _ h => List.mem_cons_of_mem _ (List.mem_append_left _ (List.mem_append_right _ h))) tyJ4 tyJ4_ok nmJ4 hown hK hM hz15 rfl (by decide) (hts (.fieldLink RJ5 79 "java/lang/AbstractStringBuilder" "count" "I") (List.mem_of_getElem? (i := 1) rfl)) rfl rfl rfl rfl (by first | exact Nat.le_of_ble_eq_true rfl | omega | (dsimp only; omega)) dJ5_append_cf1ce_40 (fun Hp lcs hM => ?_)
  obtain ⟨gz16, hM, hz17, rz18⟩ := hM.up
  have hz19 := (rz18 _ (ne_oi hz15 hz14).symm).trans hz14
  have hz20 := (rz18 _ (Ne.symm ne8)).trans hz12
  have hF := fun w9 e (hb : f w9 = some e) (hn0 : w9 ≠ sb) (hn1 : w9 ≠ va) => (rz18 w9 hn0).trans (hF w9 e hb hn0 hn1)
  refine lv_aload_n hx hb dJ5_append_cf1ce_43 rfl (lv_at hl 1 rfl) ?_
  exact mm_aret (r := (some sb)) hx hb hlocks hr (by first | exact Or.inl ⟨_, rfl⟩ | exact Or.inr ⟨_, rfl⟩) (by first | exact Nat.le_of_ble_eq_true rfl | omega | (dsimp only; omega)) (by first | exact Nat.le_of_ble_eq_true rfl | omega | (dsimp only; omega)) hM (⟨rfl, qz2, fo7, hz17, hz20, hF⟩) dJ5_append_cf1ce_44
set_option maxHeartbeats 4000000 in
set_option maxRecDepth 100000 in
theorem j4_appS0 (l : Launch) (G : mG) {f : mE} {sb va ct cap : Nat} {ml : Int32} {by1 : Nat → Int32} (h_sb : f sb = some (.inr (0, [.ref va, .int (nI 0), .int ml, .int (nI ct)]))) (h_va : f va = some (mB G cap by1)) (i : Nat) (hi : i < 27) (hl8 : textL.getD i 0 ≤ 8) (hq : ct + textL.getD i 0 ≤ cap) (hc2 : cap ≤ 32000) : mC l G yJ4_append_15ec4 wsJ4_append_15ec4 ({ frames := 5, cells := 0, slots := 0, locals := 113 } : Room) f [.ref sb, .ref (G.2.2 (10 + i))] (fun v f1 => v = some (va_rf (some sb)) ∧ f1 sb = some (.inr (0, [.ref va, .int (nI 0), .int ml, .int (nI (ct + textL.getD i 0))])) ∧ f1 va = some (mB G cap (va_cpy (fun j => (textB.getD i []).getD j 0) by1 0 ct (textL.getD i 0))) ∧ ∀ b e, f b = some e → b ≠ sb → b ≠ va → f1 b = some e) 0 0 := by
  refine mC.ofF (cc := cJ4_append_15ec4) (maxL := 2) (ret := (some (.object "java/lang/StringBuilder"))) (by decide +kernel) rfl (Nat.le_of_ble_eq_true rfl) ?_
  intro pgm env s mt args below meth c A ls hx hb hml hr hlocks hown hname hts hK hE hA hM hl
  have hl : lv_has ls 2 [(0, .ref sb), (1, .ref (G.2.2 (10 + i)))] := hl
  have hF := fun w9 e (hb : f w9 = some e) (_ : w9 ≠ sb) (_ : w9 ≠ va) => hb
  refine lv_aload_n hx hb dJ4_append_15ec4_0 rfl (lv_at hl 0 rfl) ?_
  refine lv_aload_n hx hb dJ4_append_15ec4_1 rfl (lv_at hl 1 rfl) ?_
  refine mm_SU (As := [.ref (G.2.2 (10 + i))]) (rest := []) (hK.1 0 _ rfl).2 ⟨hx, hb, hml, hown, hts⟩ (j5_appS0 l G h_sb h_va i hi hl8 (by omega) (by omega)) (va_cwSU 1 hts gJ4_append_15ec4_J5_append_cf1ce_s29 rfl rfl rfl (by decide +kernel) ⟨Nat.le_of_ble_eq_true rfl, Nat.le_of_ble_eq_true rfl⟩) hK hE hA hM (mm_recv hK hM h_sb (q := (RJ4, TJ4, 4)) rfl) rfl hl.1 rfl (Nat.le_of_ble_eq_true rfl) dJ4_append_15ec4_2 ⟨Nat.le_of_ble_eq_true rfl, Nat.le_of_ble_eq_true rfl⟩ (fun v gz1 Hp lcs hp hM => ?_)
  obtain ⟨rfl, hz2, hz3, rz4⟩ := hp
  have hF := fun w9 e (hb : f w9 = some e) (hn0 : w9 ≠ sb) (hn1 : w9 ≠ va) => rz4 w9 e (hF w9 e hb hn0 hn1) hn0 hn1
  refine mv_val (y := .ref sb) rfl ?_
  refine lv_pop hx hb dJ4_append_15ec4_5 rfl ?_
  refine lv_aload_n hx hb dJ4_append_15ec4_6 rfl (lv_at hl 0 rfl) ?_
  exact mm_aret (r := (some sb)) hx hb hlocks hr (by first | exact Or.inl ⟨_, rfl⟩ | exact Or.inr ⟨_, rfl⟩) (Nat.le_of_ble_eq_true rfl) (Nat.le_of_ble_eq_true rfl) hM (⟨rfl, hz2, hz3, hF⟩) dJ4_append_15ec4_7
set_option maxHeartbeats 4000000 in
set_option maxRecDepth 100000 in
theorem j4_appS1 (l : Launch) (G : mG) {f : mE} {sb va ct cap : Nat} {ml : Int32} {by1 : Nat → Int32} (h_sb : f sb = some (.inr (0, [.ref va, .int (nI 0), .int ml, .int (nI ct)]))) (h_va : f va = some (mB G cap by1)) (i : Nat) (hi : i < 27) (hl8 : textL.getD i 0 ≤ 8) (hfit : sb_Fit by1) (hq : cap < ct + textL.getD i 0) (hct : ct ≤ cap) (hc : 16 ≤ cap) (hc2 : cap ≤ 15000) : mC l G yJ4_append_15ec4 wsJ4_append_15ec4 ({ frames := 5, cells := (cap + 2), slots := (2 * (cap + 2)), locals := 113 } : Room) f [.ref sb, .ref (G.2.2 (10 + i))] (fun v f1 => v = some (va_rf (some sb)) ∧ ∃ z : Nat, f z = none ∧ f1 sb = some (.inr (0, [.ref z, .int (nI 0), .int ml, .int (nI (ct + textL.getD i 0))])) ∧ f1 z = some (mB G (2 * cap + 2) (va_cpy (fun j => (textB.getD i []).getD j 0) (va_cpy by1 (fun _ => 0) 0 0 cap) 0 ct (textL.getD i 0))) ∧ ∀ b e, f b = some e → b ≠ sb → b ≠ va → f1 b = some e) (cap + 2) (2 * (cap + 2)) := by
  refine mC.ofF (cc := cJ4_append_15ec4) (maxL := 2) (ret := (some (.object "java/lang/StringBuilder"))) (by decide +kernel) rfl (Nat.le_of_ble_eq_true rfl) ?_
  intro pgm env s mt args below meth c A ls hx hb hml hr hlocks hown hname hts hK hE hA hM hl
  have hl : lv_has ls 2 [(0, .ref sb), (1, .ref (G.2.2 (10 + i)))] := hl
  have hF := fun w9 e (hb : f w9 = some e) (_ : w9 ≠ sb) (_ : w9 ≠ va) => hb
  refine lv_aload_n hx hb dJ4_append_15ec4_0 rfl (lv_at hl 0 rfl) ?_
  refine lv_aload_n hx hb dJ4_append_15ec4_1 rfl (lv_at hl 1 rfl) ?_
  refine mm_SU (As := [.ref (G.2.2 (10 + i))]) (rest := []) (hK.1 0 _ rfl).2 ⟨hx, hb, hml, hown, hts⟩ (j5_appS1 l G h_sb h_va i hi hl8 hfit (by omega) (by omega) (by omega) (by omega)) (va_cwSU 1 hts gJ4_append_15ec4_J5_append_cf1ce_s29 rfl rfl rfl (by decide +kernel) ⟨(by first | exact Nat.le_of_ble_eq_true rfl | omega | (dsimp only; omega)), (by first | exact Nat.le_of_ble_eq_true rfl | omega | (dsimp only; omega))⟩) hK hE hA hM (mm_recv hK hM h_sb (q := (RJ4, TJ4, 4)) rfl) rfl hl.1 rfl (by first | exact Nat.le_of_ble_eq_true rfl | omega | (dsimp only; omega)) dJ4_append_15ec4_2 ⟨(by first | exact Nat.le_of_ble_eq_true rfl | omega | (dsimp only; omega)), (by first | exact Nat.le_of_ble_eq_true rfl | omega | (dsimp only; omega))⟩ (fun v gz1 Hp lcs hp hM => ?_)
  obtain ⟨rfl, qz5, nz6, hz2, hz3, rz4⟩ := hp
  have hF := fun w9 e (hb : f w9 = some e) (hn0 : w9 ≠ sb) (hn1 : w9 ≠ va) => rz4 w9 e (hF w9 e hb hn0 hn1) hn0 hn1
  refine mv_val (y := .ref sb) rfl ?_
  refine lv_pop hx hb dJ4_append_15ec4_5 rfl ?_
  refine lv_aload_n hx hb dJ4_append_15ec4_6 rfl (lv_at hl 0 rfl) ?_
  exact mm_aret (r := (some sb)) hx hb hlocks hr (by first | exact Or.inl ⟨_, rfl⟩ | exact Or.inr ⟨_, rfl⟩) (by first | exact Nat.le_of_ble_eq_true rfl | omega | (dsimp only; omega)) (by first | exact Nat.le_of_ble_eq_true rfl | omega | (dsimp only; omega)) hM (⟨rfl, qz5, nz6, hz2, hz3, hF⟩) dJ4_append_15ec4_7
set_option maxHeartbeats 4000000 in
set_option maxRecDepth 100000 in
theorem j6_sizeP (l : Launch) (G : mG) (f : mE) (w : Nat) (hw9 : w ≤ 9999) : mC l G yJ6_stringSize_0f7a4 wsJ6_stringSize_0f7a4 ({ frames := 0, cells := 0, slots := 0, locals := 0 } : Room) f [.int (nI w)] (fun v f1 => v = some (.int (nI (szP w))) ∧ f = f1) 0 0 := by
  refine mC.ofF (cc := cJ6_stringSize_0f7a4) (maxL := 4) (ret := (some .int)) (by decide +kernel) rfl (Nat.le_of_ble_eq_true rfl) ?_
  intro pgm env s mt args below meth c A ls hx hb hml hr hlocks hown hname hts hK hE hA hM hl
  have hl : lv_has ls 4 [(0, .int (nI w))] := hl
  have hF := fun w9 e (hb : f w9 = some e)  => hb
  refine lv_iconst (v := (nI 1)) hx hb dJ6_stringSize_0f7a4_0 (by decide +kernel) ?_
  refine lv_istore_n (lv' := [(1, .int (nI 1)), (0, .int (nI w))]) hx hb dJ6_stringSize_0f7a4_1 rfl hl (by decide) rfl (fun ls hl => ?_)
  refine lv_iload_n hx hb dJ6_stringSize_0f7a4_2 rfl (lv_at hl 1 rfl) ?_
  refine lv_if_lt (tgt := 11) hx hb dJ6_stringSize_0f7a4_3 (by decide) (fun hq9 => absurd hq9 (nI_pos (by omega))) (fun _ => ?_)
  refine lv_iconst (v := (nI 0)) hx hb dJ6_stringSize_0f7a4_6 (by decide +kernel) ?_
  refine lv_istore_n (lv' := [(1, .int (nI 0)), (0, .int (nI w))]) hx hb dJ6_stringSize_0f7a4_7 rfl hl (by decide) rfl (fun ls hl => ?_)
  refine lv_iload_n hx hb dJ6_stringSize_0f7a4_8 rfl (lv_at hl 1 rfl) ?_
  refine lv_ineg hx hb dJ6_stringSize_0f7a4_9 ?_
  refine lv_istore_n (lv' := [(0, .int (-(nI w))), (1, .int (nI 0))]) hx hb dJ6_stringSize_0f7a4_10 rfl hl (by decide) rfl (fun ls hl => ?_)
  refine lv_bipush (v := (-10)) hx hb dJ6_stringSize_0f7a4_11 (by decide +kernel) ?_
  refine lv_istore_n (lv' := [(2, .int (-10)), (0, .int (-(nI w))), (1, .int (nI 0))]) hx hb dJ6_stringSize_0f7a4_13 rfl hl (by decide) rfl (fun ls hl => ?_)
  refine lv_iconst (v := (nI 1)) hx hb dJ6_stringSize_0f7a4_14 (by decide +kernel) ?_
  refine lv_istore_n (lv' := [(3, .int (nI 1)), (2, .int (-10)), (0, .int (-(nI w))), (1, .int (nI 0))]) hx hb dJ6_stringSize_0f7a4_15 rfl hl (by decide) rfl (fun ls hl => ?_)
  refine lv_iload_n hx hb dJ6_stringSize_0f7a4_16 rfl (lv_at hl 0 rfl) ?_
  refine lv_bipush (v := (nI 10)) hx hb dJ6_stringSize_0f7a4_17 (by decide +kernel) ?_
  refine ln_icmp_ge 1 10 (by omega) (by omega) (tgt := 42) hx hb dJ6_stringSize_0f7a4_19 (by decide) (fun hq9 => absurd hq9 (by decide)) (fun _ => ?_)
  refine lv_iload_n hx hb dJ6_stringSize_0f7a4_22 rfl (lv_at hl 2 rfl) ?_
  refine lv_iload_n hx hb dJ6_stringSize_0f7a4_23 rfl (lv_at hl 1 rfl) ?_
  by_cases hw0 : 10 ≤ w
  · refine lv_icmp_le (tgt := 31) hx hb dJ6_stringSize_0f7a4_24 (by decide) (fun _ => ?_) (fun hq9 => absurd ((sb_nle (a := w) (b := 10) (by omega) (by omega)).mpr hw0) hq9)
    refine lv_bipush (v := (nI 10)) hx hb dJ6_stringSize_0f7a4_31 (by decide +kernel) ?_
    refine lv_iload_n hx hb dJ6_stringSize_0f7a4_33 rfl (lv_at hl 1 rfl) ?_
    refine lv_imul hx hb dJ6_stringSize_0f7a4_34 ?_
    refine mv_top (y := (-100)) (by decide) ?_
    refine lv_istore_n (lv' := [(2, .int (-100)), (3, .int (nI 1)), (0, .int (-(nI w))), (1, .int (nI 0))]) hx hb dJ6_stringSize_0f7a4_35 rfl hl (by decide) rfl (fun ls hl => ?_)
    refine lv_iinc (v := (nI (1 + 1))) (lv' := [(3, .int (nI (1 + 1))), (2, .int (-100)), (0, .int (-(nI w))), (1, .int (nI 0))]) hx hb dJ6_stringSize_0f7a4_36 hl (k := 1) rfl (nI_add _ _) (by decide) rfl (fun ls hl => ?_)
    refine lv_goto (tgt := 16) hx hb dJ6_stringSize_0f7a4_39 (by decide) ?_
    refine lv_iload_n hx hb dJ6_stringSize_0f7a4_16 rfl (lv_at hl 0 rfl) ?_
    refine lv_bipush (v := (nI 10)) hx hb dJ6_stringSize_0f7a4_17 (by decide +kernel) ?_
    refine ln_icmp_ge (1 + 1) 10 (by omega) (by omega) (tgt := 42) hx hb dJ6_stringSize_0f7a4_19 (by decide) (fun cz2 => ?_) (fun cz2 => ?_)
    · exact absurd cz2 (by omega)
    refine lv_iload_n hx hb dJ6_stringSize_0f7a4_22 rfl (lv_at hl 2 rfl) ?_
    refine lv_iload_n hx hb dJ6_stringSize_0f7a4_23 rfl (lv_at hl 1 rfl) ?_
    by_cases hw1 : 100 ≤ w
    · refine lv_icmp_le (tgt := 31) hx hb dJ6_stringSize_0f7a4_24 (by decide) (fun _ => ?_) (fun hq9 => absurd ((sb_nle (a := w) (b := 100) (by omega) (by omega)).mpr hw1) hq9)
      refine lv_bipush (v := (nI 10)) hx hb dJ6_stringSize_0f7a4_31 (by decide +kernel) ?_
      refine lv_iload_n hx hb dJ6_stringSize_0f7a4_33 rfl (lv_at hl 1 rfl) ?_
      refine lv_imul hx hb dJ6_stringSize_0f7a4_34 ?_
      refine mv_top (y := (-1000)) (by decide) ?_
      refine lv_istore_n (lv' := [(2, .int (-1000)), (3, .int (nI (1 + 1))), (0, .int (-(nI w))), (1, .int (nI 0))]) hx hb dJ6_stringSize_0f7a4_35 rfl hl (by decide) rfl (fun ls hl => ?_)
      refine lv_iinc (v := (nI (1 + 1 + 1))) (lv' := [(3, .int (nI (1 + 1 + 1))), (2, .int (-1000)), (0, .int (-(nI w))), (1, .int (nI 0))]) hx hb dJ6_stringSize_0f7a4_36 hl (k := 1) rfl (nI_add _ _) (by decide) rfl (fun ls hl => ?_)
      refine lv_goto (tgt := 16) hx hb dJ6_stringSize_0f7a4_39 (by decide) ?_
      refine lv_iload_n hx hb dJ6_stringSize_0f7a4_16 rfl (lv_at hl 0 rfl) ?_
      refine lv_bipush (v := (nI 10)) hx hb dJ6_stringSize_0f7a4_17 (by decide +kernel) ?_
      refine ln_icmp_ge (1 + 1 + 1) 10 (by omega) (by omega) (tgt := 42) hx hb dJ6_stringSize_0f7a4_19 (by decide) (fun cz3 => ?_) (fun cz3 => ?_)
      · exact absurd cz3 (by omega)
      refine lv_iload_n hx hb dJ6_stringSize_0f7a4_22 rfl (lv_at hl 2 rfl) ?_
      refine lv_iload_n hx hb dJ6_stringSize_0f7a4_23 rfl (lv_at hl 1 rfl) ?_
      by_cases hw2 : 1000 ≤ w
      · refine lv_icmp_le (tgt := 31) hx hb dJ6_stringSize_0f7a4_24 (by decide) (fun _ => ?_) (fun hq9 => absurd ((sb_nle (a := w) (b := 1000) (by omega) (by omega)).mpr hw2) hq9)
        refine lv_bipush (v := (nI 10)) hx hb dJ6_stringSize_0f7a4_31 (by decide +kernel) ?_
        refine lv_iload_n hx hb dJ6_stringSize_0f7a4_33 rfl (lv_at hl 1 rfl) ?_
        refine lv_imul hx hb dJ6_stringSize_0f7a4_34 ?_
        refine mv_top (y := (-10000)) (by decide) ?_
        refine lv_istore_n (lv' := [(2, .int (-10000)), (3, .int (nI (1 + 1 + 1))), (0, .int (-(nI w))), (1, .int (nI 0))]) hx hb dJ6_stringSize_0f7a4_35 rfl hl (by decide) rfl (fun ls hl => ?_)
        refine lv_iinc (v := (nI (1 + 1 + 1 + 1))) (lv' := [(3, .int (nI (1 + 1 + 1 + 1))), (2, .int (-10000)), (0, .int (-(nI w))), (1, .int (nI 0))]) hx hb dJ6_stringSize_0f7a4_36 hl (k := 1) rfl (nI_add _ _) (by decide) rfl (fun ls hl => ?_)
        refine lv_goto (tgt := 16) hx hb dJ6_stringSize_0f7a4_39 (by decide) ?_
        refine lv_iload_n hx hb dJ6_stringSize_0f7a4_16 rfl (lv_at hl 0 rfl) ?_
        refine lv_bipush (v := (nI 10)) hx hb dJ6_stringSize_0f7a4_17 (by decide +kernel) ?_
        refine ln_icmp_ge (1 + 1 + 1 + 1) 10 (by omega) (by omega) (tgt := 42) hx hb dJ6_stringSize_0f7a4_19 (by decide) (fun cz4 => ?_) (fun cz4 => ?_)
        · exact absurd cz4 (by omega)
        refine lv_iload_n hx hb dJ6_stringSize_0f7a4_22 rfl (lv_at hl 2 rfl) ?_
        refine lv_iload_n hx hb dJ6_stringSize_0f7a4_23 rfl (lv_at hl 1 rfl) ?_
        refine lv_icmp_le (tgt := 31) hx hb dJ6_stringSize_0f7a4_24 (by decide) (fun hq9 => absurd ((sb_nle (a := w) (b := 10000) (by omega) (by omega)).mp hq9) (by omega)) (fun _ => ?_)
        refine lv_iload_n hx hb dJ6_stringSize_0f7a4_27 rfl (lv_at hl 0 rfl) ?_
        refine lv_iload_n hx hb dJ6_stringSize_0f7a4_28 rfl (lv_at hl 3 rfl) ?_
        refine ln_iadd (1 + 1 + 1 + 1) 0 hx hb dJ6_stringSize_0f7a4_29 ?_
        exact mm_iret hx hb hlocks hr (Nat.le_of_ble_eq_true rfl) (Nat.le_of_ble_eq_true rfl) hM (⟨congrArg (fun z => some (Value.int (nI z))) (by unfold szP; (repeat' split) <;> omega), rfl⟩) dJ6_stringSize_0f7a4_30
      refine lv_icmp_le (tgt := 31) hx hb dJ6_stringSize_0f7a4_24 (by decide) (fun hq9 => absurd ((sb_nle (a := w) (b := 1000) (by omega) (by omega)).mp hq9) hw2) (fun _ => ?_)
      refine lv_iload_n hx hb dJ6_stringSize_0f7a4_27 rfl (lv_at hl 0 rfl) ?_
      refine lv_iload_n hx hb dJ6_stringSize_0f7a4_28 rfl (lv_at hl 3 rfl) ?_
      refine ln_iadd (1 + 1 + 1) 0 hx hb dJ6_stringSize_0f7a4_29 ?_
      exact mm_iret hx hb hlocks hr (Nat.le_of_ble_eq_true rfl) (Nat.le_of_ble_eq_true rfl) hM (⟨congrArg (fun z => some (Value.int (nI z))) (by unfold szP; (repeat' split) <;> omega), rfl⟩) dJ6_stringSize_0f7a4_30
    refine lv_icmp_le (tgt := 31) hx hb dJ6_stringSize_0f7a4_24 (by decide) (fun hq9 => absurd ((sb_nle (a := w) (b := 100) (by omega) (by omega)).mp hq9) hw1) (fun _ => ?_)
    refine lv_iload_n hx hb dJ6_stringSize_0f7a4_27 rfl (lv_at hl 0 rfl) ?_
    refine lv_iload_n hx hb dJ6_stringSize_0f7a4_28 rfl (lv_at hl 3 rfl) ?_
    refine ln_iadd (1 + 1) 0 hx hb dJ6_stringSize_0f7a4_29 ?_
    exact mm_iret hx hb hlocks hr (Nat.le_of_ble_eq_true rfl) (Nat.le_of_ble_eq_true rfl) hM (⟨congrArg (fun z => some (Value.int (nI z))) (by unfold szP; (repeat' split) <;> omega), rfl⟩) dJ6_stringSize_0f7a4_30
  refine lv_icmp_le (tgt := 31) hx hb dJ6_stringSize_0f7a4_24 (by decide) (fun hq9 => absurd ((sb_nle (a := w) (b := 10) (by omega) (by omega)).mp hq9) hw0) (fun _ => ?_)
  refine lv_iload_n hx hb dJ6_stringSize_0f7a4_27 rfl (lv_at hl 0 rfl) ?_
  refine lv_iload_n hx hb dJ6_stringSize_0f7a4_28 rfl (lv_at hl 3 rfl) ?_
  refine ln_iadd 1 0 hx hb dJ6_stringSize_0f7a4_29 ?_
  exact mm_iret hx hb hlocks hr (Nat.le_of_ble_eq_true rfl) (Nat.le_of_ble_eq_true rfl) hM (⟨congrArg (fun z => some (Value.int (nI z))) (by unfold szP; (repeat' split) <;> omega), rfl⟩) dJ6_stringSize_0f7a4_30
set_option maxHeartbeats 4000000 in
set_option maxRecDepth 100000 in
theorem j6_sizeN (l : Launch) (G : mG) (f : mE) (w : Nat) (hw1 : 1 ≤ w) (hw9 : w ≤ 9999) : mC l G yJ6_stringSize_0f7a4 wsJ6_stringSize_0f7a4 ({ frames := 0, cells := 0, slots := 0, locals := 0 } : Room) f [.int (-(nI w))] (fun v f1 => v = some (.int (nI (szP w + 1))) ∧ f = f1) 0 0 := by
  refine mC.ofF (cc := cJ6_stringSize_0f7a4) (maxL := 4) (ret := (some .int)) (by decide +kernel) rfl (Nat.le_of_ble_eq_true rfl) ?_
  intro pgm env s mt args below meth c A ls hx hb hml hr hlocks hown hname hts hK hE hA hM hl
  have hl : lv_has ls 4 [(0, .int (-(nI w)))] := hl
  have hF := fun w9 e (hb : f w9 = some e)  => hb
  refine lv_iconst (v := (nI 1)) hx hb dJ6_stringSize_0f7a4_0 (by decide +kernel) ?_
  refine lv_istore_n (lv' := [(1, .int (nI 1)), (0, .int (-(nI w)))]) hx hb dJ6_stringSize_0f7a4_1 rfl hl (by decide) rfl (fun ls hl => ?_)
  refine lv_iload_n hx hb dJ6_stringSize_0f7a4_2 rfl (lv_at hl 1 rfl) ?_
  refine lv_if_lt (tgt := 11) hx hb dJ6_stringSize_0f7a4_3 (by decide) (fun _ => ?_) (fun hq9 => absurd (neg_nI hw1 (by omega)) hq9)
  refine lv_bipush (v := (-10)) hx hb dJ6_stringSize_0f7a4_11 (by decide +kernel) ?_
  refine lv_istore_n (lv' := [(2, .int (-10)), (1, .int (nI 1)), (0, .int (-(nI w)))]) hx hb dJ6_stringSize_0f7a4_13 rfl hl (by decide) rfl (fun ls hl => ?_)
  refine lv_iconst (v := (nI 1)) hx hb dJ6_stringSize_0f7a4_14 (by decide +kernel) ?_
  refine lv_istore_n (lv' := [(3, .int (nI 1)), (2, .int (-10)), (1, .int (nI 1)), (0, .int (-(nI w)))]) hx hb dJ6_stringSize_0f7a4_15 rfl hl (by decide) rfl (fun ls hl => ?_)
  refine lv_iload_n hx hb dJ6_stringSize_0f7a4_16 rfl (lv_at hl 0 rfl) ?_
  refine lv_bipush (v := (nI 10)) hx hb dJ6_stringSize_0f7a4_17 (by decide +kernel) ?_
  refine ln_icmp_ge 1 10 (by omega) (by omega) (tgt := 42) hx hb dJ6_stringSize_0f7a4_19 (by decide) (fun hq9 => absurd hq9 (by decide)) (fun _ => ?_)
  refine lv_iload_n hx hb dJ6_stringSize_0f7a4_22 rfl (lv_at hl 3 rfl) ?_
  refine lv_iload_n hx hb dJ6_stringSize_0f7a4_23 rfl (lv_at hl 1 rfl) ?_
  by_cases hw0 : 10 ≤ w
  · refine lv_icmp_le (tgt := 31) hx hb dJ6_stringSize_0f7a4_24 (by decide) (fun _ => ?_) (fun hq9 => absurd ((sb_nle (a := w) (b := 10) (by omega) (by omega)).mpr hw0) hq9)
    refine lv_bipush (v := (nI 10)) hx hb dJ6_stringSize_0f7a4_31 (by decide +kernel) ?_
    refine lv_iload_n hx hb dJ6_stringSize_0f7a4_33 rfl (lv_at hl 1 rfl) ?_
    refine lv_imul hx hb dJ6_stringSize_0f7a4_34 ?_
    refine mv_top (y := (-100)) (by decide) ?_
    refine lv_istore_n (lv' := [(2, .int (-100)), (3, .int (nI 1)), (1, .int (nI 1)), (0, .int (-(nI w)))]) hx hb dJ6_stringSize_0f7a4_35 rfl hl (by decide) rfl (fun ls hl => ?_)
    refine lv_iinc (v := (nI (1 + 1))) (lv' := [(3, .int (nI (1 + 1))), (2, .int (-100)), (1, .int (nI 1)), (0, .int (-(nI w)))]) hx hb dJ6_stringSize_0f7a4_36 hl (k := 1) rfl (nI_add _ _) (by decide) rfl (fun ls hl => ?_)
    refine lv_goto (tgt := 16) hx hb dJ6_stringSize_0f7a4_39 (by decide) ?_
    refine lv_iload_n hx hb dJ6_stringSize_0f7a4_16 rfl (lv_at hl 0 rfl) ?_
    refine lv_bipush (v := (nI 10)) hx hb dJ6_stringSize_0f7a4_17 (by decide +kernel) ?_
    refine ln_icmp_ge (1 + 1) 10 (by omega) (by omega) (tgt := 42) hx hb dJ6_stringSize_0f7a4_19 (by decide) (fun cz2 => ?_) (fun cz2 => ?_)
    · exact absurd cz2 (by omega)
    refine lv_iload_n hx hb dJ6_stringSize_0f7a4_22 rfl (lv_at hl 3 rfl) ?_
    refine lv_iload_n hx hb dJ6_stringSize_0f7a4_23 rfl (lv_at hl 1 rfl) ?_
    by_cases hw1 : 100 ≤ w
    · refine lv_icmp_le (tgt := 31) hx hb dJ6_stringSize_0f7a4_24 (by decide) (fun _ => ?_) (fun hq9 => absurd ((sb_nle (a := w) (b := 100) (by omega) (by omega)).mpr hw1) hq9)
      refine lv_bipush (v := (nI 10)) hx hb dJ6_stringSize_0f7a4_31 (by decide +kernel) ?_
      refine lv_iload_n hx hb dJ6_stringSize_0f7a4_33 rfl (lv_at hl 1 rfl) ?_
      refine lv_imul hx hb dJ6_stringSize_0f7a4_34 ?_
      refine mv_top (y := (-1000)) (by decide) ?_
      refine lv_istore_n (lv' := [(2, .int (-1000)), (3, .int (nI (1 + 1))), (1, .int (nI 1)), (0, .int (-(nI w)))]) hx hb dJ6_stringSize_0f7a4_35 rfl hl (by decide) rfl (fun ls hl => ?_)
      refine lv_iinc (v := (nI (1 + 1 + 1))) (lv' := [(3, .int (nI (1 + 1 + 1))), (2, .int (-1000)), (1, .int (nI 1)), (0, .int (-(nI w)))]) hx hb dJ6_stringSize_0f7a4_36 hl (k := 1) rfl (nI_add _ _) (by decide) rfl (fun ls hl => ?_)
      refine lv_goto (tgt := 16) hx hb dJ6_stringSize_0f7a4_39 (by decide) ?_
      refine lv_iload_n hx hb dJ6_stringSize_0f7a4_16 rfl (lv_at hl 0 rfl) ?_
      refine lv_bipush (v := (nI 10)) hx hb dJ6_stringSize_0f7a4_17 (by decide +kernel) ?_
      refine ln_icmp_ge (1 + 1 + 1) 10 (by omega) (by omega) (tgt := 42) hx hb dJ6_stringSize_0f7a4_19 (by decide) (fun cz3 => ?_) (fun cz3 => ?_)
      · exact absurd cz3 (by omega)
      refine lv_iload_n hx hb dJ6_stringSize_0f7a4_22 rfl (lv_at hl 3 rfl) ?_
      refine lv_iload_n hx hb dJ6_stringSize_0f7a4_23 rfl (lv_at hl 1 rfl) ?_
      by_cases hw2 : 1000 ≤ w
      · refine lv_icmp_le (tgt := 31) hx hb dJ6_stringSize_0f7a4_24 (by decide) (fun _ => ?_) (fun hq9 => absurd ((sb_nle (a := w) (b := 1000) (by omega) (by omega)).mpr hw2) hq9)
        refine lv_bipush (v := (nI 10)) hx hb dJ6_stringSize_0f7a4_31 (by decide +kernel) ?_
        refine lv_iload_n hx hb dJ6_stringSize_0f7a4_33 rfl (lv_at hl 1 rfl) ?_
        refine lv_imul hx hb dJ6_stringSize_0f7a4_34 ?_
        refine mv_top (y := (-10000)) (by decide) ?_
        refine lv_istore_n (lv' := [(2, .int (-10000)), (3, .int (nI (1 + 1 + 1))), (1, .int (nI 1)), (0, .int (-(nI w)))]) hx hb dJ6_stringSize_0f7a4_35 rfl hl (by decide) rfl (fun ls hl => ?_)
        refine lv_iinc (v := (nI (1 + 1 + 1 + 1))) (lv' := [(3, .int (nI (1 + 1 + 1 + 1))), (2, .int (-10000)), (1, .int (nI 1)), (0, .int (-(nI w)))]) hx hb dJ6_stringSize_0f7a4_36 hl (k := 1) rfl (nI_add _ _) (by decide) rfl (fun ls hl => ?_)
        refine lv_goto (tgt := 16) hx hb dJ6_stringSize_0f7a4_39 (by decide) ?_
        refine lv_iload_n hx hb dJ6_stringSize_0f7a4_16 rfl (lv_at hl 0 rfl) ?_
        refine lv_bipush (v := (nI 10)) hx hb dJ6_stringSize_0f7a4_17 (by decide +kernel) ?_
        refine ln_icmp_ge (1 + 1 + 1 + 1) 10 (by omega) (by omega) (tgt := 42) hx hb dJ6_stringSize_0f7a4_19 (by decide) (fun cz4 => ?_) (fun cz4 => ?_)
        · exact absurd cz4 (by omega)
        refine lv_iload_n hx hb dJ6_stringSize_0f7a4_22 rfl (lv_at hl 3 rfl) ?_
        refine lv_iload_n hx hb dJ6_stringSize_0f7a4_23 rfl (lv_at hl 1 rfl) ?_
        refine lv_icmp_le (tgt := 31) hx hb dJ6_stringSize_0f7a4_24 (by decide) (fun hq9 => absurd ((sb_nle (a := w) (b := 10000) (by omega) (by omega)).mp hq9) (by omega)) (fun _ => ?_)
        refine lv_iload_n hx hb dJ6_stringSize_0f7a4_27 rfl (lv_at hl 0 rfl) ?_
        refine lv_iload_n hx hb dJ6_stringSize_0f7a4_28 rfl (lv_at hl 2 rfl) ?_
        refine ln_iadd (1 + 1 + 1 + 1) 1 hx hb dJ6_stringSize_0f7a4_29 ?_
        exact mm_iret hx hb hlocks hr (Nat.le_of_ble_eq_true rfl) (Nat.le_of_ble_eq_true rfl) hM (⟨congrArg (fun z => some (Value.int (nI z))) (by unfold szP; (repeat' split) <;> omega), rfl⟩) dJ6_stringSize_0f7a4_30
      refine lv_icmp_le (tgt := 31) hx hb dJ6_stringSize_0f7a4_24 (by decide) (fun hq9 => absurd ((sb_nle (a := w) (b := 1000) (by omega) (by omega)).mp hq9) hw2) (fun _ => ?_)
      refine lv_iload_n hx hb dJ6_stringSize_0f7a4_27 rfl (lv_at hl 0 rfl) ?_
      refine lv_iload_n hx hb dJ6_stringSize_0f7a4_28 rfl (lv_at hl 2 rfl) ?_
      refine ln_iadd (1 + 1 + 1) 1 hx hb dJ6_stringSize_0f7a4_29 ?_
      exact mm_iret hx hb hlocks hr (Nat.le_of_ble_eq_true rfl) (Nat.le_of_ble_eq_true rfl) hM (⟨congrArg (fun z => some (Value.int (nI z))) (by unfold szP; (repeat' split) <;> omega), rfl⟩) dJ6_stringSize_0f7a4_30
    refine lv_icmp_le (tgt := 31) hx hb dJ6_stringSize_0f7a4_24 (by decide) (fun hq9 => absurd ((sb_nle (a := w) (b := 100) (by omega) (by omega)).mp hq9) hw1) (fun _ => ?_)
    refine lv_iload_n hx hb dJ6_stringSize_0f7a4_27 rfl (lv_at hl 0 rfl) ?_
    refine lv_iload_n hx hb dJ6_stringSize_0f7a4_28 rfl (lv_at hl 2 rfl) ?_
    refine ln_iadd (1 + 1) 1 hx hb dJ6_stringSize_0f7a4_29 ?_
    exact mm_iret hx hb hlocks hr (Nat.le_of_ble_eq_true rfl) (Nat.le_of_ble_eq_true rfl) hM (⟨congrArg (fun z => some (Value.int (nI z))) (by unfold szP; (repeat' split) <;> omega), rfl⟩) dJ6_stringSize_0f7a4_30
  refine lv_icmp_le (tgt := 31) hx hb dJ6_stringSize_0f7a4_24 (by decide) (fun hq9 => absurd ((sb_nle (a := w) (b := 10) (by omega) (by omega)).mp hq9) hw0) (fun _ => ?_)
  refine lv_iload_n hx hb dJ6_stringSize_0f7a4_27 rfl (lv_at hl 0 rfl) ?_
  refine lv_iload_n hx hb dJ6_stringSize_0f7a4_28 rfl (lv_at hl 2 rfl) ?_
  refine ln_iadd 1 1 hx hb dJ6_stringSize_0f7a4_29 ?_
  exact mm_iret hx hb hlocks hr (Nat.le_of_ble_eq_true rfl) (Nat.le_of_ble_eq_true rfl) hM (⟨congrArg (fun z => some (Value.int (nI z))) (by unfold szP; (repeat' split) <;> omega), rfl⟩) dJ6_stringSize_0f7a4_30
set_option maxHeartbeats 4000000 in
set_option maxRecDepth 100000 in
theorem j6_charsP (l : Launch) (G : mG) {f : mE} {va cap ct : Nat} {by1 : Nat → Int32} (h_va : f va = some (mB G cap by1)) (hfit : sb_Fit by1) (w : Nat) (hw9 : w ≤ 9999) (e : Nat) (he : e = ct + szP w) (hq : e ≤ cap) (hc2 : cap ≤ 32000) : mC l G yJ6_getChars_ba4f3 wsJ6_getChars_ba4f3 ({ frames := 0, cells := 0, slots := 0, locals := 0 } : Room) f [.int (nI w), .int (nI e), .ref va] (fun v f1 => v = some (.int (nI ct)) ∧ ∃ g1 : Nat → Int32, f1 va = some (mB G cap g1) ∧ sb_Fit g1 ∧ (∀ j, j < ct → g1 j = by1 j) ∧ (∀ j, j < (decL w).length → g1 (ct + j) = (decL w).getD j 0) ∧ ∀ b e, f b = some e → b ≠ va → f1 b = some e) 0 0 := by
  refine mC.ofF (cc := cJ6_getChars_ba4f3) (maxL := 7) (ret := (some .int)) (by decide +kernel) rfl (Nat.le_of_ble_eq_true rfl) ?_
  intro pgm env s mt args below meth c A ls hx hb hml hr hlocks hown hname hts hK hE hA hM hl
  have hl : lv_has ls 7 [(0, .int (nI w)), (1, .int (nI e)), (2, .ref va)] := hl
  have hF := fun w9 e (hb : f w9 = some e) (_ : w9 ≠ va) => hb
  refine lv_iload_n hx hb dJ6_getChars_ba4f3_0 rfl (lv_at hl 1 rfl) ?_
  refine lv_istore (lv' := [(5, .int (nI e)), (0, .int (nI w)), (1, .int (nI e)), (2, .ref va)]) hx hb dJ6_getChars_ba4f3_1 hl (by decide) rfl (fun ls hl => ?_)
  refine lv_iload_n hx hb dJ6_getChars_ba4f3_3 rfl (lv_at hl 1 rfl) ?_
  have hsz1 := szP_1 w
  refine lv_if_ge (tgt := 11) hx hb dJ6_getChars_ba4f3_4 (by decide) (fun _ => ?_) (fun hq9 => absurd (nI_pos' (by omega)) hq9)
  refine lv_iconst (v := (nI 0)) hx hb dJ6_getChars_ba4f3_11 (by decide +kernel) ?_
  refine lv_istore (lv' := [(6, .int (nI 0)), (5, .int (nI e)), (0, .int (nI w)), (1, .int (nI e)), (2, .ref va)]) hx hb dJ6_getChars_ba4f3_12 hl (by decide) rfl (fun ls hl => ?_)
  refine lv_iload hx hb dJ6_getChars_ba4f3_14 (lv_at hl 0 rfl) ?_
  refine lv_if_ne (tgt := 22) hx hb dJ6_getChars_ba4f3_16 (by decide) (fun hq9 => absurd hq9 (by decide)) (fun _ => ?_)
  refine lv_iload_n hx hb dJ6_getChars_ba4f3_19 rfl (lv_at hl 2 rfl) ?_
  refine lv_ineg hx hb dJ6_getChars_ba4f3_20 ?_
  refine lv_istore_n (lv' := [(0, .int (-(nI w))), (6, .int (nI 0)), (5, .int (nI e)), (1, .int (nI e)), (2, .ref va)]) hx hb dJ6_getChars_ba4f3_21 rfl hl (by decide) rfl (fun ls hl => ?_)
  refine lv_iload_n hx hb dJ6_getChars_ba4f3_22 rfl (lv_at hl 0 rfl) ?_
  refine lv_bipush (v := (-100)) hx hb dJ6_getChars_ba4f3_23 (by decide +kernel) ?_
  by_cases hw100 : w < 100
  · refine lv_icmp_gt (tgt := 72) hx hb dJ6_getChars_ba4f3_25 (by decide) (fun _ => ?_) (fun hq9 => absurd ((sb_nlt (a := 100) (b := w) (by omega) (by omega)).mpr hw100) hq9)
    refine lv_aload_n hx hb dJ6_getChars_ba4f3_72 rfl (lv_at hl 4 rfl) ?_
    refine lv_iinc (v := (nI (e - 1))) (lv' := [(5, .int (nI (e - 1))), (0, .int (-(nI w))), (6, .int (nI 0)), (1, .int (nI e)), (2, .ref va)]) hx hb dJ6_getChars_ba4f3_73 hl (k := 2) rfl (sb_m1 (by omega)) (by decide) rfl (fun ls hl => ?_)
    refine lv_iload hx hb dJ6_getChars_ba4f3_76 (lv_at hl 0 rfl) ?_
    refine va_gets hx hb hE.2.2.2.1.1 hM.2 hown (hts (.fieldLink RJ6 83 "java/lang/Integer" "DigitOnes" "[B") (List.mem_of_getElem? (i := 1) rfl)) (fun _ h => h) dJ6_getChars_ba4f3_78 ?_
    refine lv_iload_n hx hb dJ6_getChars_ba4f3_81 rfl (lv_at hl 1 rfl) ?_
    refine lv_ineg hx hb dJ6_getChars_ba4f3_82 ?_
    refine mv_top (y := nI w) Int32.neg_neg ?_
    refine va_tb hx hb hE.2.2.2.1.2 hM.2 (v := .int (onesF w)) (vp_in_nI (by omega) (by decide)) (by rw [nI_clamp (by omega)]) dJ6_getChars_ba4f3_83 ?_
    refine mv_top (y := nI (48 + w % 10)) rfl ?_
    refine mm_bast hx hb hK hM h_va (e - 1) (nb_nI (by omega)) (by omega) (by omega) dJ6_getChars_ba4f3_84 (fun Hp lcs hM => ?_)
    obtain ⟨gz1, hM, hz2, rz3⟩ := hM.up
    have hF := fun w9 e (hb : f w9 = some e) (hn0 : w9 ≠ va) => (rz3 w9 hn0).trans (hF w9 e hb hn0)
    refine lv_iload_n hx hb dJ6_getChars_ba4f3_85 rfl (lv_at hl 1 rfl) ?_
    refine lv_bipush (v := (-9)) hx hb dJ6_getChars_ba4f3_86 (by decide +kernel) ?_
    by_cases hw10 : w < 10
    · have hsz : szP w = 1 := by unfold szP; (repeat' split) <;> omega
      refine lv_icmp_ge (tgt := 104) hx hb dJ6_getChars_ba4f3_88 (by decide) (fun _ => ?_) (fun hq9 => absurd ((sb_nle (a := 9) (b := w) (by omega) (by omega)).mpr (by omega)) hq9)
      refine lv_iload hx hb dJ6_getChars_ba4f3_104 (lv_at hl 2 rfl) ?_
      refine lv_if_eq (tgt := 118) hx hb dJ6_getChars_ba4f3_106 (by decide) (fun _ => ?_) (fun hq9 => absurd hq9 (by decide))
      refine lv_iload hx hb dJ6_getChars_ba4f3_118 (lv_at hl 0 rfl) ?_
      exact mm_iret hx hb hlocks hr (Nat.le_of_ble_eq_true rfl) (Nat.le_of_ble_eq_true rfl) hM (by
                refine ⟨congrArg (fun z => some (Value.int (nI z))) (by omega), (upd by1 (e - 1) (nI (48 + w % 10))), hz2, (by repeat (first | exact hfit | refine sb_fitU ?_ (fit_nI (by omega)))), (fun j hj => by simp only [upd]; (repeat' split) <;> first | rfl | (exfalso; omega)), (fun j hj => ?_), hF⟩
                have hlen : (decL w).length = szP w := by simp [decL_len]
                rw [hlen, hsz] at hj
                unfold decL
                rw [if_pos (by omega), if_pos (by omega)]
                have hjj : j = 0 ∨ j = 1 ∨ j = 2 ∨ j = 3 ∨ j = 4 := by omega
                rcases hjj with rfl | rfl | rfl | rfl | rfl <;> simp only [upd] <;> (repeat' split) <;> first | rfl | (exfalso; omega)) dJ6_getChars_ba4f3_120
    have hsz : szP w = 2 := by unfold szP; (repeat' split) <;> omega
    refine lv_icmp_ge (tgt := 104) hx hb dJ6_getChars_ba4f3_88 (by decide) (fun hq9 => absurd ((sb_nle (a := 9) (b := w) (by omega) (by omega)).mp hq9) (by omega)) (fun _ => ?_)
    refine lv_aload_n hx hb dJ6_getChars_ba4f3_91 rfl (lv_at hl 4 rfl) ?_
    refine lv_iinc (v := (nI (e - 1 - 1))) (lv' := [(5, .int (nI (e - 1 - 1))), (0, .int (-(nI w))), (6, .int (nI 0)), (1, .int (nI e)), (2, .ref va)]) hx hb dJ6_getChars_ba4f3_92 hl (k := 0) rfl (sb_m1 (by omega)) (by decide) rfl (fun ls hl => ?_)
    refine lv_iload hx hb dJ6_getChars_ba4f3_95 (lv_at hl 0 rfl) ?_
    refine va_gets hx hb hE.2.2.2.2.1.1 hM.2 hown (hts (.fieldLink RJ6 87 "java/lang/Integer" "DigitTens" "[B") (List.mem_of_getElem? (i := 2) rfl)) (fun _ h => h) dJ6_getChars_ba4f3_97 ?_
    refine lv_iload_n hx hb dJ6_getChars_ba4f3_100 rfl (lv_at hl 1 rfl) ?_
    refine lv_ineg hx hb dJ6_getChars_ba4f3_101 ?_
    refine mv_top (y := nI w) Int32.neg_neg ?_
    refine va_tb hx hb hE.2.2.2.2.1.2 hM.2 (v := .int (tensF w)) (vp_in_nI (by omega) (by decide)) (by rw [nI_clamp (by omega)]) dJ6_getChars_ba4f3_102 ?_
    refine mv_top (y := nI (48 + w / 10)) rfl ?_
    refine mm_bast hx hb hK hM hz2 (e - 1 - 1) (nb_nI (by omega)) (by omega) (by omega) dJ6_getChars_ba4f3_103 (fun Hp lcs hM => ?_)
    obtain ⟨gz4, hM, hz5, rz6⟩ := hM.up
    have hF := fun w9 e (hb : f w9 = some e) (hn0 : w9 ≠ va) => (rz6 w9 hn0).trans (hF w9 e hb hn0)
    refine lv_iload hx hb dJ6_getChars_ba4f3_104 (lv_at hl 2 rfl) ?_
    refine lv_if_eq (tgt := 118) hx hb dJ6_getChars_ba4f3_106 (by decide) (fun _ => ?_) (fun hq9 => absurd hq9 (by decide))
    refine lv_iload hx hb dJ6_getChars_ba4f3_118 (lv_at hl 0 rfl) ?_
    exact mm_iret hx hb hlocks hr (Nat.le_of_ble_eq_true rfl) (Nat.le_of_ble_eq_true rfl) hM (by
            refine ⟨congrArg (fun z => some (Value.int (nI z))) (by omega), (upd (upd by1 (e - 1) (nI (48 + w % 10))) (e - 1 - 1) (nI (48 + w / 10))), hz5, (by repeat (first | exact hfit | refine sb_fitU ?_ (fit_nI (by omega)))), (fun j hj => by simp only [upd]; (repeat' split) <;> first | rfl | (exfalso; omega)), (fun j hj => ?_), hF⟩
            have hlen : (decL w).length = szP w := by simp [decL_len]
            rw [hlen, hsz] at hj
            unfold decL
            rw [if_pos (by omega), if_neg (by omega)]
            have hjj : j = 0 ∨ j = 1 ∨ j = 2 ∨ j = 3 ∨ j = 4 := by omega
            rcases hjj with rfl | rfl | rfl | rfl | rfl <;> simp only [upd] <;> (repeat' split) <;> first | rfl | (exfalso; omega)) dJ6_getChars_ba4f3_120
  have hsz3 := szP_3 hw100
  refine lv_icmp_gt (tgt := 72) hx hb dJ6_getChars_ba4f3_25 (by decide) (fun hq9 => absurd ((sb_nlt (a := 100) (b := w) (by omega) (by omega)).mp hq9) hw100) (fun _ => ?_)
  refine lv_iload_n hx hb dJ6_getChars_ba4f3_28 rfl (lv_at hl 0 rfl) ?_
  refine lv_bipush (v := (nI 100)) hx hb dJ6_getChars_ba4f3_29 (by decide +kernel) ?_
  refine lv_idiv hx hb dJ6_getChars_ba4f3_31 (by decide) ?_
  refine mv_top (y := (-(nI (w / 100)))) (sb_ndiv (by omega)) ?_
  refine lv_istore_n (lv' := [(3, .int (-(nI (w / 100)))), (0, .int (-(nI w))), (6, .int (nI 0)), (5, .int (nI e)), (1, .int (nI e)), (2, .ref va)]) hx hb dJ6_getChars_ba4f3_32 rfl hl (by decide) rfl (fun ls hl => ?_)
  refine lv_iload_n hx hb dJ6_getChars_ba4f3_33 rfl (lv_at hl 0 rfl) ?_
  refine lv_bipush (v := (nI 100)) hx hb dJ6_getChars_ba4f3_34 (by decide +kernel) ?_
  refine lv_imul hx hb dJ6_getChars_ba4f3_36 ?_
  refine lv_iload_n hx hb dJ6_getChars_ba4f3_37 rfl (lv_at hl 1 rfl) ?_
  refine lv_isub hx hb dJ6_getChars_ba4f3_38 ?_
  refine mv_top (y := nI (w % 100)) (sb_nrem (by omega)) ?_
  refine lv_istore (lv' := [(4, .int (nI (w % 100))), (3, .int (-(nI (w / 100)))), (0, .int (-(nI w))), (6, .int (nI 0)), (5, .int (nI e)), (1, .int (nI e)), (2, .ref va)]) hx hb dJ6_getChars_ba4f3_39 hl (by decide) rfl (fun ls hl => ?_)
  refine lv_iload_n hx hb dJ6_getChars_ba4f3_41 rfl (lv_at hl 1 rfl) ?_
  refine lv_istore_n (lv' := [(0, .int (-(nI (w / 100)))), (4, .int (nI (w % 100))), (3, .int (-(nI (w / 100)))), (6, .int (nI 0)), (5, .int (nI e)), (1, .int (nI e)), (2, .ref va)]) hx hb dJ6_getChars_ba4f3_42 rfl hl (by decide) rfl (fun ls hl => ?_)
  refine lv_aload_n hx hb dJ6_getChars_ba4f3_43 rfl (lv_at hl 6 rfl) ?_
  refine lv_iinc (v := (nI (e - 1))) (lv' := [(5, .int (nI (e - 1))), (0, .int (-(nI (w / 100)))), (4, .int (nI (w % 100))), (3, .int (-(nI (w / 100)))), (6, .int (nI 0)), (1, .int (nI e)), (2, .ref va)]) hx hb dJ6_getChars_ba4f3_44 hl (k := 4) rfl (sb_m1 (by omega)) (by decide) rfl (fun ls hl => ?_)
  refine lv_iload hx hb dJ6_getChars_ba4f3_47 (lv_at hl 0 rfl) ?_
  refine va_gets hx hb hE.2.2.2.1.1 hM.2 hown (hts (.fieldLink RJ6 83 "java/lang/Integer" "DigitOnes" "[B") (List.mem_of_getElem? (i := 1) rfl)) (fun _ h => h) dJ6_getChars_ba4f3_49 ?_
  refine lv_iload hx hb dJ6_getChars_ba4f3_52 (lv_at hl 2 rfl) ?_
  refine va_tb hx hb hE.2.2.2.1.2 hM.2 (v := .int (onesF (w % 100))) (vp_in_nI (by omega) (by decide)) (by rw [nI_clamp (by omega)]) dJ6_getChars_ba4f3_54 ?_
  refine mv_top (y := nI (48 + w % 100 % 10)) rfl ?_
  refine mm_bast hx hb hK hM h_va (e - 1) (nb_nI (by omega)) (by omega) (by omega) dJ6_getChars_ba4f3_55 (fun Hp lcs hM => ?_)
  obtain ⟨gz7, hM, hz8, rz9⟩ := hM.up
  have hF := fun w9 e (hb : f w9 = some e) (hn0 : w9 ≠ va) => (rz9 w9 hn0).trans (hF w9 e hb hn0)
  refine lv_aload_n hx hb dJ6_getChars_ba4f3_56 rfl (lv_at hl 6 rfl) ?_
  refine lv_iinc (v := (nI (e - 1 - 1))) (lv' := [(5, .int (nI (e - 1 - 1))), (0, .int (-(nI (w / 100)))), (4, .int (nI (w % 100))), (3, .int (-(nI (w / 100)))), (6, .int (nI 0)), (1, .int (nI e)), (2, .ref va)]) hx hb dJ6_getChars_ba4f3_57 hl (k := 0) rfl (sb_m1 (by omega)) (by decide) rfl (fun ls hl => ?_)
  refine lv_iload hx hb dJ6_getChars_ba4f3_60 (lv_at hl 0 rfl) ?_
  refine va_gets hx hb hE.2.2.2.2.1.1 hM.2 hown (hts (.fieldLink RJ6 87 "java/lang/Integer" "DigitTens" "[B") (List.mem_of_getElem? (i := 2) rfl)) (fun _ h => h) dJ6_getChars_ba4f3_62 ?_
  refine lv_iload hx hb dJ6_getChars_ba4f3_65 (lv_at hl 2 rfl) ?_
  refine va_tb hx hb hE.2.2.2.2.1.2 hM.2 (v := .int (tensF (w % 100))) (vp_in_nI (by omega) (by decide)) (by rw [nI_clamp (by omega)]) dJ6_getChars_ba4f3_67 ?_
  refine mv_top (y := nI (48 + w % 100 / 10)) rfl ?_
  refine mm_bast hx hb hK hM hz8 (e - 1 - 1) (nb_nI (by omega)) (by omega) (by omega) dJ6_getChars_ba4f3_68 (fun Hp lcs hM => ?_)
  obtain ⟨gz10, hM, hz11, rz12⟩ := hM.up
  have hF := fun w9 e (hb : f w9 = some e) (hn0 : w9 ≠ va) => (rz12 w9 hn0).trans (hF w9 e hb hn0)
  refine lv_goto (tgt := 22) hx hb dJ6_getChars_ba4f3_69 (by decide) ?_
  refine lv_iload_n hx hb dJ6_getChars_ba4f3_22 rfl (lv_at hl 1 rfl) ?_
  refine lv_bipush (v := (-100)) hx hb dJ6_getChars_ba4f3_23 (by decide +kernel) ?_
  refine lv_icmp_gt (tgt := 72) hx hb dJ6_getChars_ba4f3_25 (by decide) (fun _ => ?_) (fun hq9 => absurd ((sb_nlt (a := 100) (b := w / 100) (by omega) (by omega)).mpr (by omega)) hq9)
  refine lv_aload_n hx hb dJ6_getChars_ba4f3_72 rfl (lv_at hl 6 rfl) ?_
  refine lv_iinc (v := (nI (e - 1 - 1 - 1))) (lv' := [(5, .int (nI (e - 1 - 1 - 1))), (0, .int (-(nI (w / 100)))), (4, .int (nI (w % 100))), (3, .int (-(nI (w / 100)))), (6, .int (nI 0)), (1, .int (nI e)), (2, .ref va)]) hx hb dJ6_getChars_ba4f3_73 hl (k := 0) rfl (sb_m1 (by omega)) (by decide) rfl (fun ls hl => ?_)
  refine lv_iload hx hb dJ6_getChars_ba4f3_76 (lv_at hl 0 rfl) ?_
  refine va_gets hx hb hE.2.2.2.1.1 hM.2 hown (hts (.fieldLink RJ6 83 "java/lang/Integer" "DigitOnes" "[B") (List.mem_of_getElem? (i := 1) rfl)) (fun _ h => h) dJ6_getChars_ba4f3_78 ?_
  refine lv_iload_n hx hb dJ6_getChars_ba4f3_81 rfl (lv_at hl 1 rfl) ?_
  refine lv_ineg hx hb dJ6_getChars_ba4f3_82 ?_
  refine mv_top (y := nI (w / 100)) Int32.neg_neg ?_
  refine va_tb hx hb hE.2.2.2.1.2 hM.2 (v := .int (onesF (w / 100))) (vp_in_nI (by omega) (by decide)) (by rw [nI_clamp (by omega)]) dJ6_getChars_ba4f3_83 ?_
  refine mv_top (y := nI (48 + (w / 100) % 10)) rfl ?_
  refine mm_bast hx hb hK hM hz11 (e - 1 - 1 - 1) (nb_nI (by omega)) (by omega) (by omega) dJ6_getChars_ba4f3_84 (fun Hp lcs hM => ?_)
  obtain ⟨gz13, hM, hz14, rz15⟩ := hM.up
  have hF := fun w9 e (hb : f w9 = some e) (hn0 : w9 ≠ va) => (rz15 w9 hn0).trans (hF w9 e hb hn0)
  refine lv_iload_n hx hb dJ6_getChars_ba4f3_85 rfl (lv_at hl 1 rfl) ?_
  refine lv_bipush (v := (-9)) hx hb dJ6_getChars_ba4f3_86 (by decide +kernel) ?_
  by_cases hw10 : (w / 100) < 10
  · have hsz : szP w = 3 := by unfold szP; (repeat' split) <;> omega
    refine lv_icmp_ge (tgt := 104) hx hb dJ6_getChars_ba4f3_88 (by decide) (fun _ => ?_) (fun hq9 => absurd ((sb_nle (a := 9) (b := (w / 100)) (by omega) (by omega)).mpr (by omega)) hq9)
    refine lv_iload hx hb dJ6_getChars_ba4f3_104 (lv_at hl 4 rfl) ?_
    refine lv_if_eq (tgt := 118) hx hb dJ6_getChars_ba4f3_106 (by decide) (fun _ => ?_) (fun hq9 => absurd hq9 (by decide))
    refine lv_iload hx hb dJ6_getChars_ba4f3_118 (lv_at hl 0 rfl) ?_
    exact mm_iret hx hb hlocks hr (Nat.le_of_ble_eq_true rfl) (Nat.le_of_ble_eq_true rfl) hM (by
            refine ⟨congrArg (fun z => some (Value.int (nI z))) (by omega), (upd (upd (upd by1 (e - 1) (nI (48 + w % 100 % 10))) (e - 1 - 1) (nI (48 + w % 100 / 10))) (e - 1 - 1 - 1) (nI (48 + (w / 100) % 10))), hz14, (by repeat (first | exact hfit | refine sb_fitU ?_ (fit_nI (by omega)))), (fun j hj => by simp only [upd]; (repeat' split) <;> first | rfl | (exfalso; omega)), (fun j hj => ?_), hF⟩
            have hlen : (decL w).length = szP w := by simp [decL_len]
            rw [hlen, hsz] at hj
            unfold decL
            rw [if_neg (by omega), if_pos (by omega)]
            have hjj : j = 0 ∨ j = 1 ∨ j = 2 ∨ j = 3 ∨ j = 4 := by omega
            rcases hjj with rfl | rfl | rfl | rfl | rfl <;> simp only [upd] <;> (repeat' split) <;> first | rfl | (exfalso; omega)) dJ6_getChars_ba4f3_120
  have hsz : szP w = 4 := by unfold szP; (repeat' split) <;> omega
  refine lv_icmp_ge (tgt := 104) hx hb dJ6_getChars_ba4f3_88 (by decide) (fun hq9 => absurd ((sb_nle (a := 9) (b := (w / 100)) (by omega) (by omega)).mp hq9) (by omega)) (fun _ => ?_)
  refine lv_aload_n hx hb dJ6_getChars_ba4f3_91 rfl (lv_at hl 6 rfl) ?_
  refine lv_iinc (v := (nI (e - 1 - 1 - 1 - 1))) (lv' := [(5, .int (nI (e - 1 - 1 - 1 - 1))), (0, .int (-(nI (w / 100)))), (4, .int (nI (w % 100))), (3, .int (-(nI (w / 100)))), (6, .int (nI 0)), (1, .int (nI e)), (2, .ref va)]) hx hb dJ6_getChars_ba4f3_92 hl (k := 0) rfl (sb_m1 (by omega)) (by decide) rfl (fun ls hl => ?_)
  refine lv_iload hx hb dJ6_getChars_ba4f3_95 (lv_at hl 0 rfl) ?_
  refine va_gets hx hb hE.2.2.2.2.1.1 hM.2 hown (hts (.fieldLink RJ6 87 "java/lang/Integer" "DigitTens" "[B") (List.mem_of_getElem? (i := 2) rfl)) (fun _ h => h) dJ6_getChars_ba4f3_97 ?_
  refine lv_iload_n hx hb dJ6_getChars_ba4f3_100 rfl (lv_at hl 1 rfl) ?_
  refine lv_ineg hx hb dJ6_getChars_ba4f3_101 ?_
  refine mv_top (y := nI (w / 100)) Int32.neg_neg ?_
  refine va_tb hx hb hE.2.2.2.2.1.2 hM.2 (v := .int (tensF (w / 100))) (vp_in_nI (by omega) (by decide)) (by rw [nI_clamp (by omega)]) dJ6_getChars_ba4f3_102 ?_
  refine mv_top (y := nI (48 + (w / 100) / 10)) rfl ?_
  refine mm_bast hx hb hK hM hz14 (e - 1 - 1 - 1 - 1) (nb_nI (by omega)) (by omega) (by omega) dJ6_getChars_ba4f3_103 (fun Hp lcs hM => ?_)
  obtain ⟨gz16, hM, hz17, rz18⟩ := hM.up
  have hF := fun w9 e (hb : f w9 = some e) (hn0 : w9 ≠ va) => (rz18 w9 hn0).trans (hF w9 e hb hn0)
  refine lv_iload hx hb dJ6_getChars_ba4f3_104 (lv_at hl 4 rfl) ?_
  refine lv_if_eq (tgt := 118) hx hb dJ6_getChars_ba4f3_106 (by decide) (fun _ => ?_) (fun hq9 => absurd hq9 (by decide))
  refine lv_iload hx hb dJ6_getChars_ba4f3_118 (lv_at hl 0 rfl) ?_
  exact mm_iret hx hb hlocks hr (Nat.le_of_ble_eq_true rfl) (Nat.le_of_ble_eq_true rfl) hM (by
        refine ⟨congrArg (fun z => some (Value.int (nI z))) (by omega), (upd (upd (upd (upd by1 (e - 1) (nI (48 + w % 100 % 10))) (e - 1 - 1) (nI (48 + w % 100 / 10))) (e - 1 - 1 - 1) (nI (48 + (w / 100) % 10))) (e - 1 - 1 - 1 - 1) (nI (48 + (w / 100) / 10))), hz17, (by repeat (first | exact hfit | refine sb_fitU ?_ (fit_nI (by omega)))), (fun j hj => by simp only [upd]; (repeat' split) <;> first | rfl | (exfalso; omega)), (fun j hj => ?_), hF⟩
        have hlen : (decL w).length = szP w := by simp [decL_len]
        rw [hlen, hsz] at hj
        unfold decL
        rw [if_neg (by omega), if_neg (by omega)]
        have hjj : j = 0 ∨ j = 1 ∨ j = 2 ∨ j = 3 ∨ j = 4 := by omega
        rcases hjj with rfl | rfl | rfl | rfl | rfl <;> simp only [upd] <;> (repeat' split) <;> first | rfl | (exfalso; omega)) dJ6_getChars_ba4f3_120
set_option maxHeartbeats 4000000 in
set_option maxRecDepth 100000 in
theorem j6_charsN (l : Launch) (G : mG) {f : mE} {va cap ct : Nat} {by1 : Nat → Int32} (h_va : f va = some (mB G cap by1)) (hfit : sb_Fit by1) (w : Nat) (hw1 : 1 ≤ w) (hw9 : w ≤ 9999) (e : Nat) (he : e = ct + (szP w + 1)) (hq : e ≤ cap) (hc2 : cap ≤ 32000) : mC l G yJ6_getChars_ba4f3 wsJ6_getChars_ba4f3 ({ frames := 0, cells := 0, slots := 0, locals := 0 } : Room) f [.int (-(nI w)), .int (nI e), .ref va] (fun v f1 => v = some (.int (nI ct)) ∧ ∃ g1 : Nat → Int32, f1 va = some (mB G cap g1) ∧ sb_Fit g1 ∧ (∀ j, j < ct → g1 j = by1 j) ∧ (∀ j, j < (nI 45 :: decL w).length → g1 (ct + j) = (nI 45 :: decL w).getD j 0) ∧ ∀ b e, f b = some e → b ≠ va → f1 b = some e) 0 0 := by
  refine mC.ofF (cc := cJ6_getChars_ba4f3) (maxL := 7) (ret := (some .int)) (by decide +kernel) rfl (Nat.le_of_ble_eq_true rfl) ?_
  intro pgm env s mt args below meth c A ls hx hb hml hr hlocks hown hname hts hK hE hA hM hl
  have hl : lv_has ls 7 [(0, .int (-(nI w))), (1, .int (nI e)), (2, .ref va)] := hl
  have hF := fun w9 e (hb : f w9 = some e) (_ : w9 ≠ va) => hb
  refine lv_iload_n hx hb dJ6_getChars_ba4f3_0 rfl (lv_at hl 1 rfl) ?_
  refine lv_istore (lv' := [(5, .int (nI e)), (0, .int (-(nI w))), (1, .int (nI e)), (2, .ref va)]) hx hb dJ6_getChars_ba4f3_1 hl (by decide) rfl (fun ls hl => ?_)
  refine lv_iload_n hx hb dJ6_getChars_ba4f3_3 rfl (lv_at hl 1 rfl) ?_
  have hsz1 := szP_1 w
  refine lv_if_ge (tgt := 11) hx hb dJ6_getChars_ba4f3_4 (by decide) (fun hq9 => absurd (neg_nI hw1 (by omega)) (Int32.not_lt.mpr hq9)) (fun _ => ?_)
  refine lv_iconst (v := (nI 1)) hx hb dJ6_getChars_ba4f3_7 (by decide +kernel) ?_
  refine lv_goto (tgt := 12) hx hb dJ6_getChars_ba4f3_8 (by decide) ?_
  refine lv_istore (lv' := [(6, .int (nI 1)), (5, .int (nI e)), (0, .int (-(nI w))), (1, .int (nI e)), (2, .ref va)]) hx hb dJ6_getChars_ba4f3_12 hl (by decide) rfl (fun ls hl => ?_)
  refine lv_iload hx hb dJ6_getChars_ba4f3_14 (lv_at hl 0 rfl) ?_
  refine lv_if_ne (tgt := 22) hx hb dJ6_getChars_ba4f3_16 (by decide) (fun _ => ?_) (fun hq9 => absurd hq9 (by decide))
  refine lv_iload_n hx hb dJ6_getChars_ba4f3_22 rfl (lv_at hl 2 rfl) ?_
  refine lv_bipush (v := (-100)) hx hb dJ6_getChars_ba4f3_23 (by decide +kernel) ?_
  by_cases hw100 : w < 100
  · refine lv_icmp_gt (tgt := 72) hx hb dJ6_getChars_ba4f3_25 (by decide) (fun _ => ?_) (fun hq9 => absurd ((sb_nlt (a := 100) (b := w) (by omega) (by omega)).mpr hw100) hq9)
    refine lv_aload_n hx hb dJ6_getChars_ba4f3_72 rfl (lv_at hl 4 rfl) ?_
    refine lv_iinc (v := (nI (e - 1))) (lv' := [(5, .int (nI (e - 1))), (6, .int (nI 1)), (0, .int (-(nI w))), (1, .int (nI e)), (2, .ref va)]) hx hb dJ6_getChars_ba4f3_73 hl (k := 1) rfl (sb_m1 (by omega)) (by decide) rfl (fun ls hl => ?_)
    refine lv_iload hx hb dJ6_getChars_ba4f3_76 (lv_at hl 0 rfl) ?_
    refine va_gets hx hb hE.2.2.2.1.1 hM.2 hown (hts (.fieldLink RJ6 83 "java/lang/Integer" "DigitOnes" "[B") (List.mem_of_getElem? (i := 1) rfl)) (fun _ h => h) dJ6_getChars_ba4f3_78 ?_
    refine lv_iload_n hx hb dJ6_getChars_ba4f3_81 rfl (lv_at hl 2 rfl) ?_
    refine lv_ineg hx hb dJ6_getChars_ba4f3_82 ?_
    refine mv_top (y := nI w) Int32.neg_neg ?_
    refine va_tb hx hb hE.2.2.2.1.2 hM.2 (v := .int (onesF w)) (vp_in_nI (by omega) (by decide)) (by rw [nI_clamp (by omega)]) dJ6_getChars_ba4f3_83 ?_
    refine mv_top (y := nI (48 + w % 10)) rfl ?_
    refine mm_bast hx hb hK hM h_va (e - 1) (nb_nI (by omega)) (by omega) (by omega) dJ6_getChars_ba4f3_84 (fun Hp lcs hM => ?_)
    obtain ⟨gz1, hM, hz2, rz3⟩ := hM.up
    have hF := fun w9 e (hb : f w9 = some e) (hn0 : w9 ≠ va) => (rz3 w9 hn0).trans (hF w9 e hb hn0)
    refine lv_iload_n hx hb dJ6_getChars_ba4f3_85 rfl (lv_at hl 2 rfl) ?_
    refine lv_bipush (v := (-9)) hx hb dJ6_getChars_ba4f3_86 (by decide +kernel) ?_
    by_cases hw10 : w < 10
    · have hsz : szP w = 1 := by unfold szP; (repeat' split) <;> omega
      refine lv_icmp_ge (tgt := 104) hx hb dJ6_getChars_ba4f3_88 (by decide) (fun _ => ?_) (fun hq9 => absurd ((sb_nle (a := 9) (b := w) (by omega) (by omega)).mpr (by omega)) hq9)
      refine lv_iload hx hb dJ6_getChars_ba4f3_104 (lv_at hl 1 rfl) ?_
      refine lv_if_eq (tgt := 118) hx hb dJ6_getChars_ba4f3_106 (by decide) (fun hq9 => absurd hq9 (by decide)) (fun _ => ?_)
      refine lv_aload_n hx hb dJ6_getChars_ba4f3_109 rfl (lv_at hl 4 rfl) ?_
      refine lv_iinc (v := (nI (e - 1 - 1))) (lv' := [(5, .int (nI (e - 1 - 1))), (6, .int (nI 1)), (0, .int (-(nI w))), (1, .int (nI e)), (2, .ref va)]) hx hb dJ6_getChars_ba4f3_110 hl (k := 0) rfl (sb_m1 (by omega)) (by decide) rfl (fun ls hl => ?_)
      refine lv_iload hx hb dJ6_getChars_ba4f3_113 (lv_at hl 0 rfl) ?_
      refine lv_bipush (v := (nI 45)) hx hb dJ6_getChars_ba4f3_115 (by decide +kernel) ?_
      refine mm_bast hx hb hK hM hz2 (e - 1 - 1) (nb_nI (by omega)) (by omega) (by omega) dJ6_getChars_ba4f3_117 (fun Hp lcs hM => ?_)
      obtain ⟨gz4, hM, hz5, rz6⟩ := hM.up
      have hF := fun w9 e (hb : f w9 = some e) (hn0 : w9 ≠ va) => (rz6 w9 hn0).trans (hF w9 e hb hn0)
      refine lv_iload hx hb dJ6_getChars_ba4f3_118 (lv_at hl 0 rfl) ?_
      exact mm_iret hx hb hlocks hr (Nat.le_of_ble_eq_true rfl) (Nat.le_of_ble_eq_true rfl) hM (by
                refine ⟨congrArg (fun z => some (Value.int (nI z))) (by omega), (upd (upd by1 (e - 1) (nI (48 + w % 10))) (e - 1 - 1) (nI 45)), hz5, (by repeat (first | exact hfit | refine sb_fitU ?_ (fit_nI (by omega)))), (fun j hj => by simp only [upd]; (repeat' split) <;> first | rfl | (exfalso; omega)), (fun j hj => ?_), hF⟩
                have hlen : (nI 45 :: decL w).length = szP w + 1 := by simp [decL_len]
                rw [hlen, hsz] at hj
                unfold decL
                rw [if_pos (by omega), if_pos (by omega)]
                have hjj : j = 0 ∨ j = 1 ∨ j = 2 ∨ j = 3 ∨ j = 4 := by omega
                rcases hjj with rfl | rfl | rfl | rfl | rfl <;> simp only [upd] <;> (repeat' split) <;> first | rfl | (exfalso; omega)) dJ6_getChars_ba4f3_120
    have hsz : szP w = 2 := by unfold szP; (repeat' split) <;> omega
    refine lv_icmp_ge (tgt := 104) hx hb dJ6_getChars_ba4f3_88 (by decide) (fun hq9 => absurd ((sb_nle (a := 9) (b := w) (by omega) (by omega)).mp hq9) (by omega)) (fun _ => ?_)
    refine lv_aload_n hx hb dJ6_getChars_ba4f3_91 rfl (lv_at hl 4 rfl) ?_
    refine lv_iinc (v := (nI (e - 1 - 1))) (lv' := [(5, .int (nI (e - 1 - 1))), (6, .int (nI 1)), (0, .int (-(nI w))), (1, .int (nI e)), (2, .ref va)]) hx hb dJ6_getChars_ba4f3_92 hl (k := 0) rfl (sb_m1 (by omega)) (by decide) rfl (fun ls hl => ?_)
    refine lv_iload hx hb dJ6_getChars_ba4f3_95 (lv_at hl 0 rfl) ?_
    refine va_gets hx hb hE.2.2.2.2.1.1 hM.2 hown (hts (.fieldLink RJ6 87 "java/lang/Integer" "DigitTens" "[B") (List.mem_of_getElem? (i := 2) rfl)) (fun _ h => h) dJ6_getChars_ba4f3_97 ?_
    refine lv_iload_n hx hb dJ6_getChars_ba4f3_100 rfl (lv_at hl 2 rfl) ?_
    refine lv_ineg hx hb dJ6_getChars_ba4f3_101 ?_
    refine mv_top (y := nI w) Int32.neg_neg ?_
    refine va_tb hx hb hE.2.2.2.2.1.2 hM.2 (v := .int (tensF w)) (vp_in_nI (by omega) (by decide)) (by rw [nI_clamp (by omega)]) dJ6_getChars_ba4f3_102 ?_
    refine mv_top (y := nI (48 + w / 10)) rfl ?_
    refine mm_bast hx hb hK hM hz2 (e - 1 - 1) (nb_nI (by omega)) (by omega) (by omega) dJ6_getChars_ba4f3_103 (fun Hp lcs hM => ?_)
    obtain ⟨gz7, hM, hz8, rz9⟩ := hM.up
    have hF := fun w9 e (hb : f w9 = some e) (hn0 : w9 ≠ va) => (rz9 w9 hn0).trans (hF w9 e hb hn0)
    refine lv_iload hx hb dJ6_getChars_ba4f3_104 (lv_at hl 1 rfl) ?_
    refine lv_if_eq (tgt := 118) hx hb dJ6_getChars_ba4f3_106 (by decide) (fun hq9 => absurd hq9 (by decide)) (fun _ => ?_)
    refine lv_aload_n hx hb dJ6_getChars_ba4f3_109 rfl (lv_at hl 4 rfl) ?_
    refine lv_iinc (v := (nI (e - 1 - 1 - 1))) (lv' := [(5, .int (nI (e - 1 - 1 - 1))), (6, .int (nI 1)), (0, .int (-(nI w))), (1, .int (nI e)), (2, .ref va)]) hx hb dJ6_getChars_ba4f3_110 hl (k := 0) rfl (sb_m1 (by omega)) (by decide) rfl (fun ls hl => ?_)
    refine lv_iload hx hb dJ6_getChars_ba4f3_113 (lv_at hl 0 rfl) ?_
    refine lv_bipush (v := (nI 45)) hx hb dJ6_getChars_ba4f3_115 (by decide +kernel) ?_
    refine mm_bast hx hb hK hM hz8 (e - 1 - 1 - 1) (nb_nI (by omega)) (by omega) (by omega) dJ6_getChars_ba4f3_117 (fun Hp lcs hM => ?_)
    obtain ⟨gz10, hM, hz11, rz12⟩ := hM.up
    have hF := fun w9 e (hb : f w9 = some e) (hn0 : w9 ≠ va) => (rz12 w9 hn0).trans (hF w9 e hb hn0)
    refine lv_iload hx hb dJ6_getChars_ba4f3_118 (lv_at hl 0 rfl) ?_
    exact mm_iret hx hb hlocks hr (Nat.le_of_ble_eq_true rfl) (Nat.le_of_ble_eq_true rfl) hM (by
            refine ⟨congrArg (fun z => some (Value.int (nI z))) (by omega), (upd (upd (upd by1 (e - 1) (nI (48 + w % 10))) (e - 1 - 1) (nI (48 + w / 10))) (e - 1 - 1 - 1) (nI 45)), hz11, (by repeat (first | exact hfit | refine sb_fitU ?_ (fit_nI (by omega)))), (fun j hj => by simp only [upd]; (repeat' split) <;> first | rfl | (exfalso; omega)), (fun j hj => ?_), hF⟩
            have hlen : (nI 45 :: decL w).length = szP w + 1 := by simp [decL_len]
            rw [hlen, hsz] at hj
            unfold decL
            rw [if_pos (by omega), if_neg (by omega)]
            have hjj : j = 0 ∨ j = 1 ∨ j = 2 ∨ j = 3 ∨ j = 4 := by omega
            rcases hjj with rfl | rfl | rfl | rfl | rfl <;> simp only [upd] <;> (repeat' split) <;> first | rfl | (exfalso; omega)) dJ6_getChars_ba4f3_120
  have hsz3 := szP_3 hw100
  refine lv_icmp_gt (tgt := 72) hx hb dJ6_getChars_ba4f3_25 (by decide) (fun hq9 => absurd ((sb_nlt (a := 100) (b := w) (by omega) (by omega)).mp hq9) hw100) (fun _ => ?_)
  refine lv_iload_n hx hb dJ6_getChars_ba4f3_28 rfl (lv_at hl 2 rfl) ?_
  refine lv_bipush (v := (nI 100)) hx hb dJ6_getChars_ba4f3_29 (by decide +kernel) ?_
  refine lv_idiv hx hb dJ6_getChars_ba4f3_31 (by decide) ?_
  refine mv_top (y := (-(nI (w / 100)))) (sb_ndiv (by omega)) ?_
  refine lv_istore_n (lv' := [(3, .int (-(nI (w / 100)))), (6, .int (nI 1)), (5, .int (nI e)), (0, .int (-(nI w))), (1, .int (nI e)), (2, .ref va)]) hx hb dJ6_getChars_ba4f3_32 rfl hl (by decide) rfl (fun ls hl => ?_)
  refine lv_iload_n hx hb dJ6_getChars_ba4f3_33 rfl (lv_at hl 0 rfl) ?_
  refine lv_bipush (v := (nI 100)) hx hb dJ6_getChars_ba4f3_34 (by decide +kernel) ?_
  refine lv_imul hx hb dJ6_getChars_ba4f3_36 ?_
  refine lv_iload_n hx hb dJ6_getChars_ba4f3_37 rfl (lv_at hl 3 rfl) ?_
  refine lv_isub hx hb dJ6_getChars_ba4f3_38 ?_
  refine mv_top (y := nI (w % 100)) (sb_nrem (by omega)) ?_
  refine lv_istore (lv' := [(4, .int (nI (w % 100))), (3, .int (-(nI (w / 100)))), (6, .int (nI 1)), (5, .int (nI e)), (0, .int (-(nI w))), (1, .int (nI e)), (2, .ref va)]) hx hb dJ6_getChars_ba4f3_39 hl (by decide) rfl (fun ls hl => ?_)
  refine lv_iload_n hx hb dJ6_getChars_ba4f3_41 rfl (lv_at hl 1 rfl) ?_
  refine lv_istore_n (lv' := [(0, .int (-(nI (w / 100)))), (4, .int (nI (w % 100))), (3, .int (-(nI (w / 100)))), (6, .int (nI 1)), (5, .int (nI e)), (1, .int (nI e)), (2, .ref va)]) hx hb dJ6_getChars_ba4f3_42 rfl hl (by decide) rfl (fun ls hl => ?_)
  refine lv_aload_n hx hb dJ6_getChars_ba4f3_43 rfl (lv_at hl 6 rfl) ?_
  refine lv_iinc (v := (nI (e - 1))) (lv' := [(5, .int (nI (e - 1))), (0, .int (-(nI (w / 100)))), (4, .int (nI (w % 100))), (3, .int (-(nI (w / 100)))), (6, .int (nI 1)), (1, .int (nI e)), (2, .ref va)]) hx hb dJ6_getChars_ba4f3_44 hl (k := 4) rfl (sb_m1 (by omega)) (by decide) rfl (fun ls hl => ?_)
  refine lv_iload hx hb dJ6_getChars_ba4f3_47 (lv_at hl 0 rfl) ?_
  refine va_gets hx hb hE.2.2.2.1.1 hM.2 hown (hts (.fieldLink RJ6 83 "java/lang/Integer" "DigitOnes" "[B") (List.mem_of_getElem? (i := 1) rfl)) (fun _ h => h) dJ6_getChars_ba4f3_49 ?_
  refine lv_iload hx hb dJ6_getChars_ba4f3_52 (lv_at hl 2 rfl) ?_
  refine va_tb hx hb hE.2.2.2.1.2 hM.2 (v := .int (onesF (w % 100))) (vp_in_nI (by omega) (by decide)) (by rw [nI_clamp (by omega)]) dJ6_getChars_ba4f3_54 ?_
  refine mv_top (y := nI (48 + w % 100 % 10)) rfl ?_
  refine mm_bast hx hb hK hM h_va (e - 1) (nb_nI (by omega)) (by omega) (by omega) dJ6_getChars_ba4f3_55 (fun Hp lcs hM => ?_)
  obtain ⟨gz13, hM, hz14, rz15⟩ := hM.up
  have hF := fun w9 e (hb : f w9 = some e) (hn0 : w9 ≠ va) => (rz15 w9 hn0).trans (hF w9 e hb hn0)
  refine lv_aload_n hx hb dJ6_getChars_ba4f3_56 rfl (lv_at hl 6 rfl) ?_
  refine lv_iinc (v := (nI (e - 1 - 1))) (lv' := [(5, .int (nI (e - 1 - 1))), (0, .int (-(nI (w / 100)))), (4, .int (nI (w % 100))), (3, .int (-(nI (w / 100)))), (6, .int (nI 1)), (1, .int (nI e)), (2, .ref va)]) hx hb dJ6_getChars_ba4f3_57 hl (k := 0) rfl (sb_m1 (by omega)) (by decide) rfl (fun ls hl => ?_)
  refine lv_iload hx hb dJ6_getChars_ba4f3_60 (lv_at hl 0 rfl) ?_
  refine va_gets hx hb hE.2.2.2.2.1.1 hM.2 hown (hts (.fieldLink RJ6 87 "java/lang/Integer" "DigitTens" "[B") (List.mem_of_getElem? (i := 2) rfl)) (fun _ h => h) dJ6_getChars_ba4f3_62 ?_
  refine lv_iload hx hb dJ6_getChars_ba4f3_65 (lv_at hl 2 rfl) ?_
  refine va_tb hx hb hE.2.2.2.2.1.2 hM.2 (v := .int (tensF (w % 100))) (vp_in_nI (by omega) (by decide)) (by rw [nI_clamp (by omega)]) dJ6_getChars_ba4f3_67 ?_
  refine mv_top (y := nI (48 + w % 100 / 10)) rfl ?_
  refine mm_bast hx hb hK hM hz14 (e - 1 - 1) (nb_nI (by omega)) (by omega) (by omega) dJ6_getChars_ba4f3_68 (fun Hp lcs hM => ?_)
  obtain ⟨gz16, hM, hz17, rz18⟩ := hM.up
  have hF := fun w9 e (hb : f w9 = some e) (hn0 : w9 ≠ va) => (rz18 w9 hn0).trans (hF w9 e hb hn0)
  refine lv_goto (tgt := 22) hx hb dJ6_getChars_ba4f3_69 (by decide) ?_
  refine lv_iload_n hx hb dJ6_getChars_ba4f3_22 rfl (lv_at hl 1 rfl) ?_
  refine lv_bipush (v := (-100)) hx hb dJ6_getChars_ba4f3_23 (by decide +kernel) ?_
  refine lv_icmp_gt (tgt := 72) hx hb dJ6_getChars_ba4f3_25 (by decide) (fun _ => ?_) (fun hq9 => absurd ((sb_nlt (a := 100) (b := w / 100) (by omega) (by omega)).mpr (by omega)) hq9)
  refine lv_aload_n hx hb dJ6_getChars_ba4f3_72 rfl (lv_at hl 6 rfl) ?_
  refine lv_iinc (v := (nI (e - 1 - 1 - 1))) (lv' := [(5, .int (nI (e - 1 - 1 - 1))), (0, .int (-(nI (w / 100)))), (4, .int (nI (w % 100))), (3, .int (-(nI (w / 100)))), (6, .int (nI 1)), (1, .int (nI e)), (2, .ref va)]) hx hb dJ6_getChars_ba4f3_73 hl (k := 0) rfl (sb_m1 (by omega)) (by decide) rfl (fun ls hl => ?_)
  refine lv_iload hx hb dJ6_getChars_ba4f3_76 (lv_at hl 0 rfl) ?_
  refine va_gets hx hb hE.2.2.2.1.1 hM.2 hown (hts (.fieldLink RJ6 83 "java/lang/Integer" "DigitOnes" "[B") (List.mem_of_getElem? (i := 1) rfl)) (fun _ h => h) dJ6_getChars_ba4f3_78 ?_
  refine lv_iload_n hx hb dJ6_getChars_ba4f3_81 rfl (lv_at hl 1 rfl) ?_
  refine lv_ineg hx hb dJ6_getChars_ba4f3_82 ?_
  refine mv_top (y := nI (w / 100)) Int32.neg_neg ?_
  refine va_tb hx hb hE.2.2.2.1.2 hM.2 (v := .int (onesF (w / 100))) (vp_in_nI (by omega) (by decide)) (by rw [nI_clamp (by omega)]) dJ6_getChars_ba4f3_83 ?_
  refine mv_top (y := nI (48 + (w / 100) % 10)) rfl ?_
  refine mm_bast hx hb hK hM hz17 (e - 1 - 1 - 1) (nb_nI (by omega)) (by omega) (by omega) dJ6_getChars_ba4f3_84 (fun Hp lcs hM => ?_)
  obtain ⟨gz19, hM, hz20, rz21⟩ := hM.up
  have hF := fun w9 e (hb : f w9 = some e) (hn0 : w9 ≠ va) => (rz21 w9 hn0).trans (hF w9 e hb hn0)
  refine lv_iload_n hx hb dJ6_getChars_ba4f3_85 rfl (lv_at hl 1 rfl) ?_
  refine lv_bipush (v := (-9)) hx hb dJ6_getChars_ba4f3_86 (by decide +kernel) ?_
  by_cases hw10 : (w / 100) < 10
  · have hsz : szP w = 3 := by unfold szP; (repeat' split) <;> omega
    refine lv_icmp_ge (tgt := 104) hx hb dJ6_getChars_ba4f3_88 (by decide) (fun _ => ?_) (fun hq9 => absurd ((sb_nle (a := 9) (b := (w / 100)) (by omega) (by omega)).mpr (by omega)) hq9)
    refine lv_iload hx hb dJ6_getChars_ba4f3_104 (lv_at hl 4 rfl) ?_
    refine lv_if_eq (tgt := 118) hx hb dJ6_getChars_ba4f3_106 (by decide) (fun hq9 => absurd hq9 (by decide)) (fun _ => ?_)
    refine lv_aload_n hx hb dJ6_getChars_ba4f3_109 rfl (lv_at hl 6 rfl) ?_
    refine lv_iinc (v := (nI (e - 1 - 1 - 1 - 1))) (lv' := [(5, .int (nI (e - 1 - 1 - 1 - 1))), (0, .int (-(nI (w / 100)))), (4, .int (nI (w % 100))), (3, .int (-(nI (w / 100)))), (6, .int (nI 1)), (1, .int (nI e)), (2, .ref va)]) hx hb dJ6_getChars_ba4f3_110 hl (k := 0) rfl (sb_m1 (by omega)) (by decide) rfl (fun ls hl => ?_)
    refine lv_iload hx hb dJ6_getChars_ba4f3_113 (lv_at hl 0 rfl) ?_
    refine lv_bipush (v := (nI 45)) hx hb dJ6_getChars_ba4f3_115 (by decide +kernel) ?_
    refine mm_bast hx hb hK hM hz20 (e - 1 - 1 - 1 - 1) (nb_nI (by omega)) (by omega) (by omega) dJ6_getChars_ba4f3_117 (fun Hp lcs hM => ?_)
    obtain ⟨gz22, hM, hz23, rz24⟩ := hM.up
    have hF := fun w9 e (hb : f w9 = some e) (hn0 : w9 ≠ va) => (rz24 w9 hn0).trans (hF w9 e hb hn0)
    refine lv_iload hx hb dJ6_getChars_ba4f3_118 (lv_at hl 0 rfl) ?_
    exact mm_iret hx hb hlocks hr (Nat.le_of_ble_eq_true rfl) (Nat.le_of_ble_eq_true rfl) hM (by
            refine ⟨congrArg (fun z => some (Value.int (nI z))) (by omega), (upd (upd (upd (upd by1 (e - 1) (nI (48 + w % 100 % 10))) (e - 1 - 1) (nI (48 + w % 100 / 10))) (e - 1 - 1 - 1) (nI (48 + (w / 100) % 10))) (e - 1 - 1 - 1 - 1) (nI 45)), hz23, (by repeat (first | exact hfit | refine sb_fitU ?_ (fit_nI (by omega)))), (fun j hj => by simp only [upd]; (repeat' split) <;> first | rfl | (exfalso; omega)), (fun j hj => ?_), hF⟩
            have hlen : (nI 45 :: decL w).length = szP w + 1 := by simp [decL_len]
            rw [hlen, hsz] at hj
            unfold decL
            rw [if_neg (by omega), if_pos (by omega)]
            have hjj : j = 0 ∨ j = 1 ∨ j = 2 ∨ j = 3 ∨ j = 4 := by omega
            rcases hjj with rfl | rfl | rfl | rfl | rfl <;> simp only [upd] <;> (repeat' split) <;> first | rfl | (exfalso; omega)) dJ6_getChars_ba4f3_120
  have hsz : szP w = 4 := by unfold szP; (repeat' split) <;> omega
  refine lv_icmp_ge (tgt := 104) hx hb dJ6_getChars_ba4f3_88 (by decide) (fun hq9 => absurd ((sb_nle (a := 9) (b := (w / 100)) (by omega) (by omega)).mp hq9) (by omega)) (fun _ => ?_)
  refine lv_aload_n hx hb dJ6_getChars_ba4f3_91 rfl (lv_at hl 6 rfl) ?_
  refine lv_iinc (v := (nI (e - 1 - 1 - 1 - 1))) (lv' := [(5, .int (nI (e - 1 - 1 - 1 - 1))), (0, .int (-(nI (w / 100)))), (4, .int (nI (w % 100))), (3, .int (-(nI (w / 100)))), (6, .int (nI 1)), (1, .int (nI e)), (2, .ref va)]) hx hb dJ6_getChars_ba4f3_92 hl (k := 0) rfl (sb_m1 (by omega)) (by decide) rfl (fun ls hl => ?_)
  refine lv_iload hx hb dJ6_getChars_ba4f3_95 (lv_at hl 0 rfl) ?_
  refine va_gets hx hb hE.2.2.2.2.1.1 hM.2 hown (hts (.fieldLink RJ6 87 "java/lang/Integer" "DigitTens" "[B") (List.mem_of_getElem? (i := 2) rfl)) (fun _ h => h) dJ6_getChars_ba4f3_97 ?_
  refine lv_iload_n hx hb dJ6_getChars_ba4f3_100 rfl (lv_at hl 1 rfl) ?_
  refine lv_ineg hx hb dJ6_getChars_ba4f3_101 ?_
  refine mv_top (y := nI (w / 100)) Int32.neg_neg ?_
  refine va_tb hx hb hE.2.2.2.2.1.2 hM.2 (v := .int (tensF (w / 100))) (vp_in_nI (by omega) (by decide)) (by rw [nI_clamp (by omega)]) dJ6_getChars_ba4f3_102 ?_
  refine mv_top (y := nI (48 + (w / 100) / 10)) rfl ?_
  refine mm_bast hx hb hK hM hz20 (e - 1 - 1 - 1 - 1) (nb_nI (by omega)) (by omega) (by omega) dJ6_getChars_ba4f3_103 (fun Hp lcs hM => ?_)
  obtain ⟨gz25, hM, hz26, rz27⟩ := hM.up
  have hF := fun w9 e (hb : f w9 = some e) (hn0 : w9 ≠ va) => (rz27 w9 hn0).trans (hF w9 e hb hn0)
  refine lv_iload hx hb dJ6_getChars_ba4f3_104 (lv_at hl 4 rfl) ?_
  refine lv_if_eq (tgt := 118) hx hb dJ6_getChars_ba4f3_106 (by decide) (fun hq9 => absurd hq9 (by decide)) (fun _ => ?_)
  refine lv_aload_n hx hb dJ6_getChars_ba4f3_109 rfl (lv_at hl 6 rfl) ?_
  refine lv_iinc (v := (nI (e - 1 - 1 - 1 - 1 - 1))) (lv' := [(5, .int (nI (e - 1 - 1 - 1 - 1 - 1))), (0, .int (-(nI (w / 100)))), (4, .int (nI (w % 100))), (3, .int (-(nI (w / 100)))), (6, .int (nI 1)), (1, .int (nI e)), (2, .ref va)]) hx hb dJ6_getChars_ba4f3_110 hl (k := 0) rfl (sb_m1 (by omega)) (by decide) rfl (fun ls hl => ?_)
  refine lv_iload hx hb dJ6_getChars_ba4f3_113 (lv_at hl 0 rfl) ?_
  refine lv_bipush (v := (nI 45)) hx hb dJ6_getChars_ba4f3_115 (by decide +kernel) ?_
  refine mm_bast hx hb hK hM hz26 (e - 1 - 1 - 1 - 1 - 1) (nb_nI (by omega)) (by omega) (by omega) dJ6_getChars_ba4f3_117 (fun Hp lcs hM => ?_)
  obtain ⟨gz28, hM, hz29, rz30⟩ := hM.up
  have hF := fun w9 e (hb : f w9 = some e) (hn0 : w9 ≠ va) => (rz30 w9 hn0).trans (hF w9 e hb hn0)
  refine lv_iload hx hb dJ6_getChars_ba4f3_118 (lv_at hl 0 rfl) ?_
  exact mm_iret hx hb hlocks hr (Nat.le_of_ble_eq_true rfl) (Nat.le_of_ble_eq_true rfl) hM (by
        refine ⟨congrArg (fun z => some (Value.int (nI z))) (by omega), (upd (upd (upd (upd (upd by1 (e - 1) (nI (48 + w % 100 % 10))) (e - 1 - 1) (nI (48 + w % 100 / 10))) (e - 1 - 1 - 1) (nI (48 + (w / 100) % 10))) (e - 1 - 1 - 1 - 1) (nI (48 + (w / 100) / 10))) (e - 1 - 1 - 1 - 1 - 1) (nI 45)), hz29, (by repeat (first | exact hfit | refine sb_fitU ?_ (fit_nI (by omega)))), (fun j hj => by simp only [upd]; (repeat' split) <;> first | rfl | (exfalso; omega)), (fun j hj => ?_), hF⟩
        have hlen : (nI 45 :: decL w).length = szP w + 1 := by simp [decL_len]
        rw [hlen, hsz] at hj
        unfold decL
        rw [if_neg (by omega), if_neg (by omega)]
        have hjj : j = 0 ∨ j = 1 ∨ j = 2 ∨ j = 3 ∨ j = 4 := by omega
        rcases hjj with rfl | rfl | rfl | rfl | rfl <;> simp only [upd] <;> (repeat' split) <;> first | rfl | (exfalso; omega)) dJ6_getChars_ba4f3_120
theorem j6_size (l : Launch) (G : mG) (f : mE) {x : Int32} {L : List Int32} (h : isDec x L) : mC l G yJ6_stringSize_0f7a4 wsJ6_stringSize_0f7a4 ({ frames := 0, cells := 0, slots := 0, locals := 0 } : Room) f [.int x] (fun v f1 => v = some (.int (nI L.length)) ∧ f = f1) 0 0 := by
  rcases h with ⟨w, h9, rfl, rfl⟩ | ⟨w, h1, h9, rfl, rfl⟩
  · rw [decL_len]; exact j6_sizeP l G f w h9
  · rw [List.length_cons, decL_len]; exact j6_sizeN l G f w h1 h9
theorem j6_chars (l : Launch) (G : mG) {f : mE} {va cap ct : Nat} {by1 : Nat → Int32} (h_va : f va = some (mB G cap by1)) (hfit : sb_Fit by1) {x : Int32} {L : List Int32} (h : isDec x L) (hq : ct + L.length ≤ cap) (hc2 : cap ≤ 32000) : mC l G yJ6_getChars_ba4f3 wsJ6_getChars_ba4f3 ({ frames := 0, cells := 0, slots := 0, locals := 0 } : Room) f [.int x, .int (nI (ct + L.length)), .ref va] (fun v f1 => v = some (.int (nI ct)) ∧ ∃ g1 : Nat → Int32, f1 va = some (mB G cap g1) ∧ sb_Fit g1 ∧ (∀ j, j < ct → g1 j = by1 j) ∧ (∀ j, j < L.length → g1 (ct + j) = L.getD j 0) ∧ ∀ b e, f b = some e → b ≠ va → f1 b = some e) 0 0 := by
  rcases h with ⟨w, h9, rfl, rfl⟩ | ⟨w, h1, h9, rfl, rfl⟩
  · exact j6_charsP l G h_va hfit w h9 _ (by rw [decL_len]) hq hc2
  · exact j6_charsN l G h_va hfit w h1 h9 _ (by rw [List.length_cons, decL_len]) hq hc2
set_option maxHeartbeats 4000000 in
set_option maxRecDepth 100000 in
theorem j5_appI0 (l : Launch) (G : mG) {f : mE} {sb va ct cap : Nat} {ml : Int32} {by1 : Nat → Int32} (h_sb : f sb = some (.inr (0, [.ref va, .int (nI 0), .int ml, .int (nI ct)]))) (h_va : f va = some (mB G cap by1)) {x : Int32} {L : List Int32} (hd : isDec x L) (hL : L.length ≤ 10) (hfit : sb_Fit by1) (hq : ct + L.length ≤ cap) (hc2 : cap ≤ 32000) : mC l G yJ5_append_c97b9 wsJ5_append_c97b9 ({ frames := 4, cells := 0, slots := 0, locals := 91 } : Room) f [.ref sb, .int x] (fun v f1 => v = some (va_rf (some sb)) ∧ f1 sb = some (.inr (0, [.ref va, .int (nI 0), .int ml, .int (nI (ct + L.length))])) ∧ (∃ g1 : Nat → Int32, f1 va = some (mB G cap g1) ∧ sb_Fit g1 ∧ (∀ j, j < ct → g1 j = by1 j) ∧ ∀ j, j < L.length → g1 (ct + j) = L.getD j 0) ∧ ∀ b e, f b = some e → b ≠ sb → b ≠ va → f1 b = some e) 0 0 := by
  refine mC.ofF (cc := cJ5_append_c97b9) (maxL := 4) (ret := (some (.object "java/lang/AbstractStringBuilder"))) (by decide +kernel) rfl (Nat.le_of_ble_eq_true rfl) ?_
  intro pgm env s mt args below meth c A ls hx hb hml hr hlocks hown hname hts hK hE hA hM hl
  have hl : lv_has ls 4 [(0, .ref sb), (1, .int x)] := hl
  have hF := fun w9 e (hb : f w9 = some e) (_ : w9 ≠ sb) (_ : w9 ≠ va) => hb
  refine lv_aload_n hx hb dJ5_append_c97b9_0 rfl (lv_at hl 0 rfl) ?_
  refine mm_get (C := RJ4) (T := TJ4) (N := 4) (k := 3) hx hb hts (fun _ h => List.mem_cons_of_mem _ (List.mem_append_right _ h)) hown hK hM h_sb rfl (by decide) (hts (.fieldLink RJ5 79 "java/lang/AbstractStringBuilder" "count" "I") (List.mem_of_getElem? (i := 1) rfl)) rfl rfl dJ5_append_c97b9_1 ?_
  refine lv_istore_n (lv' := [(2, .int (nI ct)), (0, .ref sb), (1, .int x)]) hx hb dJ5_append_c97b9_4 rfl hl (by decide) rfl (fun ls hl => ?_)
  refine lv_iload_n hx hb dJ5_append_c97b9_5 rfl (lv_at hl 0 rfl) ?_
  refine lv_iload_n hx hb dJ5_append_c97b9_6 rfl (lv_at hl 2 rfl) ?_
  refine mm_S (As := [.int x]) (rest := [.int (nI ct)]) ⟨hx, hb, hml, hown, hts⟩ (j6_size l G _ hd) (va_cwS 1 hts gJ5_append_c97b9_J6_stringSize_0f7a4 rfl rfl rfl (by decide +kernel) ⟨Nat.le_of_ble_eq_true rfl, Nat.le_of_ble_eq_true rfl⟩) hK hE hA hM rfl hl.1 rfl (Nat.le_of_ble_eq_true rfl) dJ5_append_c97b9_7 ⟨Nat.le_of_ble_eq_true rfl, Nat.le_of_ble_eq_true rfl⟩ (fun v f1 Hp lcs hp hM => ?_)
  obtain ⟨rfl, hf⟩ := hp; subst hf
  refine ln_iadd ct L.length hx hb dJ5_append_c97b9_10 ?_
  refine lv_istore_n (lv' := [(3, .int (nI (ct + L.length))), (2, .int (nI ct)), (0, .ref sb), (1, .int x)]) hx hb dJ5_append_c97b9_11 rfl hl (by decide) rfl (fun ls hl => ?_)
  refine lv_aload_n hx hb dJ5_append_c97b9_12 rfl (lv_at hl 2 rfl) ?_
  refine lv_iload_n hx hb dJ5_append_c97b9_13 rfl (lv_at hl 0 rfl) ?_
  refine mm_U (As := [.int (nI (ct + L.length))]) (rest := []) ⟨hx, hb, hml, hown, hts⟩ (j5_ensure0 l G h_sb h_va (ct + L.length) (by omega) (by omega)) (va_cwU 1 hts gJ5_append_c97b9_J5_ensureCapacityInternal_d00df_u100J4 rfl rfl rfl rfl (by decide +kernel) ⟨Nat.le_of_ble_eq_true rfl, Nat.le_of_ble_eq_true rfl⟩) hK hE hA hM (mm_recv hK hM h_sb (q := (RJ4, TJ4, 4)) rfl) rfl hl.1 rfl (Nat.le_of_ble_eq_true rfl) dJ5_append_c97b9_14 ⟨Nat.le_of_ble_eq_true rfl, Nat.le_of_ble_eq_true rfl⟩ (fun v f1 Hp lcs hp hM => ?_)
  obtain ⟨rfl, hf⟩ := hp; subst hf
  refine lv_aload_n hx hb dJ5_append_c97b9_17 rfl (lv_at hl 2 rfl) ?_
  refine mm_U (As := []) (rest := []) ⟨hx, hb, hml, hown, hts⟩ (j5_isLatin1 l G h_sb h_va) (va_cwU 0 hts gJ5_append_c97b9_J5_isLatin1_aae02_u83J4 rfl rfl rfl rfl (by decide +kernel) ⟨Nat.le_of_ble_eq_true rfl, Nat.le_of_ble_eq_true rfl⟩) hK hE hA hM (mm_recv hK hM h_sb (q := (RJ4, TJ4, 4)) rfl) rfl hl.1 rfl (Nat.le_of_ble_eq_true rfl) dJ5_append_c97b9_18 ⟨Nat.le_of_ble_eq_true rfl, Nat.le_of_ble_eq_true rfl⟩ (fun v f1 Hp lcs hp hM => ?_)
  obtain ⟨rfl, hf⟩ := hp; subst hf
  refine lv_if_eq (tgt := 37) hx hb dJ5_append_c97b9_21 (by decide) (fun hq9 => absurd hq9 (by decide)) (fun _ => ?_)
  refine lv_iload_n hx hb dJ5_append_c97b9_24 rfl (lv_at hl 3 rfl) ?_
  refine lv_iload_n hx hb dJ5_append_c97b9_25 rfl (lv_at hl 0 rfl) ?_
  refine lv_aload_n hx hb dJ5_append_c97b9_26 rfl (lv_at hl 2 rfl) ?_
  refine mm_get (C := RJ4) (T := TJ4) (N := 4) (k := 0) hx hb hts (fun _ h => List.mem_cons_of_mem _ (List.mem_append_right _ h)) hown hK hM h_sb rfl (by decide) (hts (.fieldLink RJ5 15 "java/lang/AbstractStringBuilder" "value" "[B") (List.mem_of_getElem? (i := 2) rfl)) rfl rfl dJ5_append_c97b9_27 ?_
  refine mm_S (As := [.int x, .int (nI (ct + L.length)), .ref va]) (rest := []) ⟨hx, hb, hml, hown, hts⟩ (j6_chars l G h_va hfit hd (by omega) (by omega)) (va_cwS 3 hts gJ5_append_c97b9_J6_getChars_ba4f3 rfl rfl rfl (by decide +kernel) ⟨Nat.le_of_ble_eq_true rfl, Nat.le_of_ble_eq_true rfl⟩) hK hE hA hM rfl hl.1 rfl (Nat.le_of_ble_eq_true rfl) dJ5_append_c97b9_30 ⟨Nat.le_of_ble_eq_true rfl, Nat.le_of_ble_eq_true rfl⟩ (fun v gz1 Hp lcs hp hM => ?_)
  obtain ⟨rfl, g1, hz2, hfit1, hlo1, hhi1, rz3⟩ := hp
  have hz4 := rz3 _ _ h_sb (ne_oi h_sb h_va)
  have hF := fun w9 e (hb : f w9 = some e) (hn0 : w9 ≠ sb) (hn1 : w9 ≠ va) => rz3 w9 e (hF w9 e hb hn0 hn1) hn1
  refine lv_pop hx hb dJ5_append_c97b9_33 rfl ?_
  refine lv_goto (tgt := 48) hx hb dJ5_append_c97b9_34 (by decide) ?_
  refine lv_aload_n hx hb dJ5_append_c97b9_48 rfl (lv_at hl 2 rfl) ?_
  refine lv_iload_n hx hb dJ5_append_c97b9_49 rfl (lv_at hl 0 rfl) ?_
  refine mm_put (C := RJ4) (T := TJ4) (N := 4) (k := 3) hx hb hts (fun _ h => List.mem_cons_of_mem _ (List.mem_append_right _ h)) tyJ4 tyJ4_ok nmJ4 hown hK hM hz4 rfl (by decide) (hts (.fieldLink RJ5 79 "java/lang/AbstractStringBuilder" "count" "I") (List.mem_of_getElem? (i := 1) rfl)) rfl rfl rfl rfl (Nat.le_of_ble_eq_true rfl) dJ5_append_c97b9_50 (fun Hp lcs hM => ?_)
  obtain ⟨gz5, hM, hz6, rz7⟩ := hM.up
  have hz8 := (rz7 _ (ne_oi hz4 hz2).symm).trans hz2
  have hF := fun w9 e (hb : f w9 = some e) (hn0 : w9 ≠ sb) (hn1 : w9 ≠ va) => (rz7 w9 hn0).trans (hF w9 e hb hn0 hn1)
  refine lv_aload_n hx hb dJ5_append_c97b9_53 rfl (lv_at hl 2 rfl) ?_
  exact mm_aret (r := (some sb)) hx hb hlocks hr (by first | exact Or.inl ⟨_, rfl⟩ | exact Or.inr ⟨_, rfl⟩) (Nat.le_of_ble_eq_true rfl) (Nat.le_of_ble_eq_true rfl) hM (⟨rfl, hz6, ⟨g1, hz8, hfit1, hlo1, hhi1⟩, hF⟩) dJ5_append_c97b9_54
set_option maxHeartbeats 4000000 in
set_option maxRecDepth 100000 in
theorem j5_appI1 (l : Launch) (G : mG) {f : mE} {sb va ct cap : Nat} {ml : Int32} {by1 : Nat → Int32} (h_sb : f sb = some (.inr (0, [.ref va, .int (nI 0), .int ml, .int (nI ct)]))) (h_va : f va = some (mB G cap by1)) {x : Int32} {L : List Int32} (hd : isDec x L) (hL : L.length ≤ 10) (hfit : sb_Fit by1) (hq : cap < ct + L.length) (hct : ct ≤ cap) (hc : 16 ≤ cap) (hc2 : cap ≤ 15000) : mC l G yJ5_append_c97b9 wsJ5_append_c97b9 ({ frames := 4, cells := (cap + 2), slots := (2 * (cap + 2)), locals := 91 } : Room) f [.ref sb, .int x] (fun v f1 => v = some (va_rf (some sb)) ∧ ∃ z : Nat, f z = none ∧ f1 sb = some (.inr (0, [.ref z, .int (nI 0), .int ml, .int (nI (ct + L.length))])) ∧ (∃ g1 : Nat → Int32, f1 z = some (mB G (2 * cap + 2) g1) ∧ sb_Fit g1 ∧ (∀ j, j < ct → g1 j = by1 j) ∧ ∀ j, j < L.length → g1 (ct + j) = L.getD j 0) ∧ ∀ b e, f b = some e → b ≠ sb → b ≠ va → f1 b = some e) (cap + 2) (2 * (cap + 2)) := by
  refine mC.ofF (cc := cJ5_append_c97b9) (maxL := 4) (ret := (some (.object "java/lang/AbstractStringBuilder"))) (by decide +kernel) rfl (Nat.le_of_ble_eq_true rfl) ?_
  intro pgm env s mt args below meth c A ls hx hb hml hr hlocks hown hname hts hK hE hA hM hl
  have hl : lv_has ls 4 [(0, .ref sb), (1, .int x)] := hl
  have hF := fun w9 e (hb : f w9 = some e) (_ : w9 ≠ sb) (_ : w9 ≠ va) => hb
  refine lv_aload_n hx hb dJ5_append_c97b9_0 rfl (lv_at hl 0 rfl) ?_
  refine mm_get (C := RJ4) (T := TJ4) (N := 4) (k := 3) hx hb hts (fun _ h => List.mem_cons_of_mem _ (List.mem_append_right _ h)) hown hK hM h_sb rfl (by decide) (hts (.fieldLink RJ5 79 "java/lang/AbstractStringBuilder" "count" "I") (List.mem_of_getElem? (i := 1) rfl)) rfl rfl dJ5_append_c97b9_1 ?_
  refine lv_istore_n (lv' := [(2, .int (nI ct)), (0, .ref sb), (1, .int x)]) hx hb dJ5_append_c97b9_4 rfl hl (by decide) rfl (fun ls hl => ?_)
  refine lv_iload_n hx hb dJ5_append_c97b9_5 rfl (lv_at hl 0 rfl) ?_
  refine lv_iload_n hx hb dJ5_append_c97b9_6 rfl (lv_at hl 2 rfl) ?_
  refine mm_S (As := [.int x]) (rest := [.int (nI ct)]) ⟨hx, hb, hml, hown, hts⟩ (j6_size l G _ hd) (va_cwS 1 hts gJ5_append_c97b9_J6_stringSize_0f7a4 rfl rfl rfl (by decide +kernel) ⟨(by first | exact Nat.le_of_ble_eq_true rfl | omega | (dsimp only; omega)), (by first | exact Nat.le_of_ble_eq_true rfl | omega | (dsimp only; omega))⟩) hK hE hA hM rfl hl.1 rfl (by first | exact Nat.le_of_ble_eq_true rfl | omega | (dsimp only; omega)) dJ5_append_c97b9_7 ⟨(by first | exact Nat.le_of_ble_eq_true rfl | omega | (dsimp only; omega)), (by first | exact Nat.le_of_ble_eq_true rfl | omega | (dsimp only; omega))⟩ (fun v f1 Hp lcs hp hM => ?_)
  obtain ⟨rfl, hf⟩ := hp; subst hf
  refine ln_iadd ct L.length hx hb dJ5_append_c97b9_10 ?_
  refine lv_istore_n (lv' := [(3, .int (nI (ct + L.length))), (2, .int (nI ct)), (0, .ref sb), (1, .int x)]) hx hb dJ5_append_c97b9_11 rfl hl (by decide) rfl (fun ls hl => ?_)
  refine lv_aload_n hx hb dJ5_append_c97b9_12 rfl (lv_at hl 2 rfl) ?_
  refine lv_iload_n hx hb dJ5_append_c97b9_13 rfl (lv_at hl 0 rfl) ?_
  refine mm_U (As := [.int (nI (ct + L.length))]) (rest := []) ⟨hx, hb, hml, hown, hts⟩ (j5_ensure1 l G h_sb h_va hfit (ct + L.length) (by omega) (by omega) (by omega) (by omega)) (va_cwU 1 hts gJ5_append_c97b9_J5_ensureCapacityInternal_d00df_u100J4 rfl rfl rfl rfl (by decide +kernel) ⟨(by first | exact Nat.le_of_ble_eq_true rfl | omega | (dsimp only; omega)), (by first | exact Nat.le_of_ble_eq_true rfl | omega | (dsimp only; omega))⟩) hK hE hA hM (mm_recv hK hM h_sb (q := (RJ4, TJ4, 4)) rfl) rfl hl.1 rfl (by first | exact Nat.le_of_ble_eq_true rfl | omega | (dsimp only; omega)) dJ5_append_c97b9_14 ⟨(by first | exact Nat.le_of_ble_eq_true rfl | omega | (dsimp only; omega)), (by first | exact Nat.le_of_ble_eq_true rfl | omega | (dsimp only; omega))⟩ (fun v gz1 Hp lcs hp hM => ?_)
  obtain ⟨rfl, qz2, nz3, hz4, hz5, rz6⟩ := hp
  have fo7 : f qz2 = none := fresh_of (fun e hb => hF qz2 e hb (ne_none h_sb nz3).symm (ne_none h_va nz3).symm) nz3
  have ne8 := ne_none h_sb nz3
  have ne9 := ne_none h_va nz3
  have hz10 := rz6 _ _ h_va (ne_oi h_sb h_va).symm
  have hF := fun w9 e (hb : f w9 = some e) (hn0 : w9 ≠ sb) (hn1 : w9 ≠ va) => rz6 w9 e (hF w9 e hb hn0 hn1) hn0
  refine lv_aload_n hx hb dJ5_append_c97b9_17 rfl (lv_at hl 2 rfl) ?_
  refine mm_U (As := []) (rest := []) ⟨hx, hb, hml, hown, hts⟩ (j5_isLatin1 l G hz4 hz5) (va_cwU 0 hts gJ5_append_c97b9_J5_isLatin1_aae02_u83J4 rfl rfl rfl rfl (by decide +kernel) ⟨(by first | exact Nat.le_of_ble_eq_true rfl | omega | (dsimp only; omega)), (by first | exact Nat.le_of_ble_eq_true rfl | omega | (dsimp only; omega))⟩) hK hE hA hM (mm_recv hK hM hz4 (q := (RJ4, TJ4, 4)) rfl) rfl hl.1 rfl (by first | exact Nat.le_of_ble_eq_true rfl | omega | (dsimp only; omega)) dJ5_append_c97b9_18 ⟨(by first | exact Nat.le_of_ble_eq_true rfl | omega | (dsimp only; omega)), (by first | exact Nat.le_of_ble_eq_true rfl | omega | (dsimp only; omega))⟩ (fun v f1 Hp lcs hp hM => ?_)
  obtain ⟨rfl, hf⟩ := hp; subst hf
  refine lv_if_eq (tgt := 37) hx hb dJ5_append_c97b9_21 (by decide) (fun hq9 => absurd hq9 (by decide)) (fun _ => ?_)
  refine lv_iload_n hx hb dJ5_append_c97b9_24 rfl (lv_at hl 3 rfl) ?_
  refine lv_iload_n hx hb dJ5_append_c97b9_25 rfl (lv_at hl 0 rfl) ?_
  refine lv_aload_n hx hb dJ5_append_c97b9_26 rfl (lv_at hl 2 rfl) ?_
  refine mm_get (C := RJ4) (T := TJ4) (N := 4) (k := 0) hx hb hts (fun _ h => List.mem_cons_of_mem _ (List.mem_append_right _ h)) hown hK hM hz4 rfl (by decide) (hts (.fieldLink RJ5 15 "java/lang/AbstractStringBuilder" "value" "[B") (List.mem_of_getElem? (i := 2) rfl)) rfl rfl dJ5_append_c97b9_27 ?_
  refine mm_S (As := [.int x, .int (nI (ct + L.length)), .ref qz2]) (rest := []) ⟨hx, hb, hml, hown, hts⟩ (j6_chars l G hz5 (sb_fitC hfit sb_fit0) hd (by omega) (by omega)) (va_cwS 3 hts gJ5_append_c97b9_J6_getChars_ba4f3 rfl rfl rfl (by decide +kernel) ⟨(by first | exact Nat.le_of_ble_eq_true rfl | omega | (dsimp only; omega)), (by first | exact Nat.le_of_ble_eq_true rfl | omega | (dsimp only; omega))⟩) hK hE hA hM rfl hl.1 rfl (by first | exact Nat.le_of_ble_eq_true rfl | omega | (dsimp only; omega)) dJ5_append_c97b9_30 ⟨(by first | exact Nat.le_of_ble_eq_true rfl | omega | (dsimp only; omega)), (by first | exact Nat.le_of_ble_eq_true rfl | omega | (dsimp only; omega))⟩ (fun v gz11 Hp lcs hp hM => ?_)
  obtain ⟨rfl, g1, hz12, hfit1, hlo1, hhi1, rz13⟩ := hp
  have hz14 := rz13 _ _ hz10 ne9
  have hz15 := rz13 _ _ hz4 ne8
  have hF := fun w9 e (hb : f w9 = some e) (hn0 : w9 ≠ sb) (hn1 : w9 ≠ va) => rz13 w9 e (hF w9 e hb hn0 hn1) (ne_none hb fo7)
  refine lv_pop hx hb dJ5_append_c97b9_33 rfl ?_
  refine lv_goto (tgt := 48) hx hb dJ5_append_c97b9_34 (by decide) ?_
  refine lv_aload_n hx hb dJ5_append_c97b9_48 rfl (lv_at hl 2 rfl) ?_
  refine lv_iload_n hx hb dJ5_append_c97b9_49 rfl (lv_at hl 0 rfl) ?_
  refine mm_put (C := RJ4) (T := TJ4) (N := 4) (k := 3) hx hb hts (fun _ h => List.mem_cons_of_mem _ (List.mem_append_right _ h)) tyJ4 tyJ4_ok nmJ4 hown hK hM hz15 rfl (by decide) (hts (.fieldLink RJ5 79 "java/lang/AbstractStringBuilder" "count" "I") (List.mem_of_getElem? (i := 1) rfl)) rfl rfl rfl rfl (by first | exact Nat.le_of_ble_eq_true rfl | omega | (dsimp only; omega)) dJ5_append_c97b9_50 (fun Hp lcs hM => ?_)
  obtain ⟨gz16, hM, hz17, rz18⟩ := hM.up
  have hz19 := (rz18 _ (ne_oi hz15 hz14).symm).trans hz14
  have hz20 := (rz18 _ (Ne.symm ne8)).trans hz12
  have hF := fun w9 e (hb : f w9 = some e) (hn0 : w9 ≠ sb) (hn1 : w9 ≠ va) => (rz18 w9 hn0).trans (hF w9 e hb hn0 hn1)
  refine lv_aload_n hx hb dJ5_append_c97b9_53 rfl (lv_at hl 2 rfl) ?_
  exact mm_aret (r := (some sb)) hx hb hlocks hr (by first | exact Or.inl ⟨_, rfl⟩ | exact Or.inr ⟨_, rfl⟩) (by first | exact Nat.le_of_ble_eq_true rfl | omega | (dsimp only; omega)) (by first | exact Nat.le_of_ble_eq_true rfl | omega | (dsimp only; omega)) hM (⟨rfl, qz2, fo7, hz17, ⟨g1, hz20, hfit1, (fun j hj => (hlo1 j hj).trans (sb_cpy0 (by omega))), hhi1⟩, hF⟩) dJ5_append_c97b9_54
set_option maxHeartbeats 4000000 in
set_option maxRecDepth 100000 in
theorem j4_appI0 (l : Launch) (G : mG) {f : mE} {sb va ct cap : Nat} {ml : Int32} {by1 : Nat → Int32} (h_sb : f sb = some (.inr (0, [.ref va, .int (nI 0), .int ml, .int (nI ct)]))) (h_va : f va = some (mB G cap by1)) {x : Int32} {L : List Int32} (hd : isDec x L) (hL : L.length ≤ 10) (hfit : sb_Fit by1) (hq : ct + L.length ≤ cap) (hc2 : cap ≤ 32000) : mC l G yJ4_append_bf812 wsJ4_append_bf812 ({ frames := 5, cells := 0, slots := 0, locals := 114 } : Room) f [.ref sb, .int x] (fun v f1 => v = some (va_rf (some sb)) ∧ f1 sb = some (.inr (0, [.ref va, .int (nI 0), .int ml, .int (nI (ct + L.length))])) ∧ (∃ g1 : Nat → Int32, f1 va = some (mB G cap g1) ∧ sb_Fit g1 ∧ (∀ j, j < ct → g1 j = by1 j) ∧ ∀ j, j < L.length → g1 (ct + j) = L.getD j 0) ∧ ∀ b e, f b = some e → b ≠ sb → b ≠ va → f1 b = some e) 0 0 := by
  refine mC.ofF (cc := cJ4_append_bf812) (maxL := 2) (ret := (some (.object "java/lang/StringBuilder"))) (by decide +kernel) rfl (Nat.le_of_ble_eq_true rfl) ?_
  intro pgm env s mt args below meth c A ls hx hb hml hr hlocks hown hname hts hK hE hA hM hl
  have hl : lv_has ls 2 [(0, .ref sb), (1, .int x)] := hl
  have hF := fun w9 e (hb : f w9 = some e) (_ : w9 ≠ sb) (_ : w9 ≠ va) => hb
  refine lv_aload_n hx hb dJ4_append_bf812_0 rfl (lv_at hl 0 rfl) ?_
  refine lv_iload_n hx hb dJ4_append_bf812_1 rfl (lv_at hl 1 rfl) ?_
  refine mm_SU (As := [.int x]) (rest := []) (hK.1 0 _ rfl).2 ⟨hx, hb, hml, hown, hts⟩ (j5_appI0 l G h_sb h_va hd hL hfit (by omega) (by omega)) (va_cwSU 1 hts gJ4_append_bf812_J5_append_c97b9_s53 rfl rfl rfl (by decide +kernel) ⟨Nat.le_of_ble_eq_true rfl, Nat.le_of_ble_eq_true rfl⟩) hK hE hA hM (mm_recv hK hM h_sb (q := (RJ4, TJ4, 4)) rfl) rfl hl.1 rfl (Nat.le_of_ble_eq_true rfl) dJ4_append_bf812_2 ⟨Nat.le_of_ble_eq_true rfl, Nat.le_of_ble_eq_true rfl⟩ (fun v gz1 Hp lcs hp hM => ?_)
  obtain ⟨rfl, hz2, ⟨g1, hz3, hfit1, hlo1, hhi1⟩, rz4⟩ := hp
  have hF := fun w9 e (hb : f w9 = some e) (hn0 : w9 ≠ sb) (hn1 : w9 ≠ va) => rz4 w9 e (hF w9 e hb hn0 hn1) hn0 hn1
  refine mv_val (y := .ref sb) rfl ?_
  refine lv_pop hx hb dJ4_append_bf812_5 rfl ?_
  refine lv_aload_n hx hb dJ4_append_bf812_6 rfl (lv_at hl 0 rfl) ?_
  exact mm_aret (r := (some sb)) hx hb hlocks hr (by first | exact Or.inl ⟨_, rfl⟩ | exact Or.inr ⟨_, rfl⟩) (Nat.le_of_ble_eq_true rfl) (Nat.le_of_ble_eq_true rfl) hM (⟨rfl, hz2, ⟨g1, hz3, hfit1, hlo1, hhi1⟩, hF⟩) dJ4_append_bf812_7
set_option maxHeartbeats 4000000 in
set_option maxRecDepth 100000 in
theorem j4_appI1 (l : Launch) (G : mG) {f : mE} {sb va ct cap : Nat} {ml : Int32} {by1 : Nat → Int32} (h_sb : f sb = some (.inr (0, [.ref va, .int (nI 0), .int ml, .int (nI ct)]))) (h_va : f va = some (mB G cap by1)) {x : Int32} {L : List Int32} (hd : isDec x L) (hL : L.length ≤ 10) (hfit : sb_Fit by1) (hq : cap < ct + L.length) (hct : ct ≤ cap) (hc : 16 ≤ cap) (hc2 : cap ≤ 15000) : mC l G yJ4_append_bf812 wsJ4_append_bf812 ({ frames := 5, cells := (cap + 2), slots := (2 * (cap + 2)), locals := 114 } : Room) f [.ref sb, .int x] (fun v f1 => v = some (va_rf (some sb)) ∧ ∃ z : Nat, f z = none ∧ f1 sb = some (.inr (0, [.ref z, .int (nI 0), .int ml, .int (nI (ct + L.length))])) ∧ (∃ g1 : Nat → Int32, f1 z = some (mB G (2 * cap + 2) g1) ∧ sb_Fit g1 ∧ (∀ j, j < ct → g1 j = by1 j) ∧ ∀ j, j < L.length → g1 (ct + j) = L.getD j 0) ∧ ∀ b e, f b = some e → b ≠ sb → b ≠ va → f1 b = some e) (cap + 2) (2 * (cap + 2)) := by
  refine mC.ofF (cc := cJ4_append_bf812) (maxL := 2) (ret := (some (.object "java/lang/StringBuilder"))) (by decide +kernel) rfl (Nat.le_of_ble_eq_true rfl) ?_
  intro pgm env s mt args below meth c A ls hx hb hml hr hlocks hown hname hts hK hE hA hM hl
  have hl : lv_has ls 2 [(0, .ref sb), (1, .int x)] := hl
  have hF := fun w9 e (hb : f w9 = some e) (_ : w9 ≠ sb) (_ : w9 ≠ va) => hb
  refine lv_aload_n hx hb dJ4_append_bf812_0 rfl (lv_at hl 0 rfl) ?_
  refine lv_iload_n hx hb dJ4_append_bf812_1 rfl (lv_at hl 1 rfl) ?_
  refine mm_SU (As := [.int x]) (rest := []) (hK.1 0 _ rfl).2 ⟨hx, hb, hml, hown, hts⟩ (j5_appI1 l G h_sb h_va hd hL hfit (by omega) (by omega) (by omega) (by omega)) (va_cwSU 1 hts gJ4_append_bf812_J5_append_c97b9_s53 rfl rfl rfl (by decide +kernel) ⟨(by first | exact Nat.le_of_ble_eq_true rfl | omega | (dsimp only; omega)), (by first | exact Nat.le_of_ble_eq_true rfl | omega | (dsimp only; omega))⟩) hK hE hA hM (mm_recv hK hM h_sb (q := (RJ4, TJ4, 4)) rfl) rfl hl.1 rfl (by first | exact Nat.le_of_ble_eq_true rfl | omega | (dsimp only; omega)) dJ4_append_bf812_2 ⟨(by first | exact Nat.le_of_ble_eq_true rfl | omega | (dsimp only; omega)), (by first | exact Nat.le_of_ble_eq_true rfl | omega | (dsimp only; omega))⟩ (fun v gz1 Hp lcs hp hM => ?_)
  obtain ⟨rfl, qz5, nz6, hz2, ⟨g1, hz3, hfit1, hlo1, hhi1⟩, rz4⟩ := hp
  have hF := fun w9 e (hb : f w9 = some e) (hn0 : w9 ≠ sb) (hn1 : w9 ≠ va) => rz4 w9 e (hF w9 e hb hn0 hn1) hn0 hn1
  refine mv_val (y := .ref sb) rfl ?_
  refine lv_pop hx hb dJ4_append_bf812_5 rfl ?_
  refine lv_aload_n hx hb dJ4_append_bf812_6 rfl (lv_at hl 0 rfl) ?_
  exact mm_aret (r := (some sb)) hx hb hlocks hr (by first | exact Or.inl ⟨_, rfl⟩ | exact Or.inr ⟨_, rfl⟩) (by first | exact Nat.le_of_ble_eq_true rfl | omega | (dsimp only; omega)) (by first | exact Nat.le_of_ble_eq_true rfl | omega | (dsimp only; omega)) hM (⟨rfl, qz5, nz6, hz2, ⟨g1, hz3, hfit1, hlo1, hhi1⟩, hF⟩) dJ4_append_bf812_7

