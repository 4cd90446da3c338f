/-! THE JDK's text builder (Latin-1 alone): capacity, letters, length -/
theorem mx_nI {a b : Nat} (h : a ≤ b) (hb : b < 2 ^ 31) : mx (nI a) (nI b) = nI b := by
  unfold mx
  by_cases h2 : nI a < nI b
  · rw [if_pos h2]
  · rw [if_neg h2]
    have : ¬ a < b := fun z => h2 ((nI_ltI (show a < 2 ^ 31 by omega) hb).mpr z)
    rw [show a = b by omega]
theorem mn_nI {a b : Nat} (h : a ≤ b) (hb : b < 2 ^ 31) : mn (nI a) (nI b) = nI a := by
  unfold mn
  by_cases h2 : nI b < nI a
  · have := (nI_ltI hb (show a < 2 ^ 31 by omega)).mp h2
    omega
  · rw [if_neg h2]
theorem sb_shr0l (x : Int32) : x <<< ((nI 0 : Int32) &&& 31) = x := sb_shl0 x
theorem sub_le0 {q c : Nat} (h : q ≤ c) (hc : c < 2 ^ 30) : nI q - nI c ≤ 0 := by
  rw [Int32.le_iff_toInt_le, pk_sub_toInt (by omega) hc, Int32.toInt_zero]; omega
theorem sub_gt0 {q c : Nat} (h : c < q) (hq : q < 2 ^ 30) : ¬ nI q - nI c ≤ 0 := by
  rw [Int32.le_iff_toInt_le, pk_sub_toInt hq (by omega), Int32.toInt_zero]; omega
theorem i2b_nI {x : Nat} (h : x < 128) : (nI x).toInt8.toInt32 = nI x := lg_i2b_small (by rw [nI_toInt (by omega)]; omega) (by rw [nI_toInt (by omega)]; omega)
theorem i2c_nI {x : Nat} (h : x < 128) : ((nI x).toUInt32 % 65536).toInt32 = nI x := (sb_byte x (by omega)).2.1
theorem nb_nI {x : Nat} (h : x < 128) : vp_nar .byte (nI x) = nI x := by rw [vp_nar_byte]; exact i2b_nI h
theorem fit_nI {x : Nat} (h : x < 128) : fits .byte (.int (nI x)) = true := by rw [← i2b_nI h]; exact pk_fb _
theorem nar_c : ∀ x, x < 128 → narrow .char (.int (nI x)) = .int (nI x) := by decide +kernel
theorem nar_x {y : Int32} (h : ∃ w, w < 128 ∧ y = nI w) : narrow .char (.int y) = .int y := by
  obtain ⟨w, hw, rfl⟩ := h
  exact nar_c w hw
theorem and255 {x : Nat} (h : x < 128) : nI x &&& nI 255 = nI x := by
  have h1 := (sb_byte x (by omega)).1
  unfold sb_b at h1
  rw [i2b_nI h] at h1
  exact h1
set_option maxHeartbeats 4000000 in
set_option maxRecDepth 100000 in
theorem j5_isLatin1 (l : Launch) (G : mG) {f : mE} {sb va ct cap : Nat} {ml : Int32} {by1 : Nat → Int32} (h_sb : f sb = some (.inr (0, [.ref va, .int (nI 0), .int ml, .int (nI ct)]))) (h_va : f va = some (mB G cap by1)) : mC l G yJ5_isLatin1_aae02 wsJ5_isLatin1_aae02 ({ frames := 0, cells := 0, slots := 0, locals := 0 } : Room) f [.ref sb] (fun v f1 => v = some (.int (bI (true))) ∧ f = f1) 0 0 := by
  refine mC.ofF (cc := cJ5_isLatin1_aae02) (maxL := 1) (ret := (some .boolean)) (by decide +kernel) rfl (Nat.le_of_ble_eq_true rfl) ?_
  intro pgm env s mt args below meth c A ls hx hb hml hr hlocks hown hname hts hK hE hA hM hl
  have hl : lv_has ls 1 [(0, .ref sb)] := hl
  have hF := fun w9 e (hb : f w9 = some e)  => hb
  refine va_gets hx hb hE.2.2.1 hM.2 hown (hts (.fieldLink RJ5 18 "java/lang/String" "COMPACT_STRINGS" "Z") (List.mem_of_getElem? (i := 1) rfl)) (fun _ h => h) dJ5_isLatin1_aae02_0 ?_
  refine lv_if_eq (tgt := 17) hx hb dJ5_isLatin1_aae02_3 (by decide) (fun hq9 => absurd hq9 (by decide)) (fun _ => ?_)
  refine lv_aload_n hx hb dJ5_isLatin1_aae02_6 rfl (lv_at hl 0 rfl) ?_
  refine mm_get (C := RJ4) (T := TJ4) (N := 4) (k := 1) hx hb hts (fun _ h => List.mem_cons_of_mem _ (List.mem_append_right _ h)) hown hK hM h_sb rfl (by decide) (hts (.fieldLink RJ5 22 "java/lang/AbstractStringBuilder" "coder" "B") (List.mem_of_getElem? (i := 2) rfl)) rfl rfl dJ5_isLatin1_aae02_7 ?_
  refine lv_if_ne (tgt := 17) hx hb dJ5_isLatin1_aae02_10 (by decide) (fun hq9 => absurd hq9 (by decide)) (fun _ => ?_)
  refine lv_iconst (v := (nI 1)) hx hb dJ5_isLatin1_aae02_13 (by decide +kernel) ?_
  refine lv_goto (tgt := 18) hx hb dJ5_isLatin1_aae02_14 (by decide) ?_
  exact mm_zret hx hb hlocks hr (by first | rfl | exact bI_nar _ | exact nar_c _ (by assumption) | exact nar_x hch) (Nat.le_of_ble_eq_true rfl) (Nat.le_of_ble_eq_true rfl) hM (⟨rfl, rfl⟩) dJ5_isLatin1_aae02_18
set_option maxHeartbeats 4000000 in
set_option maxRecDepth 100000 in
theorem j8_newLength (l : Launch) (G : mG) (f : mE) (x y z : Nat) (hyz : y ≤ z) (hxz : x + z < 2 ^ 30) (hz0 : 0 < z) : mC l G yJ8_newLength_cabcc wsJ8_newLength_cabcc ({ frames := 1, cells := 0, slots := 0, locals := 21 } : Room) f [.int (nI x), .int (nI y), .int (nI z)] (fun v f1 => v = some (.int (nI (x + z))) ∧ f = f1) 0 0 := by
  refine mC.ofF (cc := cJ8_newLength_cabcc) (maxL := 4) (ret := (some .int)) (by decide +kernel) rfl (Nat.le_of_ble_eq_true rfl) ?_
  intro pgm env s mt args below meth c A ls hx hb hml hr hlocks hown hname hts hK hE hA hM hl
  have hl : lv_has ls 4 [(0, .int (nI x)), (1, .int (nI y)), (2, .int (nI z))] := hl
  have hF := fun w9 e (hb : f w9 = some e)  => hb
  refine lv_iload_n hx hb dJ8_newLength_cabcc_0 rfl (lv_at hl 0 rfl) ?_
  refine lv_iload_n hx hb dJ8_newLength_cabcc_1 rfl (lv_at hl 1 rfl) ?_
  refine lv_iload_n hx hb dJ8_newLength_cabcc_2 rfl (lv_at hl 2 rfl) ?_
  refine va_mmax hx hb (by rw [hml]; exact hl.1.symm) hown (hts (.methodLink RJ8 194 Lib.Math.max.name) (List.mem_of_getElem? (i := 1) rfl)) (hts (.static Lib.Math.max.name) (List.mem_of_getElem? (i := 2) rfl)) (hts (.initialized "java/lang/Math") (List.mem_of_getElem? (i := 3) rfl)) (hts (.code Lib.Math.max.name Lib.Math.max.code 2 (some .int)) (List.mem_of_getElem? (i := 4) rfl)) (Nat.le_of_ble_eq_true rfl) (Nat.le_of_ble_eq_true rfl) (Nat.le_of_ble_eq_true rfl) (Nat.le_of_ble_eq_true rfl) dJ8_newLength_cabcc_3 ?_
  refine mv_top (y := (mx (nI y) (nI z))) rfl ?_
  refine mv_top (y := nI z) (mx_nI hyz (by omega)) ?_
  refine ln_iadd x z hx hb dJ8_newLength_cabcc_6 ?_
  refine lv_istore_n (lv' := [(3, .int (nI (x + z))), (0, .int (nI x)), (1, .int (nI y)), (2, .int (nI z))]) hx hb dJ8_newLength_cabcc_7 rfl hl (by decide) rfl (fun ls hl => ?_)
  refine lv_iconst (v := (nI 0)) hx hb dJ8_newLength_cabcc_8 (by decide +kernel) ?_
  refine lv_iload_n hx hb dJ8_newLength_cabcc_9 rfl (lv_at hl 0 rfl) ?_
  refine ln_icmp_ge 0 (x + z) (by omega) (by omega) (tgt := 21) hx hb dJ8_newLength_cabcc_10 (by decide) (fun cz1 => ?_) (fun cz1 => ?_)
  · exact absurd cz1 (by omega)
  refine lv_iload_n hx hb dJ8_newLength_cabcc_13 rfl (lv_at hl 0 rfl) ?_
  refine lv_ldc (v := (nI 2147483639)) hx hb hown (hts (.constant RJ8 200 (2147483639)) (List.mem_of_getElem? (i := 5) rfl)) dJ8_newLength_cabcc_14 ?_
  refine ln_icmp_gt (x + z) 2147483639 (by omega) (by omega) (tgt := 21) hx hb dJ8_newLength_cabcc_16 (by decide) (fun cz2 => ?_) (fun cz2 => ?_)
  · exact absurd cz2 (by omega)
  refine lv_iload_n hx hb dJ8_newLength_cabcc_19 rfl (lv_at hl 0 rfl) ?_
  exact mm_iret hx hb hlocks hr (Nat.le_of_ble_eq_true rfl) (Nat.le_of_ble_eq_true rfl) hM (⟨rfl, rfl⟩) dJ8_newLength_cabcc_20
set_option maxHeartbeats 4000000 in
set_option maxRecDepth 100000 in
theorem j5_newCapacity (l : Launch) (G : mG) {f : mE} {sb va ct cap : Nat} {ml : Int32} {by1 : Nat → Int32} (h_sb : f sb = some (.inr (0, [.ref va, .int (nI 0), .int ml, .int (nI ct)]))) (h_va : f va = some (mB G cap by1)) (q : Nat) (hq : cap < q) (hq2 : q ≤ cap + 16) (hc : 16 ≤ cap) (hc2 : cap ≤ 65000) : mC l G yJ5_newCapacity_0f7a4 wsJ5_newCapacity_0f7a4 ({ frames := 2, cells := 0, slots := 0, locals := 44 } : Room) f [.ref sb, .int (nI q)] (fun v f1 => v = some (.int (nI (2 * cap + 2))) ∧ f = f1) 0 0 := by
  refine mC.ofF (cc := cJ5_newCapacity_0f7a4) (maxL := 6) (ret := (some .int)) (by decide +kernel) rfl (Nat.le_of_ble_eq_true rfl) ?_
  intro pgm env s mt args below meth c A ls hx hb hml hr hlocks hown hname hts hK hE hA hM hl
  have hl : lv_has ls 6 [(0, .ref sb), (1, .int (nI q))] := hl
  have hF := fun w9 e (hb : f w9 = some e)  => hb
  refine lv_aload_n hx hb dJ5_newCapacity_0f7a4_0 rfl (lv_at hl 0 rfl) ?_
  refine mm_get (C := RJ4) (T := TJ4) (N := 4) (k := 0) hx hb hts (fun _ h => List.mem_cons_of_mem _ (List.mem_append_right _ h)) hown hK hM h_sb rfl (by decide) (hts (.fieldLink RJ5 15 "java/lang/AbstractStringBuilder" "value" "[B") (List.mem_of_getElem? (i := 1) rfl)) rfl rfl dJ5_newCapacity_0f7a4_1 ?_
  refine mm_alenB hx hb hK hM h_va dJ5_newCapacity_0f7a4_4 ?_
  refine lv_istore_n (lv' := [(2, .int (nI cap)), (0, .ref sb), (1, .int (nI q))]) hx hb dJ5_newCapacity_0f7a4_5 rfl hl (by decide) rfl (fun ls hl => ?_)
  refine lv_iload_n hx hb dJ5_newCapacity_0f7a4_6 rfl (lv_at hl 2 rfl) ?_
  refine lv_aload_n hx hb dJ5_newCapacity_0f7a4_7 rfl (lv_at hl 1 rfl) ?_
  refine mm_get (C := RJ4) (T := TJ4) (N := 4) (k := 1) hx hb hts (fun _ h => List.mem_cons_of_mem _ (List.mem_append_right _ h)) hown hK hM h_sb rfl (by decide) (hts (.fieldLink RJ5 22 "java/lang/AbstractStringBuilder" "coder" "B") (List.mem_of_getElem? (i := 2) rfl)) rfl rfl dJ5_newCapacity_0f7a4_8 ?_
  refine lv_ishl hx hb dJ5_newCapacity_0f7a4_11 ?_
  refine mv_top (y := nI q) (sb_shr0l _) ?_
  refine lv_istore_n (lv' := [(3, .int (nI q)), (2, .int (nI cap)), (0, .ref sb), (1, .int (nI q))]) hx hb dJ5_newCapacity_0f7a4_12 rfl hl (by decide) rfl (fun ls hl => ?_)
  refine lv_iload_n hx hb dJ5_newCapacity_0f7a4_13 rfl (lv_at hl 0 rfl) ?_
  refine lv_iload_n hx hb dJ5_newCapacity_0f7a4_14 rfl (lv_at hl 1 rfl) ?_
  refine ln_isub q cap (by omega) hx hb dJ5_newCapacity_0f7a4_15 ?_
  refine mv_top (y := (nI (q - cap))) (congrArg nI (by omega)) ?_
  refine lv_istore (lv' := [(4, .int (nI (q - cap))), (3, .int (nI q)), (2, .int (nI cap)), (0, .ref sb), (1, .int (nI q))]) hx hb dJ5_newCapacity_0f7a4_16 hl (by decide) rfl (fun ls hl => ?_)
  refine lv_iload_n hx hb dJ5_newCapacity_0f7a4_18 rfl (lv_at hl 2 rfl) ?_
  refine lv_iload hx hb dJ5_newCapacity_0f7a4_19 (lv_at hl 0 rfl) ?_
  refine lv_iload_n hx hb dJ5_newCapacity_0f7a4_21 rfl (lv_at hl 2 rfl) ?_
  refine lv_iconst (v := (nI 2)) hx hb dJ5_newCapacity_0f7a4_22 (by decide +kernel) ?_
  refine lv_aload_n hx hb dJ5_newCapacity_0f7a4_23 rfl (lv_at hl 3 rfl) ?_
  refine mm_get (C := RJ4) (T := TJ4) (N := 4) (k := 1) hx hb hts (fun _ h => List.mem_cons_of_mem _ (List.mem_append_right _ h)) hown hK hM h_sb rfl (by decide) (hts (.fieldLink RJ5 22 "java/lang/AbstractStringBuilder" "coder" "B") (List.mem_of_getElem? (i := 2) rfl)) rfl rfl dJ5_newCapacity_0f7a4_24 ?_
  refine lv_ishl hx hb dJ5_newCapacity_0f7a4_27 ?_
  refine mv_top (y := nI 2) (sb_shr0l _) ?_
  refine ln_iadd cap 2 hx hb dJ5_newCapacity_0f7a4_28 ?_
  refine mm_S (As := [.int (nI cap), .int (nI (q - cap)), .int (nI (cap + 2))]) (rest := []) ⟨hx, hb, hml, hown, hts⟩ (j8_newLength l G _ cap (q - cap) (cap + 2) (by omega) (by omega) (by omega)) (va_cwS 3 hts gJ5_newCapacity_0f7a4_J8_newLength_cabcc rfl rfl rfl (by decide +kernel) ⟨Nat.le_of_ble_eq_true rfl, Nat.le_of_ble_eq_true rfl⟩) hK hE hA hM rfl hl.1 rfl (Nat.le_of_ble_eq_true rfl) dJ5_newCapacity_0f7a4_29 ⟨Nat.le_of_ble_eq_true rfl, Nat.le_of_ble_eq_true rfl⟩ (fun v f1 Hp lcs hp hM => ?_)
  obtain ⟨rfl, hf⟩ := hp; subst hf
  refine lv_istore (lv' := [(5, .int (nI (cap + (cap + 2)))), (4, .int (nI (q - cap))), (3, .int (nI q)), (2, .int (nI cap)), (0, .ref sb), (1, .int (nI q))]) hx hb dJ5_newCapacity_0f7a4_32 hl (by decide) rfl (fun ls hl => ?_)
  refine lv_iload hx hb dJ5_newCapacity_0f7a4_34 (lv_at hl 0 rfl) ?_
  refine lv_ldc (v := (nI 2147483647)) hx hb hown (hts (.constant RJ5 39 (2147483647)) (List.mem_of_getElem? (i := 3) rfl)) dJ5_newCapacity_0f7a4_36 ?_
  refine ln_icmp_ne (cap + (cap + 2)) 2147483647 (by omega) (by omega) (tgt := 51) hx hb dJ5_newCapacity_0f7a4_38 (by decide) (fun cz1 => ?_) (fun cz1 => ?_)
  · refine lv_iload hx hb dJ5_newCapacity_0f7a4_51 (lv_at hl 0 rfl) ?_
    refine lv_aload_n hx hb dJ5_newCapacity_0f7a4_53 rfl (lv_at hl 4 rfl) ?_
    refine mm_get (C := RJ4) (T := TJ4) (N := 4) (k := 1) hx hb hts (fun _ h => List.mem_cons_of_mem _ (List.mem_append_right _ h)) hown hK hM h_sb rfl (by decide) (hts (.fieldLink RJ5 22 "java/lang/AbstractStringBuilder" "coder" "B") (List.mem_of_getElem? (i := 2) rfl)) rfl rfl dJ5_newCapacity_0f7a4_54 ?_
    refine lv_ishr hx hb dJ5_newCapacity_0f7a4_57 ?_
    refine mv_top (y := nI (cap + (cap + 2))) (sb_shr0 _) ?_
    exact mm_iret hx hb hlocks hr (Nat.le_of_ble_eq_true rfl) (Nat.le_of_ble_eq_true rfl) hM (⟨by rw [show cap + (cap + 2) = 2 * cap + 2 by omega], rfl⟩) dJ5_newCapacity_0f7a4_58
  exact absurd cz1 (by omega)
set_option maxHeartbeats 4000000 in
set_option maxRecDepth 100000 in
theorem j7_copyOf (l : Launch) (G : mG) {f : mE} {va cap : Nat} {by1 : Nat → Int32} (h_va : f va = some (mB G cap by1)) (hfit : sb_Fit by1) (q : Nat) (hq : cap < q) (hq2 : q ≤ 65000) : mC l G yJ7_copyOf_9075b wsJ7_copyOf_9075b ({ frames := 1, cells := 1, slots := q, locals := 26 } : Room) f [.ref va, .int (nI q)] (fun v f1 => ∃ z : Nat, v = some (va_rf (some z)) ∧ f z = none ∧ f1 z = some (mB G q (va_cpy by1 (fun _ => 0) 0 0 cap)) ∧ ∀ b e, f b = some e → f1 b = some e) 1 q := by
  refine mC.ofF (cc := cJ7_copyOf_9075b) (maxL := 3) (ret := (some (.array .byte))) (by decide +kernel) rfl (Nat.le_of_ble_eq_true rfl) ?_
  intro pgm env s mt args below meth c A ls hx hb hml hr hlocks hown hname hts hK hE hA hM hl
  have hl : lv_has ls 3 [(0, .ref va), (1, .int (nI q))] := hl
  have hF := fun w9 e (hb : f w9 = some e)  => hb
  refine lv_iload_n hx hb dJ7_copyOf_9075b_0 rfl (lv_at hl 1 rfl) ?_
  refine lv_aload_n hx hb dJ7_copyOf_9075b_1 rfl (lv_at hl 0 rfl) ?_
  refine mm_alenB hx hb hK hM h_va dJ7_copyOf_9075b_2 ?_
  refine ln_icmp_ne q cap (by omega) (by omega) (tgt := 14) hx hb dJ7_copyOf_9075b_3 (by decide) (fun cz1 => ?_) (fun cz1 => ?_)
  · refine lv_iload_n hx hb dJ7_copyOf_9075b_14 rfl (lv_at hl 1 rfl) ?_
    refine mm_newB hx hb (hts (.arrayClass .byte) (List.mem_of_getElem? (i := 7) rfl)) hK hM hA q (nI_pos (by omega)) (nI_clamp (by omega)) (by omega) (by first | exact Nat.le_of_ble_eq_true rfl | omega | (dsimp only; omega)) (by first | exact Nat.le_of_ble_eq_true rfl | omega | (dsimp only; omega)) dJ7_copyOf_9075b_15 (fun qz2 Hp nz3 hM => ?_)
    obtain ⟨gz4, hM, hz5, rz6⟩ := hM.up
    have fo7 : f qz2 = none := fresh_of (fun e hb => hF qz2 e hb ) nz3
    have hF := fun w9 e (hb : f w9 = some e)  => (rz6 w9 (ne_none (hF w9 e hb ) nz3)).trans (hF w9 e hb )
    have ne8 := ne_none h_va nz3
    have hz9 := (rz6 _ ne8).trans h_va
    refine lv_astore_n (lv' := [(2, .ref qz2), (0, .ref va), (1, .int (nI q))]) hx hb dJ7_copyOf_9075b_17 rfl hl (by decide) rfl (fun ls hl => ?_)
    refine lv_aload_n hx hb dJ7_copyOf_9075b_18 rfl (lv_at hl 1 rfl) ?_
    refine lv_iconst (v := (nI 0)) hx hb dJ7_copyOf_9075b_19 (by decide +kernel) ?_
    refine lv_aload_n hx hb dJ7_copyOf_9075b_20 rfl (lv_at hl 0 rfl) ?_
    refine lv_iconst (v := (nI 0)) hx hb dJ7_copyOf_9075b_21 (by decide +kernel) ?_
    refine lv_aload_n hx hb dJ7_copyOf_9075b_22 rfl (lv_at hl 1 rfl) ?_
    refine mm_alenB hx hb hK hM hz9 dJ7_copyOf_9075b_23 ?_
    refine lv_iload_n hx hb dJ7_copyOf_9075b_24 rfl (lv_at hl 2 rfl) ?_
    refine va_mmin hx hb (by rw [hml]; exact hl.1.symm) hown (hts (.methodLink RJ7 304 Lib.Math.min.name) (List.mem_of_getElem? (i := 8) rfl)) (hts (.static Lib.Math.min.name) (List.mem_of_getElem? (i := 9) rfl)) (hts (.initialized "java/lang/Math") (List.mem_of_getElem? (i := 10) rfl)) (hts (.code Lib.Math.min.name Lib.Math.min.code 2 (some .int)) (List.mem_of_getElem? (i := 11) rfl)) (by first | exact Nat.le_of_ble_eq_true rfl | omega | (dsimp only; omega)) (by first | exact Nat.le_of_ble_eq_true rfl | omega | (dsimp only; omega)) (by first | exact Nat.le_of_ble_eq_true rfl | omega | (dsimp only; omega)) (by first | exact Nat.le_of_ble_eq_true rfl | omega | (dsimp only; omega)) dJ7_copyOf_9075b_25 ?_
    refine mv_top (y := (mn (nI cap) (nI q))) rfl ?_
    refine mv_top (y := nI cap) (mn_nI (by omega) (by omega)) ?_
    refine mm_copyB hx hb (by rw [hml]; exact hl.1.symm) hown (hts (.methodLink RJ7 150 arraycopyName) (List.mem_of_getElem? (i := 12) rfl)) (hts (.native arraycopyName) (List.mem_of_getElem? (i := 13) rfl)) (hts (.static arraycopyName) (List.mem_of_getElem? (i := 14) rfl)) (hts (.initialized "java/lang/System") (List.mem_of_getElem? (i := 15) rfl)) hK hM hz9 hz5 hfit 0 0 cap (by omega) (by omega) (by omega) (by omega) (by first | exact Nat.le_of_ble_eq_true rfl | omega | (dsimp only; omega)) (by first | exact Nat.le_of_ble_eq_true rfl | omega | (dsimp only; omega)) (by first | exact Nat.le_of_ble_eq_true rfl | omega | (dsimp only; omega)) dJ7_copyOf_9075b_28 (fun Hp lcs hM => ?_)
    obtain ⟨gz10, hM, hz11, rz12⟩ := hM.up
    have hz13 := (rz12 _ ne8).trans hz9
    have hF := fun w9 e (hb : f w9 = some e)  => (rz12 w9 (ne_none hb fo7)).trans (hF w9 e hb )
    refine lv_aload_n hx hb dJ7_copyOf_9075b_31 rfl (lv_at hl 0 rfl) ?_
    exact mm_aret (r := (some qz2)) hx hb hlocks hr (by first | exact Or.inl ⟨_, rfl⟩ | exact Or.inr ⟨_, rfl⟩) (by first | exact Nat.le_of_ble_eq_true rfl | omega | (dsimp only; omega)) (by first | exact Nat.le_of_ble_eq_true rfl | omega | (dsimp only; omega)) hM (⟨qz2, rfl, fo7, hz11, hF⟩) dJ7_copyOf_9075b_32
  exact absurd cz1 (by omega)
set_option maxHeartbeats 4000000 in
set_option maxRecDepth 100000 in
theorem j5_ensure0 (l : Launch) (G : mG) {f : mE} {sb va ct cap : Nat} {ml : Int32} {by1 : Nat → Int32} (h_sb : f sb = some (.inr (0, [.ref va, .int (nI 0), .int ml, .int (nI ct)]))) (h_va : f va = some (mB G cap by1)) (q : Nat) (hq : q ≤ cap) (hc2 : cap ≤ 65000) : mC l G yJ5_ensureCapacityInternal_d00df wsJ5_ensureCapacityInternal_d00df ({ frames := 3, cells := 0, slots := 0, locals := 69 } : Room) f [.ref sb, .int (nI q)] (fun v f1 => v = none ∧ f = f1) 0 0 := by
  refine mC.ofF (cc := cJ5_ensureCapacityInternal_d00df) (maxL := 3) (ret := none) (by decide +kernel) rfl (Nat.le_of_ble_eq_true rfl) ?_
  intro pgm env s mt args below meth c A ls hx hb hml hr hlocks hown hname hts hK hE hA hM hl
  have hl : lv_has ls 3 [(0, .ref sb), (1, .int (nI q))] := hl
  have hF := fun w9 e (hb : f w9 = some e) (_ : w9 ≠ sb) => hb
  refine lv_aload_n hx hb dJ5_ensureCapacityInternal_d00df_0 rfl (lv_at hl 0 rfl) ?_
  refine mm_get (C := RJ4) (T := TJ4) (N := 4) (k := 0) hx hb hts (fun _ h => List.mem_cons_of_mem _ (List.mem_append_right _ h)) hown hK hM h_sb rfl (by decide) (hts (.fieldLink RJ5 15 "java/lang/AbstractStringBuilder" "value" "[B") (List.mem_of_getElem? (i := 1) rfl)) rfl rfl dJ5_ensureCapacityInternal_d00df_1 ?_
  refine mm_alenB hx hb hK hM h_va dJ5_ensureCapacityInternal_d00df_4 ?_
  refine lv_aload_n hx hb dJ5_ensureCapacityInternal_d00df_5 rfl (lv_at hl 0 rfl) ?_
  refine mm_get (C := RJ4) (T := TJ4) (N := 4) (k := 1) hx hb hts (fun _ h => List.mem_cons_of_mem _ (List.mem_append_right _ h)) hown hK hM h_sb rfl (by decide) (hts (.fieldLink RJ5 22 "java/lang/AbstractStringBuilder" "coder" "B") (List.mem_of_getElem? (i := 2) rfl)) rfl rfl dJ5_ensureCapacityInternal_d00df_6 ?_
  refine lv_ishr hx hb dJ5_ensureCapacityInternal_d00df_9 ?_
  refine mv_top (y := nI cap) (sb_shr0 _) ?_
  refine lv_istore_n (lv' := [(2, .int (nI cap)), (0, .ref sb), (1, .int (nI q))]) hx hb dJ5_ensureCapacityInternal_d00df_10 rfl hl (by decide) rfl (fun ls hl => ?_)
  refine lv_iload_n hx hb dJ5_ensureCapacityInternal_d00df_11 rfl (lv_at hl 2 rfl) ?_
  refine lv_iload_n hx hb dJ5_ensureCapacityInternal_d00df_12 rfl (lv_at hl 0 rfl) ?_
  refine lv_isub hx hb dJ5_ensureCapacityInternal_d00df_13 ?_
  refine lv_if_le (tgt := 38) hx hb dJ5_ensureCapacityInternal_d00df_14 (by decide) (fun _ => ?_) (fun hq9 => absurd (sub_le0 hq (by omega)) hq9)
  exact mm_vret hx hb hlocks hr (Nat.le_of_ble_eq_true rfl) (Nat.le_of_ble_eq_true rfl) hM (⟨rfl, rfl⟩) dJ5_ensureCapacityInternal_d00df_38
set_option maxHeartbeats 4000000 in
set_option maxRecDepth 100000 in
theorem j5_ensure1 (l : Launch) (G : mG) {f : mE} {sb va ct cap : Nat} {ml : Int32} {by1 : Nat → Int32} (h_sb : f sb = some (.inr (0, [.ref va, .int (nI 0), .int ml, .int (nI ct)]))) (h_va : f va = some (mB G cap by1)) (hfit : sb_Fit by1) (q : Nat) (hq : cap < q) (hq2 : q ≤ cap + 16) (hc : 16 ≤ cap) (hc2 : cap ≤ 32000) : mC l G yJ5_ensureCapacityInternal_d00df wsJ5_ensureCapacityInternal_d00df ({ frames := 3, cells := (cap + 2), slots := (2 * (cap + 2)), locals := 69 } : Room) f [.ref sb, .int (nI q)] (fun v f1 => v = none ∧ ∃ z : Nat, f z = none ∧ f1 sb = some (.inr (0, [.ref z, .int (nI 0), .int ml, .int (nI ct)])) ∧ f1 z = some (mB G (2 * cap + 2) (va_cpy by1 (fun _ => 0) 0 0 cap)) ∧ ∀ b e, f b = some e → b ≠ sb → f1 b = some e) (cap + 2) (2 * (cap + 2)) := by
  refine mC.ofF (cc := cJ5_ensureCapacityInternal_d00df) (maxL := 3) (ret := none) (by decide +kernel) rfl (Nat.le_of_ble_eq_true rfl) ?_
  intro pgm env s mt args below meth c A ls hx hb hml hr hlocks hown hname hts hK hE hA hM hl
  have hl : lv_has ls 3 [(0, .ref sb), (1, .int (nI q))] := hl
  have hF := fun w9 e (hb : f w9 = some e) (_ : w9 ≠ sb) => hb
  refine lv_aload_n hx hb dJ5_ensureCapacityInternal_d00df_0 rfl (lv_at hl 0 rfl) ?_
  refine mm_get (C := RJ4) (T := TJ4) (N := 4) (k := 0) hx hb hts (fun _ h => List.mem_cons_of_mem _ (List.mem_append_right _ h)) hown hK hM h_sb rfl (by decide) (hts (.fieldLink RJ5 15 "java/lang/AbstractStringBuilder" "value" "[B") (List.mem_of_getElem? (i := 1) rfl)) rfl rfl dJ5_ensureCapacityInternal_d00df_1 ?_
  refine mm_alenB hx hb hK hM h_va dJ5_ensureCapacityInternal_d00df_4 ?_
  refine lv_aload_n hx hb dJ5_ensureCapacityInternal_d00df_5 rfl (lv_at hl 0 rfl) ?_
  refine mm_get (C := RJ4) (T := TJ4) (N := 4) (k := 1) hx hb hts (fun _ h => List.mem_cons_of_mem _ (List.mem_append_right _ h)) hown hK hM h_sb rfl (by decide) (hts (.fieldLink RJ5 22 "java/lang/AbstractStringBuilder" "coder" "B") (List.mem_of_getElem? (i := 2) rfl)) rfl rfl dJ5_ensureCapacityInternal_d00df_6 ?_
  refine lv_ishr hx hb dJ5_ensureCapacityInternal_d00df_9 ?_
  refine mv_top (y := nI cap) (sb_shr0 _) ?_
  refine lv_istore_n (lv' := [(2, .int (nI cap)), (0, .ref sb), (1, .int (nI q))]) hx hb dJ5_ensureCapacityInternal_d00df_10 rfl hl (by decide) rfl (fun ls hl => ?_)
  refine lv_iload_n hx hb dJ5_ensureCapacityInternal_d00df_11 rfl (lv_at hl 2 rfl) ?_
  refine lv_iload_n hx hb dJ5_ensureCapacityInternal_d00df_12 rfl (lv_at hl 0 rfl) ?_
  refine lv_isub hx hb dJ5_ensureCapacityInternal_d00df_13 ?_
  refine lv_if_le (tgt := 38) hx hb dJ5_ensureCapacityInternal_d00df_14 (by decide) (fun hq9 => absurd hq9 (sub_gt0 hq (by omega))) (fun _ => ?_)
  refine lv_aload_n hx hb dJ5_ensureCapacityInternal_d00df_17 rfl (lv_at hl 1 rfl) ?_
  refine lv_aload_n hx hb dJ5_ensureCapacityInternal_d00df_18 rfl (lv_at hl 1 rfl) ?_
  refine mm_get (C := RJ4) (T := TJ4) (N := 4) (k := 0) hx hb hts (fun _ h => List.mem_cons_of_mem _ (List.mem_append_right _ h)) hown hK hM h_sb rfl (by decide) (hts (.fieldLink RJ5 15 "java/lang/AbstractStringBuilder" "value" "[B") (List.mem_of_getElem? (i := 1) rfl)) rfl rfl dJ5_ensureCapacityInternal_d00df_19 ?_
  refine lv_aload_n hx hb dJ5_ensureCapacityInternal_d00df_22 rfl (lv_at hl 1 rfl) ?_
  refine lv_iload_n hx hb dJ5_ensureCapacityInternal_d00df_23 rfl (lv_at hl 2 rfl) ?_
  refine mm_U (As := [.int (nI q)]) (rest := [.ref va, .ref sb]) ⟨hx, hb, hml, hown, hts⟩ (j5_newCapacity l G h_sb h_va q (by omega) (by omega) (by omega) (by omega)) (va_cwU 1 hts gJ5_ensureCapacityInternal_d00df_J5_newCapacity_0f7a4_u104J4 rfl rfl rfl rfl (by decide +kernel) ⟨(by first | exact Nat.le_of_ble_eq_true rfl | omega | (dsimp only; omega)), (by first | exact Nat.le_of_ble_eq_true rfl | omega | (dsimp only; omega))⟩) hK hE hA hM (mm_recv hK hM h_sb (q := (RJ4, TJ4, 4)) rfl) rfl hl.1 rfl (by first | exact Nat.le_of_ble_eq_true rfl | omega | (dsimp only; omega)) dJ5_ensureCapacityInternal_d00df_24 ⟨(by first | exact Nat.le_of_ble_eq_true rfl | omega | (dsimp only; omega)), (by first | exact Nat.le_of_ble_eq_true rfl | omega | (dsimp only; omega))⟩ (fun v f1 Hp lcs hp hM => ?_)
  obtain ⟨rfl, hf⟩ := hp; subst hf
  refine lv_aload_n hx hb dJ5_ensureCapacityInternal_d00df_27 rfl (lv_at hl 1 rfl) ?_
  refine mm_get (C := RJ4) (T := TJ4) (N := 4) (k := 1) hx hb hts (fun _ h => List.mem_cons_of_mem _ (List.mem_append_right _ h)) hown hK hM h_sb rfl (by decide) (hts (.fieldLink RJ5 22 "java/lang/AbstractStringBuilder" "coder" "B") (List.mem_of_getElem? (i := 2) rfl)) rfl rfl dJ5_ensureCapacityInternal_d00df_28 ?_
  refine lv_ishl hx hb dJ5_ensureCapacityInternal_d00df_31 ?_
  refine mv_top (y := nI (2 * cap + 2)) (sb_shr0l _) ?_
  refine mm_S (As := [.ref va, .int (nI (2 * cap + 2))]) (rest := [.ref sb]) ⟨hx, hb, hml, hown, hts⟩ (j7_copyOf l G h_va hfit (2 * cap + 2) (by omega) (by omega)) (va_cwS 2 hts gJ5_ensureCapacityInternal_d00df_J7_copyOf_9075b rfl rfl rfl (by decide +kernel) ⟨(by first | exact Nat.le_of_ble_eq_true rfl | omega | (dsimp only; omega)), (by first | exact Nat.le_of_ble_eq_true rfl | omega | (dsimp only; omega))⟩) hK hE hA hM rfl hl.1 rfl (by first | exact Nat.le_of_ble_eq_true rfl | omega | (dsimp only; omega)) dJ5_ensureCapacityInternal_d00df_32 ⟨(by first | exact Nat.le_of_ble_eq_true rfl | omega | (dsimp only; omega)), (by first | exact Nat.le_of_ble_eq_true rfl | omega | (dsimp only; omega))⟩ (fun v gz1 Hp lcs hp hM => ?_)
  obtain ⟨qz2, rfl, nz3, hz4, rz5⟩ := hp
  have fo6 : f qz2 = none := fresh_of (fun e hb => hF qz2 e hb (ne_none h_sb nz3).symm) nz3
  have ne7 := ne_none h_sb nz3
  have hz8 := rz5 _ _ h_sb
  have ne9 := ne_none h_va nz3
  have hz10 := rz5 _ _ h_va
  have hF := fun w9 e (hb : f w9 = some e) (hn0 : w9 ≠ sb) => rz5 w9 e (hF w9 e hb hn0)
  refine mv_val (y := .ref qz2) rfl ?_
  refine mm_put (C := RJ4) (T := TJ4) (N := 4) (k := 0) hx hb hts (fun _ h => List.mem_cons_of_mem _ (List.mem_append_right _ h)) tyJ4 tyJ4_ok nmJ4 hown hK hM hz8 rfl (by decide) (hts (.fieldLink RJ5 15 "java/lang/AbstractStringBuilder" "value" "[B") (List.mem_of_getElem? (i := 1) rfl)) rfl rfl rfl rfl (by first | exact Nat.le_of_ble_eq_true rfl | omega | (dsimp only; omega)) dJ5_ensureCapacityInternal_d00df_35 (fun Hp lcs hM => ?_)
  obtain ⟨gz11, hM, hz12, rz13⟩ := hM.up
  have hz14 := (rz13 _ (ne_oi hz8 hz10).symm).trans hz10
  have hz15 := (rz13 _ (Ne.symm ne7)).trans hz4
  have hF := fun w9 e (hb : f w9 = some e) (hn0 : w9 ≠ sb) => (rz13 w9 hn0).trans (hF w9 e hb hn0)
  exact mm_vret hx hb hlocks hr (by first | exact Nat.le_of_ble_eq_true rfl | omega | (dsimp only; omega)) (by first | exact Nat.le_of_ble_eq_true rfl | omega | (dsimp only; omega)) hM (⟨rfl, qz2, fo6, hz12, hz15, hF⟩) dJ5_ensureCapacityInternal_d00df_38
set_option maxHeartbeats 4000000 in
set_option maxRecDepth 100000 in
theorem j1_canEncode (l : Launch) (G : mG) (f : mE) (x : Nat) (hx8 : x < 128) : mC l G yJ1_canEncode_fc78d wsJ1_canEncode_fc78d ({ frames := 0, cells := 0, slots := 0, locals := 0 } : Room) f [.int (nI x)] (fun v f1 => v = some (.int (bI (true))) ∧ f = f1) 0 0 := by
  refine mC.ofF (cc := cJ1_canEncode_fc78d) (maxL := 1) (ret := (some .boolean)) (by decide +kernel) rfl (Nat.le_of_ble_eq_true rfl) ?_
  intro pgm env s mt args below meth c A ls hx hb hml hr hlocks hown hname hts hK hE hA hM hl
  have hl : lv_has ls 1 [(0, .int (nI x))] := hl
  have hF := fun w9 e (hb : f w9 = some e)  => hb
  refine lv_iload_n hx hb dJ1_canEncode_fc78d_0 rfl (lv_at hl 0 rfl) ?_
  refine lv_sipush (v := (nI 255)) hx hb dJ1_canEncode_fc78d_1 (by decide +kernel) ?_
  refine ln_icmp_gt x 255 (by omega) (by omega) (tgt := 11) hx hb dJ1_canEncode_fc78d_4 (by decide) (fun cz1 => ?_) (fun cz1 => ?_)
  · exact absurd cz1 (by omega)
  refine lv_iconst (v := (nI 1)) hx hb dJ1_canEncode_fc78d_7 (by decide +kernel) ?_
  refine lv_goto (tgt := 12) hx hb dJ1_canEncode_fc78d_8 (by decide) ?_
  exact mm_zret hx hb hlocks hr (by first | rfl | exact bI_nar _ | exact nar_c _ (by assumption) | exact nar_x hch) (Nat.le_of_ble_eq_true rfl) (Nat.le_of_ble_eq_true rfl) hM (⟨rfl, rfl⟩) dJ1_canEncode_fc78d_12
set_option maxHeartbeats 4000000 in
set_option maxRecDepth 100000 in
theorem j5_appC0 (l : Launch) (G : mG) {f : mE} {sb va ct cap : Nat} {ml : Int32} {by1 : Nat → Int32} (h_sb : f sb = some (.inr (0, [.ref va, .int (nI 0), .int ml, .int (nI ct)]))) (h_va : f va = some (mB G cap by1)) (x : Nat) (hx8 : x < 128) (hq : ct + 1 ≤ cap) (hc2 : cap ≤ 32000) : mC l G yJ5_append_3fe6f wsJ5_append_3fe6f ({ frames := 4, cells := 0, slots := 0, locals := 91 } : Room) f [.ref sb, .int (nI x)] (fun v f1 => v = some (va_rf (some sb)) ∧ f1 sb = some (.inr (0, [.ref va, .int (nI 0), .int ml, .int (nI (ct + 1))])) ∧ f1 va = some (mB G cap (upd by1 ct (nI x))) ∧ ∀ b e, f b = some e → b ≠ sb → b ≠ va → f1 b = some e) 0 0 := by
  refine mC.ofF (cc := cJ5_append_3fe6f) (maxL := 2) (ret := (some (.object "java/lang/AbstractStringBuilder"))) (by decide +kernel) rfl (Nat.le_of_ble_eq_true rfl) ?_
  intro pgm env s mt args below meth c A ls hx hb hml hr hlocks hown hname hts hK hE hA hM hl
  have hl : lv_has ls 2 [(0, .ref sb), (1, .int (nI x))] := hl
  have hF := fun w9 e (hb : f w9 = some e) (_ : w9 ≠ sb) (_ : w9 ≠ va) => hb
  refine lv_aload_n hx hb dJ5_append_3fe6f_0 rfl (lv_at hl 0 rfl) ?_
  refine lv_aload_n hx hb dJ5_append_3fe6f_1 rfl (lv_at hl 0 rfl) ?_
  refine mm_get (C := RJ4) (T := TJ4) (N := 4) (k := 3) hx hb hts (fun _ h => List.mem_cons_of_mem _ (List.mem_append_right _ h)) hown hK hM h_sb rfl (by decide) (hts (.fieldLink RJ5 79 "java/lang/AbstractStringBuilder" "count" "I") (List.mem_of_getElem? (i := 1) rfl)) rfl rfl dJ5_append_3fe6f_2 ?_
  refine lv_iconst (v := (nI 1)) hx hb dJ5_append_3fe6f_5 (by decide +kernel) ?_
  refine ln_iadd ct 1 hx hb dJ5_append_3fe6f_6 ?_
  refine mm_U (As := [.int (nI (ct + 1))]) (rest := []) ⟨hx, hb, hml, hown, hts⟩ (j5_ensure0 l G h_sb h_va (ct + 1) (by omega) (by omega)) (va_cwU 1 hts gJ5_append_3fe6f_J5_ensureCapacityInternal_d00df_u100J4 rfl rfl rfl rfl (by decide +kernel) ⟨Nat.le_of_ble_eq_true rfl, Nat.le_of_ble_eq_true rfl⟩) hK hE hA hM (mm_recv hK hM h_sb (q := (RJ4, TJ4, 4)) rfl) rfl hl.1 rfl (Nat.le_of_ble_eq_true rfl) dJ5_append_3fe6f_7 ⟨Nat.le_of_ble_eq_true rfl, Nat.le_of_ble_eq_true rfl⟩ (fun v f1 Hp lcs hp hM => ?_)
  obtain ⟨rfl, hf⟩ := hp; subst hf
  refine lv_aload_n hx hb dJ5_append_3fe6f_10 rfl (lv_at hl 0 rfl) ?_
  refine mm_U (As := []) (rest := []) ⟨hx, hb, hml, hown, hts⟩ (j5_isLatin1 l G h_sb h_va) (va_cwU 0 hts gJ5_append_3fe6f_J5_isLatin1_aae02_u83J4 rfl rfl rfl rfl (by decide +kernel) ⟨Nat.le_of_ble_eq_true rfl, Nat.le_of_ble_eq_true rfl⟩) hK hE hA hM (mm_recv hK hM h_sb (q := (RJ4, TJ4, 4)) rfl) rfl hl.1 rfl (Nat.le_of_ble_eq_true rfl) dJ5_append_3fe6f_11 ⟨Nat.le_of_ble_eq_true rfl, Nat.le_of_ble_eq_true rfl⟩ (fun v f1 Hp lcs hp hM => ?_)
  obtain ⟨rfl, hf⟩ := hp; subst hf
  refine lv_if_eq (tgt := 45) hx hb dJ5_append_3fe6f_14 (by decide) (fun hq9 => absurd hq9 (by decide)) (fun _ => ?_)
  refine lv_iload_n hx hb dJ5_append_3fe6f_17 rfl (lv_at hl 1 rfl) ?_
  refine mm_S (As := [.int (nI x)]) (rest := []) ⟨hx, hb, hml, hown, hts⟩ (j1_canEncode l G _ x (by omega)) (va_cwS 1 hts gJ5_append_3fe6f_J1_canEncode_fc78d rfl rfl rfl (by decide +kernel) ⟨Nat.le_of_ble_eq_true rfl, Nat.le_of_ble_eq_true rfl⟩) hK hE hA hM rfl hl.1 rfl (Nat.le_of_ble_eq_true rfl) dJ5_append_3fe6f_18 ⟨Nat.le_of_ble_eq_true rfl, Nat.le_of_ble_eq_true rfl⟩ (fun v f1 Hp lcs hp hM => ?_)
  obtain ⟨rfl, hf⟩ := hp; subst hf
  refine lv_if_eq (tgt := 45) hx hb dJ5_append_3fe6f_21 (by decide) (fun hq9 => absurd hq9 (by decide)) (fun _ => ?_)
  refine lv_aload_n hx hb dJ5_append_3fe6f_24 rfl (lv_at hl 0 rfl) ?_
  refine mm_get (C := RJ4) (T := TJ4) (N := 4) (k := 0) hx hb hts (fun _ h => List.mem_cons_of_mem _ (List.mem_append_right _ h)) hown hK hM h_sb rfl (by decide) (hts (.fieldLink RJ5 15 "java/lang/AbstractStringBuilder" "value" "[B") (List.mem_of_getElem? (i := 2) rfl)) rfl rfl dJ5_append_3fe6f_25 ?_
  refine lv_aload_n hx hb dJ5_append_3fe6f_28 rfl (lv_at hl 0 rfl) ?_
  refine lv_dup hx hb dJ5_append_3fe6f_29 rfl ?_
  refine mm_get (C := RJ4) (T := TJ4) (N := 4) (k := 3) hx hb hts (fun _ h => List.mem_cons_of_mem _ (List.mem_append_right _ h)) hown hK hM h_sb rfl (by decide) (hts (.fieldLink RJ5 79 "java/lang/AbstractStringBuilder" "count" "I") (List.mem_of_getElem? (i := 1) rfl)) rfl rfl dJ5_append_3fe6f_30 ?_
  refine lv_dup_x1 hx hb dJ5_append_3fe6f_33 rfl rfl ?_
  refine lv_iconst (v := (nI 1)) hx hb dJ5_append_3fe6f_34 (by decide +kernel) ?_
  refine ln_iadd ct 1 hx hb dJ5_append_3fe6f_35 ?_
  refine mm_put (C := RJ4) (T := TJ4) (N := 4) (k := 3) hx hb hts (fun _ h => List.mem_cons_of_mem _ (List.mem_append_right _ h)) tyJ4 tyJ4_ok nmJ4 hown hK hM h_sb rfl (by decide) (hts (.fieldLink RJ5 79 "java/lang/AbstractStringBuilder" "count" "I") (List.mem_of_getElem? (i := 1) rfl)) rfl rfl rfl rfl (Nat.le_of_ble_eq_true rfl) dJ5_append_3fe6f_36 (fun Hp lcs hM => ?_)
  obtain ⟨gz1, hM, hz2, rz3⟩ := hM.up
  have hz4 := (rz3 _ (ne_oi h_sb h_va).symm).trans h_va
  have hF := fun w9 e (hb : f w9 = some e) (hn0 : w9 ≠ sb) (hn1 : w9 ≠ va) => (rz3 w9 hn0).trans (hF w9 e hb hn0 hn1)
  refine lv_iload_n hx hb dJ5_append_3fe6f_39 rfl (lv_at hl 1 rfl) ?_
  refine lv_i2b (v := (nI x)) hx hb dJ5_append_3fe6f_40 (i2b_nI (by omega)) ?_
  refine mm_bast hx hb hK hM hz4 ct (nb_nI (by omega)) (by omega) (by omega) dJ5_append_3fe6f_41 (fun Hp lcs hM => ?_)
  obtain ⟨gz5, hM, hz6, rz7⟩ := hM.up
  have hz8 := (rz7 _ (ne_oi hz2 hz4)).trans hz2
  have hF := fun w9 e (hb : f w9 = some e) (hn0 : w9 ≠ sb) (hn1 : w9 ≠ va) => (rz7 w9 hn1).trans (hF w9 e hb hn0 hn1)
  refine lv_goto (tgt := 75) hx hb dJ5_append_3fe6f_42 (by decide) ?_
  refine lv_aload_n hx hb dJ5_append_3fe6f_75 rfl (lv_at hl 0 rfl) ?_
  exact mm_aret (r := (some sb)) hx hb hlocks hr (by first | exact Or.inl ⟨_, rfl⟩ | exact Or.inr ⟨_, rfl⟩) (Nat.le_of_ble_eq_true rfl) (Nat.le_of_ble_eq_true rfl) hM (⟨rfl, hz8, hz6, hF⟩) dJ5_append_3fe6f_76
set_option maxHeartbeats 4000000 in
set_option maxRecDepth 100000 in
theorem j5_appC1 (l : Launch) (G : mG) {f : mE} {sb va ct cap : Nat} {ml : Int32} {by1 : Nat → Int32} (h_sb : f sb = some (.inr (0, [.ref va, .int (nI 0), .int ml, .int (nI ct)]))) (h_va : f va = some (mB G cap by1)) (x : Nat) (hx8 : x < 128) (hfit : sb_Fit by1) (hq : cap < ct + 1) (hct : ct ≤ cap) (hc : 16 ≤ cap) (hc2 : cap ≤ 15000) : mC l G yJ5_append_3fe6f wsJ5_append_3fe6f ({ frames := 4, cells := (cap + 2), slots := (2 * (cap + 2)), locals := 91 } : Room) f [.ref sb, .int (nI x)] (fun v f1 => v = some (va_rf (some sb)) ∧ ∃ z : Nat, f z = none ∧ f1 sb = some (.inr (0, [.ref z, .int (nI 0), .int ml, .int (nI (ct + 1))])) ∧ f1 z = some (mB G (2 * cap + 2) (upd (va_cpy by1 (fun _ => 0) 0 0 cap) ct (nI x))) ∧ ∀ b e, f b = some e → b ≠ sb → b ≠ va → f1 b = some e) (cap + 2) (2 * (cap + 2)) := by
  refine mC.ofF (cc := cJ5_append_3fe6f) (maxL := 2) (ret := (some (.object "java/lang/AbstractStringBuilder"))) (by decide +kernel) rfl (Nat.le_of_ble_eq_true rfl) ?_
  intro pgm env s mt args below meth c A ls hx hb hml hr hlocks hown hname hts hK hE hA hM hl
  have hl : lv_has ls 2 [(0, .ref sb), (1, .int (nI x))] := hl
  have hF := fun w9 e (hb : f w9 = some e) (_ : w9 ≠ sb) (_ : w9 ≠ va) => hb
  refine lv_aload_n hx hb dJ5_append_3fe6f_0 rfl (lv_at hl 0 rfl) ?_
  refine lv_aload_n hx hb dJ5_append_3fe6f_1 rfl (lv_at hl 0 rfl) ?_
  refine mm_get (C := RJ4) (T := TJ4) (N := 4) (k := 3) hx hb hts (fun _ h => List.mem_cons_of_mem _ (List.mem_append_right _ h)) hown hK hM h_sb rfl (by decide) (hts (.fieldLink RJ5 79 "java/lang/AbstractStringBuilder" "count" "I") (List.mem_of_getElem? (i := 1) rfl)) rfl rfl dJ5_append_3fe6f_2 ?_
  refine lv_iconst (v := (nI 1)) hx hb dJ5_append_3fe6f_5 (by decide +kernel) ?_
  refine ln_iadd ct 1 hx hb dJ5_append_3fe6f_6 ?_
  refine mm_U (As := [.int (nI (ct + 1))]) (rest := []) ⟨hx, hb, hml, hown, hts⟩ (j5_ensure1 l G h_sb h_va hfit (ct + 1) (by omega) (by omega) (by omega) (by omega)) (va_cwU 1 hts gJ5_append_3fe6f_J5_ensureCapacityInternal_d00df_u100J4 rfl rfl rfl rfl (by decide +kernel) ⟨(by first | exact Nat.le_of_ble_eq_true rfl | omega | (dsimp only; omega)), (by first | exact Nat.le_of_ble_eq_true rfl | omega | (dsimp only; omega))⟩) hK hE hA hM (mm_recv hK hM h_sb (q := (RJ4, TJ4, 4)) rfl) rfl hl.1 rfl (by first | exact Nat.le_of_ble_eq_true rfl | omega | (dsimp only; omega)) dJ5_append_3fe6f_7 ⟨(by first | exact Nat.le_of_ble_eq_true rfl | omega | (dsimp only; omega)), (by first | exact Nat.le_of_ble_eq_true rfl | omega | (dsimp only; omega))⟩ (fun v gz1 Hp lcs hp hM => ?_)
  obtain ⟨rfl, qz2, nz3, hz4, hz5, rz6⟩ := hp
  have fo7 : f qz2 = none := fresh_of (fun e hb => hF qz2 e hb (ne_none h_sb nz3).symm (ne_none h_va nz3).symm) nz3
  have ne8 := ne_none h_sb nz3
  have ne9 := ne_none h_va nz3
  have hz10 := rz6 _ _ h_va (ne_oi h_sb h_va).symm
  have hF := fun w9 e (hb : f w9 = some e) (hn0 : w9 ≠ sb) (hn1 : w9 ≠ va) => rz6 w9 e (hF w9 e hb hn0 hn1) hn0
  refine lv_aload_n hx hb dJ5_append_3fe6f_10 rfl (lv_at hl 0 rfl) ?_
  refine mm_U (As := []) (rest := []) ⟨hx, hb, hml, hown, hts⟩ (j5_isLatin1 l G hz4 hz5) (va_cwU 0 hts gJ5_append_3fe6f_J5_isLatin1_aae02_u83J4 rfl rfl rfl rfl (by decide +kernel) ⟨(by first | exact Nat.le_of_ble_eq_true rfl | omega | (dsimp only; omega)), (by first | exact Nat.le_of_ble_eq_true rfl | omega | (dsimp only; omega))⟩) hK hE hA hM (mm_recv hK hM hz4 (q := (RJ4, TJ4, 4)) rfl) rfl hl.1 rfl (by first | exact Nat.le_of_ble_eq_true rfl | omega | (dsimp only; omega)) dJ5_append_3fe6f_11 ⟨(by first | exact Nat.le_of_ble_eq_true rfl | omega | (dsimp only; omega)), (by first | exact Nat.le_of_ble_eq_true rfl | omega | (dsimp only; omega))⟩ (fun v f1 Hp lcs hp hM => ?_)
  obtain ⟨rfl, hf⟩ := hp; subst hf
  refine lv_if_eq (tgt := 45) hx hb dJ5_append_3fe6f_14 (by decide) (fun hq9 => absurd hq9 (by decide)) (fun _ => ?_)
  refine lv_iload_n hx hb dJ5_append_3fe6f_17 rfl (lv_at hl 1 rfl) ?_
  refine mm_S (As := [.int (nI x)]) (rest := []) ⟨hx, hb, hml, hown, hts⟩ (j1_canEncode l G _ x (by omega)) (va_cwS 1 hts gJ5_append_3fe6f_J1_canEncode_fc78d rfl rfl rfl (by decide +kernel) ⟨(by first | exact Nat.le_of_ble_eq_true rfl | omega | (dsimp only; omega)), (by first | exact Nat.le_of_ble_eq_true rfl | omega | (dsimp only; omega))⟩) hK hE hA hM rfl hl.1 rfl (by first | exact Nat.le_of_ble_eq_true rfl | omega | (dsimp only; omega)) dJ5_append_3fe6f_18 ⟨(by first | exact Nat.le_of_ble_eq_true rfl | omega | (dsimp only; omega)), (by first | exact Nat.le_of_ble_eq_true rfl | omega | (dsimp only; omega))⟩ (fun v f1 Hp lcs hp hM => ?_)
  obtain ⟨rfl, hf⟩ := hp; subst hf
  refine lv_if_eq (tgt := 45) hx hb dJ5_append_3fe6f_21 (by decide) (fun hq9 => absurd hq9 (by decide)) (fun _ => ?_)
  refine lv_aload_n hx hb dJ5_append_3fe6f_24 rfl (lv_at hl 0 rfl) ?_
  refine mm_get (C := RJ4) (T := TJ4) (N := 4) (k := 0) hx hb hts (fun _ h => List.mem_cons_of_mem _ (List.mem_append_right _ h)) hown hK hM hz4 rfl (by decide) (hts (.fieldLink RJ5 15 "java/lang/AbstractStringBuilder" "value" "[B") (List.mem_of_getElem? (i := 2) rfl)) rfl rfl dJ5_append_3fe6f_25 ?_
  refine lv_aload_n hx hb dJ5_append_3fe6f_28 rfl (lv_at hl 0 rfl) ?_
  refine lv_dup hx hb dJ5_append_3fe6f_29 rfl ?_
  refine mm_get (C := RJ4) (T := TJ4) (N := 4) (k := 3) hx hb hts (fun _ h => List.mem_cons_of_mem _ (List.mem_append_right _ h)) hown hK hM hz4 rfl (by decide) (hts (.fieldLink RJ5 79 "java/lang/AbstractStringBuilder" "count" "I") (List.mem_of_getElem? (i := 1) rfl)) rfl rfl dJ5_append_3fe6f_30 ?_
  refine lv_dup_x1 hx hb dJ5_append_3fe6f_33 rfl rfl ?_
  refine lv_iconst (v := (nI 1)) hx hb dJ5_append_3fe6f_34 (by decide +kernel) ?_
  refine ln_iadd ct 1 hx hb dJ5_append_3fe6f_35 ?_
  refine mm_put (C := RJ4) (T := TJ4) (N := 4) (k := 3) hx hb hts (fun _ h => List.mem_cons_of_mem _ (List.mem_append_right _ h)) tyJ4 tyJ4_ok nmJ4 hown hK hM hz4 rfl (by decide) (hts (.fieldLink RJ5 79 "java/lang/AbstractStringBuilder" "count" "I") (List.mem_of_getElem? (i := 1) rfl)) rfl rfl rfl rfl (by first | exact Nat.le_of_ble_eq_true rfl | omega | (dsimp only; omega)) dJ5_append_3fe6f_36 (fun Hp lcs hM => ?_)
  obtain ⟨gz11, hM, hz12, rz13⟩ := hM.up
  have hz14 := (rz13 _ (ne_oi hz4 hz10).symm).trans hz10
  have hz15 := (rz13 _ (Ne.symm ne8)).trans hz5
  have hF := fun w9 e (hb : f w9 = some e) (hn0 : w9 ≠ sb) (hn1 : w9 ≠ va) => (rz13 w9 hn0).trans (hF w9 e hb hn0 hn1)
  refine lv_iload_n hx hb dJ5_append_3fe6f_39 rfl (lv_at hl 1 rfl) ?_
  refine lv_i2b (v := (nI x)) hx hb dJ5_append_3fe6f_40 (i2b_nI (by omega)) ?_
  refine mm_bast hx hb hK hM hz15 ct (nb_nI (by omega)) (by omega) (by omega) dJ5_append_3fe6f_41 (fun Hp lcs hM => ?_)
  obtain ⟨gz16, hM, hz17, rz18⟩ := hM.up
  have hz19 := (rz18 _ ne9).trans hz14
  have hz20 := (rz18 _ ne8).trans hz12
  have hF := fun w9 e (hb : f w9 = some e) (hn0 : w9 ≠ sb) (hn1 : w9 ≠ va) => (rz18 w9 (ne_none hb fo7)).trans (hF w9 e hb hn0 hn1)
  refine lv_goto (tgt := 75) hx hb dJ5_append_3fe6f_42 (by decide) ?_
  refine lv_aload_n hx hb dJ5_append_3fe6f_75 rfl (lv_at hl 0 rfl) ?_
  exact mm_aret (r := (some sb)) hx hb hlocks hr (by first | exact Or.inl ⟨_, rfl⟩ | exact Or.inr ⟨_, rfl⟩) (by first | exact Nat.le_of_ble_eq_true rfl | omega | (dsimp only; omega)) (by first | exact Nat.le_of_ble_eq_true rfl | omega | (dsimp only; omega)) hM (⟨rfl, qz2, fo7, hz20, hz17, hF⟩) dJ5_append_3fe6f_76
set_option maxHeartbeats 4000000 in
set_option maxRecDepth 100000 in
theorem j4_appC0 (l : Launch) (G : mG) {f : mE} {sb va ct cap : Nat} {ml : Int32} {by1 : Nat → Int32} (h_sb : f sb = some (.inr (0, [.ref va, .int (nI 0), .int ml, .int (nI ct)]))) (h_va : f va = some (mB G cap by1)) (x : Nat) (hx8 : x < 128) (hq : ct + 1 ≤ cap) (hc2 : cap ≤ 32000) : mC l G yJ4_append_cf468 wsJ4_append_cf468 ({ frames := 5, cells := 0, slots := 0, locals := 112 } : Room) f [.ref sb, .int (nI x)] (fun v f1 => v = some (va_rf (some sb)) ∧ f1 sb = some (.inr (0, [.ref va, .int (nI 0), .int ml, .int (nI (ct + 1))])) ∧ f1 va = some (mB G cap (upd by1 ct (nI x))) ∧ ∀ b e, f b = some e → b ≠ sb → b ≠ va → f1 b = some e) 0 0 := by
  refine mC.ofF (cc := cJ4_append_cf468) (maxL := 2) (ret := (some (.object "java/lang/StringBuilder"))) (by decide +kernel) rfl (Nat.le_of_ble_eq_true rfl) ?_
  intro pgm env s mt args below meth c A ls hx hb hml hr hlocks hown hname hts hK hE hA hM hl
  have hl : lv_has ls 2 [(0, .ref sb), (1, .int (nI x))] := hl
  have hF := fun w9 e (hb : f w9 = some e) (_ : w9 ≠ sb) (_ : w9 ≠ va) => hb
  refine lv_aload_n hx hb dJ4_append_cf468_0 rfl (lv_at hl 0 rfl) ?_
  refine lv_iload_n hx hb dJ4_append_cf468_1 rfl (lv_at hl 1 rfl) ?_
  refine mm_SU (As := [.int (nI x)]) (rest := []) (hK.1 0 _ rfl).2 ⟨hx, hb, hml, hown, hts⟩ (j5_appC0 l G h_sb h_va x (by omega) (by omega) (by omega)) (va_cwSU 1 hts gJ4_append_cf468_J5_append_3fe6f_s50 rfl rfl rfl (by decide +kernel) ⟨Nat.le_of_ble_eq_true rfl, Nat.le_of_ble_eq_true rfl⟩) hK hE hA hM (mm_recv hK hM h_sb (q := (RJ4, TJ4, 4)) rfl) rfl hl.1 rfl (Nat.le_of_ble_eq_true rfl) dJ4_append_cf468_2 ⟨Nat.le_of_ble_eq_true rfl, Nat.le_of_ble_eq_true rfl⟩ (fun v gz1 Hp lcs hp hM => ?_)
  obtain ⟨rfl, hz2, hz3, rz4⟩ := hp
  have hF := fun w9 e (hb : f w9 = some e) (hn0 : w9 ≠ sb) (hn1 : w9 ≠ va) => rz4 w9 e (hF w9 e hb hn0 hn1) hn0 hn1
  refine mv_val (y := .ref sb) rfl ?_
  refine lv_pop hx hb dJ4_append_cf468_5 rfl ?_
  refine lv_aload_n hx hb dJ4_append_cf468_6 rfl (lv_at hl 0 rfl) ?_
  exact mm_aret (r := (some sb)) hx hb hlocks hr (by first | exact Or.inl ⟨_, rfl⟩ | exact Or.inr ⟨_, rfl⟩) (Nat.le_of_ble_eq_true rfl) (Nat.le_of_ble_eq_true rfl) hM (⟨rfl, hz2, hz3, hF⟩) dJ4_append_cf468_7
set_option maxHeartbeats 4000000 in
set_option maxRecDepth 100000 in
theorem j4_appC1 (l : Launch) (G : mG) {f : mE} {sb va ct cap : Nat} {ml : Int32} {by1 : Nat → Int32} (h_sb : f sb = some (.inr (0, [.ref va, .int (nI 0), .int ml, .int (nI ct)]))) (h_va : f va = some (mB G cap by1)) (x : Nat) (hx8 : x < 128) (hfit : sb_Fit by1) (hq : cap < ct + 1) (hct : ct ≤ cap) (hc : 16 ≤ cap) (hc2 : cap ≤ 15000) : mC l G yJ4_append_cf468 wsJ4_append_cf468 ({ frames := 5, cells := (cap + 2), slots := (2 * (cap + 2)), locals := 112 } : Room) f [.ref sb, .int (nI x)] (fun v f1 => v = some (va_rf (some sb)) ∧ ∃ z : Nat, f z = none ∧ f1 sb = some (.inr (0, [.ref z, .int (nI 0), .int ml, .int (nI (ct + 1))])) ∧ f1 z = some (mB G (2 * cap + 2) (upd (va_cpy by1 (fun _ => 0) 0 0 cap) ct (nI x))) ∧ ∀ b e, f b = some e → b ≠ sb → b ≠ va → f1 b = some e) (cap + 2) (2 * (cap + 2)) := by
  refine mC.ofF (cc := cJ4_append_cf468) (maxL := 2) (ret := (some (.object "java/lang/StringBuilder"))) (by decide +kernel) rfl (Nat.le_of_ble_eq_true rfl) ?_
  intro pgm env s mt args below meth c A ls hx hb hml hr hlocks hown hname hts hK hE hA hM hl
  have hl : lv_has ls 2 [(0, .ref sb), (1, .int (nI x))] := hl
  have hF := fun w9 e (hb : f w9 = some e) (_ : w9 ≠ sb) (_ : w9 ≠ va) => hb
  refine lv_aload_n hx hb dJ4_append_cf468_0 rfl (lv_at hl 0 rfl) ?_
  refine lv_iload_n hx hb dJ4_append_cf468_1 rfl (lv_at hl 1 rfl) ?_
  refine mm_SU (As := [.int (nI x)]) (rest := []) (hK.1 0 _ rfl).2 ⟨hx, hb, hml, hown, hts⟩ (j5_appC1 l G h_sb h_va x (by omega) hfit (by omega) (by omega) (by omega) (by omega)) (va_cwSU 1 hts gJ4_append_cf468_J5_append_3fe6f_s50 rfl rfl rfl (by decide +kernel) ⟨(by first | exact Nat.le_of_ble_eq_true rfl | omega | (dsimp only; omega)), (by first | exact Nat.le_of_ble_eq_true rfl | omega | (dsimp only; omega))⟩) hK hE hA hM (mm_recv hK hM h_sb (q := (RJ4, TJ4, 4)) rfl) rfl hl.1 rfl (by first | exact Nat.le_of_ble_eq_true rfl | omega | (dsimp only; omega)) dJ4_append_cf468_2 ⟨(by first | exact Nat.le_of_ble_eq_true rfl | omega | (dsimp only; omega)), (by first | exact Nat.le_of_ble_eq_true rfl | omega | (dsimp only; omega))⟩ (fun v gz1 Hp lcs hp hM => ?_)
  obtain ⟨rfl, qz5, nz6, hz2, hz3, rz4⟩ := hp
  have hF := fun w9 e (hb : f w9 = some e) (hn0 : w9 ≠ sb) (hn1 : w9 ≠ va) => rz4 w9 e (hF w9 e hb hn0 hn1) hn0 hn1
  refine mv_val (y := .ref sb) rfl ?_
  refine lv_pop hx hb dJ4_append_cf468_5 rfl ?_
  refine lv_aload_n hx hb dJ4_append_cf468_6 rfl (lv_at hl 0 rfl) ?_
  exact mm_aret (r := (some sb)) hx hb hlocks hr (by first | exact Or.inl ⟨_, rfl⟩ | exact Or.inr ⟨_, rfl⟩) (by first | exact Nat.le_of_ble_eq_true rfl | omega | (dsimp only; omega)) (by first | exact Nat.le_of_ble_eq_true rfl | omega | (dsimp only; omega)) hM (⟨rfl, qz5, nz6, hz2, hz3, hF⟩) dJ4_append_cf468_7
set_option maxHeartbeats 4000000 in
set_option maxRecDepth 100000 in
theorem j5_length (l : Launch) (G : mG) {f : mE} {sb va ct cap : Nat} {ml : Int32} {by1 : Nat → Int32} (h_sb : f sb = some (.inr (0, [.ref va, .int (nI 0), .int ml, .int (nI ct)]))) (h_va : f va = some (mB G cap by1)) : mC l G yJ5_length_8abf5 wsJ5_length_8abf5 ({ frames := 0, cells := 0, slots := 0, locals := 0 } : Room) f [.ref sb] (fun v f1 => v = some (.int (nI ct)) ∧ f = f1) 0 0 := by
  refine mC.ofF (cc := cJ5_length_8abf5) (maxL := 1) (ret := (some .int)) (by decide +kernel) rfl (Nat.le_of_ble_eq_true rfl) ?_
  intro pgm env s mt args below meth c A ls hx hb hml hr hlocks hown hname hts hK hE hA hM hl
  have hl : lv_has ls 1 [(0, .ref sb)] := hl
  have hF := fun w9 e (hb : f w9 = some e)  => hb
  refine lv_aload_n hx hb dJ5_length_8abf5_0 rfl (lv_at hl 0 rfl) ?_
  refine mm_get (C := RJ4) (T := TJ4) (N := 4) (k := 3) hx hb hts (fun _ h => List.mem_cons_of_mem _ (List.mem_append_right _ h)) hown hK hM h_sb rfl (by decide) (hts (.fieldLink RJ5 79 "java/lang/AbstractStringBuilder" "count" "I") (List.mem_of_getElem? (i := 1) rfl)) rfl rfl dJ5_length_8abf5_1 ?_
  exact mm_iret hx hb hlocks hr (Nat.le_of_ble_eq_true rfl) (Nat.le_of_ble_eq_true rfl) hM (⟨rfl, rfl⟩) dJ5_length_8abf5_4
set_option maxHeartbeats 4000000 in
set_option maxRecDepth 100000 in
theorem j4_length (l : Launch) (G : mG) {f : mE} {sb va ct cap : Nat} {ml : Int32} {by1 : Nat → Int32} (h_sb : f sb = some (.inr (0, [.ref va, .int (nI 0), .int ml, .int (nI ct)]))) (h_va : f va = some (mB G cap by1)) : mC l G yJ4_length_8abf5 wsJ4_length_8abf5 ({ frames := 1, cells := 0, slots := 0, locals := 20 } : Room) f [.ref sb] (fun v f1 => v = some (.int (nI ct)) ∧ f = f1) 0 0 := by
  refine mC.ofF (cc := cJ4_length_8abf5) (maxL := 1) (ret := (some .int)) (by decide +kernel) rfl (Nat.le_of_ble_eq_true rfl) ?_
  intro pgm env s mt args below meth c A ls hx hb hml hr hlocks hown hname hts hK hE hA hM hl
  have hl : lv_has ls 1 [(0, .ref sb)] := hl
  have hF := fun w9 e (hb : f w9 = some e)  => hb
  refine lv_aload_n hx hb dJ4_length_8abf5_0 rfl (lv_at hl 0 rfl) ?_
  refine mm_SU (As := []) (rest := []) (hK.1 0 _ rfl).2 ⟨hx, hb, hml, hown, hts⟩ (j5_length l G h_sb h_va) (va_cwSU 0 hts gJ4_length_8abf5_J5_length_8abf5_s343 rfl rfl rfl (by decide +kernel) ⟨Nat.le_of_ble_eq_true rfl, Nat.le_of_ble_eq_true rfl⟩) hK hE hA hM (mm_recv hK hM h_sb (q := (RJ4, TJ4, 4)) rfl) rfl hl.1 rfl (Nat.le_of_ble_eq_true rfl) dJ4_length_8abf5_1 ⟨Nat.le_of_ble_eq_true rfl, Nat.le_of_ble_eq_true rfl⟩ (fun v f1 Hp lcs hp hM => ?_)
  obtain ⟨rfl, hf⟩ := hp; subst hf
  exact mm_iret hx hb hlocks hr (Nat.le_of_ble_eq_true rfl) (Nat.le_of_ble_eq_true rfl) hM (⟨rfl, rfl⟩) dJ4_length_8abf5_4
set_option maxHeartbeats 4000000 in
set_option maxRecDepth 100000 in
theorem j3_checkIndexN (l : Launch) (G : mG) (f : mE) (x y : Nat) (hxy : x < y) (hy2 : y < 2 ^ 30) : mC l G yJ3_checkIndex_8e157 wsJ3_checkIndex_8e157 ({ frames := 0, cells := 0, slots := 0, locals := 0 } : Room) f [.int (nI x), .int (nI y), .null] (fun v f1 => v = some (.int (nI x)) ∧ f = f1) 0 0 := by
  refine mC.ofF (cc := cJ3_checkIndex_8e157) (maxL := 3) (ret := (some .int)) (by decide +kernel) rfl (Nat.le_of_ble_eq_true rfl) ?_
  intro pgm env s mt args below meth c A ls hx hb hml hr hlocks hown hname hts hK hE hA hM hl
  have hl : lv_has ls 3 [(0, .int (nI x)), (1, .int (nI y)), (2, .null)] := hl
  have hF := fun w9 e (hb : f w9 = some e)  => hb
  refine lv_iload_n hx hb dJ3_checkIndex_8e157_0 rfl (lv_at hl 0 rfl) ?_
  refine lv_if_lt (tgt := 9) hx hb dJ3_checkIndex_8e157_1 (by decide) (fun hq9 => absurd hq9 (nI_pos (by omega))) (fun _ => ?_)
  refine lv_iload_n hx hb dJ3_checkIndex_8e157_4 rfl (lv_at hl 0 rfl) ?_
  refine lv_iload_n hx hb dJ3_checkIndex_8e157_5 rfl (lv_at hl 1 rfl) ?_
  refine ln_icmp_lt x y (by omega) (by omega) (tgt := 16) hx hb dJ3_checkIndex_8e157_6 (by decide) (fun cz1 => ?_) (fun cz1 => ?_)
  · refine lv_iload_n hx hb dJ3_checkIndex_8e157_16 rfl (lv_at hl 0 rfl) ?_
    exact mm_iret hx hb hlocks hr (Nat.le_of_ble_eq_true rfl) (Nat.le_of_ble_eq_true rfl) hM (⟨rfl, rfl⟩) dJ3_checkIndex_8e157_17
  exact absurd cz1 (by omega)
set_option maxHeartbeats 4000000 in
set_option maxRecDepth 100000 in
theorem j3_checkIndexR (l : Launch) (G : mG) (f : mE) (x y : Nat) (hxy : x < y) (hy2 : y < 2 ^ 30) (z : Nat) : mC l G yJ3_checkIndex_8e157 wsJ3_checkIndex_8e157 ({ frames := 0, cells := 0, slots := 0, locals := 0 } : Room) f [.int (nI x), .int (nI y), .ref z] (fun v f1 => v = some (.int (nI x)) ∧ f = f1) 0 0 := by
  refine mC.ofF (cc := cJ3_checkIndex_8e157) (maxL := 3) (ret := (some .int)) (by decide +kernel) rfl (Nat.le_of_ble_eq_true rfl) ?_
  intro pgm env s mt args below meth c A ls hx hb hml hr hlocks hown hname hts hK hE hA hM hl
  have hl : lv_has ls 3 [(0, .int (nI x)), (1, .int (nI y)), (2, .ref z)] := hl
  have hF := fun w9 e (hb : f w9 = some e)  => hb
  refine lv_iload_n hx hb dJ3_checkIndex_8e157_0 rfl (lv_at hl 0 rfl) ?_
  refine lv_if_lt (tgt := 9) hx hb dJ3_checkIndex_8e157_1 (by decide) (fun hq9 => absurd hq9 (nI_pos (by omega))) (fun _ => ?_)
  refine lv_iload_n hx hb dJ3_checkIndex_8e157_4 rfl (lv_at hl 0 rfl) ?_
  refine lv_iload_n hx hb dJ3_checkIndex_8e157_5 rfl (lv_at hl 1 rfl) ?_
  refine ln_icmp_lt x y (by omega) (by omega) (tgt := 16) hx hb dJ3_checkIndex_8e157_6 (by decide) (fun cz1 => ?_) (fun cz1 => ?_)
  · refine lv_iload_n hx hb dJ3_checkIndex_8e157_16 rfl (lv_at hl 0 rfl) ?_
    exact mm_iret hx hb hlocks hr (Nat.le_of_ble_eq_true rfl) (Nat.le_of_ble_eq_true rfl) hM (⟨rfl, rfl⟩) dJ3_checkIndex_8e157_17
  exact absurd cz1 (by omega)
set_option maxHeartbeats 4000000 in
set_option maxRecDepth 100000 in
theorem j0_checkIndex (l : Launch) (G : mG) (f : mE) (x y : Nat) (hxy : x < y) (hy2 : y < 2 ^ 30) : mC l G yJ0_checkIndex_df160 wsJ0_checkIndex_df160 ({ frames := 1, cells := 0, slots := 0, locals := 22 } : Room) f [.int (nI x), .int (nI y)] (fun v f1 => v = none ∧ f = f1) 0 0 := by
  refine mC.ofF (cc := cJ0_checkIndex_df160) (maxL := 2) (ret := none) (by decide +kernel) rfl (Nat.le_of_ble_eq_true rfl) ?_
  intro pgm env s mt args below meth c A ls hx hb hml hr hlocks hown hname hts hK hE hA hM hl
  have hl : lv_has ls 2 [(0, .int (nI x)), (1, .int (nI y))] := hl
  have hF := fun w9 e (hb : f w9 = some e)  => hb
  refine lv_iload_n hx hb dJ0_checkIndex_df160_0 rfl (lv_at hl 0 rfl) ?_
  refine lv_iload_n hx hb dJ0_checkIndex_df160_1 rfl (lv_at hl 1 rfl) ?_
  rcases hE.2.2.2.2.2.2 with hzq | ⟨tz, hzq⟩
  · refine va_gets hx hb hzq hM.2 hown (hts (.fieldLink RJ0 1053 "jdk/internal/util/Preconditions" "SIOOBE_FORMATTER" "Ljava/util/function/BiFunction;") (List.mem_of_getElem? (i := 1) rfl)) (fun _ h => h) dJ0_checkIndex_df160_2 ?_
    refine mm_S (As := [.int (nI x), .int (nI y), .null]) (rest := []) ⟨hx, hb, hml, hown, hts⟩ (j3_checkIndexN l G _ x y (by omega) (by omega)) (va_cwS 3 hts gJ0_checkIndex_df160_J3_checkIndex_8e157 rfl rfl rfl (by decide +kernel) ⟨Nat.le_of_ble_eq_true rfl, Nat.le_of_ble_eq_true rfl⟩) hK hE hA hM rfl hl.1 rfl (Nat.le_of_ble_eq_true rfl) dJ0_checkIndex_df160_5 ⟨Nat.le_of_ble_eq_true rfl, Nat.le_of_ble_eq_true rfl⟩ (fun v f1 Hp lcs hp hM => ?_)
    obtain ⟨rfl, hf⟩ := hp; subst hf
    refine lv_pop hx hb dJ0_checkIndex_df160_8 rfl ?_
    exact mm_vret hx hb hlocks hr (Nat.le_of_ble_eq_true rfl) (Nat.le_of_ble_eq_true rfl) hM (⟨rfl, rfl⟩) dJ0_checkIndex_df160_9
  · refine va_gets hx hb hzq hM.2 hown (hts (.fieldLink RJ0 1053 "jdk/internal/util/Preconditions" "SIOOBE_FORMATTER" "Ljava/util/function/BiFunction;") (List.mem_of_getElem? (i := 1) rfl)) (fun _ h => h) dJ0_checkIndex_df160_2 ?_
    refine mm_S (As := [.int (nI x), .int (nI y), .ref tz]) (rest := []) ⟨hx, hb, hml, hown, hts⟩ (j3_checkIndexR l G _ x y (by omega) (by omega) tz) (va_cwS 3 hts gJ0_checkIndex_df160_J3_checkIndex_8e157 rfl rfl rfl (by decide +kernel) ⟨Nat.le_of_ble_eq_true rfl, Nat.le_of_ble_eq_true rfl⟩) hK hE hA hM rfl hl.1 rfl (Nat.le_of_ble_eq_true rfl) dJ0_checkIndex_df160_5 ⟨Nat.le_of_ble_eq_true rfl, Nat.le_of_ble_eq_true rfl⟩ (fun v f1 Hp lcs hp hM => ?_)
    obtain ⟨rfl, hf⟩ := hp; subst hf
    refine lv_pop hx hb dJ0_checkIndex_df160_8 rfl ?_
    exact mm_vret hx hb hlocks hr (Nat.le_of_ble_eq_true rfl) (Nat.le_of_ble_eq_true rfl) hM (⟨rfl, rfl⟩) dJ0_checkIndex_df160_9
set_option maxHeartbeats 4000000 in
set_option maxRecDepth 100000 in
theorem j5_setLength (l : Launch) (G : mG) {f : mE} {sb va ct cap : Nat} {ml : Int32} {by1 : Nat → Int32} (h_sb : f sb = some (.inr (0, [.ref va, .int (nI 0), .int ml, .int (nI ct)]))) (h_va : f va = some (mB G cap by1)) (hct : ct ≤ cap) (hc2 : cap ≤ 32000) : mC l G yJ5_setLength_d00df wsJ5_setLength_d00df ({ frames := 4, cells := 0, slots := 0, locals := 91 } : Room) f [.ref sb, .int (nI 0)] (fun v f1 => v = none ∧ ∃ ml1 : Int32, (ml1 = ml ∨ ml1 = 1) ∧ f1 sb = some (.inr (0, [.ref va, .int (nI 0), .int ml1, .int (nI 0)])) ∧ ∀ b, b ≠ sb → f1 b = f b) 0 0 := by
  refine mC.ofF (cc := cJ5_setLength_d00df) (maxL := 2) (ret := none) (by decide +kernel) rfl (Nat.le_of_ble_eq_true rfl) ?_
  intro pgm env s mt args below meth c A ls hx hb hml hr hlocks hown hname hts hK hE hA hM hl
  have hl : lv_has ls 2 [(0, .ref sb), (1, .int (nI 0))] := hl
  have hF := fun w9 e (hb : f w9 = some e) (_ : w9 ≠ sb) => hb
  refine lv_iload_n hx hb dJ5_setLength_d00df_0 rfl (lv_at hl 1 rfl) ?_
  refine lv_if_ge (tgt := 13) hx hb dJ5_setLength_d00df_1 (by decide) (fun _ => ?_) (fun hq9 => absurd hq9 (by decide))
  refine lv_aload_n hx hb dJ5_setLength_d00df_13 rfl (lv_at hl 0 rfl) ?_
  refine lv_iload_n hx hb dJ5_setLength_d00df_14 rfl (lv_at hl 1 rfl) ?_
  refine mm_U (As := [.int (nI 0)]) (rest := []) ⟨hx, hb, hml, hown, hts⟩ (j5_ensure0 l G h_sb h_va 0 (by omega) (by omega)) (va_cwU 1 hts gJ5_setLength_d00df_J5_ensureCapacityInternal_d00df_u100J4 rfl rfl rfl rfl (by decide +kernel) ⟨Nat.le_of_ble_eq_true rfl, Nat.le_of_ble_eq_true rfl⟩) hK hE hA hM (mm_recv hK hM h_sb (q := (RJ4, TJ4, 4)) rfl) rfl hl.1 rfl (Nat.le_of_ble_eq_true rfl) dJ5_setLength_d00df_15 ⟨Nat.le_of_ble_eq_true rfl, Nat.le_of_ble_eq_true rfl⟩ (fun v f1 Hp lcs hp hM => ?_)
  obtain ⟨rfl, hf⟩ := hp; subst hf
  refine lv_aload_n hx hb dJ5_setLength_d00df_18 rfl (lv_at hl 0 rfl) ?_
  refine mm_get (C := RJ4) (T := TJ4) (N := 4) (k := 3) hx hb hts (fun _ h => List.mem_cons_of_mem _ (List.mem_append_right _ h)) hown hK hM h_sb rfl (by decide) (hts (.fieldLink RJ5 79 "java/lang/AbstractStringBuilder" "count" "I") (List.mem_of_getElem? (i := 1) rfl)) rfl rfl dJ5_setLength_d00df_19 ?_
  refine lv_iload_n hx hb dJ5_setLength_d00df_22 rfl (lv_at hl 1 rfl) ?_
  refine ln_icmp_ge ct 0 (by omega) (by omega) (tgt := 63) hx hb dJ5_setLength_d00df_23 (by decide) (fun cz1 => ?_) (fun cz1 => ?_)
  · refine lv_aload_n hx hb dJ5_setLength_d00df_63 rfl (lv_at hl 0 rfl) ?_
    refine mm_get (C := RJ4) (T := TJ4) (N := 4) (k := 3) hx hb hts (fun _ h => List.mem_cons_of_mem _ (List.mem_append_right _ h)) hown hK hM h_sb rfl (by decide) (hts (.fieldLink RJ5 79 "java/lang/AbstractStringBuilder" "count" "I") (List.mem_of_getElem? (i := 1) rfl)) rfl rfl dJ5_setLength_d00df_64 ?_
    refine lv_iload_n hx hb dJ5_setLength_d00df_67 rfl (lv_at hl 1 rfl) ?_
    refine ln_icmp_le ct 0 (by omega) (by omega) (tgt := 76) hx hb dJ5_setLength_d00df_68 (by decide) (fun cz2 => ?_) (fun cz2 => ?_)
    · refine lv_aload_n hx hb dJ5_setLength_d00df_76 rfl (lv_at hl 0 rfl) ?_
      refine lv_iload_n hx hb dJ5_setLength_d00df_77 rfl (lv_at hl 1 rfl) ?_
      refine mm_put (C := RJ4) (T := TJ4) (N := 4) (k := 3) hx hb hts (fun _ h => List.mem_cons_of_mem _ (List.mem_append_right _ h)) tyJ4 tyJ4_ok nmJ4 hown hK hM h_sb rfl (by decide) (hts (.fieldLink RJ5 79 "java/lang/AbstractStringBuilder" "count" "I") (List.mem_of_getElem? (i := 1) rfl)) rfl rfl rfl rfl (Nat.le_of_ble_eq_true rfl) dJ5_setLength_d00df_78 (fun Hp lcs hM => ?_)
      obtain ⟨gz3, hM, hz4, rz5⟩ := hM.up
      have hG := fun b (hb : b ≠ sb) => (rz5 b hb)
      exact mm_vret hx hb hlocks hr (Nat.le_of_ble_eq_true rfl) (Nat.le_of_ble_eq_true rfl) hM (⟨rfl, ml, Or.inl rfl, hz4, hG⟩) dJ5_setLength_d00df_81
    refine lv_aload_n hx hb dJ5_setLength_d00df_71 rfl (lv_at hl 0 rfl) ?_
    refine lv_iconst (v := (nI 1)) hx hb dJ5_setLength_d00df_72 (by decide +kernel) ?_
    refine mm_put (C := RJ4) (T := TJ4) (N := 4) (k := 2) hx hb hts (fun _ h => List.mem_cons_of_mem _ (List.mem_append_right _ h)) tyJ4 tyJ4_ok nmJ4 hown hK hM h_sb rfl (by decide) (hts (.fieldLink RJ5 73 "java/lang/AbstractStringBuilder" "maybeLatin1" "Z") (List.mem_of_getElem? (i := 3) rfl)) rfl rfl (by first | rfl | exact bI_nar _ | exact nar_c _ (by assumption) | exact nar_x hch) (by first | rfl | exact bI_fit _) (Nat.le_of_ble_eq_true rfl) dJ5_setLength_d00df_73 (fun Hp lcs hM => ?_)
    obtain ⟨gz6, hM, hz7, rz8⟩ := hM.up
    have hG := fun b (hb : b ≠ sb) => (rz8 b hb)
    refine lv_aload_n hx hb dJ5_setLength_d00df_76 rfl (lv_at hl 0 rfl) ?_
    refine lv_iload_n hx hb dJ5_setLength_d00df_77 rfl (lv_at hl 1 rfl) ?_
    refine mm_put (C := RJ4) (T := TJ4) (N := 4) (k := 3) hx hb hts (fun _ h => List.mem_cons_of_mem _ (List.mem_append_right _ h)) tyJ4 tyJ4_ok nmJ4 hown hK hM hz7 rfl (by decide) (hts (.fieldLink RJ5 79 "java/lang/AbstractStringBuilder" "count" "I") (List.mem_of_getElem? (i := 1) rfl)) rfl rfl rfl rfl (Nat.le_of_ble_eq_true rfl) dJ5_setLength_d00df_78 (fun Hp lcs hM => ?_)
    obtain ⟨gz9, hM, hz10, rz11⟩ := hM.up
    have hG := fun b (hb : b ≠ sb) => (rz11 b hb).trans (hG b hb)
    exact mm_vret hx hb hlocks hr (Nat.le_of_ble_eq_true rfl) (Nat.le_of_ble_eq_true rfl) hM (⟨rfl, (nI 1), Or.inr rfl, hz10, hG⟩) dJ5_setLength_d00df_81
  exact absurd cz1 (Nat.not_lt_zero _)
set_option maxHeartbeats 4000000 in
set_option maxRecDepth 100000 in
theorem j4_setLength (l : Launch) (G : mG) {f : mE} {sb va ct cap : Nat} {ml : Int32} {by1 : Nat → Int32} (h_sb : f sb = some (.inr (0, [.ref va, .int (nI 0), .int ml, .int (nI ct)]))) (h_va : f va = some (mB G cap by1)) (hct : ct ≤ cap) (hc2 : cap ≤ 32000) : mC l G yJ4_setLength_d00df wsJ4_setLength_d00df ({ frames := 5, cells := 0, slots := 0, locals := 112 } : Room) f [.ref sb, .int (nI 0)] (fun v f1 => v = none ∧ ∃ ml1 : Int32, (ml1 = ml ∨ ml1 = 1) ∧ f1 sb = some (.inr (0, [.ref va, .int (nI 0), .int ml1, .int (nI 0)])) ∧ ∀ b, b ≠ sb → f1 b = f b) 0 0 := by
  refine mC.ofF (cc := cJ4_setLength_d00df) (maxL := 2) (ret := none) (by decide +kernel) rfl (Nat.le_of_ble_eq_true rfl) ?_
  intro pgm env s mt args below meth c A ls hx hb hml hr hlocks hown hname hts hK hE hA hM hl
  have hl : lv_has ls 2 [(0, .ref sb), (1, .int (nI 0))] := hl
  have hF := fun w9 e (hb : f w9 = some e) (_ : w9 ≠ sb) => hb
  refine lv_aload_n hx hb dJ4_setLength_d00df_0 rfl (lv_at hl 0 rfl) ?_
  refine lv_iload_n hx hb dJ4_setLength_d00df_1 rfl (lv_at hl 1 rfl) ?_
  refine mm_SU (As := [.int (nI 0)]) (rest := []) (hK.1 0 _ rfl).2 ⟨hx, hb, hml, hown, hts⟩ (j5_setLength l G h_sb h_va (by omega) (by omega)) (va_cwSU 1 hts gJ4_setLength_d00df_J5_setLength_d00df_s333 rfl rfl rfl (by decide +kernel) ⟨Nat.le_of_ble_eq_true rfl, Nat.le_of_ble_eq_true rfl⟩) hK hE hA hM (mm_recv hK hM h_sb (q := (RJ4, TJ4, 4)) rfl) rfl hl.1 rfl (Nat.le_of_ble_eq_true rfl) dJ4_setLength_d00df_2 ⟨Nat.le_of_ble_eq_true rfl, Nat.le_of_ble_eq_true rfl⟩ (fun v gz1 Hp lcs hp hM => ?_)
  obtain ⟨rfl, ml1, hm1, hz2, hG⟩ := hp
  exact mm_vret hx hb hlocks hr (Nat.le_of_ble_eq_true rfl) (Nat.le_of_ble_eq_true rfl) hM (⟨rfl, ml1, hm1, hz2, hG⟩) dJ4_setLength_d00df_5
set_option maxHeartbeats 4000000 in
set_option maxRecDepth 100000 in
theorem j5_init (l : Launch) (G : mG) {f : mE} {sb : Nat} (h_sb : f sb = some (.inr (0, [.null, .int 0, .int 0, .int 0]))) : mC l G yJ5_init_d00df wsJ5_init_d00df ({ frames := 1, cells := 1, slots := 16, locals := 20 } : Room) f [.ref sb, .int (nI 16)] (fun v f1 => v = none ∧ ∃ z : Nat, f z = none ∧ f1 sb = some (.inr (0, [.ref z, .int (nI 0), .int 0, .int 0])) ∧ f1 z = some (mB G 16 (fun _ => 0)) ∧ ∀ b e, f b = some e → b ≠ sb → f1 b = some e) 1 16 := by
  refine mC.ofF (cc := cJ5_init_d00df) (maxL := 2) (ret := none) (by decide +kernel) rfl (Nat.le_of_ble_eq_true rfl) ?_
  intro pgm env s mt args below meth c A ls hx hb hml hr hlocks hown hname hts hK hE hA hM hl
  have hl : lv_has ls 2 [(0, .ref sb), (1, .int (nI 16))] := hl
  have hF := fun w9 e (hb : f w9 = some e) (_ : w9 ≠ sb) => hb
  refine lv_aload_n hx hb dJ5_init_d00df_0 rfl (lv_at hl 0 rfl) ?_
  refine W.objInit hx hb hown (hts (.methodLink RJ5 3 objectInit) (List.mem_of_getElem? (i := 1) rfl)) (hts (.instanceMethod objectInit) (List.mem_of_getElem? (i := 2) rfl)) (hts _ (List.mem_of_getElem? (i := 3) rfl)) rfl (by rw [hml]; exact hl.1) rfl dJ5_init_d00df_1 (Nat.le_of_ble_eq_true rfl) (Nat.le_of_ble_eq_true rfl) ?_
  refine W.eq (g2 := F0 mt 4 ls []) rfl ?_
  refine va_gets hx hb hE.2.2.1 hM.2 hown (hts (.fieldLink RJ5 18 "java/lang/String" "COMPACT_STRINGS" "Z") (List.mem_of_getElem? (i := 4) rfl)) (fun _ h => h) dJ5_init_d00df_4 ?_
  refine lv_if_eq (tgt := 25) hx hb dJ5_init_d00df_7 (by decide) (fun hq9 => absurd hq9 (by decide)) (fun _ => ?_)
  refine lv_aload_n hx hb dJ5_init_d00df_10 rfl (lv_at hl 0 rfl) ?_
  refine lv_iload_n hx hb dJ5_init_d00df_11 rfl (lv_at hl 1 rfl) ?_
  refine mm_newB hx hb (hts (.arrayClass .byte) (List.mem_of_getElem? (i := 5) rfl)) hK hM hA 16 (by decide) (by decide) (Nat.le_of_ble_eq_true rfl) (Nat.le_of_ble_eq_true rfl) (Nat.le_of_ble_eq_true rfl) dJ5_init_d00df_12 (fun qz1 Hp nz2 hM => ?_)
  obtain ⟨gz3, hM, hz4, rz5⟩ := hM.up
  have fo6 : f qz1 = none := fresh_of (fun e hb => hF qz1 e hb (ne_none h_sb nz2).symm) nz2
  have hF := fun w9 e (hb : f w9 = some e) (hn0 : w9 ≠ sb) => (rz5 w9 (ne_none (hF w9 e hb hn0) nz2)).trans (hF w9 e hb hn0)
  have ne7 := ne_none h_sb nz2
  have hz8 := (rz5 _ ne7).trans h_sb
  refine mm_put (C := RJ4) (T := TJ4) (N := 4) (k := 0) hx hb hts (fun _ h => List.mem_cons_of_mem _ (List.mem_append_right _ h)) tyJ4 tyJ4_ok nmJ4 hown hK hM hz8 rfl (by decide) (hts (.fieldLink RJ5 15 "java/lang/AbstractStringBuilder" "value" "[B") (List.mem_of_getElem? (i := 6) rfl)) rfl rfl rfl rfl (Nat.le_of_ble_eq_true rfl) dJ5_init_d00df_14 (fun Hp lcs hM => ?_)
  obtain ⟨gz9, hM, hz10, rz11⟩ := hM.up
  have hz12 := (rz11 _ (Ne.symm ne7)).trans hz4
  have hF := fun w9 e (hb : f w9 = some e) (hn0 : w9 ≠ sb) => (rz11 w9 hn0).trans (hF w9 e hb hn0)
  refine lv_aload_n hx hb dJ5_init_d00df_17 rfl (lv_at hl 0 rfl) ?_
  refine lv_iconst (v := (nI 0)) hx hb dJ5_init_d00df_18 (by decide +kernel) ?_
  refine mm_put (C := RJ4) (T := TJ4) (N := 4) (k := 1) hx hb hts (fun _ h => List.mem_cons_of_mem _ (List.mem_append_right _ h)) tyJ4 tyJ4_ok nmJ4 hown hK hM hz10 rfl (by decide) (hts (.fieldLink RJ5 22 "java/lang/AbstractStringBuilder" "coder" "B") (List.mem_of_getElem? (i := 7) rfl)) rfl rfl rfl rfl (Nat.le_of_ble_eq_true rfl) dJ5_init_d00df_19 (fun Hp lcs hM => ?_)
  obtain ⟨gz13, hM, hz14, rz15⟩ := hM.up
  have hz16 := (rz15 _ (Ne.symm ne7)).trans hz12
  have hF := fun w9 e (hb : f w9 = some e) (hn0 : w9 ≠ sb) => (rz15 w9 hn0).trans (hF w9 e hb hn0)
  refine lv_goto (tgt := 38) hx hb dJ5_init_d00df_22 (by decide) ?_
  exact mm_vret hx hb hlocks hr (Nat.le_of_ble_eq_true rfl) (Nat.le_of_ble_eq_true rfl) hM (⟨rfl, qz1, fo6, hz14, hz16, hF⟩) dJ5_init_d00df_38
set_option maxHeartbeats 4000000 in
set_option maxRecDepth 100000 in
theorem j4_init (l : Launch) (G : mG) {f : mE} {sb : Nat} (h_sb : f sb = some (.inr (0, [.null, .int 0, .int 0, .int 0]))) : mC l G yJ4_init_da8c8 wsJ4_init_da8c8 ({ frames := 2, cells := 1, slots := 16, locals := 41 } : Room) f [.ref sb] (fun v f1 => v = none ∧ ∃ z : Nat, f z = none ∧ f1 sb = some (.inr (0, [.ref z, .int (nI 0), .int 0, .int 0])) ∧ f1 z = some (mB G 16 (fun _ => 0)) ∧ ∀ b e, f b = some e → b ≠ sb → f1 b = some e) 1 16 := by
  refine mC.ofF (cc := cJ4_init_da8c8) (maxL := 1) (ret := none) (by decide +kernel) rfl (Nat.le_of_ble_eq_true rfl) ?_
  intro pgm env s mt args below meth c A ls hx hb hml hr hlocks hown hname hts hK hE hA hM hl
  have hl : lv_has ls 1 [(0, .ref sb)] := hl
  have hF := fun w9 e (hb : f w9 = some e) (_ : w9 ≠ sb) => hb
  refine lv_aload_n hx hb dJ4_init_da8c8_0 rfl (lv_at hl 0 rfl) ?_
  refine lv_bipush (v := (nI 16)) hx hb dJ4_init_da8c8_1 (by decide +kernel) ?_
  refine mm_I (As := [.int (nI 16)]) (rest := []) ⟨hx, hb, hml, hown, hts⟩ (j5_init l G h_sb) (cwI 1 hts gJ4_init_da8c8_J5_init_d00df rfl rfl rfl (hts (.initialized RJ5) (List.mem_of_getElem? (i := 3) rfl)) (hts (.methodLink RJ4 1 yJ5_init_d00df) (List.mem_of_getElem? (i := 1) rfl)) (hts (.instanceMethod yJ5_init_d00df) (List.mem_of_getElem? (i := 2) rfl)) rfl (by decide +kernel) ⟨Nat.le_of_ble_eq_true rfl, Nat.le_of_ble_eq_true rfl⟩) hK hE hA hM rfl hl.1 rfl (Nat.le_of_ble_eq_true rfl) dJ4_init_da8c8_3 ⟨Nat.le_of_ble_eq_true rfl, Nat.le_of_ble_eq_true rfl⟩ (fun v gz1 Hp lcs hp hM => ?_)
  obtain ⟨rfl, qz2, nz3, hz4, hz5, rz6⟩ := hp
  have fo7 : f qz2 = none := fresh_of (fun e hb => hF qz2 e hb (ne_none h_sb nz3).symm) nz3
  have ne8 := ne_none h_sb nz3
  have hF := fun w9 e (hb : f w9 = some e) (hn0 : w9 ≠ sb) => rz6 w9 e (hF w9 e hb hn0) hn0
  exact mm_vret hx hb hlocks hr (Nat.le_of_ble_eq_true rfl) (Nat.le_of_ble_eq_true rfl) hM (⟨rfl, qz2, fo7, hz4, hz5, hF⟩) dJ4_init_da8c8_6

