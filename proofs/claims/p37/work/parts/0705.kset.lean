/-! THE CLASS: what changes its state -/
theorem filN_atX {g f : Nat → Int32} {n j : Nat} (h : j < n) : filN g f n j = g j := by unfold filN; rw [if_pos h]
theorem StR.fact_ {G : mG} {f f1 : mE} {T : Nat → Nat} {q b fc pr ka va n cn i : Nat} {B : Nat → Option Nat} {g K V S : Nat → Int32} {x : Int32} (hA : StA G f T q b fc pr ka va n cn B g K V S) (hB : StB G f T n B S) (h1 : f1 fc = some (mI G 7 (upd g i x))) (hF : ∀ c e, f c = some e → c ≠ fc → f1 c = some e) (hi : i < 7) : StR G f1 T q (upd S i x) ∧ Kp f f1 T T (fun t => t ≠ q + 1) := by
  obtain ⟨⟨a1, a2, a3, a4, a5, a6⟩, hne, ⟨t1, t2, t3, t4, t5, t6⟩, v1, v2, v3, v4, v5, v6⟩ := hA
  have hk : Kp f f1 T T (fun t => t ≠ q + 1) := fun c e hc => ⟨rfl, fun z => hF c e hc (fun w => z (by rw [w]; exact t3))⟩
  have e : ∀ j, j ≠ i → upd S i x j = S j := fun j hj => by unfold upd; rw [if_neg hj]
  refine ⟨⟨b, fc, pr, ka, va, n, cn, B, upd g i x, K, V, ⟨⟨hF q _ a1 (ne_oi a1 a3), hF b _ a2 (ne_QI a2 a3), h1, hF pr _ a4 (ne_oi a4 a3), hF ka _ a5 (ne_len a5 a3 (by decide)), hF va _ a6 (ne_len a6 a3 (by decide))⟩, hne, ⟨t1, t2, t3, t4, t5, t6⟩, (e 56 (by omega)).trans v1, v2, (e 7 (by omega)).trans v3, v4, fun j hj => by rw [e _ (by omega), e _ (by omega)]; exact v5 j hj, fun j hj => ?_⟩, (hB.keep hk (by omega)).cong v2 (fun w hw _ => e w (by omega))⟩, hk⟩
  unfold upd
  by_cases ej : j = i
  · rw [if_pos ej, if_pos ej]
  · rw [if_neg ej, if_neg ej]; exact v6 j hj
theorem StR.rem_ {G : mG} {f f1 : mE} {T : Nat → Nat} {q b fc pr ka va n cn j : Nat} {B : Nat → Option Nat} {g K V S : Nat → Int32} (hA : StA G f T q b fc pr ka va n cn B g K V S) (hB : StB G f T n B S) (hj : j < n) (h1 : f1 q = some (.inr (4, [.int (nI (n - 1)), .ref b, .ref fc, .ref pr]))) (h2 : f1 b = some (mQ G 2 16 (va_up (remB B j n) (n - 1) none))) (hF : ∀ c e, f c = some e → c ≠ q → c ≠ b → f1 c = some e) : StR G f1 T q (retS S n j) ∧ Kp f f1 T T (fun t => t ≠ q + 1) := by
  obtain ⟨⟨a1, a2, a3, a4, a5, a6⟩, hne, ⟨t1, t2, t3, t4, t5, t6⟩, v1, v2, v3, v4, v5, v6⟩ := hA
  have hk : Kp f f1 T T (fun t => t ≠ q + 1) := fun c e hc => ⟨rfl, fun z => hF c e hc (fun w => z (by rw [w]; exact t1)) (fun w => z (by rw [w]; exact t2))⟩
  have e : ∀ m, m < 56 → retS S n j m = S m := fun m hm => by unfold retS upd; rw [if_neg (by omega), retK_lo (by omega)]
  have eL : ∀ i w, i < j → w < 66 → retS S n j (57 + 66 * i + w) = S (57 + 66 * i + w) := fun i w hi hw => by unfold retS upd retK; rw [if_neg (by omega), if_neg (by omega)]
  have eH : ∀ i w, j ≤ i → i + 1 < n → w < 66 → retS S n j (57 + 66 * i + w) = S (57 + 66 * (i + 1) + w) := fun i w hi hn hw => by
    unfold retS upd retK; rw [if_neg (by omega), if_pos (by omega)]; congr 1; omega
  refine ⟨⟨b, fc, pr, ka, va, n - 1, cn, _, g, K, V, ⟨⟨h1, h2, hF fc _ a3 (ne_oi a1 a3).symm (ne_QI a2 a3).symm, hF pr _ a4 (ne_oo a4 a1 (by show (5 : Nat) ≠ 4; decide)) (ne_oi a4 a2), hF ka _ a5 (ne_oi a1 a5).symm (ne_QI a2 a5).symm, hF va _ a6 (ne_oi a1 a6).symm (ne_QI a2 a6).symm⟩, hne, ⟨t1, t2, t3, t4, t5, t6⟩, by unfold retS upd; rw [if_pos rfl], by omega, (e 7 (by omega)).trans v3, v4, fun i hi => by rw [e _ (by omega), e _ (by omega)]; exact v5 i hi, fun i hi => (v6 i hi).trans (e i (by omega)).symm⟩, ⟨fun i hi => ?_, fun i hi hi2 => ?_⟩⟩, hk⟩
  · rw [va_up_ne _ _ (by omega)]
    unfold remB
    by_cases hij : j ≤ i
    · rw [if_pos ⟨hij, by omega⟩]
      obtain ⟨x, ex, hx⟩ := hB.1 (i + 1) (by omega)
      exact ⟨x, ex, (hx.keep hk (by omega)).cong (fun w hw => eH i w hij (by omega) hw)⟩
    · rw [if_neg (by omega)]
      obtain ⟨x, ex, hx⟩ := hB.1 i (by omega)
      exact ⟨x, ex, (hx.keep hk (by omega)).cong (fun w hw => eL i w (by omega) hw)⟩
  · by_cases hn1 : i = n - 1
    · rw [hn1, va_up_self]
    · rw [va_up_ne _ _ hn1]
      unfold remB
      rw [if_neg (by omega)]
      exact hB.2 i (by omega) hi2
theorem CC.cnt_ {G : mG} {f f1 : mE} {T : Nat → Nat} {o q0 ra rd sp rr sb : Nat} {S P : Nat → Int32} {rc q : Nat} (h : CC G f T o q0 ra rd sp rr sb S P rc) (hq : q ≤ rc) (h1 : f1 o = some (.inr (6, [.ref q0, .ref ra, .int (nI q), .ref rd, .ref sp, .ref rr, .ref sb]))) (hf : ∀ b, b ≠ o → f1 b = f b) : CC G f1 T o q0 ra rd sp rr sb S P q := by
  obtain ⟨hO, tO, hRe, hSp, hRr, hTb, hSt, ⟨RB, Z, a, t, hr, hb, hc, hd⟩⟩ := h
  have hk : Kp f f1 T T (fun t => t ≠ o + 1) := fun b e hb => ⟨rfl, fun z => by rw [hf b (fun y => z (by rw [y]; exact tO))]; exact hb⟩
  obtain ⟨vs, hq0⟩ := hSt.obj
  have n1 : rd + 1 ≠ o + 1 := fun z => by obtain ⟨_, _, _, _, _, _, _, _, _, _, _, _, _, hR, -⟩ := hRe; exact ne_oo hR.1 hO (by show (1 : Nat) ≠ 6; decide) (Nat.succ.inj z)
  have n2 : sp + 1 ≠ o + 1 := fun z => by obtain ⟨gs, hs0, -⟩ := hSp; exact ne_oi hO hs0 (Nat.succ.inj z).symm
  have n3 : rr + 1 ≠ o + 1 := fun z => by obtain ⟨gs, hs0, -⟩ := hRr; exact ne_oi hO hs0 (Nat.succ.inj z).symm
  have n4 : sb + 1 ≠ o + 1 := fun z => by obtain ⟨_, _, _, _, _, hC, -⟩ := hTb; exact ne_oo hC.1 hO (by show (0 : Nat) ≠ 6; decide) (Nat.succ.inj z)
  have n5 : q0 + 1 ≠ o + 1 := fun z => ne_oo hq0 hO (by show (4 : Nat) ≠ 6; decide) (Nat.succ.inj z)
  refine ⟨h1, tO, hRe.keep hk n1, hSp.keep hk n2, hRr.keep hk n3, hTb.keep hk n4, hSt.keep hk (by omega) n5, ⟨RB, Z, (hf ra (ne_oi hO a).symm).trans a, t, by omega, fun i q hi e => ?_, fun i hi => hc i (by omega), hd⟩⟩
  obtain ⟨n0, hS⟩ := hb i q hi e
  obtain ⟨vs, hqo⟩ := hS.obj
  exact ⟨n0, hS.keep hk (by omega) (fun w => ne_oo hqo hO (by show (4 : Nat) ≠ 6; decide) (Nat.succ.inj w))⟩
set_option maxHeartbeats 4000000 in
set_option maxRecDepth 100000 in
theorem k_setFact (l : Launch) (G : mG) {f : mE} {T : Nat → Nat} {o q0 ra rd sp rr sb : Nat} {S P : Nat → Int32} {rc : Nat} (h : CC G f T o q0 ra rd sp rr sb S P rc) (k x : Int32) : mC l G yX5_setFact wsX5_setFact ({ frames := 4, cells := 6, slots := 78, locals := 90 } : Room) f [.ref o, .int k, .int x] (fun v f1 => v = some (.int (if valB k x = true then S k.toNatClampNeg else -100002)) ∧ CI G f1 o (if valB k x = true then upd S k.toNatClampNeg x else S) (if valB k x = true then recP S P rc else P) (if valB k x = true then recN rc else rc)) 6 78 := by
  refine mC.of (cc := cX5_setFact) (maxL := 4) (ret := (some .int)) (by decide) rfl (Nat.le_of_ble_eq_true rfl) ?_
  intro pgm env s mt args below meth c A ls hx hb hml hr hlocks hown hname hts hK hE hA hM hl
  have hl : lv_has ls 4 [(0, .ref o), (1, .int k), (2, .int x)] := hl
  have hF := fun w9 e (hb : f w9 = some e)  => hb
  refine lv_iload_n hx hb dX5_setFact_0 rfl (lv_at hl 1 rfl) ?_
  refine mm_S (As := [.int k]) (rest := []) ⟨hx, hb, hml, hown, hts⟩ (c5_isFact l G _ k) (va_cwS 1 hts gX5_setFact_X5_isFact rfl rfl rfl (by decide +kernel) ⟨Nat.le_of_ble_eq_true rfl, Nat.le_of_ble_eq_true rfl⟩) hK hE hA hM rfl hl.1 rfl (Nat.le_of_ble_eq_true rfl) dX5_setFact_1 ⟨Nat.le_of_ble_eq_true rfl, Nat.le_of_ble_eq_true rfl⟩ (fun v f1 Hp lcs hp hM => ?_)
  obtain ⟨rfl, hf⟩ := hp; subst hf
  refine lvb_eq (tgt := 15) hx hb dX5_setFact_4 (by decide) (fun cz1 => ?_) (fun cz1 => ?_)
  · refine lv_ldc (v := (-100002)) hx hb hown (hts (.constant RX5 41 (-100002)) (List.mem_of_getElem? (i := 1) rfl)) dX5_setFact_15 ?_
    exact mm_iret hx hb hlocks hr (Nat.le_of_ble_eq_true rfl) (Nat.le_of_ble_eq_true rfl) hM (⟨by rw [if_neg (by rw [valB, cz1, Bool.false_and]; decide)], by rw [if_neg (by rw [valB, cz1, Bool.false_and]; decide), if_neg (by rw [valB, cz1, Bool.false_and]; decide), if_neg (by rw [valB, cz1, Bool.false_and]; decide)]; exact ⟨T, q0, ra, rd, sp, rr, sb, h⟩⟩) dX5_setFact_17
  refine lv_iload_n hx hb dX5_setFact_7 rfl (lv_at hl 1 rfl) ?_
  refine lv_iload_n hx hb dX5_setFact_8 rfl (lv_at hl 2 rfl) ?_
  refine mm_S (As := [.int k, .int x]) (rest := []) ⟨hx, hb, hml, hown, hts⟩ (c5_isValueOf l G _ k x) (va_cwS 2 hts gX5_setFact_X5_isValueOf rfl rfl rfl (by decide +kernel) ⟨Nat.le_of_ble_eq_true rfl, Nat.le_of_ble_eq_true rfl⟩) hK hE hA hM rfl hl.1 rfl (Nat.le_of_ble_eq_true rfl) dX5_setFact_9 ⟨Nat.le_of_ble_eq_true rfl, Nat.le_of_ble_eq_true rfl⟩ (fun v f1 Hp lcs hp hM => ?_)
  obtain ⟨rfl, hf⟩ := hp; subst hf
  refine lvb_ne (tgt := 18) hx hb dX5_setFact_12 (by decide) (fun cz2 => ?_) (fun cz2 => ?_)
  · have hvb : valB k x = true := by rw [valB, cz1, cz2]; rfl
    obtain ⟨i, hi9, rfl⟩ := val_nat hvb
    refine lv_aload_n hx hb dX5_setFact_18 rfl (lv_at hl 0 rfl) ?_
    refine mm_V (As := []) (rest := []) ⟨hx, hb, hml, hown, hts⟩ (k_recordNow l G h) (cwV 0 hts gX5_setFact_X5_recordNow rfl rfl rfl (by decide +kernel) ⟨Nat.le_of_ble_eq_true rfl, Nat.le_of_ble_eq_true rfl⟩) hK hE hA hM (mm_recv hK hM h.1 (q := (RX5, TX5, 7)) rfl) rfl hl.1 rfl (Nat.le_of_ble_eq_true rfl) dX5_setFact_19 ⟨Nat.le_of_ble_eq_true rfl, Nat.le_of_ble_eq_true rfl⟩ (fun v f Hp lcs hp hM => ?_)
    obtain ⟨rfl, T, h, hkp⟩ := hp
    obtain ⟨b, fc, pr1, ka, va, n1, cn1, B, g, K, V, hA9, hB9⟩ := h.2.2.2.2.2.2.1
    have hF := fun w9 e (hb : f w9 = some e) (_ : w9 ≠ fc) => hb
    refine lv_aload_n hx hb dX5_setFact_22 rfl (lv_at hl 0 rfl) ?_
    refine mm_get (C := RX5) (T := TX5) (N := 7) (k := 0) hx hb hts (fun _ h => List.mem_cons_of_mem _ (List.mem_append_left _ (List.mem_append_left _ (List.mem_append_right _ h)))) hown hK hM h.1 rfl (by decide) (hts (.fieldLink RX5 12 "SentenceRules" "now" "LSentenceRules$State;") (List.mem_of_getElem? (i := 2) rfl)) rfl rfl dX5_setFact_23 ?_
    refine mm_get (C := RX3) (T := TX3) (N := 4) (k := 2) hx hb hts (fun _ h => List.mem_cons_of_mem _ (List.mem_append_left _ (List.mem_append_right _ h))) hown hK hM hA9.1.1 rfl (by decide) (hts (.fieldLink RX5 158 "SentenceRules$State" "facts" "[I") (List.mem_of_getElem? (i := 3) rfl)) rfl rfl dX5_setFact_26 ?_
    refine lv_iload_n hx hb dX5_setFact_29 rfl (lv_at hl 1 rfl) ?_
    refine mn_iald hx hb hK hM hA9.1.2.2.1 i (by omega) (by decide) dX5_setFact_30 ?_
    refine lv_istore_n (lv' := [(3, .int (g i)), (0, .ref o), (1, .int (nI i)), (2, .int x)]) hx hb dX5_setFact_31 rfl hl (by decide) rfl (fun ls hl => ?_)
    refine lv_aload_n hx hb dX5_setFact_32 rfl (lv_at hl 1 rfl) ?_
    refine mm_get (C := RX5) (T := TX5) (N := 7) (k := 0) hx hb hts (fun _ h => List.mem_cons_of_mem _ (List.mem_append_left _ (List.mem_append_left _ (List.mem_append_right _ h)))) hown hK hM h.1 rfl (by decide) (hts (.fieldLink RX5 12 "SentenceRules" "now" "LSentenceRules$State;") (List.mem_of_getElem? (i := 2) rfl)) rfl rfl dX5_setFact_33 ?_
    refine mm_get (C := RX3) (T := TX3) (N := 4) (k := 2) hx hb hts (fun _ h => List.mem_cons_of_mem _ (List.mem_append_left _ (List.mem_append_right _ h))) hown hK hM hA9.1.1 rfl (by decide) (hts (.fieldLink RX5 158 "SentenceRules$State" "facts" "[I") (List.mem_of_getElem? (i := 3) rfl)) rfl rfl dX5_setFact_36 ?_
    refine lv_iload_n hx hb dX5_setFact_39 rfl (lv_at hl 2 rfl) ?_
    refine lv_iload_n hx hb dX5_setFact_40 rfl (lv_at hl 3 rfl) ?_
    refine mn_iast hx hb hK hM hA9.1.2.2.1 i (by omega) (by decide) dX5_setFact_41 (fun Hp lcs hM => ?_)
    obtain ⟨gz3, hM, hz4, rz5⟩ := hM.up
    have hz6 := (rz5 _ (ne_oi h.1 hA9.1.2.2.1)).trans h.1
    have hz7 := (rz5 _ (ne_oi hA9.1.1 hA9.1.2.2.1)).trans hA9.1.1
    have hz8 := (rz5 _ (ne_QI hA9.1.2.1 hA9.1.2.2.1)).trans hA9.1.2.1
    have hz9 := (rz5 _ (ne_oi hA9.1.2.2.2.1 hA9.1.2.2.1)).trans hA9.1.2.2.2.1
    have hz10 := (rz5 _ (ne_len hA9.1.2.2.2.2.1 hA9.1.2.2.1 (by decide))).trans hA9.1.2.2.2.2.1
    have hz11 := (rz5 _ (ne_len hA9.1.2.2.2.2.2 hA9.1.2.2.1 (by decide))).trans hA9.1.2.2.2.2.2
    have hF := fun w9 e (hb : f w9 = some e) (hn0 : w9 ≠ fc) => (rz5 w9 hn0).trans (hF w9 e hb hn0)
    refine lv_iload_n hx hb dX5_setFact_42 rfl (lv_at hl 0 rfl) ?_
    exact mm_iret hx hb hlocks hr (Nat.le_of_ble_eq_true rfl) (Nat.le_of_ble_eq_true rfl) hM (by obtain ⟨hs, hk⟩ := StR.fact_ (i := i) (x := x) hA9 hB9 hz4 hF (by omega); rw [if_pos hvb, if_pos hvb, if_pos hvb, if_pos hvb, nI_clamp (by omega)]; exact ⟨congrArg (fun z => some (Value.int z)) (hA9.2.2.2.2.2.2.2.2 i (by omega)), T, q0, ra, rd, sp, rr, sb, h.now_ hk hs⟩) dX5_setFact_43
  refine lv_ldc (v := (-100002)) hx hb hown (hts (.constant RX5 41 (-100002)) (List.mem_of_getElem? (i := 1) rfl)) dX5_setFact_15 ?_
  exact mm_iret hx hb hlocks hr (Nat.le_of_ble_eq_true rfl) (Nat.le_of_ble_eq_true rfl) hM (⟨by rw [if_neg (by rw [valB, cz1, cz2]; decide)], by rw [if_neg (by rw [valB, cz1, cz2]; decide), if_neg (by rw [valB, cz1, cz2]; decide), if_neg (by rw [valB, cz1, cz2]; decide)]; exact ⟨T, q0, ra, rd, sp, rr, sb, h⟩⟩) dX5_setFact_17
set_option maxHeartbeats 4000000 in
set_option maxRecDepth 100000 in
theorem k_undoL (l : Launch) (G : mG) {f : mE} {T : Nat → Nat} {o q0 ra rd sp rr sb : Nat} {S P : Nat → Int32} {q : Nat} (h : CC G f T o q0 ra rd sp rr sb S P (q + 1)) (hq : q < 8) : mC l G yX5_undo wsX5_undo ({ frames := 3, cells := 0, slots := 0, locals := 69 } : Room) f [.ref o] (fun v f1 => v = some (.int (nI q)) ∧ CI G f1 o (filN (fun j => P (1113 * q + j)) S 1113) P q) 0 0 := by
  refine mC.of (cc := cX5_undo) (maxL := 2) (ret := (some .int)) (by decide) rfl (Nat.le_of_ble_eq_true rfl) ?_
  intro pgm env s mt args below meth c A ls hx hb hml hr hlocks hown hname hts hK hE hA hM hl
  have hl : lv_has ls 2 [(0, .ref o)] := hl
  obtain ⟨RB, Z, hra, tra, hrc8, hRB, hZ, hinj⟩ := h.2.2.2.2.2.2.2
  obtain ⟨⟨y, hy0⟩, hZq⟩ := hZ q (Nat.lt_succ_self q)
  obtain ⟨hyq, hSy⟩ := hRB q y (by omega) hy0
  obtain ⟨b, fc, pr1, ka, va, n1, cn1, B, g, K, V, hA9, hB9⟩ := h.2.2.2.2.2.2.1
  obtain ⟨yb, yf, yr, yk, yv, n2, cn2, B2, g2, K2, V2, hA2, hB2⟩ := hSy
  have hF := fun w9 e (hb : f w9 = some e)  => hb
  refine lv_aload_n hx hb dX5_undo_0 rfl (lv_at hl 0 rfl) ?_
  refine mm_get (C := RX5) (T := TX5) (N := 7) (k := 2) hx hb hts (fun _ h => List.mem_cons_of_mem _ (List.mem_append_left _ (List.mem_append_left _ (List.mem_append_right _ h)))) hown hK hM h.1 rfl (by decide) (hts (.fieldLink RX5 161 "SentenceRules" "recordedCount" "I") (List.mem_of_getElem? (i := 1) rfl)) rfl rfl dX5_undo_1 ?_
  refine lv_if_ne (tgt := 10) hx hb dX5_undo_4 (by decide) (fun _ => ?_) (fun hq9 => absurd (nI_inj (b := 0) (by omega) (by omega) hq9) (by omega))
  refine lv_aload_n hx hb dX5_undo_10 rfl (lv_at hl 0 rfl) ?_
  refine mm_get (C := RX5) (T := TX5) (N := 7) (k := 1) hx hb hts (fun _ h => List.mem_cons_of_mem _ (List.mem_append_left _ (List.mem_append_left _ (List.mem_append_right _ h)))) hown hK hM h.1 rfl (by decide) (hts (.fieldLink RX5 16 "SentenceRules" "recorded" "[LSentenceRules$State;") (List.mem_of_getElem? (i := 3) rfl)) rfl rfl dX5_undo_11 ?_
  refine lv_aload_n hx hb dX5_undo_14 rfl (lv_at hl 0 rfl) ?_
  refine mm_get (C := RX5) (T := TX5) (N := 7) (k := 2) hx hb hts (fun _ h => List.mem_cons_of_mem _ (List.mem_append_left _ (List.mem_append_left _ (List.mem_append_right _ h)))) hown hK hM h.1 rfl (by decide) (hts (.fieldLink RX5 161 "SentenceRules" "recordedCount" "I") (List.mem_of_getElem? (i := 1) rfl)) rfl rfl dX5_undo_15 ?_
  refine lv_iconst (v := (nI 1)) hx hb dX5_undo_18 (by decide +kernel) ?_
  refine ln_isub (q + 1) 1 (by omega) hx hb dX5_undo_19 ?_
  refine mv_top (y := (nI q)) (congrArg nI (by omega)) ?_
  refine mm_aldT hx hb hK hM hra (vp_in_nI (by omega) (by decide)) dX5_undo_20 ?_
  rw [nI_clamp (by omega)]
  refine mv_val (y := .ref y) (by rw [hy0]; rfl) ?_
  refine lv_astore_n (lv' := [(1, .ref y), (0, .ref o)]) hx hb dX5_undo_21 rfl hl (by decide) rfl (fun ls hl => ?_)
  refine lv_aload_n hx hb dX5_undo_22 rfl (lv_at hl 0 rfl) ?_
  refine lv_ifnonnull (tgt := 29) hx hb dX5_undo_23 (by decide) ?_
  refine lv_aload_n hx hb dX5_undo_29 rfl (lv_at hl 1 rfl) ?_
  refine mm_get (C := RX5) (T := TX5) (N := 7) (k := 0) hx hb hts (fun _ h => List.mem_cons_of_mem _ (List.mem_append_left _ (List.mem_append_left _ (List.mem_append_right _ h)))) hown hK hM h.1 rfl (by decide) (hts (.fieldLink RX5 12 "SentenceRules" "now" "LSentenceRules$State;") (List.mem_of_getElem? (i := 4) rfl)) rfl rfl dX5_undo_30 ?_
  refine lv_aload_n hx hb dX5_undo_33 rfl (lv_at hl 0 rfl) ?_
  refine mm_V (As := [.ref y]) (rest := []) ⟨hx, hb, hml, hown, hts⟩ (k_copyFrom l G hA9 hA2 hB2 (Ne.symm hyq)) (cwV 1 hts gX5_undo_X3_copyFrom rfl rfl rfl (by decide +kernel) ⟨Nat.le_of_ble_eq_true rfl, Nat.le_of_ble_eq_true rfl⟩) hK hE hA hM (mm_recv hK hM hA9.1.1 (q := (RX3, TX3, 4)) rfl) rfl hl.1 rfl (Nat.le_of_ble_eq_true rfl) dX5_undo_34 ⟨Nat.le_of_ble_eq_true rfl, Nat.le_of_ble_eq_true rfl⟩ (fun v ff Hp lcs hp hM => ?_)
  obtain ⟨rfl, hs, hk⟩ := hp
  have h := h.now_ hk (hs.cong (S2 := filN (fun j => P (1113 * q + j)) S 1113) (fun w hw => by rw [filN_atX hw]; exact (hZq w hw).symm))
  clear hk hs
  have hF := fun w9 e (hb : ff w9 = some e) (_ : w9 ≠ o) => hb
  refine lv_aload_n hx hb dX5_undo_37 rfl (lv_at hl 1 rfl) ?_
  refine lv_dup hx hb dX5_undo_38 rfl ?_
  refine mm_get (C := RX5) (T := TX5) (N := 7) (k := 2) hx hb hts (fun _ h => List.mem_cons_of_mem _ (List.mem_append_left _ (List.mem_append_left _ (List.mem_append_right _ h)))) hown hK hM h.1 rfl (by decide) (hts (.fieldLink RX5 161 "SentenceRules" "recordedCount" "I") (List.mem_of_getElem? (i := 1) rfl)) rfl rfl dX5_undo_39 ?_
  refine lv_iconst (v := (nI 1)) hx hb dX5_undo_42 (by decide +kernel) ?_
  refine ln_isub (q + 1) 1 (by omega) hx hb dX5_undo_43 ?_
  refine mv_top (y := (nI q)) (congrArg nI (by omega)) ?_
  refine mm_put (C := RX5) (T := TX5) (N := 7) (k := 2) hx hb hts (fun _ h => List.mem_cons_of_mem _ (List.mem_append_left _ (List.mem_append_left _ (List.mem_append_right _ h)))) tyX5 tyX5_ok nmX5 hown hK hM h.1 rfl (by decide) (hts (.fieldLink RX5 161 "SentenceRules" "recordedCount" "I") (List.mem_of_getElem? (i := 1) rfl)) rfl rfl rfl rfl (Nat.le_of_ble_eq_true rfl) dX5_undo_44 (fun Hp lcs hM => ?_)
  obtain ⟨gz1, hM, hz2, rz3⟩ := hM.up
  refine lv_aload_n hx hb dX5_undo_47 rfl (lv_at hl 1 rfl) ?_
  refine mm_get (C := RX5) (T := TX5) (N := 7) (k := 2) hx hb hts (fun _ h => List.mem_cons_of_mem _ (List.mem_append_left _ (List.mem_append_left _ (List.mem_append_right _ h)))) hown hK hM hz2 rfl (by decide) (hts (.fieldLink RX5 161 "SentenceRules" "recordedCount" "I") (List.mem_of_getElem? (i := 1) rfl)) rfl rfl dX5_undo_48 ?_
  exact mm_iret hx hb hlocks hr (Nat.le_of_ble_eq_true rfl) (Nat.le_of_ble_eq_true rfl) hM (⟨rfl, T, q0, ra, rd, sp, rr, sb, h.cnt_ (Nat.le_succ q) hz2 rz3⟩) dX5_undo_51
set_option maxHeartbeats 4000000 in
set_option maxRecDepth 100000 in
theorem k_retract (l : Launch) (G : mG) {f : mE} {T : Nat → Nat} {o q0 ra rd sp rr sb : Nat} {S P : Nat → Int32} {rc n cn : Nat} (h : CC G f T o q0 ra rd sp rr sb S P rc) (hv : VSn S n cn) (k : Int32) : mC l G yX5_retract wsX5_retract ({ frames := 4, cells := 6, slots := 78, locals := 90 } : Room) f [.ref o, .int k] (fun v f1 => (v = some (.int (retV S n k)) ∧ retV S n k < 0 ∧ CI G f1 o S P rc) ∨ ∃ jj, jj < n ∧ k = nI jj ∧ retP S n jj = false ∧ v = some (.int (nI (n - 1))) ∧ CI G f1 o (retS S n jj) (recP S P rc) (recN rc)) 6 78 := by
  refine mC.of (cc := cX5_retract) (maxL := 3) (ret := (some .int)) (by decide) rfl (Nat.le_of_ble_eq_true rfl) ?_
  intro pgm env s mt args below meth c A ls hx hb hml hr hlocks hown hname hts hK hE hA hM hl
  have hl : lv_has ls 3 [(0, .ref o), (1, .int k)] := hl
  obtain ⟨b, fc, pr1, ka, va, B, X, rg, pa, qa, tk, lo, hi, ab, gv, us, g, K, V, hA9, hB9, hQ, hg, hgS, hF9, hgv, hL, hT0, hTk⟩ := h.q hv
  have hn16 := hv.2.1
  have hF := fun w9 e (hb : f w9 = some e)  => hb
  refine lv_aload_n hx hb dX5_retract_0 rfl (lv_at hl 0 rfl) ?_
  refine mm_get (C := RX5) (T := TX5) (N := 7) (k := 0) hx hb hts (fun _ h => List.mem_cons_of_mem _ (List.mem_append_left _ (List.mem_append_left _ (List.mem_append_left _ (List.mem_append_right _ h))))) hown hK hM h.1 rfl (by decide) (hts (.fieldLink RX5 12 "SentenceRules" "now" "LSentenceRules$State;") (List.mem_of_getElem? (i := 1) rfl)) rfl rfl dX5_retract_1 ?_
  refine lv_iload_n hx hb dX5_retract_4 rfl (lv_at hl 1 rfl) ?_
  rcases sen_cases hn16 k with ⟨j, jN, rfl⟩ | hz1
  · refine mm_V (As := [.int (nI j)]) (rest := []) ⟨hx, hb, hml, hown, hts⟩ (c3_sentenceAt l G hQ j (by omega)) (cwV 1 hts gX5_retract_X3_sentenceAt rfl rfl rfl (by decide +kernel) ⟨Nat.le_of_ble_eq_true rfl, Nat.le_of_ble_eq_true rfl⟩) hK hE hA hM (mm_recv hK hM hA9.1.1 (q := (RX3, TX3, 4)) rfl) rfl hl.1 rfl (Nat.le_of_ble_eq_true rfl) dX5_retract_5 ⟨Nat.le_of_ble_eq_true rfl, Nat.le_of_ble_eq_true rfl⟩ (fun v f1 Hp lcs hp hM => ?_)
    obtain ⟨rfl, hf⟩ := hp; subst hf
    have hz2 := hQ.2.2.2 j (by omega)
    refine lv_astore_n (lv' := [(2, .ref (X j)), (0, .ref o), (1, .int (nI j))]) hx hb dX5_retract_8 rfl hl (by decide) rfl (fun ls hl => ?_)
    refine lv_aload_n hx hb dX5_retract_9 rfl (lv_at hl 0 rfl) ?_
    refine lv_ifnonnull (tgt := 16) hx hb dX5_retract_10 (by decide) ?_
    refine lv_aload_n hx hb dX5_retract_16 rfl (lv_at hl 0 rfl) ?_
    refine mm_V (As := []) (rest := []) ⟨hx, hb, hml, hown, hts⟩ (c2_isDefinition l G hz2.2.1) (cwV 0 hts gX5_retract_X2_isDefinition rfl rfl rfl (by decide +kernel) ⟨Nat.le_of_ble_eq_true rfl, Nat.le_of_ble_eq_true rfl⟩) hK hE hA hM (mm_recv hK hM hz2.2.1 (q := (RX2, TX2, 5)) rfl) rfl hl.1 rfl (Nat.le_of_ble_eq_true rfl) dX5_retract_17 ⟨Nat.le_of_ble_eq_true rfl, Nat.le_of_ble_eq_true rfl⟩ (fun v f1 Hp lcs hp hM => ?_)
    obtain ⟨rfl, hf⟩ := hp; subst hf
    refine lvb_eq (tgt := 43) hx hb dX5_retract_20 (by decide) (fun cz3 => ?_) (fun cz3 => ?_)
    · have hrp : retP S n j = false := by rw [retP, ← hF9.ab_ jN, cz3]; rfl
      refine lv_aload_n hx hb dX5_retract_43 rfl (lv_at hl 1 rfl) ?_
      refine mm_V (As := []) (rest := []) ⟨hx, hb, hml, hown, hts⟩ (k_recordNow l G h) (cwV 0 hts gX5_retract_X5_recordNow rfl rfl rfl (by decide +kernel) ⟨Nat.le_of_ble_eq_true rfl, Nat.le_of_ble_eq_true rfl⟩) hK hE hA hM (mm_recv hK hM h.1 (q := (RX5, TX5, 7)) rfl) rfl hl.1 rfl (Nat.le_of_ble_eq_true rfl) dX5_retract_44 ⟨Nat.le_of_ble_eq_true rfl, Nat.le_of_ble_eq_true rfl⟩ (fun v f Hp lcs hp hM => ?_)
      obtain ⟨rfl, T, h, hkp⟩ := hp
      obtain ⟨b, fc, pr1, ka, va, B, X, rg, pa, qa, tk, lo, hi, ab, gv, us, g, K, V, hA9, hB9, hQ, hg, hgS, hF9, hgv, hL, hT0, hTk⟩ := h.q hv
      have hF := fun w9 e (hb : f w9 = some e)  => hb
      refine lv_aload_n hx hb dX5_retract_47 rfl (lv_at hl 1 rfl) ?_
      refine mm_get (C := RX5) (T := TX5) (N := 7) (k := 0) hx hb hts (fun _ h => List.mem_cons_of_mem _ (List.mem_append_left _ (List.mem_append_left _ (List.mem_append_left _ (List.mem_append_right _ h))))) hown hK hM h.1 rfl (by decide) (hts (.fieldLink RX5 12 "SentenceRules" "now" "LSentenceRules$State;") (List.mem_of_getElem? (i := 1) rfl)) rfl rfl dX5_retract_48 ?_
      refine lv_iload_n hx hb dX5_retract_51 rfl (lv_at hl 2 rfl) ?_
      refine mm_V (As := [.int (nI j)]) (rest := []) ⟨hx, hb, hml, hown, hts⟩ (c3_removeSentence l G hA9.1.1 hA9.1.2.1 (fun i hi => ⟨_, _, (hQ.2.2.2 i hi).1, (hQ.2.2.2 i hi).2.1⟩) j jN hn16) (cwV 1 hts gX5_retract_X3_removeSentence rfl rfl rfl (by decide +kernel) ⟨Nat.le_of_ble_eq_true rfl, Nat.le_of_ble_eq_true rfl⟩) hK hE hA hM (mm_recv hK hM hA9.1.1 (q := (RX3, TX3, 4)) rfl) rfl hl.1 rfl (Nat.le_of_ble_eq_true rfl) dX5_retract_52 ⟨Nat.le_of_ble_eq_true rfl, Nat.le_of_ble_eq_true rfl⟩ (fun v ff Hp lcs hp hM => ?_)
      obtain ⟨rfl, g1, g2, hF1⟩ := hp
      refine lv_aload_n hx hb dX5_retract_55 rfl (lv_at hl 1 rfl) ?_
      refine mm_get (C := RX5) (T := TX5) (N := 7) (k := 0) hx hb hts (fun _ h => List.mem_cons_of_mem _ (List.mem_append_left _ (List.mem_append_left _ (List.mem_append_left _ (List.mem_append_right _ h))))) hown hK hM (hF1 _ _ h.1 (ne_oo h.1 hA9.1.1 (by show (6 : Nat) ≠ 4; decide)) (ne_oi h.1 hA9.1.2.1)) rfl (by decide) (hts (.fieldLink RX5 12 "SentenceRules" "now" "LSentenceRules$State;") (List.mem_of_getElem? (i := 1) rfl)) rfl rfl dX5_retract_56 ?_
      refine mm_get (C := RX3) (T := TX3) (N := 4) (k := 0) hx hb hts (fun _ h => List.mem_cons_of_mem _ (List.mem_append_left _ (List.mem_append_right _ h))) hown hK hM g1 rfl (by decide) (hts (.fieldLink RX5 86 "SentenceRules$State" "sentenceCount" "I") (List.mem_of_getElem? (i := 5) rfl)) rfl rfl dX5_retract_59 ?_
      exact mm_iret hx hb hlocks hr (Nat.le_of_ble_eq_true rfl) (Nat.le_of_ble_eq_true rfl) hM (by obtain ⟨hs, hk⟩ := StR.rem_ hA9 hB9 jN g1 g2 hF1; exact Or.inr ⟨j, jN, rfl, hrp, rfl, T, q0, ra, rd, sp, rr, sb, h.now_ hk hs⟩) dX5_retract_62
    refine lv_aload_n hx hb dX5_retract_23 rfl (lv_at hl 1 rfl) ?_
    refine mm_get (C := RX5) (T := TX5) (N := 7) (k := 0) hx hb hts (fun _ h => List.mem_cons_of_mem _ (List.mem_append_left _ (List.mem_append_left _ (List.mem_append_left _ (List.mem_append_right _ h))))) hown hK hM h.1 rfl (by decide) (hts (.fieldLink RX5 12 "SentenceRules" "now" "LSentenceRules$State;") (List.mem_of_getElem? (i := 1) rfl)) rfl rfl dX5_retract_24 ?_
    refine lv_aload_n hx hb dX5_retract_27 rfl (lv_at hl 0 rfl) ?_
    refine mm_get (C := RX2) (T := TX2) (N := 5) (k := 2) hx hb hts (fun _ h => List.mem_cons_of_mem _ (List.mem_append_left _ (List.mem_append_left _ (List.mem_append_right _ h)))) hown hK hM hz2.2.1 rfl (by decide) (hts (.fieldLink RX5 144 "SentenceRules$Sentence" "about" "I") (List.mem_of_getElem? (i := 3) rfl)) rfl rfl dX5_retract_28 ?_
    refine lv_bipush (v := (nI 10)) hx hb dX5_retract_31 (by decide +kernel) ?_
    refine lv_isub hx hb dX5_retract_33 ?_
    refine mm_V (As := [.int ((ab j) - (nI 10))]) (rest := []) ⟨hx, hb, hml, hown, hts⟩ (c3_isUsed l G hQ ((ab j) - (nI 10))) (cwV 1 hts gX5_retract_X3_isUsed rfl rfl rfl (by decide +kernel) ⟨Nat.le_of_ble_eq_true rfl, Nat.le_of_ble_eq_true rfl⟩) hK hE hA hM (mm_recv hK hM hA9.1.1 (q := (RX3, TX3, 4)) rfl) rfl hl.1 rfl (Nat.le_of_ble_eq_true rfl) dX5_retract_34 ⟨Nat.le_of_ble_eq_true rfl, Nat.le_of_ble_eq_true rfl⟩ (fun v f1 Hp lcs hp hM => ?_)
    obtain ⟨rfl, hf⟩ := hp; subst hf
    refine lvb_eq (tgt := 43) hx hb dX5_retract_37 (by decide) (fun cz4 => ?_) (fun cz4 => ?_)
    · have hrp : retP S n j = false := by rw [retP, ← hF9.ab_ jN, ← e_use hF9, cz3, cz4]; rfl
      refine lv_aload_n hx hb dX5_retract_43 rfl (lv_at hl 1 rfl) ?_
      refine mm_V (As := []) (rest := []) ⟨hx, hb, hml, hown, hts⟩ (k_recordNow l G h) (cwV 0 hts gX5_retract_X5_recordNow rfl rfl rfl (by decide +kernel) ⟨Nat.le_of_ble_eq_true rfl, Nat.le_of_ble_eq_true rfl⟩) hK hE hA hM (mm_recv hK hM h.1 (q := (RX5, TX5, 7)) rfl) rfl hl.1 rfl (Nat.le_of_ble_eq_true rfl) dX5_retract_44 ⟨Nat.le_of_ble_eq_true rfl, Nat.le_of_ble_eq_true rfl⟩ (fun v f Hp lcs hp hM => ?_)
      obtain ⟨rfl, T, h, hkp⟩ := hp
      obtain ⟨b, fc, pr1, ka, va, B, X, rg, pa, qa, tk, lo, hi, ab, gv, us, g, K, V, hA9, hB9, hQ, hg, hgS, hF9, hgv, hL, hT0, hTk⟩ := h.q hv
      have hF := fun w9 e (hb : f w9 = some e)  => hb
      refine lv_aload_n hx hb dX5_retract_47 rfl (lv_at hl 1 rfl) ?_
      refine mm_get (C := RX5) (T := TX5) (N := 7) (k := 0) hx hb hts (fun _ h => List.mem_cons_of_mem _ (List.mem_append_left _ (List.mem_append_left _ (List.mem_append_left _ (List.mem_append_right _ h))))) hown hK hM h.1 rfl (by decide) (hts (.fieldLink RX5 12 "SentenceRules" "now" "LSentenceRules$State;") (List.mem_of_getElem? (i := 1) rfl)) rfl rfl dX5_retract_48 ?_
      refine lv_iload_n hx hb dX5_retract_51 rfl (lv_at hl 2 rfl) ?_
      refine mm_V (As := [.int (nI j)]) (rest := []) ⟨hx, hb, hml, hown, hts⟩ (c3_removeSentence l G hA9.1.1 hA9.1.2.1 (fun i hi => ⟨_, _, (hQ.2.2.2 i hi).1, (hQ.2.2.2 i hi).2.1⟩) j jN hn16) (cwV 1 hts gX5_retract_X3_removeSentence rfl rfl rfl (by decide +kernel) ⟨Nat.le_of_ble_eq_true rfl, Nat.le_of_ble_eq_true rfl⟩) hK hE hA hM (mm_recv hK hM hA9.1.1 (q := (RX3, TX3, 4)) rfl) rfl hl.1 rfl (Nat.le_of_ble_eq_true rfl) dX5_retract_52 ⟨Nat.le_of_ble_eq_true rfl, Nat.le_of_ble_eq_true rfl⟩ (fun v ff Hp lcs hp hM => ?_)
      obtain ⟨rfl, g1, g2, hF1⟩ := hp
      refine lv_aload_n hx hb dX5_retract_55 rfl (lv_at hl 1 rfl) ?_
      refine mm_get (C := RX5) (T := TX5) (N := 7) (k := 0) hx hb hts (fun _ h => List.mem_cons_of_mem _ (List.mem_append_left _ (List.mem_append_left _ (List.mem_append_left _ (List.mem_append_right _ h))))) hown hK hM (hF1 _ _ h.1 (ne_oo h.1 hA9.1.1 (by show (6 : Nat) ≠ 4; decide)) (ne_oi h.1 hA9.1.2.1)) rfl (by decide) (hts (.fieldLink RX5 12 "SentenceRules" "now" "LSentenceRules$State;") (List.mem_of_getElem? (i := 1) rfl)) rfl rfl dX5_retract_56 ?_
      refine mm_get (C := RX3) (T := TX3) (N := 4) (k := 0) hx hb hts (fun _ h => List.mem_cons_of_mem _ (List.mem_append_left _ (List.mem_append_right _ h))) hown hK hM g1 rfl (by decide) (hts (.fieldLink RX5 86 "SentenceRules$State" "sentenceCount" "I") (List.mem_of_getElem? (i := 5) rfl)) rfl rfl dX5_retract_59 ?_
      exact mm_iret hx hb hlocks hr (Nat.le_of_ble_eq_true rfl) (Nat.le_of_ble_eq_true rfl) hM (by obtain ⟨hs, hk⟩ := StR.rem_ hA9 hB9 jN g1 g2 hF1; exact Or.inr ⟨j, jN, rfl, hrp, rfl, T, q0, ra, rd, sp, rr, sb, h.now_ hk hs⟩) dX5_retract_62
    refine lv_ldc (v := (-100003)) hx hb hown (hts (.constant RX5 75 (-100003)) (List.mem_of_getElem? (i := 4) rfl)) dX5_retract_40 ?_
    exact mm_iret hx hb hlocks hr (Nat.le_of_ble_eq_true rfl) (Nat.le_of_ble_eq_true rfl) hM (Or.inl ⟨congrArg (fun z => some (Value.int z)) (by rw [retV, tolN_S hv.1 hn16]; exact (tolN_at hn16 jN (by rw [if_pos (show retP S n j = true from by rw [retP, ← hF9.ab_ jN, ← e_use hF9, cz3, cz4]; rfl)]))), by rw [retV, tolN_S hv.1 hn16, ← tolN_at (x := -100003) (g := fun j => if retP S n j = true then -100003 else nI (n - 1)) hn16 jN (by rw [if_pos (show retP S n j = true from by rw [retP, ← hF9.ab_ jN, ← e_use hF9, cz3, cz4]; rfl)])]; decide, T, q0, ra, rd, sp, rr, sb, h⟩) dX5_retract_42
  · refine mm_V (As := [.int k]) (rest := []) ⟨hx, hb, hml, hown, hts⟩ (c3_sentenceAtN l G hQ k hz1) (cwV 1 hts gX5_retract_X3_sentenceAt rfl rfl rfl (by decide +kernel) ⟨Nat.le_of_ble_eq_true rfl, Nat.le_of_ble_eq_true rfl⟩) hK hE hA hM (mm_recv hK hM hA9.1.1 (q := (RX3, TX3, 4)) rfl) rfl hl.1 rfl (Nat.le_of_ble_eq_true rfl) dX5_retract_5 ⟨Nat.le_of_ble_eq_true rfl, Nat.le_of_ble_eq_true rfl⟩ (fun v f1 Hp lcs hp hM => ?_)
    obtain ⟨rfl, hf⟩ := hp; subst hf
    refine lv_astore_nN (lv' := [(2, .null), (0, .ref o), (1, .int k)]) hx hb dX5_retract_8 rfl hl (by decide) rfl (fun ls hl => ?_)
    refine lv_aload_nN hx hb dX5_retract_9 rfl (lv_at hl 0 rfl) ?_
    refine lv_ifnonnullN hx hb dX5_retract_10 ?_
    refine lv_ldc (v := (-100001)) hx hb hown (hts (.constant RX5 140 (-100001)) (List.mem_of_getElem? (i := 2) rfl)) dX5_retract_13 ?_
    exact mm_iret hx hb hlocks hr (Nat.le_of_ble_eq_true rfl) (Nat.le_of_ble_eq_true rfl) hM (Or.inl ⟨congrArg (fun z => some (Value.int z)) (by rw [retV, tolN_S hv.1 hn16]; exact tolN_no hz1), by rw [retV, tolN_S hv.1 hn16, ← tolN_no hz1]; decide, T, q0, ra, rd, sp, rr, sb, h⟩) dX5_retract_15

