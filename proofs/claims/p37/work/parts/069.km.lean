/-! THE CLASS: the present sentence, dates -/
set_option maxHeartbeats 4000000 in
set_option maxRecDepth 100000 in
theorem c5_appL (l : Launch) (G : mG) {f : mE} {o ra rd sp rr sb : Nat} {rc : Nat} {q0 b fc pr ka va n cn : Nat} {B : Nat → Option Nat} {g K Vv : Nat → Int32} (h_q0 : f q0 = some (.inr (4, [.int (nI n), .ref b, .ref fc, .ref pr]))) (h_b : f b = some (mQ G 2 16 B)) (h_fc : f fc = some (mI G 7 g)) (h_pr : f pr = some (.inr (5, [.int (nI cn), .ref ka, .ref va]))) (h_ka : f ka = some (mI G 24 K)) (h_va : f va = some (mI G 24 Vv)) (hkv : ka ≠ va) (h_o : f o = some (.inr (6, [.ref q0, .ref ra, .int (nI rc), .ref rd, .ref sp, .ref rr, .ref sb]))) (hcn : cn < 24) (x y : Int32) : mC l G yX5_append wsX5_append ({ frames := 1, cells := 0, slots := 0, locals := 22 } : Room) f [.ref o, .int x, .int y] (fun v f1 => v = some (.int (nI (cn + 1))) ∧ f1 pr = some (.inr (5, [.int (nI (cn + 1)), .ref ka, .ref va])) ∧ f1 ka = some (mI G 24 (upd K cn x)) ∧ f1 va = some (mI G 24 (upd Vv cn y)) ∧ ∀ c e, f c = some e → c ≠ pr → c ≠ ka → c ≠ va → f1 c = some e) 0 0 := by
  refine mC.of (cc := cX5_append) (maxL := 3) (ret := (some .int)) (by decide) rfl (Nat.le_of_ble_eq_true rfl) ?_
  intro pgm env s mt args below meth c A ls hx hb hml hr hlocks hown hname hts hK hE hA hM hl
  have hl : lv_has ls 3 [(0, .ref o), (1, .int x), (2, .int y)] := hl
  have hF := fun w9 e (hb : f w9 = some e) (_ : w9 ≠ pr) (_ : w9 ≠ ka) (_ : w9 ≠ va) => hb
  refine lv_aload_n hx hb dX5_append_0 rfl (lv_at hl 0 rfl) ?_
  refine mm_get (C := RX5) (T := TX5) (N := 7) (k := 0) hx hb hts (fun _ h => List.mem_cons_of_mem _ (List.mem_append_left _ (List.mem_append_left _ (List.mem_append_right _ h)))) hown hK hM h_o rfl (by decide) (hts (.fieldLink RX5 12 "SentenceRules" "now" "LSentenceRules$State;") (List.mem_of_getElem? (i := 1) rfl)) rfl rfl dX5_append_1 ?_
  refine mm_get (C := RX3) (T := TX3) (N := 4) (k := 3) hx hb hts (fun _ h => List.mem_cons_of_mem _ (List.mem_append_left _ (List.mem_append_right _ h))) hown hK hM h_q0 rfl (by decide) (hts (.fieldLink RX5 57 "SentenceRules$State" "present" "LSentenceRules$Tokens;") (List.mem_of_getElem? (i := 2) rfl)) rfl rfl dX5_append_4 ?_
  refine lv_iload_n hx hb dX5_append_7 rfl (lv_at hl 1 rfl) ?_
  refine lv_iload_n hx hb dX5_append_8 rfl (lv_at hl 2 rfl) ?_
  refine mm_V (As := [.int x, .int y]) (rest := []) ⟨hx, hb, hml, hown, hts⟩ (c4_append l G h_pr h_ka h_va hkv hcn x y) (cwV 2 hts gX5_append_X4_append rfl rfl rfl (by decide +kernel) ⟨Nat.le_of_ble_eq_true rfl, Nat.le_of_ble_eq_true rfl⟩) hK hE hA hM (mm_recv hK hM h_pr (q := (RX4, TX4, 3)) rfl) rfl hl.1 rfl (Nat.le_of_ble_eq_true rfl) dX5_append_9 ⟨Nat.le_of_ble_eq_true rfl, Nat.le_of_ble_eq_true rfl⟩ (fun v gz1 Hp lcs hp hM => ?_)
  obtain ⟨rfl, hz2, hz3, hz4, rz5⟩ := hp
  have hz6 := (rz5 _ (ne_oo h_q0 h_pr (by show (4 : Nat) ≠ 5; decide)) (ne_oi h_q0 h_ka) (ne_oi h_q0 h_va)).trans h_q0
  have hz7 := (rz5 _ (ne_oi h_pr h_b).symm (ne_QI h_b h_ka) (ne_QI h_b h_va)).trans h_b
  have hz8 := (rz5 _ (ne_oi h_pr h_fc).symm (ne_len h_fc h_ka (by decide)) (ne_len h_fc h_va (by decide))).trans h_fc
  have hz9 := (rz5 _ (ne_oo h_o h_pr (by show (6 : Nat) ≠ 5; decide)) (ne_oi h_o h_ka) (ne_oi h_o h_va)).trans h_o
  have hF := fun w9 e (hb : f w9 = some e) (hn0 : w9 ≠ pr) (hn1 : w9 ≠ ka) (hn2 : w9 ≠ va) => (rz5 w9 hn0 hn1 hn2).trans (hF w9 e hb hn0 hn1 hn2)
  refine mv_top (y := nI 1) rfl ?_
  refine lv_if_eq (tgt := 28) hx hb dX5_append_12 (by decide) (fun hq9 => absurd hq9 (by decide)) (fun _ => ?_)
  refine lv_aload_n hx hb dX5_append_15 rfl (lv_at hl 0 rfl) ?_
  refine mm_get (C := RX5) (T := TX5) (N := 7) (k := 0) hx hb hts (fun _ h => List.mem_cons_of_mem _ (List.mem_append_left _ (List.mem_append_left _ (List.mem_append_right _ h)))) hown hK hM hz9 rfl (by decide) (hts (.fieldLink RX5 12 "SentenceRules" "now" "LSentenceRules$State;") (List.mem_of_getElem? (i := 1) rfl)) rfl rfl dX5_append_16 ?_
  refine mm_get (C := RX3) (T := TX3) (N := 4) (k := 3) hx hb hts (fun _ h => List.mem_cons_of_mem _ (List.mem_append_left _ (List.mem_append_right _ h))) hown hK hM hz6 rfl (by decide) (hts (.fieldLink RX5 57 "SentenceRules$State" "present" "LSentenceRules$Tokens;") (List.mem_of_getElem? (i := 2) rfl)) rfl rfl dX5_append_19 ?_
  refine mm_get (C := RX4) (T := TX4) (N := 3) (k := 0) hx hb hts (fun _ h => List.mem_cons_of_mem _ (List.mem_append_right _ h)) hown hK hM hz2 rfl (by decide) (hts (.fieldLink RX5 66 "SentenceRules$Tokens" "count" "I") (List.mem_of_getElem? (i := 3) rfl)) rfl rfl dX5_append_22 ?_
  refine lv_goto (tgt := 30) hx hb dX5_append_25 (by decide) ?_
  exact mm_iret hx hb hlocks hr (Nat.le_of_ble_eq_true rfl) (Nat.le_of_ble_eq_true rfl) hM (⟨rfl, hz2, hz3, hz4, hF⟩) dX5_append_30
set_option maxHeartbeats 4000000 in
set_option maxRecDepth 100000 in
theorem c5_appF (l : Launch) (G : mG) {f : mE} {o ra rd sp rr sb : Nat} {rc : Nat} {q0 b fc pr ka va n cn : Nat} {B : Nat → Option Nat} {g K Vv : Nat → Int32} (h_q0 : f q0 = some (.inr (4, [.int (nI n), .ref b, .ref fc, .ref pr]))) (h_b : f b = some (mQ G 2 16 B)) (h_fc : f fc = some (mI G 7 g)) (h_pr : f pr = some (.inr (5, [.int (nI cn), .ref ka, .ref va]))) (h_ka : f ka = some (mI G 24 K)) (h_va : f va = some (mI G 24 Vv)) (hkv : ka ≠ va) (h_o : f o = some (.inr (6, [.ref q0, .ref ra, .int (nI rc), .ref rd, .ref sp, .ref rr, .ref sb]))) (hcn : cn = 24) (x y : Int32) : mC l G yX5_append wsX5_append ({ frames := 1, cells := 0, slots := 0, locals := 22 } : Room) f [.ref o, .int x, .int y] (fun v f1 => v = some (.int (-100004)) ∧ f = f1) 0 0 := by
  refine mC.of (cc := cX5_append) (maxL := 3) (ret := (some .int)) (by decide) rfl (Nat.le_of_ble_eq_true rfl) ?_
  intro pgm env s mt args below meth c A ls hx hb hml hr hlocks hown hname hts hK hE hA hM hl
  have hl : lv_has ls 3 [(0, .ref o), (1, .int x), (2, .int y)] := hl
  have hF := fun w9 e (hb : f w9 = some e)  => hb
  refine lv_aload_n hx hb dX5_append_0 rfl (lv_at hl 0 rfl) ?_
  refine mm_get (C := RX5) (T := TX5) (N := 7) (k := 0) hx hb hts (fun _ h => List.mem_cons_of_mem _ (List.mem_append_left _ (List.mem_append_left _ (List.mem_append_right _ h)))) hown hK hM h_o rfl (by decide) (hts (.fieldLink RX5 12 "SentenceRules" "now" "LSentenceRules$State;") (List.mem_of_getElem? (i := 1) rfl)) rfl rfl dX5_append_1 ?_
  refine mm_get (C := RX3) (T := TX3) (N := 4) (k := 3) hx hb hts (fun _ h => List.mem_cons_of_mem _ (List.mem_append_left _ (List.mem_append_right _ h))) hown hK hM h_q0 rfl (by decide) (hts (.fieldLink RX5 57 "SentenceRules$State" "present" "LSentenceRules$Tokens;") (List.mem_of_getElem? (i := 2) rfl)) rfl rfl dX5_append_4 ?_
  refine lv_iload_n hx hb dX5_append_7 rfl (lv_at hl 1 rfl) ?_
  refine lv_iload_n hx hb dX5_append_8 rfl (lv_at hl 2 rfl) ?_
  refine mm_V (As := [.int x, .int y]) (rest := []) ⟨hx, hb, hml, hown, hts⟩ (c4_appendF l G h_pr h_ka h_va hcn x y) (cwV 2 hts gX5_append_X4_append rfl rfl rfl (by decide +kernel) ⟨Nat.le_of_ble_eq_true rfl, Nat.le_of_ble_eq_true rfl⟩) hK hE hA hM (mm_recv hK hM h_pr (q := (RX4, TX4, 3)) rfl) rfl hl.1 rfl (Nat.le_of_ble_eq_true rfl) dX5_append_9 ⟨Nat.le_of_ble_eq_true rfl, Nat.le_of_ble_eq_true rfl⟩ (fun v f1 Hp lcs hp hM => ?_)
  obtain ⟨rfl, hf⟩ := hp; subst hf
  refine mv_top (y := nI 0) rfl ?_
  refine lv_if_eq (tgt := 28) hx hb dX5_append_12 (by decide) (fun _ => ?_) (fun hq9 => absurd hq9 (by decide))
  refine lv_ldc (v := (-100004)) hx hb hown (hts (.constant RX5 70 (-100004)) (List.mem_of_getElem? (i := 4) rfl)) dX5_append_28 ?_
  exact mm_iret hx hb hlocks hr (Nat.le_of_ble_eq_true rfl) (Nat.le_of_ble_eq_true rfl) hM (⟨rfl, rfl⟩) dX5_append_30
set_option maxHeartbeats 4000000 in
set_option maxRecDepth 100000 in
theorem c5_clear (l : Launch) (G : mG) {f : mE} {o ra rd sp rr sb : Nat} {rc : Nat} {q0 b fc pr ka va n cn : Nat} {B : Nat → Option Nat} {g K Vv : Nat → Int32} (h_q0 : f q0 = some (.inr (4, [.int (nI n), .ref b, .ref fc, .ref pr]))) (h_b : f b = some (mQ G 2 16 B)) (h_fc : f fc = some (mI G 7 g)) (h_pr : f pr = some (.inr (5, [.int (nI cn), .ref ka, .ref va]))) (h_ka : f ka = some (mI G 24 K)) (h_va : f va = some (mI G 24 Vv)) (hkv : ka ≠ va) (h_o : f o = some (.inr (6, [.ref q0, .ref ra, .int (nI rc), .ref rd, .ref sp, .ref rr, .ref sb]))) : mC l G yX5_clear wsX5_clear ({ frames := 1, cells := 0, slots := 0, locals := 20 } : Room) f [.ref o] (fun v f1 => v = some (.int (nI cn)) ∧ f1 pr = some (.inr (5, [.int (nI (0)), .ref ka, .ref va])) ∧ ∀ c e, f c = some e → c ≠ pr → f1 c = some e) 0 0 := by
  refine mC.of (cc := cX5_clear) (maxL := 2) (ret := (some .int)) (by decide) rfl (Nat.le_of_ble_eq_true rfl) ?_
  intro pgm env s mt args below meth c A ls hx hb hml hr hlocks hown hname hts hK hE hA hM hl
  have hl : lv_has ls 2 [(0, .ref o)] := hl
  have hF := fun w9 e (hb : f w9 = some e) (_ : w9 ≠ pr) => hb
  refine lv_aload_n hx hb dX5_clear_0 rfl (lv_at hl 0 rfl) ?_
  refine mm_get (C := RX5) (T := TX5) (N := 7) (k := 0) hx hb hts (fun _ h => List.mem_cons_of_mem _ (List.mem_append_left _ (List.mem_append_left _ (List.mem_append_right _ h)))) hown hK hM h_o rfl (by decide) (hts (.fieldLink RX5 12 "SentenceRules" "now" "LSentenceRules$State;") (List.mem_of_getElem? (i := 1) rfl)) rfl rfl dX5_clear_1 ?_
  refine mm_get (C := RX3) (T := TX3) (N := 4) (k := 3) hx hb hts (fun _ h => List.mem_cons_of_mem _ (List.mem_append_left _ (List.mem_append_right _ h))) hown hK hM h_q0 rfl (by decide) (hts (.fieldLink RX5 57 "SentenceRules$State" "present" "LSentenceRules$Tokens;") (List.mem_of_getElem? (i := 2) rfl)) rfl rfl dX5_clear_4 ?_
  refine mm_get (C := RX4) (T := TX4) (N := 3) (k := 0) hx hb hts (fun _ h => List.mem_cons_of_mem _ (List.mem_append_right _ h)) hown hK hM h_pr rfl (by decide) (hts (.fieldLink RX5 66 "SentenceRules$Tokens" "count" "I") (List.mem_of_getElem? (i := 3) rfl)) rfl rfl dX5_clear_7 ?_
  refine lv_istore_n (lv' := [(1, .int (nI cn)), (0, .ref o)]) hx hb dX5_clear_10 rfl hl (by decide) rfl (fun ls hl => ?_)
  refine lv_aload_n hx hb dX5_clear_11 rfl (lv_at hl 1 rfl) ?_
  refine mm_get (C := RX5) (T := TX5) (N := 7) (k := 0) hx hb hts (fun _ h => List.mem_cons_of_mem _ (List.mem_append_left _ (List.mem_append_left _ (List.mem_append_right _ h)))) hown hK hM h_o rfl (by decide) (hts (.fieldLink RX5 12 "SentenceRules" "now" "LSentenceRules$State;") (List.mem_of_getElem? (i := 1) rfl)) rfl rfl dX5_clear_12 ?_
  refine mm_get (C := RX3) (T := TX3) (N := 4) (k := 3) hx hb hts (fun _ h => List.mem_cons_of_mem _ (List.mem_append_left _ (List.mem_append_right _ h))) hown hK hM h_q0 rfl (by decide) (hts (.fieldLink RX5 57 "SentenceRules$State" "present" "LSentenceRules$Tokens;") (List.mem_of_getElem? (i := 2) rfl)) rfl rfl dX5_clear_15 ?_
  refine mm_V (As := []) (rest := []) ⟨hx, hb, hml, hown, hts⟩ (c4_removeAll l G h_pr h_ka h_va) (cwV 0 hts gX5_clear_X4_removeAll rfl rfl rfl (by decide +kernel) ⟨Nat.le_of_ble_eq_true rfl, Nat.le_of_ble_eq_true rfl⟩) hK hE hA hM (mm_recv hK hM h_pr (q := (RX4, TX4, 3)) rfl) rfl hl.1 rfl (Nat.le_of_ble_eq_true rfl) dX5_clear_18 ⟨Nat.le_of_ble_eq_true rfl, Nat.le_of_ble_eq_true rfl⟩ (fun v gz1 Hp lcs hp hM => ?_)
  obtain ⟨rfl, hz2, rz3⟩ := hp
  have hz4 := (rz3 _ (ne_oo h_q0 h_pr (by show (4 : Nat) ≠ 5; decide))).trans h_q0
  have hz5 := (rz3 _ (ne_oi h_pr h_b).symm).trans h_b
  have hz6 := (rz3 _ (ne_oi h_pr h_fc).symm).trans h_fc
  have hz7 := (rz3 _ (ne_oi h_pr h_ka).symm).trans h_ka
  have hz8 := (rz3 _ (ne_oi h_pr h_va).symm).trans h_va
  have hz9 := (rz3 _ (ne_oo h_o h_pr (by show (6 : Nat) ≠ 5; decide))).trans h_o
  have hF := fun w9 e (hb : f w9 = some e) (hn0 : w9 ≠ pr) => (rz3 w9 hn0).trans (hF w9 e hb hn0)
  refine lv_iload_n hx hb dX5_clear_21 rfl (lv_at hl 0 rfl) ?_
  exact mm_iret hx hb hlocks hr (Nat.le_of_ble_eq_true rfl) (Nat.le_of_ble_eq_true rfl) hM (⟨rfl, hz2, hF⟩) dX5_clear_22
theorem StR.pres {G : mG} {f f1 : mE} {T : Nat → Nat} {q b fc pr ka va n cn cn1 : Nat} {B : Nat → Option Nat} {g K V K1 V1 S S1 : Nat → Int32} (hA : StA G f T q b fc pr ka va n cn B g K V S) (hB : StB G f T n B S) (h1 : f1 pr = some (.inr (5, [.int (nI cn1), .ref ka, .ref va]))) (h2 : f1 ka = some (mI G 24 K1)) (h3 : f1 va = some (mI G 24 V1)) (hF : ∀ c e, f c = some e → c ≠ pr → c ≠ ka → c ≠ va → f1 c = some e) (c7 : S1 7 = nI cn1) (c24 : cn1 ≤ 24) (hKV : ∀ j, j < cn1 → K1 j = S1 (7 + 1 + j) ∧ V1 j = S1 (7 + 25 + j)) (hlo : ∀ j, j < 7 → S1 j = S j) (h56 : S1 56 = S 56) (hhi : ∀ j, 57 ≤ j → j < 1113 → S1 j = S j) : StR G f1 T q S1 ∧ Kp f f1 T T (fun t => t ≠ q + 1) := by
  obtain ⟨⟨a1, a2, a3, a4, a5, a6⟩, hne, ⟨t1, t2, t3, t4, t5, t6⟩, v1, v2, v3, v4, v5, v6⟩ := hA
  have hk : Kp f f1 T T (fun t => t ≠ q + 1) := fun c e hc => ⟨rfl, fun z => hF c e hc (fun w => z (by rw [w]; exact t4)) (fun w => z (by rw [w]; exact t5)) (fun w => z (by rw [w]; exact t6))⟩
  refine ⟨⟨b, fc, pr, ka, va, n, cn1, B, g, K1, V1, ⟨⟨hF q _ a1 (ne_oo a1 a4 (by show (4 : Nat) ≠ 5; decide)) (ne_oi a1 a5) (ne_oi a1 a6), hF b _ a2 (ne_oi a4 a2).symm (ne_QI a2 a5) (ne_QI a2 a6), hF fc _ a3 (ne_oi a4 a3).symm (ne_len a3 a5 (by decide)) (ne_len a3 a6 (by decide)), h1, h2, h3⟩, hne, ⟨t1, t2, t3, t4, t5, t6⟩, h56.trans v1, v2, c7, c24, hKV, fun j hj => (v6 j hj).trans (hlo j hj).symm⟩, (hB.keep hk (by omega)).cong v2 hhi⟩, hk⟩
theorem addS_at {S : Nat → Int32} {c j : Nat} {x y : Int32} (h7 : j ≠ 7) (h1 : j ≠ 8 + c) (h2 : j ≠ 32 + c) : addS S c x y j = S j := by unfold addS upd; rw [if_neg h7, if_neg h2, if_neg h1]
theorem k_append (l : Launch) (G : mG) {f : mE} {T : Nat → Nat} {o q0 ra rd sp rr sb : Nat} {S P : Nat → Int32} {rc n cn : Nat} (h : CC G f T o q0 ra rd sp rr sb S P rc) (hv : VSn S n cn) (x y : Int32) : mC l G yX5_append wsX5_append ({ frames := 1, cells := 0, slots := 0, locals := 22 } : Room) f [.ref o, .int x, .int y] (fun v f1 => v = some (.int (addI cn)) ∧ CC G f1 T o q0 ra rd sp rr sb (addT S cn x y) P rc) 0 0 := by
  obtain ⟨b, fc, pr1, ka, va, B, X, rg, pa, qa, tk, lo, hi, ab, gv, us, g, K, V, hA, hB, hQ, hg, hgS, hF, hgv, hL, hT0, hTk⟩ := h.q hv
  have hn56 := hv.1
  have hn16 := hv.2.1
  have hO := h.1
  have c24 := hv.2.2.2.1
  have hA0 := hA
  obtain ⟨⟨a1, a2, a3, a4, a5, a6⟩, hne, ht, -, -, v3, -, v5, -⟩ := hA
  by_cases hc : cn = 24
  · refine (c5_appF l G a1 a2 a3 a4 a5 a6 hne hO hc x y).mono (fun v f1 hp => ?_)
    obtain ⟨rfl, rfl⟩ := hp
    rw [addI, addT, if_pos hc, if_pos hc]; exact ⟨rfl, h⟩
  · refine (c5_appL l G a1 a2 a3 a4 a5 a6 hne hO (by omega) x y).mono (fun v f1 hp => ?_)
    obtain ⟨rfl, e1, e2, e3, hF1⟩ := hp
    rw [addI, addT, if_neg hc, if_neg hc]
    obtain ⟨hs, hk⟩ := StR.pres (S1 := addS S cn x y) hA0 hB e1 e2 e3 hF1 (by unfold addS upd; rw [if_pos rfl]) (by omega) (fun j hj => by
      by_cases e : j = cn
      · subst e
        unfold addS upd
        rw [if_pos rfl, if_pos rfl, if_neg (by omega), if_neg (by omega), if_pos (by omega), if_neg (by omega), if_pos (by omega)]
        exact ⟨rfl, rfl⟩
      · rw [addS_at (by omega) (by omega) (by omega), addS_at (by omega) (by omega) (by omega)]
        unfold upd
        rw [if_neg e, if_neg e]
        exact v5 j (by omega)) (fun j hj => addS_at (by omega) (by omega) (by omega)) (addS_at (by omega) (by omega) (by omega)) (fun j h1 _ => addS_at (by omega) (by omega) (by omega))
    exact ⟨rfl, h.now_ hk hs⟩
theorem up7 {S : Nat → Int32} {x : Int32} {j : Nat} (h : j ≠ 7) : upd S 7 x j = S j := by unfold upd; rw [if_neg h]
theorem k_clear (l : Launch) (G : mG) {f : mE} {T : Nat → Nat} {o q0 ra rd sp rr sb : Nat} {S P : Nat → Int32} {rc n cn : Nat} (h : CC G f T o q0 ra rd sp rr sb S P rc) (hv : VSn S n cn) : mC l G yX5_clear wsX5_clear ({ frames := 1, cells := 0, slots := 0, locals := 20 } : Room) f [.ref o] (fun v f1 => v = some (.int (nI cn)) ∧ CI G f1 o (upd S 7 (nI 0)) P rc) 0 0 := by
  obtain ⟨b, fc, pr1, ka, va, B, X, rg, pa, qa, tk, lo, hi, ab, gv, us, g, K, V, hA, hB, hQ, hg, hgS, hF, hgv, hL, hT0, hTk⟩ := h.q hv
  have hn56 := hv.1
  have hn16 := hv.2.1
  have hO := h.1
  have hA0 := hA
  obtain ⟨⟨a1, a2, a3, a4, a5, a6⟩, hne, ht, -, -, v3, -, v5, -⟩ := hA
  refine (c5_clear l G a1 a2 a3 a4 a5 a6 hne hO).mono (fun v f1 hp => ?_)
  obtain ⟨rfl, e1, hF1⟩ := hp
  obtain ⟨hs, hk⟩ := StR.pres (S1 := upd S 7 (nI 0)) hA0 hB e1 (hF1 ka _ a5 (ne_oi a4 a5).symm) (hF1 va _ a6 (ne_oi a4 a6).symm) (fun z e hz n1 _ _ => hF1 z e hz n1) (by unfold upd; rw [if_pos rfl]) (by omega) (fun j hj => absurd hj (Nat.not_lt_zero j)) (fun j hj => up7 (by omega)) (up7 (by omega)) (fun j h1 _ => up7 (by omega))
  exact ⟨rfl, T, q0, ra, rd, sp, rr, sb, h.now_ hk hs⟩
set_option maxHeartbeats 4000000 in
set_option maxRecDepth 100000 in
theorem k_word (l : Launch) (G : mG) {f : mE} {T : Nat → Nat} {o q0 ra rd sp rr sb : Nat} {S P : Nat → Int32} {rc n cn : Nat} (h : CC G f T o q0 ra rd sp rr sb S P rc) (hv : VSn S n cn) (x : Int32) : mC l G yX5_word wsX5_word ({ frames := 2, cells := 0, slots := 0, locals := 44 } : Room) f [.ref o, .int x] (fun v f1 => v = some (.int (if inB x 0 25 = true then addI cn else -100002)) ∧ CI G f1 o (if inB x 0 25 = true then addT S cn 0 x else S) P rc) 0 0 := by
  refine mC.of (cc := cX5_word) (maxL := 2) (ret := (some .int)) (by decide) rfl (Nat.le_of_ble_eq_true rfl) ?_
  intro pgm env s mt args below meth c A ls hx hb hml hr hlocks hown hname hts hK hE hA hM hl
  have hl : lv_has ls 2 [(0, .ref o), (1, .int x)] := hl
  have hF := fun w9 e (hb : f w9 = some e)  => hb
  refine lv_iload_n hx hb dX5_word_0 rfl (lv_at hl 1 rfl) ?_
  refine lv_if_lt (tgt := 10) hx hb dX5_word_1 (by decide) (fun cz1 => ?_) (fun cz1 => ?_)
  · refine lv_ldc (v := (-100002)) hx hb hown (hts (.constant RX5 41 (-100002)) (List.mem_of_getElem? (i := 1) rfl)) dX5_word_10 ?_
    exact mm_iret hx hb hlocks hr (Nat.le_of_ble_eq_true rfl) (Nat.le_of_ble_eq_true rfl) hM (⟨by rw [if_neg (by rw [(show inB x 0 25 = false from inB_f1 cz1)]; decide)], T, q0, ra, rd, sp, rr, sb, by rw [if_neg (by rw [(show inB x 0 25 = false from inB_f1 cz1)]; decide)]; exact h⟩) dX5_word_12
  refine lv_iload_n hx hb dX5_word_4 rfl (lv_at hl 1 rfl) ?_
  refine lv_bipush (v := (nI 25)) hx hb dX5_word_5 (by decide +kernel) ?_
  refine lv_icmp_le (tgt := 13) hx hb dX5_word_7 (by decide) (fun cz2 => ?_) (fun cz2 => ?_)
  · refine lv_aload_n hx hb dX5_word_13 rfl (lv_at hl 0 rfl) ?_
    refine lv_iconst (v := (nI 0)) hx hb dX5_word_14 (by decide +kernel) ?_
    refine lv_iload_n hx hb dX5_word_15 rfl (lv_at hl 1 rfl) ?_
    refine mm_V (As := [.int (nI 0), .int x]) (rest := []) ⟨hx, hb, hml, hown, hts⟩ (k_append l G h hv (nI 0) x) (cwV 2 hts gX5_word_X5_append rfl rfl rfl (by decide +kernel) ⟨Nat.le_of_ble_eq_true rfl, Nat.le_of_ble_eq_true rfl⟩) hK hE hA hM (mm_recv hK hM h.1 (q := (RX5, TX5, 7)) rfl) rfl hl.1 rfl (Nat.le_of_ble_eq_true rfl) dX5_word_16 ⟨Nat.le_of_ble_eq_true rfl, Nat.le_of_ble_eq_true rfl⟩ (fun v ff Hp lcs hp hM => ?_)
    obtain ⟨rfl, hC⟩ := hp
    exact mm_iret hx hb hlocks hr (Nat.le_of_ble_eq_true rfl) (Nat.le_of_ble_eq_true rfl) hM (⟨by rw [if_pos (show inB x 0 25 = true from inB_t cz1 (Int32.not_lt.mpr cz2))], T, q0, ra, rd, sp, rr, sb, by rw [if_pos (show inB x 0 25 = true from inB_t cz1 (Int32.not_lt.mpr cz2))]; exact hC⟩) dX5_word_19
  refine lv_ldc (v := (-100002)) hx hb hown (hts (.constant RX5 41 (-100002)) (List.mem_of_getElem? (i := 1) rfl)) dX5_word_10 ?_
  exact mm_iret hx hb hlocks hr (Nat.le_of_ble_eq_true rfl) (Nat.le_of_ble_eq_true rfl) hM (⟨by rw [if_neg (by rw [(show inB x 0 25 = false from inB_f2 (Int32.not_le.mp cz2))]; decide)], T, q0, ra, rd, sp, rr, sb, by rw [if_neg (by rw [(show inB x 0 25 = false from inB_f2 (Int32.not_le.mp cz2))]; decide)]; exact h⟩) dX5_word_12
set_option maxHeartbeats 4000000 in
set_option maxRecDepth 100000 in
theorem k_number (l : Launch) (G : mG) {f : mE} {T : Nat → Nat} {o q0 ra rd sp rr sb : Nat} {S P : Nat → Int32} {rc n cn : Nat} (h : CC G f T o q0 ra rd sp rr sb S P rc) (hv : VSn S n cn) (x : Int32) : mC l G yX5_number wsX5_number ({ frames := 2, cells := 0, slots := 0, locals := 44 } : Room) f [.ref o, .int x] (fun v f1 => v = some (.int (if inB x (-9999) 9999 = true then addI cn else -100002)) ∧ CI G f1 o (if inB x (-9999) 9999 = true then addT S cn 1 x else S) P rc) 0 0 := by
  refine mC.of (cc := cX5_number) (maxL := 2) (ret := (some .int)) (by decide) rfl (Nat.le_of_ble_eq_true rfl) ?_
  intro pgm env s mt args below meth c A ls hx hb hml hr hlocks hown hname hts hK hE hA hM hl
  have hl : lv_has ls 2 [(0, .ref o), (1, .int x)] := hl
  have hF := fun w9 e (hb : f w9 = some e)  => hb
  refine lv_iload_n hx hb dX5_number_0 rfl (lv_at hl 1 rfl) ?_
  refine mm_S (As := [.int x]) (rest := []) ⟨hx, hb, hml, hown, hts⟩ (c5_isNumber l G _ x) (va_cwS 1 hts gX5_number_X5_isNumber rfl rfl rfl (by decide +kernel) ⟨Nat.le_of_ble_eq_true rfl, Nat.le_of_ble_eq_true rfl⟩) hK hE hA hM rfl hl.1 rfl (Nat.le_of_ble_eq_true rfl) dX5_number_1 ⟨Nat.le_of_ble_eq_true rfl, Nat.le_of_ble_eq_true rfl⟩ (fun v f1 Hp lcs hp hM => ?_)
  obtain ⟨rfl, hf⟩ := hp; subst hf
  refine lvb_ne (tgt := 10) hx hb dX5_number_4 (by decide) (fun cz1 => ?_) (fun cz1 => ?_)
  · refine lv_aload_n hx hb dX5_number_10 rfl (lv_at hl 0 rfl) ?_
    refine lv_iconst (v := (nI 1)) hx hb dX5_number_11 (by decide +kernel) ?_
    refine lv_iload_n hx hb dX5_number_12 rfl (lv_at hl 1 rfl) ?_
    refine mm_V (As := [.int (nI 1), .int x]) (rest := []) ⟨hx, hb, hml, hown, hts⟩ (k_append l G h hv (nI 1) x) (cwV 2 hts gX5_number_X5_append rfl rfl rfl (by decide +kernel) ⟨Nat.le_of_ble_eq_true rfl, Nat.le_of_ble_eq_true rfl⟩) hK hE hA hM (mm_recv hK hM h.1 (q := (RX5, TX5, 7)) rfl) rfl hl.1 rfl (Nat.le_of_ble_eq_true rfl) dX5_number_13 ⟨Nat.le_of_ble_eq_true rfl, Nat.le_of_ble_eq_true rfl⟩ (fun v ff Hp lcs hp hM => ?_)
    obtain ⟨rfl, hC⟩ := hp
    exact mm_iret hx hb hlocks hr (Nat.le_of_ble_eq_true rfl) (Nat.le_of_ble_eq_true rfl) hM (⟨by rw [if_pos cz1], T, q0, ra, rd, sp, rr, sb, by rw [if_pos cz1]; exact hC⟩) dX5_number_16
  refine lv_ldc (v := (-100002)) hx hb hown (hts (.constant RX5 41 (-100002)) (List.mem_of_getElem? (i := 1) rfl)) dX5_number_7 ?_
  exact mm_iret hx hb hlocks hr (Nat.le_of_ble_eq_true rfl) (Nat.le_of_ble_eq_true rfl) hM (⟨by rw [if_neg (by rw [cz1]; decide)], T, q0, ra, rd, sp, rr, sb, by rw [if_neg (by rw [cz1]; decide)]; exact h⟩) dX5_number_9
set_option maxHeartbeats 4000000 in
set_option maxRecDepth 100000 in
theorem k_date (l : Launch) (G : mG) {f : mE} {T : Nat → Nat} {o q0 ra rd sp rr sb : Nat} {S P : Nat → Int32} {rc n cn : Nat} (h : CC G f T o q0 ra rd sp rr sb S P rc) (hv : VSn S n cn) (x1 x2 x3 : Int32) : mC l G yX5_date wsX5_date ({ frames := 3, cells := 0, slots := 0, locals := 65 } : Room) f [.ref o, .int x1, .int x2, .int x3] (fun v f1 => v = some (.int (if dateB x1 x2 x3 = true then addI cn else -100002)) ∧ CI G f1 o (if dateB x1 x2 x3 = true then addT S cn 2 (dayI x1 x2 x3) else S) P rc) 0 0 := by
  refine mC.of (cc := cX5_date) (maxL := 4) (ret := (some .int)) (by decide) rfl (Nat.le_of_ble_eq_true rfl) ?_
  intro pgm env s mt args below meth c A ls hx hb hml hr hlocks hown hname hts hK hE hA hM hl
  have hl : lv_has ls 4 [(0, .ref o), (1, .int x1), (2, .int x2), (3, .int x3)] := hl
  have hF := fun w9 e (hb : f w9 = some e)  => hb
  refine lv_iload_n hx hb dX5_date_0 rfl (lv_at hl 1 rfl) ?_
  refine lv_iload_n hx hb dX5_date_1 rfl (lv_at hl 2 rfl) ?_
  refine lv_iload_n hx hb dX5_date_2 rfl (lv_at hl 3 rfl) ?_
  refine mm_S (As := [.int x1, .int x2, .int x3]) (rest := []) ⟨hx, hb, hml, hown, hts⟩ (c5_isDate l G _ x1 x2 x3) (va_cwS 3 hts gX5_date_X5_isDate rfl rfl rfl (by decide +kernel) ⟨Nat.le_of_ble_eq_true rfl, Nat.le_of_ble_eq_true rfl⟩) hK hE hA hM rfl hl.1 rfl (Nat.le_of_ble_eq_true rfl) dX5_date_3 ⟨Nat.le_of_ble_eq_true rfl, Nat.le_of_ble_eq_true rfl⟩ (fun v f1 Hp lcs hp hM => ?_)
  obtain ⟨rfl, hf⟩ := hp; subst hf
  refine lvb_ne (tgt := 12) hx hb dX5_date_6 (by decide) (fun cz1 => ?_) (fun cz1 => ?_)
  · obtain ⟨y, m, d, hy1, hy2, hm1, hm2, hd1, hd2, rfl, rfl, rfl⟩ := date_nat cz1
    have hyb := yrN_le (y - 1900)
    have hmb := moN_le y (m - 1)
    refine lv_aload_n hx hb dX5_date_12 rfl (lv_at hl 0 rfl) ?_
    refine lv_iconst (v := (nI 2)) hx hb dX5_date_13 (by decide +kernel) ?_
    refine lv_iload_n hx hb dX5_date_14 rfl (lv_at hl 1 rfl) ?_
    refine lv_iload_n hx hb dX5_date_15 rfl (lv_at hl 2 rfl) ?_
    refine mm_S (As := [.int (nI y), .int (nI m)]) (rest := [.int (nI 2), .ref o]) ⟨hx, hb, hml, hown, hts⟩ (c5_daysBefore l G _ y m (by omega) (by omega) (by omega) (by omega)) (va_cwS 2 hts gX5_date_X5_daysBefore rfl rfl rfl (by decide +kernel) ⟨Nat.le_of_ble_eq_true rfl, Nat.le_of_ble_eq_true rfl⟩) hK hE hA hM rfl hl.1 rfl (Nat.le_of_ble_eq_true rfl) dX5_date_16 ⟨Nat.le_of_ble_eq_true rfl, Nat.le_of_ble_eq_true rfl⟩ (fun v f1 Hp lcs hp hM => ?_)
    obtain ⟨rfl, hf⟩ := hp; subst hf
    refine lv_iload_n hx hb dX5_date_19 rfl (lv_at hl 3 rfl) ?_
    refine ln_iadd (yrN (y - 1900) + moN y (m - 1)) d hx hb dX5_date_20 ?_
    refine lv_iconst (v := (nI 1)) hx hb dX5_date_21 (by decide +kernel) ?_
    refine ln_isub ((yrN (y - 1900) + moN y (m - 1)) + d) 1 (by omega) hx hb dX5_date_22 ?_
    refine mv_top (y := (nI (yrN (y - 1900) + moN y (m - 1) + d - 1))) (congrArg nI (by omega)) ?_
    refine mm_V (As := [.int (nI 2), .int (nI (yrN (y - 1900) + moN y (m - 1) + d - 1))]) (rest := []) ⟨hx, hb, hml, hown, hts⟩ (k_append l G h hv (nI 2) (nI (yrN (y - 1900) + moN y (m - 1) + d - 1))) (cwV 2 hts gX5_date_X5_append rfl rfl rfl (by decide +kernel) ⟨Nat.le_of_ble_eq_true rfl, Nat.le_of_ble_eq_true rfl⟩) hK hE hA hM (mm_recv hK hM h.1 (q := (RX5, TX5, 7)) rfl) rfl hl.1 rfl (Nat.le_of_ble_eq_true rfl) dX5_date_23 ⟨Nat.le_of_ble_eq_true rfl, Nat.le_of_ble_eq_true rfl⟩ (fun v ff Hp lcs hp hM => ?_)
    obtain ⟨rfl, hC⟩ := hp
    exact mm_iret hx hb hlocks hr (Nat.le_of_ble_eq_true rfl) (Nat.le_of_ble_eq_true rfl) hM (⟨by rw [if_pos cz1], T, q0, ra, rd, sp, rr, sb, by rw [if_pos cz1]; exact (by rw [dayI_nI hy2 hm2 hd2, dayN, show d - 1 + yrN (y - 1900) + moN y (m - 1) = yrN (y - 1900) + moN y (m - 1) + d - 1 by omega]; exact hC)⟩) dX5_date_26
  refine lv_ldc (v := (-100002)) hx hb hown (hts (.constant RX5 41 (-100002)) (List.mem_of_getElem? (i := 1) rfl)) dX5_date_9 ?_
  exact mm_iret hx hb hlocks hr (Nat.le_of_ble_eq_true rfl) (Nat.le_of_ble_eq_true rfl) hM (⟨by rw [if_neg (by rw [cz1]; decide)], T, q0, ra, rd, sp, rr, sb, by rw [if_neg (by rw [cz1]; decide)]; exact h⟩) dX5_date_11

