/-! THE LAW: its cases -/
set_option maxHeartbeats 4000000 in
set_option maxRecDepth 100000 in
theorem law_c0 {p : Program} {l : Launch} {e : Env} {s : State} {m : MethodId} {args : Array Value} {below : List Frame} {meth : Method} {c : Code} {G : mG} {A : Nat → Prop} {Q : State → Prop} {b L : Nat} {xs : Nat → Int32} (hx : p.tables.exec = Jvm.exec) (hb : c.code = cL_law) (hml : c.maxLocals = 4) (hown : s.vm.findClass RL = some m.cls) (hts : ∀ w ∈ wsL_law, w.before args s = true) (hK : va_K G.1 vwCl (mT G) s) (hE : mS G A s s.heap) (hA : ∀ q, s.heap.size ≤ q → A q) (hX : va_X b L xs s s.heap) (hbl : b < s.heap.size) (hbA : ¬ A b) (hL : L ≤ 2048) {f h : mE} {ox om i cells slots : Nat} {Hp : Heap} {lcs : List Loc} {ls : Array Slot} (hM : mM G A s.heap f Hp lcs) (hh : mD G A h Hp) (hap : mAp f h) (hLI : LI G f h ox om) (hi : i + 4 ≤ L) (hl : lv_has ls 4 [(3, .int (nI i)), (2, .ref om), (1, .ref ox), (0, .ref b)]) (hr1 : cells + 640 ≤ 600000) (hr2 : slots + 2000 ≤ 7302250)
    (kk : ∀ (f1 h1 : mE) (H1 : Heap) (locs1 : List Loc), mM G A s.heap f1 H1 locs1 → mD G A h1 H1 → mAp f1 h1 → LI G f1 h1 ox om → W p l e room_1 s m args below meth c H1 locs1 (cells + 640) (slots + 2000) Q (F0 m 1056 ls [])) : W p l e room_1 s m args below meth c Hp lcs cells slots Q (F0 m 184 ls []) := by
  obtain ⟨S0, P0, rc0, ⟨T, q0, ra, rd, sp, rr, sb, hC⟩, ⟨a, lo, hi9, ou, ir, wt, us, ab, gi, wr, hI⟩, -⟩ := id hLI
  refine lv_aload_n hx hb dL_law_184 rfl (lv_at hl 2 rfl) ?_
  refine lv_aload_n hx hb dL_law_185 rfl (lv_at hl 3 rfl) ?_
  refine lv_iload_n hx hb dL_law_186 rfl (lv_at hl 0 rfl) ?_
  refine lv_iconst (v := nI 1) hx hb dL_law_187 (by decide +kernel) ?_
  refine ln_iadd i 1 hx hb dL_law_188 ?_
  refine va_sld hx hb hX hbl hbA hM.2 (vp_in_nI (by omega) (by omega)) dL_law_189 ?_
  obtain ⟨V, S1, P1, rc1, hc5, hc6⟩ := b_word l G hLI (xs (nI (i + 1)).toNatClampNeg)
  refine mm_V2 (As := [.int (xs (nI (i + 1)).toNatClampNeg)]) (rest := []) ⟨hx, hb, hml, hown, hts⟩ hc5 (cwV 1 hts gL_law_X5_word rfl rfl rfl (by decide +kernel) ⟨Nat.le_of_ble_eq_true rfl, Nat.le_of_ble_eq_true rfl⟩) hK hE hA hM hh hap (mm_recv hK hM hC.1 (q := (RX5, TX5, 7)) rfl) rfl hl.1 rfl (Nat.le_of_ble_eq_true rfl) dL_law_190 ⟨by show cells + 0 ≤ 600000; omega, by show slots + 0 ≤ 7302250; omega⟩ (fun v f1 Hp lcs hp hM hh hap => ?_)
  obtain ⟨rfl, hC1, hv1, hP1⟩ := hp
  refine lv_aload_n hx hb dL_law_193 rfl (lv_at hl 1 rfl) ?_
  refine lv_aload_n hx hb dL_law_194 rfl (lv_at hl 3 rfl) ?_
  refine lv_iload_n hx hb dL_law_195 rfl (lv_at hl 0 rfl) ?_
  refine lv_iconst (v := nI 1) hx hb dL_law_196 (by decide +kernel) ?_
  refine ln_iadd i 1 hx hb dL_law_197 ?_
  refine va_sld hx hb hX hbl hbA hM.2 (vp_in_nI (by omega) (by omega)) dL_law_198 ?_
  refine mm_V2 (As := [.int (xs (nI (i + 1)).toNatClampNeg)]) (rest := [.int V]) ⟨hx, hb, hml, hown, hts⟩ hc6 (cwV 1 hts gL_law_X6_word rfl rfl rfl (by decide +kernel) ⟨Nat.le_of_ble_eq_true rfl, Nat.le_of_ble_eq_true rfl⟩) hK hE hA (show mM G A s.heap h Hp lcs from ⟨hh, hM.2⟩) hM.1 hap.symm (mm_recv hK (show mM G A s.heap h Hp lcs from ⟨hh, hM.2⟩) hI.obj (q := (RX6, TX6, 14)) rfl) rfl hl.1 rfl (Nat.le_of_ble_eq_true rfl) dL_law_199 ⟨by show cells + 0 + 0 ≤ 600000; omega, by show slots + 0 + 0 ≤ 7302250; omega⟩ (fun v h1 Hp lcs hp hM hh hap => ?_)
  obtain ⟨rfl, hR1⟩ := hp
  refine lv_icmp_eq (tgt := 1056) hx hb dL_law_202 (by decide) (fun _ => ?_) (fun hq9 => absurd rfl hq9)
  exact W.widen (k := cells + 640) (n := slots + 2000) (by omega) (by omega) (kk f1 h1 _ _ ⟨hh, hM.2⟩ hM.1 hap.symm ⟨S1, P1, rc1, hC1, hR1, hv1, hP1⟩)
set_option maxHeartbeats 4000000 in
set_option maxRecDepth 100000 in
theorem law_c1 {p : Program} {l : Launch} {e : Env} {s : State} {m : MethodId} {args : Array Value} {below : List Frame} {meth : Method} {c : Code} {G : mG} {A : Nat → Prop} {Q : State → Prop} {b L : Nat} {xs : Nat → Int32} (hx : p.tables.exec = Jvm.exec) (hb : c.code = cL_law) (hml : c.maxLocals = 4) (hown : s.vm.findClass RL = some m.cls) (hts : ∀ w ∈ wsL_law, w.before args s = true) (hK : va_K G.1 vwCl (mT G) s) (hE : mS G A s s.heap) (hA : ∀ q, s.heap.size ≤ q → A q) (hX : va_X b L xs s s.heap) (hbl : b < s.heap.size) (hbA : ¬ A b) (hL : L ≤ 2048) {f h : mE} {ox om i cells slots : Nat} {Hp : Heap} {lcs : List Loc} {ls : Array Slot} (hM : mM G A s.heap f Hp lcs) (hh : mD G A h Hp) (hap : mAp f h) (hLI : LI G f h ox om) (hi : i + 4 ≤ L) (hl : lv_has ls 4 [(3, .int (nI i)), (2, .ref om), (1, .ref ox), (0, .ref b)]) (hr1 : cells + 640 ≤ 600000) (hr2 : slots + 2000 ≤ 7302250)
    (kk : ∀ (f1 h1 : mE) (H1 : Heap) (locs1 : List Loc), mM G A s.heap f1 H1 locs1 → mD G A h1 H1 → mAp f1 h1 → LI G f1 h1 ox om → W p l e room_1 s m args below meth c H1 locs1 (cells + 640) (slots + 2000) Q (F0 m 1056 ls [])) : W p l e room_1 s m args below meth c Hp lcs cells slots Q (F0 m 207 ls []) := by
  obtain ⟨S0, P0, rc0, ⟨T, q0, ra, rd, sp, rr, sb, hC⟩, ⟨a, lo, hi9, ou, ir, wt, us, ab, gi, wr, hI⟩, -⟩ := id hLI
  refine lv_aload_n hx hb dL_law_207 rfl (lv_at hl 2 rfl) ?_
  refine lv_aload_n hx hb dL_law_208 rfl (lv_at hl 3 rfl) ?_
  refine lv_iload_n hx hb dL_law_209 rfl (lv_at hl 0 rfl) ?_
  refine lv_iconst (v := nI 1) hx hb dL_law_210 (by decide +kernel) ?_
  refine ln_iadd i 1 hx hb dL_law_211 ?_
  refine va_sld hx hb hX hbl hbA hM.2 (vp_in_nI (by omega) (by omega)) dL_law_212 ?_
  obtain ⟨V, S1, P1, rc1, hc5, hc6⟩ := b_number l G hLI (xs (nI (i + 1)).toNatClampNeg)
  refine mm_V2 (As := [.int (xs (nI (i + 1)).toNatClampNeg)]) (rest := []) ⟨hx, hb, hml, hown, hts⟩ hc5 (cwV 1 hts gL_law_X5_number rfl rfl rfl (by decide +kernel) ⟨Nat.le_of_ble_eq_true rfl, Nat.le_of_ble_eq_true rfl⟩) hK hE hA hM hh hap (mm_recv hK hM hC.1 (q := (RX5, TX5, 7)) rfl) rfl hl.1 rfl (Nat.le_of_ble_eq_true rfl) dL_law_213 ⟨by show cells + 0 ≤ 600000; omega, by show slots + 0 ≤ 7302250; omega⟩ (fun v f1 Hp lcs hp hM hh hap => ?_)
  obtain ⟨rfl, hC1, hv1, hP1⟩ := hp
  refine lv_aload_n hx hb dL_law_216 rfl (lv_at hl 1 rfl) ?_
  refine lv_aload_n hx hb dL_law_217 rfl (lv_at hl 3 rfl) ?_
  refine lv_iload_n hx hb dL_law_218 rfl (lv_at hl 0 rfl) ?_
  refine lv_iconst (v := nI 1) hx hb dL_law_219 (by decide +kernel) ?_
  refine ln_iadd i 1 hx hb dL_law_220 ?_
  refine va_sld hx hb hX hbl hbA hM.2 (vp_in_nI (by omega) (by omega)) dL_law_221 ?_
  refine mm_V2 (As := [.int (xs (nI (i + 1)).toNatClampNeg)]) (rest := [.int V]) ⟨hx, hb, hml, hown, hts⟩ hc6 (cwV 1 hts gL_law_X6_number rfl rfl rfl (by decide +kernel) ⟨Nat.le_of_ble_eq_true rfl, Nat.le_of_ble_eq_true rfl⟩) hK hE hA (show mM G A s.heap h Hp lcs from ⟨hh, hM.2⟩) hM.1 hap.symm (mm_recv hK (show mM G A s.heap h Hp lcs from ⟨hh, hM.2⟩) hI.obj (q := (RX6, TX6, 14)) rfl) rfl hl.1 rfl (Nat.le_of_ble_eq_true rfl) dL_law_222 ⟨by show cells + 0 + 0 ≤ 600000; omega, by show slots + 0 + 0 ≤ 7302250; omega⟩ (fun v h1 Hp lcs hp hM hh hap => ?_)
  obtain ⟨rfl, hR1⟩ := hp
  refine lv_icmp_eq (tgt := 1056) hx hb dL_law_225 (by decide) (fun _ => ?_) (fun hq9 => absurd rfl hq9)
  exact W.widen (k := cells + 640) (n := slots + 2000) (by omega) (by omega) (kk f1 h1 _ _ ⟨hh, hM.2⟩ hM.1 hap.symm ⟨S1, P1, rc1, hC1, hR1, hv1, hP1⟩)
set_option maxHeartbeats 4000000 in
set_option maxRecDepth 100000 in
theorem law_c2 {p : Program} {l : Launch} {e : Env} {s : State} {m : MethodId} {args : Array Value} {below : List Frame} {meth : Method} {c : Code} {G : mG} {A : Nat → Prop} {Q : State → Prop} {b L : Nat} {xs : Nat → Int32} (hx : p.tables.exec = Jvm.exec) (hb : c.code = cL_law) (hml : c.maxLocals = 4) (hown : s.vm.findClass RL = some m.cls) (hts : ∀ w ∈ wsL_law, w.before args s = true) (hK : va_K G.1 vwCl (mT G) s) (hE : mS G A s s.heap) (hA : ∀ q, s.heap.size ≤ q → A q) (hX : va_X b L xs s s.heap) (hbl : b < s.heap.size) (hbA : ¬ A b) (hL : L ≤ 2048) {f h : mE} {ox om i cells slots : Nat} {Hp : Heap} {lcs : List Loc} {ls : Array Slot} (hM : mM G A s.heap f Hp lcs) (hh : mD G A h Hp) (hap : mAp f h) (hLI : LI G f h ox om) (hi : i + 4 ≤ L) (hl : lv_has ls 4 [(3, .int (nI i)), (2, .ref om), (1, .ref ox), (0, .ref b)]) (hr1 : cells + 640 ≤ 600000) (hr2 : slots + 2000 ≤ 7302250)
    (kk : ∀ (f1 h1 : mE) (H1 : Heap) (locs1 : List Loc), mM G A s.heap f1 H1 locs1 → mD G A h1 H1 → mAp f1 h1 → LI G f1 h1 ox om → W p l e room_1 s m args below meth c H1 locs1 (cells + 640) (slots + 2000) Q (F0 m 1056 ls [])) : W p l e room_1 s m args below meth c Hp lcs cells slots Q (F0 m 230 ls []) := by
  obtain ⟨S0, P0, rc0, ⟨T, q0, ra, rd, sp, rr, sb, hC⟩, ⟨a, lo, hi9, ou, ir, wt, us, ab, gi, wr, hI⟩, -⟩ := id hLI
  refine lv_aload_n hx hb dL_law_230 rfl (lv_at hl 2 rfl) ?_
  refine lv_aload_n hx hb dL_law_231 rfl (lv_at hl 3 rfl) ?_
  refine lv_iload_n hx hb dL_law_232 rfl (lv_at hl 0 rfl) ?_
  refine lv_iconst (v := nI 1) hx hb dL_law_233 (by decide +kernel) ?_
  refine ln_iadd i 1 hx hb dL_law_234 ?_
  refine va_sld hx hb hX hbl hbA hM.2 (vp_in_nI (by omega) (by omega)) dL_law_235 ?_
  refine lv_aload_n hx hb dL_law_236 rfl (lv_at hl 3 rfl) ?_
  refine lv_iload_n hx hb dL_law_237 rfl (lv_at hl 0 rfl) ?_
  refine lv_iconst (v := nI 2) hx hb dL_law_238 (by decide +kernel) ?_
  refine ln_iadd i 2 hx hb dL_law_239 ?_
  refine va_sld hx hb hX hbl hbA hM.2 (vp_in_nI (by omega) (by omega)) dL_law_240 ?_
  refine lv_aload_n hx hb dL_law_241 rfl (lv_at hl 3 rfl) ?_
  refine lv_iload_n hx hb dL_law_242 rfl (lv_at hl 0 rfl) ?_
  refine lv_iconst (v := nI 3) hx hb dL_law_243 (by decide +kernel) ?_
  refine ln_iadd i 3 hx hb dL_law_244 ?_
  refine va_sld hx hb hX hbl hbA hM.2 (vp_in_nI (by omega) (by omega)) dL_law_245 ?_
  obtain ⟨V, S1, P1, rc1, hc5, hc6⟩ := b_date l G hLI (xs (nI (i + 1)).toNatClampNeg) (xs (nI (i + 2)).toNatClampNeg) (xs (nI (i + 3)).toNatClampNeg)
  refine mm_V2 (As := [.int (xs (nI (i + 1)).toNatClampNeg), .int (xs (nI (i + 2)).toNatClampNeg), .int (xs (nI (i + 3)).toNatClampNeg)]) (rest := []) ⟨hx, hb, hml, hown, hts⟩ hc5 (cwV 3 hts gL_law_X5_date rfl rfl rfl (by decide +kernel) ⟨Nat.le_of_ble_eq_true rfl, Nat.le_of_ble_eq_true rfl⟩) hK hE hA hM hh hap (mm_recv hK hM hC.1 (q := (RX5, TX5, 7)) rfl) rfl hl.1 rfl (Nat.le_of_ble_eq_true rfl) dL_law_246 ⟨by show cells + 0 ≤ 600000; omega, by show slots + 0 ≤ 7302250; omega⟩ (fun v f1 Hp lcs hp hM hh hap => ?_)
  obtain ⟨rfl, hC1, hv1, hP1⟩ := hp
  refine lv_aload_n hx hb dL_law_249 rfl (lv_at hl 1 rfl) ?_
  refine lv_aload_n hx hb dL_law_250 rfl (lv_at hl 3 rfl) ?_
  refine lv_iload_n hx hb dL_law_251 rfl (lv_at hl 0 rfl) ?_
  refine lv_iconst (v := nI 1) hx hb dL_law_252 (by decide +kernel) ?_
  refine ln_iadd i 1 hx hb dL_law_253 ?_
  refine va_sld hx hb hX hbl hbA hM.2 (vp_in_nI (by omega) (by omega)) dL_law_254 ?_
  refine lv_aload_n hx hb dL_law_255 rfl (lv_at hl 3 rfl) ?_
  refine lv_iload_n hx hb dL_law_256 rfl (lv_at hl 0 rfl) ?_
  refine lv_iconst (v := nI 2) hx hb dL_law_257 (by decide +kernel) ?_
  refine ln_iadd i 2 hx hb dL_law_258 ?_
  refine va_sld hx hb hX hbl hbA hM.2 (vp_in_nI (by omega) (by omega)) dL_law_259 ?_
  refine lv_aload_n hx hb dL_law_260 rfl (lv_at hl 3 rfl) ?_
  refine lv_iload_n hx hb dL_law_261 rfl (lv_at hl 0 rfl) ?_
  refine lv_iconst (v := nI 3) hx hb dL_law_262 (by decide +kernel) ?_
  refine ln_iadd i 3 hx hb dL_law_263 ?_
  refine va_sld hx hb hX hbl hbA hM.2 (vp_in_nI (by omega) (by omega)) dL_law_264 ?_
  refine mm_V2 (As := [.int (xs (nI (i + 1)).toNatClampNeg), .int (xs (nI (i + 2)).toNatClampNeg), .int (xs (nI (i + 3)).toNatClampNeg)]) (rest := [.int V]) ⟨hx, hb, hml, hown, hts⟩ hc6 (cwV 3 hts gL_law_X6_date rfl rfl rfl (by decide +kernel) ⟨Nat.le_of_ble_eq_true rfl, Nat.le_of_ble_eq_true rfl⟩) hK hE hA (show mM G A s.heap h Hp lcs from ⟨hh, hM.2⟩) hM.1 hap.symm (mm_recv hK (show mM G A s.heap h Hp lcs from ⟨hh, hM.2⟩) hI.obj (q := (RX6, TX6, 14)) rfl) rfl hl.1 rfl (Nat.le_of_ble_eq_true rfl) dL_law_265 ⟨by show cells + 0 + 0 ≤ 600000; omega, by show slots + 0 + 0 ≤ 7302250; omega⟩ (fun v h1 Hp lcs hp hM hh hap => ?_)
  obtain ⟨rfl, hR1⟩ := hp
  refine lv_icmp_eq (tgt := 1056) hx hb dL_law_268 (by decide) (fun _ => ?_) (fun hq9 => absurd rfl hq9)
  exact W.widen (k := cells + 640) (n := slots + 2000) (by omega) (by omega) (kk f1 h1 _ _ ⟨hh, hM.2⟩ hM.1 hap.symm ⟨S1, P1, rc1, hC1, hR1, hv1, hP1⟩)
set_option maxHeartbeats 4000000 in
set_option maxRecDepth 100000 in
theorem law_c3 {p : Program} {l : Launch} {e : Env} {s : State} {m : MethodId} {args : Array Value} {below : List Frame} {meth : Method} {c : Code} {G : mG} {A : Nat → Prop} {Q : State → Prop} {b L : Nat} {xs : Nat → Int32} (hx : p.tables.exec = Jvm.exec) (hb : c.code = cL_law) (hml : c.maxLocals = 4) (hown : s.vm.findClass RL = some m.cls) (hts : ∀ w ∈ wsL_law, w.before args s = true) (hK : va_K G.1 vwCl (mT G) s) (hE : mS G A s s.heap) (hA : ∀ q, s.heap.size ≤ q → A q) (hX : va_X b L xs s s.heap) (hbl : b < s.heap.size) (hbA : ¬ A b) (hL : L ≤ 2048) {f h : mE} {ox om i cells slots : Nat} {Hp : Heap} {lcs : List Loc} {ls : Array Slot} (hM : mM G A s.heap f Hp lcs) (hh : mD G A h Hp) (hap : mAp f h) (hLI : LI G f h ox om) (hi : i + 4 ≤ L) (hl : lv_has ls 4 [(3, .int (nI i)), (2, .ref om), (1, .ref ox), (0, .ref b)]) (hr1 : cells + 640 ≤ 600000) (hr2 : slots + 2000 ≤ 7302250)
    (kk : ∀ (f1 h1 : mE) (H1 : Heap) (locs1 : List Loc), mM G A s.heap f1 H1 locs1 → mD G A h1 H1 → mAp f1 h1 → LI G f1 h1 ox om → W p l e room_1 s m args below meth c H1 locs1 (cells + 640) (slots + 2000) Q (F0 m 1056 ls [])) : W p l e room_1 s m args below meth c Hp lcs cells slots Q (F0 m 273 ls []) := by
  obtain ⟨S0, P0, rc0, ⟨T, q0, ra, rd, sp, rr, sb, hC⟩, ⟨a, lo, hi9, ou, ir, wt, us, ab, gi, wr, hI⟩, -⟩ := id hLI
  refine lv_aload_n hx hb dL_law_273 rfl (lv_at hl 2 rfl) ?_
  obtain ⟨V, S1, P1, rc1, hc5, hc6⟩ := b_back l G hLI 
  refine mm_V2 (As := []) (rest := []) ⟨hx, hb, hml, hown, hts⟩ hc5 (cwV 0 hts gL_law_X5_back rfl rfl rfl (by decide +kernel) ⟨Nat.le_of_ble_eq_true rfl, Nat.le_of_ble_eq_true rfl⟩) hK hE hA hM hh hap (mm_recv hK hM hC.1 (q := (RX5, TX5, 7)) rfl) rfl hl.1 rfl (Nat.le_of_ble_eq_true rfl) dL_law_274 ⟨by show cells + 0 ≤ 600000; omega, by show slots + 0 ≤ 7302250; omega⟩ (fun v f1 Hp lcs hp hM hh hap => ?_)
  obtain ⟨rfl, hC1, hv1, hP1⟩ := hp
  refine lv_aload_n hx hb dL_law_277 rfl (lv_at hl 1 rfl) ?_
  refine mm_V2 (As := []) (rest := [.int V]) ⟨hx, hb, hml, hown, hts⟩ hc6 (cwV 0 hts gL_law_X6_back rfl rfl rfl (by decide +kernel) ⟨Nat.le_of_ble_eq_true rfl, Nat.le_of_ble_eq_true rfl⟩) hK hE hA (show mM G A s.heap h Hp lcs from ⟨hh, hM.2⟩) hM.1 hap.symm (mm_recv hK (show mM G A s.heap h Hp lcs from ⟨hh, hM.2⟩) hI.obj (q := (RX6, TX6, 14)) rfl) rfl hl.1 rfl (Nat.le_of_ble_eq_true rfl) dL_law_278 ⟨by show cells + 0 + 0 ≤ 600000; omega, by show slots + 0 + 0 ≤ 7302250; omega⟩ (fun v h1 Hp lcs hp hM hh hap => ?_)
  obtain ⟨rfl, hR1⟩ := hp
  refine lv_icmp_eq (tgt := 1056) hx hb dL_law_281 (by decide) (fun _ => ?_) (fun hq9 => absurd rfl hq9)
  exact W.widen (k := cells + 640) (n := slots + 2000) (by omega) (by omega) (kk f1 h1 _ _ ⟨hh, hM.2⟩ hM.1 hap.symm ⟨S1, P1, rc1, hC1, hR1, hv1, hP1⟩)
set_option maxHeartbeats 4000000 in
set_option maxRecDepth 100000 in
theorem law_c4 {p : Program} {l : Launch} {e : Env} {s : State} {m : MethodId} {args : Array Value} {below : List Frame} {meth : Method} {c : Code} {G : mG} {A : Nat → Prop} {Q : State → Prop} {b L : Nat} {xs : Nat → Int32} (hx : p.tables.exec = Jvm.exec) (hb : c.code = cL_law) (hml : c.maxLocals = 4) (hown : s.vm.findClass RL = some m.cls) (hts : ∀ w ∈ wsL_law, w.before args s = true) (hK : va_K G.1 vwCl (mT G) s) (hE : mS G A s s.heap) (hA : ∀ q, s.heap.size ≤ q → A q) (hX : va_X b L xs s s.heap) (hbl : b < s.heap.size) (hbA : ¬ A b) (hL : L ≤ 2048) {f h : mE} {ox om i cells slots : Nat} {Hp : Heap} {lcs : List Loc} {ls : Array Slot} (hM : mM G A s.heap f Hp lcs) (hh : mD G A h Hp) (hap : mAp f h) (hLI : LI G f h ox om) (hi : i + 4 ≤ L) (hl : lv_has ls 4 [(3, .int (nI i)), (2, .ref om), (1, .ref ox), (0, .ref b)]) (hr1 : cells + 640 ≤ 600000) (hr2 : slots + 2000 ≤ 7302250)
    (kk : ∀ (f1 h1 : mE) (H1 : Heap) (locs1 : List Loc), mM G A s.heap f1 H1 locs1 → mD G A h1 H1 → mAp f1 h1 → LI G f1 h1 ox om → W p l e room_1 s m args below meth c H1 locs1 (cells + 640) (slots + 2000) Q (F0 m 1056 ls [])) : W p l e room_1 s m args below meth c Hp lcs cells slots Q (F0 m 286 ls []) := by
  obtain ⟨S0, P0, rc0, ⟨T, q0, ra, rd, sp, rr, sb, hC⟩, ⟨a, lo, hi9, ou, ir, wt, us, ab, gi, wr, hI⟩, -⟩ := id hLI
  refine lv_aload_n hx hb dL_law_286 rfl (lv_at hl 2 rfl) ?_
  obtain ⟨V, S1, P1, rc1, hc5, hc6⟩ := b_clear l G hLI 
  refine mm_V2 (As := []) (rest := []) ⟨hx, hb, hml, hown, hts⟩ hc5 (cwV 0 hts gL_law_X5_clear rfl rfl rfl (by decide +kernel) ⟨Nat.le_of_ble_eq_true rfl, Nat.le_of_ble_eq_true rfl⟩) hK hE hA hM hh hap (mm_recv hK hM hC.1 (q := (RX5, TX5, 7)) rfl) rfl hl.1 rfl (Nat.le_of_ble_eq_true rfl) dL_law_287 ⟨by show cells + 0 ≤ 600000; omega, by show slots + 0 ≤ 7302250; omega⟩ (fun v f1 Hp lcs hp hM hh hap => ?_)
  obtain ⟨rfl, hC1, hv1, hP1⟩ := hp
  refine lv_aload_n hx hb dL_law_290 rfl (lv_at hl 1 rfl) ?_
  refine mm_V2 (As := []) (rest := [.int V]) ⟨hx, hb, hml, hown, hts⟩ hc6 (cwV 0 hts gL_law_X6_clear rfl rfl rfl (by decide +kernel) ⟨Nat.le_of_ble_eq_true rfl, Nat.le_of_ble_eq_true rfl⟩) hK hE hA (show mM G A s.heap h Hp lcs from ⟨hh, hM.2⟩) hM.1 hap.symm (mm_recv hK (show mM G A s.heap h Hp lcs from ⟨hh, hM.2⟩) hI.obj (q := (RX6, TX6, 14)) rfl) rfl hl.1 rfl (Nat.le_of_ble_eq_true rfl) dL_law_291 ⟨by show cells + 0 + 0 ≤ 600000; omega, by show slots + 0 + 0 ≤ 7302250; omega⟩ (fun v h1 Hp lcs hp hM hh hap => ?_)
  obtain ⟨rfl, hR1⟩ := hp
  refine lv_icmp_eq (tgt := 1056) hx hb dL_law_294 (by decide) (fun _ => ?_) (fun hq9 => absurd rfl hq9)
  exact W.widen (k := cells + 640) (n := slots + 2000) (by omega) (by omega) (kk f1 h1 _ _ ⟨hh, hM.2⟩ hM.1 hap.symm ⟨S1, P1, rc1, hC1, hR1, hv1, hP1⟩)
set_option maxHeartbeats 4000000 in
set_option maxRecDepth 100000 in
theorem law_c5 {p : Program} {l : Launch} {e : Env} {s : State} {m : MethodId} {args : Array Value} {below : List Frame} {meth : Method} {c : Code} {G : mG} {A : Nat → Prop} {Q : State → Prop} {b L : Nat} {xs : Nat → Int32} (hx : p.tables.exec = Jvm.exec) (hb : c.code = cL_law) (hml : c.maxLocals = 4) (hown : s.vm.findClass RL = some m.cls) (hts : ∀ w ∈ wsL_law, w.before args s = true) (hK : va_K G.1 vwCl (mT G) s) (hE : mS G A s s.heap) (hA : ∀ q, s.heap.size ≤ q → A q) (hX : va_X b L xs s s.heap) (hbl : b < s.heap.size) (hbA : ¬ A b) (hL : L ≤ 2048) {f h : mE} {ox om i cells slots : Nat} {Hp : Heap} {lcs : List Loc} {ls : Array Slot} (hM : mM G A s.heap f Hp lcs) (hh : mD G A h Hp) (hap : mAp f h) (hLI : LI G f h ox om) (hi : i + 4 ≤ L) (hl : lv_has ls 4 [(3, .int (nI i)), (2, .ref om), (1, .ref ox), (0, .ref b)]) (hr1 : cells + 640 ≤ 600000) (hr2 : slots + 2000 ≤ 7302250)
    (kk : ∀ (f1 h1 : mE) (H1 : Heap) (locs1 : List Loc), mM G A s.heap f1 H1 locs1 → mD G A h1 H1 → mAp f1 h1 → LI G f1 h1 ox om → W p l e room_1 s m args below meth c H1 locs1 (cells + 640) (slots + 2000) Q (F0 m 1056 ls [])) : W p l e room_1 s m args below meth c Hp lcs cells slots Q (F0 m 299 ls []) := by
  obtain ⟨S0, P0, rc0, ⟨T, q0, ra, rd, sp, rr, sb, hC⟩, ⟨a, lo, hi9, ou, ir, wt, us, ab, gi, wr, hI⟩, -⟩ := id hLI
  refine lv_aload_n hx hb dL_law_299 rfl (lv_at hl 2 rfl) ?_
  obtain ⟨V, S1, P1, rc1, hc5, hc6⟩ := b_syntaxError l G hLI 
  refine mm_V2 (As := []) (rest := []) ⟨hx, hb, hml, hown, hts⟩ hc5 (cwV 0 hts gL_law_X5_syntaxError rfl rfl rfl (by decide +kernel) ⟨Nat.le_of_ble_eq_true rfl, Nat.le_of_ble_eq_true rfl⟩) hK hE hA hM hh hap (mm_recv hK hM hC.1 (q := (RX5, TX5, 7)) rfl) rfl hl.1 rfl (Nat.le_of_ble_eq_true rfl) dL_law_300 ⟨by show cells + 0 ≤ 600000; omega, by show slots + 0 ≤ 7302250; omega⟩ (fun v f1 Hp lcs hp hM hh hap => ?_)
  obtain ⟨rfl, hC1, hv1, hP1⟩ := hp
  refine lv_aload_n hx hb dL_law_303 rfl (lv_at hl 1 rfl) ?_
  refine mm_V2 (As := []) (rest := [.int V]) ⟨hx, hb, hml, hown, hts⟩ hc6 (cwV 0 hts gL_law_X6_syntaxError rfl rfl rfl (by decide +kernel) ⟨Nat.le_of_ble_eq_true rfl, Nat.le_of_ble_eq_true rfl⟩) hK hE hA (show mM G A s.heap h Hp lcs from ⟨hh, hM.2⟩) hM.1 hap.symm (mm_recv hK (show mM G A s.heap h Hp lcs from ⟨hh, hM.2⟩) hI.obj (q := (RX6, TX6, 14)) rfl) rfl hl.1 rfl (Nat.le_of_ble_eq_true rfl) dL_law_304 ⟨by show cells + 0 + 0 ≤ 600000; omega, by show slots + 0 + 0 ≤ 7302250; omega⟩ (fun v h1 Hp lcs hp hM hh hap => ?_)
  obtain ⟨rfl, hR1⟩ := hp
  refine lv_icmp_eq (tgt := 1056) hx hb dL_law_307 (by decide) (fun _ => ?_) (fun hq9 => absurd rfl hq9)
  exact W.widen (k := cells + 640) (n := slots + 2000) (by omega) (by omega) (kk f1 h1 _ _ ⟨hh, hM.2⟩ hM.1 hap.symm ⟨S1, P1, rc1, hC1, hR1, hv1, hP1⟩)
set_option maxHeartbeats 4000000 in
set_option maxRecDepth 100000 in
theorem law_c6 {p : Program} {l : Launch} {e : Env} {s : State} {m : MethodId} {args : Array Value} {below : List Frame} {meth : Method} {c : Code} {G : mG} {A : Nat → Prop} {Q : State → Prop} {b L : Nat} {xs : Nat → Int32} (hx : p.tables.exec = Jvm.exec) (hb : c.code = cL_law) (hml : c.maxLocals = 4) (hown : s.vm.findClass RL = some m.cls) (hts : ∀ w ∈ wsL_law, w.before args s = true) (hK : va_K G.1 vwCl (mT G) s) (hE : mS G A s s.heap) (hA : ∀ q, s.heap.size ≤ q → A q) (hX : va_X b L xs s s.heap) (hbl : b < s.heap.size) (hbA : ¬ A b) (hL : L ≤ 2048) {f h : mE} {ox om i cells slots : Nat} {Hp : Heap} {lcs : List Loc} {ls : Array Slot} (hM : mM G A s.heap f Hp lcs) (hh : mD G A h Hp) (hap : mAp f h) (hLI : LI G f h ox om) (hi : i + 4 ≤ L) (hl : lv_has ls 4 [(3, .int (nI i)), (2, .ref om), (1, .ref ox), (0, .ref b)]) (hr1 : cells + 640 ≤ 600000) (hr2 : slots + 2000 ≤ 7302250)
    (kk : ∀ (f1 h1 : mE) (H1 : Heap) (locs1 : List Loc), mM G A s.heap f1 H1 locs1 → mD G A h1 H1 → mAp f1 h1 → LI G f1 h1 ox om → W p l e room_1 s m args below meth c H1 locs1 (cells + 640) (slots + 2000) Q (F0 m 1056 ls [])) : W p l e room_1 s m args below meth c Hp lcs cells slots Q (F0 m 312 ls []) := by
  obtain ⟨S0, P0, rc0, ⟨T, q0, ra, rd, sp, rr, sb, hC⟩, ⟨a, lo, hi9, ou, ir, wt, us, ab, gi, wr, hI⟩, -⟩ := id hLI
  refine lv_aload_n hx hb dL_law_312 rfl (lv_at hl 2 rfl) ?_
  obtain ⟨V, S1, P1, rc1, hc5, hc6⟩ := b_tell l G hLI 
  refine mm_V2 (As := []) (rest := []) ⟨hx, hb, hml, hown, hts⟩ hc5 (cwV 0 hts gL_law_X5_tell rfl rfl rfl (by decide +kernel) ⟨Nat.le_of_ble_eq_true rfl, Nat.le_of_ble_eq_true rfl⟩) hK hE hA hM hh hap (mm_recv hK hM hC.1 (q := (RX5, TX5, 7)) rfl) rfl hl.1 rfl (Nat.le_of_ble_eq_true rfl) dL_law_313 ⟨by show cells + 620 ≤ 600000; omega, by show slots + 1909 ≤ 7302250; omega⟩ (fun v f1 Hp lcs hp hM hh hap => ?_)
  obtain ⟨rfl, hC1, hv1, hP1⟩ := hp
  refine lv_aload_n hx hb dL_law_316 rfl (lv_at hl 1 rfl) ?_
  refine mm_V2 (As := []) (rest := [.int V]) ⟨hx, hb, hml, hown, hts⟩ hc6 (cwV 0 hts gL_law_X6_tell rfl rfl rfl (by decide +kernel) ⟨Nat.le_of_ble_eq_true rfl, Nat.le_of_ble_eq_true rfl⟩) hK hE hA (show mM G A s.heap h Hp lcs from ⟨hh, hM.2⟩) hM.1 hap.symm (mm_recv hK (show mM G A s.heap h Hp lcs from ⟨hh, hM.2⟩) hI.obj (q := (RX6, TX6, 14)) rfl) rfl hl.1 rfl (Nat.le_of_ble_eq_true rfl) dL_law_317 ⟨by show cells + 620 + 0 ≤ 600000; omega, by show slots + 1909 + 0 ≤ 7302250; omega⟩ (fun v h1 Hp lcs hp hM hh hap => ?_)
  obtain ⟨rfl, hR1⟩ := hp
  refine lv_icmp_eq (tgt := 1056) hx hb dL_law_320 (by decide) (fun _ => ?_) (fun hq9 => absurd rfl hq9)
  exact W.widen (k := cells + 640) (n := slots + 2000) (by omega) (by omega) (kk f1 h1 _ _ ⟨hh, hM.2⟩ hM.1 hap.symm ⟨S1, P1, rc1, hC1, hR1, hv1, hP1⟩)
set_option maxHeartbeats 4000000 in
set_option maxRecDepth 100000 in
theorem law_c7 {p : Program} {l : Launch} {e : Env} {s : State} {m : MethodId} {args : Array Value} {below : List Frame} {meth : Method} {c : Code} {G : mG} {A : Nat → Prop} {Q : State → Prop} {b L : Nat} {xs : Nat → Int32} (hx : p.tables.exec = Jvm.exec) (hb : c.code = cL_law) (hml : c.maxLocals = 4) (hown : s.vm.findClass RL = some m.cls) (hts : ∀ w ∈ wsL_law, w.before args s = true) (hK : va_K G.1 vwCl (mT G) s) (hE : mS G A s s.heap) (hA : ∀ q, s.heap.size ≤ q → A q) (hX : va_X b L xs s s.heap) (hbl : b < s.heap.size) (hbA : ¬ A b) (hL : L ≤ 2048) {f h : mE} {ox om i cells slots : Nat} {Hp : Heap} {lcs : List Loc} {ls : Array Slot} (hM : mM G A s.heap f Hp lcs) (hh : mD G A h Hp) (hap : mAp f h) (hLI : LI G f h ox om) (hi : i + 4 ≤ L) (hl : lv_has ls 4 [(3, .int (nI i)), (2, .ref om), (1, .ref ox), (0, .ref b)]) (hr1 : cells + 640 ≤ 600000) (hr2 : slots + 2000 ≤ 7302250)
    (kk : ∀ (f1 h1 : mE) (H1 : Heap) (locs1 : List Loc), mM G A s.heap f1 H1 locs1 → mD G A h1 H1 → mAp f1 h1 → LI G f1 h1 ox om → W p l e room_1 s m args below meth c H1 locs1 (cells + 640) (slots + 2000) Q (F0 m 1056 ls [])) : W p l e room_1 s m args below meth c Hp lcs cells slots Q (F0 m 325 ls []) := by
  obtain ⟨S0, P0, rc0, ⟨T, q0, ra, rd, sp, rr, sb, hC⟩, ⟨a, lo, hi9, ou, ir, wt, us, ab, gi, wr, hI⟩, -⟩ := id hLI
  refine lv_aload_n hx hb dL_law_325 rfl (lv_at hl 2 rfl) ?_
  refine lv_aload_n hx hb dL_law_326 rfl (lv_at hl 3 rfl) ?_
  refine lv_iload_n hx hb dL_law_327 rfl (lv_at hl 0 rfl) ?_
  refine lv_iconst (v := nI 1) hx hb dL_law_328 (by decide +kernel) ?_
  refine ln_iadd i 1 hx hb dL_law_329 ?_
  refine va_sld hx hb hX hbl hbA hM.2 (vp_in_nI (by omega) (by omega)) dL_law_330 ?_
  obtain ⟨V, S1, P1, rc1, hc5, hc6⟩ := b_retract l G hLI (xs (nI (i + 1)).toNatClampNeg)
  refine mm_V2 (As := [.int (xs (nI (i + 1)).toNatClampNeg)]) (rest := []) ⟨hx, hb, hml, hown, hts⟩ hc5 (cwV 1 hts gL_law_X5_retract rfl rfl rfl (by decide +kernel) ⟨Nat.le_of_ble_eq_true rfl, Nat.le_of_ble_eq_true rfl⟩) hK hE hA hM hh hap (mm_recv hK hM hC.1 (q := (RX5, TX5, 7)) rfl) rfl hl.1 rfl (Nat.le_of_ble_eq_true rfl) dL_law_331 ⟨by show cells + 6 ≤ 600000; omega, by show slots + 78 ≤ 7302250; omega⟩ (fun v f1 Hp lcs hp hM hh hap => ?_)
  obtain ⟨rfl, hC1, hv1, hP1⟩ := hp
  refine lv_aload_n hx hb dL_law_334 rfl (lv_at hl 1 rfl) ?_
  refine lv_aload_n hx hb dL_law_335 rfl (lv_at hl 3 rfl) ?_
  refine lv_iload_n hx hb dL_law_336 rfl (lv_at hl 0 rfl) ?_
  refine lv_iconst (v := nI 1) hx hb dL_law_337 (by decide +kernel) ?_
  refine ln_iadd i 1 hx hb dL_law_338 ?_
  refine va_sld hx hb hX hbl hbA hM.2 (vp_in_nI (by omega) (by omega)) dL_law_339 ?_
  refine mm_V2 (As := [.int (xs (nI (i + 1)).toNatClampNeg)]) (rest := [.int V]) ⟨hx, hb, hml, hown, hts⟩ hc6 (cwV 1 hts gL_law_X6_retract rfl rfl rfl (by decide +kernel) ⟨Nat.le_of_ble_eq_true rfl, Nat.le_of_ble_eq_true rfl⟩) hK hE hA (show mM G A s.heap h Hp lcs from ⟨hh, hM.2⟩) hM.1 hap.symm (mm_recv hK (show mM G A s.heap h Hp lcs from ⟨hh, hM.2⟩) hI.obj (q := (RX6, TX6, 14)) rfl) rfl hl.1 rfl (Nat.le_of_ble_eq_true rfl) dL_law_340 ⟨by show cells + 6 + 0 ≤ 600000; omega, by show slots + 78 + 0 ≤ 7302250; omega⟩ (fun v h1 Hp lcs hp hM hh hap => ?_)
  obtain ⟨rfl, hR1⟩ := hp
  refine lv_icmp_eq (tgt := 1056) hx hb dL_law_343 (by decide) (fun _ => ?_) (fun hq9 => absurd rfl hq9)
  exact W.widen (k := cells + 640) (n := slots + 2000) (by omega) (by omega) (kk f1 h1 _ _ ⟨hh, hM.2⟩ hM.1 hap.symm ⟨S1, P1, rc1, hC1, hR1, hv1, hP1⟩)
set_option maxHeartbeats 4000000 in
set_option maxRecDepth 100000 in
theorem law_c8 {p : Program} {l : Launch} {e : Env} {s : State} {m : MethodId} {args : Array Value} {below : List Frame} {meth : Method} {c : Code} {G : mG} {A : Nat → Prop} {Q : State → Prop} {b L : Nat} {xs : Nat → Int32} (hx : p.tables.exec = Jvm.exec) (hb : c.code = cL_law) (hml : c.maxLocals = 4) (hown : s.vm.findClass RL = some m.cls) (hts : ∀ w ∈ wsL_law, w.before args s = true) (hK : va_K G.1 vwCl (mT G) s) (hE : mS G A s s.heap) (hA : ∀ q, s.heap.size ≤ q → A q) (hX : va_X b L xs s s.heap) (hbl : b < s.heap.size) (hbA : ¬ A b) (hL : L ≤ 2048) {f h : mE} {ox om i cells slots : Nat} {Hp : Heap} {lcs : List Loc} {ls : Array Slot} (hM : mM G A s.heap f Hp lcs) (hh : mD G A h Hp) (hap : mAp f h) (hLI : LI G f h ox om) (hi : i + 4 ≤ L) (hl : lv_has ls 4 [(3, .int (nI i)), (2, .ref om), (1, .ref ox), (0, .ref b)]) (hr1 : cells + 640 ≤ 600000) (hr2 : slots + 2000 ≤ 7302250)
    (kk : ∀ (f1 h1 : mE) (H1 : Heap) (locs1 : List Loc), mM G A s.heap f1 H1 locs1 → mD G A h1 H1 → mAp f1 h1 → LI G f1 h1 ox om → W p l e room_1 s m args below meth c H1 locs1 (cells + 640) (slots + 2000) Q (F0 m 1056 ls [])) : W p l e room_1 s m args below meth c Hp lcs cells slots Q (F0 m 348 ls []) := by
  obtain ⟨S0, P0, rc0, ⟨T, q0, ra, rd, sp, rr, sb, hC⟩, ⟨a, lo, hi9, ou, ir, wt, us, ab, gi, wr, hI⟩, -⟩ := id hLI
  refine lv_aload_n hx hb dL_law_348 rfl (lv_at hl 2 rfl) ?_
  refine lv_aload_n hx hb dL_law_349 rfl (lv_at hl 3 rfl) ?_
  refine lv_iload_n hx hb dL_law_350 rfl (lv_at hl 0 rfl) ?_
  refine lv_iconst (v := nI 1) hx hb dL_law_351 (by decide +kernel) ?_
  refine ln_iadd i 1 hx hb dL_law_352 ?_
  refine va_sld hx hb hX hbl hbA hM.2 (vp_in_nI (by omega) (by omega)) dL_law_353 ?_
  refine lv_aload_n hx hb dL_law_354 rfl (lv_at hl 3 rfl) ?_
  refine lv_iload_n hx hb dL_law_355 rfl (lv_at hl 0 rfl) ?_
  refine lv_iconst (v := nI 2) hx hb dL_law_356 (by decide +kernel) ?_
  refine ln_iadd i 2 hx hb dL_law_357 ?_
  refine va_sld hx hb hX hbl hbA hM.2 (vp_in_nI (by omega) (by omega)) dL_law_358 ?_
  obtain ⟨V, S1, P1, rc1, hc5, hc6⟩ := b_setFact l G hLI (xs (nI (i + 1)).toNatClampNeg) (xs (nI (i + 2)).toNatClampNeg)
  refine mm_V2 (As := [.int (xs (nI (i + 1)).toNatClampNeg), .int (xs (nI (i + 2)).toNatClampNeg)]) (rest := []) ⟨hx, hb, hml, hown, hts⟩ hc5 (cwV 2 hts gL_law_X5_setFact rfl rfl rfl (by decide +kernel) ⟨Nat.le_of_ble_eq_true rfl, Nat.le_of_ble_eq_true rfl⟩) hK hE hA hM hh hap (mm_recv hK hM hC.1 (q := (RX5, TX5, 7)) rfl) rfl hl.1 rfl (Nat.le_of_ble_eq_true rfl) dL_law_359 ⟨by show cells + 6 ≤ 600000; omega, by show slots + 78 ≤ 7302250; omega⟩ (fun v f1 Hp lcs hp hM hh hap => ?_)
  obtain ⟨rfl, hC1, hv1, hP1⟩ := hp
  refine lv_aload_n hx hb dL_law_362 rfl (lv_at hl 1 rfl) ?_
  refine lv_aload_n hx hb dL_law_363 rfl (lv_at hl 3 rfl) ?_
  refine lv_iload_n hx hb dL_law_364 rfl (lv_at hl 0 rfl) ?_
  refine lv_iconst (v := nI 1) hx hb dL_law_365 (by decide +kernel) ?_
  refine ln_iadd i 1 hx hb dL_law_366 ?_
  refine va_sld hx hb hX hbl hbA hM.2 (vp_in_nI (by omega) (by omega)) dL_law_367 ?_
  refine lv_aload_n hx hb dL_law_368 rfl (lv_at hl 3 rfl) ?_
  refine lv_iload_n hx hb dL_law_369 rfl (lv_at hl 0 rfl) ?_
  refine lv_iconst (v := nI 2) hx hb dL_law_370 (by decide +kernel) ?_
  refine ln_iadd i 2 hx hb dL_law_371 ?_
  refine va_sld hx hb hX hbl hbA hM.2 (vp_in_nI (by omega) (by omega)) dL_law_372 ?_
  refine mm_V2 (As := [.int (xs (nI (i + 1)).toNatClampNeg), .int (xs (nI (i + 2)).toNatClampNeg)]) (rest := [.int V]) ⟨hx, hb, hml, hown, hts⟩ hc6 (cwV 2 hts gL_law_X6_setFact rfl rfl rfl (by decide +kernel) ⟨Nat.le_of_ble_eq_true rfl, Nat.le_of_ble_eq_true rfl⟩) hK hE hA (show mM G A s.heap h Hp lcs from ⟨hh, hM.2⟩) hM.1 hap.symm (mm_recv hK (show mM G A s.heap h Hp lcs from ⟨hh, hM.2⟩) hI.obj (q := (RX6, TX6, 14)) rfl) rfl hl.1 rfl (Nat.le_of_ble_eq_true rfl) dL_law_373 ⟨by show cells + 6 + 0 ≤ 600000; omega, by show slots + 78 + 0 ≤ 7302250; omega⟩ (fun v h1 Hp lcs hp hM hh hap => ?_)
  obtain ⟨rfl, hR1⟩ := hp
  refine lv_icmp_eq (tgt := 1056) hx hb dL_law_376 (by decide) (fun _ => ?_) (fun hq9 => absurd rfl hq9)
  exact W.widen (k := cells + 640) (n := slots + 2000) (by omega) (by omega) (kk f1 h1 _ _ ⟨hh, hM.2⟩ hM.1 hap.symm ⟨S1, P1, rc1, hC1, hR1, hv1, hP1⟩)
set_option maxHeartbeats 4000000 in
set_option maxRecDepth 100000 in
theorem law_c9 {p : Program} {l : Launch} {e : Env} {s : State} {m : MethodId} {args : Array Value} {below : List Frame} {meth : Method} {c : Code} {G : mG} {A : Nat → Prop} {Q : State → Prop} {b L : Nat} {xs : Nat → Int32} (hx : p.tables.exec = Jvm.exec) (hb : c.code = cL_law) (hml : c.maxLocals = 4) (hown : s.vm.findClass RL = some m.cls) (hts : ∀ w ∈ wsL_law, w.before args s = true) (hK : va_K G.1 vwCl (mT G) s) (hE : mS G A s s.heap) (hA : ∀ q, s.heap.size ≤ q → A q) (hX : va_X b L xs s s.heap) (hbl : b < s.heap.size) (hbA : ¬ A b) (hL : L ≤ 2048) {f h : mE} {ox om i cells slots : Nat} {Hp : Heap} {lcs : List Loc} {ls : Array Slot} (hM : mM G A s.heap f Hp lcs) (hh : mD G A h Hp) (hap : mAp f h) (hLI : LI G f h ox om) (hi : i + 4 ≤ L) (hl : lv_has ls 4 [(3, .int (nI i)), (2, .ref om), (1, .ref ox), (0, .ref b)]) (hr1 : cells + 640 ≤ 600000) (hr2 : slots + 2000 ≤ 7302250)
    (kk : ∀ (f1 h1 : mE) (H1 : Heap) (locs1 : List Loc), mM G A s.heap f1 H1 locs1 → mD G A h1 H1 → mAp f1 h1 → LI G f1 h1 ox om → W p l e room_1 s m args below meth c H1 locs1 (cells + 640) (slots + 2000) Q (F0 m 1056 ls [])) : W p l e room_1 s m args below meth c Hp lcs cells slots Q (F0 m 381 ls []) := by
  obtain ⟨S0, P0, rc0, ⟨T, q0, ra, rd, sp, rr, sb, hC⟩, ⟨a, lo, hi9, ou, ir, wt, us, ab, gi, wr, hI⟩, -⟩ := id hLI
  refine lv_aload_n hx hb dL_law_381 rfl (lv_at hl 2 rfl) ?_
  obtain ⟨V, S1, P1, rc1, hc5, hc6⟩ := b_undo l G hLI 
  refine mm_V2 (As := []) (rest := []) ⟨hx, hb, hml, hown, hts⟩ hc5 (cwV 0 hts gL_law_X5_undo rfl rfl rfl (by decide +kernel) ⟨Nat.le_of_ble_eq_true rfl, Nat.le_of_ble_eq_true rfl⟩) hK hE hA hM hh hap (mm_recv hK hM hC.1 (q := (RX5, TX5, 7)) rfl) rfl hl.1 rfl (Nat.le_of_ble_eq_true rfl) dL_law_382 ⟨by show cells + 0 ≤ 600000; omega, by show slots + 0 ≤ 7302250; omega⟩ (fun v f1 Hp lcs hp hM hh hap => ?_)
  obtain ⟨rfl, hC1, hv1, hP1⟩ := hp
  refine lv_aload_n hx hb dL_law_385 rfl (lv_at hl 1 rfl) ?_
  refine mm_V2 (As := []) (rest := [.int V]) ⟨hx, hb, hml, hown, hts⟩ hc6 (cwV 0 hts gL_law_X6_undo rfl rfl rfl (by decide +kernel) ⟨Nat.le_of_ble_eq_true rfl, Nat.le_of_ble_eq_true rfl⟩) hK hE hA (show mM G A s.heap h Hp lcs from ⟨hh, hM.2⟩) hM.1 hap.symm (mm_recv hK (show mM G A s.heap h Hp lcs from ⟨hh, hM.2⟩) hI.obj (q := (RX6, TX6, 14)) rfl) rfl hl.1 rfl (Nat.le_of_ble_eq_true rfl) dL_law_386 ⟨by show cells + 0 + 0 ≤ 600000; omega, by show slots + 0 + 0 ≤ 7302250; omega⟩ (fun v h1 Hp lcs hp hM hh hap => ?_)
  obtain ⟨rfl, hR1⟩ := hp
  refine lv_icmp_eq (tgt := 1056) hx hb dL_law_389 (by decide) (fun _ => ?_) (fun hq9 => absurd rfl hq9)
  exact W.widen (k := cells + 640) (n := slots + 2000) (by omega) (by omega) (kk f1 h1 _ _ ⟨hh, hM.2⟩ hM.1 hap.symm ⟨S1, P1, rc1, hC1, hR1, hv1, hP1⟩)
set_option maxHeartbeats 4000000 in
set_option maxRecDepth 100000 in
theorem law_c10 {p : Program} {l : Launch} {e : Env} {s : State} {m : MethodId} {args : Array Value} {below : List Frame} {meth : Method} {c : Code} {G : mG} {A : Nat → Prop} {Q : State → Prop} {b L : Nat} {xs : Nat → Int32} (hx : p.tables.exec = Jvm.exec) (hb : c.code = cL_law) (hml : c.maxLocals = 4) (hown : s.vm.findClass RL = some m.cls) (hts : ∀ w ∈ wsL_law, w.before args s = true) (hK : va_K G.1 vwCl (mT G) s) (hE : mS G A s s.heap) (hA : ∀ q, s.heap.size ≤ q → A q) (hX : va_X b L xs s s.heap) (hbl : b < s.heap.size) (hbA : ¬ A b) (hL : L ≤ 2048) {f h : mE} {ox om i cells slots : Nat} {Hp : Heap} {lcs : List Loc} {ls : Array Slot} (hM : mM G A s.heap f Hp lcs) (hh : mD G A h Hp) (hap : mAp f h) (hLI : LI G f h ox om) (hi : i + 4 ≤ L) (hl : lv_has ls 4 [(3, .int (nI i)), (2, .ref om), (1, .ref ox), (0, .ref b)]) (hr1 : cells + 640 ≤ 600000) (hr2 : slots + 2000 ≤ 7302250)
    (kk : ∀ (f1 h1 : mE) (H1 : Heap) (locs1 : List Loc), mM G A s.heap f1 H1 locs1 → mD G A h1 H1 → mAp f1 h1 → LI G f1 h1 ox om → W p l e room_1 s m args below meth c H1 locs1 (cells + 640) (slots + 2000) Q (F0 m 1056 ls [])) : W p l e room_1 s m args below meth c Hp lcs cells slots Q (F0 m 394 ls []) := by
  obtain ⟨S0, P0, rc0, ⟨T, q0, ra, rd, sp, rr, sb, hC⟩, ⟨a, lo, hi9, ou, ir, wt, us, ab, gi, wr, hI⟩, -⟩ := id hLI
  refine lv_aload_n hx hb dL_law_394 rfl (lv_at hl 2 rfl) ?_
  obtain ⟨V, S1, P1, rc1, hc5, hc6⟩ := b_sentences l G hLI 
  refine mm_V2 (As := []) (rest := []) ⟨hx, hb, hml, hown, hts⟩ hc5 (cwV 0 hts gL_law_X5_sentences rfl rfl rfl (by decide +kernel) ⟨Nat.le_of_ble_eq_true rfl, Nat.le_of_ble_eq_true rfl⟩) hK hE hA hM hh hap (mm_recv hK hM hC.1 (q := (RX5, TX5, 7)) rfl) rfl hl.1 rfl (Nat.le_of_ble_eq_true rfl) dL_law_395 ⟨by show cells + 0 ≤ 600000; omega, by show slots + 0 ≤ 7302250; omega⟩ (fun v f1 Hp lcs hp hM hh hap => ?_)
  obtain ⟨rfl, hC1, hv1, hP1⟩ := hp
  refine lv_aload_n hx hb dL_law_398 rfl (lv_at hl 1 rfl) ?_
  refine mm_V2 (As := []) (rest := [.int V]) ⟨hx, hb, hml, hown, hts⟩ hc6 (cwV 0 hts gL_law_X6_sentences rfl rfl rfl (by decide +kernel) ⟨Nat.le_of_ble_eq_true rfl, Nat.le_of_ble_eq_true rfl⟩) hK hE hA (show mM G A s.heap h Hp lcs from ⟨hh, hM.2⟩) hM.1 hap.symm (mm_recv hK (show mM G A s.heap h Hp lcs from ⟨hh, hM.2⟩) hI.obj (q := (RX6, TX6, 14)) rfl) rfl hl.1 rfl (Nat.le_of_ble_eq_true rfl) dL_law_399 ⟨by show cells + 0 + 0 ≤ 600000; omega, by show slots + 0 + 0 ≤ 7302250; omega⟩ (fun v h1 Hp lcs hp hM hh hap => ?_)
  obtain ⟨rfl, hR1⟩ := hp
  refine lv_icmp_eq (tgt := 1056) hx hb dL_law_402 (by decide) (fun _ => ?_) (fun hq9 => absurd rfl hq9)
  exact W.widen (k := cells + 640) (n := slots + 2000) (by omega) (by omega) (kk f1 h1 _ _ ⟨hh, hM.2⟩ hM.1 hap.symm ⟨S1, P1, rc1, hC1, hR1, hv1, hP1⟩)
set_option maxHeartbeats 4000000 in
set_option maxRecDepth 100000 in
theorem law_c11 {p : Program} {l : Launch} {e : Env} {s : State} {m : MethodId} {args : Array Value} {below : List Frame} {meth : Method} {c : Code} {G : mG} {A : Nat → Prop} {Q : State → Prop} {b L : Nat} {xs : Nat → Int32} (hx : p.tables.exec = Jvm.exec) (hb : c.code = cL_law) (hml : c.maxLocals = 4) (hown : s.vm.findClass RL = some m.cls) (hts : ∀ w ∈ wsL_law, w.before args s = true) (hK : va_K G.1 vwCl (mT G) s) (hE : mS G A s s.heap) (hA : ∀ q, s.heap.size ≤ q → A q) (hX : va_X b L xs s s.heap) (hbl : b < s.heap.size) (hbA : ¬ A b) (hL : L ≤ 2048) {f h : mE} {ox om i cells slots : Nat} {Hp : Heap} {lcs : List Loc} {ls : Array Slot} (hM : mM G A s.heap f Hp lcs) (hh : mD G A h Hp) (hap : mAp f h) (hLI : LI G f h ox om) (hi : i + 4 ≤ L) (hl : lv_has ls 4 [(3, .int (nI i)), (2, .ref om), (1, .ref ox), (0, .ref b)]) (hr1 : cells + 640 ≤ 600000) (hr2 : slots + 2000 ≤ 7302250)
    (kk : ∀ (f1 h1 : mE) (H1 : Heap) (locs1 : List Loc), mM G A s.heap f1 H1 locs1 → mD G A h1 H1 → mAp f1 h1 → LI G f1 h1 ox om → W p l e room_1 s m args below meth c H1 locs1 (cells + 640) (slots + 2000) Q (F0 m 1056 ls [])) : W p l e room_1 s m args below meth c Hp lcs cells slots Q (F0 m 407 ls []) := by
  obtain ⟨S0, P0, rc0, ⟨T, q0, ra, rd, sp, rr, sb, hC⟩, ⟨a, lo, hi9, ou, ir, wt, us, ab, gi, wr, hI⟩, -⟩ := id hLI
  refine lv_aload_n hx hb dL_law_407 rfl (lv_at hl 2 rfl) ?_
  refine lv_aload_n hx hb dL_law_408 rfl (lv_at hl 3 rfl) ?_
  refine lv_iload_n hx hb dL_law_409 rfl (lv_at hl 0 rfl) ?_
  refine lv_iconst (v := nI 1) hx hb dL_law_410 (by decide +kernel) ?_
  refine ln_iadd i 1 hx hb dL_law_411 ?_
  refine va_sld hx hb hX hbl hbA hM.2 (vp_in_nI (by omega) (by omega)) dL_law_412 ?_
  obtain ⟨V, S1, P1, rc1, hc5, hc6⟩ := b_about l G hLI (xs (nI (i + 1)).toNatClampNeg)
  refine mm_V2 (As := [.int (xs (nI (i + 1)).toNatClampNeg)]) (rest := []) ⟨hx, hb, hml, hown, hts⟩ hc5 (cwV 1 hts gL_law_X5_about rfl rfl rfl (by decide +kernel) ⟨Nat.le_of_ble_eq_true rfl, Nat.le_of_ble_eq_true rfl⟩) hK hE hA hM hh hap (mm_recv hK hM hC.1 (q := (RX5, TX5, 7)) rfl) rfl hl.1 rfl (Nat.le_of_ble_eq_true rfl) dL_law_413 ⟨by show cells + 0 ≤ 600000; omega, by show slots + 0 ≤ 7302250; omega⟩ (fun v f1 Hp lcs hp hM hh hap => ?_)
  obtain ⟨rfl, hC1, hv1, hP1⟩ := hp
  refine lv_aload_n hx hb dL_law_416 rfl (lv_at hl 1 rfl) ?_
  refine lv_aload_n hx hb dL_law_417 rfl (lv_at hl 3 rfl) ?_
  refine lv_iload_n hx hb dL_law_418 rfl (lv_at hl 0 rfl) ?_
  refine lv_iconst (v := nI 1) hx hb dL_law_419 (by decide +kernel) ?_
  refine ln_iadd i 1 hx hb dL_law_420 ?_
  refine va_sld hx hb hX hbl hbA hM.2 (vp_in_nI (by omega) (by omega)) dL_law_421 ?_
  refine mm_V2 (As := [.int (xs (nI (i + 1)).toNatClampNeg)]) (rest := [.int V]) ⟨hx, hb, hml, hown, hts⟩ hc6 (cwV 1 hts gL_law_X6_about rfl rfl rfl (by decide +kernel) ⟨Nat.le_of_ble_eq_true rfl, Nat.le_of_ble_eq_true rfl⟩) hK hE hA (show mM G A s.heap h Hp lcs from ⟨hh, hM.2⟩) hM.1 hap.symm (mm_recv hK (show mM G A s.heap h Hp lcs from ⟨hh, hM.2⟩) hI.obj (q := (RX6, TX6, 14)) rfl) rfl hl.1 rfl (Nat.le_of_ble_eq_true rfl) dL_law_422 ⟨by show cells + 0 + 0 ≤ 600000; omega, by show slots + 0 + 0 ≤ 7302250; omega⟩ (fun v h1 Hp lcs hp hM hh hap => ?_)
  obtain ⟨rfl, hR1⟩ := hp
  refine lv_icmp_eq (tgt := 1056) hx hb dL_law_425 (by decide) (fun _ => ?_) (fun hq9 => absurd rfl hq9)
  exact W.widen (k := cells + 640) (n := slots + 2000) (by omega) (by omega) (kk f1 h1 _ _ ⟨hh, hM.2⟩ hM.1 hap.symm ⟨S1, P1, rc1, hC1, hR1, hv1, hP1⟩)
set_option maxHeartbeats 4000000 in
set_option maxRecDepth 100000 in
theorem law_c12 {p : Program} {l : Launch} {e : Env} {s : State} {m : MethodId} {args : Array Value} {below : List Frame} {meth : Method} {c : Code} {G : mG} {A : Nat → Prop} {Q : State → Prop} {b L : Nat} {xs : Nat → Int32} (hx : p.tables.exec = Jvm.exec) (hb : c.code = cL_law) (hml : c.maxLocals = 4) (hown : s.vm.findClass RL = some m.cls) (hts : ∀ w ∈ wsL_law, w.before args s = true) (hK : va_K G.1 vwCl (mT G) s) (hE : mS G A s s.heap) (hA : ∀ q, s.heap.size ≤ q → A q) (hX : va_X b L xs s s.heap) (hbl : b < s.heap.size) (hbA : ¬ A b) (hL : L ≤ 2048) {f h : mE} {ox om i cells slots : Nat} {Hp : Heap} {lcs : List Loc} {ls : Array Slot} (hM : mM G A s.heap f Hp lcs) (hh : mD G A h Hp) (hap : mAp f h) (hLI : LI G f h ox om) (hi : i + 4 ≤ L) (hl : lv_has ls 4 [(3, .int (nI i)), (2, .ref om), (1, .ref ox), (0, .ref b)]) (hr1 : cells + 640 ≤ 600000) (hr2 : slots + 2000 ≤ 7302250)
    (kk : ∀ (f1 h1 : mE) (H1 : Heap) (locs1 : List Loc), mM G A s.heap f1 H1 locs1 → mD G A h1 H1 → mAp f1 h1 → LI G f1 h1 ox om → W p l e room_1 s m args below meth c H1 locs1 (cells + 640) (slots + 2000) Q (F0 m 1056 ls [])) : W p l e room_1 s m args below meth c Hp lcs cells slots Q (F0 m 430 ls []) := by
  obtain ⟨S0, P0, rc0, ⟨T, q0, ra, rd, sp, rr, sb, hC⟩, ⟨a, lo, hi9, ou, ir, wt, us, ab, gi, wr, hI⟩, -⟩ := id hLI
  refine lv_aload_n hx hb dL_law_430 rfl (lv_at hl 2 rfl) ?_
  refine lv_aload_n hx hb dL_law_431 rfl (lv_at hl 3 rfl) ?_
  refine lv_iload_n hx hb dL_law_432 rfl (lv_at hl 0 rfl) ?_
  refine lv_iconst (v := nI 1) hx hb dL_law_433 (by decide +kernel) ?_
  refine ln_iadd i 1 hx hb dL_law_434 ?_
  refine va_sld hx hb hX hbl hbA hM.2 (vp_in_nI (by omega) (by omega)) dL_law_435 ?_
  obtain ⟨V, S1, P1, rc1, hc5, hc6⟩ := b_gives l G hLI (xs (nI (i + 1)).toNatClampNeg)
  refine mm_V2 (As := [.int (xs (nI (i + 1)).toNatClampNeg)]) (rest := []) ⟨hx, hb, hml, hown, hts⟩ hc5 (cwV 1 hts gL_law_X5_gives rfl rfl rfl (by decide +kernel) ⟨Nat.le_of_ble_eq_true rfl, Nat.le_of_ble_eq_true rfl⟩) hK hE hA hM hh hap (mm_recv hK hM hC.1 (q := (RX5, TX5, 7)) rfl) rfl hl.1 rfl (Nat.le_of_ble_eq_true rfl) dL_law_436 ⟨by show cells + 0 ≤ 600000; omega, by show slots + 0 ≤ 7302250; omega⟩ (fun v f1 Hp lcs hp hM hh hap => ?_)
  obtain ⟨rfl, hC1, hv1, hP1⟩ := hp
  refine lv_aload_n hx hb dL_law_439 rfl (lv_at hl 1 rfl) ?_
  refine lv_aload_n hx hb dL_law_440 rfl (lv_at hl 3 rfl) ?_
  refine lv_iload_n hx hb dL_law_441 rfl (lv_at hl 0 rfl) ?_
  refine lv_iconst (v := nI 1) hx hb dL_law_442 (by decide +kernel) ?_
  refine ln_iadd i 1 hx hb dL_law_443 ?_
  refine va_sld hx hb hX hbl hbA hM.2 (vp_in_nI (by omega) (by omega)) dL_law_444 ?_
  refine mm_V2 (As := [.int (xs (nI (i + 1)).toNatClampNeg)]) (rest := [.int V]) ⟨hx, hb, hml, hown, hts⟩ hc6 (cwV 1 hts gL_law_X6_gives rfl rfl rfl (by decide +kernel) ⟨Nat.le_of_ble_eq_true rfl, Nat.le_of_ble_eq_true rfl⟩) hK hE hA (show mM G A s.heap h Hp lcs from ⟨hh, hM.2⟩) hM.1 hap.symm (mm_recv hK (show mM G A s.heap h Hp lcs from ⟨hh, hM.2⟩) hI.obj (q := (RX6, TX6, 14)) rfl) rfl hl.1 rfl (Nat.le_of_ble_eq_true rfl) dL_law_445 ⟨by show cells + 0 + 0 ≤ 600000; omega, by show slots + 0 + 0 ≤ 7302250; omega⟩ (fun v h1 Hp lcs hp hM hh hap => ?_)
  obtain ⟨rfl, hR1⟩ := hp
  refine lv_icmp_eq (tgt := 1056) hx hb dL_law_448 (by decide) (fun _ => ?_) (fun hq9 => absurd rfl hq9)
  exact W.widen (k := cells + 640) (n := slots + 2000) (by omega) (by omega) (kk f1 h1 _ _ ⟨hh, hM.2⟩ hM.1 hap.symm ⟨S1, P1, rc1, hC1, hR1, hv1, hP1⟩)
set_option maxHeartbeats 4000000 in
set_option maxRecDepth 100000 in
theorem law_c13 {p : Program} {l : Launch} {e : Env} {s : State} {m : MethodId} {args : Array Value} {below : List Frame} {meth : Method} {c : Code} {G : mG} {A : Nat → Prop} {Q : State → Prop} {b L : Nat} {xs : Nat → Int32} (hx : p.tables.exec = Jvm.exec) (hb : c.code = cL_law) (hml : c.maxLocals = 4) (hown : s.vm.findClass RL = some m.cls) (hts : ∀ w ∈ wsL_law, w.before args s = true) (hK : va_K G.1 vwCl (mT G) s) (hE : mS G A s s.heap) (hA : ∀ q, s.heap.size ≤ q → A q) (hX : va_X b L xs s s.heap) (hbl : b < s.heap.size) (hbA : ¬ A b) (hL : L ≤ 2048) {f h : mE} {ox om i cells slots : Nat} {Hp : Heap} {lcs : List Loc} {ls : Array Slot} (hM : mM G A s.heap f Hp lcs) (hh : mD G A h Hp) (hap : mAp f h) (hLI : LI G f h ox om) (hi : i + 4 ≤ L) (hl : lv_has ls 4 [(3, .int (nI i)), (2, .ref om), (1, .ref ox), (0, .ref b)]) (hr1 : cells + 640 ≤ 600000) (hr2 : slots + 2000 ≤ 7302250)
    (kk : ∀ (f1 h1 : mE) (H1 : Heap) (locs1 : List Loc), mM G A s.heap f1 H1 locs1 → mD G A h1 H1 → mAp f1 h1 → LI G f1 h1 ox om → W p l e room_1 s m args below meth c H1 locs1 (cells + 640) (slots + 2000) Q (F0 m 1056 ls [])) : W p l e room_1 s m args below meth c Hp lcs cells slots Q (F0 m 453 ls []) := by
  obtain ⟨S0, P0, rc0, ⟨T, q0, ra, rd, sp, rr, sb, hC⟩, ⟨a, lo, hi9, ou, ir, wt, us, ab, gi, wr, hI⟩, -⟩ := id hLI
  refine lv_aload_n hx hb dL_law_453 rfl (lv_at hl 2 rfl) ?_
  refine lv_aload_n hx hb dL_law_454 rfl (lv_at hl 3 rfl) ?_
  refine lv_iload_n hx hb dL_law_455 rfl (lv_at hl 0 rfl) ?_
  refine lv_iconst (v := nI 1) hx hb dL_law_456 (by decide +kernel) ?_
  refine ln_iadd i 1 hx hb dL_law_457 ?_
  refine va_sld hx hb hX hbl hbA hM.2 (vp_in_nI (by omega) (by omega)) dL_law_458 ?_
  refine lv_aload_n hx hb dL_law_459 rfl (lv_at hl 3 rfl) ?_
  refine lv_iload_n hx hb dL_law_460 rfl (lv_at hl 0 rfl) ?_
  refine lv_iconst (v := nI 2) hx hb dL_law_461 (by decide +kernel) ?_
  refine ln_iadd i 2 hx hb dL_law_462 ?_
  refine va_sld hx hb hX hbl hbA hM.2 (vp_in_nI (by omega) (by omega)) dL_law_463 ?_
  obtain ⟨V, S1, P1, rc1, hc5, hc6⟩ := b_least l G hLI (xs (nI (i + 1)).toNatClampNeg) (xs (nI (i + 2)).toNatClampNeg)
  refine mm_V2 (As := [.int (xs (nI (i + 1)).toNatClampNeg), .int (xs (nI (i + 2)).toNatClampNeg)]) (rest := []) ⟨hx, hb, hml, hown, hts⟩ hc5 (cwV 2 hts gL_law_X5_least rfl rfl rfl (by decide +kernel) ⟨Nat.le_of_ble_eq_true rfl, Nat.le_of_ble_eq_true rfl⟩) hK hE hA hM hh hap (mm_recv hK hM hC.1 (q := (RX5, TX5, 7)) rfl) rfl hl.1 rfl (Nat.le_of_ble_eq_true rfl) dL_law_464 ⟨by show cells + 0 ≤ 600000; omega, by show slots + 0 ≤ 7302250; omega⟩ (fun v f1 Hp lcs hp hM hh hap => ?_)
  obtain ⟨rfl, hC1, hv1, hP1⟩ := hp
  refine lv_aload_n hx hb dL_law_467 rfl (lv_at hl 1 rfl) ?_
  refine lv_aload_n hx hb dL_law_468 rfl (lv_at hl 3 rfl) ?_
  refine lv_iload_n hx hb dL_law_469 rfl (lv_at hl 0 rfl) ?_
  refine lv_iconst (v := nI 1) hx hb dL_law_470 (by decide +kernel) ?_
  refine ln_iadd i 1 hx hb dL_law_471 ?_
  refine va_sld hx hb hX hbl hbA hM.2 (vp_in_nI (by omega) (by omega)) dL_law_472 ?_
  refine lv_aload_n hx hb dL_law_473 rfl (lv_at hl 3 rfl) ?_
  refine lv_iload_n hx hb dL_law_474 rfl (lv_at hl 0 rfl) ?_
  refine lv_iconst (v := nI 2) hx hb dL_law_475 (by decide +kernel) ?_
  refine ln_iadd i 2 hx hb dL_law_476 ?_
  refine va_sld hx hb hX hbl hbA hM.2 (vp_in_nI (by omega) (by omega)) dL_law_477 ?_
  refine mm_V2 (As := [.int (xs (nI (i + 1)).toNatClampNeg), .int (xs (nI (i + 2)).toNatClampNeg)]) (rest := [.int V]) ⟨hx, hb, hml, hown, hts⟩ hc6 (cwV 2 hts gL_law_X6_least rfl rfl rfl (by decide +kernel) ⟨Nat.le_of_ble_eq_true rfl, Nat.le_of_ble_eq_true rfl⟩) hK hE hA (show mM G A s.heap h Hp lcs from ⟨hh, hM.2⟩) hM.1 hap.symm (mm_recv hK (show mM G A s.heap h Hp lcs from ⟨hh, hM.2⟩) hI.obj (q := (RX6, TX6, 14)) rfl) rfl hl.1 rfl (Nat.le_of_ble_eq_true rfl) dL_law_478 ⟨by show cells + 0 + 0 ≤ 600000; omega, by show slots + 0 + 0 ≤ 7302250; omega⟩ (fun v h1 Hp lcs hp hM hh hap => ?_)
  obtain ⟨rfl, hR1⟩ := hp
  refine lv_icmp_eq (tgt := 1056) hx hb dL_law_481 (by decide) (fun _ => ?_) (fun hq9 => absurd rfl hq9)
  exact W.widen (k := cells + 640) (n := slots + 2000) (by omega) (by omega) (kk f1 h1 _ _ ⟨hh, hM.2⟩ hM.1 hap.symm ⟨S1, P1, rc1, hC1, hR1, hv1, hP1⟩)
set_option maxHeartbeats 4000000 in
set_option maxRecDepth 100000 in
theorem law_c14 {p : Program} {l : Launch} {e : Env} {s : State} {m : MethodId} {args : Array Value} {below : List Frame} {meth : Method} {c : Code} {G : mG} {A : Nat → Prop} {Q : State → Prop} {b L : Nat} {xs : Nat → Int32} (hx : p.tables.exec = Jvm.exec) (hb : c.code = cL_law) (hml : c.maxLocals = 4) (hown : s.vm.findClass RL = some m.cls) (hts : ∀ w ∈ wsL_law, w.before args s = true) (hK : va_K G.1 vwCl (mT G) s) (hE : mS G A s s.heap) (hA : ∀ q, s.heap.size ≤ q → A q) (hX : va_X b L xs s s.heap) (hbl : b < s.heap.size) (hbA : ¬ A b) (hL : L ≤ 2048) {f h : mE} {ox om i cells slots : Nat} {Hp : Heap} {lcs : List Loc} {ls : Array Slot} (hM : mM G A s.heap f Hp lcs) (hh : mD G A h Hp) (hap : mAp f h) (hLI : LI G f h ox om) (hi : i + 4 ≤ L) (hl : lv_has ls 4 [(3, .int (nI i)), (2, .ref om), (1, .ref ox), (0, .ref b)]) (hr1 : cells + 640 ≤ 600000) (hr2 : slots + 2000 ≤ 7302250)
    (kk : ∀ (f1 h1 : mE) (H1 : Heap) (locs1 : List Loc), mM G A s.heap f1 H1 locs1 → mD G A h1 H1 → mAp f1 h1 → LI G f1 h1 ox om → W p l e room_1 s m args below meth c H1 locs1 (cells + 640) (slots + 2000) Q (F0 m 1056 ls [])) : W p l e room_1 s m args below meth c Hp lcs cells slots Q (F0 m 486 ls []) := by
  obtain ⟨S0, P0, rc0, ⟨T, q0, ra, rd, sp, rr, sb, hC⟩, ⟨a, lo, hi9, ou, ir, wt, us, ab, gi, wr, hI⟩, -⟩ := id hLI
  refine lv_aload_n hx hb dL_law_486 rfl (lv_at hl 2 rfl) ?_
  refine lv_aload_n hx hb dL_law_487 rfl (lv_at hl 3 rfl) ?_
  refine lv_iload_n hx hb dL_law_488 rfl (lv_at hl 0 rfl) ?_
  refine lv_iconst (v := nI 1) hx hb dL_law_489 (by decide +kernel) ?_
  refine ln_iadd i 1 hx hb dL_law_490 ?_
  refine va_sld hx hb hX hbl hbA hM.2 (vp_in_nI (by omega) (by omega)) dL_law_491 ?_
  refine lv_aload_n hx hb dL_law_492 rfl (lv_at hl 3 rfl) ?_
  refine lv_iload_n hx hb dL_law_493 rfl (lv_at hl 0 rfl) ?_
  refine lv_iconst (v := nI 2) hx hb dL_law_494 (by decide +kernel) ?_
  refine ln_iadd i 2 hx hb dL_law_495 ?_
  refine va_sld hx hb hX hbl hbA hM.2 (vp_in_nI (by omega) (by omega)) dL_law_496 ?_
  obtain ⟨V, S1, P1, rc1, hc5, hc6⟩ := b_greatest l G hLI (xs (nI (i + 1)).toNatClampNeg) (xs (nI (i + 2)).toNatClampNeg)
  refine mm_V2 (As := [.int (xs (nI (i + 1)).toNatClampNeg), .int (xs (nI (i + 2)).toNatClampNeg)]) (rest := []) ⟨hx, hb, hml, hown, hts⟩ hc5 (cwV 2 hts gL_law_X5_greatest rfl rfl rfl (by decide +kernel) ⟨Nat.le_of_ble_eq_true rfl, Nat.le_of_ble_eq_true rfl⟩) hK hE hA hM hh hap (mm_recv hK hM hC.1 (q := (RX5, TX5, 7)) rfl) rfl hl.1 rfl (Nat.le_of_ble_eq_true rfl) dL_law_497 ⟨by show cells + 0 ≤ 600000; omega, by show slots + 0 ≤ 7302250; omega⟩ (fun v f1 Hp lcs hp hM hh hap => ?_)
  obtain ⟨rfl, hC1, hv1, hP1⟩ := hp
  refine lv_aload_n hx hb dL_law_500 rfl (lv_at hl 1 rfl) ?_
  refine lv_aload_n hx hb dL_law_501 rfl (lv_at hl 3 rfl) ?_
  refine lv_iload_n hx hb dL_law_502 rfl (lv_at hl 0 rfl) ?_
  refine lv_iconst (v := nI 1) hx hb dL_law_503 (by decide +kernel) ?_
  refine ln_iadd i 1 hx hb dL_law_504 ?_
  refine va_sld hx hb hX hbl hbA hM.2 (vp_in_nI (by omega) (by omega)) dL_law_505 ?_
  refine lv_aload_n hx hb dL_law_506 rfl (lv_at hl 3 rfl) ?_
  refine lv_iload_n hx hb dL_law_507 rfl (lv_at hl 0 rfl) ?_
  refine lv_iconst (v := nI 2) hx hb dL_law_508 (by decide +kernel) ?_
  refine ln_iadd i 2 hx hb dL_law_509 ?_
  refine va_sld hx hb hX hbl hbA hM.2 (vp_in_nI (by omega) (by omega)) dL_law_510 ?_
  refine mm_V2 (As := [.int (xs (nI (i + 1)).toNatClampNeg), .int (xs (nI (i + 2)).toNatClampNeg)]) (rest := [.int V]) ⟨hx, hb, hml, hown, hts⟩ hc6 (cwV 2 hts gL_law_X6_greatest rfl rfl rfl (by decide +kernel) ⟨Nat.le_of_ble_eq_true rfl, Nat.le_of_ble_eq_true rfl⟩) hK hE hA (show mM G A s.heap h Hp lcs from ⟨hh, hM.2⟩) hM.1 hap.symm (mm_recv hK (show mM G A s.heap h Hp lcs from ⟨hh, hM.2⟩) hI.obj (q := (RX6, TX6, 14)) rfl) rfl hl.1 rfl (Nat.le_of_ble_eq_true rfl) dL_law_511 ⟨by show cells + 0 + 0 ≤ 600000; omega, by show slots + 0 + 0 ≤ 7302250; omega⟩ (fun v h1 Hp lcs hp hM hh hap => ?_)
  obtain ⟨rfl, hR1⟩ := hp
  refine lv_icmp_eq (tgt := 1056) hx hb dL_law_514 (by decide) (fun _ => ?_) (fun hq9 => absurd rfl hq9)
  exact W.widen (k := cells + 640) (n := slots + 2000) (by omega) (by omega) (kk f1 h1 _ _ ⟨hh, hM.2⟩ hM.1 hap.symm ⟨S1, P1, rc1, hC1, hR1, hv1, hP1⟩)
set_option maxHeartbeats 4000000 in
set_option maxRecDepth 100000 in
theorem law_c15 {p : Program} {l : Launch} {e : Env} {s : State} {m : MethodId} {args : Array Value} {below : List Frame} {meth : Method} {c : Code} {G : mG} {A : Nat → Prop} {Q : State → Prop} {b L : Nat} {xs : Nat → Int32} (hx : p.tables.exec = Jvm.exec) (hb : c.code = cL_law) (hml : c.maxLocals = 4) (hown : s.vm.findClass RL = some m.cls) (hts : ∀ w ∈ wsL_law, w.before args s = true) (hK : va_K G.1 vwCl (mT G) s) (hE : mS G A s s.heap) (hA : ∀ q, s.heap.size ≤ q → A q) (hX : va_X b L xs s s.heap) (hbl : b < s.heap.size) (hbA : ¬ A b) (hL : L ≤ 2048) {f h : mE} {ox om i cells slots : Nat} {Hp : Heap} {lcs : List Loc} {ls : Array Slot} (hM : mM G A s.heap f Hp lcs) (hh : mD G A h Hp) (hap : mAp f h) (hLI : LI G f h ox om) (hi : i + 4 ≤ L) (hl : lv_has ls 4 [(3, .int (nI i)), (2, .ref om), (1, .ref ox), (0, .ref b)]) (hr1 : cells + 640 ≤ 600000) (hr2 : slots + 2000 ≤ 7302250)
    (kk : ∀ (f1 h1 : mE) (H1 : Heap) (locs1 : List Loc), mM G A s.heap f1 H1 locs1 → mD G A h1 H1 → mAp f1 h1 → LI G f1 h1 ox om → W p l e room_1 s m args below meth c H1 locs1 (cells + 640) (slots + 2000) Q (F0 m 1056 ls [])) : W p l e room_1 s m args below meth c Hp lcs cells slots Q (F0 m 519 ls []) := by
  obtain ⟨S0, P0, rc0, ⟨T, q0, ra, rd, sp, rr, sb, hC⟩, ⟨a, lo, hi9, ou, ir, wt, us, ab, gi, wr, hI⟩, -⟩ := id hLI
  refine lv_aload_n hx hb dL_law_519 rfl (lv_at hl 2 rfl) ?_
  refine lv_aload_n hx hb dL_law_520 rfl (lv_at hl 3 rfl) ?_
  refine lv_iload_n hx hb dL_law_521 rfl (lv_at hl 0 rfl) ?_
  refine lv_iconst (v := nI 1) hx hb dL_law_522 (by decide +kernel) ?_
  refine ln_iadd i 1 hx hb dL_law_523 ?_
  refine va_sld hx hb hX hbl hbA hM.2 (vp_in_nI (by omega) (by omega)) dL_law_524 ?_
  obtain ⟨V, S1, P1, rc1, hc5, hc6⟩ := b_sharpness l G hLI (xs (nI (i + 1)).toNatClampNeg)
  refine mm_V2 (As := [.int (xs (nI (i + 1)).toNatClampNeg)]) (rest := []) ⟨hx, hb, hml, hown, hts⟩ hc5 (cwV 1 hts gL_law_X5_sharpness rfl rfl rfl (by decide +kernel) ⟨Nat.le_of_ble_eq_true rfl, Nat.le_of_ble_eq_true rfl⟩) hK hE hA hM hh hap (mm_recv hK hM hC.1 (q := (RX5, TX5, 7)) rfl) rfl hl.1 rfl (Nat.le_of_ble_eq_true rfl) dL_law_525 ⟨by show cells + 0 ≤ 600000; omega, by show slots + 0 ≤ 7302250; omega⟩ (fun v f1 Hp lcs hp hM hh hap => ?_)
  obtain ⟨rfl, hC1, hv1, hP1⟩ := hp
  refine lv_aload_n hx hb dL_law_528 rfl (lv_at hl 1 rfl) ?_
  refine lv_aload_n hx hb dL_law_529 rfl (lv_at hl 3 rfl) ?_
  refine lv_iload_n hx hb dL_law_530 rfl (lv_at hl 0 rfl) ?_
  refine lv_iconst (v := nI 1) hx hb dL_law_531 (by decide +kernel) ?_
  refine ln_iadd i 1 hx hb dL_law_532 ?_
  refine va_sld hx hb hX hbl hbA hM.2 (vp_in_nI (by omega) (by omega)) dL_law_533 ?_
  refine mm_V2 (As := [.int (xs (nI (i + 1)).toNatClampNeg)]) (rest := [.int V]) ⟨hx, hb, hml, hown, hts⟩ hc6 (cwV 1 hts gL_law_X6_sharpness rfl rfl rfl (by decide +kernel) ⟨Nat.le_of_ble_eq_true rfl, Nat.le_of_ble_eq_true rfl⟩) hK hE hA (show mM G A s.heap h Hp lcs from ⟨hh, hM.2⟩) hM.1 hap.symm (mm_recv hK (show mM G A s.heap h Hp lcs from ⟨hh, hM.2⟩) hI.obj (q := (RX6, TX6, 14)) rfl) rfl hl.1 rfl (Nat.le_of_ble_eq_true rfl) dL_law_534 ⟨by show cells + 0 + 0 ≤ 600000; omega, by show slots + 0 + 0 ≤ 7302250; omega⟩ (fun v h1 Hp lcs hp hM hh hap => ?_)
  obtain ⟨rfl, hR1⟩ := hp
  refine lv_icmp_eq (tgt := 1056) hx hb dL_law_537 (by decide) (fun _ => ?_) (fun hq9 => absurd rfl hq9)
  exact W.widen (k := cells + 640) (n := slots + 2000) (by omega) (by omega) (kk f1 h1 _ _ ⟨hh, hM.2⟩ hM.1 hap.symm ⟨S1, P1, rc1, hC1, hR1, hv1, hP1⟩)
set_option maxHeartbeats 4000000 in
set_option maxRecDepth 100000 in
theorem law_c16 {p : Program} {l : Launch} {e : Env} {s : State} {m : MethodId} {args : Array Value} {below : List Frame} {meth : Method} {c : Code} {G : mG} {A : Nat → Prop} {Q : State → Prop} {b L : Nat} {xs : Nat → Int32} (hx : p.tables.exec = Jvm.exec) (hb : c.code = cL_law) (hml : c.maxLocals = 4) (hown : s.vm.findClass RL = some m.cls) (hts : ∀ w ∈ wsL_law, w.before args s = true) (hK : va_K G.1 vwCl (mT G) s) (hE : mS G A s s.heap) (hA : ∀ q, s.heap.size ≤ q → A q) (hX : va_X b L xs s s.heap) (hbl : b < s.heap.size) (hbA : ¬ A b) (hL : L ≤ 2048) {f h : mE} {ox om i cells slots : Nat} {Hp : Heap} {lcs : List Loc} {ls : Array Slot} (hM : mM G A s.heap f Hp lcs) (hh : mD G A h Hp) (hap : mAp f h) (hLI : LI G f h ox om) (hi : i + 4 ≤ L) (hl : lv_has ls 4 [(3, .int (nI i)), (2, .ref om), (1, .ref ox), (0, .ref b)]) (hr1 : cells + 640 ≤ 600000) (hr2 : slots + 2000 ≤ 7302250)
    (kk : ∀ (f1 h1 : mE) (H1 : Heap) (locs1 : List Loc), mM G A s.heap f1 H1 locs1 → mD G A h1 H1 → mAp f1 h1 → LI G f1 h1 ox om → W p l e room_1 s m args below meth c H1 locs1 (cells + 640) (slots + 2000) Q (F0 m 1056 ls [])) : W p l e room_1 s m args below meth c Hp lcs cells slots Q (F0 m 542 ls []) := by
  obtain ⟨S0, P0, rc0, ⟨T, q0, ra, rd, sp, rr, sb, hC⟩, ⟨a, lo, hi9, ou, ir, wt, us, ab, gi, wr, hI⟩, -⟩ := id hLI
  refine lv_aload_n hx hb dL_law_542 rfl (lv_at hl 2 rfl) ?_
  refine lv_aload_n hx hb dL_law_543 rfl (lv_at hl 3 rfl) ?_
  refine lv_iload_n hx hb dL_law_544 rfl (lv_at hl 0 rfl) ?_
  refine lv_iconst (v := nI 1) hx hb dL_law_545 (by decide +kernel) ?_
  refine ln_iadd i 1 hx hb dL_law_546 ?_
  refine va_sld hx hb hX hbl hbA hM.2 (vp_in_nI (by omega) (by omega)) dL_law_547 ?_
  obtain ⟨V, S1, P1, rc1, hc5, hc6⟩ := b_uses l G hLI (xs (nI (i + 1)).toNatClampNeg)
  refine mm_V2 (As := [.int (xs (nI (i + 1)).toNatClampNeg)]) (rest := []) ⟨hx, hb, hml, hown, hts⟩ hc5 (cwV 1 hts gL_law_X5_uses rfl rfl rfl (by decide +kernel) ⟨Nat.le_of_ble_eq_true rfl, Nat.le_of_ble_eq_true rfl⟩) hK hE hA hM hh hap (mm_recv hK hM hC.1 (q := (RX5, TX5, 7)) rfl) rfl hl.1 rfl (Nat.le_of_ble_eq_true rfl) dL_law_548 ⟨by show cells + 0 ≤ 600000; omega, by show slots + 0 ≤ 7302250; omega⟩ (fun v f1 Hp lcs hp hM hh hap => ?_)
  obtain ⟨rfl, hC1, hv1, hP1⟩ := hp
  refine lv_aload_n hx hb dL_law_551 rfl (lv_at hl 1 rfl) ?_
  refine lv_aload_n hx hb dL_law_552 rfl (lv_at hl 3 rfl) ?_
  refine lv_iload_n hx hb dL_law_553 rfl (lv_at hl 0 rfl) ?_
  refine lv_iconst (v := nI 1) hx hb dL_law_554 (by decide +kernel) ?_
  refine ln_iadd i 1 hx hb dL_law_555 ?_
  refine va_sld hx hb hX hbl hbA hM.2 (vp_in_nI (by omega) (by omega)) dL_law_556 ?_
  refine mm_V2 (As := [.int (xs (nI (i + 1)).toNatClampNeg)]) (rest := [.int V]) ⟨hx, hb, hml, hown, hts⟩ hc6 (cwV 1 hts gL_law_X6_uses rfl rfl rfl (by decide +kernel) ⟨Nat.le_of_ble_eq_true rfl, Nat.le_of_ble_eq_true rfl⟩) hK hE hA (show mM G A s.heap h Hp lcs from ⟨hh, hM.2⟩) hM.1 hap.symm (mm_recv hK (show mM G A s.heap h Hp lcs from ⟨hh, hM.2⟩) hI.obj (q := (RX6, TX6, 14)) rfl) rfl hl.1 rfl (Nat.le_of_ble_eq_true rfl) dL_law_557 ⟨by show cells + 0 + 0 ≤ 600000; omega, by show slots + 0 + 0 ≤ 7302250; omega⟩ (fun v h1 Hp lcs hp hM hh hap => ?_)
  obtain ⟨rfl, hR1⟩ := hp
  refine lv_icmp_eq (tgt := 1056) hx hb dL_law_560 (by decide) (fun _ => ?_) (fun hq9 => absurd rfl hq9)
  exact W.widen (k := cells + 640) (n := slots + 2000) (by omega) (by omega) (kk f1 h1 _ _ ⟨hh, hM.2⟩ hM.1 hap.symm ⟨S1, P1, rc1, hC1, hR1, hv1, hP1⟩)
set_option maxHeartbeats 4000000 in
set_option maxRecDepth 100000 in
theorem law_c17 {p : Program} {l : Launch} {e : Env} {s : State} {m : MethodId} {args : Array Value} {below : List Frame} {meth : Method} {c : Code} {G : mG} {A : Nat → Prop} {Q : State → Prop} {b L : Nat} {xs : Nat → Int32} (hx : p.tables.exec = Jvm.exec) (hb : c.code = cL_law) (hml : c.maxLocals = 4) (hown : s.vm.findClass RL = some m.cls) (hts : ∀ w ∈ wsL_law, w.before args s = true) (hK : va_K G.1 vwCl (mT G) s) (hE : mS G A s s.heap) (hA : ∀ q, s.heap.size ≤ q → A q) (hX : va_X b L xs s s.heap) (hbl : b < s.heap.size) (hbA : ¬ A b) (hL : L ≤ 2048) {f h : mE} {ox om i cells slots : Nat} {Hp : Heap} {lcs : List Loc} {ls : Array Slot} (hM : mM G A s.heap f Hp lcs) (hh : mD G A h Hp) (hap : mAp f h) (hLI : LI G f h ox om) (hi : i + 4 ≤ L) (hl : lv_has ls 4 [(3, .int (nI i)), (2, .ref om), (1, .ref ox), (0, .ref b)]) (hr1 : cells + 640 ≤ 600000) (hr2 : slots + 2000 ≤ 7302250)
    (kk : ∀ (f1 h1 : mE) (H1 : Heap) (locs1 : List Loc), mM G A s.heap f1 H1 locs1 → mD G A h1 H1 → mAp f1 h1 → LI G f1 h1 ox om → W p l e room_1 s m args below meth c H1 locs1 (cells + 640) (slots + 2000) Q (F0 m 1056 ls [])) : W p l e room_1 s m args below meth c Hp lcs cells slots Q (F0 m 565 ls []) := by
  obtain ⟨S0, P0, rc0, ⟨T, q0, ra, rd, sp, rr, sb, hC⟩, ⟨a, lo, hi9, ou, ir, wt, us, ab, gi, wr, hI⟩, -⟩ := id hLI
  refine lv_aload_n hx hb dL_law_565 rfl (lv_at hl 2 rfl) ?_
  refine lv_aload_n hx hb dL_law_566 rfl (lv_at hl 3 rfl) ?_
  refine lv_iload_n hx hb dL_law_567 rfl (lv_at hl 0 rfl) ?_
  refine lv_iconst (v := nI 1) hx hb dL_law_568 (by decide +kernel) ?_
  refine ln_iadd i 1 hx hb dL_law_569 ?_
  refine va_sld hx hb hX hbl hbA hM.2 (vp_in_nI (by omega) (by omega)) dL_law_570 ?_
  obtain ⟨V, S1, P1, rc1, hc5, hc6⟩ := b_fact l G hLI (xs (nI (i + 1)).toNatClampNeg)
  refine mm_V2 (As := [.int (xs (nI (i + 1)).toNatClampNeg)]) (rest := []) ⟨hx, hb, hml, hown, hts⟩ hc5 (cwV 1 hts gL_law_X5_fact rfl rfl rfl (by decide +kernel) ⟨Nat.le_of_ble_eq_true rfl, Nat.le_of_ble_eq_true rfl⟩) hK hE hA hM hh hap (mm_recv hK hM hC.1 (q := (RX5, TX5, 7)) rfl) rfl hl.1 rfl (Nat.le_of_ble_eq_true rfl) dL_law_571 ⟨by show cells + 0 ≤ 600000; omega, by show slots + 0 ≤ 7302250; omega⟩ (fun v f1 Hp lcs hp hM hh hap => ?_)
  obtain ⟨rfl, hC1, hv1, hP1⟩ := hp
  refine lv_aload_n hx hb dL_law_574 rfl (lv_at hl 1 rfl) ?_
  refine lv_aload_n hx hb dL_law_575 rfl (lv_at hl 3 rfl) ?_
  refine lv_iload_n hx hb dL_law_576 rfl (lv_at hl 0 rfl) ?_
  refine lv_iconst (v := nI 1) hx hb dL_law_577 (by decide +kernel) ?_
  refine ln_iadd i 1 hx hb dL_law_578 ?_
  refine va_sld hx hb hX hbl hbA hM.2 (vp_in_nI (by omega) (by omega)) dL_law_579 ?_
  refine mm_V2 (As := [.int (xs (nI (i + 1)).toNatClampNeg)]) (rest := [.int V]) ⟨hx, hb, hml, hown, hts⟩ hc6 (cwV 1 hts gL_law_X6_fact rfl rfl rfl (by decide +kernel) ⟨Nat.le_of_ble_eq_true rfl, Nat.le_of_ble_eq_true rfl⟩) hK hE hA (show mM G A s.heap h Hp lcs from ⟨hh, hM.2⟩) hM.1 hap.symm (mm_recv hK (show mM G A s.heap h Hp lcs from ⟨hh, hM.2⟩) hI.obj (q := (RX6, TX6, 14)) rfl) rfl hl.1 rfl (Nat.le_of_ble_eq_true rfl) dL_law_580 ⟨by show cells + 0 + 0 ≤ 600000; omega, by show slots + 0 + 0 ≤ 7302250; omega⟩ (fun v h1 Hp lcs hp hM hh hap => ?_)
  obtain ⟨rfl, hR1⟩ := hp
  refine lv_icmp_eq (tgt := 1056) hx hb dL_law_583 (by decide) (fun _ => ?_) (fun hq9 => absurd rfl hq9)
  exact W.widen (k := cells + 640) (n := slots + 2000) (by omega) (by omega) (kk f1 h1 _ _ ⟨hh, hM.2⟩ hM.1 hap.symm ⟨S1, P1, rc1, hC1, hR1, hv1, hP1⟩)
set_option maxHeartbeats 4000000 in
set_option maxRecDepth 100000 in
theorem law_c18 {p : Program} {l : Launch} {e : Env} {s : State} {m : MethodId} {args : Array Value} {below : List Frame} {meth : Method} {c : Code} {G : mG} {A : Nat → Prop} {Q : State → Prop} {b L : Nat} {xs : Nat → Int32} (hx : p.tables.exec = Jvm.exec) (hb : c.code = cL_law) (hml : c.maxLocals = 4) (hown : s.vm.findClass RL = some m.cls) (hts : ∀ w ∈ wsL_law, w.before args s = true) (hK : va_K G.1 vwCl (mT G) s) (hE : mS G A s s.heap) (hA : ∀ q, s.heap.size ≤ q → A q) (hX : va_X b L xs s s.heap) (hbl : b < s.heap.size) (hbA : ¬ A b) (hL : L ≤ 2048) {f h : mE} {ox om i cells slots : Nat} {Hp : Heap} {lcs : List Loc} {ls : Array Slot} (hM : mM G A s.heap f Hp lcs) (hh : mD G A h Hp) (hap : mAp f h) (hLI : LI G f h ox om) (hi : i + 4 ≤ L) (hl : lv_has ls 4 [(3, .int (nI i)), (2, .ref om), (1, .ref ox), (0, .ref b)]) (hr1 : cells + 640 ≤ 600000) (hr2 : slots + 2000 ≤ 7302250)
    (kk : ∀ (f1 h1 : mE) (H1 : Heap) (locs1 : List Loc), mM G A s.heap f1 H1 locs1 → mD G A h1 H1 → mAp f1 h1 → LI G f1 h1 ox om → W p l e room_1 s m args below meth c H1 locs1 (cells + 640) (slots + 2000) Q (F0 m 1056 ls [])) : W p l e room_1 s m args below meth c Hp lcs cells slots Q (F0 m 588 ls []) := by
  obtain ⟨S0, P0, rc0, ⟨T, q0, ra, rd, sp, rr, sb, hC⟩, ⟨a, lo, hi9, ou, ir, wt, us, ab, gi, wr, hI⟩, -⟩ := id hLI
  refine lv_aload_n hx hb dL_law_588 rfl (lv_at hl 2 rfl) ?_
  refine lv_aload_n hx hb dL_law_589 rfl (lv_at hl 3 rfl) ?_
  refine lv_iload_n hx hb dL_law_590 rfl (lv_at hl 0 rfl) ?_
  refine lv_iconst (v := nI 1) hx hb dL_law_591 (by decide +kernel) ?_
  refine ln_iadd i 1 hx hb dL_law_592 ?_
  refine va_sld hx hb hX hbl hbA hM.2 (vp_in_nI (by omega) (by omega)) dL_law_593 ?_
  obtain ⟨V, S1, P1, rc1, hc5, hc6⟩ := b_definition l G hLI (xs (nI (i + 1)).toNatClampNeg)
  refine mm_V2 (As := [.int (xs (nI (i + 1)).toNatClampNeg)]) (rest := []) ⟨hx, hb, hml, hown, hts⟩ hc5 (cwV 1 hts gL_law_X5_definition rfl rfl rfl (by decide +kernel) ⟨Nat.le_of_ble_eq_true rfl, Nat.le_of_ble_eq_true rfl⟩) hK hE hA hM hh hap (mm_recv hK hM hC.1 (q := (RX5, TX5, 7)) rfl) rfl hl.1 rfl (Nat.le_of_ble_eq_true rfl) dL_law_594 ⟨by show cells + 0 ≤ 600000; omega, by show slots + 0 ≤ 7302250; omega⟩ (fun v f1 Hp lcs hp hM hh hap => ?_)
  obtain ⟨rfl, hC1, hv1, hP1⟩ := hp
  refine lv_aload_n hx hb dL_law_597 rfl (lv_at hl 1 rfl) ?_
  refine lv_aload_n hx hb dL_law_598 rfl (lv_at hl 3 rfl) ?_
  refine lv_iload_n hx hb dL_law_599 rfl (lv_at hl 0 rfl) ?_
  refine lv_iconst (v := nI 1) hx hb dL_law_600 (by decide +kernel) ?_
  refine ln_iadd i 1 hx hb dL_law_601 ?_
  refine va_sld hx hb hX hbl hbA hM.2 (vp_in_nI (by omega) (by omega)) dL_law_602 ?_
  refine mm_V2 (As := [.int (xs (nI (i + 1)).toNatClampNeg)]) (rest := [.int V]) ⟨hx, hb, hml, hown, hts⟩ hc6 (cwV 1 hts gL_law_X6_definition rfl rfl rfl (by decide +kernel) ⟨Nat.le_of_ble_eq_true rfl, Nat.le_of_ble_eq_true rfl⟩) hK hE hA (show mM G A s.heap h Hp lcs from ⟨hh, hM.2⟩) hM.1 hap.symm (mm_recv hK (show mM G A s.heap h Hp lcs from ⟨hh, hM.2⟩) hI.obj (q := (RX6, TX6, 14)) rfl) rfl hl.1 rfl (Nat.le_of_ble_eq_true rfl) dL_law_603 ⟨by show cells + 0 + 0 ≤ 600000; omega, by show slots + 0 + 0 ≤ 7302250; omega⟩ (fun v h1 Hp lcs hp hM hh hap => ?_)
  obtain ⟨rfl, hR1⟩ := hp
  refine lv_icmp_eq (tgt := 1056) hx hb dL_law_606 (by decide) (fun _ => ?_) (fun hq9 => absurd rfl hq9)
  exact W.widen (k := cells + 640) (n := slots + 2000) (by omega) (by omega) (kk f1 h1 _ _ ⟨hh, hM.2⟩ hM.1 hap.symm ⟨S1, P1, rc1, hC1, hR1, hv1, hP1⟩)
set_option maxHeartbeats 4000000 in
set_option maxRecDepth 100000 in
theorem law_c19 {p : Program} {l : Launch} {e : Env} {s : State} {m : MethodId} {args : Array Value} {below : List Frame} {meth : Method} {c : Code} {G : mG} {A : Nat → Prop} {Q : State → Prop} {b L : Nat} {xs : Nat → Int32} (hx : p.tables.exec = Jvm.exec) (hb : c.code = cL_law) (hml : c.maxLocals = 4) (hown : s.vm.findClass RL = some m.cls) (hts : ∀ w ∈ wsL_law, w.before args s = true) (hK : va_K G.1 vwCl (mT G) s) (hE : mS G A s s.heap) (hA : ∀ q, s.heap.size ≤ q → A q) (hX : va_X b L xs s s.heap) (hbl : b < s.heap.size) (hbA : ¬ A b) (hL : L ≤ 2048) {f h : mE} {ox om i cells slots : Nat} {Hp : Heap} {lcs : List Loc} {ls : Array Slot} (hM : mM G A s.heap f Hp lcs) (hh : mD G A h Hp) (hap : mAp f h) (hLI : LI G f h ox om) (hi : i + 4 ≤ L) (hl : lv_has ls 4 [(3, .int (nI i)), (2, .ref om), (1, .ref ox), (0, .ref b)]) (hr1 : cells + 640 ≤ 600000) (hr2 : slots + 2000 ≤ 7302250)
    (kk : ∀ (f1 h1 : mE) (H1 : Heap) (locs1 : List Loc), mM G A s.heap f1 H1 locs1 → mD G A h1 H1 → mAp f1 h1 → LI G f1 h1 ox om → W p l e room_1 s m args below meth c H1 locs1 (cells + 640) (slots + 2000) Q (F0 m 1056 ls [])) : W p l e room_1 s m args below meth c Hp lcs cells slots Q (F0 m 611 ls []) := by
  obtain ⟨S0, P0, rc0, ⟨T, q0, ra, rd, sp, rr, sb, hC⟩, ⟨a, lo, hi9, ou, ir, wt, us, ab, gi, wr, hI⟩, -⟩ := id hLI
  refine lv_aload_n hx hb dL_law_611 rfl (lv_at hl 2 rfl) ?_
  refine lv_aload_n hx hb dL_law_612 rfl (lv_at hl 3 rfl) ?_
  refine lv_iload_n hx hb dL_law_613 rfl (lv_at hl 0 rfl) ?_
  refine lv_iconst (v := nI 1) hx hb dL_law_614 (by decide +kernel) ?_
  refine ln_iadd i 1 hx hb dL_law_615 ?_
  refine va_sld hx hb hX hbl hbA hM.2 (vp_in_nI (by omega) (by omega)) dL_law_616 ?_
  obtain ⟨V, S1, P1, rc1, hc5, hc6⟩ := b_length l G hLI (xs (nI (i + 1)).toNatClampNeg)
  refine mm_V2 (As := [.int (xs (nI (i + 1)).toNatClampNeg)]) (rest := []) ⟨hx, hb, hml, hown, hts⟩ hc5 (cwV 1 hts gL_law_X5_length rfl rfl rfl (by decide +kernel) ⟨Nat.le_of_ble_eq_true rfl, Nat.le_of_ble_eq_true rfl⟩) hK hE hA hM hh hap (mm_recv hK hM hC.1 (q := (RX5, TX5, 7)) rfl) rfl hl.1 rfl (Nat.le_of_ble_eq_true rfl) dL_law_617 ⟨by show cells + 0 ≤ 600000; omega, by show slots + 0 ≤ 7302250; omega⟩ (fun v f1 Hp lcs hp hM hh hap => ?_)
  obtain ⟨rfl, hC1, hv1, hP1⟩ := hp
  refine lv_aload_n hx hb dL_law_620 rfl (lv_at hl 1 rfl) ?_
  refine lv_aload_n hx hb dL_law_621 rfl (lv_at hl 3 rfl) ?_
  refine lv_iload_n hx hb dL_law_622 rfl (lv_at hl 0 rfl) ?_
  refine lv_iconst (v := nI 1) hx hb dL_law_623 (by decide +kernel) ?_
  refine ln_iadd i 1 hx hb dL_law_624 ?_
  refine va_sld hx hb hX hbl hbA hM.2 (vp_in_nI (by omega) (by omega)) dL_law_625 ?_
  refine mm_V2 (As := [.int (xs (nI (i + 1)).toNatClampNeg)]) (rest := [.int V]) ⟨hx, hb, hml, hown, hts⟩ hc6 (cwV 1 hts gL_law_X6_length rfl rfl rfl (by decide +kernel) ⟨Nat.le_of_ble_eq_true rfl, Nat.le_of_ble_eq_true rfl⟩) hK hE hA (show mM G A s.heap h Hp lcs from ⟨hh, hM.2⟩) hM.1 hap.symm (mm_recv hK (show mM G A s.heap h Hp lcs from ⟨hh, hM.2⟩) hI.obj (q := (RX6, TX6, 14)) rfl) rfl hl.1 rfl (Nat.le_of_ble_eq_true rfl) dL_law_626 ⟨by show cells + 0 + 0 ≤ 600000; omega, by show slots + 0 + 0 ≤ 7302250; omega⟩ (fun v h1 Hp lcs hp hM hh hap => ?_)
  obtain ⟨rfl, hR1⟩ := hp
  refine lv_icmp_eq (tgt := 1056) hx hb dL_law_629 (by decide) (fun _ => ?_) (fun hq9 => absurd rfl hq9)
  exact W.widen (k := cells + 640) (n := slots + 2000) (by omega) (by omega) (kk f1 h1 _ _ ⟨hh, hM.2⟩ hM.1 hap.symm ⟨S1, P1, rc1, hC1, hR1, hv1, hP1⟩)
set_option maxHeartbeats 4000000 in
set_option maxRecDepth 100000 in
theorem law_c20 {p : Program} {l : Launch} {e : Env} {s : State} {m : MethodId} {args : Array Value} {below : List Frame} {meth : Method} {c : Code} {G : mG} {A : Nat → Prop} {Q : State → Prop} {b L : Nat} {xs : Nat → Int32} (hx : p.tables.exec = Jvm.exec) (hb : c.code = cL_law) (hml : c.maxLocals = 4) (hown : s.vm.findClass RL = some m.cls) (hts : ∀ w ∈ wsL_law, w.before args s = true) (hK : va_K G.1 vwCl (mT G) s) (hE : mS G A s s.heap) (hA : ∀ q, s.heap.size ≤ q → A q) (hX : va_X b L xs s s.heap) (hbl : b < s.heap.size) (hbA : ¬ A b) (hL : L ≤ 2048) {f h : mE} {ox om i cells slots : Nat} {Hp : Heap} {lcs : List Loc} {ls : Array Slot} (hM : mM G A s.heap f Hp lcs) (hh : mD G A h Hp) (hap : mAp f h) (hLI : LI G f h ox om) (hi : i + 4 ≤ L) (hl : lv_has ls 4 [(3, .int (nI i)), (2, .ref om), (1, .ref ox), (0, .ref b)]) (hr1 : cells + 640 ≤ 600000) (hr2 : slots + 2000 ≤ 7302250)
    (kk : ∀ (f1 h1 : mE) (H1 : Heap) (locs1 : List Loc), mM G A s.heap f1 H1 locs1 → mD G A h1 H1 → mAp f1 h1 → LI G f1 h1 ox om → W p l e room_1 s m args below meth c H1 locs1 (cells + 640) (slots + 2000) Q (F0 m 1056 ls [])) : W p l e room_1 s m args below meth c Hp lcs cells slots Q (F0 m 634 ls []) := by
  obtain ⟨S0, P0, rc0, ⟨T, q0, ra, rd, sp, rr, sb, hC⟩, ⟨a, lo, hi9, ou, ir, wt, us, ab, gi, wr, hI⟩, -⟩ := id hLI
  refine lv_aload_n hx hb dL_law_634 rfl (lv_at hl 2 rfl) ?_
  refine lv_aload_n hx hb dL_law_635 rfl (lv_at hl 3 rfl) ?_
  refine lv_iload_n hx hb dL_law_636 rfl (lv_at hl 0 rfl) ?_
  refine lv_iconst (v := nI 1) hx hb dL_law_637 (by decide +kernel) ?_
  refine ln_iadd i 1 hx hb dL_law_638 ?_
  refine va_sld hx hb hX hbl hbA hM.2 (vp_in_nI (by omega) (by omega)) dL_law_639 ?_
  refine lv_aload_n hx hb dL_law_640 rfl (lv_at hl 3 rfl) ?_
  refine lv_iload_n hx hb dL_law_641 rfl (lv_at hl 0 rfl) ?_
  refine lv_iconst (v := nI 2) hx hb dL_law_642 (by decide +kernel) ?_
  refine ln_iadd i 2 hx hb dL_law_643 ?_
  refine va_sld hx hb hX hbl hbA hM.2 (vp_in_nI (by omega) (by omega)) dL_law_644 ?_
  obtain ⟨V, S1, P1, rc1, hc5, hc6⟩ := b_character l G hLI (xs (nI (i + 1)).toNatClampNeg) (xs (nI (i + 2)).toNatClampNeg)
  refine mm_V2 (As := [.int (xs (nI (i + 1)).toNatClampNeg), .int (xs (nI (i + 2)).toNatClampNeg)]) (rest := []) ⟨hx, hb, hml, hown, hts⟩ hc5 (cwV 2 hts gL_law_X5_character rfl rfl rfl (by decide +kernel) ⟨Nat.le_of_ble_eq_true rfl, Nat.le_of_ble_eq_true rfl⟩) hK hE hA hM hh hap (mm_recv hK hM hC.1 (q := (RX5, TX5, 7)) rfl) rfl hl.1 rfl (Nat.le_of_ble_eq_true rfl) dL_law_645 ⟨by show cells + 0 ≤ 600000; omega, by show slots + 0 ≤ 7302250; omega⟩ (fun v f1 Hp lcs hp hM hh hap => ?_)
  obtain ⟨rfl, hC1, hv1, hP1⟩ := hp
  refine lv_aload_n hx hb dL_law_648 rfl (lv_at hl 1 rfl) ?_
  refine lv_aload_n hx hb dL_law_649 rfl (lv_at hl 3 rfl) ?_
  refine lv_iload_n hx hb dL_law_650 rfl (lv_at hl 0 rfl) ?_
  refine lv_iconst (v := nI 1) hx hb dL_law_651 (by decide +kernel) ?_
  refine ln_iadd i 1 hx hb dL_law_652 ?_
  refine va_sld hx hb hX hbl hbA hM.2 (vp_in_nI (by omega) (by omega)) dL_law_653 ?_
  refine lv_aload_n hx hb dL_law_654 rfl (lv_at hl 3 rfl) ?_
  refine lv_iload_n hx hb dL_law_655 rfl (lv_at hl 0 rfl) ?_
  refine lv_iconst (v := nI 2) hx hb dL_law_656 (by decide +kernel) ?_
  refine ln_iadd i 2 hx hb dL_law_657 ?_
  refine va_sld hx hb hX hbl hbA hM.2 (vp_in_nI (by omega) (by omega)) dL_law_658 ?_
  refine mm_V2 (As := [.int (xs (nI (i + 1)).toNatClampNeg), .int (xs (nI (i + 2)).toNatClampNeg)]) (rest := [.int V]) ⟨hx, hb, hml, hown, hts⟩ hc6 (cwV 2 hts gL_law_X6_character rfl rfl rfl (by decide +kernel) ⟨Nat.le_of_ble_eq_true rfl, Nat.le_of_ble_eq_true rfl⟩) hK hE hA (show mM G A s.heap h Hp lcs from ⟨hh, hM.2⟩) hM.1 hap.symm (mm_recv hK (show mM G A s.heap h Hp lcs from ⟨hh, hM.2⟩) hI.obj (q := (RX6, TX6, 14)) rfl) rfl hl.1 rfl (Nat.le_of_ble_eq_true rfl) dL_law_659 ⟨by show cells + 0 + 0 ≤ 600000; omega, by show slots + 0 + 0 ≤ 7302250; omega⟩ (fun v h1 Hp lcs hp hM hh hap => ?_)
  obtain ⟨rfl, hR1⟩ := hp
  refine lv_icmp_eq (tgt := 1056) hx hb dL_law_662 (by decide) (fun _ => ?_) (fun hq9 => absurd rfl hq9)
  exact W.widen (k := cells + 640) (n := slots + 2000) (by omega) (by omega) (kk f1 h1 _ _ ⟨hh, hM.2⟩ hM.1 hap.symm ⟨S1, P1, rc1, hC1, hR1, hv1, hP1⟩)
set_option maxHeartbeats 4000000 in
set_option maxRecDepth 100000 in
theorem law_c21 {p : Program} {l : Launch} {e : Env} {s : State} {m : MethodId} {args : Array Value} {below : List Frame} {meth : Method} {c : Code} {G : mG} {A : Nat → Prop} {Q : State → Prop} {b L : Nat} {xs : Nat → Int32} (hx : p.tables.exec = Jvm.exec) (hb : c.code = cL_law) (hml : c.maxLocals = 4) (hown : s.vm.findClass RL = some m.cls) (hts : ∀ w ∈ wsL_law, w.before args s = true) (hK : va_K G.1 vwCl (mT G) s) (hE : mS G A s s.heap) (hA : ∀ q, s.heap.size ≤ q → A q) (hX : va_X b L xs s s.heap) (hbl : b < s.heap.size) (hbA : ¬ A b) (hL : L ≤ 2048) {f h : mE} {ox om i cells slots : Nat} {Hp : Heap} {lcs : List Loc} {ls : Array Slot} (hM : mM G A s.heap f Hp lcs) (hh : mD G A h Hp) (hap : mAp f h) (hLI : LI G f h ox om) (hi : i + 4 ≤ L) (hl : lv_has ls 4 [(3, .int (nI i)), (2, .ref om), (1, .ref ox), (0, .ref b)]) (hr1 : cells + 640 ≤ 600000) (hr2 : slots + 2000 ≤ 7302250)
    (kk : ∀ (f1 h1 : mE) (H1 : Heap) (locs1 : List Loc), mM G A s.heap f1 H1 locs1 → mD G A h1 H1 → mAp f1 h1 → LI G f1 h1 ox om → W p l e room_1 s m args below meth c H1 locs1 (cells + 640) (slots + 2000) Q (F0 m 1056 ls [])) : W p l e room_1 s m args below meth c Hp lcs cells slots Q (F0 m 667 ls []) := by
  obtain ⟨S0, P0, rc0, ⟨T, q0, ra, rd, sp, rr, sb, hC⟩, ⟨a, lo, hi9, ou, ir, wt, us, ab, gi, wr, hI⟩, -⟩ := id hLI
  refine lv_aload_n hx hb dL_law_667 rfl (lv_at hl 2 rfl) ?_
  refine lv_aload_n hx hb dL_law_668 rfl (lv_at hl 3 rfl) ?_
  refine lv_iload_n hx hb dL_law_669 rfl (lv_at hl 0 rfl) ?_
  refine lv_iconst (v := nI 1) hx hb dL_law_670 (by decide +kernel) ?_
  refine ln_iadd i 1 hx hb dL_law_671 ?_
  refine va_sld hx hb hX hbl hbA hM.2 (vp_in_nI (by omega) (by omega)) dL_law_672 ?_
  refine lv_aload_n hx hb dL_law_673 rfl (lv_at hl 3 rfl) ?_
  refine lv_iload_n hx hb dL_law_674 rfl (lv_at hl 0 rfl) ?_
  refine lv_iconst (v := nI 2) hx hb dL_law_675 (by decide +kernel) ?_
  refine ln_iadd i 2 hx hb dL_law_676 ?_
  refine va_sld hx hb hX hbl hbA hM.2 (vp_in_nI (by omega) (by omega)) dL_law_677 ?_
  refine lv_aload_n hx hb dL_law_678 rfl (lv_at hl 3 rfl) ?_
  refine lv_iload_n hx hb dL_law_679 rfl (lv_at hl 0 rfl) ?_
  refine lv_iconst (v := nI 3) hx hb dL_law_680 (by decide +kernel) ?_
  refine ln_iadd i 3 hx hb dL_law_681 ?_
  refine va_sld hx hb hX hbl hbA hM.2 (vp_in_nI (by omega) (by omega)) dL_law_682 ?_
  obtain ⟨V, S1, P1, rc1, hc5, hc6⟩ := b_dayNumber l G hLI (xs (nI (i + 1)).toNatClampNeg) (xs (nI (i + 2)).toNatClampNeg) (xs (nI (i + 3)).toNatClampNeg)
  refine mm_V2 (As := [.int (xs (nI (i + 1)).toNatClampNeg), .int (xs (nI (i + 2)).toNatClampNeg), .int (xs (nI (i + 3)).toNatClampNeg)]) (rest := []) ⟨hx, hb, hml, hown, hts⟩ hc5 (cwV 3 hts gL_law_X5_dayNumber rfl rfl rfl (by decide +kernel) ⟨Nat.le_of_ble_eq_true rfl, Nat.le_of_ble_eq_true rfl⟩) hK hE hA hM hh hap (mm_recv hK hM hC.1 (q := (RX5, TX5, 7)) rfl) rfl hl.1 rfl (Nat.le_of_ble_eq_true rfl) dL_law_683 ⟨by show cells + 0 ≤ 600000; omega, by show slots + 0 ≤ 7302250; omega⟩ (fun v f1 Hp lcs hp hM hh hap => ?_)
  obtain ⟨rfl, hC1, hv1, hP1⟩ := hp
  refine lv_aload_n hx hb dL_law_686 rfl (lv_at hl 1 rfl) ?_
  refine lv_aload_n hx hb dL_law_687 rfl (lv_at hl 3 rfl) ?_
  refine lv_iload_n hx hb dL_law_688 rfl (lv_at hl 0 rfl) ?_
  refine lv_iconst (v := nI 1) hx hb dL_law_689 (by decide +kernel) ?_
  refine ln_iadd i 1 hx hb dL_law_690 ?_
  refine va_sld hx hb hX hbl hbA hM.2 (vp_in_nI (by omega) (by omega)) dL_law_691 ?_
  refine lv_aload_n hx hb dL_law_692 rfl (lv_at hl 3 rfl) ?_
  refine lv_iload_n hx hb dL_law_693 rfl (lv_at hl 0 rfl) ?_
  refine lv_iconst (v := nI 2) hx hb dL_law_694 (by decide +kernel) ?_
  refine ln_iadd i 2 hx hb dL_law_695 ?_
  refine va_sld hx hb hX hbl hbA hM.2 (vp_in_nI (by omega) (by omega)) dL_law_696 ?_
  refine lv_aload_n hx hb dL_law_697 rfl (lv_at hl 3 rfl) ?_
  refine lv_iload_n hx hb dL_law_698 rfl (lv_at hl 0 rfl) ?_
  refine lv_iconst (v := nI 3) hx hb dL_law_699 (by decide +kernel) ?_
  refine ln_iadd i 3 hx hb dL_law_700 ?_
  refine va_sld hx hb hX hbl hbA hM.2 (vp_in_nI (by omega) (by omega)) dL_law_701 ?_
  refine mm_V2 (As := [.int (xs (nI (i + 1)).toNatClampNeg), .int (xs (nI (i + 2)).toNatClampNeg), .int (xs (nI (i + 3)).toNatClampNeg)]) (rest := [.int V]) ⟨hx, hb, hml, hown, hts⟩ hc6 (cwV 3 hts gL_law_X6_dayNumber rfl rfl rfl (by decide +kernel) ⟨Nat.le_of_ble_eq_true rfl, Nat.le_of_ble_eq_true rfl⟩) hK hE hA (show mM G A s.heap h Hp lcs from ⟨hh, hM.2⟩) hM.1 hap.symm (mm_recv hK (show mM G A s.heap h Hp lcs from ⟨hh, hM.2⟩) hI.obj (q := (RX6, TX6, 14)) rfl) rfl hl.1 rfl (Nat.le_of_ble_eq_true rfl) dL_law_702 ⟨by show cells + 0 + 0 ≤ 600000; omega, by show slots + 0 + 0 ≤ 7302250; omega⟩ (fun v h1 Hp lcs hp hM hh hap => ?_)
  obtain ⟨rfl, hR1⟩ := hp
  refine lv_icmp_eq (tgt := 1056) hx hb dL_law_705 (by decide) (fun _ => ?_) (fun hq9 => absurd rfl hq9)
  exact W.widen (k := cells + 640) (n := slots + 2000) (by omega) (by omega) (kk f1 h1 _ _ ⟨hh, hM.2⟩ hM.1 hap.symm ⟨S1, P1, rc1, hC1, hR1, hv1, hP1⟩)
set_option maxHeartbeats 4000000 in
set_option maxRecDepth 100000 in
theorem law_c22 {p : Program} {l : Launch} {e : Env} {s : State} {m : MethodId} {args : Array Value} {below : List Frame} {meth : Method} {c : Code} {G : mG} {A : Nat → Prop} {Q : State → Prop} {b L : Nat} {xs : Nat → Int32} (hx : p.tables.exec = Jvm.exec) (hb : c.code = cL_law) (hml : c.maxLocals = 4) (hown : s.vm.findClass RL = some m.cls) (hts : ∀ w ∈ wsL_law, w.before args s = true) (hK : va_K G.1 vwCl (mT G) s) (hE : mS G A s s.heap) (hA : ∀ q, s.heap.size ≤ q → A q) (hX : va_X b L xs s s.heap) (hbl : b < s.heap.size) (hbA : ¬ A b) (hL : L ≤ 2048) {f h : mE} {ox om i cells slots : Nat} {Hp : Heap} {lcs : List Loc} {ls : Array Slot} (hM : mM G A s.heap f Hp lcs) (hh : mD G A h Hp) (hap : mAp f h) (hLI : LI G f h ox om) (hi : i + 4 ≤ L) (hl : lv_has ls 4 [(3, .int (nI i)), (2, .ref om), (1, .ref ox), (0, .ref b)]) (hr1 : cells + 640 ≤ 600000) (hr2 : slots + 2000 ≤ 7302250)
    (kk : ∀ (f1 h1 : mE) (H1 : Heap) (locs1 : List Loc), mM G A s.heap f1 H1 locs1 → mD G A h1 H1 → mAp f1 h1 → LI G f1 h1 ox om → W p l e room_1 s m args below meth c H1 locs1 (cells + 640) (slots + 2000) Q (F0 m 1056 ls [])) : W p l e room_1 s m args below meth c Hp lcs cells slots Q (F0 m 710 ls []) := by
  obtain ⟨S0, P0, rc0, ⟨T, q0, ra, rd, sp, rr, sb, hC⟩, ⟨a, lo, hi9, ou, ir, wt, us, ab, gi, wr, hI⟩, -⟩ := id hLI
  refine lv_aload_n hx hb dL_law_710 rfl (lv_at hl 2 rfl) ?_
  refine lv_aload_n hx hb dL_law_711 rfl (lv_at hl 3 rfl) ?_
  refine lv_iload_n hx hb dL_law_712 rfl (lv_at hl 0 rfl) ?_
  refine lv_iconst (v := nI 1) hx hb dL_law_713 (by decide +kernel) ?_
  refine ln_iadd i 1 hx hb dL_law_714 ?_
  refine va_sld hx hb hX hbl hbA hM.2 (vp_in_nI (by omega) (by omega)) dL_law_715 ?_
  obtain ⟨V, S1, P1, rc1, hc5, hc6⟩ := b_dateOf l G hLI (xs (nI (i + 1)).toNatClampNeg)
  refine mm_V2 (As := [.int (xs (nI (i + 1)).toNatClampNeg)]) (rest := []) ⟨hx, hb, hml, hown, hts⟩ hc5 (cwV 1 hts gL_law_X5_dateOf rfl rfl rfl (by decide +kernel) ⟨Nat.le_of_ble_eq_true rfl, Nat.le_of_ble_eq_true rfl⟩) hK hE hA hM hh hap (mm_recv hK hM hC.1 (q := (RX5, TX5, 7)) rfl) rfl hl.1 rfl (Nat.le_of_ble_eq_true rfl) dL_law_716 ⟨by show cells + 0 ≤ 600000; omega, by show slots + 0 ≤ 7302250; omega⟩ (fun v f1 Hp lcs hp hM hh hap => ?_)
  obtain ⟨rfl, hC1, hv1, hP1⟩ := hp
  refine lv_aload_n hx hb dL_law_719 rfl (lv_at hl 1 rfl) ?_
  refine lv_aload_n hx hb dL_law_720 rfl (lv_at hl 3 rfl) ?_
  refine lv_iload_n hx hb dL_law_721 rfl (lv_at hl 0 rfl) ?_
  refine lv_iconst (v := nI 1) hx hb dL_law_722 (by decide +kernel) ?_
  refine ln_iadd i 1 hx hb dL_law_723 ?_
  refine va_sld hx hb hX hbl hbA hM.2 (vp_in_nI (by omega) (by omega)) dL_law_724 ?_
  refine mm_V2 (As := [.int (xs (nI (i + 1)).toNatClampNeg)]) (rest := [.int V]) ⟨hx, hb, hml, hown, hts⟩ hc6 (cwV 1 hts gL_law_X6_dateOf rfl rfl rfl (by decide +kernel) ⟨Nat.le_of_ble_eq_true rfl, Nat.le_of_ble_eq_true rfl⟩) hK hE hA (show mM G A s.heap h Hp lcs from ⟨hh, hM.2⟩) hM.1 hap.symm (mm_recv hK (show mM G A s.heap h Hp lcs from ⟨hh, hM.2⟩) hI.obj (q := (RX6, TX6, 14)) rfl) rfl hl.1 rfl (Nat.le_of_ble_eq_true rfl) dL_law_725 ⟨by show cells + 0 + 0 ≤ 600000; omega, by show slots + 0 + 0 ≤ 7302250; omega⟩ (fun v h1 Hp lcs hp hM hh hap => ?_)
  obtain ⟨rfl, hR1⟩ := hp
  refine lv_icmp_eq (tgt := 1056) hx hb dL_law_728 (by decide) (fun _ => ?_) (fun hq9 => absurd rfl hq9)
  exact W.widen (k := cells + 640) (n := slots + 2000) (by omega) (by omega) (kk f1 h1 _ _ ⟨hh, hM.2⟩ hM.1 hap.symm ⟨S1, P1, rc1, hC1, hR1, hv1, hP1⟩)
set_option maxHeartbeats 4000000 in
set_option maxRecDepth 100000 in
theorem law_c23 {p : Program} {l : Launch} {e : Env} {s : State} {m : MethodId} {args : Array Value} {below : List Frame} {meth : Method} {c : Code} {G : mG} {A : Nat → Prop} {Q : State → Prop} {b L : Nat} {xs : Nat → Int32} (hx : p.tables.exec = Jvm.exec) (hb : c.code = cL_law) (hml : c.maxLocals = 4) (hown : s.vm.findClass RL = some m.cls) (hts : ∀ w ∈ wsL_law, w.before args s = true) (hK : va_K G.1 vwCl (mT G) s) (hE : mS G A s s.heap) (hA : ∀ q, s.heap.size ≤ q → A q) (hX : va_X b L xs s s.heap) (hbl : b < s.heap.size) (hbA : ¬ A b) (hL : L ≤ 2048) {f h : mE} {ox om i cells slots : Nat} {Hp : Heap} {lcs : List Loc} {ls : Array Slot} (hM : mM G A s.heap f Hp lcs) (hh : mD G A h Hp) (hap : mAp f h) (hLI : LI G f h ox om) (hi : i + 4 ≤ L) (hl : lv_has ls 4 [(3, .int (nI i)), (2, .ref om), (1, .ref ox), (0, .ref b)]) (hr1 : cells + 640 ≤ 600000) (hr2 : slots + 2000 ≤ 7302250)
    (kk : ∀ (f1 h1 : mE) (H1 : Heap) (locs1 : List Loc), mM G A s.heap f1 H1 locs1 → mD G A h1 H1 → mAp f1 h1 → LI G f1 h1 ox om → W p l e room_1 s m args below meth c H1 locs1 (cells + 640) (slots + 2000) Q (F0 m 1056 ls [])) : W p l e room_1 s m args below meth c Hp lcs cells slots Q (F0 m 733 ls []) := by
  obtain ⟨S0, P0, rc0, ⟨T, q0, ra, rd, sp, rr, sb, hC⟩, ⟨a, lo, hi9, ou, ir, wt, us, ab, gi, wr, hI⟩, -⟩ := id hLI
  refine lv_aload_n hx hb dL_law_733 rfl (lv_at hl 2 rfl) ?_
  refine lv_aload_n hx hb dL_law_734 rfl (lv_at hl 3 rfl) ?_
  refine lv_iload_n hx hb dL_law_735 rfl (lv_at hl 0 rfl) ?_
  refine lv_iconst (v := nI 1) hx hb dL_law_736 (by decide +kernel) ?_
  refine ln_iadd i 1 hx hb dL_law_737 ?_
  refine va_sld hx hb hX hbl hbA hM.2 (vp_in_nI (by omega) (by omega)) dL_law_738 ?_
  obtain ⟨V, S1, P1, rc1, hc5, hc6⟩ := b_answer l G hLI (xs (nI (i + 1)).toNatClampNeg)
  refine mm_V2 (As := [.int (xs (nI (i + 1)).toNatClampNeg)]) (rest := []) ⟨hx, hb, hml, hown, hts⟩ hc5 (cwV 1 hts gL_law_X5_answer rfl rfl rfl (by decide +kernel) ⟨Nat.le_of_ble_eq_true rfl, Nat.le_of_ble_eq_true rfl⟩) hK hE hA hM hh hap (mm_recv hK hM hC.1 (q := (RX5, TX5, 7)) rfl) rfl hl.1 rfl (Nat.le_of_ble_eq_true rfl) dL_law_739 ⟨by show cells + 0 ≤ 600000; omega, by show slots + 0 ≤ 7302250; omega⟩ (fun v f1 Hp lcs hp hM hh hap => ?_)
  obtain ⟨rfl, hC1, hv1, hP1⟩ := hp
  refine lv_aload_n hx hb dL_law_742 rfl (lv_at hl 1 rfl) ?_
  refine lv_aload_n hx hb dL_law_743 rfl (lv_at hl 3 rfl) ?_
  refine lv_iload_n hx hb dL_law_744 rfl (lv_at hl 0 rfl) ?_
  refine lv_iconst (v := nI 1) hx hb dL_law_745 (by decide +kernel) ?_
  refine ln_iadd i 1 hx hb dL_law_746 ?_
  refine va_sld hx hb hX hbl hbA hM.2 (vp_in_nI (by omega) (by omega)) dL_law_747 ?_
  refine mm_V2 (As := [.int (xs (nI (i + 1)).toNatClampNeg)]) (rest := [.int V]) ⟨hx, hb, hml, hown, hts⟩ hc6 (cwV 1 hts gL_law_X6_answer rfl rfl rfl (by decide +kernel) ⟨Nat.le_of_ble_eq_true rfl, Nat.le_of_ble_eq_true rfl⟩) hK hE hA (show mM G A s.heap h Hp lcs from ⟨hh, hM.2⟩) hM.1 hap.symm (mm_recv hK (show mM G A s.heap h Hp lcs from ⟨hh, hM.2⟩) hI.obj (q := (RX6, TX6, 14)) rfl) rfl hl.1 rfl (Nat.le_of_ble_eq_true rfl) dL_law_748 ⟨by show cells + 0 + 0 ≤ 600000; omega, by show slots + 0 + 0 ≤ 7302250; omega⟩ (fun v h1 Hp lcs hp hM hh hap => ?_)
  obtain ⟨rfl, hR1⟩ := hp
  refine lv_icmp_eq (tgt := 1056) hx hb dL_law_751 (by decide) (fun _ => ?_) (fun hq9 => absurd rfl hq9)
  exact W.widen (k := cells + 640) (n := slots + 2000) (by omega) (by omega) (kk f1 h1 _ _ ⟨hh, hM.2⟩ hM.1 hap.symm ⟨S1, P1, rc1, hC1, hR1, hv1, hP1⟩)
set_option maxHeartbeats 4000000 in
set_option maxRecDepth 100000 in
theorem law_c24 {p : Program} {l : Launch} {e : Env} {s : State} {m : MethodId} {args : Array Value} {below : List Frame} {meth : Method} {c : Code} {G : mG} {A : Nat → Prop} {Q : State → Prop} {b L : Nat} {xs : Nat → Int32} (hx : p.tables.exec = Jvm.exec) (hb : c.code = cL_law) (hml : c.maxLocals = 4) (hown : s.vm.findClass RL = some m.cls) (hts : ∀ w ∈ wsL_law, w.before args s = true) (hK : va_K G.1 vwCl (mT G) s) (hE : mS G A s s.heap) (hA : ∀ q, s.heap.size ≤ q → A q) (hX : va_X b L xs s s.heap) (hbl : b < s.heap.size) (hbA : ¬ A b) (hL : L ≤ 2048) {f h : mE} {ox om i cells slots : Nat} {Hp : Heap} {lcs : List Loc} {ls : Array Slot} (hM : mM G A s.heap f Hp lcs) (hh : mD G A h Hp) (hap : mAp f h) (hLI : LI G f h ox om) (hi : i + 4 ≤ L) (hl : lv_has ls 4 [(3, .int (nI i)), (2, .ref om), (1, .ref ox), (0, .ref b)]) (hr1 : cells + 640 ≤ 600000) (hr2 : slots + 2000 ≤ 7302250)
    (kk : ∀ (f1 h1 : mE) (H1 : Heap) (locs1 : List Loc), mM G A s.heap f1 H1 locs1 → mD G A h1 H1 → mAp f1 h1 → LI G f1 h1 ox om → W p l e room_1 s m args below meth c H1 locs1 (cells + 640) (slots + 2000) Q (F0 m 1056 ls [])) : W p l e room_1 s m args below meth c Hp lcs cells slots Q (F0 m 756 ls []) := by
  obtain ⟨S0, P0, rc0, ⟨T, q0, ra, rd, sp, rr, sb, hC⟩, ⟨a, lo, hi9, ou, ir, wt, us, ab, gi, wr, hI⟩, -⟩ := id hLI
  refine lv_aload_n hx hb dL_law_756 rfl (lv_at hl 2 rfl) ?_
  refine lv_aload_n hx hb dL_law_757 rfl (lv_at hl 3 rfl) ?_
  refine lv_iload_n hx hb dL_law_758 rfl (lv_at hl 0 rfl) ?_
  refine lv_iconst (v := nI 1) hx hb dL_law_759 (by decide +kernel) ?_
  refine ln_iadd i 1 hx hb dL_law_760 ?_
  refine va_sld hx hb hX hbl hbA hM.2 (vp_in_nI (by omega) (by omega)) dL_law_761 ?_
  obtain ⟨V, S1, P1, rc1, hc5, hc6⟩ := b_reasons l G hLI (xs (nI (i + 1)).toNatClampNeg)
  refine mm_V2 (As := [.int (xs (nI (i + 1)).toNatClampNeg)]) (rest := []) ⟨hx, hb, hml, hown, hts⟩ hc5 (cwV 1 hts gL_law_X5_reasons rfl rfl rfl (by decide +kernel) ⟨Nat.le_of_ble_eq_true rfl, Nat.le_of_ble_eq_true rfl⟩) hK hE hA hM hh hap (mm_recv hK hM hC.1 (q := (RX5, TX5, 7)) rfl) rfl hl.1 rfl (Nat.le_of_ble_eq_true rfl) dL_law_762 ⟨by show cells + 0 ≤ 600000; omega, by show slots + 0 ≤ 7302250; omega⟩ (fun v f1 Hp lcs hp hM hh hap => ?_)
  obtain ⟨rfl, hC1, hv1, hP1⟩ := hp
  refine lv_aload_n hx hb dL_law_765 rfl (lv_at hl 1 rfl) ?_
  refine lv_aload_n hx hb dL_law_766 rfl (lv_at hl 3 rfl) ?_
  refine lv_iload_n hx hb dL_law_767 rfl (lv_at hl 0 rfl) ?_
  refine lv_iconst (v := nI 1) hx hb dL_law_768 (by decide +kernel) ?_
  refine ln_iadd i 1 hx hb dL_law_769 ?_
  refine va_sld hx hb hX hbl hbA hM.2 (vp_in_nI (by omega) (by omega)) dL_law_770 ?_
  refine mm_V2 (As := [.int (xs (nI (i + 1)).toNatClampNeg)]) (rest := [.int V]) ⟨hx, hb, hml, hown, hts⟩ hc6 (cwV 1 hts gL_law_X6_reasons rfl rfl rfl (by decide +kernel) ⟨Nat.le_of_ble_eq_true rfl, Nat.le_of_ble_eq_true rfl⟩) hK hE hA (show mM G A s.heap h Hp lcs from ⟨hh, hM.2⟩) hM.1 hap.symm (mm_recv hK (show mM G A s.heap h Hp lcs from ⟨hh, hM.2⟩) hI.obj (q := (RX6, TX6, 14)) rfl) rfl hl.1 rfl (Nat.le_of_ble_eq_true rfl) dL_law_771 ⟨by show cells + 0 + 0 ≤ 600000; omega, by show slots + 0 + 0 ≤ 7302250; omega⟩ (fun v h1 Hp lcs hp hM hh hap => ?_)
  obtain ⟨rfl, hR1⟩ := hp
  refine lv_icmp_eq (tgt := 1056) hx hb dL_law_774 (by decide) (fun _ => ?_) (fun hq9 => absurd rfl hq9)
  exact W.widen (k := cells + 640) (n := slots + 2000) (by omega) (by omega) (kk f1 h1 _ _ ⟨hh, hM.2⟩ hM.1 hap.symm ⟨S1, P1, rc1, hC1, hR1, hv1, hP1⟩)
set_option maxHeartbeats 4000000 in
set_option maxRecDepth 100000 in
theorem law_c25 {p : Program} {l : Launch} {e : Env} {s : State} {m : MethodId} {args : Array Value} {below : List Frame} {meth : Method} {c : Code} {G : mG} {A : Nat → Prop} {Q : State → Prop} {b L : Nat} {xs : Nat → Int32} (hx : p.tables.exec = Jvm.exec) (hb : c.code = cL_law) (hml : c.maxLocals = 4) (hown : s.vm.findClass RL = some m.cls) (hts : ∀ w ∈ wsL_law, w.before args s = true) (hK : va_K G.1 vwCl (mT G) s) (hE : mS G A s s.heap) (hA : ∀ q, s.heap.size ≤ q → A q) (hX : va_X b L xs s s.heap) (hbl : b < s.heap.size) (hbA : ¬ A b) (hL : L ≤ 2048) {f h : mE} {ox om i cells slots : Nat} {Hp : Heap} {lcs : List Loc} {ls : Array Slot} (hM : mM G A s.heap f Hp lcs) (hh : mD G A h Hp) (hap : mAp f h) (hLI : LI G f h ox om) (hi : i + 4 ≤ L) (hl : lv_has ls 4 [(3, .int (nI i)), (2, .ref om), (1, .ref ox), (0, .ref b)]) (hr1 : cells + 640 ≤ 600000) (hr2 : slots + 2000 ≤ 7302250)
    (kk : ∀ (f1 h1 : mE) (H1 : Heap) (locs1 : List Loc), mM G A s.heap f1 H1 locs1 → mD G A h1 H1 → mAp f1 h1 → LI G f1 h1 ox om → W p l e room_1 s m args below meth c H1 locs1 (cells + 640) (slots + 2000) Q (F0 m 1056 ls [])) : W p l e room_1 s m args below meth c Hp lcs cells slots Q (F0 m 779 ls []) := by
  obtain ⟨S0, P0, rc0, ⟨T, q0, ra, rd, sp, rr, sb, hC⟩, ⟨a, lo, hi9, ou, ir, wt, us, ab, gi, wr, hI⟩, -⟩ := id hLI
  refine lv_aload_n hx hb dL_law_779 rfl (lv_at hl 2 rfl) ?_
  refine lv_aload_n hx hb dL_law_780 rfl (lv_at hl 3 rfl) ?_
  refine lv_iload_n hx hb dL_law_781 rfl (lv_at hl 0 rfl) ?_
  refine lv_iconst (v := nI 1) hx hb dL_law_782 (by decide +kernel) ?_
  refine ln_iadd i 1 hx hb dL_law_783 ?_
  refine va_sld hx hb hX hbl hbA hM.2 (vp_in_nI (by omega) (by omega)) dL_law_784 ?_
  refine lv_aload_n hx hb dL_law_785 rfl (lv_at hl 3 rfl) ?_
  refine lv_iload_n hx hb dL_law_786 rfl (lv_at hl 0 rfl) ?_
  refine lv_iconst (v := nI 2) hx hb dL_law_787 (by decide +kernel) ?_
  refine ln_iadd i 2 hx hb dL_law_788 ?_
  refine va_sld hx hb hX hbl hbA hM.2 (vp_in_nI (by omega) (by omega)) dL_law_789 ?_
  obtain ⟨V, S1, P1, rc1, hc5, hc6⟩ := b_reason l G hLI (xs (nI (i + 1)).toNatClampNeg) (xs (nI (i + 2)).toNatClampNeg)
  refine mm_V2 (As := [.int (xs (nI (i + 1)).toNatClampNeg), .int (xs (nI (i + 2)).toNatClampNeg)]) (rest := []) ⟨hx, hb, hml, hown, hts⟩ hc5 (cwV 2 hts gL_law_X5_reason rfl rfl rfl (by decide +kernel) ⟨Nat.le_of_ble_eq_true rfl, Nat.le_of_ble_eq_true rfl⟩) hK hE hA hM hh hap (mm_recv hK hM hC.1 (q := (RX5, TX5, 7)) rfl) rfl hl.1 rfl (Nat.le_of_ble_eq_true rfl) dL_law_790 ⟨by show cells + 0 ≤ 600000; omega, by show slots + 0 ≤ 7302250; omega⟩ (fun v f1 Hp lcs hp hM hh hap => ?_)
  obtain ⟨rfl, hC1, hv1, hP1⟩ := hp
  refine lv_aload_n hx hb dL_law_793 rfl (lv_at hl 1 rfl) ?_
  refine lv_aload_n hx hb dL_law_794 rfl (lv_at hl 3 rfl) ?_
  refine lv_iload_n hx hb dL_law_795 rfl (lv_at hl 0 rfl) ?_
  refine lv_iconst (v := nI 1) hx hb dL_law_796 (by decide +kernel) ?_
  refine ln_iadd i 1 hx hb dL_law_797 ?_
  refine va_sld hx hb hX hbl hbA hM.2 (vp_in_nI (by omega) (by omega)) dL_law_798 ?_
  refine lv_aload_n hx hb dL_law_799 rfl (lv_at hl 3 rfl) ?_
  refine lv_iload_n hx hb dL_law_800 rfl (lv_at hl 0 rfl) ?_
  refine lv_iconst (v := nI 2) hx hb dL_law_801 (by decide +kernel) ?_
  refine ln_iadd i 2 hx hb dL_law_802 ?_
  refine va_sld hx hb hX hbl hbA hM.2 (vp_in_nI (by omega) (by omega)) dL_law_803 ?_
  refine mm_V2 (As := [.int (xs (nI (i + 1)).toNatClampNeg), .int (xs (nI (i + 2)).toNatClampNeg)]) (rest := [.int V]) ⟨hx, hb, hml, hown, hts⟩ hc6 (cwV 2 hts gL_law_X6_reason rfl rfl rfl (by decide +kernel) ⟨Nat.le_of_ble_eq_true rfl, Nat.le_of_ble_eq_true rfl⟩) hK hE hA (show mM G A s.heap h Hp lcs from ⟨hh, hM.2⟩) hM.1 hap.symm (mm_recv hK (show mM G A s.heap h Hp lcs from ⟨hh, hM.2⟩) hI.obj (q := (RX6, TX6, 14)) rfl) rfl hl.1 rfl (Nat.le_of_ble_eq_true rfl) dL_law_804 ⟨by show cells + 0 + 0 ≤ 600000; omega, by show slots + 0 + 0 ≤ 7302250; omega⟩ (fun v h1 Hp lcs hp hM hh hap => ?_)
  obtain ⟨rfl, hR1⟩ := hp
  refine lv_icmp_eq (tgt := 1056) hx hb dL_law_807 (by decide) (fun _ => ?_) (fun hq9 => absurd rfl hq9)
  exact W.widen (k := cells + 640) (n := slots + 2000) (by omega) (by omega) (kk f1 h1 _ _ ⟨hh, hM.2⟩ hM.1 hap.symm ⟨S1, P1, rc1, hC1, hR1, hv1, hP1⟩)
set_option maxHeartbeats 4000000 in
set_option maxRecDepth 100000 in
theorem law_c26 {p : Program} {l : Launch} {e : Env} {s : State} {m : MethodId} {args : Array Value} {below : List Frame} {meth : Method} {c : Code} {G : mG} {A : Nat → Prop} {Q : State → Prop} {b L : Nat} {xs : Nat → Int32} (hx : p.tables.exec = Jvm.exec) (hb : c.code = cL_law) (hml : c.maxLocals = 4) (hown : s.vm.findClass RL = some m.cls) (hts : ∀ w ∈ wsL_law, w.before args s = true) (hK : va_K G.1 vwCl (mT G) s) (hE : mS G A s s.heap) (hA : ∀ q, s.heap.size ≤ q → A q) (hX : va_X b L xs s s.heap) (hbl : b < s.heap.size) (hbA : ¬ A b) (hL : L ≤ 2048) {f h : mE} {ox om i cells slots : Nat} {Hp : Heap} {lcs : List Loc} {ls : Array Slot} (hM : mM G A s.heap f Hp lcs) (hh : mD G A h Hp) (hap : mAp f h) (hLI : LI G f h ox om) (hi : i + 4 ≤ L) (hl : lv_has ls 4 [(3, .int (nI i)), (2, .ref om), (1, .ref ox), (0, .ref b)]) (hr1 : cells + 640 ≤ 600000) (hr2 : slots + 2000 ≤ 7302250)
    (kk : ∀ (f1 h1 : mE) (H1 : Heap) (locs1 : List Loc), mM G A s.heap f1 H1 locs1 → mD G A h1 H1 → mAp f1 h1 → LI G f1 h1 ox om → W p l e room_1 s m args below meth c H1 locs1 (cells + 640) (slots + 2000) Q (F0 m 1056 ls [])) : W p l e room_1 s m args below meth c Hp lcs cells slots Q (F0 m 812 ls []) := by
  obtain ⟨S0, P0, rc0, ⟨T, q0, ra, rd, sp, rr, sb, hC⟩, ⟨a, lo, hi9, ou, ir, wt, us, ab, gi, wr, hI⟩, -⟩ := id hLI
  refine lv_aload_n hx hb dL_law_812 rfl (lv_at hl 2 rfl) ?_
  refine lv_aload_n hx hb dL_law_813 rfl (lv_at hl 3 rfl) ?_
  refine lv_iload_n hx hb dL_law_814 rfl (lv_at hl 0 rfl) ?_
  refine lv_iconst (v := nI 1) hx hb dL_law_815 (by decide +kernel) ?_
  refine ln_iadd i 1 hx hb dL_law_816 ?_
  refine va_sld hx hb hX hbl hbA hM.2 (vp_in_nI (by omega) (by omega)) dL_law_817 ?_
  obtain ⟨V, S1, P1, rc1, hc5, hc6⟩ := b_overridden l G hLI (xs (nI (i + 1)).toNatClampNeg)
  refine mm_V2 (As := [.int (xs (nI (i + 1)).toNatClampNeg)]) (rest := []) ⟨hx, hb, hml, hown, hts⟩ hc5 (cwV 1 hts gL_law_X5_overridden rfl rfl rfl (by decide +kernel) ⟨Nat.le_of_ble_eq_true rfl, Nat.le_of_ble_eq_true rfl⟩) hK hE hA hM hh hap (mm_recv hK hM hC.1 (q := (RX5, TX5, 7)) rfl) rfl hl.1 rfl (Nat.le_of_ble_eq_true rfl) dL_law_818 ⟨by show cells + 0 ≤ 600000; omega, by show slots + 0 ≤ 7302250; omega⟩ (fun v f1 Hp lcs hp hM hh hap => ?_)
  obtain ⟨rfl, hC1, hv1, hP1⟩ := hp
  refine lv_aload_n hx hb dL_law_821 rfl (lv_at hl 1 rfl) ?_
  refine lv_aload_n hx hb dL_law_822 rfl (lv_at hl 3 rfl) ?_
  refine lv_iload_n hx hb dL_law_823 rfl (lv_at hl 0 rfl) ?_
  refine lv_iconst (v := nI 1) hx hb dL_law_824 (by decide +kernel) ?_
  refine ln_iadd i 1 hx hb dL_law_825 ?_
  refine va_sld hx hb hX hbl hbA hM.2 (vp_in_nI (by omega) (by omega)) dL_law_826 ?_
  refine mm_V2 (As := [.int (xs (nI (i + 1)).toNatClampNeg)]) (rest := [.int V]) ⟨hx, hb, hml, hown, hts⟩ hc6 (cwV 1 hts gL_law_X6_overridden rfl rfl rfl (by decide +kernel) ⟨Nat.le_of_ble_eq_true rfl, Nat.le_of_ble_eq_true rfl⟩) hK hE hA (show mM G A s.heap h Hp lcs from ⟨hh, hM.2⟩) hM.1 hap.symm (mm_recv hK (show mM G A s.heap h Hp lcs from ⟨hh, hM.2⟩) hI.obj (q := (RX6, TX6, 14)) rfl) rfl hl.1 rfl (Nat.le_of_ble_eq_true rfl) dL_law_827 ⟨by show cells + 0 + 0 ≤ 600000; omega, by show slots + 0 + 0 ≤ 7302250; omega⟩ (fun v h1 Hp lcs hp hM hh hap => ?_)
  obtain ⟨rfl, hR1⟩ := hp
  refine lv_icmp_eq (tgt := 1056) hx hb dL_law_830 (by decide) (fun _ => ?_) (fun hq9 => absurd rfl hq9)
  exact W.widen (k := cells + 640) (n := slots + 2000) (by omega) (by omega) (kk f1 h1 _ _ ⟨hh, hM.2⟩ hM.1 hap.symm ⟨S1, P1, rc1, hC1, hR1, hv1, hP1⟩)
set_option maxHeartbeats 4000000 in
set_option maxRecDepth 100000 in
theorem law_c27 {p : Program} {l : Launch} {e : Env} {s : State} {m : MethodId} {args : Array Value} {below : List Frame} {meth : Method} {c : Code} {G : mG} {A : Nat → Prop} {Q : State → Prop} {b L : Nat} {xs : Nat → Int32} (hx : p.tables.exec = Jvm.exec) (hb : c.code = cL_law) (hml : c.maxLocals = 4) (hown : s.vm.findClass RL = some m.cls) (hts : ∀ w ∈ wsL_law, w.before args s = true) (hK : va_K G.1 vwCl (mT G) s) (hE : mS G A s s.heap) (hA : ∀ q, s.heap.size ≤ q → A q) (hX : va_X b L xs s s.heap) (hbl : b < s.heap.size) (hbA : ¬ A b) (hL : L ≤ 2048) {f h : mE} {ox om i cells slots : Nat} {Hp : Heap} {lcs : List Loc} {ls : Array Slot} (hM : mM G A s.heap f Hp lcs) (hh : mD G A h Hp) (hap : mAp f h) (hLI : LI G f h ox om) (hi : i + 4 ≤ L) (hl : lv_has ls 4 [(3, .int (nI i)), (2, .ref om), (1, .ref ox), (0, .ref b)]) (hr1 : cells + 640 ≤ 600000) (hr2 : slots + 2000 ≤ 7302250)
    (kk : ∀ (f1 h1 : mE) (H1 : Heap) (locs1 : List Loc), mM G A s.heap f1 H1 locs1 → mD G A h1 H1 → mAp f1 h1 → LI G f1 h1 ox om → W p l e room_1 s m args below meth c H1 locs1 (cells + 640) (slots + 2000) Q (F0 m 1056 ls [])) : W p l e room_1 s m args below meth c Hp lcs cells slots Q (F0 m 835 ls []) := by
  obtain ⟨S0, P0, rc0, ⟨T, q0, ra, rd, sp, rr, sb, hC⟩, ⟨a, lo, hi9, ou, ir, wt, us, ab, gi, wr, hI⟩, -⟩ := id hLI
  refine lv_aload_n hx hb dL_law_835 rfl (lv_at hl 2 rfl) ?_
  refine lv_aload_n hx hb dL_law_836 rfl (lv_at hl 3 rfl) ?_
  refine lv_iload_n hx hb dL_law_837 rfl (lv_at hl 0 rfl) ?_
  refine lv_iconst (v := nI 1) hx hb dL_law_838 (by decide +kernel) ?_
  refine ln_iadd i 1 hx hb dL_law_839 ?_
  refine va_sld hx hb hX hbl hbA hM.2 (vp_in_nI (by omega) (by omega)) dL_law_840 ?_
  obtain ⟨V, S1, P1, rc1, hc5, hc6⟩ := b_holds l G hLI (xs (nI (i + 1)).toNatClampNeg)
  refine mm_V2 (As := [.int (xs (nI (i + 1)).toNatClampNeg)]) (rest := []) ⟨hx, hb, hml, hown, hts⟩ hc5 (cwV 1 hts gL_law_X5_holds rfl rfl rfl (by decide +kernel) ⟨Nat.le_of_ble_eq_true rfl, Nat.le_of_ble_eq_true rfl⟩) hK hE hA hM hh hap (mm_recv hK hM hC.1 (q := (RX5, TX5, 7)) rfl) rfl hl.1 rfl (Nat.le_of_ble_eq_true rfl) dL_law_841 ⟨by show cells + 0 ≤ 600000; omega, by show slots + 0 ≤ 7302250; omega⟩ (fun v f1 Hp lcs hp hM hh hap => ?_)
  obtain ⟨rfl, hC1, hv1, hP1⟩ := hp
  refine lv_aload_n hx hb dL_law_844 rfl (lv_at hl 1 rfl) ?_
  refine lv_aload_n hx hb dL_law_845 rfl (lv_at hl 3 rfl) ?_
  refine lv_iload_n hx hb dL_law_846 rfl (lv_at hl 0 rfl) ?_
  refine lv_iconst (v := nI 1) hx hb dL_law_847 (by decide +kernel) ?_
  refine ln_iadd i 1 hx hb dL_law_848 ?_
  refine va_sld hx hb hX hbl hbA hM.2 (vp_in_nI (by omega) (by omega)) dL_law_849 ?_
  refine mm_V2 (As := [.int (xs (nI (i + 1)).toNatClampNeg)]) (rest := [.int V]) ⟨hx, hb, hml, hown, hts⟩ hc6 (cwV 1 hts gL_law_X6_holds rfl rfl rfl (by decide +kernel) ⟨Nat.le_of_ble_eq_true rfl, Nat.le_of_ble_eq_true rfl⟩) hK hE hA (show mM G A s.heap h Hp lcs from ⟨hh, hM.2⟩) hM.1 hap.symm (mm_recv hK (show mM G A s.heap h Hp lcs from ⟨hh, hM.2⟩) hI.obj (q := (RX6, TX6, 14)) rfl) rfl hl.1 rfl (Nat.le_of_ble_eq_true rfl) dL_law_850 ⟨by show cells + 0 + 0 ≤ 600000; omega, by show slots + 0 + 0 ≤ 7302250; omega⟩ (fun v h1 Hp lcs hp hM hh hap => ?_)
  obtain ⟨rfl, hR1⟩ := hp
  refine lv_icmp_eq (tgt := 1056) hx hb dL_law_853 (by decide) (fun _ => ?_) (fun hq9 => absurd rfl hq9)
  exact W.widen (k := cells + 640) (n := slots + 2000) (by omega) (by omega) (kk f1 h1 _ _ ⟨hh, hM.2⟩ hM.1 hap.symm ⟨S1, P1, rc1, hC1, hR1, hv1, hP1⟩)
set_option maxHeartbeats 4000000 in
set_option maxRecDepth 100000 in
theorem law_c28 {p : Program} {l : Launch} {e : Env} {s : State} {m : MethodId} {args : Array Value} {below : List Frame} {meth : Method} {c : Code} {G : mG} {A : Nat → Prop} {Q : State → Prop} {b L : Nat} {xs : Nat → Int32} (hx : p.tables.exec = Jvm.exec) (hb : c.code = cL_law) (hml : c.maxLocals = 4) (hown : s.vm.findClass RL = some m.cls) (hts : ∀ w ∈ wsL_law, w.before args s = true) (hK : va_K G.1 vwCl (mT G) s) (hE : mS G A s s.heap) (hA : ∀ q, s.heap.size ≤ q → A q) (hX : va_X b L xs s s.heap) (hbl : b < s.heap.size) (hbA : ¬ A b) (hL : L ≤ 2048) {f h : mE} {ox om i cells slots : Nat} {Hp : Heap} {lcs : List Loc} {ls : Array Slot} (hM : mM G A s.heap f Hp lcs) (hh : mD G A h Hp) (hap : mAp f h) (hLI : LI G f h ox om) (hi : i + 4 ≤ L) (hl : lv_has ls 4 [(3, .int (nI i)), (2, .ref om), (1, .ref ox), (0, .ref b)]) (hr1 : cells + 640 ≤ 600000) (hr2 : slots + 2000 ≤ 7302250)
    (kk : ∀ (f1 h1 : mE) (H1 : Heap) (locs1 : List Loc), mM G A s.heap f1 H1 locs1 → mD G A h1 H1 → mAp f1 h1 → LI G f1 h1 ox om → W p l e room_1 s m args below meth c H1 locs1 (cells + 640) (slots + 2000) Q (F0 m 1056 ls [])) : W p l e room_1 s m args below meth c Hp lcs cells slots Q (F0 m 858 ls []) := by
  obtain ⟨S0, P0, rc0, ⟨T, q0, ra, rd, sp, rr, sb, hC⟩, ⟨a, lo, hi9, ou, ir, wt, us, ab, gi, wr, hI⟩, -⟩ := id hLI
  refine lv_aload_n hx hb dL_law_858 rfl (lv_at hl 2 rfl) ?_
  refine lv_aload_n hx hb dL_law_859 rfl (lv_at hl 3 rfl) ?_
  refine lv_iload_n hx hb dL_law_860 rfl (lv_at hl 0 rfl) ?_
  refine lv_iconst (v := nI 1) hx hb dL_law_861 (by decide +kernel) ?_
  refine ln_iadd i 1 hx hb dL_law_862 ?_
  refine va_sld hx hb hX hbl hbA hM.2 (vp_in_nI (by omega) (by omega)) dL_law_863 ?_
  refine lv_aload_n hx hb dL_law_864 rfl (lv_at hl 3 rfl) ?_
  refine lv_iload_n hx hb dL_law_865 rfl (lv_at hl 0 rfl) ?_
  refine lv_iconst (v := nI 2) hx hb dL_law_866 (by decide +kernel) ?_
  refine ln_iadd i 2 hx hb dL_law_867 ?_
  refine va_sld hx hb hX hbl hbA hM.2 (vp_in_nI (by omega) (by omega)) dL_law_868 ?_
  obtain ⟨V, S1, P1, rc1, hc5, hc6⟩ := b_compare l G hLI (xs (nI (i + 1)).toNatClampNeg) (xs (nI (i + 2)).toNatClampNeg)
  refine mm_V2 (As := [.int (xs (nI (i + 1)).toNatClampNeg), .int (xs (nI (i + 2)).toNatClampNeg)]) (rest := []) ⟨hx, hb, hml, hown, hts⟩ hc5 (cwV 2 hts gL_law_X5_compare rfl rfl rfl (by decide +kernel) ⟨Nat.le_of_ble_eq_true rfl, Nat.le_of_ble_eq_true rfl⟩) hK hE hA hM hh hap (mm_recv hK hM hC.1 (q := (RX5, TX5, 7)) rfl) rfl hl.1 rfl (Nat.le_of_ble_eq_true rfl) dL_law_869 ⟨by show cells + 0 ≤ 600000; omega, by show slots + 0 ≤ 7302250; omega⟩ (fun v f1 Hp lcs hp hM hh hap => ?_)
  obtain ⟨rfl, hC1, hv1, hP1⟩ := hp
  refine lv_aload_n hx hb dL_law_872 rfl (lv_at hl 1 rfl) ?_
  refine lv_aload_n hx hb dL_law_873 rfl (lv_at hl 3 rfl) ?_
  refine lv_iload_n hx hb dL_law_874 rfl (lv_at hl 0 rfl) ?_
  refine lv_iconst (v := nI 1) hx hb dL_law_875 (by decide +kernel) ?_
  refine ln_iadd i 1 hx hb dL_law_876 ?_
  refine va_sld hx hb hX hbl hbA hM.2 (vp_in_nI (by omega) (by omega)) dL_law_877 ?_
  refine lv_aload_n hx hb dL_law_878 rfl (lv_at hl 3 rfl) ?_
  refine lv_iload_n hx hb dL_law_879 rfl (lv_at hl 0 rfl) ?_
  refine lv_iconst (v := nI 2) hx hb dL_law_880 (by decide +kernel) ?_
  refine ln_iadd i 2 hx hb dL_law_881 ?_
  refine va_sld hx hb hX hbl hbA hM.2 (vp_in_nI (by omega) (by omega)) dL_law_882 ?_
  refine mm_V2 (As := [.int (xs (nI (i + 1)).toNatClampNeg), .int (xs (nI (i + 2)).toNatClampNeg)]) (rest := [.int V]) ⟨hx, hb, hml, hown, hts⟩ hc6 (cwV 2 hts gL_law_X6_compare rfl rfl rfl (by decide +kernel) ⟨Nat.le_of_ble_eq_true rfl, Nat.le_of_ble_eq_true rfl⟩) hK hE hA (show mM G A s.heap h Hp lcs from ⟨hh, hM.2⟩) hM.1 hap.symm (mm_recv hK (show mM G A s.heap h Hp lcs from ⟨hh, hM.2⟩) hI.obj (q := (RX6, TX6, 14)) rfl) rfl hl.1 rfl (Nat.le_of_ble_eq_true rfl) dL_law_883 ⟨by show cells + 0 + 0 ≤ 600000; omega, by show slots + 0 + 0 ≤ 7302250; omega⟩ (fun v h1 Hp lcs hp hM hh hap => ?_)
  obtain ⟨rfl, hR1⟩ := hp
  refine lv_icmp_eq (tgt := 1056) hx hb dL_law_886 (by decide) (fun _ => ?_) (fun hq9 => absurd rfl hq9)
  exact W.widen (k := cells + 640) (n := slots + 2000) (by omega) (by omega) (kk f1 h1 _ _ ⟨hh, hM.2⟩ hM.1 hap.symm ⟨S1, P1, rc1, hC1, hR1, hv1, hP1⟩)
set_option maxHeartbeats 4000000 in
set_option maxRecDepth 100000 in
theorem law_c29 {p : Program} {l : Launch} {e : Env} {s : State} {m : MethodId} {args : Array Value} {below : List Frame} {meth : Method} {c : Code} {G : mG} {A : Nat → Prop} {Q : State → Prop} {b L : Nat} {xs : Nat → Int32} (hx : p.tables.exec = Jvm.exec) (hb : c.code = cL_law) (hml : c.maxLocals = 4) (hown : s.vm.findClass RL = some m.cls) (hts : ∀ w ∈ wsL_law, w.before args s = true) (hK : va_K G.1 vwCl (mT G) s) (hE : mS G A s s.heap) (hA : ∀ q, s.heap.size ≤ q → A q) (hX : va_X b L xs s s.heap) (hbl : b < s.heap.size) (hbA : ¬ A b) (hL : L ≤ 2048) {f h : mE} {ox om i cells slots : Nat} {Hp : Heap} {lcs : List Loc} {ls : Array Slot} (hM : mM G A s.heap f Hp lcs) (hh : mD G A h Hp) (hap : mAp f h) (hLI : LI G f h ox om) (hi : i + 4 ≤ L) (hl : lv_has ls 4 [(3, .int (nI i)), (2, .ref om), (1, .ref ox), (0, .ref b)]) (hr1 : cells + 640 ≤ 600000) (hr2 : slots + 2000 ≤ 7302250)
    (kk : ∀ (f1 h1 : mE) (H1 : Heap) (locs1 : List Loc), mM G A s.heap f1 H1 locs1 → mD G A h1 H1 → mAp f1 h1 → LI G f1 h1 ox om → W p l e room_1 s m args below meth c H1 locs1 (cells + 640) (slots + 2000) Q (F0 m 1056 ls [])) : W p l e room_1 s m args below meth c Hp lcs cells slots Q (F0 m 891 ls []) := by
  obtain ⟨S0, P0, rc0, ⟨T, q0, ra, rd, sp, rr, sb, hC⟩, ⟨a, lo, hi9, ou, ir, wt, us, ab, gi, wr, hI⟩, -⟩ := id hLI
  refine lv_aload_n hx hb dL_law_891 rfl (lv_at hl 2 rfl) ?_
  refine lv_aload_n hx hb dL_law_892 rfl (lv_at hl 3 rfl) ?_
  refine lv_iload_n hx hb dL_law_893 rfl (lv_at hl 0 rfl) ?_
  refine lv_iconst (v := nI 1) hx hb dL_law_894 (by decide +kernel) ?_
  refine ln_iadd i 1 hx hb dL_law_895 ?_
  refine va_sld hx hb hX hbl hbA hM.2 (vp_in_nI (by omega) (by omega)) dL_law_896 ?_
  obtain ⟨V, S1, P1, rc1, hc5, hc6⟩ := b_contradiction l G hLI (xs (nI (i + 1)).toNatClampNeg)
  refine mm_V2 (As := [.int (xs (nI (i + 1)).toNatClampNeg)]) (rest := []) ⟨hx, hb, hml, hown, hts⟩ hc5 (cwV 1 hts gL_law_X5_contradiction rfl rfl rfl (by decide +kernel) ⟨Nat.le_of_ble_eq_true rfl, Nat.le_of_ble_eq_true rfl⟩) hK hE hA hM hh hap (mm_recv hK hM hC.1 (q := (RX5, TX5, 7)) rfl) rfl hl.1 rfl (Nat.le_of_ble_eq_true rfl) dL_law_897 ⟨by show cells + 0 ≤ 600000; omega, by show slots + 0 ≤ 7302250; omega⟩ (fun v f1 Hp lcs hp hM hh hap => ?_)
  obtain ⟨rfl, hC1, hv1, hP1⟩ := hp
  refine lv_aload_n hx hb dL_law_900 rfl (lv_at hl 1 rfl) ?_
  refine lv_aload_n hx hb dL_law_901 rfl (lv_at hl 3 rfl) ?_
  refine lv_iload_n hx hb dL_law_902 rfl (lv_at hl 0 rfl) ?_
  refine lv_iconst (v := nI 1) hx hb dL_law_903 (by decide +kernel) ?_
  refine ln_iadd i 1 hx hb dL_law_904 ?_
  refine va_sld hx hb hX hbl hbA hM.2 (vp_in_nI (by omega) (by omega)) dL_law_905 ?_
  refine mm_V2 (As := [.int (xs (nI (i + 1)).toNatClampNeg)]) (rest := [.int V]) ⟨hx, hb, hml, hown, hts⟩ hc6 (cwV 1 hts gL_law_X6_contradiction rfl rfl rfl (by decide +kernel) ⟨Nat.le_of_ble_eq_true rfl, Nat.le_of_ble_eq_true rfl⟩) hK hE hA (show mM G A s.heap h Hp lcs from ⟨hh, hM.2⟩) hM.1 hap.symm (mm_recv hK (show mM G A s.heap h Hp lcs from ⟨hh, hM.2⟩) hI.obj (q := (RX6, TX6, 14)) rfl) rfl hl.1 rfl (Nat.le_of_ble_eq_true rfl) dL_law_906 ⟨by show cells + 0 + 0 ≤ 600000; omega, by show slots + 0 + 0 ≤ 7302250; omega⟩ (fun v h1 Hp lcs hp hM hh hap => ?_)
  obtain ⟨rfl, hR1⟩ := hp
  refine lv_icmp_eq (tgt := 1056) hx hb dL_law_909 (by decide) (fun _ => ?_) (fun hq9 => absurd rfl hq9)
  exact W.widen (k := cells + 640) (n := slots + 2000) (by omega) (by omega) (kk f1 h1 _ _ ⟨hh, hM.2⟩ hM.1 hap.symm ⟨S1, P1, rc1, hC1, hR1, hv1, hP1⟩)
set_option maxHeartbeats 4000000 in
set_option maxRecDepth 100000 in
theorem law_c30 {p : Program} {l : Launch} {e : Env} {s : State} {m : MethodId} {args : Array Value} {below : List Frame} {meth : Method} {c : Code} {G : mG} {A : Nat → Prop} {Q : State → Prop} {b L : Nat} {xs : Nat → Int32} (hx : p.tables.exec = Jvm.exec) (hb : c.code = cL_law) (hml : c.maxLocals = 4) (hown : s.vm.findClass RL = some m.cls) (hts : ∀ w ∈ wsL_law, w.before args s = true) (hK : va_K G.1 vwCl (mT G) s) (hE : mS G A s s.heap) (hA : ∀ q, s.heap.size ≤ q → A q) (hX : va_X b L xs s s.heap) (hbl : b < s.heap.size) (hbA : ¬ A b) (hL : L ≤ 2048) {f h : mE} {ox om i cells slots : Nat} {Hp : Heap} {lcs : List Loc} {ls : Array Slot} (hM : mM G A s.heap f Hp lcs) (hh : mD G A h Hp) (hap : mAp f h) (hLI : LI G f h ox om) (hi : i + 4 ≤ L) (hl : lv_has ls 4 [(3, .int (nI i)), (2, .ref om), (1, .ref ox), (0, .ref b)]) (hr1 : cells + 640 ≤ 600000) (hr2 : slots + 2000 ≤ 7302250)
    (kk : ∀ (f1 h1 : mE) (H1 : Heap) (locs1 : List Loc), mM G A s.heap f1 H1 locs1 → mD G A h1 H1 → mAp f1 h1 → LI G f1 h1 ox om → W p l e room_1 s m args below meth c H1 locs1 (cells + 640) (slots + 2000) Q (F0 m 1056 ls [])) : W p l e room_1 s m args below meth c Hp lcs cells slots Q (F0 m 914 ls []) := by
  obtain ⟨S0, P0, rc0, ⟨T, q0, ra, rd, sp, rr, sb, hC⟩, ⟨a, lo, hi9, ou, ir, wt, us, ab, gi, wr, hI⟩, -⟩ := id hLI
  refine lv_aload_n hx hb dL_law_914 rfl (lv_at hl 2 rfl) ?_
  refine lv_aload_n hx hb dL_law_915 rfl (lv_at hl 3 rfl) ?_
  refine lv_iload_n hx hb dL_law_916 rfl (lv_at hl 0 rfl) ?_
  refine lv_iconst (v := nI 1) hx hb dL_law_917 (by decide +kernel) ?_
  refine ln_iadd i 1 hx hb dL_law_918 ?_
  refine va_sld hx hb hX hbl hbA hM.2 (vp_in_nI (by omega) (by omega)) dL_law_919 ?_
  refine lv_aload_n hx hb dL_law_920 rfl (lv_at hl 3 rfl) ?_
  refine lv_iload_n hx hb dL_law_921 rfl (lv_at hl 0 rfl) ?_
  refine lv_iconst (v := nI 2) hx hb dL_law_922 (by decide +kernel) ?_
  refine ln_iadd i 2 hx hb dL_law_923 ?_
  refine va_sld hx hb hX hbl hbA hM.2 (vp_in_nI (by omega) (by omega)) dL_law_924 ?_
  refine lv_aload_n hx hb dL_law_925 rfl (lv_at hl 3 rfl) ?_
  refine lv_iload_n hx hb dL_law_926 rfl (lv_at hl 0 rfl) ?_
  refine lv_iconst (v := nI 3) hx hb dL_law_927 (by decide +kernel) ?_
  refine ln_iadd i 3 hx hb dL_law_928 ?_
  refine va_sld hx hb hX hbl hbA hM.2 (vp_in_nI (by omega) (by omega)) dL_law_929 ?_
  obtain ⟨V, S1, P1, rc1, hc5, hc6⟩ := b_answerIf l G hLI (xs (nI (i + 1)).toNatClampNeg) (xs (nI (i + 2)).toNatClampNeg) (xs (nI (i + 3)).toNatClampNeg)
  refine mm_V2 (As := [.int (xs (nI (i + 1)).toNatClampNeg), .int (xs (nI (i + 2)).toNatClampNeg), .int (xs (nI (i + 3)).toNatClampNeg)]) (rest := []) ⟨hx, hb, hml, hown, hts⟩ hc5 (cwV 3 hts gL_law_X5_answerIf rfl rfl rfl (by decide +kernel) ⟨Nat.le_of_ble_eq_true rfl, Nat.le_of_ble_eq_true rfl⟩) hK hE hA hM hh hap (mm_recv hK hM hC.1 (q := (RX5, TX5, 7)) rfl) rfl hl.1 rfl (Nat.le_of_ble_eq_true rfl) dL_law_930 ⟨by show cells + 0 ≤ 600000; omega, by show slots + 0 ≤ 7302250; omega⟩ (fun v f1 Hp lcs hp hM hh hap => ?_)
  obtain ⟨rfl, hC1, hv1, hP1⟩ := hp
  refine lv_aload_n hx hb dL_law_933 rfl (lv_at hl 1 rfl) ?_
  refine lv_aload_n hx hb dL_law_934 rfl (lv_at hl 3 rfl) ?_
  refine lv_iload_n hx hb dL_law_935 rfl (lv_at hl 0 rfl) ?_
  refine lv_iconst (v := nI 1) hx hb dL_law_936 (by decide +kernel) ?_
  refine ln_iadd i 1 hx hb dL_law_937 ?_
  refine va_sld hx hb hX hbl hbA hM.2 (vp_in_nI (by omega) (by omega)) dL_law_938 ?_
  refine lv_aload_n hx hb dL_law_939 rfl (lv_at hl 3 rfl) ?_
  refine lv_iload_n hx hb dL_law_940 rfl (lv_at hl 0 rfl) ?_
  refine lv_iconst (v := nI 2) hx hb dL_law_941 (by decide +kernel) ?_
  refine ln_iadd i 2 hx hb dL_law_942 ?_
  refine va_sld hx hb hX hbl hbA hM.2 (vp_in_nI (by omega) (by omega)) dL_law_943 ?_
  refine lv_aload_n hx hb dL_law_944 rfl (lv_at hl 3 rfl) ?_
  refine lv_iload_n hx hb dL_law_945 rfl (lv_at hl 0 rfl) ?_
  refine lv_iconst (v := nI 3) hx hb dL_law_946 (by decide +kernel) ?_
  refine ln_iadd i 3 hx hb dL_law_947 ?_
  refine va_sld hx hb hX hbl hbA hM.2 (vp_in_nI (by omega) (by omega)) dL_law_948 ?_
  refine mm_V2 (As := [.int (xs (nI (i + 1)).toNatClampNeg), .int (xs (nI (i + 2)).toNatClampNeg), .int (xs (nI (i + 3)).toNatClampNeg)]) (rest := [.int V]) ⟨hx, hb, hml, hown, hts⟩ hc6 (cwV 3 hts gL_law_X6_answerIf rfl rfl rfl (by decide +kernel) ⟨Nat.le_of_ble_eq_true rfl, Nat.le_of_ble_eq_true rfl⟩) hK hE hA (show mM G A s.heap h Hp lcs from ⟨hh, hM.2⟩) hM.1 hap.symm (mm_recv hK (show mM G A s.heap h Hp lcs from ⟨hh, hM.2⟩) hI.obj (q := (RX6, TX6, 14)) rfl) rfl hl.1 rfl (Nat.le_of_ble_eq_true rfl) dL_law_949 ⟨by show cells + 0 + 0 ≤ 600000; omega, by show slots + 0 + 0 ≤ 7302250; omega⟩ (fun v h1 Hp lcs hp hM hh hap => ?_)
  obtain ⟨rfl, hR1⟩ := hp
  refine lv_icmp_eq (tgt := 1056) hx hb dL_law_952 (by decide) (fun _ => ?_) (fun hq9 => absurd rfl hq9)
  exact W.widen (k := cells + 640) (n := slots + 2000) (by omega) (by omega) (kk f1 h1 _ _ ⟨hh, hM.2⟩ hM.1 hap.symm ⟨S1, P1, rc1, hC1, hR1, hv1, hP1⟩)
set_option maxHeartbeats 4000000 in
set_option maxRecDepth 100000 in
theorem law_c31 {p : Program} {l : Launch} {e : Env} {s : State} {m : MethodId} {args : Array Value} {below : List Frame} {meth : Method} {c : Code} {G : mG} {A : Nat → Prop} {Q : State → Prop} {b L : Nat} {xs : Nat → Int32} (hx : p.tables.exec = Jvm.exec) (hb : c.code = cL_law) (hml : c.maxLocals = 4) (hown : s.vm.findClass RL = some m.cls) (hts : ∀ w ∈ wsL_law, w.before args s = true) (hK : va_K G.1 vwCl (mT G) s) (hE : mS G A s s.heap) (hA : ∀ q, s.heap.size ≤ q → A q) (hX : va_X b L xs s s.heap) (hbl : b < s.heap.size) (hbA : ¬ A b) (hL : L ≤ 2048) {f h : mE} {ox om i cells slots : Nat} {Hp : Heap} {lcs : List Loc} {ls : Array Slot} (hM : mM G A s.heap f Hp lcs) (hh : mD G A h Hp) (hap : mAp f h) (hLI : LI G f h ox om) (hi : i + 4 ≤ L) (hl : lv_has ls 4 [(3, .int (nI i)), (2, .ref om), (1, .ref ox), (0, .ref b)]) (hr1 : cells + 640 ≤ 600000) (hr2 : slots + 2000 ≤ 7302250)
    (kk : ∀ (f1 h1 : mE) (H1 : Heap) (locs1 : List Loc), mM G A s.heap f1 H1 locs1 → mD G A h1 H1 → mAp f1 h1 → LI G f1 h1 ox om → W p l e room_1 s m args below meth c H1 locs1 (cells + 640) (slots + 2000) Q (F0 m 1056 ls [])) : W p l e room_1 s m args below meth c Hp lcs cells slots Q (F0 m 957 ls []) := by
  obtain ⟨S0, P0, rc0, ⟨T, q0, ra, rd, sp, rr, sb, hC⟩, ⟨a, lo, hi9, ou, ir, wt, us, ab, gi, wr, hI⟩, -⟩ := id hLI
  refine lv_aload_n hx hb dL_law_957 rfl (lv_at hl 2 rfl) ?_
  refine lv_aload_n hx hb dL_law_958 rfl (lv_at hl 3 rfl) ?_
  refine lv_iload_n hx hb dL_law_959 rfl (lv_at hl 0 rfl) ?_
  refine lv_iconst (v := nI 1) hx hb dL_law_960 (by decide +kernel) ?_
  refine ln_iadd i 1 hx hb dL_law_961 ?_
  refine va_sld hx hb hX hbl hbA hM.2 (vp_in_nI (by omega) (by omega)) dL_law_962 ?_
  refine lv_aload_n hx hb dL_law_963 rfl (lv_at hl 3 rfl) ?_
  refine lv_iload_n hx hb dL_law_964 rfl (lv_at hl 0 rfl) ?_
  refine lv_iconst (v := nI 2) hx hb dL_law_965 (by decide +kernel) ?_
  refine ln_iadd i 2 hx hb dL_law_966 ?_
  refine va_sld hx hb hX hbl hbA hM.2 (vp_in_nI (by omega) (by omega)) dL_law_967 ?_
  obtain ⟨V, S1, P1, rc1, hc5, hc6⟩ := b_nextChange l G hLI (xs (nI (i + 1)).toNatClampNeg) (xs (nI (i + 2)).toNatClampNeg)
  refine mm_V2 (As := [.int (xs (nI (i + 1)).toNatClampNeg), .int (xs (nI (i + 2)).toNatClampNeg)]) (rest := []) ⟨hx, hb, hml, hown, hts⟩ hc5 (cwV 2 hts gL_law_X5_nextChange rfl rfl rfl (by decide +kernel) ⟨Nat.le_of_ble_eq_true rfl, Nat.le_of_ble_eq_true rfl⟩) hK hE hA hM hh hap (mm_recv hK hM hC.1 (q := (RX5, TX5, 7)) rfl) rfl hl.1 rfl (Nat.le_of_ble_eq_true rfl) dL_law_968 ⟨by show cells + 0 ≤ 600000; omega, by show slots + 0 ≤ 7302250; omega⟩ (fun v f1 Hp lcs hp hM hh hap => ?_)
  obtain ⟨rfl, hC1, hv1, hP1⟩ := hp
  refine lv_aload_n hx hb dL_law_971 rfl (lv_at hl 1 rfl) ?_
  refine lv_aload_n hx hb dL_law_972 rfl (lv_at hl 3 rfl) ?_
  refine lv_iload_n hx hb dL_law_973 rfl (lv_at hl 0 rfl) ?_
  refine lv_iconst (v := nI 1) hx hb dL_law_974 (by decide +kernel) ?_
  refine ln_iadd i 1 hx hb dL_law_975 ?_
  refine va_sld hx hb hX hbl hbA hM.2 (vp_in_nI (by omega) (by omega)) dL_law_976 ?_
  refine lv_aload_n hx hb dL_law_977 rfl (lv_at hl 3 rfl) ?_
  refine lv_iload_n hx hb dL_law_978 rfl (lv_at hl 0 rfl) ?_
  refine lv_iconst (v := nI 2) hx hb dL_law_979 (by decide +kernel) ?_
  refine ln_iadd i 2 hx hb dL_law_980 ?_
  refine va_sld hx hb hX hbl hbA hM.2 (vp_in_nI (by omega) (by omega)) dL_law_981 ?_
  refine mm_V2 (As := [.int (xs (nI (i + 1)).toNatClampNeg), .int (xs (nI (i + 2)).toNatClampNeg)]) (rest := [.int V]) ⟨hx, hb, hml, hown, hts⟩ hc6 (cwV 2 hts gL_law_X6_nextChange rfl rfl rfl (by decide +kernel) ⟨Nat.le_of_ble_eq_true rfl, Nat.le_of_ble_eq_true rfl⟩) hK hE hA (show mM G A s.heap h Hp lcs from ⟨hh, hM.2⟩) hM.1 hap.symm (mm_recv hK (show mM G A s.heap h Hp lcs from ⟨hh, hM.2⟩) hI.obj (q := (RX6, TX6, 14)) rfl) rfl hl.1 rfl (Nat.le_of_ble_eq_true rfl) dL_law_982 ⟨by show cells + 0 + 0 ≤ 600000; omega, by show slots + 0 + 0 ≤ 7302250; omega⟩ (fun v h1 Hp lcs hp hM hh hap => ?_)
  obtain ⟨rfl, hR1⟩ := hp
  refine lv_icmp_eq (tgt := 1056) hx hb dL_law_985 (by decide) (fun _ => ?_) (fun hq9 => absurd rfl hq9)
  exact W.widen (k := cells + 640) (n := slots + 2000) (by omega) (by omega) (kk f1 h1 _ _ ⟨hh, hM.2⟩ hM.1 hap.symm ⟨S1, P1, rc1, hC1, hR1, hv1, hP1⟩)
set_option maxHeartbeats 4000000 in
set_option maxRecDepth 100000 in
theorem law_c32 {p : Program} {l : Launch} {e : Env} {s : State} {m : MethodId} {args : Array Value} {below : List Frame} {meth : Method} {c : Code} {G : mG} {A : Nat → Prop} {Q : State → Prop} {b L : Nat} {xs : Nat → Int32} (hx : p.tables.exec = Jvm.exec) (hb : c.code = cL_law) (hml : c.maxLocals = 4) (hown : s.vm.findClass RL = some m.cls) (hts : ∀ w ∈ wsL_law, w.before args s = true) (hK : va_K G.1 vwCl (mT G) s) (hE : mS G A s s.heap) (hA : ∀ q, s.heap.size ≤ q → A q) (hX : va_X b L xs s s.heap) (hbl : b < s.heap.size) (hbA : ¬ A b) (hL : L ≤ 2048) {f h : mE} {ox om i cells slots : Nat} {Hp : Heap} {lcs : List Loc} {ls : Array Slot} (hM : mM G A s.heap f Hp lcs) (hh : mD G A h Hp) (hap : mAp f h) (hLI : LI G f h ox om) (hi : i + 4 ≤ L) (hl : lv_has ls 4 [(3, .int (nI i)), (2, .ref om), (1, .ref ox), (0, .ref b)]) (hr1 : cells + 640 ≤ 600000) (hr2 : slots + 2000 ≤ 7302250)
    (kk : ∀ (f1 h1 : mE) (H1 : Heap) (locs1 : List Loc), mM G A s.heap f1 H1 locs1 → mD G A h1 H1 → mAp f1 h1 → LI G f1 h1 ox om → W p l e room_1 s m args below meth c H1 locs1 (cells + 640) (slots + 2000) Q (F0 m 1056 ls [])) : W p l e room_1 s m args below meth c Hp lcs cells slots Q (F0 m 990 ls []) := by
  obtain ⟨S0, P0, rc0, ⟨T, q0, ra, rd, sp, rr, sb, hC⟩, ⟨a, lo, hi9, ou, ir, wt, us, ab, gi, wr, hI⟩, -⟩ := id hLI
  refine lv_aload_n hx hb dL_law_990 rfl (lv_at hl 2 rfl) ?_
  refine lv_aload_n hx hb dL_law_991 rfl (lv_at hl 3 rfl) ?_
  refine lv_iload_n hx hb dL_law_992 rfl (lv_at hl 0 rfl) ?_
  refine lv_iconst (v := nI 1) hx hb dL_law_993 (by decide +kernel) ?_
  refine ln_iadd i 1 hx hb dL_law_994 ?_
  refine va_sld hx hb hX hbl hbA hM.2 (vp_in_nI (by omega) (by omega)) dL_law_995 ?_
  refine lv_aload_n hx hb dL_law_996 rfl (lv_at hl 3 rfl) ?_
  refine lv_iload_n hx hb dL_law_997 rfl (lv_at hl 0 rfl) ?_
  refine lv_iconst (v := nI 2) hx hb dL_law_998 (by decide +kernel) ?_
  refine ln_iadd i 2 hx hb dL_law_999 ?_
  refine va_sld hx hb hX hbl hbA hM.2 (vp_in_nI (by omega) (by omega)) dL_law_1000 ?_
  refine lv_aload_n hx hb dL_law_1001 rfl (lv_at hl 3 rfl) ?_
  refine lv_iload_n hx hb dL_law_1002 rfl (lv_at hl 0 rfl) ?_
  refine lv_iconst (v := nI 3) hx hb dL_law_1003 (by decide +kernel) ?_
  refine ln_iadd i 3 hx hb dL_law_1004 ?_
  refine va_sld hx hb hX hbl hbA hM.2 (vp_in_nI (by omega) (by omega)) dL_law_1005 ?_
  obtain ⟨V, S1, P1, rc1, hc5, hc6⟩ := b_leastFor l G hLI (xs (nI (i + 1)).toNatClampNeg) (xs (nI (i + 2)).toNatClampNeg) (xs (nI (i + 3)).toNatClampNeg)
  refine mm_V2 (As := [.int (xs (nI (i + 1)).toNatClampNeg), .int (xs (nI (i + 2)).toNatClampNeg), .int (xs (nI (i + 3)).toNatClampNeg)]) (rest := []) ⟨hx, hb, hml, hown, hts⟩ hc5 (cwV 3 hts gL_law_X5_leastFor rfl rfl rfl (by decide +kernel) ⟨Nat.le_of_ble_eq_true rfl, Nat.le_of_ble_eq_true rfl⟩) hK hE hA hM hh hap (mm_recv hK hM hC.1 (q := (RX5, TX5, 7)) rfl) rfl hl.1 rfl (Nat.le_of_ble_eq_true rfl) dL_law_1006 ⟨by show cells + 0 ≤ 600000; omega, by show slots + 0 ≤ 7302250; omega⟩ (fun v f1 Hp lcs hp hM hh hap => ?_)
  obtain ⟨rfl, hC1, hv1, hP1⟩ := hp
  refine lv_aload_n hx hb dL_law_1009 rfl (lv_at hl 1 rfl) ?_
  refine lv_aload_n hx hb dL_law_1010 rfl (lv_at hl 3 rfl) ?_
  refine lv_iload_n hx hb dL_law_1011 rfl (lv_at hl 0 rfl) ?_
  refine lv_iconst (v := nI 1) hx hb dL_law_1012 (by decide +kernel) ?_
  refine ln_iadd i 1 hx hb dL_law_1013 ?_
  refine va_sld hx hb hX hbl hbA hM.2 (vp_in_nI (by omega) (by omega)) dL_law_1014 ?_
  refine lv_aload_n hx hb dL_law_1015 rfl (lv_at hl 3 rfl) ?_
  refine lv_iload_n hx hb dL_law_1016 rfl (lv_at hl 0 rfl) ?_
  refine lv_iconst (v := nI 2) hx hb dL_law_1017 (by decide +kernel) ?_
  refine ln_iadd i 2 hx hb dL_law_1018 ?_
  refine va_sld hx hb hX hbl hbA hM.2 (vp_in_nI (by omega) (by omega)) dL_law_1019 ?_
  refine lv_aload_n hx hb dL_law_1020 rfl (lv_at hl 3 rfl) ?_
  refine lv_iload_n hx hb dL_law_1021 rfl (lv_at hl 0 rfl) ?_
  refine lv_iconst (v := nI 3) hx hb dL_law_1022 (by decide +kernel) ?_
  refine ln_iadd i 3 hx hb dL_law_1023 ?_
  refine va_sld hx hb hX hbl hbA hM.2 (vp_in_nI (by omega) (by omega)) dL_law_1024 ?_
  refine mm_V2 (As := [.int (xs (nI (i + 1)).toNatClampNeg), .int (xs (nI (i + 2)).toNatClampNeg), .int (xs (nI (i + 3)).toNatClampNeg)]) (rest := [.int V]) ⟨hx, hb, hml, hown, hts⟩ hc6 (cwV 3 hts gL_law_X6_leastFor rfl rfl rfl (by decide +kernel) ⟨Nat.le_of_ble_eq_true rfl, Nat.le_of_ble_eq_true rfl⟩) hK hE hA (show mM G A s.heap h Hp lcs from ⟨hh, hM.2⟩) hM.1 hap.symm (mm_recv hK (show mM G A s.heap h Hp lcs from ⟨hh, hM.2⟩) hI.obj (q := (RX6, TX6, 14)) rfl) rfl hl.1 rfl (Nat.le_of_ble_eq_true rfl) dL_law_1025 ⟨by show cells + 0 + 0 ≤ 600000; omega, by show slots + 0 + 0 ≤ 7302250; omega⟩ (fun v h1 Hp lcs hp hM hh hap => ?_)
  obtain ⟨rfl, hR1⟩ := hp
  refine lv_icmp_eq (tgt := 1056) hx hb dL_law_1028 (by decide) (fun _ => ?_) (fun hq9 => absurd rfl hq9)
  exact W.widen (k := cells + 640) (n := slots + 2000) (by omega) (by omega) (kk f1 h1 _ _ ⟨hh, hM.2⟩ hM.1 hap.symm ⟨S1, P1, rc1, hC1, hR1, hv1, hP1⟩)
set_option maxHeartbeats 4000000 in
set_option maxRecDepth 100000 in
theorem law_c33 {p : Program} {l : Launch} {e : Env} {s : State} {m : MethodId} {args : Array Value} {below : List Frame} {meth : Method} {c : Code} {G : mG} {A : Nat → Prop} {Q : State → Prop} {b L : Nat} {xs : Nat → Int32} (hx : p.tables.exec = Jvm.exec) (hb : c.code = cL_law) (hml : c.maxLocals = 4) (hown : s.vm.findClass RL = some m.cls) (hts : ∀ w ∈ wsL_law, w.before args s = true) (hK : va_K G.1 vwCl (mT G) s) (hE : mS G A s s.heap) (hA : ∀ q, s.heap.size ≤ q → A q) (hX : va_X b L xs s s.heap) (hbl : b < s.heap.size) (hbA : ¬ A b) (hL : L ≤ 2048) {f h : mE} {ox om i cells slots : Nat} {Hp : Heap} {lcs : List Loc} {ls : Array Slot} (hM : mM G A s.heap f Hp lcs) (hh : mD G A h Hp) (hap : mAp f h) (hLI : LI G f h ox om) (hi : i + 4 ≤ L) (hl : lv_has ls 4 [(3, .int (nI i)), (2, .ref om), (1, .ref ox), (0, .ref b)]) (hr1 : cells + 640 ≤ 600000) (hr2 : slots + 2000 ≤ 7302250)
    (kk : ∀ (f1 h1 : mE) (H1 : Heap) (locs1 : List Loc), mM G A s.heap f1 H1 locs1 → mD G A h1 H1 → mAp f1 h1 → LI G f1 h1 ox om → W p l e room_1 s m args below meth c H1 locs1 (cells + 640) (slots + 2000) Q (F0 m 1056 ls [])) : W p l e room_1 s m args below meth c Hp lcs cells slots Q (F0 m 1033 ls []) := by
  obtain ⟨S0, P0, rc0, ⟨T, q0, ra, rd, sp, rr, sb, hC⟩, ⟨a, lo, hi9, ou, ir, wt, us, ab, gi, wr, hI⟩, -⟩ := id hLI
  refine lv_aload_n hx hb dL_law_1033 rfl (lv_at hl 2 rfl) ?_
  refine lv_aload_n hx hb dL_law_1034 rfl (lv_at hl 3 rfl) ?_
  refine lv_iload_n hx hb dL_law_1035 rfl (lv_at hl 0 rfl) ?_
  refine lv_iconst (v := nI 1) hx hb dL_law_1036 (by decide +kernel) ?_
  refine ln_iadd i 1 hx hb dL_law_1037 ?_
  refine va_sld hx hb hX hbl hbA hM.2 (vp_in_nI (by omega) (by omega)) dL_law_1038 ?_
  obtain ⟨V, S1, P1, rc1, hc5, hc6⟩ := b_matters l G hLI (xs (nI (i + 1)).toNatClampNeg)
  refine mm_V2 (As := [.int (xs (nI (i + 1)).toNatClampNeg)]) (rest := []) ⟨hx, hb, hml, hown, hts⟩ hc5 (cwV 1 hts gL_law_X5_matters rfl rfl rfl (by decide +kernel) ⟨Nat.le_of_ble_eq_true rfl, Nat.le_of_ble_eq_true rfl⟩) hK hE hA hM hh hap (mm_recv hK hM hC.1 (q := (RX5, TX5, 7)) rfl) rfl hl.1 rfl (Nat.le_of_ble_eq_true rfl) dL_law_1039 ⟨by show cells + 0 ≤ 600000; omega, by show slots + 0 ≤ 7302250; omega⟩ (fun v f1 Hp lcs hp hM hh hap => ?_)
  obtain ⟨rfl, hC1, hv1, hP1⟩ := hp
  refine lv_aload_n hx hb dL_law_1042 rfl (lv_at hl 1 rfl) ?_
  refine lv_aload_n hx hb dL_law_1043 rfl (lv_at hl 3 rfl) ?_
  refine lv_iload_n hx hb dL_law_1044 rfl (lv_at hl 0 rfl) ?_
  refine lv_iconst (v := nI 1) hx hb dL_law_1045 (by decide +kernel) ?_
  refine ln_iadd i 1 hx hb dL_law_1046 ?_
  refine va_sld hx hb hX hbl hbA hM.2 (vp_in_nI (by omega) (by omega)) dL_law_1047 ?_
  refine mm_V2 (As := [.int (xs (nI (i + 1)).toNatClampNeg)]) (rest := [.int V]) ⟨hx, hb, hml, hown, hts⟩ hc6 (cwV 1 hts gL_law_X6_matters rfl rfl rfl (by decide +kernel) ⟨Nat.le_of_ble_eq_true rfl, Nat.le_of_ble_eq_true rfl⟩) hK hE hA (show mM G A s.heap h Hp lcs from ⟨hh, hM.2⟩) hM.1 hap.symm (mm_recv hK (show mM G A s.heap h Hp lcs from ⟨hh, hM.2⟩) hI.obj (q := (RX6, TX6, 14)) rfl) rfl hl.1 rfl (Nat.le_of_ble_eq_true rfl) dL_law_1048 ⟨by show cells + 0 + 0 ≤ 600000; omega, by show slots + 0 + 0 ≤ 7302250; omega⟩ (fun v h1 Hp lcs hp hM hh hap => ?_)
  obtain ⟨rfl, hR1⟩ := hp
  refine lv_icmp_eq (tgt := 1056) hx hb dL_law_1051 (by decide) (fun _ => ?_) (fun hq9 => absurd rfl hq9)
  exact W.widen (k := cells + 640) (n := slots + 2000) (by omega) (by omega) (kk f1 h1 _ _ ⟨hh, hM.2⟩ hM.1 hap.symm ⟨S1, P1, rc1, hC1, hR1, hv1, hP1⟩)
