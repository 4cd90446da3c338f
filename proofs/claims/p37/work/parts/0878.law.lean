/-! THE LAW: one turn, the loop, the start -/
/-- two books, alike -/
def L2 (G : mG) (f h : mE) (o q : Nat) : Prop := ∃ (S P P2 : Nat → Int32) (rc rc2 n cn : Nat), CI G f o S P rc ∧ CI G h q S P2 rc2 ∧ VSn S n cn ∧ VX S n
set_option maxHeartbeats 4000000 in
set_option maxRecDepth 100000 in
theorem law_b {p : Program} {l : Launch} {e : Env} {s : State} {m : MethodId} {args : Array Value} {below : List Frame} {meth : Method} {c : Code} {G : mG} {A : Nat → Prop} {Q : State → Prop} {b L : Nat} {xs : Nat → Int32} (hx : p.tables.exec = Jvm.exec) (hb : c.code = cL_law) (hml : c.maxLocals = 11) (hown : s.vm.findClass RL = some m.cls) (hts : ∀ w ∈ wsL_law, w.before args s = true) (hK : va_K G.1 vwCl (mT G) s) (hE : mS G A s s.heap) (hA : ∀ q, s.heap.size ≤ q → A q) (hX : va_X b L xs s s.heap) (hbl : b < s.heap.size) (hbA : ¬ A b) (hL : L ≤ 260) {f h : mE} {o q t cells slots : Nat} {Hp : Heap} {lcs : List Loc} {ls : Array Slot} (hM : mM G A s.heap f Hp lcs) (hh : mD G A h Hp) (hap : mAp f h) {S P P2 : Nat → Int32} {rc rc2 n cn fa : Nat} {v m9 : Int32} (hI : CI G f o S P rc) (hJ : CI G h q S P2 rc2) (hv : VSn S n cn) (hX9 : VX S n) (hfa : fa < 7) (hl : lv_has ls 11 [(0, .ref b), (1, .ref o), (2, .ref q), (3, .int (nI t)), (4, .int v), (5, .int m9), (7, .int (nI fa))]) (hr1 : cells + 7 ≤ 600000) (hr2 : slots + 82 ≤ 7302250)
    (kk : ∀ (f h : mE) (Hp : Heap) (lcs : List Loc) (ls : Array Slot), mM G A s.heap f Hp lcs → mD G A h Hp → mAp f h → L2 G f h o q → lv_has ls 11 [(3, .int (nI t)), (2, .ref q), (1, .ref o), (0, .ref b)] → W p l e room_1 s m args below meth c Hp lcs (cells + 7) (slots + 82) Q (F0 m 303 ls [])) : W p l e room_1 s m args below meth c Hp lcs cells slots Q (F0 m 184 ls [.int (nI 1)]) := by
  obtain ⟨vso, ho⟩ := hI.obj
  obtain ⟨vsq, hoq⟩ := hJ.obj
  have hn16 := hv.2.1
  refine lv_istore (lv' := [(9, .int (nI 1)), (0, .ref b), (1, .ref o), (2, .ref q), (3, .int (nI t)), (4, .int v), (5, .int m9), (7, .int (nI fa))]) hx hb dL_law_184 hl (by decide) rfl (fun ls hl => ?_)
  refine lv_iload hx hb dL_law_186 (lv_at hl 0 rfl) ?_
  refine lv_if_eq (tgt := 198) hx hb dL_law_188 (by decide) (fun hq9 => absurd hq9 (by decide)) (fun _ => ?_)
  refine lv_aload_n hx hb dL_law_191 rfl (lv_at hl 2 rfl) ?_
  refine mm_S2 (As := [.ref o]) (rest := []) ⟨hx, hb, hml, hown, hts⟩ (l_areContradictions l G hI hv) (va_cwS 1 hts gL_law_L_areContradictions rfl rfl rfl (by decide +kernel) ⟨Nat.le_of_ble_eq_true rfl, Nat.le_of_ble_eq_true rfl⟩) hK hE hA hM hh hap rfl hl.1 rfl (Nat.le_of_ble_eq_true rfl) dL_law_192 ⟨by show _ ≤ (600000 : Nat); omega, by show _ ≤ (7302250 : Nat); omega⟩ (fun v9 f Hp lcs hp hM hh hap => ?_)
  obtain ⟨rfl, hI⟩ := hp
  obtain ⟨vso, ho⟩ := hI.obj
  refine lv_if_ne (tgt := 200) hx hb dL_law_195 (by decide) (fun _ => ?_) (fun hq9 => absurd hq9 (by decide))
  refine lv_iconst (v := (nI 0)) hx hb dL_law_200 (by decide +kernel) ?_
  refine lv_istore (lv' := [(10, .int (nI 0)), (9, .int (nI 1)), (0, .ref b), (1, .ref o), (2, .ref q), (3, .int (nI t)), (4, .int v), (5, .int m9), (7, .int (nI fa))]) hx hb dL_law_201 hl (by decide) rfl (fun ls hl => ?_)
  refine lv_iload hx hb dL_law_203 (lv_at hl 0 rfl) ?_
  refine lv_iconst (v := (nI 4)) hx hb dL_law_205 (by decide +kernel) ?_
  refine ln_icmp_ge 0 4 (by omega) (by omega) (tgt := 226) hx hb dL_law_206 (by decide) (fun hq9 => absurd hq9 (by decide)) (fun _ => ?_)
  refine lv_aload_n hx hb dL_law_209 rfl (lv_at hl 3 rfl) ?_
  refine lv_iload hx hb dL_law_210 (lv_at hl 0 rfl) ?_
  refine mm_S2 (As := [.ref o, .int (nI 0)]) (rest := []) ⟨hx, hb, hml, hown, hts⟩ (l_isAnswer l G hI hv (r := 0) (by omega)) (va_cwS 2 hts gL_law_L_isAnswer rfl rfl rfl (by decide +kernel) ⟨Nat.le_of_ble_eq_true rfl, Nat.le_of_ble_eq_true rfl⟩) hK hE hA hM hh hap rfl hl.1 rfl (Nat.le_of_ble_eq_true rfl) dL_law_212 ⟨by show _ ≤ (600000 : Nat); omega, by show _ ≤ (7302250 : Nat); omega⟩ (fun v9 f Hp lcs hp hM hh hap => ?_)
  obtain ⟨rfl, hI⟩ := hp
  obtain ⟨vso, ho⟩ := hI.obj
  refine lv_if_ne (tgt := 220) hx hb dL_law_215 (by decide) (fun _ => ?_) (fun hq9 => absurd hq9 (by decide))
  refine lv_iinc (v := (nI 1)) (lv' := [(10, .int (nI 1)), (9, .int (nI 1)), (0, .ref b), (1, .ref o), (2, .ref q), (3, .int (nI t)), (4, .int v), (5, .int m9), (7, .int (nI fa))]) hx hb dL_law_220 hl (k := 0) rfl (by decide) (by decide) rfl (fun ls hl => ?_)
  refine lv_goto (tgt := 203) hx hb dL_law_223 (by decide) ?_
  refine lv_iload hx hb dL_law_203 (lv_at hl 0 rfl) ?_
  refine lv_iconst (v := (nI 4)) hx hb dL_law_205 (by decide +kernel) ?_
  refine ln_icmp_ge 1 4 (by omega) (by omega) (tgt := 226) hx hb dL_law_206 (by decide) (fun hq9 => absurd hq9 (by decide)) (fun _ => ?_)
  refine lv_aload_n hx hb dL_law_209 rfl (lv_at hl 3 rfl) ?_
  refine lv_iload hx hb dL_law_210 (lv_at hl 0 rfl) ?_
  refine mm_S2 (As := [.ref o, .int (nI 1)]) (rest := []) ⟨hx, hb, hml, hown, hts⟩ (l_isAnswer l G hI hv (r := 1) (by omega)) (va_cwS 2 hts gL_law_L_isAnswer rfl rfl rfl (by decide +kernel) ⟨Nat.le_of_ble_eq_true rfl, Nat.le_of_ble_eq_true rfl⟩) hK hE hA hM hh hap rfl hl.1 rfl (Nat.le_of_ble_eq_true rfl) dL_law_212 ⟨by show _ ≤ (600000 : Nat); omega, by show _ ≤ (7302250 : Nat); omega⟩ (fun v9 f Hp lcs hp hM hh hap => ?_)
  obtain ⟨rfl, hI⟩ := hp
  obtain ⟨vso, ho⟩ := hI.obj
  refine lv_if_ne (tgt := 220) hx hb dL_law_215 (by decide) (fun _ => ?_) (fun hq9 => absurd hq9 (by decide))
  refine lv_iinc (v := (nI 2)) (lv' := [(10, .int (nI 2)), (9, .int (nI 1)), (0, .ref b), (1, .ref o), (2, .ref q), (3, .int (nI t)), (4, .int v), (5, .int m9), (7, .int (nI fa))]) hx hb dL_law_220 hl (k := 0) rfl (by decide) (by decide) rfl (fun ls hl => ?_)
  refine lv_goto (tgt := 203) hx hb dL_law_223 (by decide) ?_
  refine lv_iload hx hb dL_law_203 (lv_at hl 0 rfl) ?_
  refine lv_iconst (v := (nI 4)) hx hb dL_law_205 (by decide +kernel) ?_
  refine ln_icmp_ge 2 4 (by omega) (by omega) (tgt := 226) hx hb dL_law_206 (by decide) (fun hq9 => absurd hq9 (by decide)) (fun _ => ?_)
  refine lv_aload_n hx hb dL_law_209 rfl (lv_at hl 3 rfl) ?_
  refine lv_iload hx hb dL_law_210 (lv_at hl 0 rfl) ?_
  refine mm_S2 (As := [.ref o, .int (nI 2)]) (rest := []) ⟨hx, hb, hml, hown, hts⟩ (l_isAnswer l G hI hv (r := 2) (by omega)) (va_cwS 2 hts gL_law_L_isAnswer rfl rfl rfl (by decide +kernel) ⟨Nat.le_of_ble_eq_true rfl, Nat.le_of_ble_eq_true rfl⟩) hK hE hA hM hh hap rfl hl.1 rfl (Nat.le_of_ble_eq_true rfl) dL_law_212 ⟨by show _ ≤ (600000 : Nat); omega, by show _ ≤ (7302250 : Nat); omega⟩ (fun v9 f Hp lcs hp hM hh hap => ?_)
  obtain ⟨rfl, hI⟩ := hp
  obtain ⟨vso, ho⟩ := hI.obj
  refine lv_if_ne (tgt := 220) hx hb dL_law_215 (by decide) (fun _ => ?_) (fun hq9 => absurd hq9 (by decide))
  refine lv_iinc (v := (nI 3)) (lv' := [(10, .int (nI 3)), (9, .int (nI 1)), (0, .ref b), (1, .ref o), (2, .ref q), (3, .int (nI t)), (4, .int v), (5, .int m9), (7, .int (nI fa))]) hx hb dL_law_220 hl (k := 0) rfl (by decide) (by decide) rfl (fun ls hl => ?_)
  refine lv_goto (tgt := 203) hx hb dL_law_223 (by decide) ?_
  refine lv_iload hx hb dL_law_203 (lv_at hl 0 rfl) ?_
  refine lv_iconst (v := (nI 4)) hx hb dL_law_205 (by decide +kernel) ?_
  refine ln_icmp_ge 3 4 (by omega) (by omega) (tgt := 226) hx hb dL_law_206 (by decide) (fun hq9 => absurd hq9 (by decide)) (fun _ => ?_)
  refine lv_aload_n hx hb dL_law_209 rfl (lv_at hl 3 rfl) ?_
  refine lv_iload hx hb dL_law_210 (lv_at hl 0 rfl) ?_
  refine mm_S2 (As := [.ref o, .int (nI 3)]) (rest := []) ⟨hx, hb, hml, hown, hts⟩ (l_isAnswer l G hI hv (r := 3) (by omega)) (va_cwS 2 hts gL_law_L_isAnswer rfl rfl rfl (by decide +kernel) ⟨Nat.le_of_ble_eq_true rfl, Nat.le_of_ble_eq_true rfl⟩) hK hE hA hM hh hap rfl hl.1 rfl (Nat.le_of_ble_eq_true rfl) dL_law_212 ⟨by show _ ≤ (600000 : Nat); omega, by show _ ≤ (7302250 : Nat); omega⟩ (fun v9 f Hp lcs hp hM hh hap => ?_)
  obtain ⟨rfl, hI⟩ := hp
  obtain ⟨vso, ho⟩ := hI.obj
  refine lv_if_ne (tgt := 220) hx hb dL_law_215 (by decide) (fun _ => ?_) (fun hq9 => absurd hq9 (by decide))
  refine lv_iinc (v := (nI 4)) (lv' := [(10, .int (nI 4)), (9, .int (nI 1)), (0, .ref b), (1, .ref o), (2, .ref q), (3, .int (nI t)), (4, .int v), (5, .int m9), (7, .int (nI fa))]) hx hb dL_law_220 hl (k := 0) rfl (by decide) (by decide) rfl (fun ls hl => ?_)
  refine lv_goto (tgt := 203) hx hb dL_law_223 (by decide) ?_
  refine lv_iload hx hb dL_law_203 (lv_at hl 0 rfl) ?_
  refine lv_iconst (v := (nI 4)) hx hb dL_law_205 (by decide +kernel) ?_
  refine ln_icmp_ge 4 4 (by omega) (by omega) (tgt := 226) hx hb dL_law_206 (by decide) (fun _ => ?_) (fun hq9 => absurd hq9 (by decide))
  refine lv_aload_n hx hb dL_law_226 rfl (lv_at hl 3 rfl) ?_
  refine mm_V2 (As := []) (rest := []) ⟨hx, hb, hml, hown, hts⟩ (p_sentences l G hI hv) (cwV 0 hts gL_law_X5_sentences rfl rfl rfl (by decide +kernel) ⟨Nat.le_of_ble_eq_true rfl, Nat.le_of_ble_eq_true rfl⟩) hK hE hA hM hh hap (mm_recv hK hM ho (q := (RX5, TX5, 7)) rfl) rfl hl.1 rfl (Nat.le_of_ble_eq_true rfl) dL_law_227 ⟨by show _ ≤ (600000 : Nat); omega, by show _ ≤ (7302250 : Nat); omega⟩ (fun v9 f Hp lcs hp hM hh hap => ?_)
  obtain ⟨rfl, hI⟩ := hp
  obtain ⟨vso, ho⟩ := hI.obj
  refine lv_istore (lv' := [(6, .int (nI n)), (10, .int (nI 4)), (9, .int (nI 1)), (0, .ref b), (1, .ref o), (2, .ref q), (3, .int (nI t)), (4, .int v), (5, .int m9), (7, .int (nI fa))]) hx hb dL_law_230 hl (by decide) rfl (fun ls hl => ?_)
  refine lv_iload hx hb dL_law_232 (lv_at hl 0 rfl) ?_
  refine ln_if_le n (by omega) (tgt := 276) hx hb dL_law_234 (by decide) (fun cz6 => ?_) (fun cz6 => ?_)
  · refine lv_aload_n hx hb dL_law_276 rfl (lv_at hl 4 rfl) ?_
    refine lv_iload hx hb dL_law_277 (lv_at hl 8 rfl) ?_
    refine lv_iconst (v := (nI 2)) hx hb dL_law_279 (by decide +kernel) ?_
    refine lv_ishr hx hb dL_law_280 ?_
    refine mv_top (y := (sr m9 2)) rfl ?_
    refine lv_iconst (v := (nI 4)) hx hb dL_law_281 (by decide +kernel) ?_
    refine mm_S2 (As := [.int (sr m9 2), .int (nI 4)]) (rest := [.ref o]) ⟨hx, hb, hml, hown, hts⟩ (l_low l G f (sr m9 2) 4 (by decide) (by decide)) (va_cwS 2 hts gL_law_L_low rfl rfl rfl (by decide +kernel) ⟨Nat.le_of_ble_eq_true rfl, Nat.le_of_ble_eq_true rfl⟩) hK hE hA hM hh hap rfl hl.1 rfl (Nat.le_of_ble_eq_true rfl) dL_law_282 ⟨by show _ ≤ (600000 : Nat); omega, by show _ ≤ (7302250 : Nat); omega⟩ (fun v9 f1 Hp lcs hp hM hh hap => ?_)
    obtain ⟨rfl, hf⟩ := hp; subst hf
    have hz7 := lowN_lt (sr m9 2) (n := 4) (by decide)
    refine lv_iload hx hb dL_law_285 (lv_at hl 9 rfl) ?_
    refine lv_iload hx hb dL_law_287 (lv_at hl 8 rfl) ?_
    refine lv_iconst (v := (nI 5)) hx hb dL_law_289 (by decide +kernel) ?_
    refine lv_ishr hx hb dL_law_290 ?_
    refine mv_top (y := (sr m9 5)) rfl ?_
    refine lv_iconst (v := (nI 4)) hx hb dL_law_291 (by decide +kernel) ?_
    refine mm_S2 (As := [.int (sr m9 5), .int (nI 4)]) (rest := [.int (nI fa), .int (nI (lowN (sr m9 2) 4)), .ref o]) ⟨hx, hb, hml, hown, hts⟩ (l_low l G f (sr m9 5) 4 (by decide) (by decide)) (va_cwS 2 hts gL_law_L_low rfl rfl rfl (by decide +kernel) ⟨Nat.le_of_ble_eq_true rfl, Nat.le_of_ble_eq_true rfl⟩) hK hE hA hM hh hap rfl hl.1 rfl (Nat.le_of_ble_eq_true rfl) dL_law_292 ⟨by show _ ≤ (600000 : Nat); omega, by show _ ≤ (7302250 : Nat); omega⟩ (fun v9 f1 Hp lcs hp hM hh hap => ?_)
    obtain ⟨rfl, hf⟩ := hp; subst hf
    have hz8 := lowN_lt (sr m9 5) (n := 4) (by decide)
    refine mm_S2 (As := [.ref o, .int (nI (lowN (sr m9 2) 4)), .int (nI fa), .int (nI (lowN (sr m9 5) 4))]) (rest := []) ⟨hx, hb, hml, hown, hts⟩ (l_isForetold l G hI hv hX9.2.1 (r := (lowN (sr m9 2) 4)) (j := fa) (w := (lowN (sr m9 5) 4)) (by omega) (by omega) (by omega)) (va_cwS 4 hts gL_law_L_isForetold rfl rfl rfl (by decide +kernel) ⟨Nat.le_of_ble_eq_true rfl, Nat.le_of_ble_eq_true rfl⟩) hK hE hA hM hh hap rfl hl.1 rfl (Nat.le_of_ble_eq_true rfl) dL_law_295 ⟨by show _ ≤ (600000 : Nat); omega, by show _ ≤ (7302250 : Nat); omega⟩ (fun v9 f Hp lcs hp hM hh hap => ?_)
    obtain ⟨rfl, hI⟩ := hp
    obtain ⟨vso, ho⟩ := hI.obj
    refine lv_if_ne (tgt := 303) hx hb dL_law_298 (by decide) (fun _ => ?_) (fun hq9 => absurd hq9 (by decide))
    refine W.widen (k := cells + 7) (n := slots + 82) (by omega) (by omega) ?_
    exact kk f h _ _ ls hM hh hap ⟨S, P, P2, rc, rc2, n, cn, hI, hJ, hv, hX9⟩ (lv_sub hl [6, 5, 4, 3] rfl)
  refine lv_aload_n hx hb dL_law_237 rfl (lv_at hl 4 rfl) ?_
  refine lv_iload hx hb dL_law_238 (lv_at hl 7 rfl) ?_
  refine lv_iload hx hb dL_law_240 (lv_at hl 0 rfl) ?_
  refine mm_S2 (As := [.int v, .int (nI n)]) (rest := [.ref o]) ⟨hx, hb, hml, hown, hts⟩ (l_low l G f v n (by omega) (by omega)) (va_cwS 2 hts gL_law_L_low rfl rfl rfl (by decide +kernel) ⟨Nat.le_of_ble_eq_true rfl, Nat.le_of_ble_eq_true rfl⟩) hK hE hA hM hh hap rfl hl.1 rfl (Nat.le_of_ble_eq_true rfl) dL_law_242 ⟨by show _ ≤ (600000 : Nat); omega, by show _ ≤ (7302250 : Nat); omega⟩ (fun v9 f1 Hp lcs hp hM hh hap => ?_)
  obtain ⟨rfl, hf⟩ := hp; subst hf
  have hz9 := lowN_lt v (n := n) (by omega)
  refine lv_iload hx hb dL_law_245 (lv_at hl 8 rfl) ?_
  refine lv_iload hx hb dL_law_247 (lv_at hl 0 rfl) ?_
  refine mm_S2 (As := [.int m9, .int (nI n)]) (rest := [.int (nI (lowN v n)), .ref o]) ⟨hx, hb, hml, hown, hts⟩ (l_low l G f m9 n (by omega) (by omega)) (va_cwS 2 hts gL_law_L_low rfl rfl rfl (by decide +kernel) ⟨Nat.le_of_ble_eq_true rfl, Nat.le_of_ble_eq_true rfl⟩) hK hE hA hM hh hap rfl hl.1 rfl (Nat.le_of_ble_eq_true rfl) dL_law_249 ⟨by show _ ≤ (600000 : Nat); omega, by show _ ≤ (7302250 : Nat); omega⟩ (fun v9 f1 Hp lcs hp hM hh hap => ?_)
  obtain ⟨rfl, hf⟩ := hp; subst hf
  have hz10 := lowN_lt m9 (n := n) (by omega)
  refine mm_S2 (As := [.ref o, .int (nI (lowN v n)), .int (nI (lowN m9 n))]) (rest := []) ⟨hx, hb, hml, hown, hts⟩ (l_areCompared l G hI hv hX9.1 (a := (lowN v n)) (b := (lowN m9 n)) (by omega) (by omega)) (va_cwS 3 hts gL_law_L_areCompared rfl rfl rfl (by decide +kernel) ⟨Nat.le_of_ble_eq_true rfl, Nat.le_of_ble_eq_true rfl⟩) hK hE hA hM hh hap rfl hl.1 rfl (Nat.le_of_ble_eq_true rfl) dL_law_252 ⟨by show _ ≤ (600000 : Nat); omega, by show _ ≤ (7302250 : Nat); omega⟩ (fun v9 f Hp lcs hp hM hh hap => ?_)
  obtain ⟨rfl, hI⟩ := hp
  obtain ⟨vso, ho⟩ := hI.obj
  refine lv_if_eq (tgt := 274) hx hb dL_law_255 (by decide) (fun hq9 => absurd hq9 (by decide)) (fun _ => ?_)
  refine lv_aload_n hx hb dL_law_258 rfl (lv_at hl 4 rfl) ?_
  refine lv_iload hx hb dL_law_259 (lv_at hl 8 rfl) ?_
  refine lv_iconst (v := (nI 4)) hx hb dL_law_261 (by decide +kernel) ?_
  refine lv_ishr hx hb dL_law_262 ?_
  refine mv_top (y := (sr m9 4)) rfl ?_
  refine lv_iload hx hb dL_law_263 (lv_at hl 0 rfl) ?_
  refine mm_S2 (As := [.int (sr m9 4), .int (nI n)]) (rest := [.ref o]) ⟨hx, hb, hml, hown, hts⟩ (l_low l G f (sr m9 4) n (by omega) (by omega)) (va_cwS 2 hts gL_law_L_low rfl rfl rfl (by decide +kernel) ⟨Nat.le_of_ble_eq_true rfl, Nat.le_of_ble_eq_true rfl⟩) hK hE hA hM hh hap rfl hl.1 rfl (Nat.le_of_ble_eq_true rfl) dL_law_265 ⟨by show _ ≤ (600000 : Nat); omega, by show _ ≤ (7302250 : Nat); omega⟩ (fun v9 f1 Hp lcs hp hM hh hap => ?_)
  obtain ⟨rfl, hf⟩ := hp; subst hf
  have hz11 := lowN_lt (sr m9 4) (n := n) (by omega)
  refine mm_S2 (As := [.ref o, .int (nI (lowN (sr m9 4) n))]) (rest := []) ⟨hx, hb, hml, hown, hts⟩ (l_isMatter l G hI hv hX9.2.2 (k := (lowN (sr m9 4) n)) (by omega)) (va_cwS 2 hts gL_law_L_isMatter rfl rfl rfl (by decide +kernel) ⟨Nat.le_of_ble_eq_true rfl, Nat.le_of_ble_eq_true rfl⟩) hK hE hA hM hh hap rfl hl.1 rfl (Nat.le_of_ble_eq_true rfl) dL_law_268 ⟨by show _ ≤ (600000 : Nat); omega, by show _ ≤ (7302250 : Nat); omega⟩ (fun v9 f Hp lcs hp hM hh hap => ?_)
  obtain ⟨rfl, P, rc, hI⟩ := hp
  obtain ⟨vso, ho⟩ := hI.obj
  refine lv_if_ne (tgt := 276) hx hb dL_law_271 (by decide) (fun _ => ?_) (fun hq9 => absurd hq9 (by decide))
  refine lv_aload_n hx hb dL_law_276 rfl (lv_at hl 4 rfl) ?_
  refine lv_iload hx hb dL_law_277 (lv_at hl 8 rfl) ?_
  refine lv_iconst (v := (nI 2)) hx hb dL_law_279 (by decide +kernel) ?_
  refine lv_ishr hx hb dL_law_280 ?_
  refine mv_top (y := (sr m9 2)) rfl ?_
  refine lv_iconst (v := (nI 4)) hx hb dL_law_281 (by decide +kernel) ?_
  refine mm_S2 (As := [.int (sr m9 2), .int (nI 4)]) (rest := [.ref o]) ⟨hx, hb, hml, hown, hts⟩ (l_low l G f (sr m9 2) 4 (by decide) (by decide)) (va_cwS 2 hts gL_law_L_low rfl rfl rfl (by decide +kernel) ⟨Nat.le_of_ble_eq_true rfl, Nat.le_of_ble_eq_true rfl⟩) hK hE hA hM hh hap rfl hl.1 rfl (Nat.le_of_ble_eq_true rfl) dL_law_282 ⟨by show _ ≤ (600000 : Nat); omega, by show _ ≤ (7302250 : Nat); omega⟩ (fun v9 f1 Hp lcs hp hM hh hap => ?_)
  obtain ⟨rfl, hf⟩ := hp; subst hf
  have hz12 := lowN_lt (sr m9 2) (n := 4) (by decide)
  refine lv_iload hx hb dL_law_285 (lv_at hl 9 rfl) ?_
  refine lv_iload hx hb dL_law_287 (lv_at hl 8 rfl) ?_
  refine lv_iconst (v := (nI 5)) hx hb dL_law_289 (by decide +kernel) ?_
  refine lv_ishr hx hb dL_law_290 ?_
  refine mv_top (y := (sr m9 5)) rfl ?_
  refine lv_iconst (v := (nI 4)) hx hb dL_law_291 (by decide +kernel) ?_
  refine mm_S2 (As := [.int (sr m9 5), .int (nI 4)]) (rest := [.int (nI fa), .int (nI (lowN (sr m9 2) 4)), .ref o]) ⟨hx, hb, hml, hown, hts⟩ (l_low l G f (sr m9 5) 4 (by decide) (by decide)) (va_cwS 2 hts gL_law_L_low rfl rfl rfl (by decide +kernel) ⟨Nat.le_of_ble_eq_true rfl, Nat.le_of_ble_eq_true rfl⟩) hK hE hA hM hh hap rfl hl.1 rfl (Nat.le_of_ble_eq_true rfl) dL_law_292 ⟨by show _ ≤ (600000 : Nat); omega, by show _ ≤ (7302250 : Nat); omega⟩ (fun v9 f1 Hp lcs hp hM hh hap => ?_)
  obtain ⟨rfl, hf⟩ := hp; subst hf
  have hz13 := lowN_lt (sr m9 5) (n := 4) (by decide)
  refine mm_S2 (As := [.ref o, .int (nI (lowN (sr m9 2) 4)), .int (nI fa), .int (nI (lowN (sr m9 5) 4))]) (rest := []) ⟨hx, hb, hml, hown, hts⟩ (l_isForetold l G hI hv hX9.2.1 (r := (lowN (sr m9 2) 4)) (j := fa) (w := (lowN (sr m9 5) 4)) (by omega) (by omega) (by omega)) (va_cwS 4 hts gL_law_L_isForetold rfl rfl rfl (by decide +kernel) ⟨Nat.le_of_ble_eq_true rfl, Nat.le_of_ble_eq_true rfl⟩) hK hE hA hM hh hap rfl hl.1 rfl (Nat.le_of_ble_eq_true rfl) dL_law_295 ⟨by show _ ≤ (600000 : Nat); omega, by show _ ≤ (7302250 : Nat); omega⟩ (fun v9 f Hp lcs hp hM hh hap => ?_)
  obtain ⟨rfl, hI⟩ := hp
  obtain ⟨vso, ho⟩ := hI.obj
  refine lv_if_ne (tgt := 303) hx hb dL_law_298 (by decide) (fun _ => ?_) (fun hq9 => absurd hq9 (by decide))
  refine W.widen (k := cells + 7) (n := slots + 82) (by omega) (by omega) ?_
  exact kk f h _ _ ls hM hh hap ⟨S, P, P2, rc, rc2, n, cn, hI, hJ, hv, hX9⟩ (lv_sub hl [6, 5, 4, 3] rfl)
set_option maxHeartbeats 4000000 in
set_option maxRecDepth 100000 in
theorem law_a {p : Program} {l : Launch} {e : Env} {s : State} {m : MethodId} {args : Array Value} {below : List Frame} {meth : Method} {c : Code} {G : mG} {A : Nat → Prop} {Q : State → Prop} {b L : Nat} {xs : Nat → Int32} (hx : p.tables.exec = Jvm.exec) (hb : c.code = cL_law) (hml : c.maxLocals = 11) (hown : s.vm.findClass RL = some m.cls) (hts : ∀ w ∈ wsL_law, w.before args s = true) (hK : va_K G.1 vwCl (mT G) s) (hE : mS G A s s.heap) (hA : ∀ q, s.heap.size ≤ q → A q) (hX : va_X b L xs s s.heap) (hbl : b < s.heap.size) (hbA : ¬ A b) (hL : L ≤ 260) {f h : mE} {o q t cells slots : Nat} {Hp : Heap} {lcs : List Loc} {ls : Array Slot} (hM : mM G A s.heap f Hp lcs) (hh : mD G A h Hp) (hap : mAp f h) (h20 : t < 20) {S P P2 : Nat → Int32} {rc rc2 n cn : Nat} (hI : CI G f o S P rc) (hJ : CI G h q S P2 rc2) (hv : VSn S n cn) (hX9 : VX S n) (hl : lv_has ls 11 [(0, .ref b), (1, .ref o), (2, .ref q), (3, .int (nI t))]) (hr1 : cells + 1247 ≤ 600000) (hr2 : slots + 3900 ≤ 7302250)
    (kk : ∀ (f h : mE) (Hp : Heap) (lcs : List Loc) (ls : Array Slot), mM G A s.heap f Hp lcs → mD G A h Hp → mAp f h → L2 G f h o q → lv_has ls 11 [(3, .int (nI t)), (2, .ref q), (1, .ref o), (0, .ref b)] → W p l e room_1 s m args below meth c Hp lcs (cells + 1247) (slots + 3900) Q (F0 m 303 ls [])) : W p l e room_1 s m args below meth c Hp lcs cells slots Q (F0 m 24 ls []) := by
  obtain ⟨vso, ho⟩ := hI.obj
  obtain ⟨vsq, hoq⟩ := hJ.obj
  have hn16 := hv.2.1
  refine lv_aload_n hx hb dL_law_24 rfl (lv_at hl 0 rfl) ?_
  refine lv_iconst (v := (nI 2)) hx hb dL_law_25 (by decide +kernel) ?_
  refine lv_iload_n hx hb dL_law_26 rfl (lv_at hl 3 rfl) ?_
  refine ln_imul 2 t hx hb dL_law_27 ?_
  obtain ⟨v, hce⟩ := l_cell l G f (b := b) (xs := xs) hL (2 * t) (by omega)
  refine mm_SX (As := [.ref b, .int (nI (2 * t))]) (rest := []) ⟨hx, hb, hml, hown, hts⟩ (hce) (va_cwS 2 hts gL_law_L_cell rfl rfl rfl (by decide +kernel) ⟨Nat.le_of_ble_eq_true rfl, Nat.le_of_ble_eq_true rfl⟩) hK hE hA hX hbl hbA hM hh hap rfl hl.1 rfl (Nat.le_of_ble_eq_true rfl) dL_law_28 ⟨by show _ ≤ (600000 : Nat); omega, by show _ ≤ (7302250 : Nat); omega⟩ (fun v9 f1 Hp lcs hp hM hh hap => ?_)
  obtain ⟨rfl, hf⟩ := hp; subst hf
  refine lv_istore (lv' := [(4, .int v), (0, .ref b), (1, .ref o), (2, .ref q), (3, .int (nI t))]) hx hb dL_law_31 hl (by decide) rfl (fun ls hl => ?_)
  refine lv_aload_n hx hb dL_law_33 rfl (lv_at hl 1 rfl) ?_
  refine lv_iconst (v := (nI 2)) hx hb dL_law_34 (by decide +kernel) ?_
  refine lv_iload_n hx hb dL_law_35 rfl (lv_at hl 4 rfl) ?_
  refine ln_imul 2 t hx hb dL_law_36 ?_
  refine lv_iconst (v := (nI 1)) hx hb dL_law_37 (by decide +kernel) ?_
  refine ln_iadd (2 * t) 1 hx hb dL_law_38 ?_
  obtain ⟨m9, hce⟩ := l_cell l G f (b := b) (xs := xs) hL ((2 * t) + 1) (by omega)
  refine mm_SX (As := [.ref b, .int (nI ((2 * t) + 1))]) (rest := []) ⟨hx, hb, hml, hown, hts⟩ (hce) (va_cwS 2 hts gL_law_L_cell rfl rfl rfl (by decide +kernel) ⟨Nat.le_of_ble_eq_true rfl, Nat.le_of_ble_eq_true rfl⟩) hK hE hA hX hbl hbA hM hh hap rfl hl.1 rfl (Nat.le_of_ble_eq_true rfl) dL_law_39 ⟨by show _ ≤ (600000 : Nat); omega, by show _ ≤ (7302250 : Nat); omega⟩ (fun v9 f1 Hp lcs hp hM hh hap => ?_)
  obtain ⟨rfl, hf⟩ := hp; subst hf
  refine lv_istore (lv' := [(5, .int m9), (4, .int v), (0, .ref b), (1, .ref o), (2, .ref q), (3, .int (nI t))]) hx hb dL_law_42 hl (by decide) rfl (fun ls hl => ?_)
  refine lv_aload_n hx hb dL_law_44 rfl (lv_at hl 3 rfl) ?_
  refine mm_V2 (As := []) (rest := []) ⟨hx, hb, hml, hown, hts⟩ (p_sentences l G hI hv) (cwV 0 hts gL_law_X5_sentences rfl rfl rfl (by decide +kernel) ⟨Nat.le_of_ble_eq_true rfl, Nat.le_of_ble_eq_true rfl⟩) hK hE hA hM hh hap (mm_recv hK hM ho (q := (RX5, TX5, 7)) rfl) rfl hl.1 rfl (Nat.le_of_ble_eq_true rfl) dL_law_45 ⟨by show _ ≤ (600000 : Nat); omega, by show _ ≤ (7302250 : Nat); omega⟩ (fun v9 f Hp lcs hp hM hh hap => ?_)
  obtain ⟨rfl, hI⟩ := hp
  obtain ⟨vso, ho⟩ := hI.obj
  refine lv_istore (lv' := [(6, .int (nI n)), (5, .int m9), (4, .int v), (0, .ref b), (1, .ref o), (2, .ref q), (3, .int (nI t))]) hx hb dL_law_48 hl (by decide) rfl (fun ls hl => ?_)
  refine lv_iload hx hb dL_law_50 (lv_at hl 2 rfl) ?_
  refine lv_bipush (v := (nI 7)) hx hb dL_law_52 (by decide +kernel) ?_
  refine lv_ishr hx hb dL_law_54 ?_
  refine mv_top (y := (sr v 7)) rfl ?_
  refine lv_bipush (v := (nI 7)) hx hb dL_law_55 (by decide +kernel) ?_
  refine mm_S2 (As := [.int (sr v 7), .int (nI 7)]) (rest := []) ⟨hx, hb, hml, hown, hts⟩ (l_low l G f (sr v 7) 7 (by decide) (by decide)) (va_cwS 2 hts gL_law_L_low rfl rfl rfl (by decide +kernel) ⟨Nat.le_of_ble_eq_true rfl, Nat.le_of_ble_eq_true rfl⟩) hK hE hA hM hh hap rfl hl.1 rfl (Nat.le_of_ble_eq_true rfl) dL_law_57 ⟨by show _ ≤ (600000 : Nat); omega, by show _ ≤ (7302250 : Nat); omega⟩ (fun v9 f1 Hp lcs hp hM hh hap => ?_)
  obtain ⟨rfl, hf⟩ := hp; subst hf
  have hz1 := lowN_lt (sr v 7) (n := 7) (by decide)
  obtain ⟨fa, efa⟩ : ∃ z : Nat, z = lowN (sr v 7) 7 := ⟨_, rfl⟩
  refine mv_top (y := nI fa) (by rw [efa]) ?_
  have hfa : fa < 7 := (by omega)
  refine lv_istore (lv' := [(7, .int (nI fa)), (6, .int (nI n)), (5, .int m9), (4, .int v), (0, .ref b), (1, .ref o), (2, .ref q), (3, .int (nI t))]) hx hb dL_law_60 hl (by decide) rfl (fun ls hl => ?_)
  refine lv_iload hx hb dL_law_62 (lv_at hl 3 rfl) ?_
  refine lv_bipush (v := (nI 13)) hx hb dL_law_64 (by decide +kernel) ?_
  refine lv_ishr hx hb dL_law_66 ?_
  refine mv_top (y := (sr v 13)) rfl ?_
  refine lv_bipush (v := (nI 8)) hx hb dL_law_67 (by decide +kernel) ?_
  refine mm_S2 (As := [.int (sr v 13), .int (nI 8)]) (rest := []) ⟨hx, hb, hml, hown, hts⟩ (l_low l G f (sr v 13) 8 (by decide) (by decide)) (va_cwS 2 hts gL_law_L_low rfl rfl rfl (by decide +kernel) ⟨Nat.le_of_ble_eq_true rfl, Nat.le_of_ble_eq_true rfl⟩) hK hE hA hM hh hap rfl hl.1 rfl (Nat.le_of_ble_eq_true rfl) dL_law_69 ⟨by show _ ≤ (600000 : Nat); omega, by show _ ≤ (7302250 : Nat); omega⟩ (fun v9 f1 Hp lcs hp hM hh hap => ?_)
  obtain ⟨rfl, hf⟩ := hp; subst hf
  have hz2 := lowN_lt (sr v 13) (n := 8) (by decide)
  obtain ⟨wh, ewh⟩ : ∃ z : Nat, z = lowN (sr v 13) 8 := ⟨_, rfl⟩
  refine mv_top (y := nI wh) (by rw [ewh]) ?_
  have hwh : wh < 8 := (by omega)
  refine lv_istore (lv' := [(8, .int (nI wh)), (7, .int (nI fa)), (6, .int (nI n)), (5, .int m9), (4, .int v), (0, .ref b), (1, .ref o), (2, .ref q), (3, .int (nI t))]) hx hb dL_law_72 hl (by decide) rfl (fun ls hl => ?_)
  refine lv_iload hx hb dL_law_74 (lv_at hl 0 rfl) ?_
  refine ln_if_ne wh (by omega) (tgt := 117) hx hb dL_law_76 (by decide) (fun cz3 => ?_) (fun cz3 => ?_)
  · refine lv_iload hx hb dL_law_117 (lv_at hl 0 rfl) ?_
    refine lv_iconst (v := (nI 3)) hx hb dL_law_119 (by decide +kernel) ?_
    refine ln_icmp_ge wh 3 (by omega) (by omega) (tgt := 160) hx hb dL_law_120 (by decide) (fun cz4 => ?_) (fun cz4 => ?_)
    · refine lv_aload_n hx hb dL_law_160 rfl (lv_at hl 6 rfl) ?_
      refine lv_iload hx hb dL_law_161 (lv_at hl 4 rfl) ?_
      refine lv_iload hx hb dL_law_163 (lv_at hl 3 rfl) ?_
      refine mm_S2 (As := [.ref o, .int v, .int m9]) (rest := []) ⟨hx, hb, hml, hown, hts⟩ (l_tell l G hI hv v m9) (va_cwS 3 hts gL_law_L_tell rfl rfl rfl (by decide +kernel) ⟨Nat.le_of_ble_eq_true rfl, Nat.le_of_ble_eq_true rfl⟩) hK hE hA hM hh hap rfl hl.1 rfl (Nat.le_of_ble_eq_true rfl) dL_law_165 ⟨by show _ ≤ (600000 : Nat); omega, by show _ ≤ (7302250 : Nat); omega⟩ (fun v9 f Hp lcs hp hM hh hap => ?_)
      obtain ⟨rfl, ⟨P, rc, hI⟩, cn9, hv9⟩ := hp
      obtain ⟨vso, ho⟩ := hI.obj
      refine lv_aload_n hx hb dL_law_168 rfl (lv_at hl 7 rfl) ?_
      refine lv_iload hx hb dL_law_169 (lv_at hl 4 rfl) ?_
      refine lv_iload hx hb dL_law_171 (lv_at hl 3 rfl) ?_
      refine mm_S2 (As := [.ref q, .int v, .int m9]) (rest := [.int (tlV S n cn v m9)]) ⟨hx, hb, hml, hown, hts⟩ (l_tell l G hJ hv v m9) (va_cwS 3 hts gL_law_L_tell rfl rfl rfl (by decide +kernel) ⟨Nat.le_of_ble_eq_true rfl, Nat.le_of_ble_eq_true rfl⟩) hK hE hA (show mM G A s.heap h Hp _ from ⟨hh, hM.2⟩) hM.1 hap.symm rfl hl.1 rfl (Nat.le_of_ble_eq_true rfl) dL_law_173 ⟨by show _ ≤ (600000 : Nat); omega, by show _ ≤ (7302250 : Nat); omega⟩ (fun v9 h Hp lcs hp hM hh hap => ?_)
      obtain ⟨rfl, ⟨P2, rc2, hJ⟩, cn9, hv9⟩ := hp
      obtain ⟨vsq, hoq⟩ := hJ.obj
      have hM8 := hM
      have hM : mM G A s.heap f Hp _ := ⟨hh, hM8.2⟩
      have hh := hM8.1
      have hap := hap.symm
      refine lv_icmp_ne (tgt := 183) hx hb dL_law_176 (by decide) (fun hq9 => absurd hq9 (not_not_intro rfl)) (fun _ => ?_)
      refine lv_iconst (v := (nI 1)) hx hb dL_law_179 (by decide +kernel) ?_
      refine lv_goto (tgt := 184) hx hb dL_law_180 (by decide) ?_
      refine W.widen (k := cells + 1240) (n := slots + 3818) (by omega) (by omega) ?_
      exact law_b hx hb hml hown hts hK hE hA hX hbl hbA hL hM hh hap hI hJ hv9 (hX9.tl hn16 v m9) hfa (lv_sub hl [5, 6, 7, 8, 4, 3, 1] rfl) (by omega) (by omega) (fun f h Hp lcs ls a1 a2 a3 a4 a5 => W.widen (k := cells + 1247) (n := slots + 3900) (by omega) (by omega) (kk f h Hp lcs ls a1 a2 a3 a4 a5))
    refine lv_aload_n hx hb dL_law_123 rfl (lv_at hl 6 rfl) ?_
    refine lv_iload hx hb dL_law_124 (lv_at hl 1 rfl) ?_
    refine lv_iload hx hb dL_law_126 (lv_at hl 1 rfl) ?_
    refine lv_iload hx hb dL_law_128 (lv_at hl 3 rfl) ?_
    refine mm_S2 (As := [.int (nI fa), .int m9]) (rest := [.int (nI fa), .ref o]) ⟨hx, hb, hml, hown, hts⟩ (l_value l G f fa hfa m9) (va_cwS 2 hts gL_law_L_value rfl rfl rfl (by decide +kernel) ⟨Nat.le_of_ble_eq_true rfl, Nat.le_of_ble_eq_true rfl⟩) hK hE hA hM hh hap rfl hl.1 rfl (Nat.le_of_ble_eq_true rfl) dL_law_130 ⟨by show _ ≤ (600000 : Nat); omega, by show _ ≤ (7302250 : Nat); omega⟩ (fun v9 f1 Hp lcs hp hM hh hap => ?_)
    obtain ⟨rfl, hf⟩ := hp; subst hf
    refine mm_V2 (As := [.int (nI fa), .int (valV fa m9)]) (rest := []) ⟨hx, hb, hml, hown, hts⟩ (p_setFact l G hI hv (j := fa) hfa (valV_ok hfa m9)) (cwV 2 hts gL_law_X5_setFact rfl rfl rfl (by decide +kernel) ⟨Nat.le_of_ble_eq_true rfl, Nat.le_of_ble_eq_true rfl⟩) hK hE hA hM hh hap (mm_recv hK hM ho (q := (RX5, TX5, 7)) rfl) rfl hl.1 rfl (Nat.le_of_ble_eq_true rfl) dL_law_133 ⟨by show _ ≤ (600000 : Nat); omega, by show _ ≤ (7302250 : Nat); omega⟩ (fun v9 f Hp lcs hp hM hh hap => ?_)
    obtain ⟨rfl, hI⟩ := hp
    obtain ⟨vso, ho⟩ := hI.obj
    refine lv_aload_n hx hb dL_law_136 rfl (lv_at hl 7 rfl) ?_
    refine lv_iload hx hb dL_law_137 (lv_at hl 1 rfl) ?_
    refine lv_iload hx hb dL_law_139 (lv_at hl 1 rfl) ?_
    refine lv_iload hx hb dL_law_141 (lv_at hl 3 rfl) ?_
    refine mm_S2 (As := [.int (nI fa), .int m9]) (rest := [.int (nI fa), .ref q, .int (S fa)]) ⟨hx, hb, hml, hown, hts⟩ (l_value l G f fa hfa m9) (va_cwS 2 hts gL_law_L_value rfl rfl rfl (by decide +kernel) ⟨Nat.le_of_ble_eq_true rfl, Nat.le_of_ble_eq_true rfl⟩) hK hE hA hM hh hap rfl hl.1 rfl (Nat.le_of_ble_eq_true rfl) dL_law_143 ⟨by show _ ≤ (600000 : Nat); omega, by show _ ≤ (7302250 : Nat); omega⟩ (fun v9 f1 Hp lcs hp hM hh hap => ?_)
    obtain ⟨rfl, hf⟩ := hp; subst hf
    refine mm_V2 (As := [.int (nI fa), .int (valV fa m9)]) (rest := [.int (S fa)]) ⟨hx, hb, hml, hown, hts⟩ (p_setFact l G hJ hv (j := fa) hfa (valV_ok hfa m9)) (cwV 2 hts gL_law_X5_setFact rfl rfl rfl (by decide +kernel) ⟨Nat.le_of_ble_eq_true rfl, Nat.le_of_ble_eq_true rfl⟩) hK hE hA (show mM G A s.heap h Hp _ from ⟨hh, hM.2⟩) hM.1 hap.symm (mm_recv hK (show mM G A s.heap h Hp _ from ⟨hh, hM.2⟩) hoq (q := (RX5, TX5, 7)) rfl) rfl hl.1 rfl (Nat.le_of_ble_eq_true rfl) dL_law_146 ⟨by show _ ≤ (600000 : Nat); omega, by show _ ≤ (7302250 : Nat); omega⟩ (fun v9 h Hp lcs hp hM hh hap => ?_)
    obtain ⟨rfl, hJ⟩ := hp
    obtain ⟨vsq, hoq⟩ := hJ.obj
    have hM8 := hM
    have hM : mM G A s.heap f Hp _ := ⟨hh, hM8.2⟩
    have hh := hM8.1
    have hap := hap.symm
    refine lv_icmp_ne (tgt := 156) hx hb dL_law_149 (by decide) (fun hq9 => absurd hq9 (not_not_intro rfl)) (fun _ => ?_)
    refine lv_iconst (v := (nI 1)) hx hb dL_law_152 (by decide +kernel) ?_
    refine lv_goto (tgt := 184) hx hb dL_law_153 (by decide) ?_
    refine W.widen (k := cells + 1240) (n := slots + 3818) (by omega) (by omega) ?_
    exact law_b hx hb hml hown hts hK hE hA hX hbl hbA hL hM hh hap hI hJ (hv.fact hfa (valV_ok hfa m9)) (hX9.fact hfa (valV_ok hfa m9)) hfa (lv_sub hl [5, 6, 7, 8, 4, 3, 1] rfl) (by omega) (by omega) (fun f h Hp lcs ls a1 a2 a3 a4 a5 => W.widen (k := cells + 1247) (n := slots + 3900) (by omega) (by omega) (kk f h Hp lcs ls a1 a2 a3 a4 a5))
  refine lv_iload hx hb dL_law_79 (lv_at hl 2 rfl) ?_
  refine ln_if_le n (by omega) (tgt := 117) hx hb dL_law_81 (by decide) (fun cz5 => ?_) (fun cz5 => ?_)
  · refine lv_iload hx hb dL_law_117 (lv_at hl 0 rfl) ?_
    refine lv_iconst (v := (nI 3)) hx hb dL_law_119 (by decide +kernel) ?_
    refine ln_icmp_ge wh 3 (by omega) (by omega) (tgt := 160) hx hb dL_law_120 (by decide) (fun cz6 => ?_) (fun cz6 => ?_)
    · refine lv_aload_n hx hb dL_law_160 rfl (lv_at hl 6 rfl) ?_
      refine lv_iload hx hb dL_law_161 (lv_at hl 4 rfl) ?_
      refine lv_iload hx hb dL_law_163 (lv_at hl 3 rfl) ?_
      refine mm_S2 (As := [.ref o, .int v, .int m9]) (rest := []) ⟨hx, hb, hml, hown, hts⟩ (l_tell l G hI hv v m9) (va_cwS 3 hts gL_law_L_tell rfl rfl rfl (by decide +kernel) ⟨Nat.le_of_ble_eq_true rfl, Nat.le_of_ble_eq_true rfl⟩) hK hE hA hM hh hap rfl hl.1 rfl (Nat.le_of_ble_eq_true rfl) dL_law_165 ⟨by show _ ≤ (600000 : Nat); omega, by show _ ≤ (7302250 : Nat); omega⟩ (fun v9 f Hp lcs hp hM hh hap => ?_)
      obtain ⟨rfl, ⟨P, rc, hI⟩, cn9, hv9⟩ := hp
      obtain ⟨vso, ho⟩ := hI.obj
      refine lv_aload_n hx hb dL_law_168 rfl (lv_at hl 7 rfl) ?_
      refine lv_iload hx hb dL_law_169 (lv_at hl 4 rfl) ?_
      refine lv_iload hx hb dL_law_171 (lv_at hl 3 rfl) ?_
      refine mm_S2 (As := [.ref q, .int v, .int m9]) (rest := [.int (tlV S n cn v m9)]) ⟨hx, hb, hml, hown, hts⟩ (l_tell l G hJ hv v m9) (va_cwS 3 hts gL_law_L_tell rfl rfl rfl (by decide +kernel) ⟨Nat.le_of_ble_eq_true rfl, Nat.le_of_ble_eq_true rfl⟩) hK hE hA (show mM G A s.heap h Hp _ from ⟨hh, hM.2⟩) hM.1 hap.symm rfl hl.1 rfl (Nat.le_of_ble_eq_true rfl) dL_law_173 ⟨by show _ ≤ (600000 : Nat); omega, by show _ ≤ (7302250 : Nat); omega⟩ (fun v9 h Hp lcs hp hM hh hap => ?_)
      obtain ⟨rfl, ⟨P2, rc2, hJ⟩, cn9, hv9⟩ := hp
      obtain ⟨vsq, hoq⟩ := hJ.obj
      have hM8 := hM
      have hM : mM G A s.heap f Hp _ := ⟨hh, hM8.2⟩
      have hh := hM8.1
      have hap := hap.symm
      refine lv_icmp_ne (tgt := 183) hx hb dL_law_176 (by decide) (fun hq9 => absurd hq9 (not_not_intro rfl)) (fun _ => ?_)
      refine lv_iconst (v := (nI 1)) hx hb dL_law_179 (by decide +kernel) ?_
      refine lv_goto (tgt := 184) hx hb dL_law_180 (by decide) ?_
      refine W.widen (k := cells + 1240) (n := slots + 3818) (by omega) (by omega) ?_
      exact law_b hx hb hml hown hts hK hE hA hX hbl hbA hL hM hh hap hI hJ hv9 (hX9.tl hn16 v m9) hfa (lv_sub hl [5, 6, 7, 8, 4, 3, 1] rfl) (by omega) (by omega) (fun f h Hp lcs ls a1 a2 a3 a4 a5 => W.widen (k := cells + 1247) (n := slots + 3900) (by omega) (by omega) (kk f h Hp lcs ls a1 a2 a3 a4 a5))
    refine lv_aload_n hx hb dL_law_123 rfl (lv_at hl 6 rfl) ?_
    refine lv_iload hx hb dL_law_124 (lv_at hl 1 rfl) ?_
    refine lv_iload hx hb dL_law_126 (lv_at hl 1 rfl) ?_
    refine lv_iload hx hb dL_law_128 (lv_at hl 3 rfl) ?_
    refine mm_S2 (As := [.int (nI fa), .int m9]) (rest := [.int (nI fa), .ref o]) ⟨hx, hb, hml, hown, hts⟩ (l_value l G f fa hfa m9) (va_cwS 2 hts gL_law_L_value rfl rfl rfl (by decide +kernel) ⟨Nat.le_of_ble_eq_true rfl, Nat.le_of_ble_eq_true rfl⟩) hK hE hA hM hh hap rfl hl.1 rfl (Nat.le_of_ble_eq_true rfl) dL_law_130 ⟨by show _ ≤ (600000 : Nat); omega, by show _ ≤ (7302250 : Nat); omega⟩ (fun v9 f1 Hp lcs hp hM hh hap => ?_)
    obtain ⟨rfl, hf⟩ := hp; subst hf
    refine mm_V2 (As := [.int (nI fa), .int (valV fa m9)]) (rest := []) ⟨hx, hb, hml, hown, hts⟩ (p_setFact l G hI hv (j := fa) hfa (valV_ok hfa m9)) (cwV 2 hts gL_law_X5_setFact rfl rfl rfl (by decide +kernel) ⟨Nat.le_of_ble_eq_true rfl, Nat.le_of_ble_eq_true rfl⟩) hK hE hA hM hh hap (mm_recv hK hM ho (q := (RX5, TX5, 7)) rfl) rfl hl.1 rfl (Nat.le_of_ble_eq_true rfl) dL_law_133 ⟨by show _ ≤ (600000 : Nat); omega, by show _ ≤ (7302250 : Nat); omega⟩ (fun v9 f Hp lcs hp hM hh hap => ?_)
    obtain ⟨rfl, hI⟩ := hp
    obtain ⟨vso, ho⟩ := hI.obj
    refine lv_aload_n hx hb dL_law_136 rfl (lv_at hl 7 rfl) ?_
    refine lv_iload hx hb dL_law_137 (lv_at hl 1 rfl) ?_
    refine lv_iload hx hb dL_law_139 (lv_at hl 1 rfl) ?_
    refine lv_iload hx hb dL_law_141 (lv_at hl 3 rfl) ?_
    refine mm_S2 (As := [.int (nI fa), .int m9]) (rest := [.int (nI fa), .ref q, .int (S fa)]) ⟨hx, hb, hml, hown, hts⟩ (l_value l G f fa hfa m9) (va_cwS 2 hts gL_law_L_value rfl rfl rfl (by decide +kernel) ⟨Nat.le_of_ble_eq_true rfl, Nat.le_of_ble_eq_true rfl⟩) hK hE hA hM hh hap rfl hl.1 rfl (Nat.le_of_ble_eq_true rfl) dL_law_143 ⟨by show _ ≤ (600000 : Nat); omega, by show _ ≤ (7302250 : Nat); omega⟩ (fun v9 f1 Hp lcs hp hM hh hap => ?_)
    obtain ⟨rfl, hf⟩ := hp; subst hf
    refine mm_V2 (As := [.int (nI fa), .int (valV fa m9)]) (rest := [.int (S fa)]) ⟨hx, hb, hml, hown, hts⟩ (p_setFact l G hJ hv (j := fa) hfa (valV_ok hfa m9)) (cwV 2 hts gL_law_X5_setFact rfl rfl rfl (by decide +kernel) ⟨Nat.le_of_ble_eq_true rfl, Nat.le_of_ble_eq_true rfl⟩) hK hE hA (show mM G A s.heap h Hp _ from ⟨hh, hM.2⟩) hM.1 hap.symm (mm_recv hK (show mM G A s.heap h Hp _ from ⟨hh, hM.2⟩) hoq (q := (RX5, TX5, 7)) rfl) rfl hl.1 rfl (Nat.le_of_ble_eq_true rfl) dL_law_146 ⟨by show _ ≤ (600000 : Nat); omega, by show _ ≤ (7302250 : Nat); omega⟩ (fun v9 h Hp lcs hp hM hh hap => ?_)
    obtain ⟨rfl, hJ⟩ := hp
    obtain ⟨vsq, hoq⟩ := hJ.obj
    have hM8 := hM
    have hM : mM G A s.heap f Hp _ := ⟨hh, hM8.2⟩
    have hh := hM8.1
    have hap := hap.symm
    refine lv_icmp_ne (tgt := 156) hx hb dL_law_149 (by decide) (fun hq9 => absurd hq9 (not_not_intro rfl)) (fun _ => ?_)
    refine lv_iconst (v := (nI 1)) hx hb dL_law_152 (by decide +kernel) ?_
    refine lv_goto (tgt := 184) hx hb dL_law_153 (by decide) ?_
    refine W.widen (k := cells + 1240) (n := slots + 3818) (by omega) (by omega) ?_
    exact law_b hx hb hml hown hts hK hE hA hX hbl hbA hL hM hh hap hI hJ (hv.fact hfa (valV_ok hfa m9)) (hX9.fact hfa (valV_ok hfa m9)) hfa (lv_sub hl [5, 6, 7, 8, 4, 3, 1] rfl) (by omega) (by omega) (fun f h Hp lcs ls a1 a2 a3 a4 a5 => W.widen (k := cells + 1247) (n := slots + 3900) (by omega) (by omega) (kk f h Hp lcs ls a1 a2 a3 a4 a5))
  have hk0 := lowN_lt m9 (n := n) (by omega)
  cases hrp : retP S n (lowN m9 n) with
  | true =>
    refine lv_aload_n hx hb dL_law_84 rfl (lv_at hl 6 rfl) ?_
    refine lv_iload hx hb dL_law_85 (lv_at hl 3 rfl) ?_
    refine lv_iload hx hb dL_law_87 (lv_at hl 2 rfl) ?_
    refine mm_S2 (As := [.int m9, .int (nI n)]) (rest := [.ref o]) ⟨hx, hb, hml, hown, hts⟩ (l_low l G f m9 n (by omega) (by omega)) (va_cwS 2 hts gL_law_L_low rfl rfl rfl (by decide +kernel) ⟨Nat.le_of_ble_eq_true rfl, Nat.le_of_ble_eq_true rfl⟩) hK hE hA hM hh hap rfl hl.1 rfl (Nat.le_of_ble_eq_true rfl) dL_law_89 ⟨by show _ ≤ (600000 : Nat); omega, by show _ ≤ (7302250 : Nat); omega⟩ (fun v9 f1 Hp lcs hp hM hh hap => ?_)
    obtain ⟨rfl, hf⟩ := hp; subst hf
    have hz7 := lowN_lt m9 (n := n) (by omega)
    refine mm_V2 (As := [.int (nI (lowN m9 n))]) (rest := []) ⟨hx, hb, hml, hown, hts⟩ (p_retract l G hI hv (k := (lowN m9 n)) (by omega)) (cwV 1 hts gL_law_X5_retract rfl rfl rfl (by decide +kernel) ⟨Nat.le_of_ble_eq_true rfl, Nat.le_of_ble_eq_true rfl⟩) hK hE hA hM hh hap (mm_recv hK hM ho (q := (RX5, TX5, 7)) rfl) rfl hl.1 rfl (Nat.le_of_ble_eq_true rfl) dL_law_92 ⟨by show _ ≤ (600000 : Nat); omega, by show _ ≤ (7302250 : Nat); omega⟩ (fun v9 f Hp lcs hp hM hh hap => ?_)
    obtain ⟨rfl, hI⟩ : v9 = some (.int (retV S n (nI (lowN m9 n)))) ∧ CI G f o S P rc := by
      rcases hp with ⟨e1, e2, e3⟩ | ⟨e2, e3, e4⟩
      · exact ⟨e1, e3⟩
      · rw [hrp] at e2; cases e2
    obtain ⟨vso, ho⟩ := hI.obj
    refine lv_aload_n hx hb dL_law_95 rfl (lv_at hl 7 rfl) ?_
    refine lv_iload hx hb dL_law_96 (lv_at hl 3 rfl) ?_
    refine lv_iload hx hb dL_law_98 (lv_at hl 2 rfl) ?_
    refine mm_S2 (As := [.int m9, .int (nI n)]) (rest := [.ref q, .int (retV S n (nI (lowN m9 n)))]) ⟨hx, hb, hml, hown, hts⟩ (l_low l G f m9 n (by omega) (by omega)) (va_cwS 2 hts gL_law_L_low rfl rfl rfl (by decide +kernel) ⟨Nat.le_of_ble_eq_true rfl, Nat.le_of_ble_eq_true rfl⟩) hK hE hA hM hh hap rfl hl.1 rfl (Nat.le_of_ble_eq_true rfl) dL_law_100 ⟨by show _ ≤ (600000 : Nat); omega, by show _ ≤ (7302250 : Nat); omega⟩ (fun v9 f1 Hp lcs hp hM hh hap => ?_)
    obtain ⟨rfl, hf⟩ := hp; subst hf
    have hz8 := lowN_lt m9 (n := n) (by omega)
    refine mm_V2 (As := [.int (nI (lowN m9 n))]) (rest := [.int (retV S n (nI (lowN m9 n)))]) ⟨hx, hb, hml, hown, hts⟩ (p_retract l G hJ hv (k := (lowN m9 n)) (by omega)) (cwV 1 hts gL_law_X5_retract rfl rfl rfl (by decide +kernel) ⟨Nat.le_of_ble_eq_true rfl, Nat.le_of_ble_eq_true rfl⟩) hK hE hA (show mM G A s.heap h Hp _ from ⟨hh, hM.2⟩) hM.1 hap.symm (mm_recv hK (show mM G A s.heap h Hp _ from ⟨hh, hM.2⟩) hoq (q := (RX5, TX5, 7)) rfl) rfl hl.1 rfl (Nat.le_of_ble_eq_true rfl) dL_law_103 ⟨by show _ ≤ (600000 : Nat); omega, by show _ ≤ (7302250 : Nat); omega⟩ (fun v9 h Hp lcs hp hM hh hap => ?_)
    obtain ⟨rfl, hJ⟩ : v9 = some (.int (retV S n (nI (lowN m9 n)))) ∧ CI G h q S P2 rc2 := by
      rcases hp with ⟨e1, e2, e3⟩ | ⟨e2, e3, e4⟩
      · exact ⟨e1, e3⟩
      · rw [hrp] at e2; cases e2
    obtain ⟨vsq, hoq⟩ := hJ.obj
    have hM8 := hM
    have hM : mM G A s.heap f Hp _ := ⟨hh, hM8.2⟩
    have hh := hM8.1
    have hap := hap.symm
    refine lv_icmp_ne (tgt := 113) hx hb dL_law_106 (by decide) (fun hq9 => absurd hq9 (not_not_intro rfl)) (fun _ => ?_)
    refine lv_iconst (v := (nI 1)) hx hb dL_law_109 (by decide +kernel) ?_
    refine lv_goto (tgt := 184) hx hb dL_law_110 (by decide) ?_
    refine W.widen (k := cells + 1240) (n := slots + 3818) (by omega) (by omega) ?_
    exact law_b hx hb hml hown hts hK hE hA hX hbl hbA hL hM hh hap hI hJ hv hX9 hfa (lv_sub hl [5, 6, 7, 8, 4, 3, 1] rfl) (by omega) (by omega) (fun f h Hp lcs ls a1 a2 a3 a4 a5 => W.widen (k := cells + 1247) (n := slots + 3900) (by omega) (by omega) (kk f h Hp lcs ls a1 a2 a3 a4 a5))
  | false =>
    refine lv_aload_n hx hb dL_law_84 rfl (lv_at hl 6 rfl) ?_
    refine lv_iload hx hb dL_law_85 (lv_at hl 3 rfl) ?_
    refine lv_iload hx hb dL_law_87 (lv_at hl 2 rfl) ?_
    refine mm_S2 (As := [.int m9, .int (nI n)]) (rest := [.ref o]) ⟨hx, hb, hml, hown, hts⟩ (l_low l G f m9 n (by omega) (by omega)) (va_cwS 2 hts gL_law_L_low rfl rfl rfl (by decide +kernel) ⟨Nat.le_of_ble_eq_true rfl, Nat.le_of_ble_eq_true rfl⟩) hK hE hA hM hh hap rfl hl.1 rfl (Nat.le_of_ble_eq_true rfl) dL_law_89 ⟨by show _ ≤ (600000 : Nat); omega, by show _ ≤ (7302250 : Nat); omega⟩ (fun v9 f1 Hp lcs hp hM hh hap => ?_)
    obtain ⟨rfl, hf⟩ := hp; subst hf
    have hz9 := lowN_lt m9 (n := n) (by omega)
    refine mm_V2 (As := [.int (nI (lowN m9 n))]) (rest := []) ⟨hx, hb, hml, hown, hts⟩ (p_retract l G hI hv (k := (lowN m9 n)) (by omega)) (cwV 1 hts gL_law_X5_retract rfl rfl rfl (by decide +kernel) ⟨Nat.le_of_ble_eq_true rfl, Nat.le_of_ble_eq_true rfl⟩) hK hE hA hM hh hap (mm_recv hK hM ho (q := (RX5, TX5, 7)) rfl) rfl hl.1 rfl (Nat.le_of_ble_eq_true rfl) dL_law_92 ⟨by show _ ≤ (600000 : Nat); omega, by show _ ≤ (7302250 : Nat); omega⟩ (fun v9 f Hp lcs hp hM hh hap => ?_)
    obtain ⟨rfl, hI⟩ : v9 = some (.int (nI (n - 1))) ∧ CI G f o (retS S n (lowN m9 n)) (recP S P rc) (recN rc) := by
      rcases hp with ⟨e1, e2, e3⟩ | ⟨e2, e3, e4⟩
      · rw [hrp] at e2; cases e2
      · exact ⟨e3, e4⟩
    obtain ⟨vso, ho⟩ := hI.obj
    refine lv_aload_n hx hb dL_law_95 rfl (lv_at hl 7 rfl) ?_
    refine lv_iload hx hb dL_law_96 (lv_at hl 3 rfl) ?_
    refine lv_iload hx hb dL_law_98 (lv_at hl 2 rfl) ?_
    refine mm_S2 (As := [.int m9, .int (nI n)]) (rest := [.ref q, .int (nI (n - 1))]) ⟨hx, hb, hml, hown, hts⟩ (l_low l G f m9 n (by omega) (by omega)) (va_cwS 2 hts gL_law_L_low rfl rfl rfl (by decide +kernel) ⟨Nat.le_of_ble_eq_true rfl, Nat.le_of_ble_eq_true rfl⟩) hK hE hA hM hh hap rfl hl.1 rfl (Nat.le_of_ble_eq_true rfl) dL_law_100 ⟨by show _ ≤ (600000 : Nat); omega, by show _ ≤ (7302250 : Nat); omega⟩ (fun v9 f1 Hp lcs hp hM hh hap => ?_)
    obtain ⟨rfl, hf⟩ := hp; subst hf
    have hz10 := lowN_lt m9 (n := n) (by omega)
    refine mm_V2 (As := [.int (nI (lowN m9 n))]) (rest := [.int (nI (n - 1))]) ⟨hx, hb, hml, hown, hts⟩ (p_retract l G hJ hv (k := (lowN m9 n)) (by omega)) (cwV 1 hts gL_law_X5_retract rfl rfl rfl (by decide +kernel) ⟨Nat.le_of_ble_eq_true rfl, Nat.le_of_ble_eq_true rfl⟩) hK hE hA (show mM G A s.heap h Hp _ from ⟨hh, hM.2⟩) hM.1 hap.symm (mm_recv hK (show mM G A s.heap h Hp _ from ⟨hh, hM.2⟩) hoq (q := (RX5, TX5, 7)) rfl) rfl hl.1 rfl (Nat.le_of_ble_eq_true rfl) dL_law_103 ⟨by show _ ≤ (600000 : Nat); omega, by show _ ≤ (7302250 : Nat); omega⟩ (fun v9 h Hp lcs hp hM hh hap => ?_)
    obtain ⟨rfl, hJ⟩ : v9 = some (.int (nI (n - 1))) ∧ CI G h q (retS S n (lowN m9 n)) (recP S P2 rc2) (recN rc2) := by
      rcases hp with ⟨e1, e2, e3⟩ | ⟨e2, e3, e4⟩
      · rw [hrp] at e2; cases e2
      · exact ⟨e3, e4⟩
    obtain ⟨vsq, hoq⟩ := hJ.obj
    have hM8 := hM
    have hM : mM G A s.heap f Hp _ := ⟨hh, hM8.2⟩
    have hh := hM8.1
    have hap := hap.symm
    refine lv_icmp_ne (tgt := 113) hx hb dL_law_106 (by decide) (fun hq9 => absurd hq9 (not_not_intro rfl)) (fun _ => ?_)
    refine lv_iconst (v := (nI 1)) hx hb dL_law_109 (by decide +kernel) ?_
    refine lv_goto (tgt := 184) hx hb dL_law_110 (by decide) ?_
    refine W.widen (k := cells + 1240) (n := slots + 3818) (by omega) (by omega) ?_
    exact law_b hx hb hml hown hts hK hE hA hX hbl hbA hL hM hh hap hI hJ (hv.ret (by omega)) (hX9.ret hn16 (by omega)) hfa (lv_sub hl [5, 6, 7, 8, 4, 3, 1] rfl) (by omega) (by omega) (fun f h Hp lcs ls a1 a2 a3 a4 a5 => W.widen (k := cells + 1247) (n := slots + 3900) (by omega) (by omega) (kk f h Hp lcs ls a1 a2 a3 a4 a5))
