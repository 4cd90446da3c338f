/-! THE LAW's own methods: answers, what is told ahead -/
theorem InA.fin_ {S : Nat → Int32} {n cn : Nat} {r i : Nat} {a : Int32} (h : InA S n (nI r) i a) (hv : VSn S n cn) (hr : r < 4) (e : i = mS_ S n (nI r)) : ansI S (-100005) n (nI r) = a := by
  subst e; exact h.fin hv hr
set_option maxHeartbeats 4000000 in
set_option maxRecDepth 100000 in
theorem l_isAnswer (l : Launch) (G : mG) {f : mE} {o : Nat} {S P : Nat → Int32} {rc n cn : Nat} (hI : CI G f o S P rc) (hv : VSn S n cn) {r : Nat} (hr4 : r < 4) : mC l G yL_isAnswer wsL_isAnswer ({ frames := 6, cells := 0, slots := 0, locals := 145 } : Room) f [.ref o, .int (nI r)] (fun v f1 => v = some (.int (nI 1)) ∧ CI G f1 o S P rc) 0 0 := by
  refine mC.of (cc := cL_isAnswer) (maxL := 8) (ret := (some .boolean)) (by decide) rfl (Nat.le_of_ble_eq_true rfl) ?_
  intro pgm env s mt args below meth c A ls hx hb hml hr hlocks hown hname hts hK hE hA hM hl
  have hl : lv_has ls 8 [(0, .ref o), (1, .int (nI r))] := hl
  obtain ⟨vso, ho⟩ := hI.obj
  have hn16 := hv.2.1
  have hm9 := mS_le S n (nI r)
  refine lv_aload_n hx hb dL_isAnswer_0 rfl (lv_at hl 0 rfl) ?_
  refine lv_iload_n hx hb dL_isAnswer_1 rfl (lv_at hl 1 rfl) ?_
  refine mm_V (As := [.int (nI r)]) (rest := []) ⟨hx, hb, hml, hown, hts⟩ (p_reasons l G hI hv (r := r) (by omega)) (cwV 1 hts gL_isAnswer_X5_reasons rfl rfl rfl (by decide +kernel) ⟨Nat.le_of_ble_eq_true rfl, Nat.le_of_ble_eq_true rfl⟩) hK hE hA hM (mm_recv hK hM ho (q := (RX5, TX5, 7)) rfl) rfl hl.1 rfl (Nat.le_of_ble_eq_true rfl) dL_isAnswer_2 ⟨Nat.le_of_ble_eq_true rfl, Nat.le_of_ble_eq_true rfl⟩ (fun v f Hp lcs hp hM => ?_)
  obtain ⟨rfl, hI⟩ := hp
  obtain ⟨vso, ho⟩ := hI.obj
  refine lv_istore_n (lv' := [(2, .int (nI (mS_ S n (nI r)))), (0, .ref o), (1, .int (nI r))]) hx hb dL_isAnswer_5 rfl hl (by decide) rfl (fun ls hl => ?_)
  refine lv_iload_n hx hb dL_isAnswer_6 rfl (lv_at hl 0 rfl) ?_
  refine ln_if_ne (mS_ S n (nI r)) (by omega) (tgt := 15) hx hb dL_isAnswer_7 (by decide) (fun cz1 => ?_) (fun cz1 => ?_)
  · refine lv_aload_n hx hb dL_isAnswer_15 rfl (lv_at hl 1 rfl) ?_
    refine lv_aload_n hx hb dL_isAnswer_16 rfl (lv_at hl 1 rfl) ?_
    refine lv_iload_n hx hb dL_isAnswer_17 rfl (lv_at hl 2 rfl) ?_
    refine lv_iconst (v := (nI 0)) hx hb dL_isAnswer_18 (by decide +kernel) ?_
    refine mm_V (As := [.int (nI r), .int (nI 0)]) (rest := [.ref o]) ⟨hx, hb, hml, hown, hts⟩ (p_reason l G hI hv r 0) (cwV 2 hts gL_isAnswer_X5_reason rfl rfl rfl (by decide +kernel) ⟨Nat.le_of_ble_eq_true rfl, Nat.le_of_ble_eq_true rfl⟩) hK hE hA hM (mm_recv hK hM ho (q := (RX5, TX5, 7)) rfl) rfl hl.1 rfl (Nat.le_of_ble_eq_true rfl) dL_isAnswer_19 ⟨Nat.le_of_ble_eq_true rfl, Nat.le_of_ble_eq_true rfl⟩ (fun v f Hp lcs hp hM => ?_)
    obtain ⟨rfl, hI⟩ := hp
    obtain ⟨vso, ho⟩ := hI.obj
    obtain ⟨k0, q1, q2, q3, q4⟩ := reason_at (S := S) hn16 (res4 hr4) (i := 0) (by omega)
    refine mv_top (y := nI k0) q4 ?_
    refine mm_V (As := [.int (nI k0)]) (rest := []) ⟨hx, hb, hml, hown, hts⟩ (p_gives l G hI hv (k := k0) (by omega)) (cwV 1 hts gL_isAnswer_X5_gives rfl rfl rfl (by decide +kernel) ⟨Nat.le_of_ble_eq_true rfl, Nat.le_of_ble_eq_true rfl⟩) hK hE hA hM (mm_recv hK hM ho (q := (RX5, TX5, 7)) rfl) rfl hl.1 rfl (Nat.le_of_ble_eq_true rfl) dL_isAnswer_22 ⟨Nat.le_of_ble_eq_true rfl, Nat.le_of_ble_eq_true rfl⟩ (fun v f Hp lcs hp hM => ?_)
    obtain ⟨rfl, hI⟩ := hp
    obtain ⟨vso, ho⟩ := hI.obj
    refine lv_istore_n (lv' := [(3, .int (S (57 + 66 * k0 + 50))), (2, .int (nI (mS_ S n (nI r)))), (0, .ref o), (1, .int (nI r))]) hx hb dL_isAnswer_25 rfl hl (by decide) rfl (fun ls hl => ?_)
    refine lv_aload_n hx hb dL_isAnswer_26 rfl (lv_at hl 2 rfl) ?_
    refine lv_iload_n hx hb dL_isAnswer_27 rfl (lv_at hl 3 rfl) ?_
    refine lv_iload_n hx hb dL_isAnswer_28 rfl (lv_at hl 1 rfl) ?_
    refine mm_V (As := [.int (nI r), .int (nI (mS_ S n (nI r)))]) (rest := []) ⟨hx, hb, hml, hown, hts⟩ (p_reason l G hI hv r (mS_ S n (nI r))) (cwV 2 hts gL_isAnswer_X5_reason rfl rfl rfl (by decide +kernel) ⟨Nat.le_of_ble_eq_true rfl, Nat.le_of_ble_eq_true rfl⟩) hK hE hA hM (mm_recv hK hM ho (q := (RX5, TX5, 7)) rfl) rfl hl.1 rfl (Nat.le_of_ble_eq_true rfl) dL_isAnswer_29 ⟨Nat.le_of_ble_eq_true rfl, Nat.le_of_ble_eq_true rfl⟩ (fun v f Hp lcs hp hM => ?_)
    obtain ⟨rfl, hI⟩ := hp
    obtain ⟨vso, ho⟩ := hI.obj
    refine lv_ldc (v := (-100005)) hx hb hown (hts (.constant RL 40 (-100005)) (List.mem_of_getElem? (i := 1) rfl)) dL_isAnswer_32 ?_
    refine lv_icmp_ne (tgt := 41) hx hb dL_isAnswer_34 (by decide) (fun hq9 => absurd hq9 (not_not_intro (reason_end (S := S) hn16 (res4 hr4)))) (fun _ => ?_)
    refine lv_iconst (v := (nI 1)) hx hb dL_isAnswer_37 (by decide +kernel) ?_
    refine lv_goto (tgt := 42) hx hb dL_isAnswer_38 (by decide) ?_
    refine lv_istore (lv' := [(4, .int (nI 1)), (3, .int (S (57 + 66 * k0 + 50))), (2, .int (nI (mS_ S n (nI r)))), (0, .ref o), (1, .int (nI r))]) hx hb dL_isAnswer_42 hl (by decide) rfl (fun ls hl => ?_)
    refine lv_iconst (v := (nI 0)) hx hb dL_isAnswer_44 (by decide +kernel) ?_
    refine lv_istore (lv' := [(5, .int (nI 0)), (4, .int (nI 1)), (3, .int (S (57 + 66 * k0 + 50))), (2, .int (nI (mS_ S n (nI r)))), (0, .ref o), (1, .int (nI r))]) hx hb dL_isAnswer_45 hl (by decide) rfl (fun ls hl => ?_)
    have loopZ : ∀ (fuel : Nat) (i : Nat) (a : Int32) (f : mE) (Hp : Heap) (lcs : List Loc) (ls : Array Slot) (him : i ≤ mS_ S n (nI r)) (hIn : InA S n (nI r) i a) (hI : CI G f o S P rc) (hfu : mS_ S n (nI r) - i < fuel) (hM : mM G A s.heap f Hp lcs) (hl : lv_has ls 8 [(0, .ref o), (1, .int (nI r)), (2, .int (nI (mS_ S n (nI r)))), (3, .int a), (4, .int (nI 1)), (5, .int (nI i))]), W pgm l env ({ frames := 6, cells := 0, slots := 0, locals := 145 } : Room) s mt args below meth c Hp lcs 0 0 (MQ below (mQc G A (fun v f1 => v = some (.int (nI 1)) ∧ CI G f1 o S P rc)) args s 0 0 A) (F0 mt 47 ls []) := by
      intro fuel
      induction fuel with
      | zero => intro i a f Hp lcs ls him hIn hI hfu; exact absurd hfu (Nat.not_lt_zero _)
      | succ fuel ih =>
        intro i a f Hp lcs ls him hIn hI hfu hM hl
        obtain ⟨vso, ho⟩ := hI.obj
        refine lv_iload hx hb dL_isAnswer_47 (lv_at hl 5 rfl) ?_
        refine lv_iload_n hx hb dL_isAnswer_49 rfl (lv_at hl 2 rfl) ?_
        refine ln_icmp_ge i (mS_ S n (nI r)) (by omega) (by omega) (tgt := 181) hx hb dL_isAnswer_50 (by decide) (fun cz2 => ?_) (fun cz2 => ?_)
        · have him2 : i = mS_ S n (nI r) := (by omega)
          have hfin := hIn.fin_ hv hr4 him2
          refine lv_iconst (v := (nI 0)) hx hb dL_isAnswer_181 (by decide +kernel) ?_
          refine lv_istore (lv' := [(5, .int (nI 0)), (0, .ref o), (1, .int (nI r)), (2, .int (nI (mS_ S n (nI r)))), (3, .int a), (4, .int (nI 1))]) hx hb dL_isAnswer_182 hl (by decide) rfl (fun ls hl => ?_)
          refine lv_iconst (v := (nI 0)) hx hb dL_isAnswer_184 (by decide +kernel) ?_
          refine lv_istore (lv' := [(6, .int (nI 0)), (5, .int (nI 0)), (0, .ref o), (1, .int (nI r)), (2, .int (nI (mS_ S n (nI r)))), (3, .int a), (4, .int (nI 1))]) hx hb dL_isAnswer_185 hl (by decide) rfl (fun ls hl => ?_)
          have loopY : ∀ (fuelB : Nat) (kk : Nat) (f : mE) (Hp : Heap) (lcs : List Loc) (ls : Array Slot) (hkn : kk ≤ n) (hI : CI G f o S P rc) (hfuB : n - kk < fuelB) (hM : mM G A s.heap f Hp lcs) (hl : lv_has ls 8 [(0, .ref o), (1, .int (nI r)), (2, .int (nI (mS_ S n (nI r)))), (3, .int a), (4, .int (nI 1)), (5, .int (nI (cntN (fun k => decide (S (57 + 66 * k + 49) = nI r) && conB S k) kk))), (6, .int (nI kk))]), W pgm l env ({ frames := 6, cells := 0, slots := 0, locals := 145 } : Room) s mt args below meth c Hp lcs 0 0 (MQ below (mQc G A (fun v f1 => v = some (.int (nI 1)) ∧ CI G f1 o S P rc)) args s 0 0 A) (F0 mt 187 ls []) := by
            intro fuelB
            induction fuelB with
            | zero => intro kk f Hp lcs ls hkn hI hfuB; exact absurd hfuB (Nat.not_lt_zero _)
            | succ fuelB ihB =>
              intro kk f Hp lcs ls hkn hI hfuB hM hl
              obtain ⟨vso, ho⟩ := hI.obj
              have hcn9 := cntN_le (fun k => decide (S (57 + 66 * k + 49) = nI r) && conB S k) kk
              refine lv_iload hx hb dL_isAnswer_187 (lv_at hl 6 rfl) ?_
              refine lv_aload_n hx hb dL_isAnswer_189 rfl (lv_at hl 0 rfl) ?_
              refine mm_V (As := []) (rest := [.int (nI kk)]) ⟨hx, hb, hml, hown, hts⟩ (p_sentences l G hI hv ) (cwV 0 hts gL_isAnswer_X5_sentences rfl rfl rfl (by decide +kernel) ⟨Nat.le_of_ble_eq_true rfl, Nat.le_of_ble_eq_true rfl⟩) hK hE hA hM (mm_recv hK hM ho (q := (RX5, TX5, 7)) rfl) rfl hl.1 rfl (Nat.le_of_ble_eq_true rfl) dL_isAnswer_190 ⟨Nat.le_of_ble_eq_true rfl, Nat.le_of_ble_eq_true rfl⟩ (fun v f Hp lcs hp hM => ?_)
              obtain ⟨rfl, hI⟩ := hp
              obtain ⟨vso, ho⟩ := hI.obj
              refine ln_icmp_ge kk n (by omega) (by omega) (tgt := 232) hx hb dL_isAnswer_193 (by decide) (fun cz3 => ?_) (fun cz3 => ?_)
              · refine lv_iload hx hb dL_isAnswer_232 (lv_at hl 4 rfl) ?_
                refine lv_if_eq (tgt := 262) hx hb dL_isAnswer_234 (by decide) (fun hq9 => absurd hq9 (by decide)) (fun _ => ?_)
                refine lv_aload_n hx hb dL_isAnswer_237 rfl (lv_at hl 0 rfl) ?_
                refine lv_iload_n hx hb dL_isAnswer_238 rfl (lv_at hl 1 rfl) ?_
                refine mm_V (As := [.int (nI r)]) (rest := []) ⟨hx, hb, hml, hown, hts⟩ (p_answer l G hI hv (r := r) (by omega)) (cwV 1 hts gL_isAnswer_X5_answer rfl rfl rfl (by decide +kernel) ⟨Nat.le_of_ble_eq_true rfl, Nat.le_of_ble_eq_true rfl⟩) hK hE hA hM (mm_recv hK hM ho (q := (RX5, TX5, 7)) rfl) rfl hl.1 rfl (Nat.le_of_ble_eq_true rfl) dL_isAnswer_239 ⟨Nat.le_of_ble_eq_true rfl, Nat.le_of_ble_eq_true rfl⟩ (fun v f Hp lcs hp hM => ?_)
                obtain ⟨rfl, hI⟩ := hp
                obtain ⟨vso, ho⟩ := hI.obj
                refine mv_top (y := a) hfin ?_
                refine lv_iload_n hx hb dL_isAnswer_242 rfl (lv_at hl 3 rfl) ?_
                refine lv_icmp_ne (tgt := 262) hx hb dL_isAnswer_243 (by decide) (fun hq9 => absurd hq9 (not_not_intro rfl)) (fun _ => ?_)
                refine lv_iload_n hx hb dL_isAnswer_246 rfl (lv_at hl 2 rfl) ?_
                refine lv_aload_n hx hb dL_isAnswer_247 rfl (lv_at hl 0 rfl) ?_
                refine lv_iload_n hx hb dL_isAnswer_248 rfl (lv_at hl 1 rfl) ?_
                refine mm_V (As := [.int (nI r)]) (rest := [.int (nI (mS_ S n (nI r)))]) ⟨hx, hb, hml, hown, hts⟩ (p_overridden l G hI hv (r := r) (by omega)) (cwV 1 hts gL_isAnswer_X5_overridden rfl rfl rfl (by decide +kernel) ⟨Nat.le_of_ble_eq_true rfl, Nat.le_of_ble_eq_true rfl⟩) hK hE hA hM (mm_recv hK hM ho (q := (RX5, TX5, 7)) rfl) rfl hl.1 rfl (Nat.le_of_ble_eq_true rfl) dL_isAnswer_249 ⟨Nat.le_of_ble_eq_true rfl, Nat.le_of_ble_eq_true rfl⟩ (fun v f Hp lcs hp hM => ?_)
                obtain ⟨rfl, hI⟩ := hp
                obtain ⟨vso, ho⟩ := hI.obj
                have hkk : n = kk := (by omega)
                have hs9 : mS_ S n (nI r) + cntN (fun k => appB S (-100005) k (nI r) && !reaB S (-100005) n k (nI r)) n = cntN (fun k => decide (S (57 + 66 * k + 49) = nI r) && conB S k) kk := by rw [← hkk]; exact app_sum hn16 (nI r)
                refine ln_iadd (mS_ S n (nI r)) (cntN (fun k => appB S (-100005) k (nI r) && !reaB S (-100005) n k (nI r)) n) hx hb dL_isAnswer_252 ?_
                refine lv_iload hx hb dL_isAnswer_253 (lv_at hl 5 rfl) ?_
                refine ln_icmp_ne ((mS_ S n (nI r)) + (cntN (fun k => appB S (-100005) k (nI r) && !reaB S (-100005) n k (nI r)) n)) (cntN (fun k => decide (S (57 + 66 * k + 49) = nI r) && conB S k) kk) (by omega) (by have hz0 := cntN_le (fun k => decide (S (57 + 66 * k + 49) = nI r) && conB S k) kk; omega) (tgt := 262) hx hb dL_isAnswer_255 (by decide) (fun hq9 => absurd hq9 (not_not_intro hs9)) (fun _ => ?_)
                refine lv_iconst (v := (nI 1)) hx hb dL_isAnswer_258 (by decide +kernel) ?_
                refine lv_goto (tgt := 263) hx hb dL_isAnswer_259 (by decide) ?_
                exact mm_zret hx hb hlocks hr (by first | rfl | exact bI_nar _) (Nat.le_of_ble_eq_true rfl) (Nat.le_of_ble_eq_true rfl) hM (⟨rfl, hI⟩) dL_isAnswer_263
              refine lv_aload_n hx hb dL_isAnswer_196 rfl (lv_at hl 0 rfl) ?_
              refine lv_iload hx hb dL_isAnswer_197 (lv_at hl 6 rfl) ?_
              refine mm_V (As := [.int (nI kk)]) (rest := []) ⟨hx, hb, hml, hown, hts⟩ (p_about l G hI hv (k := kk) (by omega)) (cwV 1 hts gL_isAnswer_X5_about rfl rfl rfl (by decide +kernel) ⟨Nat.le_of_ble_eq_true rfl, Nat.le_of_ble_eq_true rfl⟩) hK hE hA hM (mm_recv hK hM ho (q := (RX5, TX5, 7)) rfl) rfl hl.1 rfl (Nat.le_of_ble_eq_true rfl) dL_isAnswer_199 ⟨Nat.le_of_ble_eq_true rfl, Nat.le_of_ble_eq_true rfl⟩ (fun v f Hp lcs hp hM => ?_)
              obtain ⟨rfl, hI⟩ := hp
              obtain ⟨vso, ho⟩ := hI.obj
              refine lv_iload_n hx hb dL_isAnswer_202 rfl (lv_at hl 1 rfl) ?_
              refine lv_icmp_ne (tgt := 222) hx hb dL_isAnswer_203 (by decide) (fun cz4 => ?_) (fun cz4 => ?_)
              · refine lv_iload hx hb dL_isAnswer_222 (lv_at hl 5 rfl) ?_
                refine lv_istore (lv' := [(5, .int (nI (cntN (fun k => decide (S (57 + 66 * k + 49) = nI r) && conB S k) kk))), (0, .ref o), (1, .int (nI r)), (2, .int (nI (mS_ S n (nI r)))), (3, .int a), (4, .int (nI 1)), (6, .int (nI kk))]) hx hb dL_isAnswer_224 hl (by decide) rfl (fun ls hl => ?_)
                refine lv_iinc (v := (nI (kk + 1))) (lv' := [(6, .int (nI (kk + 1))), (5, .int (nI (cntN (fun k => decide (S (57 + 66 * k + 49) = nI r) && conB S k) kk))), (0, .ref o), (1, .int (nI r)), (2, .int (nI (mS_ S n (nI r)))), (3, .int a), (4, .int (nI 1))]) hx hb dL_isAnswer_226 hl (k := 6) rfl (nI_add _ _) (by decide) rfl (fun ls hl => ?_)
                refine lv_goto (tgt := 187) hx hb dL_isAnswer_229 (by decide) ?_
                have e9 : cntN (fun k => decide (S (57 + 66 * k + 49) = nI r) && conB S k) (kk + 1) = cntN (fun k => decide (S (57 + 66 * k + 49) = nI r) && conB S k) kk := by rw [cntN, if_neg (by rw [decide_eq_false cz4, Bool.false_and]; decide)]; rfl
                have hl : lv_has ls 8 [(6, .int (nI (kk + 1))), (5, .int (nI (cntN (fun k => decide (S (57 + 66 * k + 49) = nI r) && conB S k) (kk + 1)))), (0, .ref o), (1, .int (nI r)), (2, .int (nI (mS_ S n (nI r)))), (3, .int a), (4, .int (nI 1))] := by rw [e9]; exact hl
                exact ihB (kk + 1) _ _ _ ls (by omega) hI (by omega) hM (lv_sub hl [2, 3, 4, 5, 6, 1, 0] rfl)
              refine lv_aload_n hx hb dL_isAnswer_206 rfl (lv_at hl 0 rfl) ?_
              refine lv_iload hx hb dL_isAnswer_207 (lv_at hl 6 rfl) ?_
              refine mm_S (As := [.ref o, .int (nI kk)]) (rest := []) ⟨hx, hb, hml, hown, hts⟩ (l_contains l G hI hv (k := kk) (by omega)) (va_cwS 2 hts gL_isAnswer_L_contains rfl rfl rfl (by decide +kernel) ⟨Nat.le_of_ble_eq_true rfl, Nat.le_of_ble_eq_true rfl⟩) hK hE hA hM rfl hl.1 rfl (Nat.le_of_ble_eq_true rfl) dL_isAnswer_209 ⟨Nat.le_of_ble_eq_true rfl, Nat.le_of_ble_eq_true rfl⟩ (fun v f Hp lcs hp hM => ?_)
              obtain ⟨rfl, hI⟩ := hp
              obtain ⟨vso, ho⟩ := hI.obj
              refine lvb_eq (tgt := 222) hx hb dL_isAnswer_212 (by decide) (fun cz5 => ?_) (fun cz5 => ?_)
              · refine lv_iload hx hb dL_isAnswer_222 (lv_at hl 5 rfl) ?_
                refine lv_istore (lv' := [(5, .int (nI (cntN (fun k => decide (S (57 + 66 * k + 49) = nI r) && conB S k) kk))), (0, .ref o), (1, .int (nI r)), (2, .int (nI (mS_ S n (nI r)))), (3, .int a), (4, .int (nI 1)), (6, .int (nI kk))]) hx hb dL_isAnswer_224 hl (by decide) rfl (fun ls hl => ?_)
                refine lv_iinc (v := (nI (kk + 1))) (lv' := [(6, .int (nI (kk + 1))), (5, .int (nI (cntN (fun k => decide (S (57 + 66 * k + 49) = nI r) && conB S k) kk))), (0, .ref o), (1, .int (nI r)), (2, .int (nI (mS_ S n (nI r)))), (3, .int a), (4, .int (nI 1))]) hx hb dL_isAnswer_226 hl (k := 6) rfl (nI_add _ _) (by decide) rfl (fun ls hl => ?_)
                refine lv_goto (tgt := 187) hx hb dL_isAnswer_229 (by decide) ?_
                have e9 : cntN (fun k => decide (S (57 + 66 * k + 49) = nI r) && conB S k) (kk + 1) = cntN (fun k => decide (S (57 + 66 * k + 49) = nI r) && conB S k) kk := by rw [cntN, if_neg (by rw [cz5, Bool.and_false]; decide)]; rfl
                have hl : lv_has ls 8 [(6, .int (nI (kk + 1))), (5, .int (nI (cntN (fun k => decide (S (57 + 66 * k + 49) = nI r) && conB S k) (kk + 1)))), (0, .ref o), (1, .int (nI r)), (2, .int (nI (mS_ S n (nI r)))), (3, .int a), (4, .int (nI 1))] := by rw [e9]; exact hl
                exact ihB (kk + 1) _ _ _ ls (by omega) hI (by omega) hM (lv_sub hl [2, 3, 4, 5, 6, 1, 0] rfl)
              refine lv_iload hx hb dL_isAnswer_215 (lv_at hl 5 rfl) ?_
              refine lv_iconst (v := (nI 1)) hx hb dL_isAnswer_217 (by decide +kernel) ?_
              refine ln_iadd (cntN (fun k => decide (S (57 + 66 * k + 49) = nI r) && conB S k) kk) 1 hx hb dL_isAnswer_218 ?_
              refine lv_goto (tgt := 224) hx hb dL_isAnswer_219 (by decide) ?_
              refine lv_istore (lv' := [(5, .int (nI ((cntN (fun k => decide (S (57 + 66 * k + 49) = nI r) && conB S k) kk) + 1))), (0, .ref o), (1, .int (nI r)), (2, .int (nI (mS_ S n (nI r)))), (3, .int a), (4, .int (nI 1)), (6, .int (nI kk))]) hx hb dL_isAnswer_224 hl (by decide) rfl (fun ls hl => ?_)
              refine lv_iinc (v := (nI (kk + 1))) (lv' := [(6, .int (nI (kk + 1))), (5, .int (nI ((cntN (fun k => decide (S (57 + 66 * k + 49) = nI r) && conB S k) kk) + 1))), (0, .ref o), (1, .int (nI r)), (2, .int (nI (mS_ S n (nI r)))), (3, .int a), (4, .int (nI 1))]) hx hb dL_isAnswer_226 hl (k := 6) rfl (nI_add _ _) (by decide) rfl (fun ls hl => ?_)
              refine lv_goto (tgt := 187) hx hb dL_isAnswer_229 (by decide) ?_
              have e9 : cntN (fun k => decide (S (57 + 66 * k + 49) = nI r) && conB S k) (kk + 1) = cntN (fun k => decide (S (57 + 66 * k + 49) = nI r) && conB S k) kk + 1 := by rw [cntN, if_pos (by rw [decide_eq_true cz4, cz5]; rfl)]
              have hl : lv_has ls 8 [(6, .int (nI (kk + 1))), (5, .int (nI (cntN (fun k => decide (S (57 + 66 * k + 49) = nI r) && conB S k) (kk + 1)))), (0, .ref o), (1, .int (nI r)), (2, .int (nI (mS_ S n (nI r)))), (3, .int a), (4, .int (nI 1))] := by rw [e9]; exact hl
              exact ihB (kk + 1) _ _ _ ls (by omega) hI (by omega) hM (lv_sub hl [2, 3, 4, 5, 6, 1, 0] rfl)
          exact loopY (n + 1) 0 _ _ _ ls (Nat.zero_le _) hI (by omega) hM (lv_sub hl [2, 3, 4, 5, 6, 1, 0] rfl)
        refine lv_aload_n hx hb dL_isAnswer_53 rfl (lv_at hl 0 rfl) ?_
        refine lv_iload_n hx hb dL_isAnswer_54 rfl (lv_at hl 1 rfl) ?_
        refine lv_iload hx hb dL_isAnswer_55 (lv_at hl 5 rfl) ?_
        refine mm_V (As := [.int (nI r), .int (nI i)]) (rest := []) ⟨hx, hb, hml, hown, hts⟩ (p_reason l G hI hv r i) (cwV 2 hts gL_isAnswer_X5_reason rfl rfl rfl (by decide +kernel) ⟨Nat.le_of_ble_eq_true rfl, Nat.le_of_ble_eq_true rfl⟩) hK hE hA hM (mm_recv hK hM ho (q := (RX5, TX5, 7)) rfl) rfl hl.1 rfl (Nat.le_of_ble_eq_true rfl) dL_isAnswer_57 ⟨Nat.le_of_ble_eq_true rfl, Nat.le_of_ble_eq_true rfl⟩ (fun v f Hp lcs hp hM => ?_)
        obtain ⟨rfl, hI⟩ := hp
        obtain ⟨vso, ho⟩ := hI.obj
        obtain ⟨k, k1, k2, k3, k4⟩ := reason_at (S := S) hn16 (res4 hr4) (i := i) (by omega)
        obtain ⟨kc, kb⟩ := rea_con k2
        have k5 := (g_ok hv hr4 k k1 k2).2
        refine mv_top (y := nI k) k4 ?_
        refine lv_istore (lv' := [(6, .int (nI k)), (0, .ref o), (1, .int (nI r)), (2, .int (nI (mS_ S n (nI r)))), (3, .int a), (4, .int (nI 1)), (5, .int (nI i))]) hx hb dL_isAnswer_60 hl (by decide) rfl (fun ls hl => ?_)
        refine lv_iload hx hb dL_isAnswer_62 (lv_at hl 5 rfl) ?_
        refine lv_if_eq (tgt := 90) hx hb dL_isAnswer_64 (by decide) (fun hq9 => absurd hq9 (by decide)) (fun _ => ?_)
        refine lv_aload_n hx hb dL_isAnswer_67 rfl (lv_at hl 1 rfl) ?_
        refine lv_iload hx hb dL_isAnswer_68 (lv_at hl 0 rfl) ?_
        refine mm_S (As := [.ref o, .int (nI k)]) (rest := []) ⟨hx, hb, hml, hown, hts⟩ (l_contains l G hI hv (k := k) (by omega)) (va_cwS 2 hts gL_isAnswer_L_contains rfl rfl rfl (by decide +kernel) ⟨Nat.le_of_ble_eq_true rfl, Nat.le_of_ble_eq_true rfl⟩) hK hE hA hM rfl hl.1 rfl (Nat.le_of_ble_eq_true rfl) dL_isAnswer_70 ⟨Nat.le_of_ble_eq_true rfl, Nat.le_of_ble_eq_true rfl⟩ (fun v f Hp lcs hp hM => ?_)
        obtain ⟨rfl, hI⟩ := hp
        obtain ⟨vso, ho⟩ := hI.obj
        refine mv_top (y := (nI 1)) (by rw [kc]; rfl) ?_
        refine lv_if_eq (tgt := 90) hx hb dL_isAnswer_73 (by decide) (fun hq9 => absurd hq9 (by decide)) (fun _ => ?_)
        refine lv_aload_n hx hb dL_isAnswer_76 rfl (lv_at hl 1 rfl) ?_
        refine lv_iload hx hb dL_isAnswer_77 (lv_at hl 0 rfl) ?_
        refine mm_V (As := [.int (nI k)]) (rest := []) ⟨hx, hb, hml, hown, hts⟩ (p_about l G hI hv (k := k) (by omega)) (cwV 1 hts gL_isAnswer_X5_about rfl rfl rfl (by decide +kernel) ⟨Nat.le_of_ble_eq_true rfl, Nat.le_of_ble_eq_true rfl⟩) hK hE hA hM (mm_recv hK hM ho (q := (RX5, TX5, 7)) rfl) rfl hl.1 rfl (Nat.le_of_ble_eq_true rfl) dL_isAnswer_79 ⟨Nat.le_of_ble_eq_true rfl, Nat.le_of_ble_eq_true rfl⟩ (fun v f Hp lcs hp hM => ?_)
        obtain ⟨rfl, hI⟩ := hp
        obtain ⟨vso, ho⟩ := hI.obj
        refine mv_top (y := (nI r)) kb ?_
        refine lv_iload_n hx hb dL_isAnswer_82 rfl (lv_at hl 2 rfl) ?_
        refine ln_icmp_ne r r (by omega) (by omega) (tgt := 90) hx hb dL_isAnswer_83 (by decide) (fun hq9 => absurd hq9 (not_not_intro rfl)) (fun _ => ?_)
        refine lv_iconst (v := (nI 1)) hx hb dL_isAnswer_86 (by decide +kernel) ?_
        refine lv_goto (tgt := 91) hx hb dL_isAnswer_87 (by decide) ?_
        refine lv_istore (lv' := [(4, .int (nI 1)), (6, .int (nI k)), (0, .ref o), (1, .int (nI r)), (2, .int (nI (mS_ S n (nI r)))), (3, .int a), (5, .int (nI i))]) hx hb dL_isAnswer_91 hl (by decide) rfl (fun ls hl => ?_)
        refine lv_aload_n hx hb dL_isAnswer_93 rfl (lv_at hl 2 rfl) ?_
        refine lv_iload hx hb dL_isAnswer_94 (lv_at hl 1 rfl) ?_
        refine mm_V (As := [.int (nI k)]) (rest := []) ⟨hx, hb, hml, hown, hts⟩ (p_gives l G hI hv (k := k) (by omega)) (cwV 1 hts gL_isAnswer_X5_gives rfl rfl rfl (by decide +kernel) ⟨Nat.le_of_ble_eq_true rfl, Nat.le_of_ble_eq_true rfl⟩) hK hE hA hM (mm_recv hK hM ho (q := (RX5, TX5, 7)) rfl) rfl hl.1 rfl (Nat.le_of_ble_eq_true rfl) dL_isAnswer_96 ⟨Nat.le_of_ble_eq_true rfl, Nat.le_of_ble_eq_true rfl⟩ (fun v f Hp lcs hp hM => ?_)
        obtain ⟨rfl, hI⟩ := hp
        obtain ⟨vso, ho⟩ := hI.obj
        refine lv_iload_n hx hb dL_isAnswer_99 rfl (lv_at hl 5 rfl) ?_
        refine lv_icmp_ne (tgt := 107) hx hb dL_isAnswer_100 (by decide) (fun cz6 => ?_) (fun cz6 => ?_)
        · refine lv_ldc (v := (-100006)) hx hb hown (hts (.constant RL 69 (-100006)) (List.mem_of_getElem? (i := 2) rfl)) dL_isAnswer_107 ?_
          refine lv_istore_n (lv' := [(3, .int (-100006)), (4, .int (nI 1)), (6, .int (nI k)), (0, .ref o), (1, .int (nI r)), (2, .int (nI (mS_ S n (nI r)))), (5, .int (nI i))]) hx hb dL_isAnswer_109 rfl hl (by decide) rfl (fun ls hl => ?_)
          refine lv_iload hx hb dL_isAnswer_110 (lv_at hl 6 rfl) ?_
          refine ln_if_le i (by omega) (tgt := 175) hx hb dL_isAnswer_112 (by decide) (fun cz7 => ?_) (fun cz7 => ?_)
          · refine lv_iinc (v := (nI (i + 1))) (lv' := [(5, .int (nI (i + 1))), (3, .int (-100006)), (4, .int (nI 1)), (6, .int (nI k)), (0, .ref o), (1, .int (nI r)), (2, .int (nI (mS_ S n (nI r))))]) hx hb dL_isAnswer_175 hl (k := 6) rfl (nI_add _ _) (by decide) rfl (fun ls hl => ?_)
            refine lv_goto (tgt := 47) hx hb dL_isAnswer_178 (by decide) ?_
            have hA2 := hIn.step k1 k2 k3 k5
            rw [if_neg cz6] at hA2
            exact ih (i + 1) (-100006) _ _ _ ls (by omega) hA2 hI (by omega) hM (lv_sub hl [4, 5, 6, 1, 2, 0] rfl)
          refine lv_aload_n hx hb dL_isAnswer_115 rfl (lv_at hl 3 rfl) ?_
          refine lv_iload_n hx hb dL_isAnswer_116 rfl (lv_at hl 4 rfl) ?_
          refine lv_iload hx hb dL_isAnswer_117 (lv_at hl 6 rfl) ?_
          refine lv_iconst (v := (nI 1)) hx hb dL_isAnswer_119 (by decide +kernel) ?_
          refine ln_isub i 1 (by omega) hx hb dL_isAnswer_120 ?_
          refine mv_top (y := (nI (i - 1))) (congrArg nI (by omega)) ?_
          refine mm_V (As := [.int (nI r), .int (nI (i - 1))]) (rest := []) ⟨hx, hb, hml, hown, hts⟩ (p_reason l G hI hv r (i - 1)) (cwV 2 hts gL_isAnswer_X5_reason rfl rfl rfl (by decide +kernel) ⟨Nat.le_of_ble_eq_true rfl, Nat.le_of_ble_eq_true rfl⟩) hK hE hA hM (mm_recv hK hM ho (q := (RX5, TX5, 7)) rfl) rfl hl.1 rfl (Nat.le_of_ble_eq_true rfl) dL_isAnswer_121 ⟨Nat.le_of_ble_eq_true rfl, Nat.le_of_ble_eq_true rfl⟩ (fun v f Hp lcs hp hM => ?_)
          obtain ⟨rfl, hI⟩ := hp
          obtain ⟨vso, ho⟩ := hI.obj
          obtain ⟨ka, a1, a2, a3, a4⟩ := reason_at (S := S) hn16 (res4 hr4) (i := i - 1) (by omega)
          have hord := reason_ord k1 k2 (show rkS S n (nI r) ka < rkS S n (nI r) k by omega)
          refine mv_top (y := nI ka) a4 ?_
          refine lv_istore (lv' := [(7, .int (nI ka)), (3, .int (-100006)), (4, .int (nI 1)), (6, .int (nI k)), (0, .ref o), (1, .int (nI r)), (2, .int (nI (mS_ S n (nI r)))), (5, .int (nI i))]) hx hb dL_isAnswer_124 hl (by decide) rfl (fun ls hl => ?_)
          refine lv_iload hx hb dL_isAnswer_126 (lv_at hl 2 rfl) ?_
          refine lv_if_eq (tgt := 172) hx hb dL_isAnswer_128 (by decide) (fun hq9 => absurd hq9 (by decide)) (fun _ => ?_)
          refine lv_aload_n hx hb dL_isAnswer_131 rfl (lv_at hl 4 rfl) ?_
          refine lv_iload hx hb dL_isAnswer_132 (lv_at hl 0 rfl) ?_
          refine mm_V (As := [.int (nI ka)]) (rest := []) ⟨hx, hb, hml, hown, hts⟩ (p_sharpness l G hI hv (k := ka) (by omega)) (cwV 1 hts gL_isAnswer_X5_sharpness rfl rfl rfl (by decide +kernel) ⟨Nat.le_of_ble_eq_true rfl, Nat.le_of_ble_eq_true rfl⟩) hK hE hA hM (mm_recv hK hM ho (q := (RX5, TX5, 7)) rfl) rfl hl.1 rfl (Nat.le_of_ble_eq_true rfl) dL_isAnswer_134 ⟨Nat.le_of_ble_eq_true rfl, Nat.le_of_ble_eq_true rfl⟩ (fun v f Hp lcs hp hM => ?_)
          obtain ⟨rfl, hI⟩ := hp
          obtain ⟨vso, ho⟩ := hI.obj
          refine lv_aload_n hx hb dL_isAnswer_137 rfl (lv_at hl 4 rfl) ?_
          refine lv_iload hx hb dL_isAnswer_138 (lv_at hl 3 rfl) ?_
          refine mm_V (As := [.int (nI k)]) (rest := [.int (nI (shaN S ka))]) ⟨hx, hb, hml, hown, hts⟩ (p_sharpness l G hI hv (k := k) (by omega)) (cwV 1 hts gL_isAnswer_X5_sharpness rfl rfl rfl (by decide +kernel) ⟨Nat.le_of_ble_eq_true rfl, Nat.le_of_ble_eq_true rfl⟩) hK hE hA hM (mm_recv hK hM ho (q := (RX5, TX5, 7)) rfl) rfl hl.1 rfl (Nat.le_of_ble_eq_true rfl) dL_isAnswer_140 ⟨Nat.le_of_ble_eq_true rfl, Nat.le_of_ble_eq_true rfl⟩ (fun v f Hp lcs hp hM => ?_)
          obtain ⟨rfl, hI⟩ := hp
          obtain ⟨vso, ho⟩ := hI.obj
          refine ln_icmp_gt (shaN S ka) (shaN S k) (by have hz0 := shaN_le S ka; omega) (by have hz0 := shaN_le S k; omega) (tgt := 168) hx hb dL_isAnswer_143 (by decide) (fun cz8 => ?_) (fun cz8 => ?_)
          · refine lv_iconst (v := (nI 1)) hx hb dL_isAnswer_168 (by decide +kernel) ?_
            refine lv_goto (tgt := 173) hx hb dL_isAnswer_169 (by decide) ?_
            refine lv_istore (lv' := [(4, .int (nI 1)), (7, .int (nI ka)), (3, .int (-100006)), (6, .int (nI k)), (0, .ref o), (1, .int (nI r)), (2, .int (nI (mS_ S n (nI r)))), (5, .int (nI i))]) hx hb dL_isAnswer_173 hl (by decide) rfl (fun ls hl => ?_)
            refine lv_iinc (v := (nI (i + 1))) (lv' := [(5, .int (nI (i + 1))), (4, .int (nI 1)), (7, .int (nI ka)), (3, .int (-100006)), (6, .int (nI k)), (0, .ref o), (1, .int (nI r)), (2, .int (nI (mS_ S n (nI r))))]) hx hb dL_isAnswer_175 hl (k := 7) rfl (nI_add _ _) (by decide) rfl (fun ls hl => ?_)
            refine lv_goto (tgt := 47) hx hb dL_isAnswer_178 (by decide) ?_
            have hA2 := hIn.step k1 k2 k3 k5
            rw [if_neg cz6] at hA2
            exact ih (i + 1) (-100006) _ _ _ ls (by omega) hA2 hI (by omega) hM (lv_sub hl [5, 6, 7, 3, 1, 0] rfl)
          refine lv_aload_n hx hb dL_isAnswer_146 rfl (lv_at hl 4 rfl) ?_
          refine lv_iload hx hb dL_isAnswer_147 (lv_at hl 0 rfl) ?_
          refine mm_V (As := [.int (nI ka)]) (rest := []) ⟨hx, hb, hml, hown, hts⟩ (p_sharpness l G hI hv (k := ka) (by omega)) (cwV 1 hts gL_isAnswer_X5_sharpness rfl rfl rfl (by decide +kernel) ⟨Nat.le_of_ble_eq_true rfl, Nat.le_of_ble_eq_true rfl⟩) hK hE hA hM (mm_recv hK hM ho (q := (RX5, TX5, 7)) rfl) rfl hl.1 rfl (Nat.le_of_ble_eq_true rfl) dL_isAnswer_149 ⟨Nat.le_of_ble_eq_true rfl, Nat.le_of_ble_eq_true rfl⟩ (fun v f Hp lcs hp hM => ?_)
          obtain ⟨rfl, hI⟩ := hp
          obtain ⟨vso, ho⟩ := hI.obj
          refine lv_aload_n hx hb dL_isAnswer_152 rfl (lv_at hl 4 rfl) ?_
          refine lv_iload hx hb dL_isAnswer_153 (lv_at hl 3 rfl) ?_
          refine mm_V (As := [.int (nI k)]) (rest := [.int (nI (shaN S ka))]) ⟨hx, hb, hml, hown, hts⟩ (p_sharpness l G hI hv (k := k) (by omega)) (cwV 1 hts gL_isAnswer_X5_sharpness rfl rfl rfl (by decide +kernel) ⟨Nat.le_of_ble_eq_true rfl, Nat.le_of_ble_eq_true rfl⟩) hK hE hA hM (mm_recv hK hM ho (q := (RX5, TX5, 7)) rfl) rfl hl.1 rfl (Nat.le_of_ble_eq_true rfl) dL_isAnswer_155 ⟨Nat.le_of_ble_eq_true rfl, Nat.le_of_ble_eq_true rfl⟩ (fun v f Hp lcs hp hM => ?_)
          obtain ⟨rfl, hI⟩ := hp
          obtain ⟨vso, ho⟩ := hI.obj
          refine ln_icmp_ne (shaN S ka) (shaN S k) (by have hz0 := shaN_le S ka; omega) (by have hz0 := shaN_le S k; omega) (tgt := 172) hx hb dL_isAnswer_158 (by decide) (fun hq9 => absurd hq9 (by omega)) (fun _ => ?_)
          refine lv_iload hx hb dL_isAnswer_161 (lv_at hl 0 rfl) ?_
          refine lv_iload hx hb dL_isAnswer_163 (lv_at hl 3 rfl) ?_
          refine ln_icmp_ge ka k (by omega) (by omega) (tgt := 172) hx hb dL_isAnswer_165 (by decide) (fun hq9 => absurd hq9 (by omega)) (fun _ => ?_)
          refine lv_iconst (v := (nI 1)) hx hb dL_isAnswer_168 (by decide +kernel) ?_
          refine lv_goto (tgt := 173) hx hb dL_isAnswer_169 (by decide) ?_
          refine lv_istore (lv' := [(4, .int (nI 1)), (7, .int (nI ka)), (3, .int (-100006)), (6, .int (nI k)), (0, .ref o), (1, .int (nI r)), (2, .int (nI (mS_ S n (nI r)))), (5, .int (nI i))]) hx hb dL_isAnswer_173 hl (by decide) rfl (fun ls hl => ?_)
          refine lv_iinc (v := (nI (i + 1))) (lv' := [(5, .int (nI (i + 1))), (4, .int (nI 1)), (7, .int (nI ka)), (3, .int (-100006)), (6, .int (nI k)), (0, .ref o), (1, .int (nI r)), (2, .int (nI (mS_ S n (nI r))))]) hx hb dL_isAnswer_175 hl (k := 7) rfl (nI_add _ _) (by decide) rfl (fun ls hl => ?_)
          refine lv_goto (tgt := 47) hx hb dL_isAnswer_178 (by decide) ?_
          have hA2 := hIn.step k1 k2 k3 k5
          rw [if_neg cz6] at hA2
          exact ih (i + 1) (-100006) _ _ _ ls (by omega) hA2 hI (by omega) hM (lv_sub hl [5, 6, 7, 3, 1, 0] rfl)
        refine lv_iload_n hx hb dL_isAnswer_103 rfl (lv_at hl 5 rfl) ?_
        refine lv_goto (tgt := 109) hx hb dL_isAnswer_104 (by decide) ?_
        refine lv_istore_n (lv' := [(3, .int a), (4, .int (nI 1)), (6, .int (nI k)), (0, .ref o), (1, .int (nI r)), (2, .int (nI (mS_ S n (nI r)))), (5, .int (nI i))]) hx hb dL_isAnswer_109 rfl hl (by decide) rfl (fun ls hl => ?_)
        refine lv_iload hx hb dL_isAnswer_110 (lv_at hl 6 rfl) ?_
        refine ln_if_le i (by omega) (tgt := 175) hx hb dL_isAnswer_112 (by decide) (fun cz9 => ?_) (fun cz9 => ?_)
        · refine lv_iinc (v := (nI (i + 1))) (lv' := [(5, .int (nI (i + 1))), (3, .int a), (4, .int (nI 1)), (6, .int (nI k)), (0, .ref o), (1, .int (nI r)), (2, .int (nI (mS_ S n (nI r))))]) hx hb dL_isAnswer_175 hl (k := 6) rfl (nI_add _ _) (by decide) rfl (fun ls hl => ?_)
          refine lv_goto (tgt := 47) hx hb dL_isAnswer_178 (by decide) ?_
          have hA2 := hIn.step k1 k2 k3 k5
          rw [if_pos cz6] at hA2
          exact ih (i + 1) a _ _ _ ls (by omega) hA2 hI (by omega) hM (lv_sub hl [4, 5, 6, 1, 2, 0] rfl)
        refine lv_aload_n hx hb dL_isAnswer_115 rfl (lv_at hl 3 rfl) ?_
        refine lv_iload_n hx hb dL_isAnswer_116 rfl (lv_at hl 4 rfl) ?_
        refine lv_iload hx hb dL_isAnswer_117 (lv_at hl 6 rfl) ?_
        refine lv_iconst (v := (nI 1)) hx hb dL_isAnswer_119 (by decide +kernel) ?_
        refine ln_isub i 1 (by omega) hx hb dL_isAnswer_120 ?_
        refine mv_top (y := (nI (i - 1))) (congrArg nI (by omega)) ?_
        refine mm_V (As := [.int (nI r), .int (nI (i - 1))]) (rest := []) ⟨hx, hb, hml, hown, hts⟩ (p_reason l G hI hv r (i - 1)) (cwV 2 hts gL_isAnswer_X5_reason rfl rfl rfl (by decide +kernel) ⟨Nat.le_of_ble_eq_true rfl, Nat.le_of_ble_eq_true rfl⟩) hK hE hA hM (mm_recv hK hM ho (q := (RX5, TX5, 7)) rfl) rfl hl.1 rfl (Nat.le_of_ble_eq_true rfl) dL_isAnswer_121 ⟨Nat.le_of_ble_eq_true rfl, Nat.le_of_ble_eq_true rfl⟩ (fun v f Hp lcs hp hM => ?_)
        obtain ⟨rfl, hI⟩ := hp
        obtain ⟨vso, ho⟩ := hI.obj
        obtain ⟨ka, a1, a2, a3, a4⟩ := reason_at (S := S) hn16 (res4 hr4) (i := i - 1) (by omega)
        have hord := reason_ord k1 k2 (show rkS S n (nI r) ka < rkS S n (nI r) k by omega)
        refine mv_top (y := nI ka) a4 ?_
        refine lv_istore (lv' := [(7, .int (nI ka)), (3, .int a), (4, .int (nI 1)), (6, .int (nI k)), (0, .ref o), (1, .int (nI r)), (2, .int (nI (mS_ S n (nI r)))), (5, .int (nI i))]) hx hb dL_isAnswer_124 hl (by decide) rfl (fun ls hl => ?_)
        refine lv_iload hx hb dL_isAnswer_126 (lv_at hl 2 rfl) ?_
        refine lv_if_eq (tgt := 172) hx hb dL_isAnswer_128 (by decide) (fun hq9 => absurd hq9 (by decide)) (fun _ => ?_)
        refine lv_aload_n hx hb dL_isAnswer_131 rfl (lv_at hl 4 rfl) ?_
        refine lv_iload hx hb dL_isAnswer_132 (lv_at hl 0 rfl) ?_
        refine mm_V (As := [.int (nI ka)]) (rest := []) ⟨hx, hb, hml, hown, hts⟩ (p_sharpness l G hI hv (k := ka) (by omega)) (cwV 1 hts gL_isAnswer_X5_sharpness rfl rfl rfl (by decide +kernel) ⟨Nat.le_of_ble_eq_true rfl, Nat.le_of_ble_eq_true rfl⟩) hK hE hA hM (mm_recv hK hM ho (q := (RX5, TX5, 7)) rfl) rfl hl.1 rfl (Nat.le_of_ble_eq_true rfl) dL_isAnswer_134 ⟨Nat.le_of_ble_eq_true rfl, Nat.le_of_ble_eq_true rfl⟩ (fun v f Hp lcs hp hM => ?_)
        obtain ⟨rfl, hI⟩ := hp
        obtain ⟨vso, ho⟩ := hI.obj
        refine lv_aload_n hx hb dL_isAnswer_137 rfl (lv_at hl 4 rfl) ?_
        refine lv_iload hx hb dL_isAnswer_138 (lv_at hl 3 rfl) ?_
        refine mm_V (As := [.int (nI k)]) (rest := [.int (nI (shaN S ka))]) ⟨hx, hb, hml, hown, hts⟩ (p_sharpness l G hI hv (k := k) (by omega)) (cwV 1 hts gL_isAnswer_X5_sharpness rfl rfl rfl (by decide +kernel) ⟨Nat.le_of_ble_eq_true rfl, Nat.le_of_ble_eq_true rfl⟩) hK hE hA hM (mm_recv hK hM ho (q := (RX5, TX5, 7)) rfl) rfl hl.1 rfl (Nat.le_of_ble_eq_true rfl) dL_isAnswer_140 ⟨Nat.le_of_ble_eq_true rfl, Nat.le_of_ble_eq_true rfl⟩ (fun v f Hp lcs hp hM => ?_)
        obtain ⟨rfl, hI⟩ := hp
        obtain ⟨vso, ho⟩ := hI.obj
        refine ln_icmp_gt (shaN S ka) (shaN S k) (by have hz0 := shaN_le S ka; omega) (by have hz0 := shaN_le S k; omega) (tgt := 168) hx hb dL_isAnswer_143 (by decide) (fun cz10 => ?_) (fun cz10 => ?_)
        · refine lv_iconst (v := (nI 1)) hx hb dL_isAnswer_168 (by decide +kernel) ?_
          refine lv_goto (tgt := 173) hx hb dL_isAnswer_169 (by decide) ?_
          refine lv_istore (lv' := [(4, .int (nI 1)), (7, .int (nI ka)), (3, .int a), (6, .int (nI k)), (0, .ref o), (1, .int (nI r)), (2, .int (nI (mS_ S n (nI r)))), (5, .int (nI i))]) hx hb dL_isAnswer_173 hl (by decide) rfl (fun ls hl => ?_)
          refine lv_iinc (v := (nI (i + 1))) (lv' := [(5, .int (nI (i + 1))), (4, .int (nI 1)), (7, .int (nI ka)), (3, .int a), (6, .int (nI k)), (0, .ref o), (1, .int (nI r)), (2, .int (nI (mS_ S n (nI r))))]) hx hb dL_isAnswer_175 hl (k := 7) rfl (nI_add _ _) (by decide) rfl (fun ls hl => ?_)
          refine lv_goto (tgt := 47) hx hb dL_isAnswer_178 (by decide) ?_
          have hA2 := hIn.step k1 k2 k3 k5
          rw [if_pos cz6] at hA2
          exact ih (i + 1) a _ _ _ ls (by omega) hA2 hI (by omega) hM (lv_sub hl [5, 6, 7, 3, 1, 0] rfl)
        refine lv_aload_n hx hb dL_isAnswer_146 rfl (lv_at hl 4 rfl) ?_
        refine lv_iload hx hb dL_isAnswer_147 (lv_at hl 0 rfl) ?_
        refine mm_V (As := [.int (nI ka)]) (rest := []) ⟨hx, hb, hml, hown, hts⟩ (p_sharpness l G hI hv (k := ka) (by omega)) (cwV 1 hts gL_isAnswer_X5_sharpness rfl rfl rfl (by decide +kernel) ⟨Nat.le_of_ble_eq_true rfl, Nat.le_of_ble_eq_true rfl⟩) hK hE hA hM (mm_recv hK hM ho (q := (RX5, TX5, 7)) rfl) rfl hl.1 rfl (Nat.le_of_ble_eq_true rfl) dL_isAnswer_149 ⟨Nat.le_of_ble_eq_true rfl, Nat.le_of_ble_eq_true rfl⟩ (fun v f Hp lcs hp hM => ?_)
        obtain ⟨rfl, hI⟩ := hp
        obtain ⟨vso, ho⟩ := hI.obj
        refine lv_aload_n hx hb dL_isAnswer_152 rfl (lv_at hl 4 rfl) ?_
        refine lv_iload hx hb dL_isAnswer_153 (lv_at hl 3 rfl) ?_
        refine mm_V (As := [.int (nI k)]) (rest := [.int (nI (shaN S ka))]) ⟨hx, hb, hml, hown, hts⟩ (p_sharpness l G hI hv (k := k) (by omega)) (cwV 1 hts gL_isAnswer_X5_sharpness rfl rfl rfl (by decide +kernel) ⟨Nat.le_of_ble_eq_true rfl, Nat.le_of_ble_eq_true rfl⟩) hK hE hA hM (mm_recv hK hM ho (q := (RX5, TX5, 7)) rfl) rfl hl.1 rfl (Nat.le_of_ble_eq_true rfl) dL_isAnswer_155 ⟨Nat.le_of_ble_eq_true rfl, Nat.le_of_ble_eq_true rfl⟩ (fun v f Hp lcs hp hM => ?_)
        obtain ⟨rfl, hI⟩ := hp
        obtain ⟨vso, ho⟩ := hI.obj
        refine ln_icmp_ne (shaN S ka) (shaN S k) (by have hz0 := shaN_le S ka; omega) (by have hz0 := shaN_le S k; omega) (tgt := 172) hx hb dL_isAnswer_158 (by decide) (fun hq9 => absurd hq9 (by omega)) (fun _ => ?_)
        refine lv_iload hx hb dL_isAnswer_161 (lv_at hl 0 rfl) ?_
        refine lv_iload hx hb dL_isAnswer_163 (lv_at hl 3 rfl) ?_
        refine ln_icmp_ge ka k (by omega) (by omega) (tgt := 172) hx hb dL_isAnswer_165 (by decide) (fun hq9 => absurd hq9 (by omega)) (fun _ => ?_)
        refine lv_iconst (v := (nI 1)) hx hb dL_isAnswer_168 (by decide +kernel) ?_
        refine lv_goto (tgt := 173) hx hb dL_isAnswer_169 (by decide) ?_
        refine lv_istore (lv' := [(4, .int (nI 1)), (7, .int (nI ka)), (3, .int a), (6, .int (nI k)), (0, .ref o), (1, .int (nI r)), (2, .int (nI (mS_ S n (nI r)))), (5, .int (nI i))]) hx hb dL_isAnswer_173 hl (by decide) rfl (fun ls hl => ?_)
        refine lv_iinc (v := (nI (i + 1))) (lv' := [(5, .int (nI (i + 1))), (4, .int (nI 1)), (7, .int (nI ka)), (3, .int a), (6, .int (nI k)), (0, .ref o), (1, .int (nI r)), (2, .int (nI (mS_ S n (nI r))))]) hx hb dL_isAnswer_175 hl (k := 7) rfl (nI_add _ _) (by decide) rfl (fun ls hl => ?_)
        refine lv_goto (tgt := 47) hx hb dL_isAnswer_178 (by decide) ?_
        have hA2 := hIn.step k1 k2 k3 k5
        rw [if_pos cz6] at hA2
        exact ih (i + 1) a _ _ _ ls (by omega) hA2 hI (by omega) hM (lv_sub hl [5, 6, 7, 3, 1, 0] rfl)
    exact loopZ (mS_ S n (nI r) + 1) 0 (S (57 + 66 * k0 + 50)) _ _ _ ls (Nat.zero_le _) (Or.inr ⟨k0, q1, q2, LoA.zero S n (nI r) _⟩) hI (by omega) hM (lv_sub hl [4, 5, 3, 2, 1, 0] rfl)
  refine lv_ldc (v := (-100005)) hx hb hown (hts (.constant RL 40 (-100005)) (List.mem_of_getElem? (i := 1) rfl)) dL_isAnswer_10 ?_
  refine lv_goto (tgt := 25) hx hb dL_isAnswer_12 (by decide) ?_
  refine lv_istore_n (lv' := [(3, .int (-100005)), (2, .int (nI (mS_ S n (nI r)))), (0, .ref o), (1, .int (nI r))]) hx hb dL_isAnswer_25 rfl hl (by decide) rfl (fun ls hl => ?_)
  refine lv_aload_n hx hb dL_isAnswer_26 rfl (lv_at hl 2 rfl) ?_
  refine lv_iload_n hx hb dL_isAnswer_27 rfl (lv_at hl 3 rfl) ?_
  refine lv_iload_n hx hb dL_isAnswer_28 rfl (lv_at hl 1 rfl) ?_
  refine mm_V (As := [.int (nI r), .int (nI (mS_ S n (nI r)))]) (rest := []) ⟨hx, hb, hml, hown, hts⟩ (p_reason l G hI hv r (mS_ S n (nI r))) (cwV 2 hts gL_isAnswer_X5_reason rfl rfl rfl (by decide +kernel) ⟨Nat.le_of_ble_eq_true rfl, Nat.le_of_ble_eq_true rfl⟩) hK hE hA hM (mm_recv hK hM ho (q := (RX5, TX5, 7)) rfl) rfl hl.1 rfl (Nat.le_of_ble_eq_true rfl) dL_isAnswer_29 ⟨Nat.le_of_ble_eq_true rfl, Nat.le_of_ble_eq_true rfl⟩ (fun v f Hp lcs hp hM => ?_)
  obtain ⟨rfl, hI⟩ := hp
  obtain ⟨vso, ho⟩ := hI.obj
  refine lv_ldc (v := (-100005)) hx hb hown (hts (.constant RL 40 (-100005)) (List.mem_of_getElem? (i := 1) rfl)) dL_isAnswer_32 ?_
  refine lv_icmp_ne (tgt := 41) hx hb dL_isAnswer_34 (by decide) (fun hq9 => absurd hq9 (not_not_intro (reason_end (S := S) hn16 (res4 hr4)))) (fun _ => ?_)
  refine lv_iconst (v := (nI 1)) hx hb dL_isAnswer_37 (by decide +kernel) ?_
  refine lv_goto (tgt := 42) hx hb dL_isAnswer_38 (by decide) ?_
  refine lv_istore (lv' := [(4, .int (nI 1)), (3, .int (-100005)), (2, .int (nI (mS_ S n (nI r)))), (0, .ref o), (1, .int (nI r))]) hx hb dL_isAnswer_42 hl (by decide) rfl (fun ls hl => ?_)
  refine lv_iconst (v := (nI 0)) hx hb dL_isAnswer_44 (by decide +kernel) ?_
  refine lv_istore (lv' := [(5, .int (nI 0)), (4, .int (nI 1)), (3, .int (-100005)), (2, .int (nI (mS_ S n (nI r)))), (0, .ref o), (1, .int (nI r))]) hx hb dL_isAnswer_45 hl (by decide) rfl (fun ls hl => ?_)
  have loopZ : ∀ (fuel : Nat) (i : Nat) (a : Int32) (f : mE) (Hp : Heap) (lcs : List Loc) (ls : Array Slot) (him : i ≤ mS_ S n (nI r)) (hIn : InA S n (nI r) i a) (hI : CI G f o S P rc) (hfu : mS_ S n (nI r) - i < fuel) (hM : mM G A s.heap f Hp lcs) (hl : lv_has ls 8 [(0, .ref o), (1, .int (nI r)), (2, .int (nI (mS_ S n (nI r)))), (3, .int a), (4, .int (nI 1)), (5, .int (nI i))]), W pgm l env ({ frames := 6, cells := 0, slots := 0, locals := 145 } : Room) s mt args below meth c Hp lcs 0 0 (MQ below (mQc G A (fun v f1 => v = some (.int (nI 1)) ∧ CI G f1 o S P rc)) args s 0 0 A) (F0 mt 47 ls []) := by
    intro fuel
    induction fuel with
    | zero => intro i a f Hp lcs ls him hIn hI hfu; exact absurd hfu (Nat.not_lt_zero _)
    | succ fuel ih =>
      intro i a f Hp lcs ls him hIn hI hfu hM hl
      obtain ⟨vso, ho⟩ := hI.obj
      refine lv_iload hx hb dL_isAnswer_47 (lv_at hl 5 rfl) ?_
      refine lv_iload_n hx hb dL_isAnswer_49 rfl (lv_at hl 2 rfl) ?_
      refine ln_icmp_ge i (mS_ S n (nI r)) (by omega) (by omega) (tgt := 181) hx hb dL_isAnswer_50 (by decide) (fun cz11 => ?_) (fun cz11 => ?_)
      · have him2 : i = mS_ S n (nI r) := (by omega)
        have hfin := hIn.fin_ hv hr4 him2
        refine lv_iconst (v := (nI 0)) hx hb dL_isAnswer_181 (by decide +kernel) ?_
        refine lv_istore (lv' := [(5, .int (nI 0)), (0, .ref o), (1, .int (nI r)), (2, .int (nI (mS_ S n (nI r)))), (3, .int a), (4, .int (nI 1))]) hx hb dL_isAnswer_182 hl (by decide) rfl (fun ls hl => ?_)
        refine lv_iconst (v := (nI 0)) hx hb dL_isAnswer_184 (by decide +kernel) ?_
        refine lv_istore (lv' := [(6, .int (nI 0)), (5, .int (nI 0)), (0, .ref o), (1, .int (nI r)), (2, .int (nI (mS_ S n (nI r)))), (3, .int a), (4, .int (nI 1))]) hx hb dL_isAnswer_185 hl (by decide) rfl (fun ls hl => ?_)
        have loopY : ∀ (fuelB : Nat) (kk : Nat) (f : mE) (Hp : Heap) (lcs : List Loc) (ls : Array Slot) (hkn : kk ≤ n) (hI : CI G f o S P rc) (hfuB : n - kk < fuelB) (hM : mM G A s.heap f Hp lcs) (hl : lv_has ls 8 [(0, .ref o), (1, .int (nI r)), (2, .int (nI (mS_ S n (nI r)))), (3, .int a), (4, .int (nI 1)), (5, .int (nI (cntN (fun k => decide (S (57 + 66 * k + 49) = nI r) && conB S k) kk))), (6, .int (nI kk))]), W pgm l env ({ frames := 6, cells := 0, slots := 0, locals := 145 } : Room) s mt args below meth c Hp lcs 0 0 (MQ below (mQc G A (fun v f1 => v = some (.int (nI 1)) ∧ CI G f1 o S P rc)) args s 0 0 A) (F0 mt 187 ls []) := by
          intro fuelB
          induction fuelB with
          | zero => intro kk f Hp lcs ls hkn hI hfuB; exact absurd hfuB (Nat.not_lt_zero _)
          | succ fuelB ihB =>
            intro kk f Hp lcs ls hkn hI hfuB hM hl
            obtain ⟨vso, ho⟩ := hI.obj
            have hcn9 := cntN_le (fun k => decide (S (57 + 66 * k + 49) = nI r) && conB S k) kk
            refine lv_iload hx hb dL_isAnswer_187 (lv_at hl 6 rfl) ?_
            refine lv_aload_n hx hb dL_isAnswer_189 rfl (lv_at hl 0 rfl) ?_
            refine mm_V (As := []) (rest := [.int (nI kk)]) ⟨hx, hb, hml, hown, hts⟩ (p_sentences l G hI hv ) (cwV 0 hts gL_isAnswer_X5_sentences rfl rfl rfl (by decide +kernel) ⟨Nat.le_of_ble_eq_true rfl, Nat.le_of_ble_eq_true rfl⟩) hK hE hA hM (mm_recv hK hM ho (q := (RX5, TX5, 7)) rfl) rfl hl.1 rfl (Nat.le_of_ble_eq_true rfl) dL_isAnswer_190 ⟨Nat.le_of_ble_eq_true rfl, Nat.le_of_ble_eq_true rfl⟩ (fun v f Hp lcs hp hM => ?_)
            obtain ⟨rfl, hI⟩ := hp
            obtain ⟨vso, ho⟩ := hI.obj
            refine ln_icmp_ge kk n (by omega) (by omega) (tgt := 232) hx hb dL_isAnswer_193 (by decide) (fun cz12 => ?_) (fun cz12 => ?_)
            · refine lv_iload hx hb dL_isAnswer_232 (lv_at hl 4 rfl) ?_
              refine lv_if_eq (tgt := 262) hx hb dL_isAnswer_234 (by decide) (fun hq9 => absurd hq9 (by decide)) (fun _ => ?_)
              refine lv_aload_n hx hb dL_isAnswer_237 rfl (lv_at hl 0 rfl) ?_
              refine lv_iload_n hx hb dL_isAnswer_238 rfl (lv_at hl 1 rfl) ?_
              refine mm_V (As := [.int (nI r)]) (rest := []) ⟨hx, hb, hml, hown, hts⟩ (p_answer l G hI hv (r := r) (by omega)) (cwV 1 hts gL_isAnswer_X5_answer rfl rfl rfl (by decide +kernel) ⟨Nat.le_of_ble_eq_true rfl, Nat.le_of_ble_eq_true rfl⟩) hK hE hA hM (mm_recv hK hM ho (q := (RX5, TX5, 7)) rfl) rfl hl.1 rfl (Nat.le_of_ble_eq_true rfl) dL_isAnswer_239 ⟨Nat.le_of_ble_eq_true rfl, Nat.le_of_ble_eq_true rfl⟩ (fun v f Hp lcs hp hM => ?_)
              obtain ⟨rfl, hI⟩ := hp
              obtain ⟨vso, ho⟩ := hI.obj
              refine mv_top (y := a) hfin ?_
              refine lv_iload_n hx hb dL_isAnswer_242 rfl (lv_at hl 3 rfl) ?_
              refine lv_icmp_ne (tgt := 262) hx hb dL_isAnswer_243 (by decide) (fun hq9 => absurd hq9 (not_not_intro rfl)) (fun _ => ?_)
              refine lv_iload_n hx hb dL_isAnswer_246 rfl (lv_at hl 2 rfl) ?_
              refine lv_aload_n hx hb dL_isAnswer_247 rfl (lv_at hl 0 rfl) ?_
              refine lv_iload_n hx hb dL_isAnswer_248 rfl (lv_at hl 1 rfl) ?_
              refine mm_V (As := [.int (nI r)]) (rest := [.int (nI (mS_ S n (nI r)))]) ⟨hx, hb, hml, hown, hts⟩ (p_overridden l G hI hv (r := r) (by omega)) (cwV 1 hts gL_isAnswer_X5_overridden rfl rfl rfl (by decide +kernel) ⟨Nat.le_of_ble_eq_true rfl, Nat.le_of_ble_eq_true rfl⟩) hK hE hA hM (mm_recv hK hM ho (q := (RX5, TX5, 7)) rfl) rfl hl.1 rfl (Nat.le_of_ble_eq_true rfl) dL_isAnswer_249 ⟨Nat.le_of_ble_eq_true rfl, Nat.le_of_ble_eq_true rfl⟩ (fun v f Hp lcs hp hM => ?_)
              obtain ⟨rfl, hI⟩ := hp
              obtain ⟨vso, ho⟩ := hI.obj
              have hkk : n = kk := (by omega)
              have hs9 : mS_ S n (nI r) + cntN (fun k => appB S (-100005) k (nI r) && !reaB S (-100005) n k (nI r)) n = cntN (fun k => decide (S (57 + 66 * k + 49) = nI r) && conB S k) kk := by rw [← hkk]; exact app_sum hn16 (nI r)
              refine ln_iadd (mS_ S n (nI r)) (cntN (fun k => appB S (-100005) k (nI r) && !reaB S (-100005) n k (nI r)) n) hx hb dL_isAnswer_252 ?_
              refine lv_iload hx hb dL_isAnswer_253 (lv_at hl 5 rfl) ?_
              refine ln_icmp_ne ((mS_ S n (nI r)) + (cntN (fun k => appB S (-100005) k (nI r) && !reaB S (-100005) n k (nI r)) n)) (cntN (fun k => decide (S (57 + 66 * k + 49) = nI r) && conB S k) kk) (by omega) (by have hz0 := cntN_le (fun k => decide (S (57 + 66 * k + 49) = nI r) && conB S k) kk; omega) (tgt := 262) hx hb dL_isAnswer_255 (by decide) (fun hq9 => absurd hq9 (not_not_intro hs9)) (fun _ => ?_)
              refine lv_iconst (v := (nI 1)) hx hb dL_isAnswer_258 (by decide +kernel) ?_
              refine lv_goto (tgt := 263) hx hb dL_isAnswer_259 (by decide) ?_
              exact mm_zret hx hb hlocks hr (by first | rfl | exact bI_nar _) (Nat.le_of_ble_eq_true rfl) (Nat.le_of_ble_eq_true rfl) hM (⟨rfl, hI⟩) dL_isAnswer_263
            refine lv_aload_n hx hb dL_isAnswer_196 rfl (lv_at hl 0 rfl) ?_
            refine lv_iload hx hb dL_isAnswer_197 (lv_at hl 6 rfl) ?_
            refine mm_V (As := [.int (nI kk)]) (rest := []) ⟨hx, hb, hml, hown, hts⟩ (p_about l G hI hv (k := kk) (by omega)) (cwV 1 hts gL_isAnswer_X5_about rfl rfl rfl (by decide +kernel) ⟨Nat.le_of_ble_eq_true rfl, Nat.le_of_ble_eq_true rfl⟩) hK hE hA hM (mm_recv hK hM ho (q := (RX5, TX5, 7)) rfl) rfl hl.1 rfl (Nat.le_of_ble_eq_true rfl) dL_isAnswer_199 ⟨Nat.le_of_ble_eq_true rfl, Nat.le_of_ble_eq_true rfl⟩ (fun v f Hp lcs hp hM => ?_)
            obtain ⟨rfl, hI⟩ := hp
            obtain ⟨vso, ho⟩ := hI.obj
            refine lv_iload_n hx hb dL_isAnswer_202 rfl (lv_at hl 1 rfl) ?_
            refine lv_icmp_ne (tgt := 222) hx hb dL_isAnswer_203 (by decide) (fun cz13 => ?_) (fun cz13 => ?_)
            · refine lv_iload hx hb dL_isAnswer_222 (lv_at hl 5 rfl) ?_
              refine lv_istore (lv' := [(5, .int (nI (cntN (fun k => decide (S (57 + 66 * k + 49) = nI r) && conB S k) kk))), (0, .ref o), (1, .int (nI r)), (2, .int (nI (mS_ S n (nI r)))), (3, .int a), (4, .int (nI 1)), (6, .int (nI kk))]) hx hb dL_isAnswer_224 hl (by decide) rfl (fun ls hl => ?_)
              refine lv_iinc (v := (nI (kk + 1))) (lv' := [(6, .int (nI (kk + 1))), (5, .int (nI (cntN (fun k => decide (S (57 + 66 * k + 49) = nI r) && conB S k) kk))), (0, .ref o), (1, .int (nI r)), (2, .int (nI (mS_ S n (nI r)))), (3, .int a), (4, .int (nI 1))]) hx hb dL_isAnswer_226 hl (k := 6) rfl (nI_add _ _) (by decide) rfl (fun ls hl => ?_)
              refine lv_goto (tgt := 187) hx hb dL_isAnswer_229 (by decide) ?_
              have e9 : cntN (fun k => decide (S (57 + 66 * k + 49) = nI r) && conB S k) (kk + 1) = cntN (fun k => decide (S (57 + 66 * k + 49) = nI r) && conB S k) kk := by rw [cntN, if_neg (by rw [decide_eq_false cz13, Bool.false_and]; decide)]; rfl
              have hl : lv_has ls 8 [(6, .int (nI (kk + 1))), (5, .int (nI (cntN (fun k => decide (S (57 + 66 * k + 49) = nI r) && conB S k) (kk + 1)))), (0, .ref o), (1, .int (nI r)), (2, .int (nI (mS_ S n (nI r)))), (3, .int a), (4, .int (nI 1))] := by rw [e9]; exact hl
              exact ihB (kk + 1) _ _ _ ls (by omega) hI (by omega) hM (lv_sub hl [2, 3, 4, 5, 6, 1, 0] rfl)
            refine lv_aload_n hx hb dL_isAnswer_206 rfl (lv_at hl 0 rfl) ?_
            refine lv_iload hx hb dL_isAnswer_207 (lv_at hl 6 rfl) ?_
            refine mm_S (As := [.ref o, .int (nI kk)]) (rest := []) ⟨hx, hb, hml, hown, hts⟩ (l_contains l G hI hv (k := kk) (by omega)) (va_cwS 2 hts gL_isAnswer_L_contains rfl rfl rfl (by decide +kernel) ⟨Nat.le_of_ble_eq_true rfl, Nat.le_of_ble_eq_true rfl⟩) hK hE hA hM rfl hl.1 rfl (Nat.le_of_ble_eq_true rfl) dL_isAnswer_209 ⟨Nat.le_of_ble_eq_true rfl, Nat.le_of_ble_eq_true rfl⟩ (fun v f Hp lcs hp hM => ?_)
            obtain ⟨rfl, hI⟩ := hp
            obtain ⟨vso, ho⟩ := hI.obj
            refine lvb_eq (tgt := 222) hx hb dL_isAnswer_212 (by decide) (fun cz14 => ?_) (fun cz14 => ?_)
            · refine lv_iload hx hb dL_isAnswer_222 (lv_at hl 5 rfl) ?_
              refine lv_istore (lv' := [(5, .int (nI (cntN (fun k => decide (S (57 + 66 * k + 49) = nI r) && conB S k) kk))), (0, .ref o), (1, .int (nI r)), (2, .int (nI (mS_ S n (nI r)))), (3, .int a), (4, .int (nI 1)), (6, .int (nI kk))]) hx hb dL_isAnswer_224 hl (by decide) rfl (fun ls hl => ?_)
              refine lv_iinc (v := (nI (kk + 1))) (lv' := [(6, .int (nI (kk + 1))), (5, .int (nI (cntN (fun k => decide (S (57 + 66 * k + 49) = nI r) && conB S k) kk))), (0, .ref o), (1, .int (nI r)), (2, .int (nI (mS_ S n (nI r)))), (3, .int a), (4, .int (nI 1))]) hx hb dL_isAnswer_226 hl (k := 6) rfl (nI_add _ _) (by decide) rfl (fun ls hl => ?_)
              refine lv_goto (tgt := 187) hx hb dL_isAnswer_229 (by decide) ?_
              have e9 : cntN (fun k => decide (S (57 + 66 * k + 49) = nI r) && conB S k) (kk + 1) = cntN (fun k => decide (S (57 + 66 * k + 49) = nI r) && conB S k) kk := by rw [cntN, if_neg (by rw [cz14, Bool.and_false]; decide)]; rfl
              have hl : lv_has ls 8 [(6, .int (nI (kk + 1))), (5, .int (nI (cntN (fun k => decide (S (57 + 66 * k + 49) = nI r) && conB S k) (kk + 1)))), (0, .ref o), (1, .int (nI r)), (2, .int (nI (mS_ S n (nI r)))), (3, .int a), (4, .int (nI 1))] := by rw [e9]; exact hl
              exact ihB (kk + 1) _ _ _ ls (by omega) hI (by omega) hM (lv_sub hl [2, 3, 4, 5, 6, 1, 0] rfl)
            refine lv_iload hx hb dL_isAnswer_215 (lv_at hl 5 rfl) ?_
            refine lv_iconst (v := (nI 1)) hx hb dL_isAnswer_217 (by decide +kernel) ?_
            refine ln_iadd (cntN (fun k => decide (S (57 + 66 * k + 49) = nI r) && conB S k) kk) 1 hx hb dL_isAnswer_218 ?_
            refine lv_goto (tgt := 224) hx hb dL_isAnswer_219 (by decide) ?_
            refine lv_istore (lv' := [(5, .int (nI ((cntN (fun k => decide (S (57 + 66 * k + 49) = nI r) && conB S k) kk) + 1))), (0, .ref o), (1, .int (nI r)), (2, .int (nI (mS_ S n (nI r)))), (3, .int a), (4, .int (nI 1)), (6, .int (nI kk))]) hx hb dL_isAnswer_224 hl (by decide) rfl (fun ls hl => ?_)
            refine lv_iinc (v := (nI (kk + 1))) (lv' := [(6, .int (nI (kk + 1))), (5, .int (nI ((cntN (fun k => decide (S (57 + 66 * k + 49) = nI r) && conB S k) kk) + 1))), (0, .ref o), (1, .int (nI r)), (2, .int (nI (mS_ S n (nI r)))), (3, .int a), (4, .int (nI 1))]) hx hb dL_isAnswer_226 hl (k := 6) rfl (nI_add _ _) (by decide) rfl (fun ls hl => ?_)
            refine lv_goto (tgt := 187) hx hb dL_isAnswer_229 (by decide) ?_
            have e9 : cntN (fun k => decide (S (57 + 66 * k + 49) = nI r) && conB S k) (kk + 1) = cntN (fun k => decide (S (57 + 66 * k + 49) = nI r) && conB S k) kk + 1 := by rw [cntN, if_pos (by rw [decide_eq_true cz13, cz14]; rfl)]
            have hl : lv_has ls 8 [(6, .int (nI (kk + 1))), (5, .int (nI (cntN (fun k => decide (S (57 + 66 * k + 49) = nI r) && conB S k) (kk + 1)))), (0, .ref o), (1, .int (nI r)), (2, .int (nI (mS_ S n (nI r)))), (3, .int a), (4, .int (nI 1))] := by rw [e9]; exact hl
            exact ihB (kk + 1) _ _ _ ls (by omega) hI (by omega) hM (lv_sub hl [2, 3, 4, 5, 6, 1, 0] rfl)
        exact loopY (n + 1) 0 _ _ _ ls (Nat.zero_le _) hI (by omega) hM (lv_sub hl [2, 3, 4, 5, 6, 1, 0] rfl)
      refine lv_aload_n hx hb dL_isAnswer_53 rfl (lv_at hl 0 rfl) ?_
      refine lv_iload_n hx hb dL_isAnswer_54 rfl (lv_at hl 1 rfl) ?_
      refine lv_iload hx hb dL_isAnswer_55 (lv_at hl 5 rfl) ?_
      refine mm_V (As := [.int (nI r), .int (nI i)]) (rest := []) ⟨hx, hb, hml, hown, hts⟩ (p_reason l G hI hv r i) (cwV 2 hts gL_isAnswer_X5_reason rfl rfl rfl (by decide +kernel) ⟨Nat.le_of_ble_eq_true rfl, Nat.le_of_ble_eq_true rfl⟩) hK hE hA hM (mm_recv hK hM ho (q := (RX5, TX5, 7)) rfl) rfl hl.1 rfl (Nat.le_of_ble_eq_true rfl) dL_isAnswer_57 ⟨Nat.le_of_ble_eq_true rfl, Nat.le_of_ble_eq_true rfl⟩ (fun v f Hp lcs hp hM => ?_)
      obtain ⟨rfl, hI⟩ := hp
      obtain ⟨vso, ho⟩ := hI.obj
      obtain ⟨k, k1, k2, k3, k4⟩ := reason_at (S := S) hn16 (res4 hr4) (i := i) (by omega)
      obtain ⟨kc, kb⟩ := rea_con k2
      have k5 := (g_ok hv hr4 k k1 k2).2
      refine mv_top (y := nI k) k4 ?_
      refine lv_istore (lv' := [(6, .int (nI k)), (0, .ref o), (1, .int (nI r)), (2, .int (nI (mS_ S n (nI r)))), (3, .int a), (4, .int (nI 1)), (5, .int (nI i))]) hx hb dL_isAnswer_60 hl (by decide) rfl (fun ls hl => ?_)
      refine lv_iload hx hb dL_isAnswer_62 (lv_at hl 5 rfl) ?_
      refine lv_if_eq (tgt := 90) hx hb dL_isAnswer_64 (by decide) (fun hq9 => absurd hq9 (by decide)) (fun _ => ?_)
      refine lv_aload_n hx hb dL_isAnswer_67 rfl (lv_at hl 1 rfl) ?_
      refine lv_iload hx hb dL_isAnswer_68 (lv_at hl 0 rfl) ?_
      refine mm_S (As := [.ref o, .int (nI k)]) (rest := []) ⟨hx, hb, hml, hown, hts⟩ (l_contains l G hI hv (k := k) (by omega)) (va_cwS 2 hts gL_isAnswer_L_contains rfl rfl rfl (by decide +kernel) ⟨Nat.le_of_ble_eq_true rfl, Nat.le_of_ble_eq_true rfl⟩) hK hE hA hM rfl hl.1 rfl (Nat.le_of_ble_eq_true rfl) dL_isAnswer_70 ⟨Nat.le_of_ble_eq_true rfl, Nat.le_of_ble_eq_true rfl⟩ (fun v f Hp lcs hp hM => ?_)
      obtain ⟨rfl, hI⟩ := hp
      obtain ⟨vso, ho⟩ := hI.obj
      refine mv_top (y := (nI 1)) (by rw [kc]; rfl) ?_
      refine lv_if_eq (tgt := 90) hx hb dL_isAnswer_73 (by decide) (fun hq9 => absurd hq9 (by decide)) (fun _ => ?_)
      refine lv_aload_n hx hb dL_isAnswer_76 rfl (lv_at hl 1 rfl) ?_
      refine lv_iload hx hb dL_isAnswer_77 (lv_at hl 0 rfl) ?_
      refine mm_V (As := [.int (nI k)]) (rest := []) ⟨hx, hb, hml, hown, hts⟩ (p_about l G hI hv (k := k) (by omega)) (cwV 1 hts gL_isAnswer_X5_about rfl rfl rfl (by decide +kernel) ⟨Nat.le_of_ble_eq_true rfl, Nat.le_of_ble_eq_true rfl⟩) hK hE hA hM (mm_recv hK hM ho (q := (RX5, TX5, 7)) rfl) rfl hl.1 rfl (Nat.le_of_ble_eq_true rfl) dL_isAnswer_79 ⟨Nat.le_of_ble_eq_true rfl, Nat.le_of_ble_eq_true rfl⟩ (fun v f Hp lcs hp hM => ?_)
      obtain ⟨rfl, hI⟩ := hp
      obtain ⟨vso, ho⟩ := hI.obj
      refine mv_top (y := (nI r)) kb ?_
      refine lv_iload_n hx hb dL_isAnswer_82 rfl (lv_at hl 2 rfl) ?_
      refine ln_icmp_ne r r (by omega) (by omega) (tgt := 90) hx hb dL_isAnswer_83 (by decide) (fun hq9 => absurd hq9 (not_not_intro rfl)) (fun _ => ?_)
      refine lv_iconst (v := (nI 1)) hx hb dL_isAnswer_86 (by decide +kernel) ?_
      refine lv_goto (tgt := 91) hx hb dL_isAnswer_87 (by decide) ?_
      refine lv_istore (lv' := [(4, .int (nI 1)), (6, .int (nI k)), (0, .ref o), (1, .int (nI r)), (2, .int (nI (mS_ S n (nI r)))), (3, .int a), (5, .int (nI i))]) hx hb dL_isAnswer_91 hl (by decide) rfl (fun ls hl => ?_)
      refine lv_aload_n hx hb dL_isAnswer_93 rfl (lv_at hl 2 rfl) ?_
      refine lv_iload hx hb dL_isAnswer_94 (lv_at hl 1 rfl) ?_
      refine mm_V (As := [.int (nI k)]) (rest := []) ⟨hx, hb, hml, hown, hts⟩ (p_gives l G hI hv (k := k) (by omega)) (cwV 1 hts gL_isAnswer_X5_gives rfl rfl rfl (by decide +kernel) ⟨Nat.le_of_ble_eq_true rfl, Nat.le_of_ble_eq_true rfl⟩) hK hE hA hM (mm_recv hK hM ho (q := (RX5, TX5, 7)) rfl) rfl hl.1 rfl (Nat.le_of_ble_eq_true rfl) dL_isAnswer_96 ⟨Nat.le_of_ble_eq_true rfl, Nat.le_of_ble_eq_true rfl⟩ (fun v f Hp lcs hp hM => ?_)
      obtain ⟨rfl, hI⟩ := hp
      obtain ⟨vso, ho⟩ := hI.obj
      refine lv_iload_n hx hb dL_isAnswer_99 rfl (lv_at hl 5 rfl) ?_
      refine lv_icmp_ne (tgt := 107) hx hb dL_isAnswer_100 (by decide) (fun cz15 => ?_) (fun cz15 => ?_)
      · refine lv_ldc (v := (-100006)) hx hb hown (hts (.constant RL 69 (-100006)) (List.mem_of_getElem? (i := 2) rfl)) dL_isAnswer_107 ?_
        refine lv_istore_n (lv' := [(3, .int (-100006)), (4, .int (nI 1)), (6, .int (nI k)), (0, .ref o), (1, .int (nI r)), (2, .int (nI (mS_ S n (nI r)))), (5, .int (nI i))]) hx hb dL_isAnswer_109 rfl hl (by decide) rfl (fun ls hl => ?_)
        refine lv_iload hx hb dL_isAnswer_110 (lv_at hl 6 rfl) ?_
        refine ln_if_le i (by omega) (tgt := 175) hx hb dL_isAnswer_112 (by decide) (fun cz16 => ?_) (fun cz16 => ?_)
        · refine lv_iinc (v := (nI (i + 1))) (lv' := [(5, .int (nI (i + 1))), (3, .int (-100006)), (4, .int (nI 1)), (6, .int (nI k)), (0, .ref o), (1, .int (nI r)), (2, .int (nI (mS_ S n (nI r))))]) hx hb dL_isAnswer_175 hl (k := 6) rfl (nI_add _ _) (by decide) rfl (fun ls hl => ?_)
          refine lv_goto (tgt := 47) hx hb dL_isAnswer_178 (by decide) ?_
          have hA2 := hIn.step k1 k2 k3 k5
          rw [if_neg cz15] at hA2
          exact ih (i + 1) (-100006) _ _ _ ls (by omega) hA2 hI (by omega) hM (lv_sub hl [4, 5, 6, 1, 2, 0] rfl)
        refine lv_aload_n hx hb dL_isAnswer_115 rfl (lv_at hl 3 rfl) ?_
        refine lv_iload_n hx hb dL_isAnswer_116 rfl (lv_at hl 4 rfl) ?_
        refine lv_iload hx hb dL_isAnswer_117 (lv_at hl 6 rfl) ?_
        refine lv_iconst (v := (nI 1)) hx hb dL_isAnswer_119 (by decide +kernel) ?_
        refine ln_isub i 1 (by omega) hx hb dL_isAnswer_120 ?_
        refine mv_top (y := (nI (i - 1))) (congrArg nI (by omega)) ?_
        refine mm_V (As := [.int (nI r), .int (nI (i - 1))]) (rest := []) ⟨hx, hb, hml, hown, hts⟩ (p_reason l G hI hv r (i - 1)) (cwV 2 hts gL_isAnswer_X5_reason rfl rfl rfl (by decide +kernel) ⟨Nat.le_of_ble_eq_true rfl, Nat.le_of_ble_eq_true rfl⟩) hK hE hA hM (mm_recv hK hM ho (q := (RX5, TX5, 7)) rfl) rfl hl.1 rfl (Nat.le_of_ble_eq_true rfl) dL_isAnswer_121 ⟨Nat.le_of_ble_eq_true rfl, Nat.le_of_ble_eq_true rfl⟩ (fun v f Hp lcs hp hM => ?_)
        obtain ⟨rfl, hI⟩ := hp
        obtain ⟨vso, ho⟩ := hI.obj
        obtain ⟨ka, a1, a2, a3, a4⟩ := reason_at (S := S) hn16 (res4 hr4) (i := i - 1) (by omega)
        have hord := reason_ord k1 k2 (show rkS S n (nI r) ka < rkS S n (nI r) k by omega)
        refine mv_top (y := nI ka) a4 ?_
        refine lv_istore (lv' := [(7, .int (nI ka)), (3, .int (-100006)), (4, .int (nI 1)), (6, .int (nI k)), (0, .ref o), (1, .int (nI r)), (2, .int (nI (mS_ S n (nI r)))), (5, .int (nI i))]) hx hb dL_isAnswer_124 hl (by decide) rfl (fun ls hl => ?_)
        refine lv_iload hx hb dL_isAnswer_126 (lv_at hl 2 rfl) ?_
        refine lv_if_eq (tgt := 172) hx hb dL_isAnswer_128 (by decide) (fun hq9 => absurd hq9 (by decide)) (fun _ => ?_)
        refine lv_aload_n hx hb dL_isAnswer_131 rfl (lv_at hl 4 rfl) ?_
        refine lv_iload hx hb dL_isAnswer_132 (lv_at hl 0 rfl) ?_
        refine mm_V (As := [.int (nI ka)]) (rest := []) ⟨hx, hb, hml, hown, hts⟩ (p_sharpness l G hI hv (k := ka) (by omega)) (cwV 1 hts gL_isAnswer_X5_sharpness rfl rfl rfl (by decide +kernel) ⟨Nat.le_of_ble_eq_true rfl, Nat.le_of_ble_eq_true rfl⟩) hK hE hA hM (mm_recv hK hM ho (q := (RX5, TX5, 7)) rfl) rfl hl.1 rfl (Nat.le_of_ble_eq_true rfl) dL_isAnswer_134 ⟨Nat.le_of_ble_eq_true rfl, Nat.le_of_ble_eq_true rfl⟩ (fun v f Hp lcs hp hM => ?_)
        obtain ⟨rfl, hI⟩ := hp
        obtain ⟨vso, ho⟩ := hI.obj
        refine lv_aload_n hx hb dL_isAnswer_137 rfl (lv_at hl 4 rfl) ?_
        refine lv_iload hx hb dL_isAnswer_138 (lv_at hl 3 rfl) ?_
        refine mm_V (As := [.int (nI k)]) (rest := [.int (nI (shaN S ka))]) ⟨hx, hb, hml, hown, hts⟩ (p_sharpness l G hI hv (k := k) (by omega)) (cwV 1 hts gL_isAnswer_X5_sharpness rfl rfl rfl (by decide +kernel) ⟨Nat.le_of_ble_eq_true rfl, Nat.le_of_ble_eq_true rfl⟩) hK hE hA hM (mm_recv hK hM ho (q := (RX5, TX5, 7)) rfl) rfl hl.1 rfl (Nat.le_of_ble_eq_true rfl) dL_isAnswer_140 ⟨Nat.le_of_ble_eq_true rfl, Nat.le_of_ble_eq_true rfl⟩ (fun v f Hp lcs hp hM => ?_)
        obtain ⟨rfl, hI⟩ := hp
        obtain ⟨vso, ho⟩ := hI.obj
        refine ln_icmp_gt (shaN S ka) (shaN S k) (by have hz0 := shaN_le S ka; omega) (by have hz0 := shaN_le S k; omega) (tgt := 168) hx hb dL_isAnswer_143 (by decide) (fun cz17 => ?_) (fun cz17 => ?_)
        · refine lv_iconst (v := (nI 1)) hx hb dL_isAnswer_168 (by decide +kernel) ?_
          refine lv_goto (tgt := 173) hx hb dL_isAnswer_169 (by decide) ?_
          refine lv_istore (lv' := [(4, .int (nI 1)), (7, .int (nI ka)), (3, .int (-100006)), (6, .int (nI k)), (0, .ref o), (1, .int (nI r)), (2, .int (nI (mS_ S n (nI r)))), (5, .int (nI i))]) hx hb dL_isAnswer_173 hl (by decide) rfl (fun ls hl => ?_)
          refine lv_iinc (v := (nI (i + 1))) (lv' := [(5, .int (nI (i + 1))), (4, .int (nI 1)), (7, .int (nI ka)), (3, .int (-100006)), (6, .int (nI k)), (0, .ref o), (1, .int (nI r)), (2, .int (nI (mS_ S n (nI r))))]) hx hb dL_isAnswer_175 hl (k := 7) rfl (nI_add _ _) (by decide) rfl (fun ls hl => ?_)
          refine lv_goto (tgt := 47) hx hb dL_isAnswer_178 (by decide) ?_
          have hA2 := hIn.step k1 k2 k3 k5
          rw [if_neg cz15] at hA2
          exact ih (i + 1) (-100006) _ _ _ ls (by omega) hA2 hI (by omega) hM (lv_sub hl [5, 6, 7, 3, 1, 0] rfl)
        refine lv_aload_n hx hb dL_isAnswer_146 rfl (lv_at hl 4 rfl) ?_
        refine lv_iload hx hb dL_isAnswer_147 (lv_at hl 0 rfl) ?_
        refine mm_V (As := [.int (nI ka)]) (rest := []) ⟨hx, hb, hml, hown, hts⟩ (p_sharpness l G hI hv (k := ka) (by omega)) (cwV 1 hts gL_isAnswer_X5_sharpness rfl rfl rfl (by decide +kernel) ⟨Nat.le_of_ble_eq_true rfl, Nat.le_of_ble_eq_true rfl⟩) hK hE hA hM (mm_recv hK hM ho (q := (RX5, TX5, 7)) rfl) rfl hl.1 rfl (Nat.le_of_ble_eq_true rfl) dL_isAnswer_149 ⟨Nat.le_of_ble_eq_true rfl, Nat.le_of_ble_eq_true rfl⟩ (fun v f Hp lcs hp hM => ?_)
        obtain ⟨rfl, hI⟩ := hp
        obtain ⟨vso, ho⟩ := hI.obj
        refine lv_aload_n hx hb dL_isAnswer_152 rfl (lv_at hl 4 rfl) ?_
        refine lv_iload hx hb dL_isAnswer_153 (lv_at hl 3 rfl) ?_
        refine mm_V (As := [.int (nI k)]) (rest := [.int (nI (shaN S ka))]) ⟨hx, hb, hml, hown, hts⟩ (p_sharpness l G hI hv (k := k) (by omega)) (cwV 1 hts gL_isAnswer_X5_sharpness rfl rfl rfl (by decide +kernel) ⟨Nat.le_of_ble_eq_true rfl, Nat.le_of_ble_eq_true rfl⟩) hK hE hA hM (mm_recv hK hM ho (q := (RX5, TX5, 7)) rfl) rfl hl.1 rfl (Nat.le_of_ble_eq_true rfl) dL_isAnswer_155 ⟨Nat.le_of_ble_eq_true rfl, Nat.le_of_ble_eq_true rfl⟩ (fun v f Hp lcs hp hM => ?_)
        obtain ⟨rfl, hI⟩ := hp
        obtain ⟨vso, ho⟩ := hI.obj
        refine ln_icmp_ne (shaN S ka) (shaN S k) (by have hz0 := shaN_le S ka; omega) (by have hz0 := shaN_le S k; omega) (tgt := 172) hx hb dL_isAnswer_158 (by decide) (fun hq9 => absurd hq9 (by omega)) (fun _ => ?_)
        refine lv_iload hx hb dL_isAnswer_161 (lv_at hl 0 rfl) ?_
        refine lv_iload hx hb dL_isAnswer_163 (lv_at hl 3 rfl) ?_
        refine ln_icmp_ge ka k (by omega) (by omega) (tgt := 172) hx hb dL_isAnswer_165 (by decide) (fun hq9 => absurd hq9 (by omega)) (fun _ => ?_)
        refine lv_iconst (v := (nI 1)) hx hb dL_isAnswer_168 (by decide +kernel) ?_
        refine lv_goto (tgt := 173) hx hb dL_isAnswer_169 (by decide) ?_
        refine lv_istore (lv' := [(4, .int (nI 1)), (7, .int (nI ka)), (3, .int (-100006)), (6, .int (nI k)), (0, .ref o), (1, .int (nI r)), (2, .int (nI (mS_ S n (nI r)))), (5, .int (nI i))]) hx hb dL_isAnswer_173 hl (by decide) rfl (fun ls hl => ?_)
        refine lv_iinc (v := (nI (i + 1))) (lv' := [(5, .int (nI (i + 1))), (4, .int (nI 1)), (7, .int (nI ka)), (3, .int (-100006)), (6, .int (nI k)), (0, .ref o), (1, .int (nI r)), (2, .int (nI (mS_ S n (nI r))))]) hx hb dL_isAnswer_175 hl (k := 7) rfl (nI_add _ _) (by decide) rfl (fun ls hl => ?_)
        refine lv_goto (tgt := 47) hx hb dL_isAnswer_178 (by decide) ?_
        have hA2 := hIn.step k1 k2 k3 k5
        rw [if_neg cz15] at hA2
        exact ih (i + 1) (-100006) _ _ _ ls (by omega) hA2 hI (by omega) hM (lv_sub hl [5, 6, 7, 3, 1, 0] rfl)
      refine lv_iload_n hx hb dL_isAnswer_103 rfl (lv_at hl 5 rfl) ?_
      refine lv_goto (tgt := 109) hx hb dL_isAnswer_104 (by decide) ?_
      refine lv_istore_n (lv' := [(3, .int a), (4, .int (nI 1)), (6, .int (nI k)), (0, .ref o), (1, .int (nI r)), (2, .int (nI (mS_ S n (nI r)))), (5, .int (nI i))]) hx hb dL_isAnswer_109 rfl hl (by decide) rfl (fun ls hl => ?_)
      refine lv_iload hx hb dL_isAnswer_110 (lv_at hl 6 rfl) ?_
      refine ln_if_le i (by omega) (tgt := 175) hx hb dL_isAnswer_112 (by decide) (fun cz18 => ?_) (fun cz18 => ?_)
      · refine lv_iinc (v := (nI (i + 1))) (lv' := [(5, .int (nI (i + 1))), (3, .int a), (4, .int (nI 1)), (6, .int (nI k)), (0, .ref o), (1, .int (nI r)), (2, .int (nI (mS_ S n (nI r))))]) hx hb dL_isAnswer_175 hl (k := 6) rfl (nI_add _ _) (by decide) rfl (fun ls hl => ?_)
        refine lv_goto (tgt := 47) hx hb dL_isAnswer_178 (by decide) ?_
        have hA2 := hIn.step k1 k2 k3 k5
        rw [if_pos cz15] at hA2
        exact ih (i + 1) a _ _ _ ls (by omega) hA2 hI (by omega) hM (lv_sub hl [4, 5, 6, 1, 2, 0] rfl)
      refine lv_aload_n hx hb dL_isAnswer_115 rfl (lv_at hl 3 rfl) ?_
      refine lv_iload_n hx hb dL_isAnswer_116 rfl (lv_at hl 4 rfl) ?_
      refine lv_iload hx hb dL_isAnswer_117 (lv_at hl 6 rfl) ?_
      refine lv_iconst (v := (nI 1)) hx hb dL_isAnswer_119 (by decide +kernel) ?_
      refine ln_isub i 1 (by omega) hx hb dL_isAnswer_120 ?_
      refine mv_top (y := (nI (i - 1))) (congrArg nI (by omega)) ?_
      refine mm_V (As := [.int (nI r), .int (nI (i - 1))]) (rest := []) ⟨hx, hb, hml, hown, hts⟩ (p_reason l G hI hv r (i - 1)) (cwV 2 hts gL_isAnswer_X5_reason rfl rfl rfl (by decide +kernel) ⟨Nat.le_of_ble_eq_true rfl, Nat.le_of_ble_eq_true rfl⟩) hK hE hA hM (mm_recv hK hM ho (q := (RX5, TX5, 7)) rfl) rfl hl.1 rfl (Nat.le_of_ble_eq_true rfl) dL_isAnswer_121 ⟨Nat.le_of_ble_eq_true rfl, Nat.le_of_ble_eq_true rfl⟩ (fun v f Hp lcs hp hM => ?_)
      obtain ⟨rfl, hI⟩ := hp
      obtain ⟨vso, ho⟩ := hI.obj
      obtain ⟨ka, a1, a2, a3, a4⟩ := reason_at (S := S) hn16 (res4 hr4) (i := i - 1) (by omega)
      have hord := reason_ord k1 k2 (show rkS S n (nI r) ka < rkS S n (nI r) k by omega)
      refine mv_top (y := nI ka) a4 ?_
      refine lv_istore (lv' := [(7, .int (nI ka)), (3, .int a), (4, .int (nI 1)), (6, .int (nI k)), (0, .ref o), (1, .int (nI r)), (2, .int (nI (mS_ S n (nI r)))), (5, .int (nI i))]) hx hb dL_isAnswer_124 hl (by decide) rfl (fun ls hl => ?_)
      refine lv_iload hx hb dL_isAnswer_126 (lv_at hl 2 rfl) ?_
      refine lv_if_eq (tgt := 172) hx hb dL_isAnswer_128 (by decide) (fun hq9 => absurd hq9 (by decide)) (fun _ => ?_)
      refine lv_aload_n hx hb dL_isAnswer_131 rfl (lv_at hl 4 rfl) ?_
      refine lv_iload hx hb dL_isAnswer_132 (lv_at hl 0 rfl) ?_
      refine mm_V (As := [.int (nI ka)]) (rest := []) ⟨hx, hb, hml, hown, hts⟩ (p_sharpness l G hI hv (k := ka) (by omega)) (cwV 1 hts gL_isAnswer_X5_sharpness rfl rfl rfl (by decide +kernel) ⟨Nat.le_of_ble_eq_true rfl, Nat.le_of_ble_eq_true rfl⟩) hK hE hA hM (mm_recv hK hM ho (q := (RX5, TX5, 7)) rfl) rfl hl.1 rfl (Nat.le_of_ble_eq_true rfl) dL_isAnswer_134 ⟨Nat.le_of_ble_eq_true rfl, Nat.le_of_ble_eq_true rfl⟩ (fun v f Hp lcs hp hM => ?_)
      obtain ⟨rfl, hI⟩ := hp
      obtain ⟨vso, ho⟩ := hI.obj
      refine lv_aload_n hx hb dL_isAnswer_137 rfl (lv_at hl 4 rfl) ?_
      refine lv_iload hx hb dL_isAnswer_138 (lv_at hl 3 rfl) ?_
      refine mm_V (As := [.int (nI k)]) (rest := [.int (nI (shaN S ka))]) ⟨hx, hb, hml, hown, hts⟩ (p_sharpness l G hI hv (k := k) (by omega)) (cwV 1 hts gL_isAnswer_X5_sharpness rfl rfl rfl (by decide +kernel) ⟨Nat.le_of_ble_eq_true rfl, Nat.le_of_ble_eq_true rfl⟩) hK hE hA hM (mm_recv hK hM ho (q := (RX5, TX5, 7)) rfl) rfl hl.1 rfl (Nat.le_of_ble_eq_true rfl) dL_isAnswer_140 ⟨Nat.le_of_ble_eq_true rfl, Nat.le_of_ble_eq_true rfl⟩ (fun v f Hp lcs hp hM => ?_)
      obtain ⟨rfl, hI⟩ := hp
      obtain ⟨vso, ho⟩ := hI.obj
      refine ln_icmp_gt (shaN S ka) (shaN S k) (by have hz0 := shaN_le S ka; omega) (by have hz0 := shaN_le S k; omega) (tgt := 168) hx hb dL_isAnswer_143 (by decide) (fun cz19 => ?_) (fun cz19 => ?_)
      · refine lv_iconst (v := (nI 1)) hx hb dL_isAnswer_168 (by decide +kernel) ?_
        refine lv_goto (tgt := 173) hx hb dL_isAnswer_169 (by decide) ?_
        refine lv_istore (lv' := [(4, .int (nI 1)), (7, .int (nI ka)), (3, .int a), (6, .int (nI k)), (0, .ref o), (1, .int (nI r)), (2, .int (nI (mS_ S n (nI r)))), (5, .int (nI i))]) hx hb dL_isAnswer_173 hl (by decide) rfl (fun ls hl => ?_)
        refine lv_iinc (v := (nI (i + 1))) (lv' := [(5, .int (nI (i + 1))), (4, .int (nI 1)), (7, .int (nI ka)), (3, .int a), (6, .int (nI k)), (0, .ref o), (1, .int (nI r)), (2, .int (nI (mS_ S n (nI r))))]) hx hb dL_isAnswer_175 hl (k := 7) rfl (nI_add _ _) (by decide) rfl (fun ls hl => ?_)
        refine lv_goto (tgt := 47) hx hb dL_isAnswer_178 (by decide) ?_
        have hA2 := hIn.step k1 k2 k3 k5
        rw [if_pos cz15] at hA2
        exact ih (i + 1) a _ _ _ ls (by omega) hA2 hI (by omega) hM (lv_sub hl [5, 6, 7, 3, 1, 0] rfl)
      refine lv_aload_n hx hb dL_isAnswer_146 rfl (lv_at hl 4 rfl) ?_
      refine lv_iload hx hb dL_isAnswer_147 (lv_at hl 0 rfl) ?_
      refine mm_V (As := [.int (nI ka)]) (rest := []) ⟨hx, hb, hml, hown, hts⟩ (p_sharpness l G hI hv (k := ka) (by omega)) (cwV 1 hts gL_isAnswer_X5_sharpness rfl rfl rfl (by decide +kernel) ⟨Nat.le_of_ble_eq_true rfl, Nat.le_of_ble_eq_true rfl⟩) hK hE hA hM (mm_recv hK hM ho (q := (RX5, TX5, 7)) rfl) rfl hl.1 rfl (Nat.le_of_ble_eq_true rfl) dL_isAnswer_149 ⟨Nat.le_of_ble_eq_true rfl, Nat.le_of_ble_eq_true rfl⟩ (fun v f Hp lcs hp hM => ?_)
      obtain ⟨rfl, hI⟩ := hp
      obtain ⟨vso, ho⟩ := hI.obj
      refine lv_aload_n hx hb dL_isAnswer_152 rfl (lv_at hl 4 rfl) ?_
      refine lv_iload hx hb dL_isAnswer_153 (lv_at hl 3 rfl) ?_
      refine mm_V (As := [.int (nI k)]) (rest := [.int (nI (shaN S ka))]) ⟨hx, hb, hml, hown, hts⟩ (p_sharpness l G hI hv (k := k) (by omega)) (cwV 1 hts gL_isAnswer_X5_sharpness rfl rfl rfl (by decide +kernel) ⟨Nat.le_of_ble_eq_true rfl, Nat.le_of_ble_eq_true rfl⟩) hK hE hA hM (mm_recv hK hM ho (q := (RX5, TX5, 7)) rfl) rfl hl.1 rfl (Nat.le_of_ble_eq_true rfl) dL_isAnswer_155 ⟨Nat.le_of_ble_eq_true rfl, Nat.le_of_ble_eq_true rfl⟩ (fun v f Hp lcs hp hM => ?_)
      obtain ⟨rfl, hI⟩ := hp
      obtain ⟨vso, ho⟩ := hI.obj
      refine ln_icmp_ne (shaN S ka) (shaN S k) (by have hz0 := shaN_le S ka; omega) (by have hz0 := shaN_le S k; omega) (tgt := 172) hx hb dL_isAnswer_158 (by decide) (fun hq9 => absurd hq9 (by omega)) (fun _ => ?_)
      refine lv_iload hx hb dL_isAnswer_161 (lv_at hl 0 rfl) ?_
      refine lv_iload hx hb dL_isAnswer_163 (lv_at hl 3 rfl) ?_
      refine ln_icmp_ge ka k (by omega) (by omega) (tgt := 172) hx hb dL_isAnswer_165 (by decide) (fun hq9 => absurd hq9 (by omega)) (fun _ => ?_)
      refine lv_iconst (v := (nI 1)) hx hb dL_isAnswer_168 (by decide +kernel) ?_
      refine lv_goto (tgt := 173) hx hb dL_isAnswer_169 (by decide) ?_
      refine lv_istore (lv' := [(4, .int (nI 1)), (7, .int (nI ka)), (3, .int a), (6, .int (nI k)), (0, .ref o), (1, .int (nI r)), (2, .int (nI (mS_ S n (nI r)))), (5, .int (nI i))]) hx hb dL_isAnswer_173 hl (by decide) rfl (fun ls hl => ?_)
      refine lv_iinc (v := (nI (i + 1))) (lv' := [(5, .int (nI (i + 1))), (4, .int (nI 1)), (7, .int (nI ka)), (3, .int a), (6, .int (nI k)), (0, .ref o), (1, .int (nI r)), (2, .int (nI (mS_ S n (nI r))))]) hx hb dL_isAnswer_175 hl (k := 7) rfl (nI_add _ _) (by decide) rfl (fun ls hl => ?_)
      refine lv_goto (tgt := 47) hx hb dL_isAnswer_178 (by decide) ?_
      have hA2 := hIn.step k1 k2 k3 k5
      rw [if_pos cz15] at hA2
      exact ih (i + 1) a _ _ _ ls (by omega) hA2 hI (by omega) hM (lv_sub hl [5, 6, 7, 3, 1, 0] rfl)
  exact loopZ (mS_ S n (nI r) + 1) 0 (-100005) _ _ _ ls (Nat.zero_le _) (Or.inl ⟨cz1, rfl⟩) hI (by omega) hM (lv_sub hl [4, 5, 3, 2, 1, 0] rfl)
set_option maxHeartbeats 4000000 in
set_option maxRecDepth 100000 in
theorem l_isForetold (l : Launch) (G : mG) {f : mE} {o : Nat} {S P : Nat → Int32} {rc n cn : Nat} (hI : CI G f o S P rc) (hv : VSn S n cn) (hVF : VFs S) {r j w : Nat} (hr4 : r < 4) (hj : j < 7) (hw4 : w < 4) : mC l G yL_isForetold wsL_isForetold ({ frames := 7, cells := 0, slots := 0, locals := 172 } : Room) f [.ref o, .int (nI r), .int (nI j), .int (nI w)] (fun v f1 => v = some (.int (nI 1)) ∧ CI G f1 o S P rc) 0 0 := by
  refine mC.of (cc := cL_isForetold) (maxL := 9) (ret := (some .boolean)) (by decide) rfl (Nat.le_of_ble_eq_true rfl) ?_
  intro pgm env s mt args below meth c A ls hx hb hml hr hlocks hown hname hts hK hE hA hM hl
  have hl : lv_has ls 9 [(0, .ref o), (1, .int (nI r)), (2, .int (nI j)), (3, .int (nI w))] := hl
  obtain ⟨vso, ho⟩ := hI.obj
  have hn16 := hv.2.1
  refine lv_aload_n hx hb dL_isForetold_0 rfl (lv_at hl 0 rfl) ?_
  refine lv_iload_n hx hb dL_isForetold_1 rfl (lv_at hl 1 rfl) ?_
  refine mm_V (As := [.int (nI r)]) (rest := []) ⟨hx, hb, hml, hown, hts⟩ (p_answer l G hI hv (r := r) (by omega)) (cwV 1 hts gL_isForetold_X5_answer rfl rfl rfl (by decide +kernel) ⟨Nat.le_of_ble_eq_true rfl, Nat.le_of_ble_eq_true rfl⟩) hK hE hA hM (mm_recv hK hM ho (q := (RX5, TX5, 7)) rfl) rfl hl.1 rfl (Nat.le_of_ble_eq_true rfl) dL_isForetold_2 ⟨Nat.le_of_ble_eq_true rfl, Nat.le_of_ble_eq_true rfl⟩ (fun v f Hp lcs hp hM => ?_)
  obtain ⟨rfl, hI⟩ := hp
  obtain ⟨vso, ho⟩ := hI.obj
  refine lv_istore (lv' := [(4, .int (ansI S (-100005) n (nI r))), (0, .ref o), (1, .int (nI r)), (2, .int (nI j)), (3, .int (nI w))]) hx hb dL_isForetold_5 hl (by decide) rfl (fun ls hl => ?_)
  refine lv_aload_n hx hb dL_isForetold_7 rfl (lv_at hl 1 rfl) ?_
  refine lv_iload_n hx hb dL_isForetold_8 rfl (lv_at hl 2 rfl) ?_
  refine lv_iload_n hx hb dL_isForetold_9 rfl (lv_at hl 3 rfl) ?_
  refine mm_V (As := [.int (nI r), .int (nI j)]) (rest := []) ⟨hx, hb, hml, hown, hts⟩ (p_nextChange l G hI hv (r := r) (by omega) (j := j) (by omega)) (cwV 2 hts gL_isForetold_X5_nextChange rfl rfl rfl (by decide +kernel) ⟨Nat.le_of_ble_eq_true rfl, Nat.le_of_ble_eq_true rfl⟩) hK hE hA hM (mm_recv hK hM ho (q := (RX5, TX5, 7)) rfl) rfl hl.1 rfl (Nat.le_of_ble_eq_true rfl) dL_isForetold_10 ⟨Nat.le_of_ble_eq_true rfl, Nat.le_of_ble_eq_true rfl⟩ (fun v f Hp lcs hp hM => ?_)
  obtain ⟨rfl, hI⟩ := hp
  obtain ⟨vso, ho⟩ := hI.obj
  obtain ⟨u, hu⟩ : ∃ z : Int32, z = (ncZ S (-100005) n (nI r) j (fun z => !decide (z = ansI S (-100005) n (nI r))) (borI S n j (S j))) := ⟨_, rfl⟩
  refine mv_top (y := u) hu.symm ?_
  refine lv_istore (lv' := [(5, .int u), (4, .int (ansI S (-100005) n (nI r))), (0, .ref o), (1, .int (nI r)), (2, .int (nI j)), (3, .int (nI w))]) hx hb dL_isForetold_13 hl (by decide) rfl (fun ls hl => ?_)
  refine lv_aload_n hx hb dL_isForetold_15 rfl (lv_at hl 2 rfl) ?_
  refine lv_iload_n hx hb dL_isForetold_16 rfl (lv_at hl 3 rfl) ?_
  refine lv_iload_n hx hb dL_isForetold_17 rfl (lv_at hl 4 rfl) ?_
  refine lv_iload_n hx hb dL_isForetold_18 rfl (lv_at hl 5 rfl) ?_
  refine mm_V (As := [.int (nI r), .int (nI j), .int (nI w)]) (rest := []) ⟨hx, hb, hml, hown, hts⟩ (p_leastFor l G hI hv (r := r) (by omega) (j := j) (by omega) (w := w) (by omega)) (cwV 3 hts gL_isForetold_X5_leastFor rfl rfl rfl (by decide +kernel) ⟨Nat.le_of_ble_eq_true rfl, Nat.le_of_ble_eq_true rfl⟩) hK hE hA hM (mm_recv hK hM ho (q := (RX5, TX5, 7)) rfl) rfl hl.1 rfl (Nat.le_of_ble_eq_true rfl) dL_isForetold_19 ⟨Nat.le_of_ble_eq_true rfl, Nat.le_of_ble_eq_true rfl⟩ (fun v f Hp lcs hp hM => ?_)
  obtain ⟨rfl, hI⟩ := hp
  obtain ⟨vso, ho⟩ := hI.obj
  obtain ⟨w1, hw1⟩ : ∃ z : Int32, z = (ncZ S (-100005) n (nI r) j (fun z => decide (z = nI w)) (leastF (nI j))) := ⟨_, rfl⟩
  refine mv_top (y := w1) hw1.symm ?_
  refine lv_istore (lv' := [(6, .int w1), (5, .int u), (4, .int (ansI S (-100005) n (nI r))), (0, .ref o), (1, .int (nI r)), (2, .int (nI j)), (3, .int (nI w))]) hx hb dL_isForetold_22 hl (by decide) rfl (fun ls hl => ?_)
  have hSj := valB_r (hVF j hj)
  have hS9 : (-9999 : Int32) ≤ S j := Int32.le_trans (lim_lo hj).1 hSj.1
  have hL9 : (-9999 : Int32) ≤ leastF (nI j) := (lim_lo hj).1
  have hf9 : -100005 < S j := Int32.lt_of_lt_of_le (by decide) hS9
  have hN := next_all hv.lim hj hf9 hSj.2 (nI r) u hu
  have hW := least_all hv.lim hj (nI r) (nI w) w1 hw1
  have z161 : ∀  (f : mE) (Hp : Heap) (lcs : List Loc) (ls : Array Slot) (hI : CI G f o S P rc) (hM : mM G A s.heap f Hp lcs) (hl : lv_has ls 9 [(0, .ref o), (1, .int (nI r)), (2, .int (nI j)), (3, .int (nI w)), (4, .int (ansI S (-100005) n (nI r))), (5, .int u), (6, .int w1), (7, .int (leastF (nI j))), (8, .int (nI 1))]), W pgm l env ({ frames := 7, cells := 0, slots := 0, locals := 172 } : Room) s mt args below meth c Hp lcs 0 0 (MQ below (mQc G A (fun v f1 => v = some (.int (nI 1)) ∧ CI G f1 o S P rc)) args s 0 0 A) (F0 mt 161 ls []) := by
    intro  f Hp lcs ls hI hM hl
    obtain ⟨vso, ho⟩ := hI.obj
    refine lv_iload hx hb dL_isForetold_161 (lv_at hl 8 rfl) ?_
    refine lv_if_eq (tgt := 219) hx hb dL_isForetold_163 (by decide) (fun hq9 => absurd hq9 (by decide)) (fun _ => ?_)
    rcases hW with ⟨z1, z5⟩ | ⟨z1, z2, z3, z4, z5⟩
    · skip
      refine lv_iload hx hb dL_isForetold_166 (lv_at hl 6 rfl) ?_
      refine lv_ldc (v := (-100005)) hx hb hown (hts (.constant RL 40 (-100005)) (List.mem_of_getElem? (i := 1) rfl)) dL_isForetold_168 ?_
      refine lv_icmp_ne (tgt := 182) hx hb dL_isForetold_170 (by decide) (fun hq9 => absurd hq9 (not_not_intro z1)) (fun _ => ?_)
      refine lv_iload hx hb dL_isForetold_173 (lv_at hl 4 rfl) ?_
      refine lv_iload_n hx hb dL_isForetold_175 rfl (lv_at hl 3 rfl) ?_
      refine lv_icmp_eq (tgt := 219) hx hb dL_isForetold_176 (by decide) (fun hq9 => absurd hq9 (by have := z5 (S j) hSj.1 hSj.2; rw [upd_id] at this; exact this)) (fun _ => ?_)
      refine lv_goto (tgt := 215) hx hb dL_isForetold_179 (by decide) ?_
      refine lv_iconst (v := (nI 1)) hx hb dL_isForetold_215 (by decide +kernel) ?_
      refine lv_goto (tgt := 220) hx hb dL_isForetold_216 (by decide) ?_
      exact mm_zret hx hb hlocks hr (by first | rfl | exact bI_nar _) (Nat.le_of_ble_eq_true rfl) (Nat.le_of_ble_eq_true rfl) hM (⟨rfl, hI⟩) dL_isForetold_220
    · skip
      refine lv_iload hx hb dL_isForetold_166 (lv_at hl 6 rfl) ?_
      refine lv_ldc (v := (-100005)) hx hb hown (hts (.constant RL 40 (-100005)) (List.mem_of_getElem? (i := 1) rfl)) dL_isForetold_168 ?_
      refine lv_icmp_ne (tgt := 182) hx hb dL_isForetold_170 (by decide) (fun _ => ?_) (fun hq9 => absurd hq9 (fun z => z1 z))
      refine lv_aload_n hx hb dL_isForetold_182 rfl (lv_at hl 0 rfl) ?_
      refine lv_iload_n hx hb dL_isForetold_183 rfl (lv_at hl 1 rfl) ?_
      refine lv_iload_n hx hb dL_isForetold_184 rfl (lv_at hl 2 rfl) ?_
      refine lv_iload hx hb dL_isForetold_185 (lv_at hl 6 rfl) ?_
      refine mm_V (As := [.int (nI r), .int (nI j), .int w1]) (rest := []) ⟨hx, hb, hml, hown, hts⟩ (p_answerIf l G hI hv (r := r) (by omega) (j := j) (by omega) (x := w1) (valB_of hj z2 z3)) (cwV 3 hts gL_isForetold_X5_answerIf rfl rfl rfl (by decide +kernel) ⟨Nat.le_of_ble_eq_true rfl, Nat.le_of_ble_eq_true rfl⟩) hK hE hA hM (mm_recv hK hM ho (q := (RX5, TX5, 7)) rfl) rfl hl.1 rfl (Nat.le_of_ble_eq_true rfl) dL_isForetold_187 ⟨Nat.le_of_ble_eq_true rfl, Nat.le_of_ble_eq_true rfl⟩ (fun v f Hp lcs hp hM => ?_)
      obtain ⟨rfl, hI⟩ := hp
      obtain ⟨vso, ho⟩ := hI.obj
      refine mv_top (y := (nI w)) z4 ?_
      refine lv_iload_n hx hb dL_isForetold_190 rfl (lv_at hl 3 rfl) ?_
      refine ln_icmp_ne w w (by omega) (by omega) (tgt := 219) hx hb dL_isForetold_191 (by decide) (fun hq9 => absurd hq9 (not_not_intro rfl)) (fun _ => ?_)
      refine lv_iload hx hb dL_isForetold_194 (lv_at hl 6 rfl) ?_
      refine lv_iload hx hb dL_isForetold_196 (lv_at hl 7 rfl) ?_
      refine lv_icmp_eq (tgt := 215) hx hb dL_isForetold_198 (by decide) (fun cz1 => ?_) (fun cz1 => ?_)
      · refine lv_iconst (v := (nI 1)) hx hb dL_isForetold_215 (by decide +kernel) ?_
        refine lv_goto (tgt := 220) hx hb dL_isForetold_216 (by decide) ?_
        exact mm_zret hx hb hlocks hr (by first | rfl | exact bI_nar _) (Nat.le_of_ble_eq_true rfl) (Nat.le_of_ble_eq_true rfl) hM (⟨rfl, hI⟩) dL_isForetold_220
      have z6 : leastF (nI j) < w1 := Int32.lt_of_le_of_ne z2 (fun z => cz1 z.symm)
      refine lv_aload_n hx hb dL_isForetold_201 rfl (lv_at hl 0 rfl) ?_
      refine lv_iload_n hx hb dL_isForetold_202 rfl (lv_at hl 1 rfl) ?_
      refine lv_iload_n hx hb dL_isForetold_203 rfl (lv_at hl 2 rfl) ?_
      refine lv_iload hx hb dL_isForetold_204 (lv_at hl 6 rfl) ?_
      refine lv_iconst (v := (nI 1)) hx hb dL_isForetold_206 (by decide +kernel) ?_
      refine lv_isub hx hb dL_isForetold_207 ?_
      refine mm_V (As := [.int (nI r), .int (nI j), .int (w1 - (nI 1))]) (rest := []) ⟨hx, hb, hml, hown, hts⟩ (p_answerIf l G hI hv (r := r) (by omega) (j := j) (by omega) (x := (w1 - (nI 1))) (valB_of hj (sub1_ge z6 hL9) (Int32.le_trans (Int32.le_of_lt (sub1_lt z2 hL9)) z3))) (cwV 3 hts gL_isForetold_X5_answerIf rfl rfl rfl (by decide +kernel) ⟨Nat.le_of_ble_eq_true rfl, Nat.le_of_ble_eq_true rfl⟩) hK hE hA hM (mm_recv hK hM ho (q := (RX5, TX5, 7)) rfl) rfl hl.1 rfl (Nat.le_of_ble_eq_true rfl) dL_isForetold_208 ⟨Nat.le_of_ble_eq_true rfl, Nat.le_of_ble_eq_true rfl⟩ (fun v f Hp lcs hp hM => ?_)
      obtain ⟨rfl, hI⟩ := hp
      obtain ⟨vso, ho⟩ := hI.obj
      refine lv_iload_n hx hb dL_isForetold_211 rfl (lv_at hl 3 rfl) ?_
      refine lv_icmp_eq (tgt := 219) hx hb dL_isForetold_212 (by decide) (fun hq9 => absurd hq9 (z5 (w1 - nI 1) (sub1_ge z6 hL9) (sub1_lt z2 hL9))) (fun _ => ?_)
      refine lv_iconst (v := (nI 1)) hx hb dL_isForetold_215 (by decide +kernel) ?_
      refine lv_goto (tgt := 220) hx hb dL_isForetold_216 (by decide) ?_
      exact mm_zret hx hb hlocks hr (by first | rfl | exact bI_nar _) (Nat.le_of_ble_eq_true rfl) (Nat.le_of_ble_eq_true rfl) hM (⟨rfl, hI⟩) dL_isForetold_220
  have z38 : ∀  (f : mE) (Hp : Heap) (lcs : List Loc) (ls : Array Slot) (hI : CI G f o S P rc) (hM : mM G A s.heap f Hp lcs) (hl : lv_has ls 9 [(0, .ref o), (1, .int (nI r)), (2, .int (nI j)), (3, .int (nI w)), (4, .int (ansI S (-100005) n (nI r))), (5, .int u), (6, .int w1), (7, .int (leastF (nI j)))]), W pgm l env ({ frames := 7, cells := 0, slots := 0, locals := 172 } : Room) s mt args below meth c Hp lcs 0 0 (MQ below (mQc G A (fun v f1 => v = some (.int (nI 1)) ∧ CI G f1 o S P rc)) args s 0 0 A) (F0 mt 38 ls []) := by
    intro  f Hp lcs ls hI hM hl
    obtain ⟨vso, ho⟩ := hI.obj
    refine lv_aload_n hx hb dL_isForetold_38 rfl (lv_at hl 0 rfl) ?_
    refine lv_iload_n hx hb dL_isForetold_39 rfl (lv_at hl 1 rfl) ?_
    refine lv_iload_n hx hb dL_isForetold_40 rfl (lv_at hl 2 rfl) ?_
    refine lv_aload_n hx hb dL_isForetold_41 rfl (lv_at hl 0 rfl) ?_
    refine lv_iload_n hx hb dL_isForetold_42 rfl (lv_at hl 2 rfl) ?_
    refine mm_V (As := [.int (nI j)]) (rest := [.int (nI j), .int (nI r), .ref o]) ⟨hx, hb, hml, hown, hts⟩ (p_fact l G hI hv (j := j) (by omega)) (cwV 1 hts gL_isForetold_X5_fact rfl rfl rfl (by decide +kernel) ⟨Nat.le_of_ble_eq_true rfl, Nat.le_of_ble_eq_true rfl⟩) hK hE hA hM (mm_recv hK hM ho (q := (RX5, TX5, 7)) rfl) rfl hl.1 rfl (Nat.le_of_ble_eq_true rfl) dL_isForetold_43 ⟨Nat.le_of_ble_eq_true rfl, Nat.le_of_ble_eq_true rfl⟩ (fun v f Hp lcs hp hM => ?_)
    obtain ⟨rfl, hI⟩ := hp
    obtain ⟨vso, ho⟩ := hI.obj
    refine mm_V (As := [.int (nI r), .int (nI j), .int (S j)]) (rest := []) ⟨hx, hb, hml, hown, hts⟩ (p_answerIf l G hI hv (r := r) (by omega) (j := j) (by omega) (x := (S j)) (hVF j hj)) (cwV 3 hts gL_isForetold_X5_answerIf rfl rfl rfl (by decide +kernel) ⟨Nat.le_of_ble_eq_true rfl, Nat.le_of_ble_eq_true rfl⟩) hK hE hA hM (mm_recv hK hM ho (q := (RX5, TX5, 7)) rfl) rfl hl.1 rfl (Nat.le_of_ble_eq_true rfl) dL_isForetold_46 ⟨Nat.le_of_ble_eq_true rfl, Nat.le_of_ble_eq_true rfl⟩ (fun v f Hp lcs hp hM => ?_)
    obtain ⟨rfl, hI⟩ := hp
    obtain ⟨vso, ho⟩ := hI.obj
    refine mv_top (y := (ansI S (-100005) n (nI r))) (by rw [upd_id]) ?_
    refine lv_iload hx hb dL_isForetold_49 (lv_at hl 4 rfl) ?_
    refine lv_icmp_ne (tgt := 58) hx hb dL_isForetold_51 (by decide) (fun hq9 => absurd hq9 (not_not_intro rfl)) (fun _ => ?_)
    refine lv_iconst (v := (nI 1)) hx hb dL_isForetold_54 (by decide +kernel) ?_
    refine lv_goto (tgt := 59) hx hb dL_isForetold_55 (by decide) ?_
    refine lv_istore (lv' := [(8, .int (nI 1)), (0, .ref o), (1, .int (nI r)), (2, .int (nI j)), (3, .int (nI w)), (4, .int (ansI S (-100005) n (nI r))), (5, .int u), (6, .int w1), (7, .int (leastF (nI j)))]) hx hb dL_isForetold_59 hl (by decide) rfl (fun ls hl => ?_)
    rcases hN with ⟨u1, u4⟩ | ⟨u1, u2, u3, u5, u4⟩
    · skip
      refine lv_iload hx hb dL_isForetold_61 (lv_at hl 0 rfl) ?_
      refine lv_if_eq (tgt := 115) hx hb dL_isForetold_63 (by decide) (fun hq9 => absurd hq9 (by decide)) (fun _ => ?_)
      refine lv_iload hx hb dL_isForetold_66 (lv_at hl 6 rfl) ?_
      refine lv_ldc (v := (-100005)) hx hb hown (hts (.constant RL 40 (-100005)) (List.mem_of_getElem? (i := 1) rfl)) dL_isForetold_68 ?_
      refine lv_icmp_eq (tgt := 111) hx hb dL_isForetold_70 (by decide) (fun _ => ?_) (fun hq9 => absurd hq9 (not_not_intro u1))
      refine lv_iconst (v := (nI 1)) hx hb dL_isForetold_111 (by decide +kernel) ?_
      refine lv_goto (tgt := 116) hx hb dL_isForetold_112 (by decide) ?_
      refine lv_istore (lv' := [(8, .int (nI 1)), (0, .ref o), (1, .int (nI r)), (2, .int (nI j)), (3, .int (nI w)), (4, .int (ansI S (-100005) n (nI r))), (5, .int u), (6, .int w1), (7, .int (leastF (nI j)))]) hx hb dL_isForetold_116 hl (by decide) rfl (fun ls hl => ?_)
      refine lv_iload hx hb dL_isForetold_118 (lv_at hl 0 rfl) ?_
      refine lv_if_eq (tgt := 158) hx hb dL_isForetold_120 (by decide) (fun hq9 => absurd hq9 (by decide)) (fun _ => ?_)
      refine lv_iload hx hb dL_isForetold_123 (lv_at hl 6 rfl) ?_
      refine lv_ldc (v := (-100005)) hx hb hown (hts (.constant RL 40 (-100005)) (List.mem_of_getElem? (i := 1) rfl)) dL_isForetold_125 ?_
      refine lv_icmp_ne (tgt := 154) hx hb dL_isForetold_127 (by decide) (fun hq9 => absurd hq9 (not_not_intro u1)) (fun _ => ?_)
      refine lv_aload_n hx hb dL_isForetold_130 rfl (lv_at hl 1 rfl) ?_
      refine lv_iload_n hx hb dL_isForetold_131 rfl (lv_at hl 2 rfl) ?_
      refine lv_iload_n hx hb dL_isForetold_132 rfl (lv_at hl 3 rfl) ?_
      refine lv_iload_n hx hb dL_isForetold_133 rfl (lv_at hl 3 rfl) ?_
      refine lv_iconst (v := (nI 4)) hx hb dL_isForetold_134 (by decide +kernel) ?_
      refine ln_icmp_ge j 4 (by omega) (by omega) (tgt := 144) hx hb dL_isForetold_135 (by decide) (fun cz2 => ?_) (fun cz2 => ?_)
      · refine lv_ldc (v := (nI 73048)) hx hb hown (hts (.constant RL 98 (73048)) (List.mem_of_getElem? (i := 2) rfl)) dL_isForetold_144 ?_
        refine mv_top (y := greatestF (nI j)) (((leF4 hj).2 cz2).2.symm) ?_
        refine mm_V (As := [.int (nI r), .int (nI j), .int (greatestF (nI j))]) (rest := []) ⟨hx, hb, hml, hown, hts⟩ (p_answerIf l G hI hv (r := r) (by omega) (j := j) (by omega) (x := (greatestF (nI j))) (valB_of hj (Int32.le_trans hSj.1 hSj.2) (Int32.le_refl _))) (cwV 3 hts gL_isForetold_X5_answerIf rfl rfl rfl (by decide +kernel) ⟨Nat.le_of_ble_eq_true rfl, Nat.le_of_ble_eq_true rfl⟩) hK hE hA hM (mm_recv hK hM ho (q := (RX5, TX5, 7)) rfl) rfl hl.1 rfl (Nat.le_of_ble_eq_true rfl) dL_isForetold_146 ⟨Nat.le_of_ble_eq_true rfl, Nat.le_of_ble_eq_true rfl⟩ (fun v f Hp lcs hp hM => ?_)
        obtain ⟨rfl, hI⟩ := hp
        obtain ⟨vso, ho⟩ := hI.obj
        refine mv_top (y := (ansI S (-100005) n (nI r))) (u4 _ hSj.2 (Int32.le_refl _)) ?_
        refine lv_iload hx hb dL_isForetold_149 (lv_at hl 5 rfl) ?_
        refine lv_icmp_ne (tgt := 158) hx hb dL_isForetold_151 (by decide) (fun hq9 => absurd hq9 (not_not_intro rfl)) (fun _ => ?_)
        refine lv_iconst (v := (nI 1)) hx hb dL_isForetold_154 (by decide +kernel) ?_
        refine lv_goto (tgt := 159) hx hb dL_isForetold_155 (by decide) ?_
        refine lv_istore (lv' := [(8, .int (nI 1)), (0, .ref o), (1, .int (nI r)), (2, .int (nI j)), (3, .int (nI w)), (4, .int (ansI S (-100005) n (nI r))), (5, .int u), (6, .int w1), (7, .int (leastF (nI j)))]) hx hb dL_isForetold_159 hl (by decide) rfl (fun ls hl => ?_)
        exact z161 _ _ _ ls hI hM (lv_sub hl [1, 2, 3, 4, 5, 6, 7, 8, 0] rfl)
      refine lv_sipush (v := (nI 9999)) hx hb dL_isForetold_138 (by decide +kernel) ?_
      refine lv_goto (tgt := 146) hx hb dL_isForetold_141 (by decide) ?_
      refine mv_top (y := greatestF (nI j)) (((leF4 hj).1 cz2).2.symm) ?_
      refine mm_V (As := [.int (nI r), .int (nI j), .int (greatestF (nI j))]) (rest := []) ⟨hx, hb, hml, hown, hts⟩ (p_answerIf l G hI hv (r := r) (by omega) (j := j) (by omega) (x := (greatestF (nI j))) (valB_of hj (Int32.le_trans hSj.1 hSj.2) (Int32.le_refl _))) (cwV 3 hts gL_isForetold_X5_answerIf rfl rfl rfl (by decide +kernel) ⟨Nat.le_of_ble_eq_true rfl, Nat.le_of_ble_eq_true rfl⟩) hK hE hA hM (mm_recv hK hM ho (q := (RX5, TX5, 7)) rfl) rfl hl.1 rfl (Nat.le_of_ble_eq_true rfl) dL_isForetold_146 ⟨Nat.le_of_ble_eq_true rfl, Nat.le_of_ble_eq_true rfl⟩ (fun v f Hp lcs hp hM => ?_)
      obtain ⟨rfl, hI⟩ := hp
      obtain ⟨vso, ho⟩ := hI.obj
      refine mv_top (y := (ansI S (-100005) n (nI r))) (u4 _ hSj.2 (Int32.le_refl _)) ?_
      refine lv_iload hx hb dL_isForetold_149 (lv_at hl 5 rfl) ?_
      refine lv_icmp_ne (tgt := 158) hx hb dL_isForetold_151 (by decide) (fun hq9 => absurd hq9 (not_not_intro rfl)) (fun _ => ?_)
      refine lv_iconst (v := (nI 1)) hx hb dL_isForetold_154 (by decide +kernel) ?_
      refine lv_goto (tgt := 159) hx hb dL_isForetold_155 (by decide) ?_
      refine lv_istore (lv' := [(8, .int (nI 1)), (0, .ref o), (1, .int (nI r)), (2, .int (nI j)), (3, .int (nI w)), (4, .int (ansI S (-100005) n (nI r))), (5, .int u), (6, .int w1), (7, .int (leastF (nI j)))]) hx hb dL_isForetold_159 hl (by decide) rfl (fun ls hl => ?_)
      exact z161 _ _ _ ls hI hM (lv_sub hl [1, 2, 3, 4, 5, 6, 7, 8, 0] rfl)
    · skip
      refine lv_iload hx hb dL_isForetold_61 (lv_at hl 0 rfl) ?_
      refine lv_if_eq (tgt := 115) hx hb dL_isForetold_63 (by decide) (fun hq9 => absurd hq9 (by decide)) (fun _ => ?_)
      refine lv_iload hx hb dL_isForetold_66 (lv_at hl 6 rfl) ?_
      refine lv_ldc (v := (-100005)) hx hb hown (hts (.constant RL 40 (-100005)) (List.mem_of_getElem? (i := 1) rfl)) dL_isForetold_68 ?_
      refine lv_icmp_eq (tgt := 111) hx hb dL_isForetold_70 (by decide) (fun hq9 => absurd hq9 u1) (fun _ => ?_)
      refine lv_iload hx hb dL_isForetold_73 (lv_at hl 6 rfl) ?_
      refine lv_aload_n hx hb dL_isForetold_75 rfl (lv_at hl 1 rfl) ?_
      refine lv_iload_n hx hb dL_isForetold_76 rfl (lv_at hl 3 rfl) ?_
      refine mm_V (As := [.int (nI j)]) (rest := [.int u]) ⟨hx, hb, hml, hown, hts⟩ (p_fact l G hI hv (j := j) (by omega)) (cwV 1 hts gL_isForetold_X5_fact rfl rfl rfl (by decide +kernel) ⟨Nat.le_of_ble_eq_true rfl, Nat.le_of_ble_eq_true rfl⟩) hK hE hA hM (mm_recv hK hM ho (q := (RX5, TX5, 7)) rfl) rfl hl.1 rfl (Nat.le_of_ble_eq_true rfl) dL_isForetold_77 ⟨Nat.le_of_ble_eq_true rfl, Nat.le_of_ble_eq_true rfl⟩ (fun v f Hp lcs hp hM => ?_)
      obtain ⟨rfl, hI⟩ := hp
      obtain ⟨vso, ho⟩ := hI.obj
      refine lv_icmp_le (tgt := 115) hx hb dL_isForetold_80 (by decide) (fun hq9 => absurd hq9 (Int32.not_le.mpr u2)) (fun _ => ?_)
      refine lv_aload_n hx hb dL_isForetold_83 rfl (lv_at hl 1 rfl) ?_
      refine lv_iload_n hx hb dL_isForetold_84 rfl (lv_at hl 2 rfl) ?_
      refine lv_iload_n hx hb dL_isForetold_85 rfl (lv_at hl 3 rfl) ?_
      refine lv_iload hx hb dL_isForetold_86 (lv_at hl 6 rfl) ?_
      refine mm_V (As := [.int (nI r), .int (nI j), .int u]) (rest := []) ⟨hx, hb, hml, hown, hts⟩ (p_answerIf l G hI hv (r := r) (by omega) (j := j) (by omega) (x := u) (valB_of hj (Int32.le_trans hSj.1 (Int32.le_of_lt u2)) u3)) (cwV 3 hts gL_isForetold_X5_answerIf rfl rfl rfl (by decide +kernel) ⟨Nat.le_of_ble_eq_true rfl, Nat.le_of_ble_eq_true rfl⟩) hK hE hA hM (mm_recv hK hM ho (q := (RX5, TX5, 7)) rfl) rfl hl.1 rfl (Nat.le_of_ble_eq_true rfl) dL_isForetold_88 ⟨Nat.le_of_ble_eq_true rfl, Nat.le_of_ble_eq_true rfl⟩ (fun v f Hp lcs hp hM => ?_)
      obtain ⟨rfl, hI⟩ := hp
      obtain ⟨vso, ho⟩ := hI.obj
      refine lv_iload hx hb dL_isForetold_91 (lv_at hl 5 rfl) ?_
      refine lv_icmp_eq (tgt := 115) hx hb dL_isForetold_93 (by decide) (fun hq9 => absurd hq9 u5) (fun _ => ?_)
      refine lv_aload_n hx hb dL_isForetold_96 rfl (lv_at hl 1 rfl) ?_
      refine lv_iload_n hx hb dL_isForetold_97 rfl (lv_at hl 2 rfl) ?_
      refine lv_iload_n hx hb dL_isForetold_98 rfl (lv_at hl 3 rfl) ?_
      refine lv_iload hx hb dL_isForetold_99 (lv_at hl 6 rfl) ?_
      refine lv_iconst (v := (nI 1)) hx hb dL_isForetold_101 (by decide +kernel) ?_
      refine lv_isub hx hb dL_isForetold_102 ?_
      refine mm_V (As := [.int (nI r), .int (nI j), .int (u - (nI 1))]) (rest := []) ⟨hx, hb, hml, hown, hts⟩ (p_answerIf l G hI hv (r := r) (by omega) (j := j) (by omega) (x := (u - (nI 1))) (valB_of hj (Int32.le_trans hSj.1 (sub1_ge u2 hS9)) (Int32.le_trans (Int32.le_of_lt (sub1_lt (Int32.le_of_lt u2) hS9)) u3))) (cwV 3 hts gL_isForetold_X5_answerIf rfl rfl rfl (by decide +kernel) ⟨Nat.le_of_ble_eq_true rfl, Nat.le_of_ble_eq_true rfl⟩) hK hE hA hM (mm_recv hK hM ho (q := (RX5, TX5, 7)) rfl) rfl hl.1 rfl (Nat.le_of_ble_eq_true rfl) dL_isForetold_103 ⟨Nat.le_of_ble_eq_true rfl, Nat.le_of_ble_eq_true rfl⟩ (fun v f Hp lcs hp hM => ?_)
      obtain ⟨rfl, hI⟩ := hp
      obtain ⟨vso, ho⟩ := hI.obj
      refine mv_top (y := (ansI S (-100005) n (nI r))) (u4 (u - nI 1) (sub1_ge u2 hS9) (sub1_lt (Int32.le_of_lt u2) hS9)) ?_
      refine lv_iload hx hb dL_isForetold_106 (lv_at hl 5 rfl) ?_
      refine lv_icmp_ne (tgt := 115) hx hb dL_isForetold_108 (by decide) (fun hq9 => absurd hq9 (not_not_intro rfl)) (fun _ => ?_)
      refine lv_iconst (v := (nI 1)) hx hb dL_isForetold_111 (by decide +kernel) ?_
      refine lv_goto (tgt := 116) hx hb dL_isForetold_112 (by decide) ?_
      refine lv_istore (lv' := [(8, .int (nI 1)), (0, .ref o), (1, .int (nI r)), (2, .int (nI j)), (3, .int (nI w)), (4, .int (ansI S (-100005) n (nI r))), (5, .int u), (6, .int w1), (7, .int (leastF (nI j)))]) hx hb dL_isForetold_116 hl (by decide) rfl (fun ls hl => ?_)
      refine lv_iload hx hb dL_isForetold_118 (lv_at hl 0 rfl) ?_
      refine lv_if_eq (tgt := 158) hx hb dL_isForetold_120 (by decide) (fun hq9 => absurd hq9 (by decide)) (fun _ => ?_)
      refine lv_iload hx hb dL_isForetold_123 (lv_at hl 6 rfl) ?_
      refine lv_ldc (v := (-100005)) hx hb hown (hts (.constant RL 40 (-100005)) (List.mem_of_getElem? (i := 1) rfl)) dL_isForetold_125 ?_
      refine lv_icmp_ne (tgt := 154) hx hb dL_isForetold_127 (by decide) (fun _ => ?_) (fun hq9 => absurd hq9 (fun z => u1 z))
      refine lv_iconst (v := (nI 1)) hx hb dL_isForetold_154 (by decide +kernel) ?_
      refine lv_goto (tgt := 159) hx hb dL_isForetold_155 (by decide) ?_
      refine lv_istore (lv' := [(8, .int (nI 1)), (0, .ref o), (1, .int (nI r)), (2, .int (nI j)), (3, .int (nI w)), (4, .int (ansI S (-100005) n (nI r))), (5, .int u), (6, .int w1), (7, .int (leastF (nI j)))]) hx hb dL_isForetold_159 hl (by decide) rfl (fun ls hl => ?_)
      exact z161 _ _ _ ls hI hM (lv_sub hl [1, 2, 3, 4, 5, 6, 7, 8, 0] rfl)
  refine lv_iload_n hx hb dL_isForetold_24 rfl (lv_at hl 5 rfl) ?_
  refine lv_iconst (v := (nI 4)) hx hb dL_isForetold_25 (by decide +kernel) ?_
  refine ln_icmp_ge j 4 (by omega) (by omega) (tgt := 35) hx hb dL_isForetold_26 (by decide) (fun cz3 => ?_) (fun cz3 => ?_)
  · refine lv_iconst (v := (nI 0)) hx hb dL_isForetold_35 (by decide +kernel) ?_
    refine mv_top (y := leastF (nI j)) (((leF4 hj).2 cz3).1.symm) ?_
    refine lv_istore (lv' := [(7, .int (leastF (nI j))), (6, .int w1), (5, .int u), (4, .int (ansI S (-100005) n (nI r))), (0, .ref o), (1, .int (nI r)), (2, .int (nI j)), (3, .int (nI w))]) hx hb dL_isForetold_36 hl (by decide) rfl (fun ls hl => ?_)
    exact z38 _ _ _ ls hI hM (lv_sub hl [4, 5, 6, 7, 3, 2, 1, 0] rfl)
  refine lv_sipush (v := (-9999)) hx hb dL_isForetold_29 (by decide +kernel) ?_
  refine lv_goto (tgt := 36) hx hb dL_isForetold_32 (by decide) ?_
  refine mv_top (y := leastF (nI j)) (((leF4 hj).1 cz3).1.symm) ?_
  refine lv_istore (lv' := [(7, .int (leastF (nI j))), (6, .int w1), (5, .int u), (4, .int (ansI S (-100005) n (nI r))), (0, .ref o), (1, .int (nI r)), (2, .int (nI j)), (3, .int (nI w))]) hx hb dL_isForetold_36 hl (by decide) rfl (fun ls hl => ?_)
  exact z38 _ _ _ ls hI hM (lv_sub hl [4, 5, 6, 7, 3, 2, 1, 0] rfl)
