/-! THE CLASS: a sentence's text -/
theorem c5_writeToken (l : Launch) (G : mG) {f : mE} {o q0 ra rd sp rr sb va cap rc : Nat} {ml : Int32} {L : List Int32} (h_o : f o = some (.inr (6, [.ref q0, .ref ra, .int (nI rc), .ref rd, .ref sp, .ref rr, .ref sb]))) (hos : o ≠ sb) (hov : o ≠ va) (h : TbP G f sb va cap ml L) (hlL : L.length ≤ cap) (hc : 16 ≤ cap) (hc2 : cap ≤ 1400) (kd x : Int32) (hv : vtB kd x = true) : mC l G yX5_writeToken wsX5_writeToken ({ frames := 8, cells := Gc cap (L.length + (tokL kd x).length) - cap, slots := 2 * (Gc cap (L.length + (tokL kd x).length) - cap), locals := 177 } : Room) f [.ref o, .int kd, .int x] (fun v f1 => v = none ∧ TbW G f f1 sb va ml (Gc cap (L.length + (tokL kd x).length)) (L ++ tokL kd x)) (Gc cap (L.length + (tokL kd x).length) - cap) (2 * (Gc cap (L.length + (tokL kd x).length) - cap)) := by
  rcases vt_cases hv with ⟨rfl, i, hi, rfl⟩ | ⟨rfl, h9⟩ | ⟨rfl, i, hi, rfl⟩
  · rw [tokL_0 hi, voc_txt i hi]; exact c5_writeToken0 l G h_o hos hov h hlL hc hc2 i hi
  · rw [tokL_1]; exact c5_writeToken1 l G h_o hos hov h hlL hc hc2 x h9
  · have hyr := codeN_yr hi
    have e : (datL (codeN i)).length = 10 := by rw [dat_eq (by omega) (by omega)]; exact dat_len (by omega) (by omega)
    rw [tokL_2 hi, e]; exact c5_writeToken2 l G h_o hos hov h hlL hc hc2 i hi
def capT (S : Nat → Int32) (k cap : Nat) : Nat → Nat
  | 0 => cap
  | t + 1 => Gc (capT S k cap t) (senL S k (t + 1)).length
theorem capT_ge (S : Nat → Int32) (k cap : Nat) : ∀ t, cap ≤ capT S k cap t
  | 0 => Nat.le_refl _
  | t + 1 => Nat.le_trans (capT_ge S k cap t) (Gc_ge _ _)
theorem sen_step {S : Nat → Int32} {k ct t : Nat} (hv : ∀ t, t < ct → vtB (S (57 + 66 * k + (1 + t))) (S (57 + 66 * k + (25 + t))) = true) (h : t < ct) : (senL S k (t + 1)).length ≤ (senL S k t).length + 11 := by
  have h2 := tokL_le (hv t h)
  rw [senL, List.length_append, List.length_append]
  split
  · rw [List.length_nil]; omega
  · rw [List.length_singleton]; omega
theorem capT_has {S : Nat → Int32} {k cap ct : Nat} (hc : 16 ≤ cap) (hv : ∀ t, t < ct → vtB (S (57 + 66 * k + (1 + t))) (S (57 + 66 * k + (25 + t))) = true) : ∀ {t}, t ≤ ct → (senL S k t).length ≤ capT S k cap t
  | 0, _ => Nat.zero_le _
  | t + 1, h => by
    have h1 := capT_has hc hv (t := t) (by omega)
    have h2 := sen_step hv (t := t) (by omega)
    have h3 := capT_ge S k cap t
    exact Gc_has (by omega) (by omega)
theorem capT_le {S : Nat → Int32} {k cap ct : Nat} (hc : cap ≤ 600) (hct : ct ≤ 24) (hv : ∀ t, t < ct → vtB (S (57 + 66 * k + (1 + t))) (S (57 + 66 * k + (25 + t))) = true) : ∀ {t}, t ≤ ct → capT S k cap t ≤ 600
  | 0, _ => hc
  | t + 1, h => by
    have h2 := senL_le hv (t := t + 1) h
    exact Gc_600 (capT_le hc hct hv (t := t) (by omega)) (by omega)
set_option maxHeartbeats 4000000 in
set_option maxRecDepth 100000 in
theorem c5_textOf (l : Launch) (G : mG) {f : mE} {o q0 ra rd sp rr sb va cap rc ct : Nat} {ml : Int32} {by1 : Nat → Int32} (h_o : f o = some (.inr (6, [.ref q0, .ref ra, .int (nI rc), .ref rd, .ref sp, .ref rr, .ref sb]))) (h_sb : f sb = some (.inr (0, [.ref va, .int (nI 0), .int ml, .int (nI ct)]))) (h_va : f va = some (mB G cap by1)) (hfit : sb_Fit by1) (hct : ct ≤ cap) (hc : 16 ≤ cap) (hc2 : cap ≤ 600) {t ka kv cn : Nat} {K Vv : Nat → Int32} (h_t : f t = some (.inr (5, [.int (nI cn), .ref ka, .ref kv]))) (h_ka : f ka = some (mI G 24 K)) (h_kv : f kv = some (mI G 24 Vv)) (hka : ka ≠ va) (hkv : kv ≠ va) {S : Nat → Int32} {k : Nat} (hcn : cn ≤ 24) (hKV : ∀ j, j < cn → K j = S (57 + 66 * k + (1 + j)) ∧ Vv j = S (57 + 66 * k + (25 + j))) (hvt : ∀ j, j < cn → vtB (S (57 + 66 * k + (1 + j))) (S (57 + 66 * k + (25 + j))) = true) : mC l G yX5_textOf wsX5_textOf ({ frames := 9, cells := 610, slots := 1810, locals := 199 } : Room) f [.ref o, .ref t] (fun v f2 => ∃ ml1 : Int32, (ml1 = ml ∨ ml1 = 1) ∧ ∃ cap1, cap1 ≤ 600 ∧ 16 ≤ cap1 ∧ (senL S k cn).length + 1 ≤ cap1 ∧ ∃ (f1 : mE) (x z : Nat) (g2 : Nat → Int32), TbW G f f1 sb va ml1 cap1 (senL S k cn ++ [nI 46]) ∧ v = some (va_rf (some x)) ∧ f1 x = none ∧ f1 z = none ∧ TxtC G f2 x z (senL S k cn) g2 ∧ ∀ b e, f1 b = some e → f2 b = some e) 610 1810 := by
  refine mC.of (cc := cX5_textOf) (maxL := 3) (ret := (some (.object "java/lang/String"))) (by decide) rfl (Nat.le_of_ble_eq_true rfl) ?_
  intro pgm env s mt args below meth c A ls hx hb hml hr hlocks hown hname hts hK hE hA hM hl
  have hl : lv_has ls 3 [(0, .ref o), (1, .ref t)] := hl
  have hos := ne_oo h_o h_sb (by show (6 : Nat) ≠ 0; decide)
  have hov := ne_oi h_o h_va
  have ht1 := ne_oo h_t h_sb (by show (5 : Nat) ≠ 0; decide)
  have ht2 := ne_oi h_t h_va
  have hk1 := (ne_oi h_sb h_ka).symm
  have hv1 := (ne_oi h_sb h_kv).symm
  have hF := fun w9 e (hb : f w9 = some e)  => hb
  refine lv_aload_n hx hb dX5_textOf_0 rfl (lv_at hl 0 rfl) ?_
  refine mm_get (C := RX5) (T := TX5) (N := 7) (k := 6) hx hb hts (fun _ h => List.mem_cons_of_mem _ (List.mem_append_left _ (List.mem_append_left _ (List.mem_append_left _ (List.mem_append_right _ h))))) hown hK hM h_o rfl (by decide) (hts (.fieldLink RX5 37 "SentenceRules" "builder" "Ljava/lang/StringBuilder;") (List.mem_of_getElem? (i := 1) rfl)) rfl rfl dX5_textOf_1 ?_
  refine lv_iconst (v := (nI 0)) hx hb dX5_textOf_4 (by decide +kernel) ?_
  refine mm_V (As := [.int (nI 0)]) (rest := []) ⟨hx, hb, hml, hown, hts⟩ (j4_setLength l G h_sb h_va hct (by omega)) (cwV 1 hts gX5_textOf_J4_setLength_d00df rfl rfl rfl (by decide +kernel) ⟨(by first | exact Nat.le_of_ble_eq_true rfl | omega | (dsimp only; omega)), (by first | exact Nat.le_of_ble_eq_true rfl | omega | (dsimp only; omega))⟩) hK hE hA hM (mm_recv hK hM h_sb (q := (RJ4, TJ4, 4)) rfl) rfl hl.1 rfl (by first | exact Nat.le_of_ble_eq_true rfl | omega | (dsimp only; omega)) dX5_textOf_5 ⟨(by first | exact Nat.le_of_ble_eq_true rfl | omega | (dsimp only; omega)), (by first | exact Nat.le_of_ble_eq_true rfl | omega | (dsimp only; omega))⟩ (fun v ff Hp lcs hp hM => ?_)
  obtain ⟨rfl, ml1, hm1, hs1, hG1⟩ := hp
  have hva1 := (hG1 va (ne_oi h_sb h_va).symm).trans h_va
  have hW : TbW G f ff sb va ml1 cap (senL S k 0) := ⟨va, ⟨by1, hs1, hva1, hfit, fun j hj => absurd hj (Nat.not_lt_zero j)⟩, Or.inl rfl, fun c e h n1 _ => (hG1 c n1).trans h⟩
  refine lv_iconst (v := (nI 0)) hx hb dX5_textOf_8 (by decide +kernel) ?_
  refine lv_istore_n (lv' := [(2, .int (nI 0)), (0, .ref o), (1, .ref t)]) hx hb dX5_textOf_9 rfl hl (by decide) rfl (fun ls hl => ?_)
  have loopZ : ∀ (fuel : Nat) (i : Nat) (fz : mE) (Hp : Heap) (lcs : List Loc) (ls : Array Slot) (hiN : i ≤ cn) (hWz : TbW G f fz sb va ml1 (capT S k cap i) (senL S k i)) (hfu : cn - i < fuel) (hM : mM G A s.heap fz Hp lcs) (hl : lv_has ls 3 [(0, .ref o), (1, .ref t), (2, .int (nI i))]), W pgm l env ({ frames := 9, cells := 610, slots := 1810, locals := 199 } : Room) s mt args below meth c Hp lcs ((capT S k cap i) - cap) (2 * ((capT S k cap i) - cap)) (MQ below (mQc G A (fun v f2 => ∃ ml1 : Int32, (ml1 = ml ∨ ml1 = 1) ∧ ∃ cap1, cap1 ≤ 600 ∧ 16 ≤ cap1 ∧ (senL S k cn).length + 1 ≤ cap1 ∧ ∃ (f1 : mE) (x z : Nat) (g2 : Nat → Int32), TbW G f f1 sb va ml1 cap1 (senL S k cn ++ [nI 46]) ∧ v = some (va_rf (some x)) ∧ f1 x = none ∧ f1 z = none ∧ TxtC G f2 x z (senL S k cn) g2 ∧ ∀ b e, f1 b = some e → f2 b = some e)) args s 610 1810 A) (F0 mt 10 ls []) := by
    intro fuel
    induction fuel with
    | zero => intro i fz Hp lcs ls hiN hWz hfu; exact absurd hfu (Nat.not_lt_zero _)
    | succ fuel ih =>
      intro i fz Hp lcs ls hiN hWz hfu hM hl
      have hT1 := capT_ge S k cap i
      have hT2 := capT_has hc hvt hiN
      have hT3 := capT_le hc2 hcn hvt hiN
      have hB : 16 ≤ (capT S k cap i) := by omega
      have hW := hWz
      have hnL : (senL S k i).length = (senL S k i).length := rfl
      have hG0 : Gc (capT S k cap i) (senL S k i).length = (capT S k cap i) := if_pos hT2
      have hlen := senL_le hvt hiN
      refine lv_iload_n hx hb dX5_textOf_10 rfl (lv_at hl 2 rfl) ?_
      refine lv_aload_n hx hb dX5_textOf_11 rfl (lv_at hl 1 rfl) ?_
      refine mm_get (C := RX4) (T := TX4) (N := 3) (k := 0) hx hb hts (fun _ h => List.mem_cons_of_mem _ (List.mem_append_left _ (List.mem_append_left _ (List.mem_append_right _ h)))) hown hK hM (hW.get h_t ht1 ht2) rfl (by decide) (hts (.fieldLink RX5 66 "SentenceRules$Tokens" "count" "I") (List.mem_of_getElem? (i := 2) rfl)) rfl rfl dX5_textOf_12 ?_
      refine ln_icmp_ge i cn (by omega) (by omega) (tgt := 54) hx hb dX5_textOf_15 (by decide) (fun cz1 => ?_) (fun cz1 => ?_)
      · have hic : i = cn := by omega
        subst hic
        refine lv_aload_n hx hb dX5_textOf_54 rfl (lv_at hl 0 rfl) ?_
        refine mm_get (C := RX5) (T := TX5) (N := 7) (k := 6) hx hb hts (fun _ h => List.mem_cons_of_mem _ (List.mem_append_left _ (List.mem_append_left _ (List.mem_append_left _ (List.mem_append_right _ h))))) hown hK hM (hW.get h_o hos hov) rfl (by decide) (hts (.fieldLink RX5 37 "SentenceRules" "builder" "Ljava/lang/StringBuilder;") (List.mem_of_getElem? (i := 1) rfl)) rfl rfl dX5_textOf_55 ?_
        have hW := hW.cap hG0.symm rfl
        refine W_cast (k2 := (capT S k cap i) - cap + (Gc (capT S k cap i) (senL S k i).length - (capT S k cap i))) (s2 := 2 * ((capT S k cap i) - cap) + (2 * (Gc (capT S k cap i) (senL S k i).length - (capT S k cap i)))) (by omega) (by omega) ?_
        refine lv_bipush (v := (nI 46)) hx hb dX5_textOf_58 (by decide +kernel) ?_
        obtain ⟨zc, hpc, hzc, hfrc⟩ := hW
        have hgc := Gc_has (cap := (capT S k cap i)) (n := (senL S k i).length) (by omega) hB
        have hge := Gc_ge (capT S k cap i) ((senL S k i).length)
        have hg2 := Gc_two (capT S k cap i) ((senL S k i).length)
        skip
        have hG6 := Gc_600 (cap := (capT S k cap i)) (n := (senL S k i).length + 11) hT3 (by omega)
        have hgm := Gc_mono (cap := (capT S k cap i)) (show (senL S k i).length ≤ (senL S k i).length + 1 by omega)
        have hgf := Gc_mono (cap := (capT S k cap i)) (show (senL S k i).length + 1 ≤ (senL S k i).length + 11 by omega)
        have hgg : Gc (Gc (capT S k cap i) ((senL S k i).length)) ((senL S k i).length + 1) = Gc (capT S k cap i) ((senL S k i).length + 1) := by rw [hnL]; exact GcGc (by omega) (by omega) hB
        refine mm_V (As := [.int (nI 46)]) (rest := []) ⟨hx, hb, hml, hown, hts⟩ (t_appC l G hpc (by rw [hnL]; omega) (by omega) (by omega) 46 (by omega)) (cwV 1 hts gX5_textOf_J4_append_cf468 rfl rfl rfl (by decide +kernel) ⟨(by first | exact Nat.le_of_ble_eq_true rfl | omega | (dsimp only; omega)), (by first | exact Nat.le_of_ble_eq_true rfl | omega | (dsimp only; omega))⟩) hK hE hA hM (mm_recv hK hM hpc.sb (q := (RJ4, TJ4, 4)) rfl) rfl hl.1 rfl (by first | exact Nat.le_of_ble_eq_true rfl | omega | (dsimp only; omega)) dX5_textOf_60 ⟨(by first | exact Nat.le_of_ble_eq_true rfl | omega | (dsimp only; omega)), (by first | exact Nat.le_of_ble_eq_true rfl | omega | (dsimp only; omega))⟩ (fun v ff Hp lcs hp hM => ?_)
        obtain ⟨rfl, hw2⟩ := hp
        have hW := (TbW.trans hpc hzc hfrc hw2).cap hgg rfl
        have hnL : ((senL S k i) ++ [nI 46]).length = (senL S k i).length + 1 := by rw [List.length_append, hnL] <;> rfl
        refine W_cast (k2 := (capT S k cap i) - cap + (Gc (capT S k cap i) ((senL S k i).length + 1) - (capT S k cap i))) (s2 := 2 * ((capT S k cap i) - cap) + (2 * (Gc (capT S k cap i) ((senL S k i).length + 1) - (capT S k cap i)))) (by omega) (by omega) ?_
        refine mv_val (y := .ref sb) rfl ?_
        refine lv_pop hx hb dX5_textOf_63 rfl ?_
        refine lv_aload_n hx hb dX5_textOf_64 rfl (lv_at hl 0 rfl) ?_
        refine mm_get (C := RX5) (T := TX5) (N := 7) (k := 6) hx hb hts (fun _ h => List.mem_cons_of_mem _ (List.mem_append_left _ (List.mem_append_left _ (List.mem_append_left _ (List.mem_append_right _ h))))) hown hK hM (hW.get h_o hos hov) rfl (by decide) (hts (.fieldLink RX5 37 "SentenceRules" "builder" "Ljava/lang/StringBuilder;") (List.mem_of_getElem? (i := 1) rfl)) rfl rfl dX5_textOf_65 ?_
        have hG6 := Gc_600 hT3 (n := (senL S k i).length + 1) (by omega)
        have hGh := Gc_has (cap := (capT S k cap i)) (n := (senL S k i).length + 1) (by omega) hB
        have hW2 := hW
        obtain ⟨z1, ⟨by2, s1, s2, hfit2, hby2⟩, hz1, hfr1⟩ := hW2
        rw [List.length_append, List.length_singleton] at s1 hby2
        refine mm_V (As := []) (rest := []) ⟨hx, hb, hml, hown, hts⟩ (j4_toString l G s1 s2 hfit2 hGh (by omega)) (cwV 0 hts gX5_textOf_J4_toString_0e30d rfl rfl rfl (by decide +kernel) ⟨(by first | exact Nat.le_of_ble_eq_true rfl | omega | (dsimp only; omega)), (by first | exact Nat.le_of_ble_eq_true rfl | omega | (dsimp only; omega))⟩) hK hE hA hM (mm_recv hK hM s1 (q := (RJ4, TJ4, 4)) rfl) rfl hl.1 rfl (by first | exact Nat.le_of_ble_eq_true rfl | omega | (dsimp only; omega)) dX5_textOf_68 ⟨(by first | exact Nat.le_of_ble_eq_true rfl | omega | (dsimp only; omega)), (by first | exact Nat.le_of_ble_eq_true rfl | omega | (dsimp only; omega))⟩ (fun v ft Hp lcs hp hM => ?_)
        obtain ⟨tx, tz, tg, rfl, tn1, tn2, te1, te2, tg2, tF⟩ := hp
        refine mv_val (y := .ref tx) rfl ?_
        exact mm_aret (r := (some tx)) hx hb hlocks hr (by first | exact Or.inl ⟨_, rfl⟩ | exact Or.inr ⟨_, rfl⟩) (by first | exact Nat.le_of_ble_eq_true rfl | omega | (dsimp only; omega)) (by first | exact Nat.le_of_ble_eq_true rfl | omega | (dsimp only; omega)) hM (⟨ml1, hm1, _, hG6, Nat.le_trans hB (Gc_ge (capT S k cap i) ((senL S k i).length + 1)), hGh, _, tx, tz, tg, hW, rfl, tn1, tn2, ⟨te1, te2, fun j hj => (tg2 j hj).trans (hby2 j hj)⟩, tF⟩) dX5_textOf_71
      refine lv_iload_n hx hb dX5_textOf_18 rfl (lv_at hl 2 rfl) ?_
      refine lv_if_le (tgt := 32) hx hb dX5_textOf_19 (by decide) (fun cz2 => ?_) (fun cz2 => ?_)
      · have hW := hW.cap hG0.symm rfl
        refine W_cast (k2 := (capT S k cap i) - cap + (Gc (capT S k cap i) (senL S k i).length - (capT S k cap i))) (s2 := 2 * ((capT S k cap i) - cap) + (2 * (Gc (capT S k cap i) (senL S k i).length - (capT S k cap i)))) (by omega) (by omega) ?_
        refine lv_aload_n hx hb dX5_textOf_32 rfl (lv_at hl 0 rfl) ?_
        refine lv_aload_n hx hb dX5_textOf_33 rfl (lv_at hl 1 rfl) ?_
        refine mm_get (C := RX4) (T := TX4) (N := 3) (k := 1) hx hb hts (fun _ h => List.mem_cons_of_mem _ (List.mem_append_left _ (List.mem_append_left _ (List.mem_append_right _ h)))) hown hK hM (hW.get h_t ht1 ht2) rfl (by decide) (hts (.fieldLink RX5 207 "SentenceRules$Tokens" "kinds" "[I") (List.mem_of_getElem? (i := 3) rfl)) rfl rfl dX5_textOf_34 ?_
        refine lv_iload_n hx hb dX5_textOf_37 rfl (lv_at hl 2 rfl) ?_
        refine mn_iald hx hb hK hM (hW.get h_ka hk1 hka) i (by omega) (by decide) dX5_textOf_38 ?_
        refine mv_top (hKV i (by omega)).1 ?_
        refine lv_aload_n hx hb dX5_textOf_39 rfl (lv_at hl 1 rfl) ?_
        refine mm_get (C := RX4) (T := TX4) (N := 3) (k := 2) hx hb hts (fun _ h => List.mem_cons_of_mem _ (List.mem_append_left _ (List.mem_append_left _ (List.mem_append_right _ h)))) hown hK hM (hW.get h_t ht1 ht2) rfl (by decide) (hts (.fieldLink RX5 210 "SentenceRules$Tokens" "values" "[I") (List.mem_of_getElem? (i := 4) rfl)) rfl rfl dX5_textOf_40 ?_
        refine lv_iload_n hx hb dX5_textOf_43 rfl (lv_at hl 2 rfl) ?_
        refine mn_iald hx hb hK hM (hW.get h_kv hv1 hkv) i (by omega) (by decide) dX5_textOf_44 ?_
        refine mv_top (hKV i (by omega)).2 ?_
        have htk := tokL_le (hvt i (by omega))
        obtain ⟨zc, hpc, hzc, hfrc⟩ := hW
        have hgc := Gc_has (cap := (capT S k cap i)) (n := (senL S k i).length) (by omega) hB
        have hge := Gc_ge (capT S k cap i) ((senL S k i).length)
        have hg2 := Gc_two (capT S k cap i) ((senL S k i).length)
        skip
        have hG6 := Gc_600 (cap := (capT S k cap i)) (n := (senL S k i).length + 11) hT3 (by omega)
        have hgm := Gc_mono (cap := (capT S k cap i)) (show (senL S k i).length ≤ (senL S k i).length + (tokL (S (57 + 66 * k + (1 + i))) (S (57 + 66 * k + (25 + i)))).length by omega)
        have hgf := Gc_mono (cap := (capT S k cap i)) (show (senL S k i).length + (tokL (S (57 + 66 * k + (1 + i))) (S (57 + 66 * k + (25 + i)))).length ≤ (senL S k i).length + 11 by omega)
        have hgg : Gc (Gc (capT S k cap i) ((senL S k i).length)) ((senL S k i).length + (tokL (S (57 + 66 * k + (1 + i))) (S (57 + 66 * k + (25 + i)))).length) = Gc (capT S k cap i) ((senL S k i).length + (tokL (S (57 + 66 * k + (1 + i))) (S (57 + 66 * k + (25 + i)))).length) := by rw [hnL]; exact GcGc (by omega) (by omega) hB
        refine mm_V (As := [.int (S (57 + 66 * k + (1 + i))), .int (S (57 + 66 * k + (25 + i)))]) (rest := []) ⟨hx, hb, hml, hown, hts⟩ (c5_writeToken l G (hfrc o _ h_o hos hov) hos (apart_z hov hzc h_o) hpc (by rw [hnL]; omega) (by omega) (by omega) (S (57 + 66 * k + (1 + i))) (S (57 + 66 * k + (25 + i))) (hvt i (by omega))) (cwV 2 hts gX5_textOf_X5_writeToken rfl rfl rfl (by decide +kernel) ⟨(by first | exact Nat.le_of_ble_eq_true rfl | omega | (dsimp only; omega)), (by first | exact Nat.le_of_ble_eq_true rfl | omega | (dsimp only; omega))⟩) hK hE hA hM (mm_recv hK hM (hfrc o _ h_o hos hov) (q := (RX5, TX5, 7)) rfl) rfl hl.1 rfl (by first | exact Nat.le_of_ble_eq_true rfl | omega | (dsimp only; omega)) dX5_textOf_45 ⟨(by first | exact Nat.le_of_ble_eq_true rfl | omega | (dsimp only; omega)), (by first | exact Nat.le_of_ble_eq_true rfl | omega | (dsimp only; omega))⟩ (fun v ff Hp lcs hp hM => ?_)
        obtain ⟨rfl, hw2⟩ := hp
        have hW := (TbW.trans hpc hzc hfrc hw2).cap hgg rfl
        have hnL : ((senL S k i) ++ (tokL (S (57 + 66 * k + (1 + i))) (S (57 + 66 * k + (25 + i))))).length = (senL S k i).length + (tokL (S (57 + 66 * k + (1 + i))) (S (57 + 66 * k + (25 + i)))).length := by rw [List.length_append, hnL] <;> rfl
        refine W_cast (k2 := (capT S k cap i) - cap + (Gc (capT S k cap i) ((senL S k i).length + (tokL (S (57 + 66 * k + (1 + i))) (S (57 + 66 * k + (25 + i)))).length) - (capT S k cap i))) (s2 := 2 * ((capT S k cap i) - cap) + (2 * (Gc (capT S k cap i) ((senL S k i).length + (tokL (S (57 + 66 * k + (1 + i))) (S (57 + 66 * k + (25 + i)))).length) - (capT S k cap i)))) (by omega) (by omega) ?_
        have hi0 : i = 0 := nI_z (by omega) cz2
        have hse := senL_0 (S := S) (k := k) hi0
        have hcs : capT S k cap (i + 1) = Gc (capT S k cap i) ((senL S k i).length + (tokL (S (57 + 66 * k + (1 + i))) (S (57 + 66 * k + (25 + i)))).length) := by rw [capT, hse, hnL]
        have hge9 := Gc_ge (capT S k cap i) ((senL S k i).length + (tokL (S (57 + 66 * k + (1 + i))) (S (57 + 66 * k + (25 + i)))).length)
        have hW := hW.cap hcs.symm hse.symm
        refine W_cast (k2 := capT S k cap (i + 1) - cap) (s2 := 2 * (capT S k cap (i + 1) - cap)) (by omega) (by omega) ?_
        refine lv_iinc (v := (nI (i + 1))) (lv' := [(2, .int (nI (i + 1))), (0, .ref o), (1, .ref t)]) hx hb dX5_textOf_48 hl (k := 2) rfl (nI_add _ _) (by decide) rfl (fun ls hl => ?_)
        refine lv_goto (tgt := 10) hx hb dX5_textOf_51 (by decide) ?_
        exact ih (i + 1) _ _ _ ls (by omega) hW (by omega) hM (lv_sub hl [1, 2, 0] rfl)
      have hW := hW.cap hG0.symm rfl
      refine W_cast (k2 := (capT S k cap i) - cap + (Gc (capT S k cap i) (senL S k i).length - (capT S k cap i))) (s2 := 2 * ((capT S k cap i) - cap) + (2 * (Gc (capT S k cap i) (senL S k i).length - (capT S k cap i)))) (by omega) (by omega) ?_
      refine lv_aload_n hx hb dX5_textOf_22 rfl (lv_at hl 0 rfl) ?_
      refine mm_get (C := RX5) (T := TX5) (N := 7) (k := 6) hx hb hts (fun _ h => List.mem_cons_of_mem _ (List.mem_append_left _ (List.mem_append_left _ (List.mem_append_left _ (List.mem_append_right _ h))))) hown hK hM (hW.get h_o hos hov) rfl (by decide) (hts (.fieldLink RX5 37 "SentenceRules" "builder" "Ljava/lang/StringBuilder;") (List.mem_of_getElem? (i := 1) rfl)) rfl rfl dX5_textOf_23 ?_
      refine lv_bipush (v := (nI 32)) hx hb dX5_textOf_26 (by decide +kernel) ?_
      obtain ⟨zc, hpc, hzc, hfrc⟩ := hW
      have hgc := Gc_has (cap := (capT S k cap i)) (n := (senL S k i).length) (by omega) hB
      have hge := Gc_ge (capT S k cap i) ((senL S k i).length)
      have hg2 := Gc_two (capT S k cap i) ((senL S k i).length)
      skip
      have hG6 := Gc_600 (cap := (capT S k cap i)) (n := (senL S k i).length + 11) hT3 (by omega)
      have hgm := Gc_mono (cap := (capT S k cap i)) (show (senL S k i).length ≤ (senL S k i).length + 1 by omega)
      have hgf := Gc_mono (cap := (capT S k cap i)) (show (senL S k i).length + 1 ≤ (senL S k i).length + 11 by omega)
      have hgg : Gc (Gc (capT S k cap i) ((senL S k i).length)) ((senL S k i).length + 1) = Gc (capT S k cap i) ((senL S k i).length + 1) := by rw [hnL]; exact GcGc (by omega) (by omega) hB
      refine mm_V (As := [.int (nI 32)]) (rest := []) ⟨hx, hb, hml, hown, hts⟩ (t_appC l G hpc (by rw [hnL]; omega) (by omega) (by omega) 32 (by omega)) (cwV 1 hts gX5_textOf_J4_append_cf468 rfl rfl rfl (by decide +kernel) ⟨(by first | exact Nat.le_of_ble_eq_true rfl | omega | (dsimp only; omega)), (by first | exact Nat.le_of_ble_eq_true rfl | omega | (dsimp only; omega))⟩) hK hE hA hM (mm_recv hK hM hpc.sb (q := (RJ4, TJ4, 4)) rfl) rfl hl.1 rfl (by first | exact Nat.le_of_ble_eq_true rfl | omega | (dsimp only; omega)) dX5_textOf_28 ⟨(by first | exact Nat.le_of_ble_eq_true rfl | omega | (dsimp only; omega)), (by first | exact Nat.le_of_ble_eq_true rfl | omega | (dsimp only; omega))⟩ (fun v ff Hp lcs hp hM => ?_)
      obtain ⟨rfl, hw2⟩ := hp
      have hW := (TbW.trans hpc hzc hfrc hw2).cap hgg rfl
      have hnL : ((senL S k i) ++ [nI 32]).length = (senL S k i).length + 1 := by rw [List.length_append, hnL] <;> rfl
      refine W_cast (k2 := (capT S k cap i) - cap + (Gc (capT S k cap i) ((senL S k i).length + 1) - (capT S k cap i))) (s2 := 2 * ((capT S k cap i) - cap) + (2 * (Gc (capT S k cap i) ((senL S k i).length + 1) - (capT S k cap i)))) (by omega) (by omega) ?_
      refine mv_val (y := .ref sb) rfl ?_
      refine lv_pop hx hb dX5_textOf_31 rfl ?_
      refine lv_aload_n hx hb dX5_textOf_32 rfl (lv_at hl 0 rfl) ?_
      refine lv_aload_n hx hb dX5_textOf_33 rfl (lv_at hl 1 rfl) ?_
      refine mm_get (C := RX4) (T := TX4) (N := 3) (k := 1) hx hb hts (fun _ h => List.mem_cons_of_mem _ (List.mem_append_left _ (List.mem_append_left _ (List.mem_append_right _ h)))) hown hK hM (hW.get h_t ht1 ht2) rfl (by decide) (hts (.fieldLink RX5 207 "SentenceRules$Tokens" "kinds" "[I") (List.mem_of_getElem? (i := 3) rfl)) rfl rfl dX5_textOf_34 ?_
      refine lv_iload_n hx hb dX5_textOf_37 rfl (lv_at hl 2 rfl) ?_
      refine mn_iald hx hb hK hM (hW.get h_ka hk1 hka) i (by omega) (by decide) dX5_textOf_38 ?_
      refine mv_top (hKV i (by omega)).1 ?_
      refine lv_aload_n hx hb dX5_textOf_39 rfl (lv_at hl 1 rfl) ?_
      refine mm_get (C := RX4) (T := TX4) (N := 3) (k := 2) hx hb hts (fun _ h => List.mem_cons_of_mem _ (List.mem_append_left _ (List.mem_append_left _ (List.mem_append_right _ h)))) hown hK hM (hW.get h_t ht1 ht2) rfl (by decide) (hts (.fieldLink RX5 210 "SentenceRules$Tokens" "values" "[I") (List.mem_of_getElem? (i := 4) rfl)) rfl rfl dX5_textOf_40 ?_
      refine lv_iload_n hx hb dX5_textOf_43 rfl (lv_at hl 2 rfl) ?_
      refine mn_iald hx hb hK hM (hW.get h_kv hv1 hkv) i (by omega) (by decide) dX5_textOf_44 ?_
      refine mv_top (hKV i (by omega)).2 ?_
      have htk := tokL_le (hvt i (by omega))
      obtain ⟨zc, hpc, hzc, hfrc⟩ := hW
      have hgc := Gc_has (cap := (capT S k cap i)) (n := (senL S k i).length + 1) (by omega) hB
      have hge := Gc_ge (capT S k cap i) ((senL S k i).length + 1)
      have hg2 := Gc_two (capT S k cap i) ((senL S k i).length + 1)
      skip
      have hG6 := Gc_600 (cap := (capT S k cap i)) (n := (senL S k i).length + 11) hT3 (by omega)
      have hgm := Gc_mono (cap := (capT S k cap i)) (show (senL S k i).length + 1 ≤ (senL S k i).length + 1 + (tokL (S (57 + 66 * k + (1 + i))) (S (57 + 66 * k + (25 + i)))).length by omega)
      have hgf := Gc_mono (cap := (capT S k cap i)) (show (senL S k i).length + 1 + (tokL (S (57 + 66 * k + (1 + i))) (S (57 + 66 * k + (25 + i)))).length ≤ (senL S k i).length + 11 by omega)
      have hgg : Gc (Gc (capT S k cap i) ((senL S k i).length + 1)) (((senL S k i) ++ [nI 32]).length + (tokL (S (57 + 66 * k + (1 + i))) (S (57 + 66 * k + (25 + i)))).length) = Gc (capT S k cap i) ((senL S k i).length + 1 + (tokL (S (57 + 66 * k + (1 + i))) (S (57 + 66 * k + (25 + i)))).length) := by rw [hnL]; exact GcGc (by omega) (by omega) hB
      refine mm_V (As := [.int (S (57 + 66 * k + (1 + i))), .int (S (57 + 66 * k + (25 + i)))]) (rest := []) ⟨hx, hb, hml, hown, hts⟩ (c5_writeToken l G (hfrc o _ h_o hos hov) hos (apart_z hov hzc h_o) hpc (by rw [hnL]; omega) (by omega) (by omega) (S (57 + 66 * k + (1 + i))) (S (57 + 66 * k + (25 + i))) (hvt i (by omega))) (cwV 2 hts gX5_textOf_X5_writeToken rfl rfl rfl (by decide +kernel) ⟨(by first | exact Nat.le_of_ble_eq_true rfl | omega | (dsimp only; omega)), (by first | exact Nat.le_of_ble_eq_true rfl | omega | (dsimp only; omega))⟩) hK hE hA hM (mm_recv hK hM (hfrc o _ h_o hos hov) (q := (RX5, TX5, 7)) rfl) rfl hl.1 rfl (by first | exact Nat.le_of_ble_eq_true rfl | omega | (dsimp only; omega)) dX5_textOf_45 ⟨(by first | exact Nat.le_of_ble_eq_true rfl | omega | (dsimp only; omega)), (by first | exact Nat.le_of_ble_eq_true rfl | omega | (dsimp only; omega))⟩ (fun v ff Hp lcs hp hM => ?_)
      obtain ⟨rfl, hw2⟩ := hp
      have hW := (TbW.trans hpc hzc hfrc hw2).cap hgg rfl
      have hnL : (((senL S k i) ++ [nI 32]) ++ (tokL (S (57 + 66 * k + (1 + i))) (S (57 + 66 * k + (25 + i))))).length = (senL S k i).length + 1 + (tokL (S (57 + 66 * k + (1 + i))) (S (57 + 66 * k + (25 + i)))).length := by rw [List.length_append, hnL] <;> rfl
      refine W_cast (k2 := (capT S k cap i) - cap + (Gc (capT S k cap i) ((senL S k i).length + 1 + (tokL (S (57 + 66 * k + (1 + i))) (S (57 + 66 * k + (25 + i)))).length) - (capT S k cap i))) (s2 := 2 * ((capT S k cap i) - cap) + (2 * (Gc (capT S k cap i) ((senL S k i).length + 1 + (tokL (S (57 + 66 * k + (1 + i))) (S (57 + 66 * k + (25 + i)))).length) - (capT S k cap i)))) (by omega) (by omega) ?_
      have hi0 : ¬ i = 0 := fun z => cz2 (by rw [z]; decide)
      have hse := (senL_s (S := S) (k := k) hi0).trans (List.append_assoc _ _ _).symm
      have hcs : capT S k cap (i + 1) = Gc (capT S k cap i) ((senL S k i).length + 1 + (tokL (S (57 + 66 * k + (1 + i))) (S (57 + 66 * k + (25 + i)))).length) := by rw [capT, hse, hnL]
      have hge9 := Gc_ge (capT S k cap i) ((senL S k i).length + 1 + (tokL (S (57 + 66 * k + (1 + i))) (S (57 + 66 * k + (25 + i)))).length)
      have hW := hW.cap hcs.symm hse.symm
      refine W_cast (k2 := capT S k cap (i + 1) - cap) (s2 := 2 * (capT S k cap (i + 1) - cap)) (by omega) (by omega) ?_
      refine lv_iinc (v := (nI (i + 1))) (lv' := [(2, .int (nI (i + 1))), (0, .ref o), (1, .ref t)]) hx hb dX5_textOf_48 hl (k := 2) rfl (nI_add _ _) (by decide) rfl (fun ls hl => ?_)
      refine lv_goto (tgt := 10) hx hb dX5_textOf_51 (by decide) ?_
      exact ih (i + 1) _ _ _ ls (by omega) hW (by omega) hM (lv_sub hl [1, 2, 0] rfl)
  exact W_cast (k2 := capT S k cap 0 - cap) (s2 := 2 * (capT S k cap 0 - cap)) (by show 0 = cap - cap; omega) (by show 0 = 2 * (cap - cap); omega) (loopZ (cn + 1) 0 _ _ _ ls (Nat.zero_le _) hW (by omega) hM (lv_sub hl [1, 2, 0] rfl))

