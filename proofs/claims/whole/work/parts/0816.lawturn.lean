/-! THE LAW: one turn of its loop -/
set_option maxHeartbeats 4000000 in
set_option maxRecDepth 100000 in
theorem law_turn {p : Program} {l : Launch} {e : Env} {s : State} {m : MethodId} {args : Array Value} {below : List Frame} {meth : Method} {c : Code} {G : mG} {A : Nat → Prop} {Q : State → Prop} {b L : Nat} {xs : Nat → Int32} (hx : p.tables.exec = Jvm.exec) (hb : c.code = cL_law) (hml : c.maxLocals = 4) (hown : s.vm.findClass RL = some m.cls) (hts : ∀ w ∈ wsL_law, w.before args s = true) (hK : va_K G.1 vwCl (mT G) s) (hE : mS G A s s.heap) (hA : ∀ q, s.heap.size ≤ q → A q) (hX : va_X b L xs s s.heap) (hbl : b < s.heap.size) (hbA : ¬ A b) (hL : L ≤ 2048) {f h : mE} {ox om i cells slots : Nat} {Hp : Heap} {lcs : List Loc} {ls : Array Slot} (hM : mM G A s.heap f Hp lcs) (hh : mD G A h Hp) (hap : mAp f h) (hLI : LI G f h ox om) (hi : i + 4 ≤ L) (hl : lv_has ls 4 [(3, .int (nI i)), (2, .ref om), (1, .ref ox), (0, .ref b)]) (hr1 : cells + 640 ≤ 600000) (hr2 : slots + 2000 ≤ 7302250)
    (kk : ∀ (f1 h1 : mE) (H1 : Heap) (locs1 : List Loc), mM G A s.heap f1 H1 locs1 → mD G A h1 H1 → mAp f1 h1 → LI G f1 h1 ox om → W p l e room_1 s m args below meth c H1 locs1 (cells + 640) (slots + 2000) Q (F0 m 1056 ls [])) : W p l e room_1 s m args below meth c Hp lcs cells slots Q (F0 m 26 ls []) := by
  refine lv_aload_n hx hb dL_law_26 rfl (lv_at hl 3 rfl) ?_
  refine lv_iload_n hx hb dL_law_27 rfl (lv_at hl 0 rfl) ?_
  refine va_sld hx hb hX hbl hbA hM.2 (vp_in_nI (by omega) (by omega)) dL_law_28 ?_
  refine lv_bipush (v := nI 63) hx hb dL_law_29 (by decide +kernel) ?_
  refine lv_iand hx hb dL_law_31 ?_
  obtain ⟨k, hk, ek⟩ := and63_nI (xs (nI i).toNatClampNeg)
  refine mv_top ek ?_
  have ti : (nI k).toInt = (k : Int) := nI_toInt (by omega)
  by_cases h0 : k = 0
  · exact lv_tableIn (tgt := 184) hx hb dL_law_32 (by rw [ti]; omega) (by rw [ti]; omega) (by rw [ti, h0]; rfl) (by decide) (law_c0 hx hb hml hown hts hK hE hA hX hbl hbA hL hM hh hap hLI hi hl hr1 hr2 kk)
  by_cases h1 : k = 1
  · exact lv_tableIn (tgt := 207) hx hb dL_law_32 (by rw [ti]; omega) (by rw [ti]; omega) (by rw [ti, h1]; rfl) (by decide) (law_c1 hx hb hml hown hts hK hE hA hX hbl hbA hL hM hh hap hLI hi hl hr1 hr2 kk)
  by_cases h2 : k = 2
  · exact lv_tableIn (tgt := 230) hx hb dL_law_32 (by rw [ti]; omega) (by rw [ti]; omega) (by rw [ti, h2]; rfl) (by decide) (law_c2 hx hb hml hown hts hK hE hA hX hbl hbA hL hM hh hap hLI hi hl hr1 hr2 kk)
  by_cases h3 : k = 3
  · exact lv_tableIn (tgt := 273) hx hb dL_law_32 (by rw [ti]; omega) (by rw [ti]; omega) (by rw [ti, h3]; rfl) (by decide) (law_c3 hx hb hml hown hts hK hE hA hX hbl hbA hL hM hh hap hLI hi hl hr1 hr2 kk)
  by_cases h4 : k = 4
  · exact lv_tableIn (tgt := 286) hx hb dL_law_32 (by rw [ti]; omega) (by rw [ti]; omega) (by rw [ti, h4]; rfl) (by decide) (law_c4 hx hb hml hown hts hK hE hA hX hbl hbA hL hM hh hap hLI hi hl hr1 hr2 kk)
  by_cases h5 : k = 5
  · exact lv_tableIn (tgt := 299) hx hb dL_law_32 (by rw [ti]; omega) (by rw [ti]; omega) (by rw [ti, h5]; rfl) (by decide) (law_c5 hx hb hml hown hts hK hE hA hX hbl hbA hL hM hh hap hLI hi hl hr1 hr2 kk)
  by_cases h6 : k = 6
  · exact lv_tableIn (tgt := 312) hx hb dL_law_32 (by rw [ti]; omega) (by rw [ti]; omega) (by rw [ti, h6]; rfl) (by decide) (law_c6 hx hb hml hown hts hK hE hA hX hbl hbA hL hM hh hap hLI hi hl hr1 hr2 kk)
  by_cases h7 : k = 7
  · exact lv_tableIn (tgt := 325) hx hb dL_law_32 (by rw [ti]; omega) (by rw [ti]; omega) (by rw [ti, h7]; rfl) (by decide) (law_c7 hx hb hml hown hts hK hE hA hX hbl hbA hL hM hh hap hLI hi hl hr1 hr2 kk)
  by_cases h8 : k = 8
  · exact lv_tableIn (tgt := 348) hx hb dL_law_32 (by rw [ti]; omega) (by rw [ti]; omega) (by rw [ti, h8]; rfl) (by decide) (law_c8 hx hb hml hown hts hK hE hA hX hbl hbA hL hM hh hap hLI hi hl hr1 hr2 kk)
  by_cases h9 : k = 9
  · exact lv_tableIn (tgt := 381) hx hb dL_law_32 (by rw [ti]; omega) (by rw [ti]; omega) (by rw [ti, h9]; rfl) (by decide) (law_c9 hx hb hml hown hts hK hE hA hX hbl hbA hL hM hh hap hLI hi hl hr1 hr2 kk)
  by_cases h10 : k = 10
  · exact lv_tableIn (tgt := 394) hx hb dL_law_32 (by rw [ti]; omega) (by rw [ti]; omega) (by rw [ti, h10]; rfl) (by decide) (law_c10 hx hb hml hown hts hK hE hA hX hbl hbA hL hM hh hap hLI hi hl hr1 hr2 kk)
  by_cases h11 : k = 11
  · exact lv_tableIn (tgt := 407) hx hb dL_law_32 (by rw [ti]; omega) (by rw [ti]; omega) (by rw [ti, h11]; rfl) (by decide) (law_c11 hx hb hml hown hts hK hE hA hX hbl hbA hL hM hh hap hLI hi hl hr1 hr2 kk)
  by_cases h12 : k = 12
  · exact lv_tableIn (tgt := 430) hx hb dL_law_32 (by rw [ti]; omega) (by rw [ti]; omega) (by rw [ti, h12]; rfl) (by decide) (law_c12 hx hb hml hown hts hK hE hA hX hbl hbA hL hM hh hap hLI hi hl hr1 hr2 kk)
  by_cases h13 : k = 13
  · exact lv_tableIn (tgt := 453) hx hb dL_law_32 (by rw [ti]; omega) (by rw [ti]; omega) (by rw [ti, h13]; rfl) (by decide) (law_c13 hx hb hml hown hts hK hE hA hX hbl hbA hL hM hh hap hLI hi hl hr1 hr2 kk)
  by_cases h14 : k = 14
  · exact lv_tableIn (tgt := 486) hx hb dL_law_32 (by rw [ti]; omega) (by rw [ti]; omega) (by rw [ti, h14]; rfl) (by decide) (law_c14 hx hb hml hown hts hK hE hA hX hbl hbA hL hM hh hap hLI hi hl hr1 hr2 kk)
  by_cases h15 : k = 15
  · exact lv_tableIn (tgt := 519) hx hb dL_law_32 (by rw [ti]; omega) (by rw [ti]; omega) (by rw [ti, h15]; rfl) (by decide) (law_c15 hx hb hml hown hts hK hE hA hX hbl hbA hL hM hh hap hLI hi hl hr1 hr2 kk)
  by_cases h16 : k = 16
  · exact lv_tableIn (tgt := 542) hx hb dL_law_32 (by rw [ti]; omega) (by rw [ti]; omega) (by rw [ti, h16]; rfl) (by decide) (law_c16 hx hb hml hown hts hK hE hA hX hbl hbA hL hM hh hap hLI hi hl hr1 hr2 kk)
  by_cases h17 : k = 17
  · exact lv_tableIn (tgt := 565) hx hb dL_law_32 (by rw [ti]; omega) (by rw [ti]; omega) (by rw [ti, h17]; rfl) (by decide) (law_c17 hx hb hml hown hts hK hE hA hX hbl hbA hL hM hh hap hLI hi hl hr1 hr2 kk)
  by_cases h18 : k = 18
  · exact lv_tableIn (tgt := 588) hx hb dL_law_32 (by rw [ti]; omega) (by rw [ti]; omega) (by rw [ti, h18]; rfl) (by decide) (law_c18 hx hb hml hown hts hK hE hA hX hbl hbA hL hM hh hap hLI hi hl hr1 hr2 kk)
  by_cases h19 : k = 19
  · exact lv_tableIn (tgt := 611) hx hb dL_law_32 (by rw [ti]; omega) (by rw [ti]; omega) (by rw [ti, h19]; rfl) (by decide) (law_c19 hx hb hml hown hts hK hE hA hX hbl hbA hL hM hh hap hLI hi hl hr1 hr2 kk)
  by_cases h20 : k = 20
  · exact lv_tableIn (tgt := 634) hx hb dL_law_32 (by rw [ti]; omega) (by rw [ti]; omega) (by rw [ti, h20]; rfl) (by decide) (law_c20 hx hb hml hown hts hK hE hA hX hbl hbA hL hM hh hap hLI hi hl hr1 hr2 kk)
  by_cases h21 : k = 21
  · exact lv_tableIn (tgt := 667) hx hb dL_law_32 (by rw [ti]; omega) (by rw [ti]; omega) (by rw [ti, h21]; rfl) (by decide) (law_c21 hx hb hml hown hts hK hE hA hX hbl hbA hL hM hh hap hLI hi hl hr1 hr2 kk)
  by_cases h22 : k = 22
  · exact lv_tableIn (tgt := 710) hx hb dL_law_32 (by rw [ti]; omega) (by rw [ti]; omega) (by rw [ti, h22]; rfl) (by decide) (law_c22 hx hb hml hown hts hK hE hA hX hbl hbA hL hM hh hap hLI hi hl hr1 hr2 kk)
  by_cases h23 : k = 23
  · exact lv_tableIn (tgt := 733) hx hb dL_law_32 (by rw [ti]; omega) (by rw [ti]; omega) (by rw [ti, h23]; rfl) (by decide) (law_c23 hx hb hml hown hts hK hE hA hX hbl hbA hL hM hh hap hLI hi hl hr1 hr2 kk)
  by_cases h24 : k = 24
  · exact lv_tableIn (tgt := 756) hx hb dL_law_32 (by rw [ti]; omega) (by rw [ti]; omega) (by rw [ti, h24]; rfl) (by decide) (law_c24 hx hb hml hown hts hK hE hA hX hbl hbA hL hM hh hap hLI hi hl hr1 hr2 kk)
  by_cases h25 : k = 25
  · exact lv_tableIn (tgt := 779) hx hb dL_law_32 (by rw [ti]; omega) (by rw [ti]; omega) (by rw [ti, h25]; rfl) (by decide) (law_c25 hx hb hml hown hts hK hE hA hX hbl hbA hL hM hh hap hLI hi hl hr1 hr2 kk)
  by_cases h26 : k = 26
  · exact lv_tableIn (tgt := 812) hx hb dL_law_32 (by rw [ti]; omega) (by rw [ti]; omega) (by rw [ti, h26]; rfl) (by decide) (law_c26 hx hb hml hown hts hK hE hA hX hbl hbA hL hM hh hap hLI hi hl hr1 hr2 kk)
  by_cases h27 : k = 27
  · exact lv_tableIn (tgt := 835) hx hb dL_law_32 (by rw [ti]; omega) (by rw [ti]; omega) (by rw [ti, h27]; rfl) (by decide) (law_c27 hx hb hml hown hts hK hE hA hX hbl hbA hL hM hh hap hLI hi hl hr1 hr2 kk)
  by_cases h28 : k = 28
  · exact lv_tableIn (tgt := 858) hx hb dL_law_32 (by rw [ti]; omega) (by rw [ti]; omega) (by rw [ti, h28]; rfl) (by decide) (law_c28 hx hb hml hown hts hK hE hA hX hbl hbA hL hM hh hap hLI hi hl hr1 hr2 kk)
  by_cases h29 : k = 29
  · exact lv_tableIn (tgt := 891) hx hb dL_law_32 (by rw [ti]; omega) (by rw [ti]; omega) (by rw [ti, h29]; rfl) (by decide) (law_c29 hx hb hml hown hts hK hE hA hX hbl hbA hL hM hh hap hLI hi hl hr1 hr2 kk)
  by_cases h30 : k = 30
  · exact lv_tableIn (tgt := 914) hx hb dL_law_32 (by rw [ti]; omega) (by rw [ti]; omega) (by rw [ti, h30]; rfl) (by decide) (law_c30 hx hb hml hown hts hK hE hA hX hbl hbA hL hM hh hap hLI hi hl hr1 hr2 kk)
  by_cases h31 : k = 31
  · exact lv_tableIn (tgt := 957) hx hb dL_law_32 (by rw [ti]; omega) (by rw [ti]; omega) (by rw [ti, h31]; rfl) (by decide) (law_c31 hx hb hml hown hts hK hE hA hX hbl hbA hL hM hh hap hLI hi hl hr1 hr2 kk)
  by_cases h32 : k = 32
  · exact lv_tableIn (tgt := 990) hx hb dL_law_32 (by rw [ti]; omega) (by rw [ti]; omega) (by rw [ti, h32]; rfl) (by decide) (law_c32 hx hb hml hown hts hK hE hA hX hbl hbA hL hM hh hap hLI hi hl hr1 hr2 kk)
  by_cases h33 : k = 33
  · exact lv_tableIn (tgt := 1033) hx hb dL_law_32 (by rw [ti]; omega) (by rw [ti]; omega) (by rw [ti, h33]; rfl) (by decide) (law_c33 hx hb hml hown hts hK hE hA hX hbl hbA hL hM hh hap hLI hi hl hr1 hr2 kk)
  exact lv_tableOut (tgt := 1056) hx hb dL_law_32 (by rw [ti]; omega) (by decide) (W.widen (k := cells + 640) (n := slots + 2000) (by omega) (by omega) (kk f h _ _ hM hh hap hLI))
