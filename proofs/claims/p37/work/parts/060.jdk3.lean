/-! THE JDK's String: made out of a builder, and its letters -/
theorem mn_nI2 {a b : Nat} (h : b ≤ a) (hb : a < 2 ^ 31) : mn (nI a) (nI b) = nI b := by
  unfold mn
  by_cases h2 : nI b < nI a
  · rw [if_pos h2]
  · rw [if_neg h2]
    have : ¬ b < a := fun z => h2 ((nI_ltI (show b < 2 ^ 31 by omega) hb).mpr z)
    rw [show a = b by omega]
section MWS
variable {p : Program} {l : Launch} {e : Env} {R : Room} {s : State} {m : MethodId} {args : Array Value} {below : List Frame} {meth : Method} {c : Code} {H : Heap} {locs : List Loc} {cells slots : Nat} {Q : State → Prop}
variable {cc : ByteArray} {pc : Nat} {ls : Array Slot} {rest : List Value} {A : Nat → Prop} {a : Nat} {H0 : Heap} {G : mG} {f : mE} {own : String} {index : Nat}
theorem mm_cloneB (hx : p.tables.exec = Jvm.exec) (hb : c.code = cc) (hml : c.maxLocals = ls.size) (hown : s.vm.findClass own = some m.cls)
    (hlink : (Cond.methodLink own index ⟨"[B", "clone", "()Ljava/lang/Object;"⟩).before args s = true) (hsame : (Cond.sameMethod "[B" "java/lang/Object" "clone" "()Ljava/lang/Object;").before args s = true)
    (hnat : (Cond.native ⟨"java/lang/Object", "clone", "()Ljava/lang/Object;"⟩).before args s = true) (hinst : (Cond.instanceMethod ⟨"java/lang/Object", "clone", "()Ljava/lang/Object;"⟩).before args s = true)
    (hsel : (Cond.selects "[B" ⟨"[B", "clone", "()Ljava/lang/Object;"⟩ ⟨"java/lang/Object", "clone", "()Ljava/lang/Object;"⟩).before args s = true) (hcl : va_Nw (.castable "[B" "java/lang/Cloneable") s)
    (hK : va_K G.1 vwCl (mT G) s) (hM : mM G A H0 f H locs) (hA : ∀ q, H0.size ≤ q → A q) {n : Nat} {g : Nat → Int32} (hf : f a = some (mB G n g)) (hfit : sb_Fit g)
    (hframes : 1 ≤ R.frames) (hrs : (rest.map fun v => v.category).sum ≤ 8) (hlocals : 22 ≤ R.locals) (hcells : cells + 1 ≤ R.cells) (hslots : slots + n ≤ R.slots) (hdg : decode cc pc = .ok (.invokevirtual index, 3))
    (kk : ∀ (q : Nat) (H1 : Heap), f q = none → mM G A H0 (va_up f q (some (mB G n g))) H1 locs → W p l e R s m args below meth c H1 locs (cells + 1) (slots + n) Q (F0 m (pc + 3) ls (.ref q :: rest))) : W p l e R s m args below meth c H locs cells slots Q (F0 m pc ls (.ref a :: rest)) := by
  obtain ⟨L, k, hL, hP, hD, ha, hk⟩ := hM.1.get hf
  refine va_clone hx hb hml hown hlink hsame hnat hinst hsel hcl hK hP hD hM.2 hA k 1 hk (ty := .byte) rfl (hK.2 1 _ rfl).2 (va_fit (fun i _ => hfit i)) hframes (by omega) hcells hslots hdg (fun q H1 _ h1 h2 h3 => kk q H1 (mD.push (G := G) hL h1 h2).2 ⟨(mD.push (G := G) hL h1 h2).1, h3⟩)
theorem mm_castB (hx : p.tables.exec = Jvm.exec) (hb : c.code = cc) (hown : s.vm.findClass own = some m.cls) (hlink : (Cond.classLink own index "[B").before args s = true)
    (hK : va_K G.1 vwCl (mT G) s) (hM : mM G A H0 f H locs) {n : Nat} {g : Nat → Int32} (hf : f a = some (mB G n g)) (hdg : decode cc pc = .ok (.checkcast index, 3))
    (kk : W p l e R s m args below meth c H locs cells slots Q (F0 m (pc + 3) ls (.ref a :: rest))) : W p l e R s m args below meth c H locs cells slots Q (F0 m pc ls (.ref a :: rest)) := by
  obtain ⟨L, k, hL, hP, hD, ha, hk⟩ := hM.1.get hf
  exact va_castA hx hb hown hlink hP k hk (hK.2 1 _ rfl).2 hdg kk
end MWS
set_option maxHeartbeats 4000000 in
set_option maxRecDepth 100000 in
theorem j5_getValue (l : Launch) (G : mG) {f : mE} {sb va ct cap : Nat} {ml : Int32} {by1 : Nat → Int32} (h_sb : f sb = some (.inr (0, [.ref va, .int (nI 0), .int ml, .int (nI ct)]))) (h_va : f va = some (mB G cap by1)) : mC l G yJ5_getValue_6d5f1 wsJ5_getValue_6d5f1 ({ frames := 0, cells := 0, slots := 0, locals := 0 } : Room) f [.ref sb] (fun v f1 => v = some (va_rf (some va)) ∧ f = f1) 0 0 := by
  refine mC.ofF (cc := cJ5_getValue_6d5f1) (maxL := 1) (ret := (some (.array .byte))) (by decide +kernel) rfl (Nat.le_of_ble_eq_true rfl) ?_
  intro pgm env s mt args below meth c A ls hx hb hml hr hlocks hown hname hts hK hE hA hM hl
  have hl : lv_has ls 1 [(0, .ref sb)] := hl
  have hF := fun w9 e (hb : f w9 = some e)  => hb
  refine lv_aload_n hx hb dJ5_getValue_6d5f1_0 rfl (lv_at hl 0 rfl) ?_
  refine mm_get (C := RJ4) (T := TJ4) (N := 4) (k := 0) hx hb hts (fun _ h => List.mem_cons_of_mem _ (List.mem_append_right _ h)) hown hK hM h_sb rfl (by decide) (hts (.fieldLink RJ5 15 "java/lang/AbstractStringBuilder" "value" "[B") (List.mem_of_getElem? (i := 1) rfl)) rfl rfl dJ5_getValue_6d5f1_1 ?_
  exact mm_aret (r := (some va)) hx hb hlocks hr (by first | exact Or.inl ⟨_, rfl⟩ | exact Or.inr ⟨_, rfl⟩) (Nat.le_of_ble_eq_true rfl) (Nat.le_of_ble_eq_true rfl) hM (⟨rfl, rfl⟩) dJ5_getValue_6d5f1_4
set_option maxHeartbeats 4000000 in
set_option maxRecDepth 100000 in
theorem j7_checkLength (l : Launch) (G : mG) (f : mE) (x y : Nat) (hxy : x ≤ y) (hy2 : y < 2 ^ 30) : mC l G yJ7_checkLength_df160 wsJ7_checkLength_df160 ({ frames := 0, cells := 0, slots := 0, locals := 0 } : Room) f [.int (nI x), .int (nI y)] (fun v f1 => v = none ∧ f = f1) 0 0 := by
  refine mC.ofF (cc := cJ7_checkLength_df160) (maxL := 2) (ret := none) (by decide +kernel) rfl (Nat.le_of_ble_eq_true rfl) ?_
  intro pgm env s mt args below meth c A ls hx hb hml hr hlocks hown hname hts hK hE hA hM hl
  have hl : lv_has ls 2 [(0, .int (nI x)), (1, .int (nI y))] := hl
  have hF := fun w9 e (hb : f w9 = some e)  => hb
  refine lv_iload_n hx hb dJ7_checkLength_df160_0 rfl (lv_at hl 1 rfl) ?_
  refine lv_iload_n hx hb dJ7_checkLength_df160_1 rfl (lv_at hl 0 rfl) ?_
  refine ln_icmp_ge y x (by omega) (by omega) (tgt := 37) hx hb dJ7_checkLength_df160_2 (by decide) (fun cz1 => ?_) (fun cz1 => ?_)
  · exact mm_vret hx hb hlocks hr (Nat.le_of_ble_eq_true rfl) (Nat.le_of_ble_eq_true rfl) hM (⟨rfl, rfl⟩) dJ7_checkLength_df160_37
  exact absurd cz1 (by omega)
set_option maxHeartbeats 4000000 in
set_option maxRecDepth 100000 in
theorem j7_cpRB (l : Launch) (G : mG) {f : mE} {va cap : Nat} {by1 : Nat → Int32} (h_va : f va = some (mB G cap by1)) (hfit : sb_Fit by1) (ct : Nat) (hct : ct ≤ cap) (hc2 : cap ≤ 65000) : mC l G yJ7_copyOfRangeByte_39247 wsJ7_copyOfRangeByte_39247 ({ frames := 1, cells := 1, slots := ct, locals := 26 } : Room) f [.ref va, .int (nI 0), .int (nI ct)] (fun v f1 => ∃ z : Nat, v = some (va_rf (some z)) ∧ f z = none ∧ f1 z = some (mB G ct (va_cpy by1 (fun _ => 0) 0 0 ct)) ∧ ∀ b e, f b = some e → f1 b = some e) 1 ct := by
  refine mC.ofF (cc := cJ7_copyOfRangeByte_39247) (maxL := 5) (ret := (some (.array .byte))) (by decide +kernel) rfl (Nat.le_of_ble_eq_true rfl) ?_
  intro pgm env s mt args below meth c A ls hx hb hml hr hlocks hown hname hts hK hE hA hM hl
  have hl : lv_has ls 5 [(0, .ref va), (1, .int (nI 0)), (2, .int (nI ct))] := hl
  have hF := fun w9 e (hb : f w9 = some e)  => hb
  refine lv_iload_n hx hb dJ7_copyOfRangeByte_39247_0 rfl (lv_at hl 1 rfl) ?_
  refine lv_iload_n hx hb dJ7_copyOfRangeByte_39247_1 rfl (lv_at hl 2 rfl) ?_
  refine mm_S (As := [.int (nI 0), .int (nI ct)]) (rest := []) ⟨hx, hb, hml, hown, hts⟩ (j7_checkLength l G _ 0 ct (by omega) (by omega)) (va_cwS 2 hts gJ7_copyOfRangeByte_39247_J7_checkLength_df160 rfl rfl rfl (by decide +kernel) ⟨(by first | exact Nat.le_of_ble_eq_true rfl | omega | (dsimp only; omega)), (by first | exact Nat.le_of_ble_eq_true rfl | omega | (dsimp only; omega))⟩) hK hE hA hM rfl hl.1 rfl (by first | exact Nat.le_of_ble_eq_true rfl | omega | (dsimp only; omega)) dJ7_copyOfRangeByte_39247_2 ⟨(by first | exact Nat.le_of_ble_eq_true rfl | omega | (dsimp only; omega)), (by first | exact Nat.le_of_ble_eq_true rfl | omega | (dsimp only; omega))⟩ (fun v f1 Hp lcs hp hM => ?_)
  obtain ⟨rfl, hf⟩ := hp; subst hf
  refine lv_iload_n hx hb dJ7_copyOfRangeByte_39247_5 rfl (lv_at hl 2 rfl) ?_
  refine lv_iload_n hx hb dJ7_copyOfRangeByte_39247_6 rfl (lv_at hl 1 rfl) ?_
  refine ln_isub ct 0 (by omega) hx hb dJ7_copyOfRangeByte_39247_7 ?_
  refine mv_top (y := (nI ct)) (congrArg nI (by omega)) ?_
  refine lv_istore_n (lv' := [(3, .int (nI ct)), (0, .ref va), (1, .int (nI 0)), (2, .int (nI ct))]) hx hb dJ7_copyOfRangeByte_39247_8 rfl hl (by decide) rfl (fun ls hl => ?_)
  refine lv_iload_n hx hb dJ7_copyOfRangeByte_39247_9 rfl (lv_at hl 0 rfl) ?_
  refine mm_newB hx hb (hts (.arrayClass .byte) (List.mem_of_getElem? (i := 1) rfl)) hK hM hA ct (nI_pos (by omega)) (nI_clamp (by omega)) (by omega) (by first | exact Nat.le_of_ble_eq_true rfl | omega | (dsimp only; omega)) (by first | exact Nat.le_of_ble_eq_true rfl | omega | (dsimp only; omega)) dJ7_copyOfRangeByte_39247_10 (fun qz1 Hp nz2 hM => ?_)
  obtain ⟨gz3, hM, hz4, rz5⟩ := hM.up
  have fo6 : f qz1 = none := fresh_of (fun e hb => hF qz1 e hb ) nz2
  have hF := fun w9 e (hb : f w9 = some e)  => (rz5 w9 (ne_none (hF w9 e hb ) nz2)).trans (hF w9 e hb )
  have ne7 := ne_none h_va nz2
  have hz8 := (rz5 _ ne7).trans h_va
  refine lv_astore (lv' := [(4, .ref qz1), (3, .int (nI ct)), (0, .ref va), (1, .int (nI 0)), (2, .int (nI ct))]) hx hb dJ7_copyOfRangeByte_39247_12 hl (by decide) rfl (fun ls hl => ?_)
  refine lv_aload_n hx hb dJ7_copyOfRangeByte_39247_14 rfl (lv_at hl 2 rfl) ?_
  refine lv_iload_n hx hb dJ7_copyOfRangeByte_39247_15 rfl (lv_at hl 3 rfl) ?_
  refine lv_aload hx hb dJ7_copyOfRangeByte_39247_16 (lv_at hl 0 rfl) ?_
  refine lv_iconst (v := (nI 0)) hx hb dJ7_copyOfRangeByte_39247_18 (by decide +kernel) ?_
  refine lv_aload_n hx hb dJ7_copyOfRangeByte_39247_19 rfl (lv_at hl 2 rfl) ?_
  refine mm_alenB hx hb hK hM hz8 dJ7_copyOfRangeByte_39247_20 ?_
  refine lv_iload_n hx hb dJ7_copyOfRangeByte_39247_21 rfl (lv_at hl 3 rfl) ?_
  refine ln_isub cap 0 (by omega) hx hb dJ7_copyOfRangeByte_39247_22 ?_
  refine mv_top (y := (nI cap)) (congrArg nI (by omega)) ?_
  refine lv_iload_n hx hb dJ7_copyOfRangeByte_39247_23 rfl (lv_at hl 1 rfl) ?_
  refine va_mmin hx hb (by rw [hml]; exact hl.1.symm) hown (hts (.methodLink RJ7 304 Lib.Math.min.name) (List.mem_of_getElem? (i := 2) rfl)) (hts (.static Lib.Math.min.name) (List.mem_of_getElem? (i := 3) rfl)) (hts (.initialized "java/lang/Math") (List.mem_of_getElem? (i := 4) rfl)) (hts (.code Lib.Math.min.name Lib.Math.min.code 2 (some .int)) (List.mem_of_getElem? (i := 5) rfl)) (by first | exact Nat.le_of_ble_eq_true rfl | omega | (dsimp only; omega)) (by first | exact Nat.le_of_ble_eq_true rfl | omega | (dsimp only; omega)) (by first | exact Nat.le_of_ble_eq_true rfl | omega | (dsimp only; omega)) (by first | exact Nat.le_of_ble_eq_true rfl | omega | (dsimp only; omega)) dJ7_copyOfRangeByte_39247_24 ?_
  refine mv_top (y := (mn (nI cap) (nI ct))) rfl ?_
  refine mv_top (y := nI ct) (mn_nI2 (by omega) (by omega)) ?_
  refine mm_copyB hx hb (by rw [hml]; exact hl.1.symm) hown (hts (.methodLink RJ7 150 arraycopyName) (List.mem_of_getElem? (i := 6) rfl)) (hts (.native arraycopyName) (List.mem_of_getElem? (i := 7) rfl)) (hts (.static arraycopyName) (List.mem_of_getElem? (i := 8) rfl)) (hts (.initialized "java/lang/System") (List.mem_of_getElem? (i := 9) rfl)) hK hM hz8 hz4 hfit 0 0 ct (by omega) (by omega) (by omega) (by omega) (by first | exact Nat.le_of_ble_eq_true rfl | omega | (dsimp only; omega)) (by first | exact Nat.le_of_ble_eq_true rfl | omega | (dsimp only; omega)) (by first | exact Nat.le_of_ble_eq_true rfl | omega | (dsimp only; omega)) dJ7_copyOfRangeByte_39247_27 (fun Hp lcs hM => ?_)
  obtain ⟨gz9, hM, hz10, rz11⟩ := hM.up
  have hz12 := (rz11 _ ne7).trans hz8
  have hF := fun w9 e (hb : f w9 = some e)  => (rz11 w9 (ne_none hb fo6)).trans (hF w9 e hb )
  refine lv_aload hx hb dJ7_copyOfRangeByte_39247_30 (lv_at hl 0 rfl) ?_
  exact mm_aret (r := (some qz1)) hx hb hlocks hr (by first | exact Or.inl ⟨_, rfl⟩ | exact Or.inr ⟨_, rfl⟩) (by first | exact Nat.le_of_ble_eq_true rfl | omega | (dsimp only; omega)) (by first | exact Nat.le_of_ble_eq_true rfl | omega | (dsimp only; omega)) hM (⟨qz1, rfl, fo6, hz10, hF⟩) dJ7_copyOfRangeByte_39247_32
set_option maxHeartbeats 4000000 in
set_option maxRecDepth 100000 in
theorem j7_cpR (l : Launch) (G : mG) {f : mE} {va cap : Nat} {by1 : Nat → Int32} (h_va : f va = some (mB G cap by1)) (hfit : sb_Fit by1) (ct : Nat) (hct : ct ≤ cap) (hc2 : cap ≤ 65000) : mC l G yJ7_copyOfRange_39247 wsJ7_copyOfRange_39247 ({ frames := 2, cells := 1, slots := ct, locals := 50 } : Room) f [.ref va, .int (nI 0), .int (nI ct)] (fun v f1 => ∃ (z : Nat) (g2 : Nat → Int32), v = some (va_rf (some z)) ∧ f z = none ∧ f1 z = some (mB G ct g2) ∧ (∀ j, j < ct → g2 j = by1 j) ∧ ∀ b e, f b = some e → f1 b = some e) 1 ct := by
  refine mC.ofF (cc := cJ7_copyOfRange_39247) (maxL := 3) (ret := (some (.array .byte))) (by decide +kernel) rfl (Nat.le_of_ble_eq_true rfl) ?_
  intro pgm env s mt args below meth c A ls hx hb hml hr hlocks hown hname hts hK hE hA hM hl
  have hl : lv_has ls 3 [(0, .ref va), (1, .int (nI 0)), (2, .int (nI ct))] := hl
  have hF := fun w9 e (hb : f w9 = some e)  => hb
  refine lv_iload_n hx hb dJ7_copyOfRange_39247_0 rfl (lv_at hl 1 rfl) ?_
  refine lv_if_ne (tgt := 10) hx hb dJ7_copyOfRange_39247_1 (by decide) (fun hq9 => absurd hq9 (by decide)) (fun _ => ?_)
  refine lv_iload_n hx hb dJ7_copyOfRange_39247_4 rfl (lv_at hl 2 rfl) ?_
  refine lv_aload_n hx hb dJ7_copyOfRange_39247_5 rfl (lv_at hl 0 rfl) ?_
  refine mm_alenB hx hb hK hM h_va dJ7_copyOfRange_39247_6 ?_
  refine ln_icmp_eq ct cap (by omega) (by omega) (tgt := 17) hx hb dJ7_copyOfRange_39247_7 (by decide) (fun cz1 => ?_) (fun cz1 => ?_)
  · refine lv_aload_n hx hb dJ7_copyOfRange_39247_17 rfl (lv_at hl 0 rfl) ?_
    refine mm_cloneB hx hb (by rw [hml]; exact hl.1.symm) hown (hts (.methodLink RJ7 310 ⟨"[B", "clone", "()Ljava/lang/Object;"⟩) (List.mem_of_getElem? (i := 1) rfl)) (hts (.sameMethod "[B" "java/lang/Object" "clone" "()Ljava/lang/Object;") (List.mem_of_getElem? (i := 2) rfl)) (hts (.native ⟨"java/lang/Object", "clone", "()Ljava/lang/Object;"⟩) (List.mem_of_getElem? (i := 3) rfl)) (hts (.instanceMethod ⟨"java/lang/Object", "clone", "()Ljava/lang/Object;"⟩) (List.mem_of_getElem? (i := 4) rfl)) (hts (.selects "[B" ⟨"[B", "clone", "()Ljava/lang/Object;"⟩ ⟨"java/lang/Object", "clone", "()Ljava/lang/Object;"⟩) (List.mem_of_getElem? (i := 5) rfl)) hE.1.2.2.2.2 hK hM hA h_va hfit (by first | exact Nat.le_of_ble_eq_true rfl | omega | (dsimp only; omega)) (by first | exact Nat.le_of_ble_eq_true rfl | omega | (dsimp only; omega)) (by first | exact Nat.le_of_ble_eq_true rfl | omega | (dsimp only; omega)) (by first | exact Nat.le_of_ble_eq_true rfl | omega | (dsimp only; omega)) (by first | exact Nat.le_of_ble_eq_true rfl | omega | (dsimp only; omega)) dJ7_copyOfRange_39247_18 (fun qz2 Hp nz3 hM => ?_)
    obtain ⟨gz4, hM, hz5, rz6⟩ := hM.up
    have fo7 : f qz2 = none := fresh_of (fun e hb => hF qz2 e hb ) nz3
    have hF := fun w9 e (hb : f w9 = some e)  => (rz6 w9 (ne_none (hF w9 e hb ) nz3)).trans (hF w9 e hb )
    have ne8 := ne_none h_va nz3
    have hz9 := (rz6 _ ne8).trans h_va
    refine mm_castB hx hb hown (hts (.classLink RJ7 311 "[B") (List.mem_of_getElem? (i := 6) rfl)) hK hM hz5 dJ7_copyOfRange_39247_21 ?_
    exact mm_aret (r := (some qz2)) hx hb hlocks hr (by first | exact Or.inl ⟨_, rfl⟩ | exact Or.inr ⟨_, rfl⟩) (by first | exact Nat.le_of_ble_eq_true rfl | omega | (dsimp only; omega)) (by first | exact Nat.le_of_ble_eq_true rfl | omega | (dsimp only; omega)) hM (⟨qz2, by1, rfl, fo7, by rw [cz1]; exact hz5, fun _ _ => rfl, hF⟩) dJ7_copyOfRange_39247_24
  refine lv_aload_n hx hb dJ7_copyOfRange_39247_10 rfl (lv_at hl 0 rfl) ?_
  refine lv_iload_n hx hb dJ7_copyOfRange_39247_11 rfl (lv_at hl 1 rfl) ?_
  refine lv_iload_n hx hb dJ7_copyOfRange_39247_12 rfl (lv_at hl 2 rfl) ?_
  refine mm_S (As := [.ref va, .int (nI 0), .int (nI ct)]) (rest := []) ⟨hx, hb, hml, hown, hts⟩ (j7_cpRB l G h_va hfit ct (by omega) (by omega)) (va_cwS 3 hts gJ7_copyOfRange_39247_J7_copyOfRangeByte_39247 rfl rfl rfl (by decide +kernel) ⟨(by first | exact Nat.le_of_ble_eq_true rfl | omega | (dsimp only; omega)), (by first | exact Nat.le_of_ble_eq_true rfl | omega | (dsimp only; omega))⟩) hK hE hA hM rfl hl.1 rfl (by first | exact Nat.le_of_ble_eq_true rfl | omega | (dsimp only; omega)) dJ7_copyOfRange_39247_13 ⟨(by first | exact Nat.le_of_ble_eq_true rfl | omega | (dsimp only; omega)), (by first | exact Nat.le_of_ble_eq_true rfl | omega | (dsimp only; omega))⟩ (fun v gz10 Hp lcs hp hM => ?_)
  obtain ⟨qz11, rfl, nz12, hz13, rz14⟩ := hp
  have fo15 : f qz11 = none := fresh_of (fun e hb => hF qz11 e hb ) nz12
  have ne16 := ne_none h_va nz12
  have hz17 := rz14 _ _ h_va
  have hF := fun w9 e (hb : f w9 = some e)  => rz14 w9 e (hF w9 e hb )
  refine mv_val (y := .ref qz11) rfl ?_
  exact mm_aret (r := (some qz11)) hx hb hlocks hr (by first | exact Or.inl ⟨_, rfl⟩ | exact Or.inr ⟨_, rfl⟩) (by first | exact Nat.le_of_ble_eq_true rfl | omega | (dsimp only; omega)) (by first | exact Nat.le_of_ble_eq_true rfl | omega | (dsimp only; omega)) hM (⟨qz11, _, rfl, fo15, hz13, fun j hj => sb_cpy0 hj, hF⟩) dJ7_copyOfRange_39247_16
set_option maxHeartbeats 4000000 in
set_option maxRecDepth 100000 in
theorem j0_initB (l : Launch) (G : mG) {f : mE} {x sb va ct cap : Nat} {ml : Int32} {by1 : Nat → Int32} (h_x : f x = some (.inr (8, [.null, .int 0, .int 0, .int 0]))) (h_sb : f sb = some (.inr (0, [.ref va, .int (nI 0), .int ml, .int (nI ct)]))) (h_va : f va = some (mB G cap by1)) (hfit : sb_Fit by1) (hct : ct ≤ cap) (hc2 : cap ≤ 32000) : mC l G yJ0_init_db425 wsJ0_init_db425 ({ frames := 3, cells := 1, slots := ct, locals := 72 } : Room) f [.ref x, .ref sb, .null] (fun v f1 => v = none ∧ ∃ (z : Nat) (g2 : Nat → Int32), f z = none ∧ f1 x = some (.inr (8, [.ref z, .int (nI 0), .int 0, .int 0])) ∧ f1 z = some (mB G ct g2) ∧ (∀ j, j < ct → g2 j = by1 j) ∧ ∀ b e, f b = some e → b ≠ x → f1 b = some e) 1 ct := by
  refine mC.ofF (cc := cJ0_init_db425) (maxL := 5) (ret := none) (by decide +kernel) rfl (Nat.le_of_ble_eq_true rfl) ?_
  intro pgm env s mt args below meth c A ls hx hb hml hr hlocks hown hname hts hK hE hA hM hl
  have hl : lv_has ls 5 [(0, .ref x), (1, .ref sb), (2, .null)] := hl
  have hF := fun w9 e (hb : f w9 = some e) (_ : w9 ≠ x) => hb
  refine lv_aload_n hx hb dJ0_init_db425_0 rfl (lv_at hl 0 rfl) ?_
  refine W.objInit hx hb hown (hts (.methodLink RJ0 1 objectInit) (List.mem_of_getElem? (i := 1) rfl)) (hts (.instanceMethod objectInit) (List.mem_of_getElem? (i := 2) rfl)) (hts _ (List.mem_of_getElem? (i := 3) rfl)) rfl (by rw [hml]; exact hl.1) rfl dJ0_init_db425_1 (by first | exact Nat.le_of_ble_eq_true rfl | omega | (dsimp only; omega)) (by first | exact Nat.le_of_ble_eq_true rfl | omega | (dsimp only; omega)) ?_
  refine W.eq (g2 := F0 mt 4 ls []) rfl ?_
  refine lv_aload_n hx hb dJ0_init_db425_4 rfl (lv_at hl 1 rfl) ?_
  refine mm_U (As := []) (rest := []) ⟨hx, hb, hml, hown, hts⟩ (j5_getValue l G h_sb h_va) (va_cwU 0 hts gJ0_init_db425_J5_getValue_6d5f1_u552J4 rfl rfl rfl rfl (by decide +kernel) ⟨(by first | exact Nat.le_of_ble_eq_true rfl | omega | (dsimp only; omega)), (by first | exact Nat.le_of_ble_eq_true rfl | omega | (dsimp only; omega))⟩) hK hE hA hM (mm_recv hK hM h_sb (q := (RJ4, TJ4, 4)) rfl) rfl hl.1 rfl (by first | exact Nat.le_of_ble_eq_true rfl | omega | (dsimp only; omega)) dJ0_init_db425_5 ⟨(by first | exact Nat.le_of_ble_eq_true rfl | omega | (dsimp only; omega)), (by first | exact Nat.le_of_ble_eq_true rfl | omega | (dsimp only; omega))⟩ (fun v f1 Hp lcs hp hM => ?_)
  obtain ⟨rfl, hf⟩ := hp; subst hf
  refine mv_val (y := .ref va) rfl ?_
  refine lv_astore_n (lv' := [(3, .ref va), (0, .ref x), (1, .ref sb), (2, .null)]) hx hb dJ0_init_db425_8 rfl hl (by decide) rfl (fun ls hl => ?_)
  refine lv_aload_n hx hb dJ0_init_db425_9 rfl (lv_at hl 2 rfl) ?_
  refine mm_U (As := []) (rest := []) ⟨hx, hb, hml, hown, hts⟩ (j4_length l G h_sb h_va) (va_cwO 0 hts gJ0_init_db425_J4_length_8abf5_u549J4 rfl rfl rfl (b0 := cJ5_length_8abf5) (m0 := 1) (r0 := (some .int)) (List.mem_of_getElem? (i := 25) rfl) (by decide +kernel) ⟨(by first | exact Nat.le_of_ble_eq_true rfl | omega | (dsimp only; omega)), (by first | exact Nat.le_of_ble_eq_true rfl | omega | (dsimp only; omega))⟩) hK hE hA hM (mm_recv hK hM h_sb (q := (RJ4, TJ4, 4)) rfl) rfl hl.1 rfl (by first | exact Nat.le_of_ble_eq_true rfl | omega | (dsimp only; omega)) dJ0_init_db425_10 ⟨(by first | exact Nat.le_of_ble_eq_true rfl | omega | (dsimp only; omega)), (by first | exact Nat.le_of_ble_eq_true rfl | omega | (dsimp only; omega))⟩ (fun v f1 Hp lcs hp hM => ?_)
  obtain ⟨rfl, hf⟩ := hp; subst hf
  refine lv_istore (lv' := [(4, .int (nI ct)), (3, .ref va), (0, .ref x), (1, .ref sb), (2, .null)]) hx hb dJ0_init_db425_13 hl (by decide) rfl (fun ls hl => ?_)
  refine lv_aload_n hx hb dJ0_init_db425_15 rfl (lv_at hl 3 rfl) ?_
  refine mm_U (As := []) (rest := []) ⟨hx, hb, hml, hown, hts⟩ (j5_isLatin1 l G h_sb h_va) (va_cwU 0 hts gJ0_init_db425_J5_isLatin1_aae02_u1047J4 rfl rfl rfl rfl (by decide +kernel) ⟨(by first | exact Nat.le_of_ble_eq_true rfl | omega | (dsimp only; omega)), (by first | exact Nat.le_of_ble_eq_true rfl | omega | (dsimp only; omega))⟩) hK hE hA hM (mm_recv hK hM h_sb (q := (RJ4, TJ4, 4)) rfl) rfl hl.1 rfl (by first | exact Nat.le_of_ble_eq_true rfl | omega | (dsimp only; omega)) dJ0_init_db425_16 ⟨(by first | exact Nat.le_of_ble_eq_true rfl | omega | (dsimp only; omega)), (by first | exact Nat.le_of_ble_eq_true rfl | omega | (dsimp only; omega))⟩ (fun v f1 Hp lcs hp hM => ?_)
  obtain ⟨rfl, hf⟩ := hp; subst hf
  refine lv_if_eq (tgt := 41) hx hb dJ0_init_db425_19 (by decide) (fun hq9 => absurd hq9 (by decide)) (fun _ => ?_)
  refine lv_aload_n hx hb dJ0_init_db425_22 rfl (lv_at hl 2 rfl) ?_
  refine lv_iconst (v := (nI 0)) hx hb dJ0_init_db425_23 (by decide +kernel) ?_
  refine mm_putF (C := RJ0) (T := TJ0) (N := 4) (k := 1) hx hb hts (fun _ h => List.mem_cons_of_mem _ (List.mem_append_left _ (List.mem_append_right _ h))) tyJ0 tyJ0_ok nmJ0 hown hK hM h_x rfl (by decide) (hts (.fieldLink RJ0 15 "java/lang/String" "coder" "B") (List.mem_of_getElem? (i := 4) rfl)) rfl rfl hname rfl rfl rfl (by first | exact Nat.le_of_ble_eq_true rfl | omega | (dsimp only; omega)) dJ0_init_db425_24 (fun Hp lcs hM => ?_)
  obtain ⟨gz1, hM, hz2, rz3⟩ := hM.up
  have hz4 := (rz3 _ (ne_oo h_sb h_x (by show (0 : Nat) ≠ 8; decide))).trans h_sb
  have hz5 := (rz3 _ (ne_oi h_x h_va).symm).trans h_va
  have hF := fun w9 e (hb : f w9 = some e) (hn0 : w9 ≠ x) => (rz3 w9 hn0).trans (hF w9 e hb hn0)
  refine lv_aload_n hx hb dJ0_init_db425_27 rfl (lv_at hl 2 rfl) ?_
  refine lv_aload_n hx hb dJ0_init_db425_28 rfl (lv_at hl 1 rfl) ?_
  refine lv_iconst (v := (nI 0)) hx hb dJ0_init_db425_29 (by decide +kernel) ?_
  refine lv_iload hx hb dJ0_init_db425_30 (lv_at hl 0 rfl) ?_
  refine mm_S (As := [.ref va, .int (nI 0), .int (nI ct)]) (rest := [.ref x]) ⟨hx, hb, hml, hown, hts⟩ (j7_cpR l G hz5 hfit ct (by omega) (by omega)) (va_cwS 3 hts gJ0_init_db425_J7_copyOfRange_39247 rfl rfl rfl (by decide +kernel) ⟨(by first | exact Nat.le_of_ble_eq_true rfl | omega | (dsimp only; omega)), (by first | exact Nat.le_of_ble_eq_true rfl | omega | (dsimp only; omega))⟩) hK hE hA hM rfl hl.1 rfl (by first | exact Nat.le_of_ble_eq_true rfl | omega | (dsimp only; omega)) dJ0_init_db425_32 ⟨(by first | exact Nat.le_of_ble_eq_true rfl | omega | (dsimp only; omega)), (by first | exact Nat.le_of_ble_eq_true rfl | omega | (dsimp only; omega))⟩ (fun v gz6 Hp lcs hp hM => ?_)
  obtain ⟨qz7, gg11, rfl, nz8, hz9, hg12, rz10⟩ := hp
  have fo13 : f qz7 = none := fresh_of (fun e hb => hF qz7 e hb (ne_none hz2 nz8).symm) nz8
  have ne14 := ne_none hz4 nz8
  have ne15 := ne_none hz5 nz8
  have ne16 := ne_none hz2 nz8
  have hz17 := rz10 _ _ hz4
  have hz18 := rz10 _ _ hz5
  have hz19 := rz10 _ _ hz2
  have hF := fun w9 e (hb : f w9 = some e) (hn0 : w9 ≠ x) => rz10 w9 e (hF w9 e hb hn0)
  refine mv_val (y := .ref qz7) rfl ?_
  refine mm_putF (C := RJ0) (T := TJ0) (N := 4) (k := 0) hx hb hts (fun _ h => List.mem_cons_of_mem _ (List.mem_append_left _ (List.mem_append_right _ h))) tyJ0 tyJ0_ok nmJ0 hown hK hM hz19 rfl (by decide) (hts (.fieldLink RJ0 9 "java/lang/String" "value" "[B") (List.mem_of_getElem? (i := 5) rfl)) rfl rfl hname rfl rfl rfl (by first | exact Nat.le_of_ble_eq_true rfl | omega | (dsimp only; omega)) dJ0_init_db425_35 (fun Hp lcs hM => ?_)
  obtain ⟨gz20, hM, hz21, rz22⟩ := hM.up
  have hz23 := (rz22 _ (ne_oo hz17 hz19 (by show (0 : Nat) ≠ 8; decide))).trans hz17
  have hz24 := (rz22 _ (ne_oi hz19 hz18).symm).trans hz18
  have hz25 := (rz22 _ (Ne.symm ne16)).trans hz9
  have hF := fun w9 e (hb : f w9 = some e) (hn0 : w9 ≠ x) => (rz22 w9 hn0).trans (hF w9 e hb hn0)
  refine lv_goto (tgt := 97) hx hb dJ0_init_db425_38 (by decide) ?_
  exact mm_vret hx hb hlocks hr (by first | exact Nat.le_of_ble_eq_true rfl | omega | (dsimp only; omega)) (by first | exact Nat.le_of_ble_eq_true rfl | omega | (dsimp only; omega)) hM (⟨rfl, qz7, _, fo13, hz21, hz25, hg12, hF⟩) dJ0_init_db425_97
set_option maxHeartbeats 4000000 in
set_option maxRecDepth 100000 in
theorem j0_initS (l : Launch) (G : mG) {f : mE} {x sb va ct cap : Nat} {ml : Int32} {by1 : Nat → Int32} (h_x : f x = some (.inr (8, [.null, .int 0, .int 0, .int 0]))) (h_sb : f sb = some (.inr (0, [.ref va, .int (nI 0), .int ml, .int (nI ct)]))) (h_va : f va = some (mB G cap by1)) (hfit : sb_Fit by1) (hct : ct ≤ cap) (hc2 : cap ≤ 32000) : mC l G yJ0_init_81219 wsJ0_init_81219 ({ frames := 4, cells := 1, slots := ct, locals := 96 } : Room) f [.ref x, .ref sb] (fun v f1 => v = none ∧ ∃ (z : Nat) (g2 : Nat → Int32), f z = none ∧ f1 x = some (.inr (8, [.ref z, .int (nI 0), .int 0, .int 0])) ∧ f1 z = some (mB G ct g2) ∧ (∀ j, j < ct → g2 j = by1 j) ∧ ∀ b e, f b = some e → b ≠ x → f1 b = some e) 1 ct := by
  refine mC.ofF (cc := cJ0_init_81219) (maxL := 2) (ret := none) (by decide +kernel) rfl (Nat.le_of_ble_eq_true rfl) ?_
  intro pgm env s mt args below meth c A ls hx hb hml hr hlocks hown hname hts hK hE hA hM hl
  have hl : lv_has ls 2 [(0, .ref x), (1, .ref sb)] := hl
  have hF := fun w9 e (hb : f w9 = some e) (_ : w9 ≠ x) => hb
  refine lv_aload_n hx hb dJ0_init_81219_0 rfl (lv_at hl 0 rfl) ?_
  refine lv_aload_n hx hb dJ0_init_81219_1 rfl (lv_at hl 1 rfl) ?_
  refine lv_null hx hb dJ0_init_81219_2 ?_
  refine mm_I (As := [.ref sb, .null]) (rest := []) ⟨hx, hb, hml, hown, hts⟩ (j0_initB l G h_x h_sb h_va hfit hct hc2) (cwI 2 hts gJ0_init_81219_J0_init_db425 rfl rfl rfl (hts (.initialized RJ0) (List.mem_of_getElem? (i := 3) rfl)) (hts (.methodLink RJ0 489 yJ0_init_db425) (List.mem_of_getElem? (i := 1) rfl)) (hts (.instanceMethod yJ0_init_db425) (List.mem_of_getElem? (i := 2) rfl)) rfl (by decide +kernel) ⟨(by first | exact Nat.le_of_ble_eq_true rfl | omega | (dsimp only; omega)), (by first | exact Nat.le_of_ble_eq_true rfl | omega | (dsimp only; omega))⟩) hK hE hA hM rfl hl.1 rfl (by first | exact Nat.le_of_ble_eq_true rfl | omega | (dsimp only; omega)) dJ0_init_81219_3 ⟨(by first | exact Nat.le_of_ble_eq_true rfl | omega | (dsimp only; omega)), (by first | exact Nat.le_of_ble_eq_true rfl | omega | (dsimp only; omega))⟩ (fun v gz1 Hp lcs hp hM => ?_)
  obtain ⟨rfl, qz2, gg7, nz3, hz4, hz5, hg8, rz6⟩ := hp
  have fo9 : f qz2 = none := fresh_of (fun e hb => hF qz2 e hb (ne_none h_x nz3).symm) nz3
  have ne10 := ne_none h_x nz3
  have ne11 := ne_none h_sb nz3
  have ne12 := ne_none h_va nz3
  have hz13 := rz6 _ _ h_sb (ne_oo h_sb h_x (by show (0 : Nat) ≠ 8; decide))
  have hz14 := rz6 _ _ h_va (ne_oi h_x h_va).symm
  have hF := fun w9 e (hb : f w9 = some e) (hn0 : w9 ≠ x) => rz6 w9 e (hF w9 e hb hn0) hn0
  exact mm_vret hx hb hlocks hr (by first | exact Nat.le_of_ble_eq_true rfl | omega | (dsimp only; omega)) (by first | exact Nat.le_of_ble_eq_true rfl | omega | (dsimp only; omega)) hM (⟨rfl, qz2, _, fo9, hz4, hz5, hg8, hF⟩) dJ0_init_81219_6
set_option maxHeartbeats 4000000 in
set_option maxRecDepth 100000 in
theorem j4_toString (l : Launch) (G : mG) {f : mE} {sb va ct cap : Nat} {ml : Int32} {by1 : Nat → Int32} (h_sb : f sb = some (.inr (0, [.ref va, .int (nI 0), .int ml, .int (nI ct)]))) (h_va : f va = some (mB G cap by1)) (hfit : sb_Fit by1) (hct : ct ≤ cap) (hc2 : cap ≤ 32000) : mC l G yJ4_toString_0e30d wsJ4_toString_0e30d ({ frames := 5, cells := 2, slots := (4 + ct), locals := 117 } : Room) f [.ref sb] (fun v f1 => ∃ (x z : Nat) (g2 : Nat → Int32), v = some (va_rf (some x)) ∧ f x = none ∧ f z = none ∧ f1 x = some (.inr (8, [.ref z, .int (nI 0), .int 0, .int 0])) ∧ f1 z = some (mB G ct g2) ∧ (∀ j, j < ct → g2 j = by1 j) ∧ ∀ b e, f b = some e → f1 b = some e) 2 (4 + ct) := by
  refine mC.ofF (cc := cJ4_toString_0e30d) (maxL := 1) (ret := (some (.object "java/lang/String"))) (by decide +kernel) rfl (Nat.le_of_ble_eq_true rfl) ?_
  intro pgm env s mt args below meth c A ls hx hb hml hr hlocks hown hname hts hK hE hA hM hl
  have hl : lv_has ls 1 [(0, .ref sb)] := hl
  have hF := fun w9 e (hb : f w9 = some e)  => hb
  refine mm_new (C := RJ0) (T := TJ0) (N := 4) (ci := 8) hx hb hts (fun _ h => List.mem_cons_of_mem _ (List.mem_append_left _ (List.mem_append_right _ h))) tyJ0_ok hown (hts (.classLink RJ4 18 RJ0) (List.mem_of_getElem? (i := 1) rfl)) (hts (.instantiable RJ0 4) (List.mem_of_getElem? (i := 2) rfl)) (hts (.initialized RJ0) (List.mem_of_getElem? (i := 3) rfl)) hK hM hA rfl [.null, .int 0, .int 0, .int 0] (by decide) (by first | exact Nat.le_of_ble_eq_true rfl | omega | (dsimp only; omega)) (by first | exact Nat.le_of_ble_eq_true rfl | omega | (dsimp only; omega)) dJ4_toString_0e30d_0 (fun qz1 Hp nz2 hM => ?_)
  obtain ⟨gz3, hM, hz4, rz5⟩ := hM.up
  have fo6 : f qz1 = none := fresh_of (fun e hb => hF qz1 e hb ) nz2
  have hF := fun w9 e (hb : f w9 = some e)  => (rz5 w9 (ne_none (hF w9 e hb ) nz2)).trans (hF w9 e hb )
  have ne7 := ne_none h_sb nz2
  have hz8 := (rz5 _ ne7).trans h_sb
  have ne9 := ne_none h_va nz2
  have hz10 := (rz5 _ ne9).trans h_va
  refine lv_dup hx hb dJ4_toString_0e30d_3 rfl ?_
  refine lv_aload_n hx hb dJ4_toString_0e30d_4 rfl (lv_at hl 0 rfl) ?_
  refine mm_I (As := [.ref sb]) (rest := [.ref qz1]) ⟨hx, hb, hml, hown, hts⟩ (j0_initS l G hz4 hz8 hz10 hfit hct hc2) (cwI 1 hts gJ4_toString_0e30d_J0_init_81219 rfl rfl rfl (hts (.initialized RJ0) (List.mem_of_getElem? (i := 3) rfl)) (hts (.methodLink RJ4 137 yJ0_init_81219) (List.mem_of_getElem? (i := 4) rfl)) (hts (.instanceMethod yJ0_init_81219) (List.mem_of_getElem? (i := 5) rfl)) rfl (by decide +kernel) ⟨(by first | exact Nat.le_of_ble_eq_true rfl | omega | (dsimp only; omega)), (by first | exact Nat.le_of_ble_eq_true rfl | omega | (dsimp only; omega))⟩) hK hE hA hM rfl hl.1 rfl (by first | exact Nat.le_of_ble_eq_true rfl | omega | (dsimp only; omega)) dJ4_toString_0e30d_5 ⟨(by first | exact Nat.le_of_ble_eq_true rfl | omega | (dsimp only; omega)), (by first | exact Nat.le_of_ble_eq_true rfl | omega | (dsimp only; omega))⟩ (fun v gz11 Hp lcs hp hM => ?_)
  obtain ⟨rfl, qz12, gg17, nz13, hz14, hz15, hg18, rz16⟩ := hp
  have fo19 : f qz12 = none := fresh_of (fun e hb => hF qz12 e hb ) nz13
  have ne20 := ne_none hz8 nz13
  have ne21 := ne_none hz10 nz13
  have ne22 := ne_none hz4 nz13
  have hz23 := rz16 _ _ hz8 ne7
  have hz24 := rz16 _ _ hz10 ne9
  have hF := fun w9 e (hb : f w9 = some e)  => rz16 w9 e (hF w9 e hb ) (ne_none hb fo6)
  exact mm_aret (r := (some qz1)) hx hb hlocks hr (by first | exact Or.inl ⟨_, rfl⟩ | exact Or.inr ⟨_, rfl⟩) (by first | exact Nat.le_of_ble_eq_true rfl | omega | (dsimp only; omega)) (by first | exact Nat.le_of_ble_eq_true rfl | omega | (dsimp only; omega)) hM (⟨qz1, qz12, _, rfl, fo6, fo19, hz14, hz15, hg18, hF⟩) dJ4_toString_0e30d_8
set_option maxHeartbeats 4000000 in
set_option maxRecDepth 100000 in
theorem s0_coder (l : Launch) (G : mG) {f : mE} {x z n : Nat} {g : Nat → Int32} (h_x : f x = some (.inr (8, [.ref z, .int (nI 0), .int 0, .int 0]))) (h_z : f z = some (mB G n g)) : mC l G yJ0_coder_7d493 wsJ0_coder_7d493 ({ frames := 0, cells := 0, slots := 0, locals := 0 } : Room) f [.ref x] (fun v f1 => v = some (.int (nI 0)) ∧ f = f1) 0 0 := by
  refine mC.ofF (cc := cJ0_coder_7d493) (maxL := 1) (ret := (some .byte)) (by decide +kernel) rfl (Nat.le_of_ble_eq_true rfl) ?_
  intro pgm env s mt args below meth c A ls hx hb hml hr hlocks hown hname hts hK hE hA hM hl
  have hl : lv_has ls 1 [(0, .ref x)] := hl
  have hF := fun w9 e (hb : f w9 = some e)  => hb
  refine va_gets hx hb hE.2.2.1 hM.2 hown (hts (.fieldLink RJ0 38 "java/lang/String" "COMPACT_STRINGS" "Z") (List.mem_of_getElem? (i := 1) rfl)) (fun _ h => h) dJ0_coder_7d493_0 ?_
  refine lv_if_eq (tgt := 13) hx hb dJ0_coder_7d493_3 (by decide) (fun hq9 => absurd hq9 (by decide)) (fun _ => ?_)
  refine lv_aload_n hx hb dJ0_coder_7d493_6 rfl (lv_at hl 0 rfl) ?_
  refine mm_get (C := RJ0) (T := TJ0) (N := 4) (k := 1) hx hb hts (fun _ h => List.mem_cons_of_mem _ (List.mem_append_right _ h)) hown hK hM h_x rfl (by decide) (hts (.fieldLink RJ0 15 "java/lang/String" "coder" "B") (List.mem_of_getElem? (i := 2) rfl)) rfl rfl dJ0_coder_7d493_7 ?_
  refine lv_goto (tgt := 14) hx hb dJ0_coder_7d493_10 (by decide) ?_
  exact mm_zret hx hb hlocks hr (by first | rfl | exact bI_nar _ | exact nar_c _ (by assumption) | exact nar_x hch) (Nat.le_of_ble_eq_true rfl) (Nat.le_of_ble_eq_true rfl) hM (⟨rfl, rfl⟩) dJ0_coder_7d493_14
set_option maxHeartbeats 4000000 in
set_option maxRecDepth 100000 in
theorem s0_length (l : Launch) (G : mG) {f : mE} {x z n : Nat} {g : Nat → Int32} (h_x : f x = some (.inr (8, [.ref z, .int (nI 0), .int 0, .int 0]))) (h_z : f z = some (mB G n g)) : mC l G yJ0_length_8abf5 wsJ0_length_8abf5 ({ frames := 1, cells := 0, slots := 0, locals := 20 } : Room) f [.ref x] (fun v f1 => v = some (.int (nI n)) ∧ f = f1) 0 0 := by
  refine mC.ofF (cc := cJ0_length_8abf5) (maxL := 1) (ret := (some .int)) (by decide +kernel) rfl (Nat.le_of_ble_eq_true rfl) ?_
  intro pgm env s mt args below meth c A ls hx hb hml hr hlocks hown hname hts hK hE hA hM hl
  have hl : lv_has ls 1 [(0, .ref x)] := hl
  have hF := fun w9 e (hb : f w9 = some e)  => hb
  refine lv_aload_n hx hb dJ0_length_8abf5_0 rfl (lv_at hl 0 rfl) ?_
  refine mm_get (C := RJ0) (T := TJ0) (N := 4) (k := 0) hx hb hts (fun _ h => List.mem_cons_of_mem _ (List.mem_append_right _ h)) hown hK hM h_x rfl (by decide) (hts (.fieldLink RJ0 9 "java/lang/String" "value" "[B") (List.mem_of_getElem? (i := 1) rfl)) rfl rfl dJ0_length_8abf5_1 ?_
  refine mm_alenB hx hb hK hM h_z dJ0_length_8abf5_4 ?_
  refine lv_aload_n hx hb dJ0_length_8abf5_5 rfl (lv_at hl 0 rfl) ?_
  refine mm_V (As := []) (rest := [.int (nI n)]) ⟨hx, hb, hml, hown, hts⟩ (s0_coder l G h_x h_z) (cwV 0 hts gJ0_length_8abf5_J0_coder_7d493 rfl rfl rfl (by decide +kernel) ⟨Nat.le_of_ble_eq_true rfl, Nat.le_of_ble_eq_true rfl⟩) hK hE hA hM (mm_recv hK hM h_x (q := (RJ0, TJ0, 4)) rfl) rfl hl.1 rfl (Nat.le_of_ble_eq_true rfl) dJ0_length_8abf5_6 ⟨Nat.le_of_ble_eq_true rfl, Nat.le_of_ble_eq_true rfl⟩ (fun v f1 Hp lcs hp hM => ?_)
  obtain ⟨rfl, hf⟩ := hp; subst hf
  refine lv_ishr hx hb dJ0_length_8abf5_9 ?_
  refine mv_top (y := nI n) (sb_shr0 _) ?_
  exact mm_iret hx hb hlocks hr (Nat.le_of_ble_eq_true rfl) (Nat.le_of_ble_eq_true rfl) hM (⟨rfl, rfl⟩) dJ0_length_8abf5_10
