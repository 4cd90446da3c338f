/-! THE LAW's own methods: numbers, contradictions, regions -/
theorem ctdL_at {S : Nat → Int32} {n i v : Nat} (hn : n ≤ 16) (h : (ctdL S n)[i]? = some v) : ∃ x y, x < y ∧ y < n ∧ ctdB S n x y = true ∧ v = 100 * x + y := by
  obtain ⟨x, y, -, -, h3, h4, h5, h6⟩ := cO_mem (List.mem_of_getElem? h)
  exact ⟨x, y, h3, h4, h5, h6⟩
theorem ctdL_mem {S : Nat → Int32} {n i v : Nat} (hn : n ≤ 16) (h : (ctdL S n)[i]? = some v) : v < 2000 := by
  obtain ⟨x, y, h1, h2, -, h4⟩ := ctdL_at hn h
  omega
theorem neg1_lt {v : Nat} (h : v < 2 ^ 31) : (-1 : Int32) < nI v := by
  rw [Int32.lt_iff_toInt_lt, nI_toInt h]
  have : (-1 : Int32).toInt = -1 := by decide
  omega
set_option maxHeartbeats 4000000 in
set_option maxRecDepth 100000 in
theorem l_low (l : Launch) (G : mG) (f : mE) (v : Int32) (n : Nat) (h0 : 0 < n) (hn : n < 2 ^ 16) : mC l G yL_low wsL_low ({ frames := 0, cells := 0, slots := 0, locals := 0 } : Room) f [.int v, .int (nI n)] (fun x f1 => x = some (.int (nI (lowN v n))) ∧ f = f1) 0 0 := by
  refine mC.of (cc := cL_low) (maxL := 2) (ret := (some .int)) (by decide) rfl (Nat.le_of_ble_eq_true rfl) ?_
  intro pgm env s mt args below meth c A ls hx hb hml hr hlocks hown hname hts hK hE hA hM hl
  have hl : lv_has ls 2 [(0, .int v), (1, .int (nI n))] := hl
  have hlw := lwN_lt v
  refine lv_iload_n hx hb dL_low_0 rfl (lv_at hl 0 rfl) ?_
  refine lv_ldc (v := (nI 2147483647)) hx hb hown (hts (.constant RL 8 (2147483647)) (List.mem_of_getElem? (i := 1) rfl)) dL_low_1 ?_
  refine lv_iand hx hb dL_low_3 ?_
  refine mv_top (y := (nI (lwN v))) (and31 v) ?_
  refine lv_iload_n hx hb dL_low_4 rfl (lv_at hl 1 rfl) ?_
  refine ln_irem (lwN v) n (by omega) (by omega) (by omega) hx hb dL_low_5 ?_
  exact mm_iret hx hb hlocks hr (Nat.le_of_ble_eq_true rfl) (Nat.le_of_ble_eq_true rfl) hM (⟨rfl, rfl⟩) dL_low_6
set_option maxHeartbeats 4000000 in
set_option maxRecDepth 100000 in
theorem l_value (l : Launch) (G : mG) (f : mE) (j : Nat) (hj : j < 7) (v : Int32) : mC l G yL_value wsL_value ({ frames := 1, cells := 0, slots := 0, locals := 21 } : Room) f [.int (nI j), .int v] (fun x f1 => x = some (.int (valV j v)) ∧ f = f1) 0 0 := by
  refine mC.of (cc := cL_value) (maxL := 2) (ret := (some .int)) (by decide) rfl (Nat.le_of_ble_eq_true rfl) ?_
  intro pgm env s mt args below meth c A ls hx hb hml hr hlocks hown hname hts hK hE hA hM hl
  have hl : lv_has ls 2 [(0, .int (nI j)), (1, .int v)] := hl
  refine lv_iload_n hx hb dL_value_0 rfl (lv_at hl 0 rfl) ?_
  refine lv_iconst (v := (nI 4)) hx hb dL_value_1 (by decide +kernel) ?_
  refine ln_icmp_ge j 4 (by omega) (by omega) (tgt := 17) hx hb dL_value_2 (by decide) (fun cz1 => ?_) (fun cz1 => ?_)
  · refine lv_ldc (v := (nI 36500)) hx hb hown (hts (.constant RL 15 (36500)) (List.mem_of_getElem? (i := 1) rfl)) dL_value_17 ?_
    refine lv_iload_n hx hb dL_value_19 rfl (lv_at hl 1 rfl) ?_
    refine lv_bipush (v := (nI 40)) hx hb dL_value_20 (by decide +kernel) ?_
    refine mm_S (As := [.int v, .int (nI 40)]) (rest := [.int (nI 36500)]) ⟨hx, hb, hml, hown, hts⟩ (l_low l G f v 40 (by decide) (by decide)) (va_cwS 2 hts gL_value_L_low rfl rfl rfl (by decide +kernel) ⟨Nat.le_of_ble_eq_true rfl, Nat.le_of_ble_eq_true rfl⟩) hK hE hA hM rfl hl.1 rfl (Nat.le_of_ble_eq_true rfl) dL_value_22 ⟨Nat.le_of_ble_eq_true rfl, Nat.le_of_ble_eq_true rfl⟩ (fun v f1 Hp lcs hp hM => ?_)
    obtain ⟨rfl, hf⟩ := hp; subst hf
    have hz2 := lowN_lt v (n := 40) (by decide)
    refine ln_iadd 36500 (lowN v 40) hx hb dL_value_25 ?_
    exact mm_iret hx hb hlocks hr (Nat.le_of_ble_eq_true rfl) (Nat.le_of_ble_eq_true rfl) hM (⟨by rw [valV, if_neg (Nat.not_lt.mpr cz1)], rfl⟩) dL_value_26
  refine lv_iload_n hx hb dL_value_5 rfl (lv_at hl 1 rfl) ?_
  refine lv_bipush (v := (nI 13)) hx hb dL_value_6 (by decide +kernel) ?_
  refine mm_S (As := [.int v, .int (nI 13)]) (rest := []) ⟨hx, hb, hml, hown, hts⟩ (l_low l G f v 13 (by decide) (by decide)) (va_cwS 2 hts gL_value_L_low rfl rfl rfl (by decide +kernel) ⟨Nat.le_of_ble_eq_true rfl, Nat.le_of_ble_eq_true rfl⟩) hK hE hA hM rfl hl.1 rfl (Nat.le_of_ble_eq_true rfl) dL_value_8 ⟨Nat.le_of_ble_eq_true rfl, Nat.le_of_ble_eq_true rfl⟩ (fun v f1 Hp lcs hp hM => ?_)
  obtain ⟨rfl, hf⟩ := hp; subst hf
  have hz3 := lowN_lt v (n := 13) (by decide)
  refine lv_bipush (v := (nI 6)) hx hb dL_value_11 (by decide +kernel) ?_
  refine lv_isub hx hb dL_value_13 ?_
  refine lv_goto (tgt := 26) hx hb dL_value_14 (by decide) ?_
  exact mm_iret hx hb hlocks hr (Nat.le_of_ble_eq_true rfl) (Nat.le_of_ble_eq_true rfl) hM (⟨by rw [valV, if_pos cz1], rfl⟩) dL_value_26
set_option maxHeartbeats 4000000 in
set_option maxRecDepth 100000 in
theorem l_contains (l : Launch) (G : mG) {f : mE} {o : Nat} {S P : Nat → Int32} {rc n cn : Nat} (hI : CI G f o S P rc) (hv : VSn S n cn) {k : Nat} (hk : k < n) : mC l G yL_contains wsL_contains ({ frames := 2, cells := 0, slots := 0, locals := 44 } : Room) f [.ref o, .int (nI k)] (fun v f1 => v = some (.int (bI (conB S k))) ∧ CI G f1 o S P rc) 0 0 := by
  refine mC.of (cc := cL_contains) (maxL := 4) (ret := (some .boolean)) (by decide) rfl (Nat.le_of_ble_eq_true rfl) ?_
  intro pgm env s mt args below meth c A ls hx hb hml hr hlocks hown hname hts hK hE hA hM hl
  have hl : lv_has ls 4 [(0, .ref o), (1, .int (nI k))] := hl
  obtain ⟨vso, ho⟩ := hI.obj
  have hn16 := hv.2.1
  refine lv_iconst (v := (nI 1)) hx hb dL_contains_0 (by decide +kernel) ?_
  refine lv_istore_n (lv' := [(2, .int (nI 1)), (0, .ref o), (1, .int (nI k))]) hx hb dL_contains_1 rfl hl (by decide) rfl (fun ls hl => ?_)
  refine lv_iconst (v := (nI 0)) hx hb dL_contains_2 (by decide +kernel) ?_
  refine lv_istore_n (lv' := [(3, .int (nI 0)), (2, .int (nI 1)), (0, .ref o), (1, .int (nI k))]) hx hb dL_contains_3 rfl hl (by decide) rfl (fun ls hl => ?_)
  have loopZ : ∀ (fuel : Nat) (i : Nat) (f : mE) (Hp : Heap) (lcs : List Loc) (ls : Array Slot) (hi7 : i ≤ 7) (hI : CI G f o S P rc) (hfu : 7 - i < fuel) (hM : mM G A s.heap f Hp lcs) (hl : lv_has ls 4 [(0, .ref o), (1, .int (nI k)), (2, .int (bI (allN (conQ S k) i))), (3, .int (nI i))]), W pgm l env ({ frames := 2, cells := 0, slots := 0, locals := 44 } : Room) s mt args below meth c Hp lcs 0 0 (MQ below (mQc G A (fun v f1 => v = some (.int (bI (conB S k))) ∧ CI G f1 o S P rc)) args s 0 0 A) (F0 mt 4 ls []) := by
    intro fuel
    induction fuel with
    | zero => intro i f Hp lcs ls hi7 hI hfu; exact absurd hfu (Nat.not_lt_zero _)
    | succ fuel ih =>
      intro i f Hp lcs ls hi7 hI hfu hM hl
      obtain ⟨vso, ho⟩ := hI.obj
      refine lv_iload_n hx hb dL_contains_4 rfl (lv_at hl 3 rfl) ?_
      refine lv_bipush (v := (nI 7)) hx hb dL_contains_5 (by decide +kernel) ?_
      refine ln_icmp_ge i 7 (by omega) (by omega) (tgt := 54) hx hb dL_contains_7 (by decide) (fun cz1 => ?_) (fun cz1 => ?_)
      · refine lv_iload_n hx hb dL_contains_54 rfl (lv_at hl 2 rfl) ?_
        exact mm_zret hx hb hlocks hr (by first | rfl | exact bI_nar _) (Nat.le_of_ble_eq_true rfl) (Nat.le_of_ble_eq_true rfl) hM (by have e9 : i = 7 := (by omega); subst e9; exact ⟨rfl, hI⟩) dL_contains_55
      refine lv_iload_n hx hb dL_contains_10 rfl (lv_at hl 2 rfl) ?_
      refine lvb_eq (tgt := 46) hx hb dL_contains_11 (by decide) (fun cz2 => ?_) (fun cz2 => ?_)
      · refine lv_iconst (v := (nI 0)) hx hb dL_contains_46 (by decide +kernel) ?_
        refine lv_istore_n (lv' := [(2, .int (nI 0)), (0, .ref o), (1, .int (nI k)), (3, .int (nI i))]) hx hb dL_contains_47 rfl hl (by decide) rfl (fun ls hl => ?_)
        refine lv_iinc (v := (nI (i + 1))) (lv' := [(3, .int (nI (i + 1))), (2, .int (nI 0)), (0, .ref o), (1, .int (nI k))]) hx hb dL_contains_48 hl (k := 3) rfl (nI_add _ _) (by decide) rfl (fun ls hl => ?_)
        refine lv_goto (tgt := 4) hx hb dL_contains_51 (by decide) ?_
        have e9 : (nI 0) = bI (allN (conQ S k) (i + 1)) := by rw [allN_s, cz2]; rfl
        rw [e9] at hl
        exact ih (i + 1) _ _ _ ls (by omega) hI (by omega) hM (lv_sub hl [2, 3, 1, 0] rfl)
      refine lv_aload_n hx hb dL_contains_14 rfl (lv_at hl 0 rfl) ?_
      refine lv_iload_n hx hb dL_contains_15 rfl (lv_at hl 3 rfl) ?_
      refine mm_V (As := [.int (nI i)]) (rest := []) ⟨hx, hb, hml, hown, hts⟩ (p_fact l G hI hv (j := i) (by omega)) (cwV 1 hts gL_contains_X5_fact rfl rfl rfl (by decide +kernel) ⟨Nat.le_of_ble_eq_true rfl, Nat.le_of_ble_eq_true rfl⟩) hK hE hA hM (mm_recv hK hM ho (q := (RX5, TX5, 7)) rfl) rfl hl.1 rfl (Nat.le_of_ble_eq_true rfl) dL_contains_16 ⟨Nat.le_of_ble_eq_true rfl, Nat.le_of_ble_eq_true rfl⟩ (fun v f Hp lcs hp hM => ?_)
      obtain ⟨rfl, hI⟩ := hp
      obtain ⟨vso, ho⟩ := hI.obj
      refine lv_aload_n hx hb dL_contains_19 rfl (lv_at hl 0 rfl) ?_
      refine lv_iload_n hx hb dL_contains_20 rfl (lv_at hl 1 rfl) ?_
      refine lv_iload_n hx hb dL_contains_21 rfl (lv_at hl 3 rfl) ?_
      refine mm_V (As := [.int (nI k), .int (nI i)]) (rest := [.int (S i)]) ⟨hx, hb, hml, hown, hts⟩ (p_least l G hI hv (k := k) (by omega) (j := i) (by omega)) (cwV 2 hts gL_contains_X5_least rfl rfl rfl (by decide +kernel) ⟨Nat.le_of_ble_eq_true rfl, Nat.le_of_ble_eq_true rfl⟩) hK hE hA hM (mm_recv hK hM ho (q := (RX5, TX5, 7)) rfl) rfl hl.1 rfl (Nat.le_of_ble_eq_true rfl) dL_contains_22 ⟨Nat.le_of_ble_eq_true rfl, Nat.le_of_ble_eq_true rfl⟩ (fun v f Hp lcs hp hM => ?_)
      obtain ⟨rfl, hI⟩ := hp
      obtain ⟨vso, ho⟩ := hI.obj
      refine lv_icmp_lt (tgt := 46) hx hb dL_contains_25 (by decide) (fun cz3 => ?_) (fun cz3 => ?_)
      · refine lv_iconst (v := (nI 0)) hx hb dL_contains_46 (by decide +kernel) ?_
        refine lv_istore_n (lv' := [(2, .int (nI 0)), (0, .ref o), (1, .int (nI k)), (3, .int (nI i))]) hx hb dL_contains_47 rfl hl (by decide) rfl (fun ls hl => ?_)
        refine lv_iinc (v := (nI (i + 1))) (lv' := [(3, .int (nI (i + 1))), (2, .int (nI 0)), (0, .ref o), (1, .int (nI k))]) hx hb dL_contains_48 hl (k := 3) rfl (nI_add _ _) (by decide) rfl (fun ls hl => ?_)
        refine lv_goto (tgt := 4) hx hb dL_contains_51 (by decide) ?_
        have e9 : (nI 0) = bI (allN (conQ S k) (i + 1)) := by rw [allN_s, cz2, conQ, inB, decide_eq_false (Int32.not_le.mpr cz3)]; rfl
        rw [e9] at hl
        exact ih (i + 1) _ _ _ ls (by omega) hI (by omega) hM (lv_sub hl [2, 3, 1, 0] rfl)
      refine lv_aload_n hx hb dL_contains_28 rfl (lv_at hl 0 rfl) ?_
      refine lv_iload_n hx hb dL_contains_29 rfl (lv_at hl 3 rfl) ?_
      refine mm_V (As := [.int (nI i)]) (rest := []) ⟨hx, hb, hml, hown, hts⟩ (p_fact l G hI hv (j := i) (by omega)) (cwV 1 hts gL_contains_X5_fact rfl rfl rfl (by decide +kernel) ⟨Nat.le_of_ble_eq_true rfl, Nat.le_of_ble_eq_true rfl⟩) hK hE hA hM (mm_recv hK hM ho (q := (RX5, TX5, 7)) rfl) rfl hl.1 rfl (Nat.le_of_ble_eq_true rfl) dL_contains_30 ⟨Nat.le_of_ble_eq_true rfl, Nat.le_of_ble_eq_true rfl⟩ (fun v f Hp lcs hp hM => ?_)
      obtain ⟨rfl, hI⟩ := hp
      obtain ⟨vso, ho⟩ := hI.obj
      refine lv_aload_n hx hb dL_contains_33 rfl (lv_at hl 0 rfl) ?_
      refine lv_iload_n hx hb dL_contains_34 rfl (lv_at hl 1 rfl) ?_
      refine lv_iload_n hx hb dL_contains_35 rfl (lv_at hl 3 rfl) ?_
      refine mm_V (As := [.int (nI k), .int (nI i)]) (rest := [.int (S i)]) ⟨hx, hb, hml, hown, hts⟩ (p_greatest l G hI hv (k := k) (by omega) (j := i) (by omega)) (cwV 2 hts gL_contains_X5_greatest rfl rfl rfl (by decide +kernel) ⟨Nat.le_of_ble_eq_true rfl, Nat.le_of_ble_eq_true rfl⟩) hK hE hA hM (mm_recv hK hM ho (q := (RX5, TX5, 7)) rfl) rfl hl.1 rfl (Nat.le_of_ble_eq_true rfl) dL_contains_36 ⟨Nat.le_of_ble_eq_true rfl, Nat.le_of_ble_eq_true rfl⟩ (fun v f Hp lcs hp hM => ?_)
      obtain ⟨rfl, hI⟩ := hp
      obtain ⟨vso, ho⟩ := hI.obj
      refine lv_icmp_gt (tgt := 46) hx hb dL_contains_39 (by decide) (fun cz4 => ?_) (fun cz4 => ?_)
      · refine lv_iconst (v := (nI 0)) hx hb dL_contains_46 (by decide +kernel) ?_
        refine lv_istore_n (lv' := [(2, .int (nI 0)), (0, .ref o), (1, .int (nI k)), (3, .int (nI i))]) hx hb dL_contains_47 rfl hl (by decide) rfl (fun ls hl => ?_)
        refine lv_iinc (v := (nI (i + 1))) (lv' := [(3, .int (nI (i + 1))), (2, .int (nI 0)), (0, .ref o), (1, .int (nI k))]) hx hb dL_contains_48 hl (k := 3) rfl (nI_add _ _) (by decide) rfl (fun ls hl => ?_)
        refine lv_goto (tgt := 4) hx hb dL_contains_51 (by decide) ?_
        have e9 : (nI 0) = bI (allN (conQ S k) (i + 1)) := by rw [allN_s, cz2, conQ, inB, decide_eq_true (Int32.not_lt.mp cz3), decide_eq_false (Int32.not_le.mpr cz4)]; rfl
        rw [e9] at hl
        exact ih (i + 1) _ _ _ ls (by omega) hI (by omega) hM (lv_sub hl [2, 3, 1, 0] rfl)
      refine lv_iconst (v := (nI 1)) hx hb dL_contains_42 (by decide +kernel) ?_
      refine lv_goto (tgt := 47) hx hb dL_contains_43 (by decide) ?_
      refine lv_istore_n (lv' := [(2, .int (nI 1)), (0, .ref o), (1, .int (nI k)), (3, .int (nI i))]) hx hb dL_contains_47 rfl hl (by decide) rfl (fun ls hl => ?_)
      refine lv_iinc (v := (nI (i + 1))) (lv' := [(3, .int (nI (i + 1))), (2, .int (nI 1)), (0, .ref o), (1, .int (nI k))]) hx hb dL_contains_48 hl (k := 3) rfl (nI_add _ _) (by decide) rfl (fun ls hl => ?_)
      refine lv_goto (tgt := 4) hx hb dL_contains_51 (by decide) ?_
      have e9 : (nI 1) = bI (allN (conQ S k) (i + 1)) := by rw [allN_s, cz2, conQ, inB, decide_eq_true (Int32.not_lt.mp cz3), decide_eq_true (Int32.not_lt.mp cz4)]; rfl
      rw [e9] at hl
      exact ih (i + 1) _ _ _ ls (by omega) hI (by omega) hM (lv_sub hl [2, 3, 1, 0] rfl)
  exact loopZ 8 0 _ _ _ ls (Nat.zero_le _) hI (by omega) hM (lv_sub hl [2, 3, 1, 0] rfl)
set_option maxHeartbeats 4000000 in
set_option maxRecDepth 100000 in
theorem l_areCompared (l : Launch) (G : mG) {f : mE} {o : Nat} {S P : Nat → Int32} {rc n cn : Nat} (hI : CI G f o S P rc) (hv : VSn S n cn) (hNE : NES S n) {a b : Nat} (ha : a < n) (hb9 : b < n) : mC l G yL_areCompared wsL_areCompared ({ frames := 3, cells := 0, slots := 0, locals := 67 } : Room) f [.ref o, .int (nI a), .int (nI b)] (fun v f1 => v = some (.int (nI 1)) ∧ CI G f1 o S P rc) 0 0 := by
  refine mC.of (cc := cL_areCompared) (maxL := 8) (ret := (some .boolean)) (by decide) rfl (Nat.le_of_ble_eq_true rfl) ?_
  intro pgm env s mt args below meth c A ls hx hb hml hr hlocks hown hname hts hK hE hA hM hl
  have hl : lv_has ls 8 [(0, .ref o), (1, .int (nI a)), (2, .int (nI b))] := hl
  obtain ⟨vso, ho⟩ := hI.obj
  have hn16 := hv.2.1
  refine lv_aload_n hx hb dL_areCompared_0 rfl (lv_at hl 0 rfl) ?_
  refine lv_iload_n hx hb dL_areCompared_1 rfl (lv_at hl 1 rfl) ?_
  refine lv_iload_n hx hb dL_areCompared_2 rfl (lv_at hl 2 rfl) ?_
  refine mm_V (As := [.int (nI a), .int (nI b)]) (rest := []) ⟨hx, hb, hml, hown, hts⟩ (p_compare l G hI hv (a := a) (b := b) (by omega) (by omega)) (cwV 2 hts gL_areCompared_X5_compare rfl rfl rfl (by decide +kernel) ⟨Nat.le_of_ble_eq_true rfl, Nat.le_of_ble_eq_true rfl⟩) hK hE hA hM (mm_recv hK hM ho (q := (RX5, TX5, 7)) rfl) rfl hl.1 rfl (Nat.le_of_ble_eq_true rfl) dL_areCompared_3 ⟨Nat.le_of_ble_eq_true rfl, Nat.le_of_ble_eq_true rfl⟩ (fun v f Hp lcs hp hM => ?_)
  obtain ⟨rfl, hI⟩ := hp
  obtain ⟨vso, ho⟩ := hI.obj
  refine lv_istore_n (lv' := [(3, .int (cmpS S a b)), (0, .ref o), (1, .int (nI a)), (2, .int (nI b))]) hx hb dL_areCompared_6 rfl hl (by decide) rfl (fun ls hl => ?_)
  refine lv_aload_n hx hb dL_areCompared_7 rfl (lv_at hl 1 rfl) ?_
  refine lv_iload_n hx hb dL_areCompared_8 rfl (lv_at hl 3 rfl) ?_
  refine lv_iload_n hx hb dL_areCompared_9 rfl (lv_at hl 2 rfl) ?_
  refine mm_V (As := [.int (nI b), .int (nI a)]) (rest := []) ⟨hx, hb, hml, hown, hts⟩ (p_compare l G hI hv (a := b) (b := a) (by omega) (by omega)) (cwV 2 hts gL_areCompared_X5_compare rfl rfl rfl (by decide +kernel) ⟨Nat.le_of_ble_eq_true rfl, Nat.le_of_ble_eq_true rfl⟩) hK hE hA hM (mm_recv hK hM ho (q := (RX5, TX5, 7)) rfl) rfl hl.1 rfl (Nat.le_of_ble_eq_true rfl) dL_areCompared_10 ⟨Nat.le_of_ble_eq_true rfl, Nat.le_of_ble_eq_true rfl⟩ (fun v f Hp lcs hp hM => ?_)
  obtain ⟨rfl, hI⟩ := hp
  obtain ⟨vso, ho⟩ := hI.obj
  refine lv_istore (lv' := [(4, .int (cmpS S b a)), (3, .int (cmpS S a b)), (0, .ref o), (1, .int (nI a)), (2, .int (nI b))]) hx hb dL_areCompared_13 hl (by decide) rfl (fun ls hl => ?_)
  refine lv_iconst (v := (nI 1)) hx hb dL_areCompared_15 (by decide +kernel) ?_
  refine lv_istore (lv' := [(5, .int (nI 1)), (4, .int (cmpS S b a)), (3, .int (cmpS S a b)), (0, .ref o), (1, .int (nI a)), (2, .int (nI b))]) hx hb dL_areCompared_16 hl (by decide) rfl (fun ls hl => ?_)
  refine lv_iconst (v := (nI 1)) hx hb dL_areCompared_18 (by decide +kernel) ?_
  refine lv_istore (lv' := [(6, .int (nI 1)), (5, .int (nI 1)), (4, .int (cmpS S b a)), (3, .int (cmpS S a b)), (0, .ref o), (1, .int (nI a)), (2, .int (nI b))]) hx hb dL_areCompared_19 hl (by decide) rfl (fun ls hl => ?_)
  refine lv_iconst (v := (nI 0)) hx hb dL_areCompared_21 (by decide +kernel) ?_
  refine lv_istore (lv' := [(7, .int (nI 0)), (6, .int (nI 1)), (5, .int (nI 1)), (4, .int (cmpS S b a)), (3, .int (cmpS S a b)), (0, .ref o), (1, .int (nI a)), (2, .int (nI b))]) hx hb dL_areCompared_22 hl (by decide) rfl (fun ls hl => ?_)
  have loopZ : ∀ (fuel : Nat) (i : Nat) (f : mE) (Hp : Heap) (lcs : List Loc) (ls : Array Slot) (hi7 : i ≤ 7) (hI : CI G f o S P rc) (hfu : 7 - i < fuel) (hM : mM G A s.heap f Hp lcs) (hl : lv_has ls 8 [(0, .ref o), (1, .int (nI a)), (2, .int (nI b)), (3, .int (cmpS S a b)), (4, .int (cmpS S b a)), (5, .int (bI (allN (insQ S a b) i))), (6, .int (bI (allN (lmQ S a b) i))), (7, .int (nI i))]), W pgm l env ({ frames := 3, cells := 0, slots := 0, locals := 67 } : Room) s mt args below meth c Hp lcs 0 0 (MQ below (mQc G A (fun v f1 => v = some (.int (nI 1)) ∧ CI G f1 o S P rc)) args s 0 0 A) (F0 mt 24 ls []) := by
    intro fuel
    induction fuel with
    | zero => intro i f Hp lcs ls hi7 hI hfu; exact absurd hfu (Nat.not_lt_zero _)
    | succ fuel ih =>
      intro i f Hp lcs ls hi7 hI hfu hM hl
      obtain ⟨vso, ho⟩ := hI.obj
      refine lv_iload hx hb dL_areCompared_24 (lv_at hl 7 rfl) ?_
      refine lv_bipush (v := (nI 7)) hx hb dL_areCompared_26 (by decide +kernel) ?_
      refine ln_icmp_ge i 7 (by omega) (by omega) (tgt := 129) hx hb dL_areCompared_28 (by decide) (fun cz1 => ?_) (fun cz1 => ?_)
      · have e7 : i = 7 := (by omega)
        subst e7
        have hl : lv_has ls 8 [(5, .int (bI (insB S a b))), (6, .int (bI (allN (lmQ S a b) 7))), (0, .ref o), (3, .int (cmpS S a b)), (4, .int (cmpS S b a))] := lv_sub hl [5, 6, 0, 3, 4] rfl
        rcases cmp_5 hNE ha hb9 with ⟨q1, q2, q3, q4⟩ | ⟨q1, q2, q3, q4⟩ | ⟨q1, q2, q3, q4⟩ | ⟨q1, q2, q3, q4⟩ | ⟨q1, q2, q3, q4⟩
        · rw [q1, q2, q3, q4] at hl
          have hl : lv_has ls 8 [(5, .int (nI 1)), (6, .int (nI 1)), (0, .ref o), (3, .int (nI 0)), (4, .int (nI 0))] := hl
          refine lv_iload_n hx hb dL_areCompared_129 rfl (lv_at hl 3 rfl) ?_
          refine lv_if_eq (tgt := 138) hx hb dL_areCompared_130 (by decide) (fun _ => ?_) (fun hq9 => absurd hq9 (by decide))
          refine lv_iconst (v := (nI 1)) hx hb dL_areCompared_138 (by decide +kernel) ?_
          refine lv_goto (tgt := 143) hx hb dL_areCompared_139 (by decide) ?_
          refine lv_iload hx hb dL_areCompared_143 (lv_at hl 0 rfl) ?_
          refine ln_icmp_ne 1 1 (by omega) (by omega) (tgt := 199) hx hb dL_areCompared_145 (by decide) (fun hq9 => absurd hq9 (by decide)) (fun _ => ?_)
          refine lv_iload_n hx hb dL_areCompared_148 rfl (lv_at hl 3 rfl) ?_
          refine lv_iconst (v := (nI 4)) hx hb dL_areCompared_149 (by decide +kernel) ?_
          refine ln_icmp_ne 0 4 (by omega) (by omega) (tgt := 157) hx hb dL_areCompared_150 (by decide) (fun _ => ?_) (fun hq9 => absurd hq9 (by decide))
          refine lv_iconst (v := (nI 0)) hx hb dL_areCompared_157 (by decide +kernel) ?_
          refine lv_iload hx hb dL_areCompared_158 (lv_at hl 1 rfl) ?_
          refine lv_if_ne (tgt := 167) hx hb dL_areCompared_160 (by decide) (fun _ => ?_) (fun hq9 => absurd hq9 (by decide))
          refine lv_iconst (v := (nI 0)) hx hb dL_areCompared_167 (by decide +kernel) ?_
          refine ln_icmp_ne 0 0 (by omega) (by omega) (tgt := 199) hx hb dL_areCompared_168 (by decide) (fun hq9 => absurd hq9 (by decide)) (fun _ => ?_)
          refine lv_iload hx hb dL_areCompared_171 (lv_at hl 4 rfl) ?_
          refine lv_iload_n hx hb dL_areCompared_173 rfl (lv_at hl 3 rfl) ?_
          refine lv_iconst (v := (nI 1)) hx hb dL_areCompared_174 (by decide +kernel) ?_
          refine ln_icmp_ne 0 1 (by omega) (by omega) (tgt := 182) hx hb dL_areCompared_175 (by decide) (fun _ => ?_) (fun hq9 => absurd hq9 (by decide))
          refine lv_iload_n hx hb dL_areCompared_182 rfl (lv_at hl 3 rfl) ?_
          refine lv_iconst (v := (nI 2)) hx hb dL_areCompared_183 (by decide +kernel) ?_
          refine ln_icmp_ne 0 2 (by omega) (by omega) (tgt := 191) hx hb dL_areCompared_184 (by decide) (fun _ => ?_) (fun hq9 => absurd hq9 (by decide))
          refine lv_iload_n hx hb dL_areCompared_191 rfl (lv_at hl 3 rfl) ?_
          refine ln_icmp_ne 0 0 (by omega) (by omega) (tgt := 199) hx hb dL_areCompared_192 (by decide) (fun hq9 => absurd hq9 (by decide)) (fun _ => ?_)
          refine lv_iconst (v := (nI 1)) hx hb dL_areCompared_195 (by decide +kernel) ?_
          refine lv_goto (tgt := 200) hx hb dL_areCompared_196 (by decide) ?_
          exact mm_zret hx hb hlocks hr (by first | rfl | exact bI_nar _) (Nat.le_of_ble_eq_true rfl) (Nat.le_of_ble_eq_true rfl) hM (⟨rfl, hI⟩) dL_areCompared_200
        · rw [q1, q2, q3, q4] at hl
          have hl : lv_has ls 8 [(5, .int (nI 1)), (6, .int (nI 1)), (0, .ref o), (3, .int (nI 1)), (4, .int (nI 2))] := hl
          refine lv_iload_n hx hb dL_areCompared_129 rfl (lv_at hl 3 rfl) ?_
          refine lv_if_eq (tgt := 138) hx hb dL_areCompared_130 (by decide) (fun hq9 => absurd hq9 (by decide)) (fun _ => ?_)
          refine lv_iload_n hx hb dL_areCompared_133 rfl (lv_at hl 3 rfl) ?_
          refine lv_iconst (v := (nI 1)) hx hb dL_areCompared_134 (by decide +kernel) ?_
          refine ln_icmp_ne 1 1 (by omega) (by omega) (tgt := 142) hx hb dL_areCompared_135 (by decide) (fun hq9 => absurd hq9 (by decide)) (fun _ => ?_)
          refine lv_iconst (v := (nI 1)) hx hb dL_areCompared_138 (by decide +kernel) ?_
          refine lv_goto (tgt := 143) hx hb dL_areCompared_139 (by decide) ?_
          refine lv_iload hx hb dL_areCompared_143 (lv_at hl 0 rfl) ?_
          refine ln_icmp_ne 1 1 (by omega) (by omega) (tgt := 199) hx hb dL_areCompared_145 (by decide) (fun hq9 => absurd hq9 (by decide)) (fun _ => ?_)
          refine lv_iload_n hx hb dL_areCompared_148 rfl (lv_at hl 3 rfl) ?_
          refine lv_iconst (v := (nI 4)) hx hb dL_areCompared_149 (by decide +kernel) ?_
          refine ln_icmp_ne 1 4 (by omega) (by omega) (tgt := 157) hx hb dL_areCompared_150 (by decide) (fun _ => ?_) (fun hq9 => absurd hq9 (by decide))
          refine lv_iconst (v := (nI 0)) hx hb dL_areCompared_157 (by decide +kernel) ?_
          refine lv_iload hx hb dL_areCompared_158 (lv_at hl 1 rfl) ?_
          refine lv_if_ne (tgt := 167) hx hb dL_areCompared_160 (by decide) (fun _ => ?_) (fun hq9 => absurd hq9 (by decide))
          refine lv_iconst (v := (nI 0)) hx hb dL_areCompared_167 (by decide +kernel) ?_
          refine ln_icmp_ne 0 0 (by omega) (by omega) (tgt := 199) hx hb dL_areCompared_168 (by decide) (fun hq9 => absurd hq9 (by decide)) (fun _ => ?_)
          refine lv_iload hx hb dL_areCompared_171 (lv_at hl 4 rfl) ?_
          refine lv_iload_n hx hb dL_areCompared_173 rfl (lv_at hl 3 rfl) ?_
          refine lv_iconst (v := (nI 1)) hx hb dL_areCompared_174 (by decide +kernel) ?_
          refine ln_icmp_ne 1 1 (by omega) (by omega) (tgt := 182) hx hb dL_areCompared_175 (by decide) (fun hq9 => absurd hq9 (by decide)) (fun _ => ?_)
          refine lv_iconst (v := (nI 2)) hx hb dL_areCompared_178 (by decide +kernel) ?_
          refine lv_goto (tgt := 192) hx hb dL_areCompared_179 (by decide) ?_
          refine ln_icmp_ne 2 2 (by omega) (by omega) (tgt := 199) hx hb dL_areCompared_192 (by decide) (fun hq9 => absurd hq9 (by decide)) (fun _ => ?_)
          refine lv_iconst (v := (nI 1)) hx hb dL_areCompared_195 (by decide +kernel) ?_
          refine lv_goto (tgt := 200) hx hb dL_areCompared_196 (by decide) ?_
          exact mm_zret hx hb hlocks hr (by first | rfl | exact bI_nar _) (Nat.le_of_ble_eq_true rfl) (Nat.le_of_ble_eq_true rfl) hM (⟨rfl, hI⟩) dL_areCompared_200
        · rw [q1, q2, q3, q4] at hl
          have hl : lv_has ls 8 [(5, .int (nI 0)), (6, .int (nI 1)), (0, .ref o), (3, .int (nI 2)), (4, .int (nI 1))] := hl
          refine lv_iload_n hx hb dL_areCompared_129 rfl (lv_at hl 3 rfl) ?_
          refine lv_if_eq (tgt := 138) hx hb dL_areCompared_130 (by decide) (fun hq9 => absurd hq9 (by decide)) (fun _ => ?_)
          refine lv_iload_n hx hb dL_areCompared_133 rfl (lv_at hl 3 rfl) ?_
          refine lv_iconst (v := (nI 1)) hx hb dL_areCompared_134 (by decide +kernel) ?_
          refine ln_icmp_ne 2 1 (by omega) (by omega) (tgt := 142) hx hb dL_areCompared_135 (by decide) (fun _ => ?_) (fun hq9 => absurd hq9 (by decide))
          refine lv_iconst (v := (nI 0)) hx hb dL_areCompared_142 (by decide +kernel) ?_
          refine lv_iload hx hb dL_areCompared_143 (lv_at hl 0 rfl) ?_
          refine ln_icmp_ne 0 0 (by omega) (by omega) (tgt := 199) hx hb dL_areCompared_145 (by decide) (fun hq9 => absurd hq9 (by decide)) (fun _ => ?_)
          refine lv_iload_n hx hb dL_areCompared_148 rfl (lv_at hl 3 rfl) ?_
          refine lv_iconst (v := (nI 4)) hx hb dL_areCompared_149 (by decide +kernel) ?_
          refine ln_icmp_ne 2 4 (by omega) (by omega) (tgt := 157) hx hb dL_areCompared_150 (by decide) (fun _ => ?_) (fun hq9 => absurd hq9 (by decide))
          refine lv_iconst (v := (nI 0)) hx hb dL_areCompared_157 (by decide +kernel) ?_
          refine lv_iload hx hb dL_areCompared_158 (lv_at hl 1 rfl) ?_
          refine lv_if_ne (tgt := 167) hx hb dL_areCompared_160 (by decide) (fun _ => ?_) (fun hq9 => absurd hq9 (by decide))
          refine lv_iconst (v := (nI 0)) hx hb dL_areCompared_167 (by decide +kernel) ?_
          refine ln_icmp_ne 0 0 (by omega) (by omega) (tgt := 199) hx hb dL_areCompared_168 (by decide) (fun hq9 => absurd hq9 (by decide)) (fun _ => ?_)
          refine lv_iload hx hb dL_areCompared_171 (lv_at hl 4 rfl) ?_
          refine lv_iload_n hx hb dL_areCompared_173 rfl (lv_at hl 3 rfl) ?_
          refine lv_iconst (v := (nI 1)) hx hb dL_areCompared_174 (by decide +kernel) ?_
          refine ln_icmp_ne 2 1 (by omega) (by omega) (tgt := 182) hx hb dL_areCompared_175 (by decide) (fun _ => ?_) (fun hq9 => absurd hq9 (by decide))
          refine lv_iload_n hx hb dL_areCompared_182 rfl (lv_at hl 3 rfl) ?_
          refine lv_iconst (v := (nI 2)) hx hb dL_areCompared_183 (by decide +kernel) ?_
          refine ln_icmp_ne 2 2 (by omega) (by omega) (tgt := 191) hx hb dL_areCompared_184 (by decide) (fun hq9 => absurd hq9 (by decide)) (fun _ => ?_)
          refine lv_iconst (v := (nI 1)) hx hb dL_areCompared_187 (by decide +kernel) ?_
          refine lv_goto (tgt := 192) hx hb dL_areCompared_188 (by decide) ?_
          refine ln_icmp_ne 1 1 (by omega) (by omega) (tgt := 199) hx hb dL_areCompared_192 (by decide) (fun hq9 => absurd hq9 (by decide)) (fun _ => ?_)
          refine lv_iconst (v := (nI 1)) hx hb dL_areCompared_195 (by decide +kernel) ?_
          refine lv_goto (tgt := 200) hx hb dL_areCompared_196 (by decide) ?_
          exact mm_zret hx hb hlocks hr (by first | rfl | exact bI_nar _) (Nat.le_of_ble_eq_true rfl) (Nat.le_of_ble_eq_true rfl) hM (⟨rfl, hI⟩) dL_areCompared_200
        · rw [q1, q2, q3, q4] at hl
          have hl : lv_has ls 8 [(5, .int (nI 0)), (6, .int (nI 1)), (0, .ref o), (3, .int (nI 3)), (4, .int (nI 3))] := hl
          refine lv_iload_n hx hb dL_areCompared_129 rfl (lv_at hl 3 rfl) ?_
          refine lv_if_eq (tgt := 138) hx hb dL_areCompared_130 (by decide) (fun hq9 => absurd hq9 (by decide)) (fun _ => ?_)
          refine lv_iload_n hx hb dL_areCompared_133 rfl (lv_at hl 3 rfl) ?_
          refine lv_iconst (v := (nI 1)) hx hb dL_areCompared_134 (by decide +kernel) ?_
          refine ln_icmp_ne 3 1 (by omega) (by omega) (tgt := 142) hx hb dL_areCompared_135 (by decide) (fun _ => ?_) (fun hq9 => absurd hq9 (by decide))
          refine lv_iconst (v := (nI 0)) hx hb dL_areCompared_142 (by decide +kernel) ?_
          refine lv_iload hx hb dL_areCompared_143 (lv_at hl 0 rfl) ?_
          refine ln_icmp_ne 0 0 (by omega) (by omega) (tgt := 199) hx hb dL_areCompared_145 (by decide) (fun hq9 => absurd hq9 (by decide)) (fun _ => ?_)
          refine lv_iload_n hx hb dL_areCompared_148 rfl (lv_at hl 3 rfl) ?_
          refine lv_iconst (v := (nI 4)) hx hb dL_areCompared_149 (by decide +kernel) ?_
          refine ln_icmp_ne 3 4 (by omega) (by omega) (tgt := 157) hx hb dL_areCompared_150 (by decide) (fun _ => ?_) (fun hq9 => absurd hq9 (by decide))
          refine lv_iconst (v := (nI 0)) hx hb dL_areCompared_157 (by decide +kernel) ?_
          refine lv_iload hx hb dL_areCompared_158 (lv_at hl 1 rfl) ?_
          refine lv_if_ne (tgt := 167) hx hb dL_areCompared_160 (by decide) (fun _ => ?_) (fun hq9 => absurd hq9 (by decide))
          refine lv_iconst (v := (nI 0)) hx hb dL_areCompared_167 (by decide +kernel) ?_
          refine ln_icmp_ne 0 0 (by omega) (by omega) (tgt := 199) hx hb dL_areCompared_168 (by decide) (fun hq9 => absurd hq9 (by decide)) (fun _ => ?_)
          refine lv_iload hx hb dL_areCompared_171 (lv_at hl 4 rfl) ?_
          refine lv_iload_n hx hb dL_areCompared_173 rfl (lv_at hl 3 rfl) ?_
          refine lv_iconst (v := (nI 1)) hx hb dL_areCompared_174 (by decide +kernel) ?_
          refine ln_icmp_ne 3 1 (by omega) (by omega) (tgt := 182) hx hb dL_areCompared_175 (by decide) (fun _ => ?_) (fun hq9 => absurd hq9 (by decide))
          refine lv_iload_n hx hb dL_areCompared_182 rfl (lv_at hl 3 rfl) ?_
          refine lv_iconst (v := (nI 2)) hx hb dL_areCompared_183 (by decide +kernel) ?_
          refine ln_icmp_ne 3 2 (by omega) (by omega) (tgt := 191) hx hb dL_areCompared_184 (by decide) (fun _ => ?_) (fun hq9 => absurd hq9 (by decide))
          refine lv_iload_n hx hb dL_areCompared_191 rfl (lv_at hl 3 rfl) ?_
          refine ln_icmp_ne 3 3 (by omega) (by omega) (tgt := 199) hx hb dL_areCompared_192 (by decide) (fun hq9 => absurd hq9 (by decide)) (fun _ => ?_)
          refine lv_iconst (v := (nI 1)) hx hb dL_areCompared_195 (by decide +kernel) ?_
          refine lv_goto (tgt := 200) hx hb dL_areCompared_196 (by decide) ?_
          exact mm_zret hx hb hlocks hr (by first | rfl | exact bI_nar _) (Nat.le_of_ble_eq_true rfl) (Nat.le_of_ble_eq_true rfl) hM (⟨rfl, hI⟩) dL_areCompared_200
        · rw [q1, q2, q3, q4] at hl
          have hl : lv_has ls 8 [(5, .int (nI 0)), (6, .int (nI 0)), (0, .ref o), (3, .int (nI 4)), (4, .int (nI 4))] := hl
          refine lv_iload_n hx hb dL_areCompared_129 rfl (lv_at hl 3 rfl) ?_
          refine lv_if_eq (tgt := 138) hx hb dL_areCompared_130 (by decide) (fun hq9 => absurd hq9 (by decide)) (fun _ => ?_)
          refine lv_iload_n hx hb dL_areCompared_133 rfl (lv_at hl 3 rfl) ?_
          refine lv_iconst (v := (nI 1)) hx hb dL_areCompared_134 (by decide +kernel) ?_
          refine ln_icmp_ne 4 1 (by omega) (by omega) (tgt := 142) hx hb dL_areCompared_135 (by decide) (fun _ => ?_) (fun hq9 => absurd hq9 (by decide))
          refine lv_iconst (v := (nI 0)) hx hb dL_areCompared_142 (by decide +kernel) ?_
          refine lv_iload hx hb dL_areCompared_143 (lv_at hl 0 rfl) ?_
          refine ln_icmp_ne 0 0 (by omega) (by omega) (tgt := 199) hx hb dL_areCompared_145 (by decide) (fun hq9 => absurd hq9 (by decide)) (fun _ => ?_)
          refine lv_iload_n hx hb dL_areCompared_148 rfl (lv_at hl 3 rfl) ?_
          refine lv_iconst (v := (nI 4)) hx hb dL_areCompared_149 (by decide +kernel) ?_
          refine ln_icmp_ne 4 4 (by omega) (by omega) (tgt := 157) hx hb dL_areCompared_150 (by decide) (fun hq9 => absurd hq9 (by decide)) (fun _ => ?_)
          refine lv_iconst (v := (nI 1)) hx hb dL_areCompared_153 (by decide +kernel) ?_
          refine lv_goto (tgt := 158) hx hb dL_areCompared_154 (by decide) ?_
          refine lv_iload hx hb dL_areCompared_158 (lv_at hl 1 rfl) ?_
          refine lv_if_ne (tgt := 167) hx hb dL_areCompared_160 (by decide) (fun hq9 => absurd hq9 (by decide)) (fun _ => ?_)
          refine lv_iconst (v := (nI 1)) hx hb dL_areCompared_163 (by decide +kernel) ?_
          refine lv_goto (tgt := 168) hx hb dL_areCompared_164 (by decide) ?_
          refine ln_icmp_ne 1 1 (by omega) (by omega) (tgt := 199) hx hb dL_areCompared_168 (by decide) (fun hq9 => absurd hq9 (by decide)) (fun _ => ?_)
          refine lv_iload hx hb dL_areCompared_171 (lv_at hl 4 rfl) ?_
          refine lv_iload_n hx hb dL_areCompared_173 rfl (lv_at hl 3 rfl) ?_
          refine lv_iconst (v := (nI 1)) hx hb dL_areCompared_174 (by decide +kernel) ?_
          refine ln_icmp_ne 4 1 (by omega) (by omega) (tgt := 182) hx hb dL_areCompared_175 (by decide) (fun _ => ?_) (fun hq9 => absurd hq9 (by decide))
          refine lv_iload_n hx hb dL_areCompared_182 rfl (lv_at hl 3 rfl) ?_
          refine lv_iconst (v := (nI 2)) hx hb dL_areCompared_183 (by decide +kernel) ?_
          refine ln_icmp_ne 4 2 (by omega) (by omega) (tgt := 191) hx hb dL_areCompared_184 (by decide) (fun _ => ?_) (fun hq9 => absurd hq9 (by decide))
          refine lv_iload_n hx hb dL_areCompared_191 rfl (lv_at hl 3 rfl) ?_
          refine ln_icmp_ne 4 4 (by omega) (by omega) (tgt := 199) hx hb dL_areCompared_192 (by decide) (fun hq9 => absurd hq9 (by decide)) (fun _ => ?_)
          refine lv_iconst (v := (nI 1)) hx hb dL_areCompared_195 (by decide +kernel) ?_
          refine lv_goto (tgt := 200) hx hb dL_areCompared_196 (by decide) ?_
          exact mm_zret hx hb hlocks hr (by first | rfl | exact bI_nar _) (Nat.le_of_ble_eq_true rfl) (Nat.le_of_ble_eq_true rfl) hM (⟨rfl, hI⟩) dL_areCompared_200
      refine lv_iload hx hb dL_areCompared_31 (lv_at hl 5 rfl) ?_
      refine lvb_eq (tgt := 74) hx hb dL_areCompared_33 (by decide) (fun cz35 => ?_) (fun cz35 => ?_)
      · refine lv_iconst (v := (nI 0)) hx hb dL_areCompared_74 (by decide +kernel) ?_
        refine lv_istore (lv' := [(5, .int (nI 0)), (0, .ref o), (1, .int (nI a)), (2, .int (nI b)), (3, .int (cmpS S a b)), (4, .int (cmpS S b a)), (6, .int (bI (allN (lmQ S a b) i))), (7, .int (nI i))]) hx hb dL_areCompared_75 hl (by decide) rfl (fun ls hl => ?_)
        refine lv_iload hx hb dL_areCompared_77 (lv_at hl 6 rfl) ?_
        refine lvb_eq (tgt := 120) hx hb dL_areCompared_79 (by decide) (fun cz36 => ?_) (fun cz36 => ?_)
        · refine lv_iconst (v := (nI 0)) hx hb dL_areCompared_120 (by decide +kernel) ?_
          refine lv_istore (lv' := [(6, .int (nI 0)), (5, .int (nI 0)), (0, .ref o), (1, .int (nI a)), (2, .int (nI b)), (3, .int (cmpS S a b)), (4, .int (cmpS S b a)), (7, .int (nI i))]) hx hb dL_areCompared_121 hl (by decide) rfl (fun ls hl => ?_)
          refine lv_iinc (v := (nI (i + 1))) (lv' := [(7, .int (nI (i + 1))), (6, .int (nI 0)), (5, .int (nI 0)), (0, .ref o), (1, .int (nI a)), (2, .int (nI b)), (3, .int (cmpS S a b)), (4, .int (cmpS S b a))]) hx hb dL_areCompared_123 hl (k := 7) rfl (nI_add _ _) (by decide) rfl (fun ls hl => ?_)
          refine lv_goto (tgt := 24) hx hb dL_areCompared_126 (by decide) ?_
          have e8 : (nI 0) = bI (allN (insQ S a b) (i + 1)) := by rw [allN_s, cz35]; rfl
          have e9 : (nI 0) = bI (allN (lmQ S a b) (i + 1)) := by rw [allN_s, cz36]; rfl
          have hl : lv_has ls 8 [(7, .int (nI (i + 1))), (6, .int (bI (allN (lmQ S a b) (i + 1)))), (5, .int (bI (allN (insQ S a b) (i + 1)))), (0, .ref o), (1, .int (nI a)), (2, .int (nI b)), (3, .int (cmpS S a b)), (4, .int (cmpS S b a))] := by rw [← e8, ← e9]; exact hl
          exact ih (i + 1) _ _ _ ls (by omega) hI (by omega) hM (lv_sub hl [3, 4, 5, 6, 7, 2, 1, 0] rfl)
        refine lv_aload_n hx hb dL_areCompared_82 rfl (lv_at hl 1 rfl) ?_
        refine lv_iload_n hx hb dL_areCompared_83 rfl (lv_at hl 2 rfl) ?_
        refine lv_iload hx hb dL_areCompared_84 (lv_at hl 7 rfl) ?_
        refine mm_V (As := [.int (nI a), .int (nI i)]) (rest := []) ⟨hx, hb, hml, hown, hts⟩ (p_least l G hI hv (k := a) (by omega) (j := i) (by omega)) (cwV 2 hts gL_areCompared_X5_least rfl rfl rfl (by decide +kernel) ⟨Nat.le_of_ble_eq_true rfl, Nat.le_of_ble_eq_true rfl⟩) hK hE hA hM (mm_recv hK hM ho (q := (RX5, TX5, 7)) rfl) rfl hl.1 rfl (Nat.le_of_ble_eq_true rfl) dL_areCompared_86 ⟨Nat.le_of_ble_eq_true rfl, Nat.le_of_ble_eq_true rfl⟩ (fun v f Hp lcs hp hM => ?_)
        obtain ⟨rfl, hI⟩ := hp
        obtain ⟨vso, ho⟩ := hI.obj
        refine lv_aload_n hx hb dL_areCompared_89 rfl (lv_at hl 1 rfl) ?_
        refine lv_iload_n hx hb dL_areCompared_90 rfl (lv_at hl 3 rfl) ?_
        refine lv_iload hx hb dL_areCompared_91 (lv_at hl 7 rfl) ?_
        refine mm_V (As := [.int (nI b), .int (nI i)]) (rest := [.int (S (57 + 66 * a + (52 + i)))]) ⟨hx, hb, hml, hown, hts⟩ (p_greatest l G hI hv (k := b) (by omega) (j := i) (by omega)) (cwV 2 hts gL_areCompared_X5_greatest rfl rfl rfl (by decide +kernel) ⟨Nat.le_of_ble_eq_true rfl, Nat.le_of_ble_eq_true rfl⟩) hK hE hA hM (mm_recv hK hM ho (q := (RX5, TX5, 7)) rfl) rfl hl.1 rfl (Nat.le_of_ble_eq_true rfl) dL_areCompared_93 ⟨Nat.le_of_ble_eq_true rfl, Nat.le_of_ble_eq_true rfl⟩ (fun v f Hp lcs hp hM => ?_)
        obtain ⟨rfl, hI⟩ := hp
        obtain ⟨vso, ho⟩ := hI.obj
        refine lv_icmp_gt (tgt := 120) hx hb dL_areCompared_96 (by decide) (fun cz37 => ?_) (fun cz37 => ?_)
        · refine lv_iconst (v := (nI 0)) hx hb dL_areCompared_120 (by decide +kernel) ?_
          refine lv_istore (lv' := [(6, .int (nI 0)), (5, .int (nI 0)), (0, .ref o), (1, .int (nI a)), (2, .int (nI b)), (3, .int (cmpS S a b)), (4, .int (cmpS S b a)), (7, .int (nI i))]) hx hb dL_areCompared_121 hl (by decide) rfl (fun ls hl => ?_)
          refine lv_iinc (v := (nI (i + 1))) (lv' := [(7, .int (nI (i + 1))), (6, .int (nI 0)), (5, .int (nI 0)), (0, .ref o), (1, .int (nI a)), (2, .int (nI b)), (3, .int (cmpS S a b)), (4, .int (cmpS S b a))]) hx hb dL_areCompared_123 hl (k := 7) rfl (nI_add _ _) (by decide) rfl (fun ls hl => ?_)
          refine lv_goto (tgt := 24) hx hb dL_areCompared_126 (by decide) ?_
          have e8 : (nI 0) = bI (allN (insQ S a b) (i + 1)) := by rw [allN_s, cz35]; rfl
          have e9 : (nI 0) = bI (allN (lmQ S a b) (i + 1)) := by rw [allN_s, cz36, lmQ, decide_eq_false (Int32.not_le.mpr cz37)]; rfl
          have hl : lv_has ls 8 [(7, .int (nI (i + 1))), (6, .int (bI (allN (lmQ S a b) (i + 1)))), (5, .int (bI (allN (insQ S a b) (i + 1)))), (0, .ref o), (1, .int (nI a)), (2, .int (nI b)), (3, .int (cmpS S a b)), (4, .int (cmpS S b a))] := by rw [← e8, ← e9]; exact hl
          exact ih (i + 1) _ _ _ ls (by omega) hI (by omega) hM (lv_sub hl [3, 4, 5, 6, 7, 2, 1, 0] rfl)
        refine lv_aload_n hx hb dL_areCompared_99 rfl (lv_at hl 1 rfl) ?_
        refine lv_iload_n hx hb dL_areCompared_100 rfl (lv_at hl 3 rfl) ?_
        refine lv_iload hx hb dL_areCompared_101 (lv_at hl 7 rfl) ?_
        refine mm_V (As := [.int (nI b), .int (nI i)]) (rest := []) ⟨hx, hb, hml, hown, hts⟩ (p_least l G hI hv (k := b) (by omega) (j := i) (by omega)) (cwV 2 hts gL_areCompared_X5_least rfl rfl rfl (by decide +kernel) ⟨Nat.le_of_ble_eq_true rfl, Nat.le_of_ble_eq_true rfl⟩) hK hE hA hM (mm_recv hK hM ho (q := (RX5, TX5, 7)) rfl) rfl hl.1 rfl (Nat.le_of_ble_eq_true rfl) dL_areCompared_103 ⟨Nat.le_of_ble_eq_true rfl, Nat.le_of_ble_eq_true rfl⟩ (fun v f Hp lcs hp hM => ?_)
        obtain ⟨rfl, hI⟩ := hp
        obtain ⟨vso, ho⟩ := hI.obj
        refine lv_aload_n hx hb dL_areCompared_106 rfl (lv_at hl 1 rfl) ?_
        refine lv_iload_n hx hb dL_areCompared_107 rfl (lv_at hl 2 rfl) ?_
        refine lv_iload hx hb dL_areCompared_108 (lv_at hl 7 rfl) ?_
        refine mm_V (As := [.int (nI a), .int (nI i)]) (rest := [.int (S (57 + 66 * b + (52 + i)))]) ⟨hx, hb, hml, hown, hts⟩ (p_greatest l G hI hv (k := a) (by omega) (j := i) (by omega)) (cwV 2 hts gL_areCompared_X5_greatest rfl rfl rfl (by decide +kernel) ⟨Nat.le_of_ble_eq_true rfl, Nat.le_of_ble_eq_true rfl⟩) hK hE hA hM (mm_recv hK hM ho (q := (RX5, TX5, 7)) rfl) rfl hl.1 rfl (Nat.le_of_ble_eq_true rfl) dL_areCompared_110 ⟨Nat.le_of_ble_eq_true rfl, Nat.le_of_ble_eq_true rfl⟩ (fun v f Hp lcs hp hM => ?_)
        obtain ⟨rfl, hI⟩ := hp
        obtain ⟨vso, ho⟩ := hI.obj
        refine lv_icmp_gt (tgt := 120) hx hb dL_areCompared_113 (by decide) (fun cz38 => ?_) (fun cz38 => ?_)
        · refine lv_iconst (v := (nI 0)) hx hb dL_areCompared_120 (by decide +kernel) ?_
          refine lv_istore (lv' := [(6, .int (nI 0)), (5, .int (nI 0)), (0, .ref o), (1, .int (nI a)), (2, .int (nI b)), (3, .int (cmpS S a b)), (4, .int (cmpS S b a)), (7, .int (nI i))]) hx hb dL_areCompared_121 hl (by decide) rfl (fun ls hl => ?_)
          refine lv_iinc (v := (nI (i + 1))) (lv' := [(7, .int (nI (i + 1))), (6, .int (nI 0)), (5, .int (nI 0)), (0, .ref o), (1, .int (nI a)), (2, .int (nI b)), (3, .int (cmpS S a b)), (4, .int (cmpS S b a))]) hx hb dL_areCompared_123 hl (k := 7) rfl (nI_add _ _) (by decide) rfl (fun ls hl => ?_)
          refine lv_goto (tgt := 24) hx hb dL_areCompared_126 (by decide) ?_
          have e8 : (nI 0) = bI (allN (insQ S a b) (i + 1)) := by rw [allN_s, cz35]; rfl
          have e9 : (nI 0) = bI (allN (lmQ S a b) (i + 1)) := by rw [allN_s, cz36, lmQ, decide_eq_true (Int32.not_lt.mp cz37), decide_eq_false (Int32.not_le.mpr cz38)]; rfl
          have hl : lv_has ls 8 [(7, .int (nI (i + 1))), (6, .int (bI (allN (lmQ S a b) (i + 1)))), (5, .int (bI (allN (insQ S a b) (i + 1)))), (0, .ref o), (1, .int (nI a)), (2, .int (nI b)), (3, .int (cmpS S a b)), (4, .int (cmpS S b a))] := by rw [← e8, ← e9]; exact hl
          exact ih (i + 1) _ _ _ ls (by omega) hI (by omega) hM (lv_sub hl [3, 4, 5, 6, 7, 2, 1, 0] rfl)
        refine lv_iconst (v := (nI 1)) hx hb dL_areCompared_116 (by decide +kernel) ?_
        refine lv_goto (tgt := 121) hx hb dL_areCompared_117 (by decide) ?_
        refine lv_istore (lv' := [(6, .int (nI 1)), (5, .int (nI 0)), (0, .ref o), (1, .int (nI a)), (2, .int (nI b)), (3, .int (cmpS S a b)), (4, .int (cmpS S b a)), (7, .int (nI i))]) hx hb dL_areCompared_121 hl (by decide) rfl (fun ls hl => ?_)
        refine lv_iinc (v := (nI (i + 1))) (lv' := [(7, .int (nI (i + 1))), (6, .int (nI 1)), (5, .int (nI 0)), (0, .ref o), (1, .int (nI a)), (2, .int (nI b)), (3, .int (cmpS S a b)), (4, .int (cmpS S b a))]) hx hb dL_areCompared_123 hl (k := 7) rfl (nI_add _ _) (by decide) rfl (fun ls hl => ?_)
        refine lv_goto (tgt := 24) hx hb dL_areCompared_126 (by decide) ?_
        have e8 : (nI 0) = bI (allN (insQ S a b) (i + 1)) := by rw [allN_s, cz35]; rfl
        have e9 : (nI 1) = bI (allN (lmQ S a b) (i + 1)) := by rw [allN_s, cz36, lmQ, decide_eq_true (Int32.not_lt.mp cz37), decide_eq_true (Int32.not_lt.mp cz38)]; rfl
        have hl : lv_has ls 8 [(7, .int (nI (i + 1))), (6, .int (bI (allN (lmQ S a b) (i + 1)))), (5, .int (bI (allN (insQ S a b) (i + 1)))), (0, .ref o), (1, .int (nI a)), (2, .int (nI b)), (3, .int (cmpS S a b)), (4, .int (cmpS S b a))] := by rw [← e8, ← e9]; exact hl
        exact ih (i + 1) _ _ _ ls (by omega) hI (by omega) hM (lv_sub hl [3, 4, 5, 6, 7, 2, 1, 0] rfl)
      refine lv_aload_n hx hb dL_areCompared_36 rfl (lv_at hl 0 rfl) ?_
      refine lv_iload_n hx hb dL_areCompared_37 rfl (lv_at hl 1 rfl) ?_
      refine lv_iload hx hb dL_areCompared_38 (lv_at hl 7 rfl) ?_
      refine mm_V (As := [.int (nI a), .int (nI i)]) (rest := []) ⟨hx, hb, hml, hown, hts⟩ (p_least l G hI hv (k := a) (by omega) (j := i) (by omega)) (cwV 2 hts gL_areCompared_X5_least rfl rfl rfl (by decide +kernel) ⟨Nat.le_of_ble_eq_true rfl, Nat.le_of_ble_eq_true rfl⟩) hK hE hA hM (mm_recv hK hM ho (q := (RX5, TX5, 7)) rfl) rfl hl.1 rfl (Nat.le_of_ble_eq_true rfl) dL_areCompared_40 ⟨Nat.le_of_ble_eq_true rfl, Nat.le_of_ble_eq_true rfl⟩ (fun v f Hp lcs hp hM => ?_)
      obtain ⟨rfl, hI⟩ := hp
      obtain ⟨vso, ho⟩ := hI.obj
      refine lv_aload_n hx hb dL_areCompared_43 rfl (lv_at hl 0 rfl) ?_
      refine lv_iload_n hx hb dL_areCompared_44 rfl (lv_at hl 2 rfl) ?_
      refine lv_iload hx hb dL_areCompared_45 (lv_at hl 7 rfl) ?_
      refine mm_V (As := [.int (nI b), .int (nI i)]) (rest := [.int (S (57 + 66 * a + (52 + i)))]) ⟨hx, hb, hml, hown, hts⟩ (p_least l G hI hv (k := b) (by omega) (j := i) (by omega)) (cwV 2 hts gL_areCompared_X5_least rfl rfl rfl (by decide +kernel) ⟨Nat.le_of_ble_eq_true rfl, Nat.le_of_ble_eq_true rfl⟩) hK hE hA hM (mm_recv hK hM ho (q := (RX5, TX5, 7)) rfl) rfl hl.1 rfl (Nat.le_of_ble_eq_true rfl) dL_areCompared_47 ⟨Nat.le_of_ble_eq_true rfl, Nat.le_of_ble_eq_true rfl⟩ (fun v f Hp lcs hp hM => ?_)
      obtain ⟨rfl, hI⟩ := hp
      obtain ⟨vso, ho⟩ := hI.obj
      refine lv_icmp_lt (tgt := 74) hx hb dL_areCompared_50 (by decide) (fun cz39 => ?_) (fun cz39 => ?_)
      · refine lv_iconst (v := (nI 0)) hx hb dL_areCompared_74 (by decide +kernel) ?_
        refine lv_istore (lv' := [(5, .int (nI 0)), (0, .ref o), (1, .int (nI a)), (2, .int (nI b)), (3, .int (cmpS S a b)), (4, .int (cmpS S b a)), (6, .int (bI (allN (lmQ S a b) i))), (7, .int (nI i))]) hx hb dL_areCompared_75 hl (by decide) rfl (fun ls hl => ?_)
        refine lv_iload hx hb dL_areCompared_77 (lv_at hl 6 rfl) ?_
        refine lvb_eq (tgt := 120) hx hb dL_areCompared_79 (by decide) (fun cz40 => ?_) (fun cz40 => ?_)
        · refine lv_iconst (v := (nI 0)) hx hb dL_areCompared_120 (by decide +kernel) ?_
          refine lv_istore (lv' := [(6, .int (nI 0)), (5, .int (nI 0)), (0, .ref o), (1, .int (nI a)), (2, .int (nI b)), (3, .int (cmpS S a b)), (4, .int (cmpS S b a)), (7, .int (nI i))]) hx hb dL_areCompared_121 hl (by decide) rfl (fun ls hl => ?_)
          refine lv_iinc (v := (nI (i + 1))) (lv' := [(7, .int (nI (i + 1))), (6, .int (nI 0)), (5, .int (nI 0)), (0, .ref o), (1, .int (nI a)), (2, .int (nI b)), (3, .int (cmpS S a b)), (4, .int (cmpS S b a))]) hx hb dL_areCompared_123 hl (k := 7) rfl (nI_add _ _) (by decide) rfl (fun ls hl => ?_)
          refine lv_goto (tgt := 24) hx hb dL_areCompared_126 (by decide) ?_
          have e8 : (nI 0) = bI (allN (insQ S a b) (i + 1)) := by rw [allN_s, cz35, insQ, decide_eq_true cz39]; rfl
          have e9 : (nI 0) = bI (allN (lmQ S a b) (i + 1)) := by rw [allN_s, cz40]; rfl
          have hl : lv_has ls 8 [(7, .int (nI (i + 1))), (6, .int (bI (allN (lmQ S a b) (i + 1)))), (5, .int (bI (allN (insQ S a b) (i + 1)))), (0, .ref o), (1, .int (nI a)), (2, .int (nI b)), (3, .int (cmpS S a b)), (4, .int (cmpS S b a))] := by rw [← e8, ← e9]; exact hl
          exact ih (i + 1) _ _ _ ls (by omega) hI (by omega) hM (lv_sub hl [3, 4, 5, 6, 7, 2, 1, 0] rfl)
        refine lv_aload_n hx hb dL_areCompared_82 rfl (lv_at hl 1 rfl) ?_
        refine lv_iload_n hx hb dL_areCompared_83 rfl (lv_at hl 2 rfl) ?_
        refine lv_iload hx hb dL_areCompared_84 (lv_at hl 7 rfl) ?_
        refine mm_V (As := [.int (nI a), .int (nI i)]) (rest := []) ⟨hx, hb, hml, hown, hts⟩ (p_least l G hI hv (k := a) (by omega) (j := i) (by omega)) (cwV 2 hts gL_areCompared_X5_least rfl rfl rfl (by decide +kernel) ⟨Nat.le_of_ble_eq_true rfl, Nat.le_of_ble_eq_true rfl⟩) hK hE hA hM (mm_recv hK hM ho (q := (RX5, TX5, 7)) rfl) rfl hl.1 rfl (Nat.le_of_ble_eq_true rfl) dL_areCompared_86 ⟨Nat.le_of_ble_eq_true rfl, Nat.le_of_ble_eq_true rfl⟩ (fun v f Hp lcs hp hM => ?_)
        obtain ⟨rfl, hI⟩ := hp
        obtain ⟨vso, ho⟩ := hI.obj
        refine lv_aload_n hx hb dL_areCompared_89 rfl (lv_at hl 1 rfl) ?_
        refine lv_iload_n hx hb dL_areCompared_90 rfl (lv_at hl 3 rfl) ?_
        refine lv_iload hx hb dL_areCompared_91 (lv_at hl 7 rfl) ?_
        refine mm_V (As := [.int (nI b), .int (nI i)]) (rest := [.int (S (57 + 66 * a + (52 + i)))]) ⟨hx, hb, hml, hown, hts⟩ (p_greatest l G hI hv (k := b) (by omega) (j := i) (by omega)) (cwV 2 hts gL_areCompared_X5_greatest rfl rfl rfl (by decide +kernel) ⟨Nat.le_of_ble_eq_true rfl, Nat.le_of_ble_eq_true rfl⟩) hK hE hA hM (mm_recv hK hM ho (q := (RX5, TX5, 7)) rfl) rfl hl.1 rfl (Nat.le_of_ble_eq_true rfl) dL_areCompared_93 ⟨Nat.le_of_ble_eq_true rfl, Nat.le_of_ble_eq_true rfl⟩ (fun v f Hp lcs hp hM => ?_)
        obtain ⟨rfl, hI⟩ := hp
        obtain ⟨vso, ho⟩ := hI.obj
        refine lv_icmp_gt (tgt := 120) hx hb dL_areCompared_96 (by decide) (fun cz41 => ?_) (fun cz41 => ?_)
        · refine lv_iconst (v := (nI 0)) hx hb dL_areCompared_120 (by decide +kernel) ?_
          refine lv_istore (lv' := [(6, .int (nI 0)), (5, .int (nI 0)), (0, .ref o), (1, .int (nI a)), (2, .int (nI b)), (3, .int (cmpS S a b)), (4, .int (cmpS S b a)), (7, .int (nI i))]) hx hb dL_areCompared_121 hl (by decide) rfl (fun ls hl => ?_)
          refine lv_iinc (v := (nI (i + 1))) (lv' := [(7, .int (nI (i + 1))), (6, .int (nI 0)), (5, .int (nI 0)), (0, .ref o), (1, .int (nI a)), (2, .int (nI b)), (3, .int (cmpS S a b)), (4, .int (cmpS S b a))]) hx hb dL_areCompared_123 hl (k := 7) rfl (nI_add _ _) (by decide) rfl (fun ls hl => ?_)
          refine lv_goto (tgt := 24) hx hb dL_areCompared_126 (by decide) ?_
          have e8 : (nI 0) = bI (allN (insQ S a b) (i + 1)) := by rw [allN_s, cz35, insQ, decide_eq_true cz39]; rfl
          have e9 : (nI 0) = bI (allN (lmQ S a b) (i + 1)) := by rw [allN_s, cz40, lmQ, decide_eq_false (Int32.not_le.mpr cz41)]; rfl
          have hl : lv_has ls 8 [(7, .int (nI (i + 1))), (6, .int (bI (allN (lmQ S a b) (i + 1)))), (5, .int (bI (allN (insQ S a b) (i + 1)))), (0, .ref o), (1, .int (nI a)), (2, .int (nI b)), (3, .int (cmpS S a b)), (4, .int (cmpS S b a))] := by rw [← e8, ← e9]; exact hl
          exact ih (i + 1) _ _ _ ls (by omega) hI (by omega) hM (lv_sub hl [3, 4, 5, 6, 7, 2, 1, 0] rfl)
        refine lv_aload_n hx hb dL_areCompared_99 rfl (lv_at hl 1 rfl) ?_
        refine lv_iload_n hx hb dL_areCompared_100 rfl (lv_at hl 3 rfl) ?_
        refine lv_iload hx hb dL_areCompared_101 (lv_at hl 7 rfl) ?_
        refine mm_V (As := [.int (nI b), .int (nI i)]) (rest := []) ⟨hx, hb, hml, hown, hts⟩ (p_least l G hI hv (k := b) (by omega) (j := i) (by omega)) (cwV 2 hts gL_areCompared_X5_least rfl rfl rfl (by decide +kernel) ⟨Nat.le_of_ble_eq_true rfl, Nat.le_of_ble_eq_true rfl⟩) hK hE hA hM (mm_recv hK hM ho (q := (RX5, TX5, 7)) rfl) rfl hl.1 rfl (Nat.le_of_ble_eq_true rfl) dL_areCompared_103 ⟨Nat.le_of_ble_eq_true rfl, Nat.le_of_ble_eq_true rfl⟩ (fun v f Hp lcs hp hM => ?_)
        obtain ⟨rfl, hI⟩ := hp
        obtain ⟨vso, ho⟩ := hI.obj
        refine lv_aload_n hx hb dL_areCompared_106 rfl (lv_at hl 1 rfl) ?_
        refine lv_iload_n hx hb dL_areCompared_107 rfl (lv_at hl 2 rfl) ?_
        refine lv_iload hx hb dL_areCompared_108 (lv_at hl 7 rfl) ?_
        refine mm_V (As := [.int (nI a), .int (nI i)]) (rest := [.int (S (57 + 66 * b + (52 + i)))]) ⟨hx, hb, hml, hown, hts⟩ (p_greatest l G hI hv (k := a) (by omega) (j := i) (by omega)) (cwV 2 hts gL_areCompared_X5_greatest rfl rfl rfl (by decide +kernel) ⟨Nat.le_of_ble_eq_true rfl, Nat.le_of_ble_eq_true rfl⟩) hK hE hA hM (mm_recv hK hM ho (q := (RX5, TX5, 7)) rfl) rfl hl.1 rfl (Nat.le_of_ble_eq_true rfl) dL_areCompared_110 ⟨Nat.le_of_ble_eq_true rfl, Nat.le_of_ble_eq_true rfl⟩ (fun v f Hp lcs hp hM => ?_)
        obtain ⟨rfl, hI⟩ := hp
        obtain ⟨vso, ho⟩ := hI.obj
        refine lv_icmp_gt (tgt := 120) hx hb dL_areCompared_113 (by decide) (fun cz42 => ?_) (fun cz42 => ?_)
        · refine lv_iconst (v := (nI 0)) hx hb dL_areCompared_120 (by decide +kernel) ?_
          refine lv_istore (lv' := [(6, .int (nI 0)), (5, .int (nI 0)), (0, .ref o), (1, .int (nI a)), (2, .int (nI b)), (3, .int (cmpS S a b)), (4, .int (cmpS S b a)), (7, .int (nI i))]) hx hb dL_areCompared_121 hl (by decide) rfl (fun ls hl => ?_)
          refine lv_iinc (v := (nI (i + 1))) (lv' := [(7, .int (nI (i + 1))), (6, .int (nI 0)), (5, .int (nI 0)), (0, .ref o), (1, .int (nI a)), (2, .int (nI b)), (3, .int (cmpS S a b)), (4, .int (cmpS S b a))]) hx hb dL_areCompared_123 hl (k := 7) rfl (nI_add _ _) (by decide) rfl (fun ls hl => ?_)
          refine lv_goto (tgt := 24) hx hb dL_areCompared_126 (by decide) ?_
          have e8 : (nI 0) = bI (allN (insQ S a b) (i + 1)) := by rw [allN_s, cz35, insQ, decide_eq_true cz39]; rfl
          have e9 : (nI 0) = bI (allN (lmQ S a b) (i + 1)) := by rw [allN_s, cz40, lmQ, decide_eq_true (Int32.not_lt.mp cz41), decide_eq_false (Int32.not_le.mpr cz42)]; rfl
          have hl : lv_has ls 8 [(7, .int (nI (i + 1))), (6, .int (bI (allN (lmQ S a b) (i + 1)))), (5, .int (bI (allN (insQ S a b) (i + 1)))), (0, .ref o), (1, .int (nI a)), (2, .int (nI b)), (3, .int (cmpS S a b)), (4, .int (cmpS S b a))] := by rw [← e8, ← e9]; exact hl
          exact ih (i + 1) _ _ _ ls (by omega) hI (by omega) hM (lv_sub hl [3, 4, 5, 6, 7, 2, 1, 0] rfl)
        refine lv_iconst (v := (nI 1)) hx hb dL_areCompared_116 (by decide +kernel) ?_
        refine lv_goto (tgt := 121) hx hb dL_areCompared_117 (by decide) ?_
        refine lv_istore (lv' := [(6, .int (nI 1)), (5, .int (nI 0)), (0, .ref o), (1, .int (nI a)), (2, .int (nI b)), (3, .int (cmpS S a b)), (4, .int (cmpS S b a)), (7, .int (nI i))]) hx hb dL_areCompared_121 hl (by decide) rfl (fun ls hl => ?_)
        refine lv_iinc (v := (nI (i + 1))) (lv' := [(7, .int (nI (i + 1))), (6, .int (nI 1)), (5, .int (nI 0)), (0, .ref o), (1, .int (nI a)), (2, .int (nI b)), (3, .int (cmpS S a b)), (4, .int (cmpS S b a))]) hx hb dL_areCompared_123 hl (k := 7) rfl (nI_add _ _) (by decide) rfl (fun ls hl => ?_)
        refine lv_goto (tgt := 24) hx hb dL_areCompared_126 (by decide) ?_
        have e8 : (nI 0) = bI (allN (insQ S a b) (i + 1)) := by rw [allN_s, cz35, insQ, decide_eq_true cz39]; rfl
        have e9 : (nI 1) = bI (allN (lmQ S a b) (i + 1)) := by rw [allN_s, cz40, lmQ, decide_eq_true (Int32.not_lt.mp cz41), decide_eq_true (Int32.not_lt.mp cz42)]; rfl
        have hl : lv_has ls 8 [(7, .int (nI (i + 1))), (6, .int (bI (allN (lmQ S a b) (i + 1)))), (5, .int (bI (allN (insQ S a b) (i + 1)))), (0, .ref o), (1, .int (nI a)), (2, .int (nI b)), (3, .int (cmpS S a b)), (4, .int (cmpS S b a))] := by rw [← e8, ← e9]; exact hl
        exact ih (i + 1) _ _ _ ls (by omega) hI (by omega) hM (lv_sub hl [3, 4, 5, 6, 7, 2, 1, 0] rfl)
      refine lv_aload_n hx hb dL_areCompared_53 rfl (lv_at hl 0 rfl) ?_
      refine lv_iload_n hx hb dL_areCompared_54 rfl (lv_at hl 1 rfl) ?_
      refine lv_iload hx hb dL_areCompared_55 (lv_at hl 7 rfl) ?_
      refine mm_V (As := [.int (nI a), .int (nI i)]) (rest := []) ⟨hx, hb, hml, hown, hts⟩ (p_greatest l G hI hv (k := a) (by omega) (j := i) (by omega)) (cwV 2 hts gL_areCompared_X5_greatest rfl rfl rfl (by decide +kernel) ⟨Nat.le_of_ble_eq_true rfl, Nat.le_of_ble_eq_true rfl⟩) hK hE hA hM (mm_recv hK hM ho (q := (RX5, TX5, 7)) rfl) rfl hl.1 rfl (Nat.le_of_ble_eq_true rfl) dL_areCompared_57 ⟨Nat.le_of_ble_eq_true rfl, Nat.le_of_ble_eq_true rfl⟩ (fun v f Hp lcs hp hM => ?_)
      obtain ⟨rfl, hI⟩ := hp
      obtain ⟨vso, ho⟩ := hI.obj
      refine lv_aload_n hx hb dL_areCompared_60 rfl (lv_at hl 0 rfl) ?_
      refine lv_iload_n hx hb dL_areCompared_61 rfl (lv_at hl 2 rfl) ?_
      refine lv_iload hx hb dL_areCompared_62 (lv_at hl 7 rfl) ?_
      refine mm_V (As := [.int (nI b), .int (nI i)]) (rest := [.int (S (57 + 66 * a + (59 + i)))]) ⟨hx, hb, hml, hown, hts⟩ (p_greatest l G hI hv (k := b) (by omega) (j := i) (by omega)) (cwV 2 hts gL_areCompared_X5_greatest rfl rfl rfl (by decide +kernel) ⟨Nat.le_of_ble_eq_true rfl, Nat.le_of_ble_eq_true rfl⟩) hK hE hA hM (mm_recv hK hM ho (q := (RX5, TX5, 7)) rfl) rfl hl.1 rfl (Nat.le_of_ble_eq_true rfl) dL_areCompared_64 ⟨Nat.le_of_ble_eq_true rfl, Nat.le_of_ble_eq_true rfl⟩ (fun v f Hp lcs hp hM => ?_)
      obtain ⟨rfl, hI⟩ := hp
      obtain ⟨vso, ho⟩ := hI.obj
      refine lv_icmp_gt (tgt := 74) hx hb dL_areCompared_67 (by decide) (fun cz43 => ?_) (fun cz43 => ?_)
      · refine lv_iconst (v := (nI 0)) hx hb dL_areCompared_74 (by decide +kernel) ?_
        refine lv_istore (lv' := [(5, .int (nI 0)), (0, .ref o), (1, .int (nI a)), (2, .int (nI b)), (3, .int (cmpS S a b)), (4, .int (cmpS S b a)), (6, .int (bI (allN (lmQ S a b) i))), (7, .int (nI i))]) hx hb dL_areCompared_75 hl (by decide) rfl (fun ls hl => ?_)
        refine lv_iload hx hb dL_areCompared_77 (lv_at hl 6 rfl) ?_
        refine lvb_eq (tgt := 120) hx hb dL_areCompared_79 (by decide) (fun cz44 => ?_) (fun cz44 => ?_)
        · refine lv_iconst (v := (nI 0)) hx hb dL_areCompared_120 (by decide +kernel) ?_
          refine lv_istore (lv' := [(6, .int (nI 0)), (5, .int (nI 0)), (0, .ref o), (1, .int (nI a)), (2, .int (nI b)), (3, .int (cmpS S a b)), (4, .int (cmpS S b a)), (7, .int (nI i))]) hx hb dL_areCompared_121 hl (by decide) rfl (fun ls hl => ?_)
          refine lv_iinc (v := (nI (i + 1))) (lv' := [(7, .int (nI (i + 1))), (6, .int (nI 0)), (5, .int (nI 0)), (0, .ref o), (1, .int (nI a)), (2, .int (nI b)), (3, .int (cmpS S a b)), (4, .int (cmpS S b a))]) hx hb dL_areCompared_123 hl (k := 7) rfl (nI_add _ _) (by decide) rfl (fun ls hl => ?_)
          refine lv_goto (tgt := 24) hx hb dL_areCompared_126 (by decide) ?_
          have e8 : (nI 0) = bI (allN (insQ S a b) (i + 1)) := by rw [allN_s, cz35, insQ, decide_eq_false cz39, decide_eq_true cz43]; rfl
          have e9 : (nI 0) = bI (allN (lmQ S a b) (i + 1)) := by rw [allN_s, cz44]; rfl
          have hl : lv_has ls 8 [(7, .int (nI (i + 1))), (6, .int (bI (allN (lmQ S a b) (i + 1)))), (5, .int (bI (allN (insQ S a b) (i + 1)))), (0, .ref o), (1, .int (nI a)), (2, .int (nI b)), (3, .int (cmpS S a b)), (4, .int (cmpS S b a))] := by rw [← e8, ← e9]; exact hl
          exact ih (i + 1) _ _ _ ls (by omega) hI (by omega) hM (lv_sub hl [3, 4, 5, 6, 7, 2, 1, 0] rfl)
        refine lv_aload_n hx hb dL_areCompared_82 rfl (lv_at hl 1 rfl) ?_
        refine lv_iload_n hx hb dL_areCompared_83 rfl (lv_at hl 2 rfl) ?_
        refine lv_iload hx hb dL_areCompared_84 (lv_at hl 7 rfl) ?_
        refine mm_V (As := [.int (nI a), .int (nI i)]) (rest := []) ⟨hx, hb, hml, hown, hts⟩ (p_least l G hI hv (k := a) (by omega) (j := i) (by omega)) (cwV 2 hts gL_areCompared_X5_least rfl rfl rfl (by decide +kernel) ⟨Nat.le_of_ble_eq_true rfl, Nat.le_of_ble_eq_true rfl⟩) hK hE hA hM (mm_recv hK hM ho (q := (RX5, TX5, 7)) rfl) rfl hl.1 rfl (Nat.le_of_ble_eq_true rfl) dL_areCompared_86 ⟨Nat.le_of_ble_eq_true rfl, Nat.le_of_ble_eq_true rfl⟩ (fun v f Hp lcs hp hM => ?_)
        obtain ⟨rfl, hI⟩ := hp
        obtain ⟨vso, ho⟩ := hI.obj
        refine lv_aload_n hx hb dL_areCompared_89 rfl (lv_at hl 1 rfl) ?_
        refine lv_iload_n hx hb dL_areCompared_90 rfl (lv_at hl 3 rfl) ?_
        refine lv_iload hx hb dL_areCompared_91 (lv_at hl 7 rfl) ?_
        refine mm_V (As := [.int (nI b), .int (nI i)]) (rest := [.int (S (57 + 66 * a + (52 + i)))]) ⟨hx, hb, hml, hown, hts⟩ (p_greatest l G hI hv (k := b) (by omega) (j := i) (by omega)) (cwV 2 hts gL_areCompared_X5_greatest rfl rfl rfl (by decide +kernel) ⟨Nat.le_of_ble_eq_true rfl, Nat.le_of_ble_eq_true rfl⟩) hK hE hA hM (mm_recv hK hM ho (q := (RX5, TX5, 7)) rfl) rfl hl.1 rfl (Nat.le_of_ble_eq_true rfl) dL_areCompared_93 ⟨Nat.le_of_ble_eq_true rfl, Nat.le_of_ble_eq_true rfl⟩ (fun v f Hp lcs hp hM => ?_)
        obtain ⟨rfl, hI⟩ := hp
        obtain ⟨vso, ho⟩ := hI.obj
        refine lv_icmp_gt (tgt := 120) hx hb dL_areCompared_96 (by decide) (fun cz45 => ?_) (fun cz45 => ?_)
        · refine lv_iconst (v := (nI 0)) hx hb dL_areCompared_120 (by decide +kernel) ?_
          refine lv_istore (lv' := [(6, .int (nI 0)), (5, .int (nI 0)), (0, .ref o), (1, .int (nI a)), (2, .int (nI b)), (3, .int (cmpS S a b)), (4, .int (cmpS S b a)), (7, .int (nI i))]) hx hb dL_areCompared_121 hl (by decide) rfl (fun ls hl => ?_)
          refine lv_iinc (v := (nI (i + 1))) (lv' := [(7, .int (nI (i + 1))), (6, .int (nI 0)), (5, .int (nI 0)), (0, .ref o), (1, .int (nI a)), (2, .int (nI b)), (3, .int (cmpS S a b)), (4, .int (cmpS S b a))]) hx hb dL_areCompared_123 hl (k := 7) rfl (nI_add _ _) (by decide) rfl (fun ls hl => ?_)
          refine lv_goto (tgt := 24) hx hb dL_areCompared_126 (by decide) ?_
          have e8 : (nI 0) = bI (allN (insQ S a b) (i + 1)) := by rw [allN_s, cz35, insQ, decide_eq_false cz39, decide_eq_true cz43]; rfl
          have e9 : (nI 0) = bI (allN (lmQ S a b) (i + 1)) := by rw [allN_s, cz44, lmQ, decide_eq_false (Int32.not_le.mpr cz45)]; rfl
          have hl : lv_has ls 8 [(7, .int (nI (i + 1))), (6, .int (bI (allN (lmQ S a b) (i + 1)))), (5, .int (bI (allN (insQ S a b) (i + 1)))), (0, .ref o), (1, .int (nI a)), (2, .int (nI b)), (3, .int (cmpS S a b)), (4, .int (cmpS S b a))] := by rw [← e8, ← e9]; exact hl
          exact ih (i + 1) _ _ _ ls (by omega) hI (by omega) hM (lv_sub hl [3, 4, 5, 6, 7, 2, 1, 0] rfl)
        refine lv_aload_n hx hb dL_areCompared_99 rfl (lv_at hl 1 rfl) ?_
        refine lv_iload_n hx hb dL_areCompared_100 rfl (lv_at hl 3 rfl) ?_
        refine lv_iload hx hb dL_areCompared_101 (lv_at hl 7 rfl) ?_
        refine mm_V (As := [.int (nI b), .int (nI i)]) (rest := []) ⟨hx, hb, hml, hown, hts⟩ (p_least l G hI hv (k := b) (by omega) (j := i) (by omega)) (cwV 2 hts gL_areCompared_X5_least rfl rfl rfl (by decide +kernel) ⟨Nat.le_of_ble_eq_true rfl, Nat.le_of_ble_eq_true rfl⟩) hK hE hA hM (mm_recv hK hM ho (q := (RX5, TX5, 7)) rfl) rfl hl.1 rfl (Nat.le_of_ble_eq_true rfl) dL_areCompared_103 ⟨Nat.le_of_ble_eq_true rfl, Nat.le_of_ble_eq_true rfl⟩ (fun v f Hp lcs hp hM => ?_)
        obtain ⟨rfl, hI⟩ := hp
        obtain ⟨vso, ho⟩ := hI.obj
        refine lv_aload_n hx hb dL_areCompared_106 rfl (lv_at hl 1 rfl) ?_
        refine lv_iload_n hx hb dL_areCompared_107 rfl (lv_at hl 2 rfl) ?_
        refine lv_iload hx hb dL_areCompared_108 (lv_at hl 7 rfl) ?_
        refine mm_V (As := [.int (nI a), .int (nI i)]) (rest := [.int (S (57 + 66 * b + (52 + i)))]) ⟨hx, hb, hml, hown, hts⟩ (p_greatest l G hI hv (k := a) (by omega) (j := i) (by omega)) (cwV 2 hts gL_areCompared_X5_greatest rfl rfl rfl (by decide +kernel) ⟨Nat.le_of_ble_eq_true rfl, Nat.le_of_ble_eq_true rfl⟩) hK hE hA hM (mm_recv hK hM ho (q := (RX5, TX5, 7)) rfl) rfl hl.1 rfl (Nat.le_of_ble_eq_true rfl) dL_areCompared_110 ⟨Nat.le_of_ble_eq_true rfl, Nat.le_of_ble_eq_true rfl⟩ (fun v f Hp lcs hp hM => ?_)
        obtain ⟨rfl, hI⟩ := hp
        obtain ⟨vso, ho⟩ := hI.obj
        refine lv_icmp_gt (tgt := 120) hx hb dL_areCompared_113 (by decide) (fun cz46 => ?_) (fun cz46 => ?_)
        · refine lv_iconst (v := (nI 0)) hx hb dL_areCompared_120 (by decide +kernel) ?_
          refine lv_istore (lv' := [(6, .int (nI 0)), (5, .int (nI 0)), (0, .ref o), (1, .int (nI a)), (2, .int (nI b)), (3, .int (cmpS S a b)), (4, .int (cmpS S b a)), (7, .int (nI i))]) hx hb dL_areCompared_121 hl (by decide) rfl (fun ls hl => ?_)
          refine lv_iinc (v := (nI (i + 1))) (lv' := [(7, .int (nI (i + 1))), (6, .int (nI 0)), (5, .int (nI 0)), (0, .ref o), (1, .int (nI a)), (2, .int (nI b)), (3, .int (cmpS S a b)), (4, .int (cmpS S b a))]) hx hb dL_areCompared_123 hl (k := 7) rfl (nI_add _ _) (by decide) rfl (fun ls hl => ?_)
          refine lv_goto (tgt := 24) hx hb dL_areCompared_126 (by decide) ?_
          have e8 : (nI 0) = bI (allN (insQ S a b) (i + 1)) := by rw [allN_s, cz35, insQ, decide_eq_false cz39, decide_eq_true cz43]; rfl
          have e9 : (nI 0) = bI (allN (lmQ S a b) (i + 1)) := by rw [allN_s, cz44, lmQ, decide_eq_true (Int32.not_lt.mp cz45), decide_eq_false (Int32.not_le.mpr cz46)]; rfl
          have hl : lv_has ls 8 [(7, .int (nI (i + 1))), (6, .int (bI (allN (lmQ S a b) (i + 1)))), (5, .int (bI (allN (insQ S a b) (i + 1)))), (0, .ref o), (1, .int (nI a)), (2, .int (nI b)), (3, .int (cmpS S a b)), (4, .int (cmpS S b a))] := by rw [← e8, ← e9]; exact hl
          exact ih (i + 1) _ _ _ ls (by omega) hI (by omega) hM (lv_sub hl [3, 4, 5, 6, 7, 2, 1, 0] rfl)
        refine lv_iconst (v := (nI 1)) hx hb dL_areCompared_116 (by decide +kernel) ?_
        refine lv_goto (tgt := 121) hx hb dL_areCompared_117 (by decide) ?_
        refine lv_istore (lv' := [(6, .int (nI 1)), (5, .int (nI 0)), (0, .ref o), (1, .int (nI a)), (2, .int (nI b)), (3, .int (cmpS S a b)), (4, .int (cmpS S b a)), (7, .int (nI i))]) hx hb dL_areCompared_121 hl (by decide) rfl (fun ls hl => ?_)
        refine lv_iinc (v := (nI (i + 1))) (lv' := [(7, .int (nI (i + 1))), (6, .int (nI 1)), (5, .int (nI 0)), (0, .ref o), (1, .int (nI a)), (2, .int (nI b)), (3, .int (cmpS S a b)), (4, .int (cmpS S b a))]) hx hb dL_areCompared_123 hl (k := 7) rfl (nI_add _ _) (by decide) rfl (fun ls hl => ?_)
        refine lv_goto (tgt := 24) hx hb dL_areCompared_126 (by decide) ?_
        have e8 : (nI 0) = bI (allN (insQ S a b) (i + 1)) := by rw [allN_s, cz35, insQ, decide_eq_false cz39, decide_eq_true cz43]; rfl
        have e9 : (nI 1) = bI (allN (lmQ S a b) (i + 1)) := by rw [allN_s, cz44, lmQ, decide_eq_true (Int32.not_lt.mp cz45), decide_eq_true (Int32.not_lt.mp cz46)]; rfl
        have hl : lv_has ls 8 [(7, .int (nI (i + 1))), (6, .int (bI (allN (lmQ S a b) (i + 1)))), (5, .int (bI (allN (insQ S a b) (i + 1)))), (0, .ref o), (1, .int (nI a)), (2, .int (nI b)), (3, .int (cmpS S a b)), (4, .int (cmpS S b a))] := by rw [← e8, ← e9]; exact hl
        exact ih (i + 1) _ _ _ ls (by omega) hI (by omega) hM (lv_sub hl [3, 4, 5, 6, 7, 2, 1, 0] rfl)
      refine lv_iconst (v := (nI 1)) hx hb dL_areCompared_70 (by decide +kernel) ?_
      refine lv_goto (tgt := 75) hx hb dL_areCompared_71 (by decide) ?_
      refine lv_istore (lv' := [(5, .int (nI 1)), (0, .ref o), (1, .int (nI a)), (2, .int (nI b)), (3, .int (cmpS S a b)), (4, .int (cmpS S b a)), (6, .int (bI (allN (lmQ S a b) i))), (7, .int (nI i))]) hx hb dL_areCompared_75 hl (by decide) rfl (fun ls hl => ?_)
      refine lv_iload hx hb dL_areCompared_77 (lv_at hl 6 rfl) ?_
      refine lvb_eq (tgt := 120) hx hb dL_areCompared_79 (by decide) (fun cz47 => ?_) (fun cz47 => ?_)
      · refine lv_iconst (v := (nI 0)) hx hb dL_areCompared_120 (by decide +kernel) ?_
        refine lv_istore (lv' := [(6, .int (nI 0)), (5, .int (nI 1)), (0, .ref o), (1, .int (nI a)), (2, .int (nI b)), (3, .int (cmpS S a b)), (4, .int (cmpS S b a)), (7, .int (nI i))]) hx hb dL_areCompared_121 hl (by decide) rfl (fun ls hl => ?_)
        refine lv_iinc (v := (nI (i + 1))) (lv' := [(7, .int (nI (i + 1))), (6, .int (nI 0)), (5, .int (nI 1)), (0, .ref o), (1, .int (nI a)), (2, .int (nI b)), (3, .int (cmpS S a b)), (4, .int (cmpS S b a))]) hx hb dL_areCompared_123 hl (k := 7) rfl (nI_add _ _) (by decide) rfl (fun ls hl => ?_)
        refine lv_goto (tgt := 24) hx hb dL_areCompared_126 (by decide) ?_
        have e8 : (nI 1) = bI (allN (insQ S a b) (i + 1)) := by rw [allN_s, cz35, insQ, decide_eq_false cz39, decide_eq_false cz43]; rfl
        have e9 : (nI 0) = bI (allN (lmQ S a b) (i + 1)) := by rw [allN_s, cz47]; rfl
        have hl : lv_has ls 8 [(7, .int (nI (i + 1))), (6, .int (bI (allN (lmQ S a b) (i + 1)))), (5, .int (bI (allN (insQ S a b) (i + 1)))), (0, .ref o), (1, .int (nI a)), (2, .int (nI b)), (3, .int (cmpS S a b)), (4, .int (cmpS S b a))] := by rw [← e8, ← e9]; exact hl
        exact ih (i + 1) _ _ _ ls (by omega) hI (by omega) hM (lv_sub hl [3, 4, 5, 6, 7, 2, 1, 0] rfl)
      refine lv_aload_n hx hb dL_areCompared_82 rfl (lv_at hl 1 rfl) ?_
      refine lv_iload_n hx hb dL_areCompared_83 rfl (lv_at hl 2 rfl) ?_
      refine lv_iload hx hb dL_areCompared_84 (lv_at hl 7 rfl) ?_
      refine mm_V (As := [.int (nI a), .int (nI i)]) (rest := []) ⟨hx, hb, hml, hown, hts⟩ (p_least l G hI hv (k := a) (by omega) (j := i) (by omega)) (cwV 2 hts gL_areCompared_X5_least rfl rfl rfl (by decide +kernel) ⟨Nat.le_of_ble_eq_true rfl, Nat.le_of_ble_eq_true rfl⟩) hK hE hA hM (mm_recv hK hM ho (q := (RX5, TX5, 7)) rfl) rfl hl.1 rfl (Nat.le_of_ble_eq_true rfl) dL_areCompared_86 ⟨Nat.le_of_ble_eq_true rfl, Nat.le_of_ble_eq_true rfl⟩ (fun v f Hp lcs hp hM => ?_)
      obtain ⟨rfl, hI⟩ := hp
      obtain ⟨vso, ho⟩ := hI.obj
      refine lv_aload_n hx hb dL_areCompared_89 rfl (lv_at hl 1 rfl) ?_
      refine lv_iload_n hx hb dL_areCompared_90 rfl (lv_at hl 3 rfl) ?_
      refine lv_iload hx hb dL_areCompared_91 (lv_at hl 7 rfl) ?_
      refine mm_V (As := [.int (nI b), .int (nI i)]) (rest := [.int (S (57 + 66 * a + (52 + i)))]) ⟨hx, hb, hml, hown, hts⟩ (p_greatest l G hI hv (k := b) (by omega) (j := i) (by omega)) (cwV 2 hts gL_areCompared_X5_greatest rfl rfl rfl (by decide +kernel) ⟨Nat.le_of_ble_eq_true rfl, Nat.le_of_ble_eq_true rfl⟩) hK hE hA hM (mm_recv hK hM ho (q := (RX5, TX5, 7)) rfl) rfl hl.1 rfl (Nat.le_of_ble_eq_true rfl) dL_areCompared_93 ⟨Nat.le_of_ble_eq_true rfl, Nat.le_of_ble_eq_true rfl⟩ (fun v f Hp lcs hp hM => ?_)
      obtain ⟨rfl, hI⟩ := hp
      obtain ⟨vso, ho⟩ := hI.obj
      refine lv_icmp_gt (tgt := 120) hx hb dL_areCompared_96 (by decide) (fun cz48 => ?_) (fun cz48 => ?_)
      · refine lv_iconst (v := (nI 0)) hx hb dL_areCompared_120 (by decide +kernel) ?_
        refine lv_istore (lv' := [(6, .int (nI 0)), (5, .int (nI 1)), (0, .ref o), (1, .int (nI a)), (2, .int (nI b)), (3, .int (cmpS S a b)), (4, .int (cmpS S b a)), (7, .int (nI i))]) hx hb dL_areCompared_121 hl (by decide) rfl (fun ls hl => ?_)
        refine lv_iinc (v := (nI (i + 1))) (lv' := [(7, .int (nI (i + 1))), (6, .int (nI 0)), (5, .int (nI 1)), (0, .ref o), (1, .int (nI a)), (2, .int (nI b)), (3, .int (cmpS S a b)), (4, .int (cmpS S b a))]) hx hb dL_areCompared_123 hl (k := 7) rfl (nI_add _ _) (by decide) rfl (fun ls hl => ?_)
        refine lv_goto (tgt := 24) hx hb dL_areCompared_126 (by decide) ?_
        have e8 : (nI 1) = bI (allN (insQ S a b) (i + 1)) := by rw [allN_s, cz35, insQ, decide_eq_false cz39, decide_eq_false cz43]; rfl
        have e9 : (nI 0) = bI (allN (lmQ S a b) (i + 1)) := by rw [allN_s, cz47, lmQ, decide_eq_false (Int32.not_le.mpr cz48)]; rfl
        have hl : lv_has ls 8 [(7, .int (nI (i + 1))), (6, .int (bI (allN (lmQ S a b) (i + 1)))), (5, .int (bI (allN (insQ S a b) (i + 1)))), (0, .ref o), (1, .int (nI a)), (2, .int (nI b)), (3, .int (cmpS S a b)), (4, .int (cmpS S b a))] := by rw [← e8, ← e9]; exact hl
        exact ih (i + 1) _ _ _ ls (by omega) hI (by omega) hM (lv_sub hl [3, 4, 5, 6, 7, 2, 1, 0] rfl)
      refine lv_aload_n hx hb dL_areCompared_99 rfl (lv_at hl 1 rfl) ?_
      refine lv_iload_n hx hb dL_areCompared_100 rfl (lv_at hl 3 rfl) ?_
      refine lv_iload hx hb dL_areCompared_101 (lv_at hl 7 rfl) ?_
      refine mm_V (As := [.int (nI b), .int (nI i)]) (rest := []) ⟨hx, hb, hml, hown, hts⟩ (p_least l G hI hv (k := b) (by omega) (j := i) (by omega)) (cwV 2 hts gL_areCompared_X5_least rfl rfl rfl (by decide +kernel) ⟨Nat.le_of_ble_eq_true rfl, Nat.le_of_ble_eq_true rfl⟩) hK hE hA hM (mm_recv hK hM ho (q := (RX5, TX5, 7)) rfl) rfl hl.1 rfl (Nat.le_of_ble_eq_true rfl) dL_areCompared_103 ⟨Nat.le_of_ble_eq_true rfl, Nat.le_of_ble_eq_true rfl⟩ (fun v f Hp lcs hp hM => ?_)
      obtain ⟨rfl, hI⟩ := hp
      obtain ⟨vso, ho⟩ := hI.obj
      refine lv_aload_n hx hb dL_areCompared_106 rfl (lv_at hl 1 rfl) ?_
      refine lv_iload_n hx hb dL_areCompared_107 rfl (lv_at hl 2 rfl) ?_
      refine lv_iload hx hb dL_areCompared_108 (lv_at hl 7 rfl) ?_
      refine mm_V (As := [.int (nI a), .int (nI i)]) (rest := [.int (S (57 + 66 * b + (52 + i)))]) ⟨hx, hb, hml, hown, hts⟩ (p_greatest l G hI hv (k := a) (by omega) (j := i) (by omega)) (cwV 2 hts gL_areCompared_X5_greatest rfl rfl rfl (by decide +kernel) ⟨Nat.le_of_ble_eq_true rfl, Nat.le_of_ble_eq_true rfl⟩) hK hE hA hM (mm_recv hK hM ho (q := (RX5, TX5, 7)) rfl) rfl hl.1 rfl (Nat.le_of_ble_eq_true rfl) dL_areCompared_110 ⟨Nat.le_of_ble_eq_true rfl, Nat.le_of_ble_eq_true rfl⟩ (fun v f Hp lcs hp hM => ?_)
      obtain ⟨rfl, hI⟩ := hp
      obtain ⟨vso, ho⟩ := hI.obj
      refine lv_icmp_gt (tgt := 120) hx hb dL_areCompared_113 (by decide) (fun cz49 => ?_) (fun cz49 => ?_)
      · refine lv_iconst (v := (nI 0)) hx hb dL_areCompared_120 (by decide +kernel) ?_
        refine lv_istore (lv' := [(6, .int (nI 0)), (5, .int (nI 1)), (0, .ref o), (1, .int (nI a)), (2, .int (nI b)), (3, .int (cmpS S a b)), (4, .int (cmpS S b a)), (7, .int (nI i))]) hx hb dL_areCompared_121 hl (by decide) rfl (fun ls hl => ?_)
        refine lv_iinc (v := (nI (i + 1))) (lv' := [(7, .int (nI (i + 1))), (6, .int (nI 0)), (5, .int (nI 1)), (0, .ref o), (1, .int (nI a)), (2, .int (nI b)), (3, .int (cmpS S a b)), (4, .int (cmpS S b a))]) hx hb dL_areCompared_123 hl (k := 7) rfl (nI_add _ _) (by decide) rfl (fun ls hl => ?_)
        refine lv_goto (tgt := 24) hx hb dL_areCompared_126 (by decide) ?_
        have e8 : (nI 1) = bI (allN (insQ S a b) (i + 1)) := by rw [allN_s, cz35, insQ, decide_eq_false cz39, decide_eq_false cz43]; rfl
        have e9 : (nI 0) = bI (allN (lmQ S a b) (i + 1)) := by rw [allN_s, cz47, lmQ, decide_eq_true (Int32.not_lt.mp cz48), decide_eq_false (Int32.not_le.mpr cz49)]; rfl
        have hl : lv_has ls 8 [(7, .int (nI (i + 1))), (6, .int (bI (allN (lmQ S a b) (i + 1)))), (5, .int (bI (allN (insQ S a b) (i + 1)))), (0, .ref o), (1, .int (nI a)), (2, .int (nI b)), (3, .int (cmpS S a b)), (4, .int (cmpS S b a))] := by rw [← e8, ← e9]; exact hl
        exact ih (i + 1) _ _ _ ls (by omega) hI (by omega) hM (lv_sub hl [3, 4, 5, 6, 7, 2, 1, 0] rfl)
      refine lv_iconst (v := (nI 1)) hx hb dL_areCompared_116 (by decide +kernel) ?_
      refine lv_goto (tgt := 121) hx hb dL_areCompared_117 (by decide) ?_
      refine lv_istore (lv' := [(6, .int (nI 1)), (5, .int (nI 1)), (0, .ref o), (1, .int (nI a)), (2, .int (nI b)), (3, .int (cmpS S a b)), (4, .int (cmpS S b a)), (7, .int (nI i))]) hx hb dL_areCompared_121 hl (by decide) rfl (fun ls hl => ?_)
      refine lv_iinc (v := (nI (i + 1))) (lv' := [(7, .int (nI (i + 1))), (6, .int (nI 1)), (5, .int (nI 1)), (0, .ref o), (1, .int (nI a)), (2, .int (nI b)), (3, .int (cmpS S a b)), (4, .int (cmpS S b a))]) hx hb dL_areCompared_123 hl (k := 7) rfl (nI_add _ _) (by decide) rfl (fun ls hl => ?_)
      refine lv_goto (tgt := 24) hx hb dL_areCompared_126 (by decide) ?_
      have e8 : (nI 1) = bI (allN (insQ S a b) (i + 1)) := by rw [allN_s, cz35, insQ, decide_eq_false cz39, decide_eq_false cz43]; rfl
      have e9 : (nI 1) = bI (allN (lmQ S a b) (i + 1)) := by rw [allN_s, cz47, lmQ, decide_eq_true (Int32.not_lt.mp cz48), decide_eq_true (Int32.not_lt.mp cz49)]; rfl
      have hl : lv_has ls 8 [(7, .int (nI (i + 1))), (6, .int (bI (allN (lmQ S a b) (i + 1)))), (5, .int (bI (allN (insQ S a b) (i + 1)))), (0, .ref o), (1, .int (nI a)), (2, .int (nI b)), (3, .int (cmpS S a b)), (4, .int (cmpS S b a))] := by rw [← e8, ← e9]; exact hl
      exact ih (i + 1) _ _ _ ls (by omega) hI (by omega) hM (lv_sub hl [3, 4, 5, 6, 7, 2, 1, 0] rfl)
  exact loopZ 8 0 _ _ _ ls (Nat.zero_le _) hI (by omega) hM (lv_sub hl [5, 6, 7, 4, 3, 2, 1, 0] rfl)
set_option maxHeartbeats 4000000 in
set_option maxRecDepth 100000 in
theorem l_areContradictions (l : Launch) (G : mG) {f : mE} {o : Nat} {S P : Nat → Int32} {rc n cn : Nat} (hI : CI G f o S P rc) (hv : VSn S n cn) : mC l G yL_areContradictions wsL_areContradictions ({ frames := 5, cells := 0, slots := 0, locals := 116 } : Room) f [.ref o] (fun v f1 => v = some (.int (nI 1)) ∧ CI G f1 o S P rc) 0 0 := by
  refine mC.of (cc := cL_areContradictions) (maxL := 7) (ret := (some .boolean)) (by decide) rfl (Nat.le_of_ble_eq_true rfl) ?_
  intro pgm env s mt args below meth c A ls hx hb hml hr hlocks hown hname hts hK hE hA hM hl
  have hl : lv_has ls 7 [(0, .ref o)] := hl
  obtain ⟨vso, ho⟩ := hI.obj
  have hn16 := hv.2.1
  refine lv_iconst (v := (-1)) hx hb dL_areContradictions_0 (by decide +kernel) ?_
  refine lv_istore_n (lv' := [(1, .int (-1)), (0, .ref o)]) hx hb dL_areContradictions_1 rfl hl (by decide) rfl (fun ls hl => ?_)
  refine lv_aload_n hx hb dL_areContradictions_2 rfl (lv_at hl 1 rfl) ?_
  refine lv_iconst (v := (-1)) hx hb dL_areContradictions_3 (by decide +kernel) ?_
  refine mm_V (As := [.int (-1)]) (rest := []) ⟨hx, hb, hml, hown, hts⟩ (p_contradiction l G hI hv (-1)) (cwV 1 hts gL_areContradictions_X5_contradiction rfl rfl rfl (by decide +kernel) ⟨Nat.le_of_ble_eq_true rfl, Nat.le_of_ble_eq_true rfl⟩) hK hE hA hM (mm_recv hK hM ho (q := (RX5, TX5, 7)) rfl) rfl hl.1 rfl (Nat.le_of_ble_eq_true rfl) dL_areContradictions_4 ⟨Nat.le_of_ble_eq_true rfl, Nat.le_of_ble_eq_true rfl⟩ (fun v f Hp lcs hp hM => ?_)
  obtain ⟨rfl, hI⟩ := hp
  obtain ⟨vso, ho⟩ := hI.obj
  refine lv_ldc (v := (-100002)) hx hb hown (hts (.constant RL 88 (-100002)) (List.mem_of_getElem? (i := 1) rfl)) dL_areContradictions_7 ?_
  refine lv_icmp_ne (tgt := 16) hx hb dL_areContradictions_9 (by decide) (fun hq9 => absurd hq9 (not_not_intro (by rw [ctdX, if_neg (by decide)]))) (fun _ => ?_)
  refine lv_iconst (v := (nI 1)) hx hb dL_areContradictions_12 (by decide +kernel) ?_
  refine lv_goto (tgt := 17) hx hb dL_areContradictions_13 (by decide) ?_
  refine lv_istore_n (lv' := [(2, .int (nI 1)), (1, .int (-1)), (0, .ref o)]) hx hb dL_areContradictions_17 rfl hl (by decide) rfl (fun ls hl => ?_)
  refine lv_iconst (v := (nI 0)) hx hb dL_areContradictions_18 (by decide +kernel) ?_
  refine lv_istore_n (lv' := [(3, .int (nI 0)), (2, .int (nI 1)), (1, .int (-1)), (0, .ref o)]) hx hb dL_areContradictions_19 rfl hl (by decide) rfl (fun ls hl => ?_)
  have loopZ : ∀ (fuel : Nat) (i : Nat) (la : Int32) (f : mE) (Hp : Heap) (lcs : List Loc) (ls : Array Slot) (hi9 : i ≤ 120) (hI : CI G f o S P rc) (hla : ∀ v, (ctdL S n)[i]? = some v → la < nI v) (hfu : 200 - i < fuel) (hM : mM G A s.heap f Hp lcs) (hl : lv_has ls 7 [(0, .ref o), (1, .int la), (2, .int (nI 1)), (3, .int (nI i))]), W pgm l env ({ frames := 5, cells := 0, slots := 0, locals := 116 } : Room) s mt args below meth c Hp lcs 0 0 (MQ below (mQc G A (fun v f1 => v = some (.int (nI 1)) ∧ CI G f1 o S P rc)) args s 0 0 A) (F0 mt 20 ls []) := by
    intro fuel
    induction fuel with
    | zero => intro i la f Hp lcs ls hi9 hI hla hfu; exact absurd hfu (Nat.not_lt_zero _)
    | succ fuel ih =>
      intro i la f Hp lcs ls hi9 hI hla hfu hM hl
      obtain ⟨vso, ho⟩ := hI.obj
      refine lv_iload_n hx hb dL_areContradictions_20 rfl (lv_at hl 3 rfl) ?_
      refine lv_bipush (v := (nI 120)) hx hb dL_areContradictions_21 (by decide +kernel) ?_
      refine ln_icmp_ge i 120 (by omega) (by omega) (tgt := 131) hx hb dL_areContradictions_23 (by decide) (fun cz1 => ?_) (fun cz1 => ?_)
      · refine lv_iload_n hx hb dL_areContradictions_131 rfl (lv_at hl 2 rfl) ?_
        exact mm_zret hx hb hlocks hr (by first | rfl | exact bI_nar _) (Nat.le_of_ble_eq_true rfl) (Nat.le_of_ble_eq_true rfl) hM (⟨rfl, hI⟩) dL_areContradictions_132
      refine lv_aload_n hx hb dL_areContradictions_26 rfl (lv_at hl 0 rfl) ?_
      refine lv_iload_n hx hb dL_areContradictions_27 rfl (lv_at hl 3 rfl) ?_
      refine mm_V (As := [.int (nI i)]) (rest := []) ⟨hx, hb, hml, hown, hts⟩ (p_contradiction l G hI hv (nI i)) (cwV 1 hts gL_areContradictions_X5_contradiction rfl rfl rfl (by decide +kernel) ⟨Nat.le_of_ble_eq_true rfl, Nat.le_of_ble_eq_true rfl⟩) hK hE hA hM (mm_recv hK hM ho (q := (RX5, TX5, 7)) rfl) rfl hl.1 rfl (Nat.le_of_ble_eq_true rfl) dL_areContradictions_28 ⟨Nat.le_of_ble_eq_true rfl, Nat.le_of_ble_eq_true rfl⟩ (fun v f Hp lcs hp hM => ?_)
      obtain ⟨rfl, hI⟩ := hp
      obtain ⟨vso, ho⟩ := hI.obj
      have hcx := ctdX_at (S := S) hn16 (i := i) (by omega)
      cases hg : (ctdL S n)[i]? with
      | none =>
        have hcx : ctdX S n (nI i) = -100005 := by rw [hcx, hg]; rfl
        refine mv_top (y := -100005) hcx ?_
        refine lv_ldc (v := (-100005)) hx hb hown (hts (.constant RL 40 (-100005)) (List.mem_of_getElem? (i := 2) rfl)) dL_areContradictions_31 ?_
        refine lv_icmp_eq (tgt := 131) hx hb dL_areContradictions_33 (by decide) (fun _ => ?_) (fun hq9 => absurd hq9 (not_not_intro rfl))
        refine lv_iload_n hx hb dL_areContradictions_131 rfl (lv_at hl 2 rfl) ?_
        exact mm_zret hx hb hlocks hr (by first | rfl | exact bI_nar _) (Nat.le_of_ble_eq_true rfl) (Nat.le_of_ble_eq_true rfl) hM (⟨rfl, hI⟩) dL_areContradictions_132
      | some pz =>
        have hpz := hg
        have hcx : ctdX S n (nI i) = nI pz := by rw [hcx, hg]; rfl
        obtain ⟨ca, cb, c1, c2, c3, c4⟩ := ctdL_at hn16 hpz
        obtain ⟨d1, d2, d3, d4⟩ := ctdB_cmp (by omega) c3
        have hpl := ctdL_mem hn16 hpz
        refine mv_top (y := nI pz) hcx ?_
        refine lv_ldc (v := (-100005)) hx hb hown (hts (.constant RL 40 (-100005)) (List.mem_of_getElem? (i := 2) rfl)) dL_areContradictions_31 ?_
        refine lv_icmp_eq (tgt := 131) hx hb dL_areContradictions_33 (by decide) (fun hq9 => absurd hq9 (nI_no5 (by omega))) (fun _ => ?_)
        refine lv_aload_n hx hb dL_areContradictions_36 rfl (lv_at hl 0 rfl) ?_
        refine lv_iload_n hx hb dL_areContradictions_37 rfl (lv_at hl 3 rfl) ?_
        refine mm_V (As := [.int (nI i)]) (rest := []) ⟨hx, hb, hml, hown, hts⟩ (p_contradiction l G hI hv (nI i)) (cwV 1 hts gL_areContradictions_X5_contradiction rfl rfl rfl (by decide +kernel) ⟨Nat.le_of_ble_eq_true rfl, Nat.le_of_ble_eq_true rfl⟩) hK hE hA hM (mm_recv hK hM ho (q := (RX5, TX5, 7)) rfl) rfl hl.1 rfl (Nat.le_of_ble_eq_true rfl) dL_areContradictions_38 ⟨Nat.le_of_ble_eq_true rfl, Nat.le_of_ble_eq_true rfl⟩ (fun v f Hp lcs hp hM => ?_)
        obtain ⟨rfl, hI⟩ := hp
        obtain ⟨vso, ho⟩ := hI.obj
        refine mv_top (y := (nI pz)) hcx ?_
        refine lv_istore (lv' := [(4, .int (nI pz)), (0, .ref o), (1, .int la), (2, .int (nI 1)), (3, .int (nI i))]) hx hb dL_areContradictions_41 hl (by decide) rfl (fun ls hl => ?_)
        refine lv_iload hx hb dL_areContradictions_43 (lv_at hl 0 rfl) ?_
        refine lv_bipush (v := (nI 100)) hx hb dL_areContradictions_45 (by decide +kernel) ?_
        refine ln_idiv pz 100 (by omega) (by omega) (by omega) hx hb dL_areContradictions_47 ?_
        refine mv_top (y := (nI ca)) (by congr 1; omega) ?_
        refine lv_istore (lv' := [(5, .int (nI ca)), (4, .int (nI pz)), (0, .ref o), (1, .int la), (2, .int (nI 1)), (3, .int (nI i))]) hx hb dL_areContradictions_48 hl (by decide) rfl (fun ls hl => ?_)
        refine lv_iload hx hb dL_areContradictions_50 (lv_at hl 1 rfl) ?_
        refine lv_bipush (v := (nI 100)) hx hb dL_areContradictions_52 (by decide +kernel) ?_
        refine ln_irem pz 100 (by omega) (by omega) (by omega) hx hb dL_areContradictions_54 ?_
        refine mv_top (y := (nI cb)) (by congr 1; omega) ?_
        refine lv_istore (lv' := [(6, .int (nI cb)), (5, .int (nI ca)), (4, .int (nI pz)), (0, .ref o), (1, .int la), (2, .int (nI 1)), (3, .int (nI i))]) hx hb dL_areContradictions_55 hl (by decide) rfl (fun ls hl => ?_)
        refine lv_iload_n hx hb dL_areContradictions_57 rfl (lv_at hl 5 rfl) ?_
        refine lv_if_eq (tgt := 120) hx hb dL_areContradictions_58 (by decide) (fun hq9 => absurd hq9 (by decide)) (fun _ => ?_)
        refine lv_iload hx hb dL_areContradictions_61 (lv_at hl 2 rfl) ?_
        refine lv_iload_n hx hb dL_areContradictions_63 rfl (lv_at hl 4 rfl) ?_
        refine lv_icmp_le (tgt := 120) hx hb dL_areContradictions_64 (by decide) (fun hq9 => absurd hq9 (Int32.not_le.mpr (hla pz hpz))) (fun _ => ?_)
        refine lv_iload hx hb dL_areContradictions_67 (lv_at hl 1 rfl) ?_
        refine lv_iload hx hb dL_areContradictions_69 (lv_at hl 0 rfl) ?_
        refine ln_icmp_ge ca cb (by omega) (by omega) (tgt := 120) hx hb dL_areContradictions_71 (by decide) (fun hq9 => absurd hq9 (by omega)) (fun _ => ?_)
        refine lv_aload_n hx hb dL_areContradictions_74 rfl (lv_at hl 3 rfl) ?_
        refine lv_iload hx hb dL_areContradictions_75 (lv_at hl 1 rfl) ?_
        refine mm_V (As := [.int (nI ca)]) (rest := []) ⟨hx, hb, hml, hown, hts⟩ (p_about l G hI hv (k := ca) (by omega)) (cwV 1 hts gL_areContradictions_X5_about rfl rfl rfl (by decide +kernel) ⟨Nat.le_of_ble_eq_true rfl, Nat.le_of_ble_eq_true rfl⟩) hK hE hA hM (mm_recv hK hM ho (q := (RX5, TX5, 7)) rfl) rfl hl.1 rfl (Nat.le_of_ble_eq_true rfl) dL_areContradictions_77 ⟨Nat.le_of_ble_eq_true rfl, Nat.le_of_ble_eq_true rfl⟩ (fun v f Hp lcs hp hM => ?_)
        obtain ⟨rfl, hI⟩ := hp
        obtain ⟨vso, ho⟩ := hI.obj
        refine lv_aload_n hx hb dL_areContradictions_80 rfl (lv_at hl 3 rfl) ?_
        refine lv_iload hx hb dL_areContradictions_81 (lv_at hl 0 rfl) ?_
        refine mm_V (As := [.int (nI cb)]) (rest := [.int (S (57 + 66 * ca + 49))]) ⟨hx, hb, hml, hown, hts⟩ (p_about l G hI hv (k := cb) (by omega)) (cwV 1 hts gL_areContradictions_X5_about rfl rfl rfl (by decide +kernel) ⟨Nat.le_of_ble_eq_true rfl, Nat.le_of_ble_eq_true rfl⟩) hK hE hA hM (mm_recv hK hM ho (q := (RX5, TX5, 7)) rfl) rfl hl.1 rfl (Nat.le_of_ble_eq_true rfl) dL_areContradictions_83 ⟨Nat.le_of_ble_eq_true rfl, Nat.le_of_ble_eq_true rfl⟩ (fun v f Hp lcs hp hM => ?_)
        obtain ⟨rfl, hI⟩ := hp
        obtain ⟨vso, ho⟩ := hI.obj
        refine lv_icmp_ne (tgt := 120) hx hb dL_areContradictions_86 (by decide) (fun hq9 => absurd hq9 (not_not_intro d1.symm)) (fun _ => ?_)
        refine lv_aload_n hx hb dL_areContradictions_89 rfl (lv_at hl 3 rfl) ?_
        refine lv_iload hx hb dL_areContradictions_90 (lv_at hl 1 rfl) ?_
        refine mm_V (As := [.int (nI ca)]) (rest := []) ⟨hx, hb, hml, hown, hts⟩ (p_gives l G hI hv (k := ca) (by omega)) (cwV 1 hts gL_areContradictions_X5_gives rfl rfl rfl (by decide +kernel) ⟨Nat.le_of_ble_eq_true rfl, Nat.le_of_ble_eq_true rfl⟩) hK hE hA hM (mm_recv hK hM ho (q := (RX5, TX5, 7)) rfl) rfl hl.1 rfl (Nat.le_of_ble_eq_true rfl) dL_areContradictions_92 ⟨Nat.le_of_ble_eq_true rfl, Nat.le_of_ble_eq_true rfl⟩ (fun v f Hp lcs hp hM => ?_)
        obtain ⟨rfl, hI⟩ := hp
        obtain ⟨vso, ho⟩ := hI.obj
        refine lv_aload_n hx hb dL_areContradictions_95 rfl (lv_at hl 3 rfl) ?_
        refine lv_iload hx hb dL_areContradictions_96 (lv_at hl 0 rfl) ?_
        refine mm_V (As := [.int (nI cb)]) (rest := [.int (S (57 + 66 * ca + 50))]) ⟨hx, hb, hml, hown, hts⟩ (p_gives l G hI hv (k := cb) (by omega)) (cwV 1 hts gL_areContradictions_X5_gives rfl rfl rfl (by decide +kernel) ⟨Nat.le_of_ble_eq_true rfl, Nat.le_of_ble_eq_true rfl⟩) hK hE hA hM (mm_recv hK hM ho (q := (RX5, TX5, 7)) rfl) rfl hl.1 rfl (Nat.le_of_ble_eq_true rfl) dL_areContradictions_98 ⟨Nat.le_of_ble_eq_true rfl, Nat.le_of_ble_eq_true rfl⟩ (fun v f Hp lcs hp hM => ?_)
        obtain ⟨rfl, hI⟩ := hp
        obtain ⟨vso, ho⟩ := hI.obj
        refine lv_icmp_eq (tgt := 120) hx hb dL_areContradictions_101 (by decide) (fun hq9 => absurd hq9 d3) (fun _ => ?_)
        refine lv_aload_n hx hb dL_areContradictions_104 rfl (lv_at hl 3 rfl) ?_
        refine lv_iload hx hb dL_areContradictions_105 (lv_at hl 1 rfl) ?_
        refine lv_iload hx hb dL_areContradictions_107 (lv_at hl 0 rfl) ?_
        refine mm_V (As := [.int (nI ca), .int (nI cb)]) (rest := []) ⟨hx, hb, hml, hown, hts⟩ (p_compare l G hI hv (a := ca) (b := cb) (by omega) (by omega)) (cwV 2 hts gL_areContradictions_X5_compare rfl rfl rfl (by decide +kernel) ⟨Nat.le_of_ble_eq_true rfl, Nat.le_of_ble_eq_true rfl⟩) hK hE hA hM (mm_recv hK hM ho (q := (RX5, TX5, 7)) rfl) rfl hl.1 rfl (Nat.le_of_ble_eq_true rfl) dL_areContradictions_109 ⟨Nat.le_of_ble_eq_true rfl, Nat.le_of_ble_eq_true rfl⟩ (fun v f Hp lcs hp hM => ?_)
        obtain ⟨rfl, hI⟩ := hp
        obtain ⟨vso, ho⟩ := hI.obj
        refine mv_top (y := (nI 3)) d4 ?_
        refine lv_iconst (v := (nI 3)) hx hb dL_areContradictions_112 (by decide +kernel) ?_
        refine ln_icmp_ne 3 3 (by omega) (by omega) (tgt := 120) hx hb dL_areContradictions_113 (by decide) (fun hq9 => absurd hq9 (by omega)) (fun _ => ?_)
        refine lv_iconst (v := (nI 1)) hx hb dL_areContradictions_116 (by decide +kernel) ?_
        refine lv_goto (tgt := 121) hx hb dL_areContradictions_117 (by decide) ?_
        refine lv_istore_n (lv' := [(2, .int (nI 1)), (6, .int (nI cb)), (5, .int (nI ca)), (4, .int (nI pz)), (0, .ref o), (1, .int la), (3, .int (nI i))]) hx hb dL_areContradictions_121 rfl hl (by decide) rfl (fun ls hl => ?_)
        refine lv_iload hx hb dL_areContradictions_122 (lv_at hl 3 rfl) ?_
        refine lv_istore_n (lv' := [(1, .int (nI pz)), (2, .int (nI 1)), (6, .int (nI cb)), (5, .int (nI ca)), (4, .int (nI pz)), (0, .ref o), (3, .int (nI i))]) hx hb dL_areContradictions_124 rfl hl (by decide) rfl (fun ls hl => ?_)
        refine lv_iinc (v := (nI (i + 1))) (lv' := [(3, .int (nI (i + 1))), (1, .int (nI pz)), (2, .int (nI 1)), (6, .int (nI cb)), (5, .int (nI ca)), (4, .int (nI pz)), (0, .ref o)]) hx hb dL_areContradictions_125 hl (k := 6) rfl (nI_add _ _) (by decide) rfl (fun ls hl => ?_)
        refine lv_goto (tgt := 20) hx hb dL_areContradictions_128 (by decide) ?_
        have hla2 : ∀ v, (ctdL S n)[i + 1]? = some v → nI pz < nI v := fun v hv2 => (nI_ltI (by omega) (by have := ctdL_mem hn16 hv2; omega)).mpr (ctdL_lt hn16 hpz hv2)
        exact ih (i + 1) (nI pz) _ _ _ ls (by omega) hI hla2 (by omega) hM (lv_sub hl [6, 1, 2, 0] rfl)
  exact loopZ 201 0 (-1) _ _ _ ls (Nat.zero_le _) hI (fun v hv2 => neg1_lt (by have := ctdL_mem hn16 hv2; omega)) (by omega) hM (lv_sub hl [3, 2, 1, 0] rfl)
