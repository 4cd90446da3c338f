/-! THE LAW's own methods: the script's cells, a sentence that matters -/
set_option maxHeartbeats 4000000 in
set_option maxRecDepth 100000 in
theorem l_cell (l : Launch) (G : mG) (f : mE) {b L : Nat} {xs : Nat → Int32} (hL : L ≤ 260) (k : Nat) (hk : k < 100) : ∃ V : Int32, mCX l G yL_cell wsL_cell ({ frames := 0, cells := 0, slots := 0, locals := 0 } : Room) f b L xs [.ref b, .int (nI k)] (fun v f1 => v = some (.int V) ∧ f = f1) 0 0 := by
  by_cases h : k < L
  · refine ⟨xs (nI k).toNatClampNeg, mCX.of (cc := cL_cell) (maxL := 2) (ret := (some .int)) (by decide) rfl (Nat.le_of_ble_eq_true rfl) ?_⟩
    intro pgm env s mt args below meth c A ls hx hb hml hr hlocks hown hname hts hK hE hA hM hX hbl hbA hl
    have hl : lv_has ls 2 [(0, .ref b), (1, .int (nI k))] := hl
    refine lv_iload_n hx hb dL_cell_0 rfl (lv_at hl 1 rfl) ?_
    refine lv_aload_n hx hb dL_cell_1 rfl (lv_at hl 0 rfl) ?_
    refine va_slen hx hb hX hbl hbA hM.2 dL_cell_2 ?_
    refine mv_top (y := nI L) rfl ?_
    refine ln_icmp_ge k L (by omega) (by omega) (tgt := 12) hx hb dL_cell_3 (by decide) (fun hq9 => absurd hq9 (by omega)) (fun _ => ?_)
    refine lv_aload_n hx hb dL_cell_6 rfl (lv_at hl 0 rfl) ?_
    refine lv_iload_n hx hb dL_cell_7 rfl (lv_at hl 1 rfl) ?_
    refine va_sld hx hb hX hbl hbA hM.2 (vp_in_nI (by omega) (by omega)) dL_cell_8 ?_
    refine lv_goto (tgt := 18) hx hb dL_cell_9 (by decide) ?_
    exact mm_iret hx hb hlocks hr (Nat.le_of_ble_eq_true rfl) (Nat.le_of_ble_eq_true rfl) hM ⟨rfl, rfl⟩ dL_cell_18
  · refine ⟨nI 747796405 * nI (k + 1), mCX.of (cc := cL_cell) (maxL := 2) (ret := (some .int)) (by decide) rfl (Nat.le_of_ble_eq_true rfl) ?_⟩
    intro pgm env s mt args below meth c A ls hx hb hml hr hlocks hown hname hts hK hE hA hM hX hbl hbA hl
    have hl : lv_has ls 2 [(0, .ref b), (1, .int (nI k))] := hl
    refine lv_iload_n hx hb dL_cell_0 rfl (lv_at hl 1 rfl) ?_
    refine lv_aload_n hx hb dL_cell_1 rfl (lv_at hl 0 rfl) ?_
    refine va_slen hx hb hX hbl hbA hM.2 dL_cell_2 ?_
    refine mv_top (y := nI L) rfl ?_
    refine ln_icmp_ge k L (by omega) (by omega) (tgt := 12) hx hb dL_cell_3 (by decide) (fun _ => ?_) (fun hq9 => absurd hq9 (by omega))
    refine lv_ldc (v := (nI 747796405)) hx hb hown (hts (.constant RL 7 (747796405)) (List.mem_of_getElem? (i := 1) rfl)) dL_cell_12 ?_
    refine lv_iload_n hx hb dL_cell_14 rfl (lv_at hl 1 rfl) ?_
    refine lv_iconst (v := (nI 1)) hx hb dL_cell_15 (by decide +kernel) ?_
    refine ln_iadd k 1 hx hb dL_cell_16 ?_
    refine lv_imul hx hb dL_cell_17 ?_
    exact mm_iret hx hb hlocks hr (Nat.le_of_ble_eq_true rfl) (Nat.le_of_ble_eq_true rfl) hM ⟨rfl, rfl⟩ dL_cell_18
set_option maxHeartbeats 4000000 in
set_option maxRecDepth 100000 in
theorem l_isMatter (l : Launch) (G : mG) {f : mE} {o : Nat} {S P : Nat → Int32} {rc n cn : Nat} (hI : CI G f o S P rc) (hv : VSn S n cn) (hAB : ABs S n) {k : Nat} (hk : k < n) : mC l G yL_isMatter wsL_isMatter ({ frames := 6, cells := 7, slots := 82, locals := 148 } : Room) f [.ref o, .int (nI k)] (fun v f1 => v = some (.int (nI 1)) ∧ ∃ P1 rc1, CI G f1 o S P1 rc1) 7 82 := by
  refine mC.of (cc := cL_isMatter) (maxL := 7) (ret := (some .boolean)) (by decide) rfl (Nat.le_of_ble_eq_true rfl) ?_
  intro pgm env s mt args below meth c A ls hx hb hml hr hlocks hown hname hts hK hE hA hM hl
  have hl : lv_has ls 7 [(0, .ref o), (1, .int (nI k))] := hl
  obtain ⟨vso, ho⟩ := hI.obj
  have hn16 := hv.2.1
  have hr8 := hI.le8
  obtain ⟨q9, hq9, hq8⟩ := recN_s hr8
  refine lv_aload_n hx hb dL_isMatter_0 rfl (lv_at hl 0 rfl) ?_
  refine lv_iload_n hx hb dL_isMatter_1 rfl (lv_at hl 1 rfl) ?_
  refine mm_V (As := [.int (nI k)]) (rest := []) ⟨hx, hb, hml, hown, hts⟩ (p_matters l G hI hv (k := k) (by omega)) (cwV 1 hts gL_isMatter_X5_matters rfl rfl rfl (by decide +kernel) ⟨Nat.le_of_ble_eq_true rfl, Nat.le_of_ble_eq_true rfl⟩) hK hE hA hM (mm_recv hK hM ho (q := (RX5, TX5, 7)) rfl) rfl hl.1 rfl (Nat.le_of_ble_eq_true rfl) dL_isMatter_2 ⟨Nat.le_of_ble_eq_true rfl, Nat.le_of_ble_eq_true rfl⟩ (fun v f Hp lcs hp hM => ?_)
  obtain ⟨rfl, hI⟩ := hp
  obtain ⟨vso, ho⟩ := hI.obj
  refine lv_istore_n (lv' := [(2, .int (matI S n k)), (0, .ref o), (1, .int (nI k))]) hx hb dL_isMatter_5 rfl hl (by decide) rfl (fun ls hl => ?_)
  refine lv_aload_n hx hb dL_isMatter_6 rfl (lv_at hl 1 rfl) ?_
  refine lv_iload_n hx hb dL_isMatter_7 rfl (lv_at hl 2 rfl) ?_
  refine mm_V (As := [.int (nI k)]) (rest := []) ⟨hx, hb, hml, hown, hts⟩ (p_about l G hI hv (k := k) (by omega)) (cwV 1 hts gL_isMatter_X5_about rfl rfl rfl (by decide +kernel) ⟨Nat.le_of_ble_eq_true rfl, Nat.le_of_ble_eq_true rfl⟩) hK hE hA hM (mm_recv hK hM ho (q := (RX5, TX5, 7)) rfl) rfl hl.1 rfl (Nat.le_of_ble_eq_true rfl) dL_isMatter_8 ⟨Nat.le_of_ble_eq_true rfl, Nat.le_of_ble_eq_true rfl⟩ (fun v f Hp lcs hp hM => ?_)
  obtain ⟨rfl, hI⟩ := hp
  obtain ⟨vso, ho⟩ := hI.obj
  refine lv_bipush (v := (nI 10)) hx hb dL_isMatter_11 (by decide +kernel) ?_
  refine lv_icmp_lt (tgt := 26) hx hb dL_isMatter_13 (by decide) (fun cz1 => ?_) (fun cz1 => ?_)
  · have hab9 := cz1
    refine lv_iconst (v := (nI 4)) hx hb dL_isMatter_26 (by decide +kernel) ?_
    refine mm_newI hx hb (hts (.arrayClass .int) (List.mem_of_getElem? (i := 1) rfl)) hK hM hA 4 (by decide) (by decide) (Nat.le_of_ble_eq_true rfl) (Nat.le_of_ble_eq_true rfl) (Nat.le_of_ble_eq_true rfl) dL_isMatter_27 (fun qw Hp nw hM => ?_)
    obtain ⟨hf8, hh, hap⟩ := hM.1.split nw
    have hM : mM G A s.heap f Hp _ := ⟨hf8, hM.2⟩
    have hap := hap.symm
    have hwq := va_up_self (fun _ => none) qw (some (mI G 4 (fun _ => 0)))
    refine lv_astore_n (lv' := [(3, .ref qw), (2, .int (matI S n k)), (0, .ref o), (1, .int (nI k))]) hx hb dL_isMatter_29 rfl hl (by decide) rfl (fun ls hl => ?_)
    refine lv_iconst (v := (nI 0)) hx hb dL_isMatter_30 (by decide +kernel) ?_
    refine lv_istore (lv' := [(4, .int (nI 0)), (3, .ref qw), (2, .int (matI S n k)), (0, .ref o), (1, .int (nI k))]) hx hb dL_isMatter_31 hl (by decide) rfl (fun ls hl => ?_)
    have loopZ : ∀ (fuel : Nat) (i : Nat) (g : Nat → Int32) (hm : mE) (f : mE) (Hp : Heap) (lcs : List Loc) (ls : Array Slot) (hi4 : i ≤ 4) (hI : CI G f o S P rc) (hh : mD G A hm Hp) (hap : mAp f hm) (hwq : hm qw = some (mI G 4 g)) (hg : ∀ j, j < i → g j = ansI S (-100005) n (nI j)) (hfu : 4 - i < fuel) (hM : mM G A s.heap f Hp lcs) (hl : lv_has ls 7 [(0, .ref o), (1, .int (nI k)), (2, .int (matI S n k)), (3, .ref qw), (4, .int (nI i))]), W pgm l env ({ frames := 6, cells := 7, slots := 82, locals := 148 } : Room) s mt args below meth c Hp lcs (0 + 1) (0 + 4) (MQ below (mQc G A (fun v f1 => v = some (.int (nI 1)) ∧ ∃ P1 rc1, CI G f1 o S P1 rc1)) args s 7 82 A) (F0 mt 33 ls []) := by
      intro fuel
      induction fuel with
      | zero => intro i g hm f Hp lcs ls hi4 hI hh hap hwq hg hfu; exact absurd hfu (Nat.not_lt_zero _)
      | succ fuel ih =>
        intro i g hm f Hp lcs ls hi4 hI hh hap hwq hg hfu hM hl
        obtain ⟨vso, ho⟩ := hI.obj
        refine lv_iload hx hb dL_isMatter_33 (lv_at hl 4 rfl) ?_
        refine lv_iconst (v := (nI 4)) hx hb dL_isMatter_35 (by decide +kernel) ?_
        refine ln_icmp_ge i 4 (by omega) (by omega) (tgt := 55) hx hb dL_isMatter_36 (by decide) (fun cz2 => ?_) (fun cz2 => ?_)
        · have e4 : i = 4 := (by omega)
          subst e4
          refine lv_aload_n hx hb dL_isMatter_55 rfl (lv_at hl 0 rfl) ?_
          refine lv_iload_n hx hb dL_isMatter_56 rfl (lv_at hl 1 rfl) ?_
          refine mm_V2 (As := [.int (nI k)]) (rest := []) ⟨hx, hb, hml, hown, hts⟩ (p_retract l G hI hv (k := k) hk) (cwV 1 hts gL_isMatter_X5_retract rfl rfl rfl (by decide +kernel) ⟨Nat.le_of_ble_eq_true rfl, Nat.le_of_ble_eq_true rfl⟩) hK hE hA hM hh hap (mm_recv hK hM ho (q := (RX5, TX5, 7)) rfl) rfl hl.1 rfl (Nat.le_of_ble_eq_true rfl) dL_isMatter_57 ⟨Nat.le_of_ble_eq_true rfl, Nat.le_of_ble_eq_true rfl⟩ (fun v f Hp lcs hp hM hh hap => ?_)
          have hrp : retP S n k = false := by rw [retP, decide_eq_true hab9]; rfl
          obtain ⟨rfl, hI⟩ : v = some (.int (nI (n - 1))) ∧ CI G f o (retS S n k) (recP S P rc) (recN rc) := by
            rcases hp with ⟨_, e2, _⟩ | ⟨_, e2, e3⟩
            · rw [hrp] at e2; cases e2
            · exact ⟨e2, e3⟩
          obtain ⟨vso, ho⟩ := hI.obj
          have hv2 := hv.ret hk
          refine lv_istore (lv' := [(4, .int (nI (n - 1))), (0, .ref o), (1, .int (nI k)), (2, .int (matI S n k)), (3, .ref qw)]) hx hb dL_isMatter_60 hl (by decide) rfl (fun ls hl => ?_)
          refine lv_iconst (v := (nI 0)) hx hb dL_isMatter_62 (by decide +kernel) ?_
          refine lv_istore (lv' := [(5, .int (nI 0)), (4, .int (nI (n - 1))), (0, .ref o), (1, .int (nI k)), (2, .int (matI S n k)), (3, .ref qw)]) hx hb dL_isMatter_63 hl (by decide) rfl (fun ls hl => ?_)
          refine lv_iconst (v := (nI 0)) hx hb dL_isMatter_65 (by decide +kernel) ?_
          refine lv_istore (lv' := [(6, .int (nI 0)), (5, .int (nI 0)), (4, .int (nI (n - 1))), (0, .ref o), (1, .int (nI k)), (2, .int (matI S n k)), (3, .ref qw)]) hx hb dL_isMatter_66 hl (by decide) rfl (fun ls hl => ?_)
          have loopY : ∀ (fuelB : Nat) (i : Nat) (hm : mE) (f : mE) (Hp : Heap) (lcs : List Loc) (ls : Array Slot) (hi4 : i ≤ 4) (hI : CI G f o (retS S n k) (recP S P rc) (recN rc)) (hh : mD G A hm Hp) (hap : mAp f hm) (hwq : hm qw = some (mI G 4 g)) (hfuB : 4 - i < fuelB) (hM : mM G A s.heap f Hp lcs) (hl : lv_has ls 7 [(0, .ref o), (2, .int (matI S n k)), (3, .ref qw), (4, .int (nI (n - 1))), (5, .int (nI (cntN (chQ S n k) i))), (6, .int (nI i))]), W pgm l env ({ frames := 6, cells := 7, slots := 82, locals := 148 } : Room) s mt args below meth c Hp lcs (0 + 1 + 6) (0 + 4 + 78) (MQ below (mQc G A (fun v f1 => v = some (.int (nI 1)) ∧ ∃ P1 rc1, CI G f1 o S P1 rc1)) args s 7 82 A) (F0 mt 68 ls []) := by
            intro fuelB
            induction fuelB with
            | zero => intro i hm f Hp lcs ls hi4 hI hh hap hwq hfuB; exact absurd hfuB (Nat.not_lt_zero _)
            | succ fuelB ihB =>
              intro i hm f Hp lcs ls hi4 hI hh hap hwq hfuB hM hl
              obtain ⟨vso, ho⟩ := hI.obj
              have hc9 := cntN_le (chQ S n k) i
              refine lv_iload hx hb dL_isMatter_68 (lv_at hl 5 rfl) ?_
              refine lv_iconst (v := (nI 4)) hx hb dL_isMatter_70 (by decide +kernel) ?_
              refine ln_icmp_ge i 4 (by omega) (by omega) (tgt := 104) hx hb dL_isMatter_71 (by decide) (fun cz3 => ?_) (fun cz3 => ?_)
              · have e4 : i = 4 := (by omega)
                subst e4
                refine lv_iload hx hb dL_isMatter_104 (lv_at hl 4 rfl) ?_
                refine lv_iload_n hx hb dL_isMatter_106 rfl (lv_at hl 1 rfl) ?_
                refine lv_icmp_ne (tgt := 141) hx hb dL_isMatter_107 (by decide) (fun hq9 => absurd hq9 (not_not_intro (mat_cnt hv hAB hk hab9))) (fun _ => ?_)
                refine lv_iload hx hb dL_isMatter_110 (lv_at hl 3 rfl) ?_
                refine lv_aload_n hx hb dL_isMatter_112 rfl (lv_at hl 0 rfl) ?_
                refine mm_V2 (As := []) (rest := [.int (nI (n - 1))]) ⟨hx, hb, hml, hown, hts⟩ (p_sentences l G hI hv2) (cwV 0 hts gL_isMatter_X5_sentences rfl rfl rfl (by decide +kernel) ⟨Nat.le_of_ble_eq_true rfl, Nat.le_of_ble_eq_true rfl⟩) hK hE hA hM hh hap (mm_recv hK hM ho (q := (RX5, TX5, 7)) rfl) rfl hl.1 rfl (Nat.le_of_ble_eq_true rfl) dL_isMatter_113 ⟨Nat.le_of_ble_eq_true rfl, Nat.le_of_ble_eq_true rfl⟩ (fun v f Hp lcs hp hM hh hap => ?_)
                obtain ⟨rfl, hI⟩ := hp
                obtain ⟨vso, ho⟩ := hI.obj
                refine ln_icmp_ne (n - 1) (n - 1) (by omega) (by omega) (tgt := 141) hx hb dL_isMatter_116 (by decide) (fun hq9 => absurd hq9 (by omega)) (fun _ => ?_)
                refine lv_aload_n hx hb dL_isMatter_119 rfl (lv_at hl 0 rfl) ?_
                refine mm_V2 (As := []) (rest := []) ⟨hx, hb, hml, hown, hts⟩ (p_undo l G hr8 hq9 hI) (cwV 0 hts gL_isMatter_X5_undo rfl rfl rfl (by decide +kernel) ⟨Nat.le_of_ble_eq_true rfl, Nat.le_of_ble_eq_true rfl⟩) hK hE hA hM hh hap (mm_recv hK hM ho (q := (RX5, TX5, 7)) rfl) rfl hl.1 rfl (Nat.le_of_ble_eq_true rfl) dL_isMatter_120 ⟨Nat.le_of_ble_eq_true rfl, Nat.le_of_ble_eq_true rfl⟩ (fun v f Hp lcs hp hM hh hap => ?_)
                obtain ⟨rfl, P1, rc1, hI⟩ := hp
                obtain ⟨vso, ho⟩ := hI.obj
                refine ln_if_lt q9 (by omega) (tgt := 141) hx hb dL_isMatter_123 (by decide) ?_
                refine lv_aload_n hx hb dL_isMatter_126 rfl (lv_at hl 0 rfl) ?_
                refine mm_V2 (As := []) (rest := []) ⟨hx, hb, hml, hown, hts⟩ (p_sentences l G hI hv ) (cwV 0 hts gL_isMatter_X5_sentences rfl rfl rfl (by decide +kernel) ⟨Nat.le_of_ble_eq_true rfl, Nat.le_of_ble_eq_true rfl⟩) hK hE hA hM hh hap (mm_recv hK hM ho (q := (RX5, TX5, 7)) rfl) rfl hl.1 rfl (Nat.le_of_ble_eq_true rfl) dL_isMatter_127 ⟨Nat.le_of_ble_eq_true rfl, Nat.le_of_ble_eq_true rfl⟩ (fun v f Hp lcs hp hM hh hap => ?_)
                obtain ⟨rfl, hI⟩ := hp
                obtain ⟨vso, ho⟩ := hI.obj
                refine lv_iload hx hb dL_isMatter_130 (lv_at hl 3 rfl) ?_
                refine lv_iconst (v := (nI 1)) hx hb dL_isMatter_132 (by decide +kernel) ?_
                refine ln_iadd (n - 1) 1 hx hb dL_isMatter_133 ?_
                refine ln_icmp_ne n ((n - 1) + 1) (by omega) (by omega) (tgt := 141) hx hb dL_isMatter_134 (by decide) (fun hq9 => absurd hq9 (by omega)) (fun _ => ?_)
                refine lv_iconst (v := (nI 1)) hx hb dL_isMatter_137 (by decide +kernel) ?_
                refine lv_goto (tgt := 142) hx hb dL_isMatter_138 (by decide) ?_
                exact mm_zret hx hb hlocks hr (by first | rfl | exact bI_nar _) (Nat.le_of_ble_eq_true rfl) (Nat.le_of_ble_eq_true rfl) hM (⟨rfl, P1, rc1, hI⟩) dL_isMatter_142
              refine lv_aload_n hx hb dL_isMatter_74 rfl (lv_at hl 0 rfl) ?_
              refine lv_iload hx hb dL_isMatter_75 (lv_at hl 5 rfl) ?_
              refine mm_V2 (As := [.int (nI i)]) (rest := []) ⟨hx, hb, hml, hown, hts⟩ (p_answer l G hI hv2 (r := i) (by omega)) (cwV 1 hts gL_isMatter_X5_answer rfl rfl rfl (by decide +kernel) ⟨Nat.le_of_ble_eq_true rfl, Nat.le_of_ble_eq_true rfl⟩) hK hE hA hM hh hap (mm_recv hK hM ho (q := (RX5, TX5, 7)) rfl) rfl hl.1 rfl (Nat.le_of_ble_eq_true rfl) dL_isMatter_77 ⟨Nat.le_of_ble_eq_true rfl, Nat.le_of_ble_eq_true rfl⟩ (fun v f Hp lcs hp hM hh hap => ?_)
              obtain ⟨rfl, hI⟩ := hp
              obtain ⟨vso, ho⟩ := hI.obj
              refine lv_aload_n hx hb dL_isMatter_80 rfl (lv_at hl 2 rfl) ?_
              refine lv_iload hx hb dL_isMatter_81 (lv_at hl 5 rfl) ?_
              refine mn_iald hx hb hK (show mM G A s.heap hm Hp lcs from ⟨hh, hM.2⟩) hwq i (by omega) (by decide) dL_isMatter_83 ?_
              refine mv_top (y := ansI S (-100005) n (nI i)) (hg i (by omega)) ?_
              refine lv_icmp_eq (tgt := 94) hx hb dL_isMatter_84 (by decide) (fun cz4 => ?_) (fun cz4 => ?_)
              · refine lv_iload hx hb dL_isMatter_94 (lv_at hl 4 rfl) ?_
                refine lv_istore (lv' := [(5, .int (nI (cntN (chQ S n k) i))), (0, .ref o), (2, .int (matI S n k)), (3, .ref qw), (4, .int (nI (n - 1))), (6, .int (nI i))]) hx hb dL_isMatter_96 hl (by decide) rfl (fun ls hl => ?_)
                refine lv_iinc (v := (nI (i + 1))) (lv' := [(6, .int (nI (i + 1))), (5, .int (nI (cntN (chQ S n k) i))), (0, .ref o), (2, .int (matI S n k)), (3, .ref qw), (4, .int (nI (n - 1)))]) hx hb dL_isMatter_98 hl (k := 5) rfl (nI_add _ _) (by decide) rfl (fun ls hl => ?_)
                refine lv_goto (tgt := 68) hx hb dL_isMatter_101 (by decide) ?_
                have e9 : cntN (chQ S n k) (i + 1) = cntN (chQ S n k) i := by rw [cntN, if_neg (by rw [chQ, decide_eq_true cz4]; decide)]; rfl
                have hl : lv_has ls 7 [(6, .int (nI (i + 1))), (5, .int (nI (cntN (chQ S n k) (i + 1)))), (0, .ref o), (2, .int (matI S n k)), (3, .ref qw), (4, .int (nI (n - 1)))] := by rw [e9]; exact hl
                exact ihB (i + 1) _ _ _ _ ls (by omega) hI hh hap hwq (by omega) hM (lv_sub hl [2, 3, 4, 5, 1, 0] rfl)
              refine lv_iload hx hb dL_isMatter_87 (lv_at hl 4 rfl) ?_
              refine lv_iconst (v := (nI 1)) hx hb dL_isMatter_89 (by decide +kernel) ?_
              refine ln_iadd (cntN (chQ S n k) i) 1 hx hb dL_isMatter_90 ?_
              refine lv_goto (tgt := 96) hx hb dL_isMatter_91 (by decide) ?_
              refine lv_istore (lv' := [(5, .int (nI ((cntN (chQ S n k) i) + 1))), (0, .ref o), (2, .int (matI S n k)), (3, .ref qw), (4, .int (nI (n - 1))), (6, .int (nI i))]) hx hb dL_isMatter_96 hl (by decide) rfl (fun ls hl => ?_)
              refine lv_iinc (v := (nI (i + 1))) (lv' := [(6, .int (nI (i + 1))), (5, .int (nI ((cntN (chQ S n k) i) + 1))), (0, .ref o), (2, .int (matI S n k)), (3, .ref qw), (4, .int (nI (n - 1)))]) hx hb dL_isMatter_98 hl (k := 5) rfl (nI_add _ _) (by decide) rfl (fun ls hl => ?_)
              refine lv_goto (tgt := 68) hx hb dL_isMatter_101 (by decide) ?_
              have e9 : cntN (chQ S n k) (i + 1) = cntN (chQ S n k) i + 1 := by rw [cntN, if_pos (by rw [chQ, decide_eq_false cz4]; rfl)]
              have hl : lv_has ls 7 [(6, .int (nI (i + 1))), (5, .int (nI (cntN (chQ S n k) (i + 1)))), (0, .ref o), (2, .int (matI S n k)), (3, .ref qw), (4, .int (nI (n - 1)))] := by rw [e9]; exact hl
              exact ihB (i + 1) _ _ _ _ ls (by omega) hI hh hap hwq (by omega) hM (lv_sub hl [2, 3, 4, 5, 1, 0] rfl)
          exact loopY 5 0 _ _ _ _ ls (Nat.zero_le _) hI hh hap hwq (by omega) hM (lv_sub hl [3, 5, 6, 2, 1, 0] rfl)
        refine lv_aload_n hx hb dL_isMatter_39 rfl (lv_at hl 3 rfl) ?_
        refine lv_iload hx hb dL_isMatter_40 (lv_at hl 4 rfl) ?_
        refine lv_aload_n hx hb dL_isMatter_42 rfl (lv_at hl 0 rfl) ?_
        refine lv_iload hx hb dL_isMatter_43 (lv_at hl 4 rfl) ?_
        refine mm_V2 (As := [.int (nI i)]) (rest := [.int (nI i), .ref qw]) ⟨hx, hb, hml, hown, hts⟩ (p_answer l G hI hv (r := i) (by omega)) (cwV 1 hts gL_isMatter_X5_answer rfl rfl rfl (by decide +kernel) ⟨Nat.le_of_ble_eq_true rfl, Nat.le_of_ble_eq_true rfl⟩) hK hE hA hM hh hap (mm_recv hK hM ho (q := (RX5, TX5, 7)) rfl) rfl hl.1 rfl (Nat.le_of_ble_eq_true rfl) dL_isMatter_45 ⟨Nat.le_of_ble_eq_true rfl, Nat.le_of_ble_eq_true rfl⟩ (fun v f Hp lcs hp hM hh hap => ?_)
        obtain ⟨rfl, hI⟩ := hp
        obtain ⟨vso, ho⟩ := hI.obj
        refine mm_iast2 hx hb hK hM hh hap hwq i (by omega) (by decide) dL_isMatter_48 (fun Hp lcs hM hh hap => ?_)
        refine lv_iinc (v := (nI (i + 1))) (lv' := [(4, .int (nI (i + 1))), (0, .ref o), (1, .int (nI k)), (2, .int (matI S n k)), (3, .ref qw)]) hx hb dL_isMatter_49 hl (k := 4) rfl (nI_add _ _) (by decide) rfl (fun ls hl => ?_)
        refine lv_goto (tgt := 33) hx hb dL_isMatter_52 (by decide) ?_
        have hg2 : ∀ j, j < i + 1 → upd g i ((ansI S (-100005) n (nI i))) j = ansI S (-100005) n (nI j) := fun j hj => by
          by_cases e : j = i
          · rw [e]; unfold upd; rw [if_pos rfl]
          · unfold upd; rw [if_neg e]; exact hg j (by omega)
        exact ih (i + 1) (upd g i ((ansI S (-100005) n (nI i)))) _ f _ _ ls (by omega) hI hh hap (va_up_self _ _ _) hg2 (by omega) hM (lv_sub hl [1, 2, 3, 4, 0] rfl)
    exact loopZ 5 0 (fun _ => 0) _ _ _ _ ls (Nat.zero_le _) hI hh hap hwq (fun j hj => absurd hj (Nat.not_lt_zero j)) (by omega) hM (lv_sub hl [3, 4, 2, 1, 0] rfl)
  refine lv_iload_n hx hb dL_isMatter_16 rfl (lv_at hl 0 rfl) ?_
  refine mv_top (y := nI 0) (by rw [matI, if_pos cz1]; rfl) ?_
  refine lv_if_ne (tgt := 24) hx hb dL_isMatter_17 (by decide) (fun hq9 => absurd hq9 (by decide)) (fun _ => ?_)
  refine lv_iconst (v := (nI 1)) hx hb dL_isMatter_20 (by decide +kernel) ?_
  refine lv_goto (tgt := 25) hx hb dL_isMatter_21 (by decide) ?_
  exact mm_zret hx hb hlocks hr (by first | rfl | exact bI_nar _) (Nat.le_of_ble_eq_true rfl) (Nat.le_of_ble_eq_true rfl) hM (⟨rfl, P, rc, hI⟩) dL_isMatter_25
