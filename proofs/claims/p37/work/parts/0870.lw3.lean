/-! THE LAW's own methods: a sentence put together and told -/
set_option maxHeartbeats 4000000 in
set_option maxRecDepth 100000 in
theorem l_condition (l : Launch) (G : mG) {f : mE} {o : Nat} {S P : Nat → Int32} {rc n cn : Nat} (hI : CI G f o S P rc) (hv : VSn S n cn) (v m : Int32) : mC l G yL_condition wsL_condition ({ frames := 4, cells := 0, slots := 0, locals := 88 } : Room) f [.ref o, .int v, .int m] (fun x f1 => x = some (.int (lst (-100005) cn (lcL v m))) ∧ CI G f1 o (apT S cn (lcL v m)) P rc) 0 0 := by
  refine mC.of (cc := cL_condition) (maxL := 6) (ret := (some .int)) (by decide) rfl (Nat.le_of_ble_eq_true rfl) ?_
  intro pgm env s mt args below meth c A ls hx hb hml hr hlocks hown hname hts hK hE hA hM hl
  have hl : lv_has ls 6 [(0, .ref o), (1, .int v), (2, .int m)] := hl
  obtain ⟨vso, ho⟩ := hI.obj
  have hn16 := hv.2.1
  have hw9 := lcW_lt v
  have hf9 : lcF v < 6 := lowN_lt _ (by decide)
  have hh9 : lcH v < 5 := lowN_lt _ (by decide)
  refine lv_iload_n hx hb dL_condition_0 rfl (lv_at hl 1 rfl) ?_
  refine lv_bipush (v := (nI 6)) hx hb dL_condition_1 (by decide +kernel) ?_
  refine mm_S (As := [.int v, .int (nI 6)]) (rest := []) ⟨hx, hb, hml, hown, hts⟩ (l_low l G f v 6 (by decide) (by decide)) (va_cwS 2 hts gL_condition_L_low rfl rfl rfl (by decide +kernel) ⟨Nat.le_of_ble_eq_true rfl, Nat.le_of_ble_eq_true rfl⟩) hK hE hA hM rfl hl.1 rfl (Nat.le_of_ble_eq_true rfl) dL_condition_3 ⟨Nat.le_of_ble_eq_true rfl, Nat.le_of_ble_eq_true rfl⟩ (fun v f1 Hp lcs hp hM => ?_)
  obtain ⟨rfl, hf⟩ := hp; subst hf
  have hz1 := lowN_lt v (n := 6) (by decide)
  refine ln_if_ne (lowN v 6) (by omega) (tgt := 23) hx hb dL_condition_6 (by decide) (fun cz2 => ?_) (fun cz2 => ?_)
  · have z95 : ∀ (L9 : List (Int32 × Int32)) (f : mE) (Hp : Heap) (lcs : List Loc) (ls : Array Slot) (hL9 : lcL v m = L9 ++ [(0, nI (lcW v)), lcE v m]) (hI : CI G f o (apT S cn L9) P rc) (hv : VSn (apT S cn L9) n (apC cn L9)) (hM : mM G A s.heap f Hp lcs) (hl : lv_has ls 6 [(0, .ref o), (1, .int v), (2, .int m), (3, .int (nI (lcF v)))]), W pgm l env ({ frames := 4, cells := 0, slots := 0, locals := 88 } : Room) s mt args below meth c Hp lcs 0 0 (MQ below (mQc G A (fun x f1 => x = some (.int (lst (-100005) cn (lcL v m))) ∧ CI G f1 o (apT S cn (lcL v m)) P rc)) args s 0 0 A) (F0 mt 95 ls [.int (nI (lcW v)), .ref o]) := by
      intro L9 f Hp lcs ls hL9 hI hv hM hl
      obtain ⟨vso, ho⟩ := hI.obj
      refine mm_V (As := [.int (nI (lcW v))]) (rest := []) ⟨hx, hb, hml, hown, hts⟩ (p_word l G hI hv (x := (lcW v)) (by omega)) (cwV 1 hts gL_condition_X5_word rfl rfl rfl (by decide +kernel) ⟨Nat.le_of_ble_eq_true rfl, Nat.le_of_ble_eq_true rfl⟩) hK hE hA hM (mm_recv hK hM ho (q := (RX5, TX5, 7)) rfl) rfl hl.1 rfl (Nat.le_of_ble_eq_true rfl) dL_condition_95 ⟨Nat.le_of_ble_eq_true rfl, Nat.le_of_ble_eq_true rfl⟩ (fun v f Hp lcs hp hM => ?_)
      obtain ⟨rfl, hI⟩ := hp
      obtain ⟨vso, ho⟩ := hI.obj
      have hv := hv.add1 (vt_w (x := (lcW v)) (by omega))
      refine lv_istore (lv' := [(4, .int (addI (apC cn L9))), (0, .ref o), (1, .int v), (2, .int m), (3, .int (nI (lcF v)))]) hx hb dL_condition_98 hl (by decide) rfl (fun ls hl => ?_)
      refine lv_iload_n hx hb dL_condition_100 rfl (lv_at hl 4 rfl) ?_
      refine lv_iconst (v := (nI 4)) hx hb dL_condition_101 (by decide +kernel) ?_
      refine ln_icmp_ge (lcF v) 4 (by omega) (by omega) (tgt := 119) hx hb dL_condition_102 (by decide) (fun cz3 => ?_) (fun cz3 => ?_)
      · refine lv_aload_n hx hb dL_condition_119 rfl (lv_at hl 1 rfl) ?_
        refine lv_sipush (v := (nI 1999)) hx hb dL_condition_120 (by decide +kernel) ?_
        refine lv_iload_n hx hb dL_condition_123 rfl (lv_at hl 3 rfl) ?_
        refine lv_iconst (v := (nI 3)) hx hb dL_condition_124 (by decide +kernel) ?_
        refine mm_S (As := [.int m, .int (nI 3)]) (rest := [.int (nI 1999), .ref o]) ⟨hx, hb, hml, hown, hts⟩ (l_low l G f m 3 (by decide) (by decide)) (va_cwS 2 hts gL_condition_L_low rfl rfl rfl (by decide +kernel) ⟨Nat.le_of_ble_eq_true rfl, Nat.le_of_ble_eq_true rfl⟩) hK hE hA hM rfl hl.1 rfl (Nat.le_of_ble_eq_true rfl) dL_condition_125 ⟨Nat.le_of_ble_eq_true rfl, Nat.le_of_ble_eq_true rfl⟩ (fun v f1 Hp lcs hp hM => ?_)
        obtain ⟨rfl, hf⟩ := hp; subst hf
        have hz4 := lowN_lt m (n := 3) (by decide)
        refine ln_iadd 1999 (lowN m 3) hx hb dL_condition_128 ?_
        refine lv_iconst (v := (nI 1)) hx hb dL_condition_129 (by decide +kernel) ?_
        refine lv_iload_n hx hb dL_condition_130 rfl (lv_at hl 3 rfl) ?_
        refine lv_iconst (v := (nI 3)) hx hb dL_condition_131 (by decide +kernel) ?_
        refine lv_ishr hx hb dL_condition_132 ?_
        refine mv_top (y := (sr m 3)) rfl ?_
        refine lv_bipush (v := (nI 12)) hx hb dL_condition_133 (by decide +kernel) ?_
        refine mm_S (As := [.int (sr m 3), .int (nI 12)]) (rest := [.int (nI 1), .int (nI (1999 + (lowN m 3))), .ref o]) ⟨hx, hb, hml, hown, hts⟩ (l_low l G f (sr m 3) 12 (by decide) (by decide)) (va_cwS 2 hts gL_condition_L_low rfl rfl rfl (by decide +kernel) ⟨Nat.le_of_ble_eq_true rfl, Nat.le_of_ble_eq_true rfl⟩) hK hE hA hM rfl hl.1 rfl (Nat.le_of_ble_eq_true rfl) dL_condition_135 ⟨Nat.le_of_ble_eq_true rfl, Nat.le_of_ble_eq_true rfl⟩ (fun v f1 Hp lcs hp hM => ?_)
        obtain ⟨rfl, hf⟩ := hp; subst hf
        have hz5 := lowN_lt (sr m 3) (n := 12) (by decide)
        refine ln_iadd 1 (lowN (sr m 3) 12) hx hb dL_condition_138 ?_
        refine lv_iconst (v := (nI 1)) hx hb dL_condition_139 (by decide +kernel) ?_
        refine lv_iload_n hx hb dL_condition_140 rfl (lv_at hl 3 rfl) ?_
        refine lv_bipush (v := (nI 8)) hx hb dL_condition_141 (by decide +kernel) ?_
        refine lv_ishr hx hb dL_condition_143 ?_
        refine mv_top (y := (sr m 8)) rfl ?_
        refine lv_bipush (v := (nI 28)) hx hb dL_condition_144 (by decide +kernel) ?_
        refine mm_S (As := [.int (sr m 8), .int (nI 28)]) (rest := [.int (nI 1), .int (nI (1 + (lowN (sr m 3) 12))), .int (nI (1999 + (lowN m 3))), .ref o]) ⟨hx, hb, hml, hown, hts⟩ (l_low l G f (sr m 8) 28 (by decide) (by decide)) (va_cwS 2 hts gL_condition_L_low rfl rfl rfl (by decide +kernel) ⟨Nat.le_of_ble_eq_true rfl, Nat.le_of_ble_eq_true rfl⟩) hK hE hA hM rfl hl.1 rfl (Nat.le_of_ble_eq_true rfl) dL_condition_146 ⟨Nat.le_of_ble_eq_true rfl, Nat.le_of_ble_eq_true rfl⟩ (fun v f1 Hp lcs hp hM => ?_)
        obtain ⟨rfl, hf⟩ := hp; subst hf
        have hz6 := lowN_lt (sr m 8) (n := 28) (by decide)
        refine ln_iadd 1 (lowN (sr m 8) 28) hx hb dL_condition_149 ?_
        refine mm_V (As := [.int (nI (1999 + (lowN m 3))), .int (nI (1 + (lowN (sr m 3) 12))), .int (nI (1 + (lowN (sr m 8) 28)))]) (rest := []) ⟨hx, hb, hml, hown, hts⟩ (p_date l G hI hv (dat_ok (y := (1999 + (lowN m 3))) (m := (1 + (lowN (sr m 3) 12))) (d := (1 + (lowN (sr m 8) 28))) (by omega) (by omega) (by omega) (by omega) (by omega) (by omega))) (cwV 3 hts gL_condition_X5_date rfl rfl rfl (by decide +kernel) ⟨Nat.le_of_ble_eq_true rfl, Nat.le_of_ble_eq_true rfl⟩) hK hE hA hM (mm_recv hK hM ho (q := (RX5, TX5, 7)) rfl) rfl hl.1 rfl (Nat.le_of_ble_eq_true rfl) dL_condition_150 ⟨Nat.le_of_ble_eq_true rfl, Nat.le_of_ble_eq_true rfl⟩ (fun v f Hp lcs hp hM => ?_)
        obtain ⟨rfl, hI⟩ := hp
        obtain ⟨vso, ho⟩ := hI.obj
        have hv := hv.add1 (vt_2 (dat_ok (y := (1999 + (lowN m 3))) (m := (1 + (lowN (sr m 3) 12))) (d := (1 + (lowN (sr m 8) 28))) (by omega) (by omega) (by omega) (by omega) (by omega) (by omega)))
        exact mm_iret hx hb hlocks hr (Nat.le_of_ble_eq_true rfl) (Nat.le_of_ble_eq_true rfl) hM (by rw [hL9, apT_app, lst_app, lcE, if_neg (Nat.not_lt.mpr cz3)]; exact ⟨rfl, hI⟩) dL_condition_153
      refine lv_aload_n hx hb dL_condition_105 rfl (lv_at hl 1 rfl) ?_
      refine lv_iload_n hx hb dL_condition_106 rfl (lv_at hl 3 rfl) ?_
      refine lv_bipush (v := (nI 13)) hx hb dL_condition_107 (by decide +kernel) ?_
      refine mm_S (As := [.int m, .int (nI 13)]) (rest := [.ref o]) ⟨hx, hb, hml, hown, hts⟩ (l_low l G f m 13 (by decide) (by decide)) (va_cwS 2 hts gL_condition_L_low rfl rfl rfl (by decide +kernel) ⟨Nat.le_of_ble_eq_true rfl, Nat.le_of_ble_eq_true rfl⟩) hK hE hA hM rfl hl.1 rfl (Nat.le_of_ble_eq_true rfl) dL_condition_109 ⟨Nat.le_of_ble_eq_true rfl, Nat.le_of_ble_eq_true rfl⟩ (fun v f1 Hp lcs hp hM => ?_)
      obtain ⟨rfl, hf⟩ := hp; subst hf
      have hz7 := lowN_lt m (n := 13) (by decide)
      refine lv_bipush (v := (nI 6)) hx hb dL_condition_112 (by decide +kernel) ?_
      refine lv_isub hx hb dL_condition_114 ?_
      refine mm_V (As := [.int ((nI (lowN m 13)) - (nI 6))]) (rest := []) ⟨hx, hb, hml, hown, hts⟩ (p_number l G hI hv (x := ((nI (lowN m 13)) - (nI 6))) (low13 (lowN_lt m (by decide)))) (cwV 1 hts gL_condition_X5_number rfl rfl rfl (by decide +kernel) ⟨Nat.le_of_ble_eq_true rfl, Nat.le_of_ble_eq_true rfl⟩) hK hE hA hM (mm_recv hK hM ho (q := (RX5, TX5, 7)) rfl) rfl hl.1 rfl (Nat.le_of_ble_eq_true rfl) dL_condition_115 ⟨Nat.le_of_ble_eq_true rfl, Nat.le_of_ble_eq_true rfl⟩ (fun v f Hp lcs hp hM => ?_)
      obtain ⟨rfl, hI⟩ := hp
      obtain ⟨vso, ho⟩ := hI.obj
      have hv := hv.add1 (vt_1 (low13 (lowN_lt m (by decide))))
      exact mm_iret hx hb hlocks hr (Nat.le_of_ble_eq_true rfl) (Nat.le_of_ble_eq_true rfl) hM (by rw [hL9, apT_app, lst_app, lcE, if_pos cz3]; exact ⟨rfl, hI⟩) dL_condition_118
    refine lv_iload_n hx hb dL_condition_23 rfl (lv_at hl 1 rfl) ?_
    refine lv_iconst (v := (nI 4)) hx hb dL_condition_24 (by decide +kernel) ?_
    refine lv_ishr hx hb dL_condition_25 ?_
    refine mv_top (y := (sr v 4)) rfl ?_
    refine lv_bipush (v := (nI 6)) hx hb dL_condition_26 (by decide +kernel) ?_
    refine mm_S (As := [.int (sr v 4), .int (nI 6)]) (rest := []) ⟨hx, hb, hml, hown, hts⟩ (l_low l G f (sr v 4) 6 (by decide) (by decide)) (va_cwS 2 hts gL_condition_L_low rfl rfl rfl (by decide +kernel) ⟨Nat.le_of_ble_eq_true rfl, Nat.le_of_ble_eq_true rfl⟩) hK hE hA hM rfl hl.1 rfl (Nat.le_of_ble_eq_true rfl) dL_condition_28 ⟨Nat.le_of_ble_eq_true rfl, Nat.le_of_ble_eq_true rfl⟩ (fun v f1 Hp lcs hp hM => ?_)
    obtain ⟨rfl, hf⟩ := hp; subst hf
    have hz8 := lowN_lt (sr v 4) (n := 6) (by decide)
    refine mv_top (y := (nI (lcF v))) rfl ?_
    refine lv_istore_n (lv' := [(3, .int (nI (lcF v))), (0, .ref o), (1, .int v), (2, .int m)]) hx hb dL_condition_31 rfl hl (by decide) rfl (fun ls hl => ?_)
    refine lv_aload_n hx hb dL_condition_32 rfl (lv_at hl 1 rfl) ?_
    refine lv_bipush (v := (nI 10)) hx hb dL_condition_33 (by decide +kernel) ?_
    refine lv_iload_n hx hb dL_condition_35 rfl (lv_at hl 0 rfl) ?_
    refine ln_iadd 10 (lcF v) hx hb dL_condition_36 ?_
    refine mm_V (As := [.int (nI (10 + (lcF v)))]) (rest := []) ⟨hx, hb, hml, hown, hts⟩ (p_word l G hI hv (x := (10 + (lcF v))) (by omega)) (cwV 1 hts gL_condition_X5_word rfl rfl rfl (by decide +kernel) ⟨Nat.le_of_ble_eq_true rfl, Nat.le_of_ble_eq_true rfl⟩) hK hE hA hM (mm_recv hK hM ho (q := (RX5, TX5, 7)) rfl) rfl hl.1 rfl (Nat.le_of_ble_eq_true rfl) dL_condition_37 ⟨Nat.le_of_ble_eq_true rfl, Nat.le_of_ble_eq_true rfl⟩ (fun v f Hp lcs hp hM => ?_)
    obtain ⟨rfl, hI⟩ := hp
    obtain ⟨vso, ho⟩ := hI.obj
    have hv := hv.add1 (vt_w (x := (10 + (lcF v))) (by omega))
    refine lv_istore (lv' := [(4, .int (addI cn)), (3, .int (nI (lcF v))), (0, .ref o), (1, .int v), (2, .int m)]) hx hb dL_condition_40 hl (by decide) rfl (fun ls hl => ?_)
    refine lv_iload_n hx hb dL_condition_42 rfl (lv_at hl 3 rfl) ?_
    refine lv_bipush (v := (nI 8)) hx hb dL_condition_43 (by decide +kernel) ?_
    refine lv_ishr hx hb dL_condition_45 ?_
    refine mv_top (y := (sr v 8)) rfl ?_
    refine lv_iconst (v := (nI 5)) hx hb dL_condition_46 (by decide +kernel) ?_
    refine mm_S (As := [.int (sr v 8), .int (nI 5)]) (rest := []) ⟨hx, hb, hml, hown, hts⟩ (l_low l G f (sr v 8) 5 (by decide) (by decide)) (va_cwS 2 hts gL_condition_L_low rfl rfl rfl (by decide +kernel) ⟨Nat.le_of_ble_eq_true rfl, Nat.le_of_ble_eq_true rfl⟩) hK hE hA hM rfl hl.1 rfl (Nat.le_of_ble_eq_true rfl) dL_condition_47 ⟨Nat.le_of_ble_eq_true rfl, Nat.le_of_ble_eq_true rfl⟩ (fun v f1 Hp lcs hp hM => ?_)
    obtain ⟨rfl, hf⟩ := hp; subst hf
    have hz9 := lowN_lt (sr v 8) (n := 5) (by decide)
    refine mv_top (y := (nI (lcH v))) rfl ?_
    refine lv_istore (lv' := [(5, .int (nI (lcH v))), (4, .int (addI cn)), (3, .int (nI (lcF v))), (0, .ref o), (1, .int v), (2, .int m)]) hx hb dL_condition_50 hl (by decide) rfl (fun ls hl => ?_)
    refine lv_iload hx hb dL_condition_52 (lv_at hl 0 rfl) ?_
    refine lv_iconst (v := (nI 2)) hx hb dL_condition_54 (by decide +kernel) ?_
    refine ln_icmp_le (lcH v) 2 (by omega) (by omega) (tgt := 67) hx hb dL_condition_55 (by decide) (fun cz10 => ?_) (fun cz10 => ?_)
    · refine lv_iload hx hb dL_condition_67 (lv_at hl 1 rfl) ?_
      refine lv_istore (lv' := [(4, .int (addI cn)), (5, .int (nI (lcH v))), (3, .int (nI (lcF v))), (0, .ref o), (1, .int v), (2, .int m)]) hx hb dL_condition_69 hl (by decide) rfl (fun ls hl => ?_)
      refine lv_aload_n hx hb dL_condition_71 rfl (lv_at hl 3 rfl) ?_
      refine lv_iload hx hb dL_condition_72 (lv_at hl 1 rfl) ?_
      refine ln_if_ne (lcH v) (by omega) (tgt := 81) hx hb dL_condition_74 (by decide) (fun cz11 => ?_) (fun cz11 => ?_)
      · refine lv_iload hx hb dL_condition_81 (lv_at hl 1 rfl) ?_
        refine lv_iconst (v := (nI 2)) hx hb dL_condition_83 (by decide +kernel) ?_
        refine ln_irem (lcH v) 2 (by omega) (by omega) (by omega) hx hb dL_condition_84 ?_
        refine lv_iconst (v := (nI 1)) hx hb dL_condition_85 (by decide +kernel) ?_
        refine ln_icmp_ne ((lcH v) % 2) 1 (by omega) (by omega) (tgt := 93) hx hb dL_condition_86 (by decide) (fun cz12 => ?_) (fun cz12 => ?_)
        · refine lv_bipush (v := (nI 6)) hx hb dL_condition_93 (by decide +kernel) ?_
          refine mv_top (y := nI (lcW v)) (by rw [lcW, if_neg cz11, if_neg cz12]) ?_
          exact z95 [(0, (nI (10 + (lcF v))))] _ _ _ ls (by rw [lcL, if_neg cz2, if_neg (Nat.not_lt.mpr cz10)]; rfl) hI hv hM (lv_sub hl [3, 4, 5, 2] rfl)
        refine lv_iconst (v := (nI 5)) hx hb dL_condition_89 (by decide +kernel) ?_
        refine lv_goto (tgt := 95) hx hb dL_condition_90 (by decide) ?_
        refine mv_top (y := nI (lcW v)) (by rw [lcW, if_neg cz11, if_pos cz12]) ?_
        exact z95 [(0, (nI (10 + (lcF v))))] _ _ _ ls (by rw [lcL, if_neg cz2, if_neg (Nat.not_lt.mpr cz10)]; rfl) hI hv hM (lv_sub hl [3, 4, 5, 2] rfl)
      refine lv_iconst (v := (nI 4)) hx hb dL_condition_77 (by decide +kernel) ?_
      refine lv_goto (tgt := 95) hx hb dL_condition_78 (by decide) ?_
      refine mv_top (y := nI (lcW v)) (by rw [lcW, if_pos cz11]) ?_
      exact z95 [(0, (nI (10 + (lcF v))))] _ _ _ ls (by rw [lcL, if_neg cz2, if_neg (Nat.not_lt.mpr cz10)]; rfl) hI hv hM (lv_sub hl [3, 4, 5, 2] rfl)
    refine lv_aload_n hx hb dL_condition_58 rfl (lv_at hl 3 rfl) ?_
    refine lv_bipush (v := (nI 7)) hx hb dL_condition_59 (by decide +kernel) ?_
    refine mm_V (As := [.int (nI 7)]) (rest := []) ⟨hx, hb, hml, hown, hts⟩ (p_word l G hI hv (x := 7) (by omega)) (cwV 1 hts gL_condition_X5_word rfl rfl rfl (by decide +kernel) ⟨Nat.le_of_ble_eq_true rfl, Nat.le_of_ble_eq_true rfl⟩) hK hE hA hM (mm_recv hK hM ho (q := (RX5, TX5, 7)) rfl) rfl hl.1 rfl (Nat.le_of_ble_eq_true rfl) dL_condition_61 ⟨Nat.le_of_ble_eq_true rfl, Nat.le_of_ble_eq_true rfl⟩ (fun v f Hp lcs hp hM => ?_)
    obtain ⟨rfl, hI⟩ := hp
    obtain ⟨vso, ho⟩ := hI.obj
    have hv := hv.add1 (vt_w (x := 7) (by omega))
    refine lv_goto (tgt := 69) hx hb dL_condition_64 (by decide) ?_
    refine lv_istore (lv' := [(4, .int (addI (c1 cn))), (5, .int (nI (lcH v))), (3, .int (nI (lcF v))), (0, .ref o), (1, .int v), (2, .int m)]) hx hb dL_condition_69 hl (by decide) rfl (fun ls hl => ?_)
    refine lv_aload_n hx hb dL_condition_71 rfl (lv_at hl 3 rfl) ?_
    refine lv_iload hx hb dL_condition_72 (lv_at hl 1 rfl) ?_
    refine ln_if_ne (lcH v) (by omega) (tgt := 81) hx hb dL_condition_74 (by decide) (fun cz13 => ?_) (fun cz13 => ?_)
    · refine lv_iload hx hb dL_condition_81 (lv_at hl 1 rfl) ?_
      refine lv_iconst (v := (nI 2)) hx hb dL_condition_83 (by decide +kernel) ?_
      refine ln_irem (lcH v) 2 (by omega) (by omega) (by omega) hx hb dL_condition_84 ?_
      refine lv_iconst (v := (nI 1)) hx hb dL_condition_85 (by decide +kernel) ?_
      refine ln_icmp_ne ((lcH v) % 2) 1 (by omega) (by omega) (tgt := 93) hx hb dL_condition_86 (by decide) (fun cz14 => ?_) (fun cz14 => ?_)
      · refine lv_bipush (v := (nI 6)) hx hb dL_condition_93 (by decide +kernel) ?_
        refine mv_top (y := nI (lcW v)) (by rw [lcW, if_neg cz13, if_neg cz14]) ?_
        exact z95 [(0, (nI (10 + (lcF v)))), (0, (nI 7))] _ _ _ ls (by rw [lcL, if_neg cz2, if_pos cz10]; rfl) hI hv hM (lv_sub hl [3, 4, 5, 2] rfl)
      refine lv_iconst (v := (nI 5)) hx hb dL_condition_89 (by decide +kernel) ?_
      refine lv_goto (tgt := 95) hx hb dL_condition_90 (by decide) ?_
      refine mv_top (y := nI (lcW v)) (by rw [lcW, if_neg cz13, if_pos cz14]) ?_
      exact z95 [(0, (nI (10 + (lcF v)))), (0, (nI 7))] _ _ _ ls (by rw [lcL, if_neg cz2, if_pos cz10]; rfl) hI hv hM (lv_sub hl [3, 4, 5, 2] rfl)
    refine lv_iconst (v := (nI 4)) hx hb dL_condition_77 (by decide +kernel) ?_
    refine lv_goto (tgt := 95) hx hb dL_condition_78 (by decide) ?_
    refine mv_top (y := nI (lcW v)) (by rw [lcW, if_pos cz13]) ?_
    exact z95 [(0, (nI (10 + (lcF v)))), (0, (nI 7))] _ _ _ ls (by rw [lcL, if_neg cz2, if_pos cz10]; rfl) hI hv hM (lv_sub hl [3, 4, 5, 2] rfl)
  refine lv_aload_n hx hb dL_condition_9 rfl (lv_at hl 0 rfl) ?_
  refine lv_bipush (v := (nI 16)) hx hb dL_condition_10 (by decide +kernel) ?_
  refine lv_iload_n hx hb dL_condition_12 rfl (lv_at hl 2 rfl) ?_
  refine lv_bipush (v := (nI 6)) hx hb dL_condition_13 (by decide +kernel) ?_
  refine mm_S (As := [.int m, .int (nI 6)]) (rest := [.int (nI 16), .ref o]) ⟨hx, hb, hml, hown, hts⟩ (l_low l G f m 6 (by decide) (by decide)) (va_cwS 2 hts gL_condition_L_low rfl rfl rfl (by decide +kernel) ⟨Nat.le_of_ble_eq_true rfl, Nat.le_of_ble_eq_true rfl⟩) hK hE hA hM rfl hl.1 rfl (Nat.le_of_ble_eq_true rfl) dL_condition_15 ⟨Nat.le_of_ble_eq_true rfl, Nat.le_of_ble_eq_true rfl⟩ (fun v f1 Hp lcs hp hM => ?_)
  obtain ⟨rfl, hf⟩ := hp; subst hf
  have hz15 := lowN_lt m (n := 6) (by decide)
  refine ln_iadd 16 (lowN m 6) hx hb dL_condition_18 ?_
  refine mm_V (As := [.int (nI (16 + (lowN m 6)))]) (rest := []) ⟨hx, hb, hml, hown, hts⟩ (p_word l G hI hv (x := (16 + (lowN m 6))) (by omega)) (cwV 1 hts gL_condition_X5_word rfl rfl rfl (by decide +kernel) ⟨Nat.le_of_ble_eq_true rfl, Nat.le_of_ble_eq_true rfl⟩) hK hE hA hM (mm_recv hK hM ho (q := (RX5, TX5, 7)) rfl) rfl hl.1 rfl (Nat.le_of_ble_eq_true rfl) dL_condition_19 ⟨Nat.le_of_ble_eq_true rfl, Nat.le_of_ble_eq_true rfl⟩ (fun v f Hp lcs hp hM => ?_)
  obtain ⟨rfl, hI⟩ := hp
  obtain ⟨vso, ho⟩ := hI.obj
  have hv := hv.add1 (vt_w (x := (16 + (lowN m 6))) (by omega))
  exact mm_iret hx hb hlocks hr (Nat.le_of_ble_eq_true rfl) (Nat.le_of_ble_eq_true rfl) hM (by rw [lcL, if_pos cz2]; exact ⟨rfl, hI⟩) dL_condition_22
set_option maxHeartbeats 4000000 in
set_option maxRecDepth 100000 in
theorem l_tell (l : Launch) (G : mG) {f : mE} {o : Nat} {S P : Nat → Int32} {rc n cn : Nat} (hI : CI G f o S P rc) (hv : VSn S n cn) (v m : Int32) : mC l G yL_tell wsL_tell ({ frames := 11, cells := 620, slots := 1909, locals := 241 } : Room) f [.ref o, .int v, .int m] (fun x f1 => x = some (.int (tlV S n cn v m)) ∧ (∃ P1 rc1, CI G f1 o (tlS S n v m) P1 rc1) ∧ ∃ c9, VSn (tlS S n v m) (tlNn S n v m) c9) 620 1909 := by
  refine mC.of (cc := cL_tell) (maxL := 7) (ret := (some .int)) (by decide) rfl (Nat.le_of_ble_eq_true rfl) ?_
  intro pgm env s mt args below meth c A ls hx hb hml hr hlocks hown hname hts hK hE hA hM hl
  have hl : lv_has ls 7 [(0, .ref o), (1, .int v), (2, .int m)] := hl
  obtain ⟨vso, ho⟩ := hI.obj
  have hn16 := hv.2.1
  have hK9 : tlK v < 7 := lowN_lt _ (by decide)
  have hM9 : tlM v ≤ 3 ∧ 1 ≤ tlM v := (by have := lowN_lt (sr v 3) (n := 3) (by decide); unfold tlM; omega)
  have hQ9 : 0 < tlQ v ∧ tlQ v ≤ 4 := (by unfold tlQ; split <;> omega)
  refine lv_aload_n hx hb dL_tell_0 rfl (lv_at hl 0 rfl) ?_
  refine mm_V (As := []) (rest := []) ⟨hx, hb, hml, hown, hts⟩ (p_clear l G hI hv) (cwV 0 hts gL_tell_X5_clear rfl rfl rfl (by decide +kernel) ⟨Nat.le_of_ble_eq_true rfl, Nat.le_of_ble_eq_true rfl⟩) hK hE hA hM (mm_recv hK hM ho (q := (RX5, TX5, 7)) rfl) rfl hl.1 rfl (Nat.le_of_ble_eq_true rfl) dL_tell_1 ⟨Nat.le_of_ble_eq_true rfl, Nat.le_of_ble_eq_true rfl⟩ (fun v f Hp lcs hp hM => ?_)
  obtain ⟨rfl, hI⟩ := hp
  obtain ⟨vso, ho⟩ := hI.obj
  have hv := hv.cnt (Nat.zero_le _)
  refine lv_istore_n (lv' := [(3, .int (nI cn)), (0, .ref o), (1, .int v), (2, .int m)]) hx hb dL_tell_4 rfl hl (by decide) rfl (fun ls hl => ?_)
  refine lv_iload_n hx hb dL_tell_5 rfl (lv_at hl 2 rfl) ?_
  refine lv_bipush (v := (nI 7)) hx hb dL_tell_6 (by decide +kernel) ?_
  refine mm_S (As := [.int v, .int (nI 7)]) (rest := []) ⟨hx, hb, hml, hown, hts⟩ (l_low l G f v 7 (by first | decide | exact hQ9.1) (by first | decide | omega)) (va_cwS 2 hts gL_tell_L_low rfl rfl rfl (by decide +kernel) ⟨Nat.le_of_ble_eq_true rfl, Nat.le_of_ble_eq_true rfl⟩) hK hE hA hM rfl hl.1 rfl (Nat.le_of_ble_eq_true rfl) dL_tell_8 ⟨Nat.le_of_ble_eq_true rfl, Nat.le_of_ble_eq_true rfl⟩ (fun v f1 Hp lcs hp hM => ?_)
  obtain ⟨rfl, hf⟩ := hp; subst hf
  have hz1 := lowN_lt v (n := 7) (by first | decide | exact hQ9.1)
  refine mv_top (y := (nI (tlK v))) rfl ?_
  refine lv_istore (lv' := [(4, .int (nI (tlK v))), (3, .int (nI cn)), (0, .ref o), (1, .int v), (2, .int m)]) hx hb dL_tell_11 hl (by decide) rfl (fun ls hl => ?_)
  refine lv_iconst (v := (nI 1)) hx hb dL_tell_13 (by decide +kernel) ?_
  refine lv_iload_n hx hb dL_tell_14 rfl (lv_at hl 3 rfl) ?_
  refine lv_iconst (v := (nI 3)) hx hb dL_tell_15 (by decide +kernel) ?_
  refine lv_ishr hx hb dL_tell_16 ?_
  refine mv_top (y := (sr v 3)) rfl ?_
  refine lv_iconst (v := (nI 3)) hx hb dL_tell_17 (by decide +kernel) ?_
  refine mm_S (As := [.int (sr v 3), .int (nI 3)]) (rest := [.int (nI 1)]) ⟨hx, hb, hml, hown, hts⟩ (l_low l G f (sr v 3) 3 (by first | decide | exact hQ9.1) (by first | decide | omega)) (va_cwS 2 hts gL_tell_L_low rfl rfl rfl (by decide +kernel) ⟨Nat.le_of_ble_eq_true rfl, Nat.le_of_ble_eq_true rfl⟩) hK hE hA hM rfl hl.1 rfl (Nat.le_of_ble_eq_true rfl) dL_tell_18 ⟨Nat.le_of_ble_eq_true rfl, Nat.le_of_ble_eq_true rfl⟩ (fun v f1 Hp lcs hp hM => ?_)
  obtain ⟨rfl, hf⟩ := hp; subst hf
  have hz2 := lowN_lt (sr v 3) (n := 3) (by first | decide | exact hQ9.1)
  refine ln_iadd 1 (lowN (sr v 3) 3) hx hb dL_tell_21 ?_
  refine mv_top (y := (nI (tlM v))) rfl ?_
  refine lv_istore (lv' := [(5, .int (nI (tlM v))), (4, .int (nI (tlK v))), (3, .int (nI cn)), (0, .ref o), (1, .int v), (2, .int m)]) hx hb dL_tell_22 hl (by decide) rfl (fun ls hl => ?_)
  have hI : CI G f o (apT (upd S 7 (nI 0)) 0 []) P rc := hI
  have hv : VSn (apT (upd S 7 (nI 0)) 0 []) n (apC 0 []) := hv
  have hl : lv_has ls 7 [(5, .int (nI (tlM v))), (4, .int (nI (tlK v))), (3, .int (lst (nI cn) 0 [])), (0, .ref o), (1, .int v), (2, .int m)] := hl
  have z264 : ∀ (L9 : List (Int32 × Int32)) (f : mE) (Hp : Heap) (lcs : List Loc) (ls : Array Slot) (hL9 : tlL v m = L9) (hI : CI G f o (apT (upd S 7 (nI 0)) 0 L9) P rc) (hv : VSn (apT (upd S 7 (nI 0)) 0 L9) n (apC 0 L9)) (hM : mM G A s.heap f Hp lcs) (hl : lv_has ls 7 [(0, .ref o), (1, .int v), (2, .int m), (3, .int (lst (nI cn) 0 L9)), (4, .int (nI (tlK v))), (5, .int (nI (tlM v)))]), W pgm l env ({ frames := 11, cells := 620, slots := 1909, locals := 241 } : Room) s mt args below meth c Hp lcs 0 0 (MQ below (mQc G A (fun x f1 => x = some (.int (tlV S n cn v m)) ∧ (∃ P1 rc1, CI G f1 o (tlS S n v m) P1 rc1) ∧ ∃ c9, VSn (tlS S n v m) (tlNn S n v m) c9)) args s 620 1909 A) (F0 mt 264 ls []) := by
    intro L9 f Hp lcs ls hL9 hI hv hM hl
    obtain ⟨vso, ho⟩ := hI.obj
    refine lv_aload_n hx hb dL_tell_264 rfl (lv_at hl 0 rfl) ?_
    refine mm_V (As := []) (rest := []) ⟨hx, hb, hml, hown, hts⟩ (p_syntaxError l G hI hv) (cwV 0 hts gL_tell_X5_syntaxError rfl rfl rfl (by decide +kernel) ⟨Nat.le_of_ble_eq_true rfl, Nat.le_of_ble_eq_true rfl⟩) hK hE hA hM (mm_recv hK hM ho (q := (RX5, TX5, 7)) rfl) rfl hl.1 rfl (Nat.le_of_ble_eq_true rfl) dL_tell_265 ⟨Nat.le_of_ble_eq_true rfl, Nat.le_of_ble_eq_true rfl⟩ (fun v f Hp lcs hp hM => ?_)
    obtain ⟨rfl, hI⟩ := hp
    obtain ⟨vso, ho⟩ := hI.obj
    refine lv_ldc (v := (-100005)) hx hb hown (hts (.constant RL 40 (-100005)) (List.mem_of_getElem? (i := 1) rfl)) dL_tell_268 ?_
    refine lv_icmp_ne (tgt := 280) hx hb dL_tell_270 (by decide) (fun cz3 => ?_) (fun cz3 => ?_)
    · refine lv_iload_n hx hb dL_tell_280 rfl (lv_at hl 3 rfl) ?_
      exact mm_iret hx hb hlocks hr (Nat.le_of_ble_eq_true rfl) (Nat.le_of_ble_eq_true rfl) hM (by have g9 : tlG S n v m = false := (by rw [tlG, tlT, hL9, decide_eq_false cz3]; rfl); rw [tlV, tlT, hL9, if_neg cz3, tlS, g9, if_neg (by decide), tlNn, g9, if_neg (by decide), tlT, hL9]; exact ⟨rfl, ⟨_, _, hI⟩, _, hv⟩) dL_tell_281
    refine lv_aload_n hx hb dL_tell_273 rfl (lv_at hl 0 rfl) ?_
    refine mm_V (As := []) (rest := []) ⟨hx, hb, hml, hown, hts⟩ (p_tell l G hI hv) (cwV 0 hts gL_tell_X5_tell rfl rfl rfl (by decide +kernel) ⟨Nat.le_of_ble_eq_true rfl, Nat.le_of_ble_eq_true rfl⟩) hK hE hA hM (mm_recv hK hM ho (q := (RX5, TX5, 7)) rfl) rfl hl.1 rfl (Nat.le_of_ble_eq_true rfl) dL_tell_274 ⟨Nat.le_of_ble_eq_true rfl, Nat.le_of_ble_eq_true rfl⟩ (fun v9 f Hp lcs hp hM => ?_)
    obtain ⟨rfl, hI, hv2⟩ := hp
    refine lv_goto (tgt := 281) hx hb dL_tell_277 (by decide) ?_
    exact mm_iret hx hb hlocks hr (Nat.le_of_ble_eq_true rfl) (Nat.le_of_ble_eq_true rfl) hM (by cases g8 : tOk (apT (upd S 7 (nI 0)) 0 L9) n (apC 0 L9) with | true => (have g9 : tlG S n v m = true := (by rw [tlG, tlT, hL9, decide_eq_true cz3, g8]; rfl); rw [g8, if_pos rfl, if_pos rfl, if_pos rfl] at hI; rw [tlV, tlT, hL9, if_pos cz3, tlS, g9, if_pos rfl, tlNn, g9, if_pos rfl, tlT, hL9]; exact ⟨rfl, ⟨_, _, hI⟩, _, hv2 g8⟩) | false => (have g9 : tlG S n v m = false := (by rw [tlG, tlT, hL9, g8, Bool.and_false]); rw [g8, if_neg (by decide), if_neg (by decide), if_neg (by decide)] at hI; rw [tlV, tlT, hL9, if_pos cz3, tlS, g9, if_neg (by decide), tlNn, g9, if_neg (by decide), tlT, hL9]; exact ⟨rfl, ⟨_, _, hI⟩, _, hv⟩)) dL_tell_281
  have z221 : ∀ (L9 : List (Int32 × Int32)) (f : mE) (Hp : Heap) (lcs : List Loc) (ls : Array Slot) (hL9 : tlL v m = L9 ++ tlF v m) (hI : CI G f o (apT (upd S 7 (nI 0)) 0 L9) P rc) (hv : VSn (apT (upd S 7 (nI 0)) 0 L9) n (apC 0 L9)) (hM : mM G A s.heap f Hp lcs) (hl : lv_has ls 7 [(0, .ref o), (1, .int v), (2, .int m), (3, .int (lst (nI cn) 0 L9)), (4, .int (nI (tlK v))), (5, .int (nI (tlM v)))]), W pgm l env ({ frames := 11, cells := 620, slots := 1909, locals := 241 } : Room) s mt args below meth c Hp lcs 0 0 (MQ below (mQc G A (fun x f1 => x = some (.int (tlV S n cn v m)) ∧ (∃ P1 rc1, CI G f1 o (tlS S n v m) P1 rc1) ∧ ∃ c9, VSn (tlS S n v m) (tlNn S n v m) c9)) args s 620 1909 A) (F0 mt 221 ls []) := by
    intro L9 f Hp lcs ls hL9 hI hv hM hl
    obtain ⟨vso, ho⟩ := hI.obj
    refine lv_iload hx hb dL_tell_221 (lv_at hl 4 rfl) ?_
    refine lv_iconst (v := (nI 4)) hx hb dL_tell_223 (by decide +kernel) ?_
    refine ln_icmp_ne (tlK v) 4 (by omega) (by omega) (tgt := 264) hx hb dL_tell_224 (by decide) (fun cz4 => ?_) (fun cz4 => ?_)
    · exact z264 L9 _ _ _ ls (by rw [hL9, tlF, if_neg cz4, List.append_nil]) hI hv hM (lv_sub hl [0, 1, 2, 3, 4, 5] rfl)
    refine lv_aload_n hx hb dL_tell_227 rfl (lv_at hl 0 rfl) ?_
    refine lv_bipush (v := (nI 9)) hx hb dL_tell_228 (by decide +kernel) ?_
    refine mm_V (As := [.int (nI 9)]) (rest := []) ⟨hx, hb, hml, hown, hts⟩ (p_word l G hI hv (x := 9) (by omega)) (cwV 1 hts gL_tell_X5_word rfl rfl rfl (by decide +kernel) ⟨Nat.le_of_ble_eq_true rfl, Nat.le_of_ble_eq_true rfl⟩) hK hE hA hM (mm_recv hK hM ho (q := (RX5, TX5, 7)) rfl) rfl hl.1 rfl (Nat.le_of_ble_eq_true rfl) dL_tell_230 ⟨Nat.le_of_ble_eq_true rfl, Nat.le_of_ble_eq_true rfl⟩ (fun v f Hp lcs hp hM => ?_)
    obtain ⟨rfl, hI⟩ := hp
    obtain ⟨vso, ho⟩ := hI.obj
    have hv := hv.add1 (vt_w (x := 9) (by omega))
    refine lv_istore_n (lv' := [(3, .int (addI (apC 0 L9))), (0, .ref o), (1, .int v), (2, .int m), (4, .int (nI (tlK v))), (5, .int (nI (tlM v)))]) hx hb dL_tell_233 rfl hl (by decide) rfl (fun ls hl => ?_)
    refine lv_aload_n hx hb dL_tell_234 rfl (lv_at hl 1 rfl) ?_
    refine lv_sipush (v := (nI 1999)) hx hb dL_tell_235 (by decide +kernel) ?_
    refine lv_iload_n hx hb dL_tell_238 rfl (lv_at hl 3 rfl) ?_
    refine lv_bipush (v := (nI 9)) hx hb dL_tell_239 (by decide +kernel) ?_
    refine lv_ishr hx hb dL_tell_241 ?_
    refine mv_top (y := (sr m 9)) rfl ?_
    refine lv_iconst (v := (nI 3)) hx hb dL_tell_242 (by decide +kernel) ?_
    refine mm_S (As := [.int (sr m 9), .int (nI 3)]) (rest := [.int (nI 1999), .ref o]) ⟨hx, hb, hml, hown, hts⟩ (l_low l G f (sr m 9) 3 (by first | decide | exact hQ9.1) (by first | decide | omega)) (va_cwS 2 hts gL_tell_L_low rfl rfl rfl (by decide +kernel) ⟨Nat.le_of_ble_eq_true rfl, Nat.le_of_ble_eq_true rfl⟩) hK hE hA hM rfl hl.1 rfl (Nat.le_of_ble_eq_true rfl) dL_tell_243 ⟨Nat.le_of_ble_eq_true rfl, Nat.le_of_ble_eq_true rfl⟩ (fun v f1 Hp lcs hp hM => ?_)
    obtain ⟨rfl, hf⟩ := hp; subst hf
    have hz5 := lowN_lt (sr m 9) (n := 3) (by first | decide | exact hQ9.1)
    refine ln_iadd 1999 (lowN (sr m 9) 3) hx hb dL_tell_246 ?_
    refine lv_iconst (v := (nI 1)) hx hb dL_tell_247 (by decide +kernel) ?_
    refine lv_iload_n hx hb dL_tell_248 rfl (lv_at hl 2 rfl) ?_
    refine lv_bipush (v := (nI 9)) hx hb dL_tell_249 (by decide +kernel) ?_
    refine lv_ishr hx hb dL_tell_251 ?_
    refine mv_top (y := (sr v 9)) rfl ?_
    refine lv_bipush (v := (nI 12)) hx hb dL_tell_252 (by decide +kernel) ?_
    refine mm_S (As := [.int (sr v 9), .int (nI 12)]) (rest := [.int (nI 1), .int (nI (1999 + (lowN (sr m 9) 3))), .ref o]) ⟨hx, hb, hml, hown, hts⟩ (l_low l G f (sr v 9) 12 (by first | decide | exact hQ9.1) (by first | decide | omega)) (va_cwS 2 hts gL_tell_L_low rfl rfl rfl (by decide +kernel) ⟨Nat.le_of_ble_eq_true rfl, Nat.le_of_ble_eq_true rfl⟩) hK hE hA hM rfl hl.1 rfl (Nat.le_of_ble_eq_true rfl) dL_tell_254 ⟨Nat.le_of_ble_eq_true rfl, Nat.le_of_ble_eq_true rfl⟩ (fun v f1 Hp lcs hp hM => ?_)
    obtain ⟨rfl, hf⟩ := hp; subst hf
    have hz6 := lowN_lt (sr v 9) (n := 12) (by first | decide | exact hQ9.1)
    refine ln_iadd 1 (lowN (sr v 9) 12) hx hb dL_tell_257 ?_
    refine lv_bipush (v := (nI 28)) hx hb dL_tell_258 (by decide +kernel) ?_
    refine mm_V (As := [.int (nI (1999 + (lowN (sr m 9) 3))), .int (nI (1 + (lowN (sr v 9) 12))), .int (nI 28)]) (rest := []) ⟨hx, hb, hml, hown, hts⟩ (p_date l G hI hv (dat_ok (y := (1999 + (lowN (sr m 9) 3))) (m := (1 + (lowN (sr v 9) 12))) (d := 28) (by omega) (by omega) (by omega) (by omega) (by omega) (by omega))) (cwV 3 hts gL_tell_X5_date rfl rfl rfl (by decide +kernel) ⟨Nat.le_of_ble_eq_true rfl, Nat.le_of_ble_eq_true rfl⟩) hK hE hA hM (mm_recv hK hM ho (q := (RX5, TX5, 7)) rfl) rfl hl.1 rfl (Nat.le_of_ble_eq_true rfl) dL_tell_260 ⟨Nat.le_of_ble_eq_true rfl, Nat.le_of_ble_eq_true rfl⟩ (fun v f Hp lcs hp hM => ?_)
    obtain ⟨rfl, hI⟩ := hp
    obtain ⟨vso, ho⟩ := hI.obj
    have hv := hv.add1 (vt_2 (dat_ok (y := (1999 + (lowN (sr m 9) 3))) (m := (1 + (lowN (sr v 9) 12))) (d := 28) (by omega) (by omega) (by omega) (by omega) (by omega) (by omega)))
    refine lv_istore_n (lv' := [(3, .int (addI (c1 (apC 0 L9)))), (0, .ref o), (1, .int v), (2, .int m), (4, .int (nI (tlK v))), (5, .int (nI (tlM v)))]) hx hb dL_tell_263 rfl hl (by decide) rfl (fun ls hl => ?_)
    have hI : CI G f o (apT (upd S 7 (nI 0)) 0 (L9 ++ [(0, (nI 9)), (2, (dayI (nI (1999 + (lowN (sr m 9) 3))) (nI (1 + (lowN (sr v 9) 12))) (nI 28)))])) P rc := by rw [apT_app]; exact hI
    have hv : VSn (apT (upd S 7 (nI 0)) 0 (L9 ++ [(0, (nI 9)), (2, (dayI (nI (1999 + (lowN (sr m 9) 3))) (nI (1 + (lowN (sr v 9) 12))) (nI 28)))])) n (apC 0 (L9 ++ [(0, (nI 9)), (2, (dayI (nI (1999 + (lowN (sr m 9) 3))) (nI (1 + (lowN (sr v 9) 12))) (nI 28)))])) := by rw [apT_app, apC_app]; exact hv
    have hl : lv_has ls 7 [(3, .int (lst (nI cn) 0 (L9 ++ [(0, (nI 9)), (2, (dayI (nI (1999 + (lowN (sr m 9) 3))) (nI (1 + (lowN (sr v 9) 12))) (nI 28)))]))), (0, .ref o), (1, .int v), (2, .int m), (4, .int (nI (tlK v))), (5, .int (nI (tlM v)))] := by rw [lst_app]; exact hl
    exact z264 (L9 ++ [(0, (nI 9)), (2, (dayI (nI (1999 + (lowN (sr m 9) 3))) (nI (1 + (lowN (sr v 9) 12))) (nI 28)))]) _ _ _ ls (by rw [hL9, tlF, if_pos cz4]) hI hv hM (lv_sub hl [1, 2, 3, 0, 4, 5] rfl)
  have z179 : ∀ (L9 : List (Int32 × Int32)) (f : mE) (Hp : Heap) (lcs : List Loc) (ls : Array Slot) (hL9 : tlL v m = L9 ++ (tlE v m ++ tlF v m)) (hI : CI G f o (apT (upd S 7 (nI 0)) 0 L9) P rc) (hv : VSn (apT (upd S 7 (nI 0)) 0 L9) n (apC 0 L9)) (hM : mM G A s.heap f Hp lcs) (hl : lv_has ls 7 [(0, .ref o), (1, .int v), (2, .int m), (3, .int (lst (nI cn) 0 L9)), (4, .int (nI (tlK v))), (5, .int (nI (tlM v)))]), W pgm l env ({ frames := 11, cells := 620, slots := 1909, locals := 241 } : Room) s mt args below meth c Hp lcs 0 0 (MQ below (mQc G A (fun x f1 => x = some (.int (tlV S n cn v m)) ∧ (∃ P1 rc1, CI G f1 o (tlS S n v m) P1 rc1) ∧ ∃ c9, VSn (tlS S n v m) (tlNn S n v m) c9)) args s 620 1909 A) (F0 mt 179 ls []) := by
    intro L9 f Hp lcs ls hL9 hI hv hM hl
    obtain ⟨vso, ho⟩ := hI.obj
    refine lv_iload hx hb dL_tell_179 (lv_at hl 4 rfl) ?_
    refine lv_iconst (v := (nI 3)) hx hb dL_tell_181 (by decide +kernel) ?_
    refine ln_icmp_ne (tlK v) 3 (by omega) (by omega) (tgt := 221) hx hb dL_tell_182 (by decide) (fun cz7 => ?_) (fun cz7 => ?_)
    · exact z221 L9 _ _ _ ls (by rw [hL9, tlE, if_neg cz7, List.nil_append]) hI hv hM (lv_sub hl [0, 1, 2, 3, 4, 5] rfl)
    refine lv_aload_n hx hb dL_tell_185 rfl (lv_at hl 0 rfl) ?_
    refine lv_bipush (v := (nI 8)) hx hb dL_tell_186 (by decide +kernel) ?_
    refine mm_V (As := [.int (nI 8)]) (rest := []) ⟨hx, hb, hml, hown, hts⟩ (p_word l G hI hv (x := 8) (by omega)) (cwV 1 hts gL_tell_X5_word rfl rfl rfl (by decide +kernel) ⟨Nat.le_of_ble_eq_true rfl, Nat.le_of_ble_eq_true rfl⟩) hK hE hA hM (mm_recv hK hM ho (q := (RX5, TX5, 7)) rfl) rfl hl.1 rfl (Nat.le_of_ble_eq_true rfl) dL_tell_188 ⟨Nat.le_of_ble_eq_true rfl, Nat.le_of_ble_eq_true rfl⟩ (fun v f Hp lcs hp hM => ?_)
    obtain ⟨rfl, hI⟩ := hp
    obtain ⟨vso, ho⟩ := hI.obj
    have hv := hv.add1 (vt_w (x := 8) (by omega))
    refine lv_istore_n (lv' := [(3, .int (addI (apC 0 L9))), (0, .ref o), (1, .int v), (2, .int m), (4, .int (nI (tlK v))), (5, .int (nI (tlM v)))]) hx hb dL_tell_191 rfl hl (by decide) rfl (fun ls hl => ?_)
    refine lv_aload_n hx hb dL_tell_192 rfl (lv_at hl 1 rfl) ?_
    refine lv_sipush (v := (nI 1999)) hx hb dL_tell_193 (by decide +kernel) ?_
    refine lv_iload_n hx hb dL_tell_196 rfl (lv_at hl 3 rfl) ?_
    refine lv_bipush (v := (nI 7)) hx hb dL_tell_197 (by decide +kernel) ?_
    refine lv_ishr hx hb dL_tell_199 ?_
    refine mv_top (y := (sr m 7)) rfl ?_
    refine lv_iconst (v := (nI 3)) hx hb dL_tell_200 (by decide +kernel) ?_
    refine mm_S (As := [.int (sr m 7), .int (nI 3)]) (rest := [.int (nI 1999), .ref o]) ⟨hx, hb, hml, hown, hts⟩ (l_low l G f (sr m 7) 3 (by first | decide | exact hQ9.1) (by first | decide | omega)) (va_cwS 2 hts gL_tell_L_low rfl rfl rfl (by decide +kernel) ⟨Nat.le_of_ble_eq_true rfl, Nat.le_of_ble_eq_true rfl⟩) hK hE hA hM rfl hl.1 rfl (Nat.le_of_ble_eq_true rfl) dL_tell_201 ⟨Nat.le_of_ble_eq_true rfl, Nat.le_of_ble_eq_true rfl⟩ (fun v f1 Hp lcs hp hM => ?_)
    obtain ⟨rfl, hf⟩ := hp; subst hf
    have hz8 := lowN_lt (sr m 7) (n := 3) (by first | decide | exact hQ9.1)
    refine ln_iadd 1999 (lowN (sr m 7) 3) hx hb dL_tell_204 ?_
    refine lv_iconst (v := (nI 1)) hx hb dL_tell_205 (by decide +kernel) ?_
    refine lv_iload_n hx hb dL_tell_206 rfl (lv_at hl 2 rfl) ?_
    refine lv_bipush (v := (nI 9)) hx hb dL_tell_207 (by decide +kernel) ?_
    refine lv_ishr hx hb dL_tell_209 ?_
    refine mv_top (y := (sr v 9)) rfl ?_
    refine lv_bipush (v := (nI 12)) hx hb dL_tell_210 (by decide +kernel) ?_
    refine mm_S (As := [.int (sr v 9), .int (nI 12)]) (rest := [.int (nI 1), .int (nI (1999 + (lowN (sr m 7) 3))), .ref o]) ⟨hx, hb, hml, hown, hts⟩ (l_low l G f (sr v 9) 12 (by first | decide | exact hQ9.1) (by first | decide | omega)) (va_cwS 2 hts gL_tell_L_low rfl rfl rfl (by decide +kernel) ⟨Nat.le_of_ble_eq_true rfl, Nat.le_of_ble_eq_true rfl⟩) hK hE hA hM rfl hl.1 rfl (Nat.le_of_ble_eq_true rfl) dL_tell_212 ⟨Nat.le_of_ble_eq_true rfl, Nat.le_of_ble_eq_true rfl⟩ (fun v f1 Hp lcs hp hM => ?_)
    obtain ⟨rfl, hf⟩ := hp; subst hf
    have hz9 := lowN_lt (sr v 9) (n := 12) (by first | decide | exact hQ9.1)
    refine ln_iadd 1 (lowN (sr v 9) 12) hx hb dL_tell_215 ?_
    refine lv_iconst (v := (nI 1)) hx hb dL_tell_216 (by decide +kernel) ?_
    refine mm_V (As := [.int (nI (1999 + (lowN (sr m 7) 3))), .int (nI (1 + (lowN (sr v 9) 12))), .int (nI 1)]) (rest := []) ⟨hx, hb, hml, hown, hts⟩ (p_date l G hI hv (dat_ok (y := (1999 + (lowN (sr m 7) 3))) (m := (1 + (lowN (sr v 9) 12))) (d := 1) (by omega) (by omega) (by omega) (by omega) (by omega) (by omega))) (cwV 3 hts gL_tell_X5_date rfl rfl rfl (by decide +kernel) ⟨Nat.le_of_ble_eq_true rfl, Nat.le_of_ble_eq_true rfl⟩) hK hE hA hM (mm_recv hK hM ho (q := (RX5, TX5, 7)) rfl) rfl hl.1 rfl (Nat.le_of_ble_eq_true rfl) dL_tell_217 ⟨Nat.le_of_ble_eq_true rfl, Nat.le_of_ble_eq_true rfl⟩ (fun v f Hp lcs hp hM => ?_)
    obtain ⟨rfl, hI⟩ := hp
    obtain ⟨vso, ho⟩ := hI.obj
    have hv := hv.add1 (vt_2 (dat_ok (y := (1999 + (lowN (sr m 7) 3))) (m := (1 + (lowN (sr v 9) 12))) (d := 1) (by omega) (by omega) (by omega) (by omega) (by omega) (by omega)))
    refine lv_istore_n (lv' := [(3, .int (addI (c1 (apC 0 L9)))), (0, .ref o), (1, .int v), (2, .int m), (4, .int (nI (tlK v))), (5, .int (nI (tlM v)))]) hx hb dL_tell_220 rfl hl (by decide) rfl (fun ls hl => ?_)
    have hI : CI G f o (apT (upd S 7 (nI 0)) 0 (L9 ++ [(0, (nI 8)), (2, (dayI (nI (1999 + (lowN (sr m 7) 3))) (nI (1 + (lowN (sr v 9) 12))) (nI 1)))])) P rc := by rw [apT_app]; exact hI
    have hv : VSn (apT (upd S 7 (nI 0)) 0 (L9 ++ [(0, (nI 8)), (2, (dayI (nI (1999 + (lowN (sr m 7) 3))) (nI (1 + (lowN (sr v 9) 12))) (nI 1)))])) n (apC 0 (L9 ++ [(0, (nI 8)), (2, (dayI (nI (1999 + (lowN (sr m 7) 3))) (nI (1 + (lowN (sr v 9) 12))) (nI 1)))])) := by rw [apT_app, apC_app]; exact hv
    have hl : lv_has ls 7 [(3, .int (lst (nI cn) 0 (L9 ++ [(0, (nI 8)), (2, (dayI (nI (1999 + (lowN (sr m 7) 3))) (nI (1 + (lowN (sr v 9) 12))) (nI 1)))]))), (0, .ref o), (1, .int v), (2, .int m), (4, .int (nI (tlK v))), (5, .int (nI (tlM v)))] := by rw [lst_app]; exact hl
    exact z221 (L9 ++ [(0, (nI 8)), (2, (dayI (nI (1999 + (lowN (sr m 7) 3))) (nI (1 + (lowN (sr v 9) 12))) (nI 1)))]) _ _ _ ls (by rw [hL9, tlE, if_pos cz7, List.append_assoc]) hI hv hM (lv_sub hl [1, 2, 3, 0, 4, 5] rfl)
  have z131 : ∀ (L9 : List (Int32 × Int32)) (f : mE) (Hp : Heap) (lcs : List Loc) (ls : Array Slot) (hL9 : tlL v m = L9 ++ (tlD v m ++ (tlE v m ++ tlF v m))) (hI : CI G f o (apT (upd S 7 (nI 0)) 0 L9) P rc) (hv : VSn (apT (upd S 7 (nI 0)) 0 L9) n (apC 0 L9)) (hM : mM G A s.heap f Hp lcs) (hl : lv_has ls 7 [(0, .ref o), (1, .int v), (2, .int m), (3, .int (lst (nI cn) 0 L9)), (4, .int (nI (tlK v))), (5, .int (nI (tlM v)))]), W pgm l env ({ frames := 11, cells := 620, slots := 1909, locals := 241 } : Room) s mt args below meth c Hp lcs 0 0 (MQ below (mQc G A (fun x f1 => x = some (.int (tlV S n cn v m)) ∧ (∃ P1 rc1, CI G f1 o (tlS S n v m) P1 rc1) ∧ ∃ c9, VSn (tlS S n v m) (tlNn S n v m) c9)) args s 620 1909 A) (F0 mt 131 ls []) := by
    intro L9 f Hp lcs ls hL9 hI hv hM hl
    obtain ⟨vso, ho⟩ := hI.obj
    refine lv_iload hx hb dL_tell_131 (lv_at hl 4 rfl) ?_
    refine ln_if_le (tlK v) (by omega) (tgt := 179) hx hb dL_tell_133 (by decide) (fun cz10 => ?_) (fun cz10 => ?_)
    · exact z179 L9 _ _ _ ls (by rw [hL9, tlD, if_neg (by omega), List.nil_append]) hI hv hM (lv_sub hl [0, 1, 2, 3, 4, 5] rfl)
    refine lv_aload_n hx hb dL_tell_136 rfl (lv_at hl 0 rfl) ?_
    refine lv_bipush (v := (nI 22)) hx hb dL_tell_137 (by decide +kernel) ?_
    refine lv_iload_n hx hb dL_tell_139 rfl (lv_at hl 2 rfl) ?_
    refine lv_iload_n hx hb dL_tell_140 rfl (lv_at hl 1 rfl) ?_
    refine lv_iconst (v := (nI 2)) hx hb dL_tell_141 (by decide +kernel) ?_
    refine mm_S (As := [.int v, .int (nI 2)]) (rest := [.int m, .int (nI 22), .ref o]) ⟨hx, hb, hml, hown, hts⟩ (l_low l G f v 2 (by first | decide | exact hQ9.1) (by first | decide | omega)) (va_cwS 2 hts gL_tell_L_low rfl rfl rfl (by decide +kernel) ⟨Nat.le_of_ble_eq_true rfl, Nat.le_of_ble_eq_true rfl⟩) hK hE hA hM rfl hl.1 rfl (Nat.le_of_ble_eq_true rfl) dL_tell_142 ⟨Nat.le_of_ble_eq_true rfl, Nat.le_of_ble_eq_true rfl⟩ (fun v f1 Hp lcs hp hM => ?_)
    obtain ⟨rfl, hf⟩ := hp; subst hf
    have hz11 := lowN_lt v (n := 2) (by first | decide | exact hQ9.1)
    refine ln_if_ne (lowN v 2) (by omega) (tgt := 152) hx hb dL_tell_145 (by decide) (fun cz12 => ?_) (fun cz12 => ?_)
    · refine lv_iconst (v := (nI 1)) hx hb dL_tell_152 (by decide +kernel) ?_
      refine mv_top (y := nI (tlQ v)) (by rw [tlQ, if_neg cz12]) ?_
      refine mm_S (As := [.int m, .int (nI (tlQ v))]) (rest := [.int (nI 22), .ref o]) ⟨hx, hb, hml, hown, hts⟩ (l_low l G f m (tlQ v) (by first | decide | exact hQ9.1) (by first | decide | omega)) (va_cwS 2 hts gL_tell_L_low rfl rfl rfl (by decide +kernel) ⟨Nat.le_of_ble_eq_true rfl, Nat.le_of_ble_eq_true rfl⟩) hK hE hA hM rfl hl.1 rfl (Nat.le_of_ble_eq_true rfl) dL_tell_153 ⟨Nat.le_of_ble_eq_true rfl, Nat.le_of_ble_eq_true rfl⟩ (fun v f1 Hp lcs hp hM => ?_)
      obtain ⟨rfl, hf⟩ := hp; subst hf
      have hz13 := lowN_lt m (n := (tlQ v)) (by first | decide | exact hQ9.1)
      refine ln_iadd 22 (lowN m (tlQ v)) hx hb dL_tell_156 ?_
      refine mm_V (As := [.int (nI (22 + (lowN m (tlQ v))))]) (rest := []) ⟨hx, hb, hml, hown, hts⟩ (p_word l G hI hv (x := (22 + (lowN m (tlQ v)))) (by omega)) (cwV 1 hts gL_tell_X5_word rfl rfl rfl (by decide +kernel) ⟨Nat.le_of_ble_eq_true rfl, Nat.le_of_ble_eq_true rfl⟩) hK hE hA hM (mm_recv hK hM ho (q := (RX5, TX5, 7)) rfl) rfl hl.1 rfl (Nat.le_of_ble_eq_true rfl) dL_tell_157 ⟨Nat.le_of_ble_eq_true rfl, Nat.le_of_ble_eq_true rfl⟩ (fun v f Hp lcs hp hM => ?_)
      obtain ⟨rfl, hI⟩ := hp
      obtain ⟨vso, ho⟩ := hI.obj
      have hv := hv.add1 (vt_w (x := (22 + (lowN m (tlQ v)))) (by omega))
      refine lv_istore_n (lv' := [(3, .int (addI (apC 0 L9))), (0, .ref o), (1, .int v), (2, .int m), (4, .int (nI (tlK v))), (5, .int (nI (tlM v)))]) hx hb dL_tell_160 rfl hl (by decide) rfl (fun ls hl => ?_)
      refine lv_aload_n hx hb dL_tell_161 rfl (lv_at hl 1 rfl) ?_
      refine lv_iconst (v := (nI 4)) hx hb dL_tell_162 (by decide +kernel) ?_
      refine mm_V (As := [.int (nI 4)]) (rest := []) ⟨hx, hb, hml, hown, hts⟩ (p_word l G hI hv (x := 4) (by omega)) (cwV 1 hts gL_tell_X5_word rfl rfl rfl (by decide +kernel) ⟨Nat.le_of_ble_eq_true rfl, Nat.le_of_ble_eq_true rfl⟩) hK hE hA hM (mm_recv hK hM ho (q := (RX5, TX5, 7)) rfl) rfl hl.1 rfl (Nat.le_of_ble_eq_true rfl) dL_tell_163 ⟨Nat.le_of_ble_eq_true rfl, Nat.le_of_ble_eq_true rfl⟩ (fun v f Hp lcs hp hM => ?_)
      obtain ⟨rfl, hI⟩ := hp
      obtain ⟨vso, ho⟩ := hI.obj
      have hv := hv.add1 (vt_w (x := 4) (by omega))
      refine lv_istore_n (lv' := [(3, .int (addI (c1 (apC 0 L9)))), (0, .ref o), (1, .int v), (2, .int m), (4, .int (nI (tlK v))), (5, .int (nI (tlM v)))]) hx hb dL_tell_166 rfl hl (by decide) rfl (fun ls hl => ?_)
      refine lv_aload_n hx hb dL_tell_167 rfl (lv_at hl 1 rfl) ?_
      refine lv_iload_n hx hb dL_tell_168 rfl (lv_at hl 3 rfl) ?_
      refine lv_iconst (v := (nI 5)) hx hb dL_tell_169 (by decide +kernel) ?_
      refine lv_ishr hx hb dL_tell_170 ?_
      refine mv_top (y := (sr m 5)) rfl ?_
      refine lv_iconst (v := (nI 4)) hx hb dL_tell_171 (by decide +kernel) ?_
      refine mm_S (As := [.int (sr m 5), .int (nI 4)]) (rest := [.ref o]) ⟨hx, hb, hml, hown, hts⟩ (l_low l G f (sr m 5) 4 (by first | decide | exact hQ9.1) (by first | decide | omega)) (va_cwS 2 hts gL_tell_L_low rfl rfl rfl (by decide +kernel) ⟨Nat.le_of_ble_eq_true rfl, Nat.le_of_ble_eq_true rfl⟩) hK hE hA hM rfl hl.1 rfl (Nat.le_of_ble_eq_true rfl) dL_tell_172 ⟨Nat.le_of_ble_eq_true rfl, Nat.le_of_ble_eq_true rfl⟩ (fun v f1 Hp lcs hp hM => ?_)
      obtain ⟨rfl, hf⟩ := hp; subst hf
      have hz14 := lowN_lt (sr m 5) (n := 4) (by first | decide | exact hQ9.1)
      refine mm_V (As := [.int (nI (lowN (sr m 5) 4))]) (rest := []) ⟨hx, hb, hml, hown, hts⟩ (p_number l G hI hv (x := (nI (lowN (sr m 5) 4))) (num4 (w := (lowN (sr m 5) 4)) (by omega))) (cwV 1 hts gL_tell_X5_number rfl rfl rfl (by decide +kernel) ⟨Nat.le_of_ble_eq_true rfl, Nat.le_of_ble_eq_true rfl⟩) hK hE hA hM (mm_recv hK hM ho (q := (RX5, TX5, 7)) rfl) rfl hl.1 rfl (Nat.le_of_ble_eq_true rfl) dL_tell_175 ⟨Nat.le_of_ble_eq_true rfl, Nat.le_of_ble_eq_true rfl⟩ (fun v f Hp lcs hp hM => ?_)
      obtain ⟨rfl, hI⟩ := hp
      obtain ⟨vso, ho⟩ := hI.obj
      have hv := hv.add1 (vt_1 (num4 (w := (lowN (sr m 5) 4)) (by omega)))
      refine lv_istore_n (lv' := [(3, .int (addI (c1 (c1 (apC 0 L9))))), (0, .ref o), (1, .int v), (2, .int m), (4, .int (nI (tlK v))), (5, .int (nI (tlM v)))]) hx hb dL_tell_178 rfl hl (by decide) rfl (fun ls hl => ?_)
      have hI : CI G f o (apT (upd S 7 (nI 0)) 0 (L9 ++ [(0, (nI (22 + (lowN m (tlQ v))))), (0, (nI 4)), (1, (nI (lowN (sr m 5) 4)))])) P rc := by rw [apT_app]; exact hI
      have hv : VSn (apT (upd S 7 (nI 0)) 0 (L9 ++ [(0, (nI (22 + (lowN m (tlQ v))))), (0, (nI 4)), (1, (nI (lowN (sr m 5) 4)))])) n (apC 0 (L9 ++ [(0, (nI (22 + (lowN m (tlQ v))))), (0, (nI 4)), (1, (nI (lowN (sr m 5) 4)))])) := by rw [apT_app, apC_app]; exact hv
      have hl : lv_has ls 7 [(3, .int (lst (nI cn) 0 (L9 ++ [(0, (nI (22 + (lowN m (tlQ v))))), (0, (nI 4)), (1, (nI (lowN (sr m 5) 4)))]))), (0, .ref o), (1, .int v), (2, .int m), (4, .int (nI (tlK v))), (5, .int (nI (tlM v)))] := by rw [lst_app]; exact hl
      exact z179 (L9 ++ [(0, (nI (22 + (lowN m (tlQ v))))), (0, (nI 4)), (1, (nI (lowN (sr m 5) 4)))]) _ _ _ ls (by rw [hL9, tlD, if_pos (by omega), List.append_assoc]) hI hv hM (lv_sub hl [1, 2, 3, 0, 4, 5] rfl)
    refine lv_iconst (v := (nI 4)) hx hb dL_tell_148 (by decide +kernel) ?_
    refine lv_goto (tgt := 153) hx hb dL_tell_149 (by decide) ?_
    refine mv_top (y := nI (tlQ v)) (by rw [tlQ, if_pos cz12]) ?_
    refine mm_S (As := [.int m, .int (nI (tlQ v))]) (rest := [.int (nI 22), .ref o]) ⟨hx, hb, hml, hown, hts⟩ (l_low l G f m (tlQ v) (by first | decide | exact hQ9.1) (by first | decide | omega)) (va_cwS 2 hts gL_tell_L_low rfl rfl rfl (by decide +kernel) ⟨Nat.le_of_ble_eq_true rfl, Nat.le_of_ble_eq_true rfl⟩) hK hE hA hM rfl hl.1 rfl (Nat.le_of_ble_eq_true rfl) dL_tell_153 ⟨Nat.le_of_ble_eq_true rfl, Nat.le_of_ble_eq_true rfl⟩ (fun v f1 Hp lcs hp hM => ?_)
    obtain ⟨rfl, hf⟩ := hp; subst hf
    have hz15 := lowN_lt m (n := (tlQ v)) (by first | decide | exact hQ9.1)
    refine ln_iadd 22 (lowN m (tlQ v)) hx hb dL_tell_156 ?_
    refine mm_V (As := [.int (nI (22 + (lowN m (tlQ v))))]) (rest := []) ⟨hx, hb, hml, hown, hts⟩ (p_word l G hI hv (x := (22 + (lowN m (tlQ v)))) (by omega)) (cwV 1 hts gL_tell_X5_word rfl rfl rfl (by decide +kernel) ⟨Nat.le_of_ble_eq_true rfl, Nat.le_of_ble_eq_true rfl⟩) hK hE hA hM (mm_recv hK hM ho (q := (RX5, TX5, 7)) rfl) rfl hl.1 rfl (Nat.le_of_ble_eq_true rfl) dL_tell_157 ⟨Nat.le_of_ble_eq_true rfl, Nat.le_of_ble_eq_true rfl⟩ (fun v f Hp lcs hp hM => ?_)
    obtain ⟨rfl, hI⟩ := hp
    obtain ⟨vso, ho⟩ := hI.obj
    have hv := hv.add1 (vt_w (x := (22 + (lowN m (tlQ v)))) (by omega))
    refine lv_istore_n (lv' := [(3, .int (addI (apC 0 L9))), (0, .ref o), (1, .int v), (2, .int m), (4, .int (nI (tlK v))), (5, .int (nI (tlM v)))]) hx hb dL_tell_160 rfl hl (by decide) rfl (fun ls hl => ?_)
    refine lv_aload_n hx hb dL_tell_161 rfl (lv_at hl 1 rfl) ?_
    refine lv_iconst (v := (nI 4)) hx hb dL_tell_162 (by decide +kernel) ?_
    refine mm_V (As := [.int (nI 4)]) (rest := []) ⟨hx, hb, hml, hown, hts⟩ (p_word l G hI hv (x := 4) (by omega)) (cwV 1 hts gL_tell_X5_word rfl rfl rfl (by decide +kernel) ⟨Nat.le_of_ble_eq_true rfl, Nat.le_of_ble_eq_true rfl⟩) hK hE hA hM (mm_recv hK hM ho (q := (RX5, TX5, 7)) rfl) rfl hl.1 rfl (Nat.le_of_ble_eq_true rfl) dL_tell_163 ⟨Nat.le_of_ble_eq_true rfl, Nat.le_of_ble_eq_true rfl⟩ (fun v f Hp lcs hp hM => ?_)
    obtain ⟨rfl, hI⟩ := hp
    obtain ⟨vso, ho⟩ := hI.obj
    have hv := hv.add1 (vt_w (x := 4) (by omega))
    refine lv_istore_n (lv' := [(3, .int (addI (c1 (apC 0 L9)))), (0, .ref o), (1, .int v), (2, .int m), (4, .int (nI (tlK v))), (5, .int (nI (tlM v)))]) hx hb dL_tell_166 rfl hl (by decide) rfl (fun ls hl => ?_)
    refine lv_aload_n hx hb dL_tell_167 rfl (lv_at hl 1 rfl) ?_
    refine lv_iload_n hx hb dL_tell_168 rfl (lv_at hl 3 rfl) ?_
    refine lv_iconst (v := (nI 5)) hx hb dL_tell_169 (by decide +kernel) ?_
    refine lv_ishr hx hb dL_tell_170 ?_
    refine mv_top (y := (sr m 5)) rfl ?_
    refine lv_iconst (v := (nI 4)) hx hb dL_tell_171 (by decide +kernel) ?_
    refine mm_S (As := [.int (sr m 5), .int (nI 4)]) (rest := [.ref o]) ⟨hx, hb, hml, hown, hts⟩ (l_low l G f (sr m 5) 4 (by first | decide | exact hQ9.1) (by first | decide | omega)) (va_cwS 2 hts gL_tell_L_low rfl rfl rfl (by decide +kernel) ⟨Nat.le_of_ble_eq_true rfl, Nat.le_of_ble_eq_true rfl⟩) hK hE hA hM rfl hl.1 rfl (Nat.le_of_ble_eq_true rfl) dL_tell_172 ⟨Nat.le_of_ble_eq_true rfl, Nat.le_of_ble_eq_true rfl⟩ (fun v f1 Hp lcs hp hM => ?_)
    obtain ⟨rfl, hf⟩ := hp; subst hf
    have hz16 := lowN_lt (sr m 5) (n := 4) (by first | decide | exact hQ9.1)
    refine mm_V (As := [.int (nI (lowN (sr m 5) 4))]) (rest := []) ⟨hx, hb, hml, hown, hts⟩ (p_number l G hI hv (x := (nI (lowN (sr m 5) 4))) (num4 (w := (lowN (sr m 5) 4)) (by omega))) (cwV 1 hts gL_tell_X5_number rfl rfl rfl (by decide +kernel) ⟨Nat.le_of_ble_eq_true rfl, Nat.le_of_ble_eq_true rfl⟩) hK hE hA hM (mm_recv hK hM ho (q := (RX5, TX5, 7)) rfl) rfl hl.1 rfl (Nat.le_of_ble_eq_true rfl) dL_tell_175 ⟨Nat.le_of_ble_eq_true rfl, Nat.le_of_ble_eq_true rfl⟩ (fun v f Hp lcs hp hM => ?_)
    obtain ⟨rfl, hI⟩ := hp
    obtain ⟨vso, ho⟩ := hI.obj
    have hv := hv.add1 (vt_1 (num4 (w := (lowN (sr m 5) 4)) (by omega)))
    refine lv_istore_n (lv' := [(3, .int (addI (c1 (c1 (apC 0 L9))))), (0, .ref o), (1, .int v), (2, .int m), (4, .int (nI (tlK v))), (5, .int (nI (tlM v)))]) hx hb dL_tell_178 rfl hl (by decide) rfl (fun ls hl => ?_)
    have hI : CI G f o (apT (upd S 7 (nI 0)) 0 (L9 ++ [(0, (nI (22 + (lowN m (tlQ v))))), (0, (nI 4)), (1, (nI (lowN (sr m 5) 4)))])) P rc := by rw [apT_app]; exact hI
    have hv : VSn (apT (upd S 7 (nI 0)) 0 (L9 ++ [(0, (nI (22 + (lowN m (tlQ v))))), (0, (nI 4)), (1, (nI (lowN (sr m 5) 4)))])) n (apC 0 (L9 ++ [(0, (nI (22 + (lowN m (tlQ v))))), (0, (nI 4)), (1, (nI (lowN (sr m 5) 4)))])) := by rw [apT_app, apC_app]; exact hv
    have hl : lv_has ls 7 [(3, .int (lst (nI cn) 0 (L9 ++ [(0, (nI (22 + (lowN m (tlQ v))))), (0, (nI 4)), (1, (nI (lowN (sr m 5) 4)))]))), (0, .ref o), (1, .int v), (2, .int m), (4, .int (nI (tlK v))), (5, .int (nI (tlM v)))] := by rw [lst_app]; exact hl
    exact z179 (L9 ++ [(0, (nI (22 + (lowN m (tlQ v))))), (0, (nI 4)), (1, (nI (lowN (sr m 5) 4)))]) _ _ _ ls (by rw [hL9, tlD, if_pos (by omega), List.append_assoc]) hI hv hM (lv_sub hl [1, 2, 3, 0, 4, 5] rfl)
  have z119 : ∀ (L9 : List (Int32 × Int32)) (f : mE) (Hp : Heap) (lcs : List Loc) (ls : Array Slot) (hL9 : tlL v m = L9 ++ (tlB v 2 ++ (tlD v m ++ (tlE v m ++ tlF v m)))) (hI : CI G f o (apT (upd S 7 (nI 0)) 0 L9) P rc) (hv : VSn (apT (upd S 7 (nI 0)) 0 L9) n (apC 0 L9)) (hM : mM G A s.heap f Hp lcs) (hl : lv_has ls 7 [(0, .ref o), (1, .int v), (2, .int m), (3, .int (lst (nI cn) 0 L9)), (4, .int (nI (tlK v))), (5, .int (nI (tlM v)))]), W pgm l env ({ frames := 11, cells := 620, slots := 1909, locals := 241 } : Room) s mt args below meth c Hp lcs 0 0 (MQ below (mQc G A (fun x f1 => x = some (.int (tlV S n cn v m)) ∧ (∃ P1 rc1, CI G f1 o (tlS S n v m) P1 rc1) ∧ ∃ c9, VSn (tlS S n v m) (tlNn S n v m) c9)) args s 620 1909 A) (F0 mt 119 ls []) := by
    intro L9 f Hp lcs ls hL9 hI hv hM hl
    obtain ⟨vso, ho⟩ := hI.obj
    refine lv_iload hx hb dL_tell_119 (lv_at hl 4 rfl) ?_
    refine lv_iconst (v := (nI 1)) hx hb dL_tell_121 (by decide +kernel) ?_
    refine ln_icmp_le (tlK v) 1 (by omega) (by omega) (tgt := 131) hx hb dL_tell_122 (by decide) (fun cz17 => ?_) (fun cz17 => ?_)
    · exact z131 L9 _ _ _ ls (by rw [hL9, tlB, if_neg (Nat.not_lt.mpr cz17), List.nil_append]) hI hv hM (lv_sub hl [0, 1, 2, 3, 4, 5] rfl)
    refine lv_aload_n hx hb dL_tell_125 rfl (lv_at hl 0 rfl) ?_
    refine lv_iconst (v := (nI 2)) hx hb dL_tell_126 (by decide +kernel) ?_
    refine mm_V (As := [.int (nI 2)]) (rest := []) ⟨hx, hb, hml, hown, hts⟩ (p_word l G hI hv (x := 2) (by omega)) (cwV 1 hts gL_tell_X5_word rfl rfl rfl (by decide +kernel) ⟨Nat.le_of_ble_eq_true rfl, Nat.le_of_ble_eq_true rfl⟩) hK hE hA hM (mm_recv hK hM ho (q := (RX5, TX5, 7)) rfl) rfl hl.1 rfl (Nat.le_of_ble_eq_true rfl) dL_tell_127 ⟨Nat.le_of_ble_eq_true rfl, Nat.le_of_ble_eq_true rfl⟩ (fun v f Hp lcs hp hM => ?_)
    obtain ⟨rfl, hI⟩ := hp
    obtain ⟨vso, ho⟩ := hI.obj
    have hv := hv.add1 (vt_w (x := 2) (by omega))
    refine lv_istore_n (lv' := [(3, .int (addI (apC 0 L9))), (0, .ref o), (1, .int v), (2, .int m), (4, .int (nI (tlK v))), (5, .int (nI (tlM v)))]) hx hb dL_tell_130 rfl hl (by decide) rfl (fun ls hl => ?_)
    have hI : CI G f o (apT (upd S 7 (nI 0)) 0 (L9 ++ [(0, (nI 2))])) P rc := by rw [apT_app]; exact hI
    have hv : VSn (apT (upd S 7 (nI 0)) 0 (L9 ++ [(0, (nI 2))])) n (apC 0 (L9 ++ [(0, (nI 2))])) := by rw [apT_app, apC_app]; exact hv
    have hl : lv_has ls 7 [(3, .int (lst (nI cn) 0 (L9 ++ [(0, (nI 2))]))), (0, .ref o), (1, .int v), (2, .int m), (4, .int (nI (tlK v))), (5, .int (nI (tlM v)))] := by rw [lst_app]; exact hl
    exact z131 (L9 ++ [(0, (nI 2))]) _ _ _ ls (by rw [hL9, tlB, if_pos cz17, List.append_assoc]) hI hv hM (lv_sub hl [1, 2, 3, 0, 4, 5] rfl)
  have z61 : ∀ (L9 : List (Int32 × Int32)) (f : mE) (Hp : Heap) (lcs : List Loc) (ls : Array Slot) (hL9 : tlL v m = L9 ++ (tlC v m (tlN v) ++ (tlB v 2 ++ (tlD v m ++ (tlE v m ++ tlF v m))))) (hI : CI G f o (apT (upd S 7 (nI 0)) 0 L9) P rc) (hv : VSn (apT (upd S 7 (nI 0)) 0 L9) n (apC 0 L9)) (hM : mM G A s.heap f Hp lcs) (hl : lv_has ls 7 [(0, .ref o), (1, .int v), (2, .int m), (3, .int (lst (nI cn) 0 L9)), (4, .int (nI (tlK v))), (5, .int (nI (tlM v)))]), W pgm l env ({ frames := 11, cells := 620, slots := 1909, locals := 241 } : Room) s mt args below meth c Hp lcs 0 0 (MQ below (mQc G A (fun x f1 => x = some (.int (tlV S n cn v m)) ∧ (∃ P1 rc1, CI G f1 o (tlS S n v m) P1 rc1) ∧ ∃ c9, VSn (tlS S n v m) (tlNn S n v m) c9)) args s 620 1909 A) (F0 mt 61 ls []) := by
    intro L9 f Hp lcs ls hL9 hI hv hM hl
    obtain ⟨vso, ho⟩ := hI.obj
    refine lv_iconst (v := (nI 0)) hx hb dL_tell_61 (by decide +kernel) ?_
    refine lv_istore (lv' := [(6, .int (nI 0)), (0, .ref o), (1, .int v), (2, .int m), (3, .int (lst (nI cn) 0 L9)), (4, .int (nI (tlK v))), (5, .int (nI (tlM v)))]) hx hb dL_tell_62 hl (by decide) rfl (fun ls hl => ?_)
    have loopZ : ∀ (fuel : Nat) (i : Nat) (f : mE) (Hp : Heap) (lcs : List Loc) (ls : Array Slot) (him : i ≤ tlM v) (hk9 : i = 0 ∨ tlK v ≠ 1) (hI : CI G f o (apT (upd S 7 (nI 0)) 0 (L9 ++ tlC v m i)) P rc) (hv : VSn (apT (upd S 7 (nI 0)) 0 (L9 ++ tlC v m i)) n (apC 0 (L9 ++ tlC v m i))) (hfu : tlM v - i < fuel) (hM : mM G A s.heap f Hp lcs) (hl : lv_has ls 7 [(0, .ref o), (1, .int v), (2, .int m), (3, .int (lst (nI cn) 0 (L9 ++ tlC v m i))), (4, .int (nI (tlK v))), (5, .int (nI (tlM v))), (6, .int (nI i))]), W pgm l env ({ frames := 11, cells := 620, slots := 1909, locals := 241 } : Room) s mt args below meth c Hp lcs 0 0 (MQ below (mQc G A (fun x f1 => x = some (.int (tlV S n cn v m)) ∧ (∃ P1 rc1, CI G f1 o (tlS S n v m) P1 rc1) ∧ ∃ c9, VSn (tlS S n v m) (tlNn S n v m) c9)) args s 620 1909 A) (F0 mt 64 ls []) := by
      intro fuel
      induction fuel with
      | zero => intro i f Hp lcs ls him hk9 hI hv hfu; exact absurd hfu (Nat.not_lt_zero _)
      | succ fuel ih =>
        intro i f Hp lcs ls him hk9 hI hv hfu hM hl
        obtain ⟨vso, ho⟩ := hI.obj
        refine lv_iload hx hb dL_tell_64 (lv_at hl 6 rfl) ?_
        refine lv_iload hx hb dL_tell_66 (lv_at hl 5 rfl) ?_
        refine ln_icmp_ge i (tlM v) (by omega) (by omega) (tgt := 119) hx hb dL_tell_68 (by decide) (fun cz18 => ?_) (fun cz18 => ?_)
        · exact z119 (L9 ++ tlC v m i) _ _ _ ls (by rw [hL9, show tlN v = i from (by rw [tlN, if_neg (by omega)]; omega), List.append_assoc]) hI hv hM (lv_sub hl [0, 1, 2, 3, 4, 5] rfl)
        refine lv_iload hx hb dL_tell_71 (lv_at hl 4 rfl) ?_
        refine lv_iconst (v := (nI 1)) hx hb dL_tell_73 (by decide +kernel) ?_
        refine ln_icmp_eq (tlK v) 1 (by omega) (by omega) (tgt := 119) hx hb dL_tell_74 (by decide) (fun cz19 => ?_) (fun cz19 => ?_)
        · exact z119 (L9 ++ tlC v m i) _ _ _ ls (by rw [hL9, show tlN v = 0 from (by rw [tlN, if_pos cz19]), show i = 0 by omega, List.append_assoc]) hI hv hM (lv_sub hl [0, 1, 2, 3, 4, 5] rfl)
        refine lv_iload hx hb dL_tell_77 (lv_at hl 6 rfl) ?_
        refine ln_if_le i (by omega) (tgt := 90) hx hb dL_tell_79 (by decide) (fun cz20 => ?_) (fun cz20 => ?_)
        · refine lv_iload_n hx hb dL_tell_90 rfl (lv_at hl 3 rfl) ?_
          refine lv_istore_n (lv' := [(3, .int (lst (nI cn) 0 (L9 ++ tlC v m i))), (0, .ref o), (1, .int v), (2, .int m), (4, .int (nI (tlK v))), (5, .int (nI (tlM v))), (6, .int (nI i))]) hx hb dL_tell_91 rfl hl (by decide) rfl (fun ls hl => ?_)
          refine lv_aload_n hx hb dL_tell_92 rfl (lv_at hl 1 rfl) ?_
          refine lv_iload_n hx hb dL_tell_93 rfl (lv_at hl 2 rfl) ?_
          refine lv_iconst (v := (nI 2)) hx hb dL_tell_94 (by decide +kernel) ?_
          refine lv_iload hx hb dL_tell_95 (lv_at hl 6 rfl) ?_
          refine ln_imul 2 i hx hb dL_tell_97 ?_
          refine lv_iconst (v := (nI 5)) hx hb dL_tell_98 (by decide +kernel) ?_
          refine ln_iadd (2 * i) 5 hx hb dL_tell_99 ?_
          refine lv_ishr hx hb dL_tell_100 ?_
          refine mv_top (y := (sr v ((2 * i) + 5))) rfl ?_
          refine lv_iload_n hx hb dL_tell_101 rfl (lv_at hl 3 rfl) ?_
          refine lv_iconst (v := (nI 3)) hx hb dL_tell_102 (by decide +kernel) ?_
          refine lv_iload hx hb dL_tell_103 (lv_at hl 6 rfl) ?_
          refine ln_imul 3 i hx hb dL_tell_105 ?_
          refine lv_iconst (v := (nI 2)) hx hb dL_tell_106 (by decide +kernel) ?_
          refine ln_iadd (3 * i) 2 hx hb dL_tell_107 ?_
          refine lv_ishr hx hb dL_tell_108 ?_
          refine mv_top (y := (sr m ((3 * i) + 2))) rfl ?_
          refine mm_S (As := [.ref o, .int (sr v ((2 * i) + 5)), .int (sr m ((3 * i) + 2))]) (rest := []) ⟨hx, hb, hml, hown, hts⟩ (l_condition l G hI hv (sr v ((2 * i) + 5)) (sr m ((3 * i) + 2))) (va_cwS 3 hts gL_tell_L_condition rfl rfl rfl (by decide +kernel) ⟨Nat.le_of_ble_eq_true rfl, Nat.le_of_ble_eq_true rfl⟩) hK hE hA hM rfl hl.1 rfl (Nat.le_of_ble_eq_true rfl) dL_tell_109 ⟨Nat.le_of_ble_eq_true rfl, Nat.le_of_ble_eq_true rfl⟩ (fun v f Hp lcs hp hM => ?_)
          obtain ⟨rfl, hI⟩ := hp
          obtain ⟨vso, ho⟩ := hI.obj
          have hv := vs_apT _ hv (lcL_ok (sr v ((2 * i) + 5)) (sr m ((3 * i) + 2)))
          refine lv_istore_n (lv' := [(3, .int (lst (-100005) (apC 0 (L9 ++ tlC v m i)) (lcL (sr v ((2 * i) + 5)) (sr m ((3 * i) + 2))))), (0, .ref o), (1, .int v), (2, .int m), (4, .int (nI (tlK v))), (5, .int (nI (tlM v))), (6, .int (nI i))]) hx hb dL_tell_112 rfl hl (by decide) rfl (fun ls hl => ?_)
          refine lv_iinc (v := (nI (i + 1))) (lv' := [(6, .int (nI (i + 1))), (3, .int (lst (-100005) (apC 0 (L9 ++ tlC v m i)) (lcL (sr v ((2 * i) + 5)) (sr m ((3 * i) + 2))))), (0, .ref o), (1, .int v), (2, .int m), (4, .int (nI (tlK v))), (5, .int (nI (tlM v)))]) hx hb dL_tell_113 hl (k := 6) rfl (nI_add _ _) (by decide) rfl (fun ls hl => ?_)
          refine lv_goto (tgt := 64) hx hb dL_tell_116 (by decide) ?_
          have e9 : L9 ++ tlC v m (i + 1) = (L9 ++ tlC v m i) ++ (lcL (sr v (2 * i + 5)) (sr m (3 * i + 2))) := by rw [tlC, if_pos cz20, List.nil_append, List.append_assoc]
          have hI : CI G f o (apT (upd S 7 (nI 0)) 0 (L9 ++ tlC v m (i + 1))) P rc := by rw [e9, apT_app _ (lcL (sr v (2 * i + 5)) (sr m (3 * i + 2)))]; exact hI
          have hv : VSn (apT (upd S 7 (nI 0)) 0 (L9 ++ tlC v m (i + 1))) n (apC 0 (L9 ++ tlC v m (i + 1))) := by rw [e9, apT_app _ (lcL (sr v (2 * i + 5)) (sr m (3 * i + 2))), apC_app _ (lcL (sr v (2 * i + 5)) (sr m (3 * i + 2)))]; exact hv
          have e8 : lst (nI cn) 0 (L9 ++ tlC v m (i + 1)) = lst (-100005) (apC 0 (L9 ++ tlC v m i)) (lcL (sr v (2 * i + 5)) (sr m (3 * i + 2))) := by rw [e9, lst_app _ (lcL (sr v (2 * i + 5)) (sr m (3 * i + 2)))]; exact lst_ne (lcL_ne _ _) _ _ _
          have hl : lv_has ls 7 [(6, .int (nI (i + 1))), (3, .int (lst (nI cn) 0 (L9 ++ tlC v m (i + 1)))), (0, .ref o), (1, .int v), (2, .int m), (4, .int (nI (tlK v))), (5, .int (nI (tlM v)))] := by rw [e8]; exact hl
          exact ih (i + 1) _ _ _ ls (by omega) (Or.inr cz19) hI hv (by omega) hM (lv_sub hl [2, 3, 4, 1, 5, 6, 0] rfl)
        refine lv_aload_n hx hb dL_tell_82 rfl (lv_at hl 0 rfl) ?_
        refine lv_iconst (v := (nI 1)) hx hb dL_tell_83 (by decide +kernel) ?_
        refine mm_V (As := [.int (nI 1)]) (rest := []) ⟨hx, hb, hml, hown, hts⟩ (p_word l G hI hv (x := 1) (by omega)) (cwV 1 hts gL_tell_X5_word rfl rfl rfl (by decide +kernel) ⟨Nat.le_of_ble_eq_true rfl, Nat.le_of_ble_eq_true rfl⟩) hK hE hA hM (mm_recv hK hM ho (q := (RX5, TX5, 7)) rfl) rfl hl.1 rfl (Nat.le_of_ble_eq_true rfl) dL_tell_84 ⟨Nat.le_of_ble_eq_true rfl, Nat.le_of_ble_eq_true rfl⟩ (fun v f Hp lcs hp hM => ?_)
        obtain ⟨rfl, hI⟩ := hp
        obtain ⟨vso, ho⟩ := hI.obj
        have hv := hv.add1 (vt_w (x := 1) (by omega))
        refine lv_goto (tgt := 91) hx hb dL_tell_87 (by decide) ?_
        refine lv_istore_n (lv' := [(3, .int (addI (apC 0 (L9 ++ tlC v m i)))), (0, .ref o), (1, .int v), (2, .int m), (4, .int (nI (tlK v))), (5, .int (nI (tlM v))), (6, .int (nI i))]) hx hb dL_tell_91 rfl hl (by decide) rfl (fun ls hl => ?_)
        refine lv_aload_n hx hb dL_tell_92 rfl (lv_at hl 1 rfl) ?_
        refine lv_iload_n hx hb dL_tell_93 rfl (lv_at hl 2 rfl) ?_
        refine lv_iconst (v := (nI 2)) hx hb dL_tell_94 (by decide +kernel) ?_
        refine lv_iload hx hb dL_tell_95 (lv_at hl 6 rfl) ?_
        refine ln_imul 2 i hx hb dL_tell_97 ?_
        refine lv_iconst (v := (nI 5)) hx hb dL_tell_98 (by decide +kernel) ?_
        refine ln_iadd (2 * i) 5 hx hb dL_tell_99 ?_
        refine lv_ishr hx hb dL_tell_100 ?_
        refine mv_top (y := (sr v ((2 * i) + 5))) rfl ?_
        refine lv_iload_n hx hb dL_tell_101 rfl (lv_at hl 3 rfl) ?_
        refine lv_iconst (v := (nI 3)) hx hb dL_tell_102 (by decide +kernel) ?_
        refine lv_iload hx hb dL_tell_103 (lv_at hl 6 rfl) ?_
        refine ln_imul 3 i hx hb dL_tell_105 ?_
        refine lv_iconst (v := (nI 2)) hx hb dL_tell_106 (by decide +kernel) ?_
        refine ln_iadd (3 * i) 2 hx hb dL_tell_107 ?_
        refine lv_ishr hx hb dL_tell_108 ?_
        refine mv_top (y := (sr m ((3 * i) + 2))) rfl ?_
        refine mm_S (As := [.ref o, .int (sr v ((2 * i) + 5)), .int (sr m ((3 * i) + 2))]) (rest := []) ⟨hx, hb, hml, hown, hts⟩ (l_condition l G hI hv (sr v ((2 * i) + 5)) (sr m ((3 * i) + 2))) (va_cwS 3 hts gL_tell_L_condition rfl rfl rfl (by decide +kernel) ⟨Nat.le_of_ble_eq_true rfl, Nat.le_of_ble_eq_true rfl⟩) hK hE hA hM rfl hl.1 rfl (Nat.le_of_ble_eq_true rfl) dL_tell_109 ⟨Nat.le_of_ble_eq_true rfl, Nat.le_of_ble_eq_true rfl⟩ (fun v f Hp lcs hp hM => ?_)
        obtain ⟨rfl, hI⟩ := hp
        obtain ⟨vso, ho⟩ := hI.obj
        have hv := vs_apT _ hv (lcL_ok (sr v ((2 * i) + 5)) (sr m ((3 * i) + 2)))
        refine lv_istore_n (lv' := [(3, .int (lst (-100005) (c1 (apC 0 (L9 ++ tlC v m i))) (lcL (sr v ((2 * i) + 5)) (sr m ((3 * i) + 2))))), (0, .ref o), (1, .int v), (2, .int m), (4, .int (nI (tlK v))), (5, .int (nI (tlM v))), (6, .int (nI i))]) hx hb dL_tell_112 rfl hl (by decide) rfl (fun ls hl => ?_)
        refine lv_iinc (v := (nI (i + 1))) (lv' := [(6, .int (nI (i + 1))), (3, .int (lst (-100005) (c1 (apC 0 (L9 ++ tlC v m i))) (lcL (sr v ((2 * i) + 5)) (sr m ((3 * i) + 2))))), (0, .ref o), (1, .int v), (2, .int m), (4, .int (nI (tlK v))), (5, .int (nI (tlM v)))]) hx hb dL_tell_113 hl (k := 6) rfl (nI_add _ _) (by decide) rfl (fun ls hl => ?_)
        refine lv_goto (tgt := 64) hx hb dL_tell_116 (by decide) ?_
        have e9 : L9 ++ tlC v m (i + 1) = ((L9 ++ tlC v m i) ++ [(0, nI 1)]) ++ (lcL (sr v (2 * i + 5)) (sr m (3 * i + 2))) := by rw [tlC, if_neg cz20, List.append_assoc, List.append_assoc]
        have hI : CI G f o (apT (upd S 7 (nI 0)) 0 (L9 ++ tlC v m (i + 1))) P rc := by rw [e9, apT_app _ (lcL (sr v (2 * i + 5)) (sr m (3 * i + 2))), apT_app _ [(0, nI 1)], apC_app _ [(0, nI 1)]]; exact hI
        have hv : VSn (apT (upd S 7 (nI 0)) 0 (L9 ++ tlC v m (i + 1))) n (apC 0 (L9 ++ tlC v m (i + 1))) := by rw [e9, apT_app _ (lcL (sr v (2 * i + 5)) (sr m (3 * i + 2))), apC_app _ (lcL (sr v (2 * i + 5)) (sr m (3 * i + 2))), apT_app _ [(0, nI 1)], apC_app _ [(0, nI 1)]]; exact hv
        have e8 : lst (nI cn) 0 (L9 ++ tlC v m (i + 1)) = lst (-100005) (c1 (apC 0 (L9 ++ tlC v m i))) (lcL (sr v (2 * i + 5)) (sr m (3 * i + 2))) := by rw [e9, lst_app _ (lcL (sr v (2 * i + 5)) (sr m (3 * i + 2))), apC_app _ [(0, nI 1)]]; exact lst_ne (lcL_ne _ _) _ _ _
        have hl : lv_has ls 7 [(6, .int (nI (i + 1))), (3, .int (lst (nI cn) 0 (L9 ++ tlC v m (i + 1)))), (0, .ref o), (1, .int v), (2, .int m), (4, .int (nI (tlK v))), (5, .int (nI (tlM v)))] := by rw [e8]; exact hl
        exact ih (i + 1) _ _ _ ls (by omega) (Or.inr cz19) hI hv (by omega) hM (lv_sub hl [2, 3, 4, 1, 5, 6, 0] rfl)
    have e9 : L9 ++ tlC v m 0 = L9 := List.append_nil _
    have hl : lv_has ls 7 [(6, .int (nI 0)), (0, .ref o), (1, .int v), (2, .int m), (3, .int (lst (nI cn) 0 (L9 ++ tlC v m 0))), (4, .int (nI (tlK v))), (5, .int (nI (tlM v)))] := by rw [e9]; exact hl
    exact loopZ (tlM v + 1) 0 _ _ _ ls (Nat.zero_le _) (Or.inl rfl) (by rw [e9]; exact hI) (by rw [e9]; exact hv) (by omega) hM (lv_sub hl [1, 2, 3, 4, 5, 6, 0] rfl)
  have z49 : ∀ (L9 : List (Int32 × Int32)) (f : mE) (Hp : Heap) (lcs : List Loc) (ls : Array Slot) (hL9 : tlL v m = L9 ++ (tlB v 0 ++ (tlC v m (tlN v) ++ (tlB v 2 ++ (tlD v m ++ (tlE v m ++ tlF v m)))))) (hI : CI G f o (apT (upd S 7 (nI 0)) 0 L9) P rc) (hv : VSn (apT (upd S 7 (nI 0)) 0 L9) n (apC 0 L9)) (hM : mM G A s.heap f Hp lcs) (hl : lv_has ls 7 [(0, .ref o), (1, .int v), (2, .int m), (3, .int (lst (nI cn) 0 L9)), (4, .int (nI (tlK v))), (5, .int (nI (tlM v)))]), W pgm l env ({ frames := 11, cells := 620, slots := 1909, locals := 241 } : Room) s mt args below meth c Hp lcs 0 0 (MQ below (mQc G A (fun x f1 => x = some (.int (tlV S n cn v m)) ∧ (∃ P1 rc1, CI G f1 o (tlS S n v m) P1 rc1) ∧ ∃ c9, VSn (tlS S n v m) (tlNn S n v m) c9)) args s 620 1909 A) (F0 mt 49 ls []) := by
    intro L9 f Hp lcs ls hL9 hI hv hM hl
    obtain ⟨vso, ho⟩ := hI.obj
    refine lv_iload hx hb dL_tell_49 (lv_at hl 4 rfl) ?_
    refine lv_iconst (v := (nI 1)) hx hb dL_tell_51 (by decide +kernel) ?_
    refine ln_icmp_le (tlK v) 1 (by omega) (by omega) (tgt := 61) hx hb dL_tell_52 (by decide) (fun cz21 => ?_) (fun cz21 => ?_)
    · exact z61 L9 _ _ _ ls (by rw [hL9, tlB, if_neg (Nat.not_lt.mpr cz21), List.nil_append]) hI hv hM (lv_sub hl [0, 1, 2, 3, 4, 5] rfl)
    refine lv_aload_n hx hb dL_tell_55 rfl (lv_at hl 0 rfl) ?_
    refine lv_iconst (v := (nI 0)) hx hb dL_tell_56 (by decide +kernel) ?_
    refine mm_V (As := [.int (nI 0)]) (rest := []) ⟨hx, hb, hml, hown, hts⟩ (p_word l G hI hv (x := 0) (by omega)) (cwV 1 hts gL_tell_X5_word rfl rfl rfl (by decide +kernel) ⟨Nat.le_of_ble_eq_true rfl, Nat.le_of_ble_eq_true rfl⟩) hK hE hA hM (mm_recv hK hM ho (q := (RX5, TX5, 7)) rfl) rfl hl.1 rfl (Nat.le_of_ble_eq_true rfl) dL_tell_57 ⟨Nat.le_of_ble_eq_true rfl, Nat.le_of_ble_eq_true rfl⟩ (fun v f Hp lcs hp hM => ?_)
    obtain ⟨rfl, hI⟩ := hp
    obtain ⟨vso, ho⟩ := hI.obj
    have hv := hv.add1 (vt_w (x := 0) (by omega))
    refine lv_istore_n (lv' := [(3, .int (addI (apC 0 L9))), (0, .ref o), (1, .int v), (2, .int m), (4, .int (nI (tlK v))), (5, .int (nI (tlM v)))]) hx hb dL_tell_60 rfl hl (by decide) rfl (fun ls hl => ?_)
    have hI : CI G f o (apT (upd S 7 (nI 0)) 0 (L9 ++ [(0, (nI 0))])) P rc := by rw [apT_app]; exact hI
    have hv : VSn (apT (upd S 7 (nI 0)) 0 (L9 ++ [(0, (nI 0))])) n (apC 0 (L9 ++ [(0, (nI 0))])) := by rw [apT_app, apC_app]; exact hv
    have hl : lv_has ls 7 [(3, .int (lst (nI cn) 0 (L9 ++ [(0, (nI 0))]))), (0, .ref o), (1, .int v), (2, .int m), (4, .int (nI (tlK v))), (5, .int (nI (tlM v)))] := by rw [lst_app]; exact hl
    exact z61 (L9 ++ [(0, (nI 0))]) _ _ _ ls (by rw [hL9, tlB, if_pos cz21, List.append_assoc]) hI hv hM (lv_sub hl [1, 2, 3, 0, 4, 5] rfl)
  refine lv_iload hx hb dL_tell_24 (lv_at hl 1 rfl) ?_
  refine ln_if_ne (tlK v) (by omega) (tgt := 49) hx hb dL_tell_26 (by decide) (fun cz22 => ?_) (fun cz22 => ?_)
  · exact z49 [] _ _ _ ls (by rw [tlL, tlA, if_neg cz22]; first | done | rfl) hI hv hM (lv_sub hl [3, 4, 5, 2, 1, 0] rfl)
  refine lv_aload_n hx hb dL_tell_29 rfl (lv_at hl 3 rfl) ?_
  refine lv_bipush (v := (nI 16)) hx hb dL_tell_30 (by decide +kernel) ?_
  refine lv_iload_n hx hb dL_tell_32 rfl (lv_at hl 5 rfl) ?_
  refine lv_bipush (v := (nI 6)) hx hb dL_tell_33 (by decide +kernel) ?_
  refine mm_S (As := [.int m, .int (nI 6)]) (rest := [.int (nI 16), .ref o]) ⟨hx, hb, hml, hown, hts⟩ (l_low l G f m 6 (by first | decide | exact hQ9.1) (by first | decide | omega)) (va_cwS 2 hts gL_tell_L_low rfl rfl rfl (by decide +kernel) ⟨Nat.le_of_ble_eq_true rfl, Nat.le_of_ble_eq_true rfl⟩) hK hE hA hM rfl hl.1 rfl (Nat.le_of_ble_eq_true rfl) dL_tell_35 ⟨Nat.le_of_ble_eq_true rfl, Nat.le_of_ble_eq_true rfl⟩ (fun v f1 Hp lcs hp hM => ?_)
  obtain ⟨rfl, hf⟩ := hp; subst hf
  have hz23 := lowN_lt m (n := 6) (by first | decide | exact hQ9.1)
  refine ln_iadd 16 (lowN m 6) hx hb dL_tell_38 ?_
  refine mm_V (As := [.int (nI (16 + (lowN m 6)))]) (rest := []) ⟨hx, hb, hml, hown, hts⟩ (p_word l G hI hv (x := (16 + (lowN m 6))) (by omega)) (cwV 1 hts gL_tell_X5_word rfl rfl rfl (by decide +kernel) ⟨Nat.le_of_ble_eq_true rfl, Nat.le_of_ble_eq_true rfl⟩) hK hE hA hM (mm_recv hK hM ho (q := (RX5, TX5, 7)) rfl) rfl hl.1 rfl (Nat.le_of_ble_eq_true rfl) dL_tell_39 ⟨Nat.le_of_ble_eq_true rfl, Nat.le_of_ble_eq_true rfl⟩ (fun v f Hp lcs hp hM => ?_)
  obtain ⟨rfl, hI⟩ := hp
  obtain ⟨vso, ho⟩ := hI.obj
  have hv := hv.add1 (vt_w (x := (16 + (lowN m 6))) (by omega))
  refine lv_istore_n (lv' := [(3, .int (addI (apC 0 []))), (5, .int (nI (tlM v))), (4, .int (nI (tlK v))), (0, .ref o), (1, .int v), (2, .int m)]) hx hb dL_tell_42 rfl hl (by decide) rfl (fun ls hl => ?_)
  refine lv_aload_n hx hb dL_tell_43 rfl (lv_at hl 3 rfl) ?_
  refine lv_iconst (v := (nI 3)) hx hb dL_tell_44 (by decide +kernel) ?_
  refine mm_V (As := [.int (nI 3)]) (rest := []) ⟨hx, hb, hml, hown, hts⟩ (p_word l G hI hv (x := 3) (by omega)) (cwV 1 hts gL_tell_X5_word rfl rfl rfl (by decide +kernel) ⟨Nat.le_of_ble_eq_true rfl, Nat.le_of_ble_eq_true rfl⟩) hK hE hA hM (mm_recv hK hM ho (q := (RX5, TX5, 7)) rfl) rfl hl.1 rfl (Nat.le_of_ble_eq_true rfl) dL_tell_45 ⟨Nat.le_of_ble_eq_true rfl, Nat.le_of_ble_eq_true rfl⟩ (fun v f Hp lcs hp hM => ?_)
  obtain ⟨rfl, hI⟩ := hp
  obtain ⟨vso, ho⟩ := hI.obj
  have hv := hv.add1 (vt_w (x := 3) (by omega))
  refine lv_istore_n (lv' := [(3, .int (addI (c1 (apC 0 [])))), (5, .int (nI (tlM v))), (4, .int (nI (tlK v))), (0, .ref o), (1, .int v), (2, .int m)]) hx hb dL_tell_48 rfl hl (by decide) rfl (fun ls hl => ?_)
  have hI : CI G f o (apT (upd S 7 (nI 0)) 0 ([] ++ [(0, (nI (16 + (lowN m 6)))), (0, (nI 3))])) P rc := by rw [apT_app]; exact hI
  have hv : VSn (apT (upd S 7 (nI 0)) 0 ([] ++ [(0, (nI (16 + (lowN m 6)))), (0, (nI 3))])) n (apC 0 ([] ++ [(0, (nI (16 + (lowN m 6)))), (0, (nI 3))])) := by rw [apT_app, apC_app]; exact hv
  have hl : lv_has ls 7 [(3, .int (lst (nI cn) 0 ([] ++ [(0, (nI (16 + (lowN m 6)))), (0, (nI 3))]))), (5, .int (nI (tlM v))), (4, .int (nI (tlK v))), (0, .ref o), (1, .int v), (2, .int m)] := by rw [lst_app]; exact hl
  exact z49 ([] ++ [(0, (nI (16 + (lowN m 6)))), (0, (nI 3))]) _ _ _ ls (by rw [tlL, tlA, if_pos cz22]; first | done | rfl) hI hv hM (lv_sub hl [3, 4, 5, 0, 2, 1] rfl)
