/-! THE CLASS: a sentence, read -/
theorem nI_no5 {n : Nat} (h : n < 2 ^ 31) : ¬ nI n = -100005 := fun z => by
  have := congrArg Int32.toInt z
  rw [nI_toInt h, show (-100005 : Int32).toInt = -100005 from by decide] at this
  omega
set_option maxHeartbeats 4000000 in
set_option maxRecDepth 100000 in
theorem c0_firstError (l : Launch) (G : mG) {f : mE} {rd r p q : Nat} {ab gv us pl cp : Int32} {t : Nat} {ir ng : Bool} {lo hi : Nat → Int32} (hR : RD G f rd r p q ab gv us pl ir (nI t) ng cp lo hi) {tk ka va cn : Nat} {K Vv S : Nat → Int32} (hT : f tk = some (.inr (5, [.int (nI cn), .ref ka, .ref va]))) (hKa : f ka = some (mI G 24 K)) (hVa : f va = some (mI G 24 Vv)) (hc24 : cn ≤ 24) (hKV : ∀ j, j < cn → K j = S (7 + 1 + j) ∧ Vv j = S (7 + 25 + j)) (hkd : ∀ j, j < cn → kdB (S (7 + 1 + j))) (ht6 : t < 6) : mC l G yX0_firstError wsX0_firstError ({ frames := 4, cells := 0, slots := 0, locals := 87 } : Room) f [.ref rd, .ref tk] (fun v f1 => ∃ (E ab gv us pl : Int32) (ir : Bool) (t : Nat) (ng : Bool) (cp : Int32) (lo hi : Nat → Int32), v = some (.int E) ∧ t < 6 ∧ RDF G f f1 rd r p q ab gv us pl ir (nI t) ng cp lo hi ∧ (∀ ir0 wt0, E = (errF S cn 0 ir0 wt0 0).1) ∧ (E = -100005 → ∀ lo0 hi0 ab0, FRel S cn lo0 hi0 ab0 ab gv us lo hi)) 0 0 := by
  refine mC.of (cc := cX0_firstError) (maxL := 3) (ret := (some .int)) (by decide) rfl (Nat.le_of_ble_eq_true rfl) ?_
  intro pgm env s mt args below meth c A ls hx hb hml hr hlocks hown hname hts hK hE hA hM hl
  have hl : lv_has ls 3 [(0, .ref rd), (1, .ref tk)] := hl
  have hD := hR.start
  have nt1 := ne_oo hT hR.1 (by show (5 : Nat) ≠ 1; decide)
  have nt2 := ne_oi hT hR.2.2.1
  have nt3 := ne_oi hT hR.2.2.2.1
  have nk1 := (ne_oi hR.1 hKa).symm
  have nk2 := ne_len hKa hR.2.2.1 (by decide)
  have nk3 := ne_len hKa hR.2.2.2.1 (by decide)
  have nv1 := (ne_oi hR.1 hVa).symm
  have nv2 := ne_len hVa hR.2.2.1 (by decide)
  have nv3 := ne_len hVa hR.2.2.2.1 (by decide)
  refine lv_aload_n hx hb dX0_firstError_0 rfl (lv_at hl 0 rfl) ?_
  refine mm_V (As := []) (rest := []) ⟨hx, hb, hml, hown, hts⟩ (c0_begin l G hD.1 ) (cwV 0 hts gX0_firstError_X0_begin rfl rfl rfl (by decide +kernel) ⟨Nat.le_of_ble_eq_true rfl, Nat.le_of_ble_eq_true rfl⟩) hK hE hA hM (mm_recv hK hM (hD.1.1) (q := (RX0, TX0, 9)) rfl) rfl hl.1 rfl (Nat.le_of_ble_eq_true rfl) dX0_firstError_1 ⟨Nat.le_of_ble_eq_true rfl, Nat.le_of_ble_eq_true rfl⟩ (fun v gz1 Hp lcs hp hM => ?_)
  obtain ⟨rfl, hp1⟩ := hp
  have hD := hD.trans hp1
  refine lv_iconst (v := (nI 0)) hx hb dX0_firstError_4 (by decide +kernel) ?_
  refine lv_istore_n (lv' := [(2, .int (nI 0)), (0, .ref rd), (1, .ref tk)]) hx hb dX0_firstError_5 rfl hl (by decide) rfl (fun ls hl => ?_)
  have loopZ : ∀ (fuel : Nat) (i pl t : Nat) (ab gv us cp : Int32) (ir ng : Bool) (lo hi : Nat → Int32) (fz : mE) (Hp : Heap) (lcs : List Loc) (ls : Array Slot) (hiN : i ≤ cn) (hEv : EIv S cn i pl ir t) (hV : RIv S cn i ab gv us pl ir t ng cp lo hi) (hDz : RDF G f fz rd r p q ab gv us (nI pl) ir (nI t) ng cp lo hi) (hfu : cn - i < fuel) (hM : mM G A s.heap fz Hp lcs) (hl : lv_has ls 3 [(0, .ref rd), (1, .ref tk), (2, .int (nI i))]), W pgm l env ({ frames := 4, cells := 0, slots := 0, locals := 87 } : Room) s mt args below meth c Hp lcs 0 0 (MQ below (mQc G A (fun v f1 => ∃ (E ab gv us pl : Int32) (ir : Bool) (t : Nat) (ng : Bool) (cp : Int32) (lo hi : Nat → Int32), v = some (.int E) ∧ t < 6 ∧ RDF G f f1 rd r p q ab gv us pl ir (nI t) ng cp lo hi ∧ (∀ ir0 wt0, E = (errF S cn 0 ir0 wt0 0).1) ∧ (E = -100005 → ∀ lo0 hi0 ab0, FRel S cn lo0 hi0 ab0 ab gv us lo hi))) args s 0 0 A) (F0 mt 6 ls []) := by
    intro fuel
    induction fuel with
    | zero => intro i pl t ab gv us cp ir ng lo hi fz Hp lcs ls hiN hEv hV hDz hfu; exact absurd hfu (Nat.not_lt_zero _)
    | succ fuel ih =>
      intro i pl t ab gv us cp ir ng lo hi fz Hp lcs ls hiN hEv hV hDz hfu hM hl
      have hD := hDz
      have hp14 := hEv.1
      refine lv_iload_n hx hb dX0_firstError_6 rfl (lv_at hl 2 rfl) ?_
      refine lv_aload_n hx hb dX0_firstError_7 rfl (lv_at hl 1 rfl) ?_
      refine mm_get (C := RX4) (T := TX4) (N := 3) (k := 0) hx hb hts (fun _ h => List.mem_cons_of_mem _ (List.mem_append_left _ (List.mem_append_left _ (List.mem_append_right _ h)))) hown hK hM ((hD.2 tk nt1 nt2 nt3).trans hT) rfl (by decide) (hts (.fieldLink RX0 21 "SentenceRules$Tokens" "count" "I") (List.mem_of_getElem? (i := 1) rfl)) rfl rfl dX0_firstError_8 ?_
      refine ln_icmp_ge i cn (by omega) (by omega) (tgt := 50) hx hb dX0_firstError_11 (by decide) (fun cz2 => ?_) (fun cz2 => ?_)
      · refine lv_aload_n hx hb dX0_firstError_50 rfl (lv_at hl 0 rfl) ?_
        refine mm_V (As := []) (rest := []) ⟨hx, hb, hml, hown, hts⟩ (c0_isComplete l G hD.1 (by omega)) (cwV 0 hts gX0_firstError_X0_isComplete rfl rfl rfl (by decide +kernel) ⟨Nat.le_of_ble_eq_true rfl, Nat.le_of_ble_eq_true rfl⟩) hK hE hA hM (mm_recv hK hM (hD.1.1) (q := (RX0, TX0, 9)) rfl) rfl hl.1 rfl (Nat.le_of_ble_eq_true rfl) dX0_firstError_51 ⟨Nat.le_of_ble_eq_true rfl, Nat.le_of_ble_eq_true rfl⟩ (fun v gz3 Hp lcs hp hM => ?_)
        obtain ⟨rfl, hp1⟩ := hp
        have hD := hD.trans hp1
        refine lvb_eq (tgt := 62) hx hb dX0_firstError_54 (by decide) (fun cz4 => ?_) (fun cz4 => ?_)
        · refine lv_aload_n hx hb dX0_firstError_62 rfl (lv_at hl 1 rfl) ?_
          refine mm_get (C := RX4) (T := TX4) (N := 3) (k := 0) hx hb hts (fun _ h => List.mem_cons_of_mem _ (List.mem_append_left _ (List.mem_append_left _ (List.mem_append_right _ h)))) hown hK hM ((hD.2 tk nt1 nt2 nt3).trans hT) rfl (by decide) (hts (.fieldLink RX0 21 "SentenceRules$Tokens" "count" "I") (List.mem_of_getElem? (i := 1) rfl)) rfl rfl dX0_firstError_63 ?_
          exact mm_iret hx hb hlocks hr (Nat.le_of_ble_eq_true rfl) (Nat.le_of_ble_eq_true rfl) hM (⟨_, _, _, _, _, _, _, _, _, _, _, rfl, hEv.2.1, hD, fun ir0 wt0 => by rw [hEv.fin cz2 ir0 wt0, if_neg (by rw [cz4]; decide), show i = cn by omega], fun z => absurd z (nI_no5 (by omega))⟩) dX0_firstError_66
        refine lv_ldc (v := (-100005)) hx hb hown (hts (.constant RX0 45 (-100005)) (List.mem_of_getElem? (i := 5) rfl)) dX0_firstError_57 ?_
        refine lv_goto (tgt := 66) hx hb dX0_firstError_59 (by decide) ?_
        exact mm_iret hx hb hlocks hr (Nat.le_of_ble_eq_true rfl) (Nat.le_of_ble_eq_true rfl) hM (⟨_, _, _, _, _, _, _, _, _, _, _, rfl, hEv.2.1, hD, fun ir0 wt0 => by rw [hEv.fin cz2 ir0 wt0, if_pos cz4], fun _ lo0 hi0 ab0 => hV.fin (by omega) cz4 lo0 hi0 ab0⟩) dX0_firstError_66
      refine lv_aload_n hx hb dX0_firstError_14 rfl (lv_at hl 0 rfl) ?_
      refine lv_aload_n hx hb dX0_firstError_15 rfl (lv_at hl 0 rfl) ?_
      refine lv_aload_n hx hb dX0_firstError_16 rfl (lv_at hl 1 rfl) ?_
      refine mm_get (C := RX4) (T := TX4) (N := 3) (k := 1) hx hb hts (fun _ h => List.mem_cons_of_mem _ (List.mem_append_left _ (List.mem_append_left _ (List.mem_append_right _ h)))) hown hK hM ((hD.2 tk nt1 nt2 nt3).trans hT) rfl (by decide) (hts (.fieldLink RX0 27 "SentenceRules$Tokens" "kinds" "[I") (List.mem_of_getElem? (i := 2) rfl)) rfl rfl dX0_firstError_17 ?_
      refine lv_iload_n hx hb dX0_firstError_20 rfl (lv_at hl 2 rfl) ?_
      refine mn_iald hx hb hK hM ((hD.2 ka nk1 nk2 nk3).trans hKa) i (by omega) (by decide) dX0_firstError_21 ?_
      refine mv_top (hKV i (by omega)).1 ?_
      refine lv_aload_n hx hb dX0_firstError_22 rfl (lv_at hl 1 rfl) ?_
      refine mm_get (C := RX4) (T := TX4) (N := 3) (k := 2) hx hb hts (fun _ h => List.mem_cons_of_mem _ (List.mem_append_left _ (List.mem_append_left _ (List.mem_append_right _ h)))) hown hK hM ((hD.2 tk nt1 nt2 nt3).trans hT) rfl (by decide) (hts (.fieldLink RX0 31 "SentenceRules$Tokens" "values" "[I") (List.mem_of_getElem? (i := 3) rfl)) rfl rfl dX0_firstError_23 ?_
      refine lv_iload_n hx hb dX0_firstError_26 rfl (lv_at hl 2 rfl) ?_
      refine mn_iald hx hb hK hM ((hD.2 va nv1 nv2 nv3).trans hVa) i (by omega) (by decide) dX0_firstError_27 ?_
      refine mv_top (hKV i (by omega)).2 ?_
      refine mm_V (As := [.int (S (7 + 1 + i)), .int (S (7 + 25 + i))]) (rest := [.ref rd]) ⟨hx, hb, hml, hown, hts⟩ (c0_placeAfter l G hD.1 hEv.1 hEv.2.1 (S (7 + 1 + i)) (S (7 + 25 + i))) (cwV 2 hts gX0_firstError_X0_placeAfter rfl rfl rfl (by decide +kernel) ⟨Nat.le_of_ble_eq_true rfl, Nat.le_of_ble_eq_true rfl⟩) hK hE hA hM (mm_recv hK hM (hD.1.1) (q := (RX0, TX0, 9)) rfl) rfl hl.1 rfl (Nat.le_of_ble_eq_true rfl) dX0_firstError_28 ⟨Nat.le_of_ble_eq_true rfl, Nat.le_of_ble_eq_true rfl⟩ (fun v gz5 Hp lcs hp hM => ?_)
      obtain ⟨rfl, hp1⟩ := hp
      have hD := hD.trans hp1
      refine mm_put (C := RX0) (T := TX0) (N := 9) (k := 4) hx hb hts (fun _ h => List.mem_cons_of_mem _ (List.mem_append_left _ (List.mem_append_right _ h))) tyX0 tyX0_ok nmX0 hown hK hM (hD.1.1) rfl (by decide) (hts (.fieldLink RX0 38 "SentenceRules$Reader" "place" "I") (List.mem_of_getElem? (i := 4) rfl)) rfl rfl rfl rfl (Nat.le_of_ble_eq_true rfl) dX0_firstError_31 (fun Hp lcs hM => ?_)
      have hD := hD.setObj (paA pl (cdF (S (7 + 1 + i)) (S (7 + 25 + i))) ab) (paG pl (S (7 + 1 + i)) (S (7 + 25 + i)) gv) (paU pl (cdF (S (7 + 1 + i)) (S (7 + 25 + i))) us) (plV pl (S (7 + 1 + i)) (S (7 + 25 + i)) ir t) (paI pl (cdF (S (7 + 1 + i)) (S (7 + 25 + i))) ir) (nI (paT pl (cdF (S (7 + 1 + i)) (S (7 + 25 + i))) t)) (paN pl (cdF (S (7 + 1 + i)) (S (7 + 25 + i))) ng) (paC pl (cdF (S (7 + 1 + i)) (S (7 + 25 + i))) cp)
      refine lv_aload_n hx hb dX0_firstError_34 rfl (lv_at hl 0 rfl) ?_
      refine mm_get (C := RX0) (T := TX0) (N := 9) (k := 4) hx hb hts (fun _ h => List.mem_cons_of_mem _ (List.mem_append_left _ (List.mem_append_right _ h))) hown hK hM (hD.1.1) rfl (by decide) (hts (.fieldLink RX0 38 "SentenceRules$Reader" "place" "I") (List.mem_of_getElem? (i := 4) rfl)) rfl rfl dX0_firstError_35 ?_
      refine lv_iconst (v := (-1)) hx hb dX0_firstError_38 (by decide +kernel) ?_
      refine lv_icmp_ne (tgt := 44) hx hb dX0_firstError_39 (by decide) (fun cz6 => ?_) (fun cz6 => ?_)
      · obtain ⟨qz, hqz, hqe⟩ := plV_nat cz6
        refine lv_iinc (v := (nI (i + 1))) (lv' := [(2, .int (nI (i + 1))), (0, .ref rd), (1, .ref tk)]) hx hb dX0_firstError_44 hl (k := 2) rfl (nI_add _ _) (by decide) rfl (fun ls hl => ?_)
        refine lv_goto (tgt := 6) hx hb dX0_firstError_47 (by decide) ?_
        exact ih (i + 1) _ _ _ _ _ _ _ _ _ _ _ _ _ ls (by omega) (hEv.step (by omega) (hkd i (by omega)) hqz hqe) (hV.step (by omega) hEv.2.1 (pl_tr hEv.1 hqz hqe)) (hD.cv rfl rfl rfl hqe rfl rfl rfl rfl rfl rfl) (by omega) hM (lv_sub hl [1, 2, 0] rfl)
      refine lv_iload_n hx hb dX0_firstError_42 rfl (lv_at hl 2 rfl) ?_
      exact mm_iret hx hb hlocks hr (Nat.le_of_ble_eq_true rfl) (Nat.le_of_ble_eq_true rfl) hM (⟨_, _, _, _, _, _, _, _, _, _, _, rfl, paT_lt hEv.2.1, hD, fun ir0 wt0 => (hEv.bad cz2 (hkd i (by omega)) cz6 ir0 wt0).symm, fun z => absurd z (nI_no5 (by omega))⟩) dX0_firstError_43
  exact loopZ (cn + 1) 0 0 t _ _ _ _ _ _ _ _ _ _ _ ls (Nat.zero_le _) (EIv.start S cn t ht6) (RIv.start S cn _ _ t _ _ _ _) hD (by omega) hM (lv_sub hl [1, 2, 0] rfl)

