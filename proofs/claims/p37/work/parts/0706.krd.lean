/-! THE CLASS: reading, and whether a sentence can be told -/
def RT (T : Nat → Nat) (rd r p q : Nat) : Prop := T rd = rd + 1 ∧ T r = rd + 1 ∧ T p = rd + 1 ∧ T q = rd + 1
theorem CC.rd_ {G : mG} {f f1 : mE} {T : Nat → Nat} {o q0 ra rd sp rr sb : Nat} {S P : Nat → Int32} {rc : Nat} (h : CC G f T o q0 ra rd sp rr sb S P rc) {r p q t t2 : Nat} {ab gv us pl cp ab2 gv2 us2 pl2 cp2 : Int32} {ir ng ir2 ng2 : Bool} {lo hi lo2 hi2 : Nat → Int32} (hR0 : RD G f rd r p q ab gv us pl ir (nI t) ng cp lo hi) (hT : RT T rd r p q) (hR : RDF G f f1 rd r p q ab2 gv2 us2 pl2 ir2 (nI t2) ng2 cp2 lo2 hi2) (ht : t2 < 6) : CC G f1 T o q0 ra rd sp rr sb S P rc := by
  obtain ⟨hO, tO, hRe, hSp, hRr, hTb, hSt, hHi⟩ := h
  obtain ⟨trd, tr, tp, tq⟩ := hT
  have hk : Kp f f1 T T (fun t => t ≠ rd + 1) := fun b e hb => ⟨rfl, fun z => by rw [hR.2 b (fun y => z (by rw [y]; exact trd)) (fun y => z (by rw [y]; exact tp)) (fun y => z (by rw [y]; exact tq))]; exact hb⟩
  obtain ⟨vs, hq⟩ := hSt.obj
  have n1 : o + 1 ≠ rd + 1 := fun z => ne_oo hO hR0.1 (by show (6 : Nat) ≠ 1; decide) (Nat.succ.inj z)
  have n2 : sp + 1 ≠ rd + 1 := fun z => by obtain ⟨gs, hs0, -⟩ := hSp; exact ne_oi hR0.1 hs0 (Nat.succ.inj z).symm
  have n3 : rr + 1 ≠ rd + 1 := fun z => by obtain ⟨gs, hs0, -⟩ := hRr; exact ne_oi hR0.1 hs0 (Nat.succ.inj z).symm
  have n4 : sb + 1 ≠ rd + 1 := fun z => by obtain ⟨_, _, _, _, _, hC, -⟩ := hTb; exact ne_oo hC.1 hR0.1 (by show (0 : Nat) ≠ 1; decide) (Nat.succ.inj z)
  have n5 : q0 + 1 ≠ rd + 1 := fun z => ne_oo hq hR0.1 (by show (4 : Nat) ≠ 1; decide) (Nat.succ.inj z)
  have n0 : (0 : Nat) ≠ rd + 1 := by omega
  exact ⟨(hk.at hO tO n1).1, tO, ⟨r, p, q, t2, ab2, gv2, us2, pl2, ir2, ng2, cp2, lo2, hi2, hR.1, ht, trd, tr, tp, tq⟩, hSp.keep hk n2, hRr.keep hk n3, hTb.keep hk n4, hSt.keep hk n0 n5, hHi.keep hk n0 n1 (fun q vs _ hqo z => ne_oo hqo hR0.1 (by show (4 : Nat) ≠ 1; decide) (Nat.succ.inj z))⟩
theorem RD.keep_ {G : mG} {f f1 : mE} {T T1 : Nat → Nat} {own : Nat → Prop} {rd r p q : Nat} {ab gv us pl lf cp : Int32} {ir ng : Bool} {lo hi : Nat → Int32} (hR : RD G f rd r p q ab gv us pl ir lf ng cp lo hi) (hT : RT T rd r p q) (hk : Kp f f1 T T1 own) (ho : own (rd + 1)) : RD G f1 rd r p q ab gv us pl ir lf ng cp lo hi ∧ RT T1 rd r p q := by
  obtain ⟨a1, a2, a3, a4, a5⟩ := hR
  obtain ⟨t1, t2, t3, t4⟩ := hT
  exact ⟨⟨(hk.at a1 t1 ho).1, (hk.at a2 t2 ho).1, (hk.at a3 t3 ho).1, (hk.at a4 t4 ho).1, a5⟩, (hk.at a1 t1 ho).2, (hk.at a2 t2 ho).2, (hk.at a3 t3 ho).2, (hk.at a4 t4 ho).2⟩
theorem defI_d {S : Nat → Int32} {n : Nat} (hn : n ≤ 16) (w : Int32) : decide (defI S n w = -100005) = !decide (firN (defQ S w) n < n) := by
  unfold defI
  by_cases h : firN (defQ S w) n < n
  · rw [if_pos h, decide_eq_true h, decide_eq_false (nI_no5 (by omega))]; rfl
  · rw [if_neg h, decide_eq_false h, decide_eq_true rfl]; rfl
theorem caW_d {S : Nat → Int32} {n u w : Nat} (hn : n ≤ 16) (hu : u < 64) (hw : w < 6) : caW S n (nI u) w = (!bitB (nI u) (nI w) || decide (dN S n w < n)) := by
  unfold caW
  rw [bit_01 u hu w hw, defI_d hn, Bool.not_not]; rfl
theorem can_cut {S : Nat → Int32} {n cn : Nat} {ab gv us : Int32} {lo hi : Nat → Int32} (hE : ∀ ir0 wt0, (-100005 : Int32) = (errF S cn 0 ir0 wt0 0).1) (hFR : ∀ lo0 hi0 ab0, FRel S cn lo0 hi0 ab0 ab gv us lo hi) (ir wt : Bool) (lo0 hi0 : Nat → Int32) (ab0 : Int32) : canB S n cn ir wt lo0 hi0 ab0 = (caA S n ab && allN (caW S n us) 6 && allN (caF (rsAll S n cn lo0 hi0 ab0).1 (rsAll S n cn lo0 hi0 ab0).2.1) 7) := by
  obtain ⟨u', hu, e1, e2, hR⟩ := RN.all (S := S) (n := n) (cn := cn) lo0 hi0 ab0
  obtain ⟨f1, f2, f3, f4⟩ := hFR lo0 hi0 ab0
  have g2 : (rsAll S n cn lo0 hi0 ab0).2.2.1 = us := by rw [e2]; exact f2
  have g3 : (rsAll S n cn lo0 hi0 ab0).2.2.2.1 = ab := by rw [e2]; exact f3
  unfold canB
  rw [← hE ir wt, g2, g3, decide_eq_true rfl, Bool.true_and]
theorem us_nat {S : Nat → Int32} {cn : Nat} {ab gv us : Int32} {lo hi : Nat → Int32} (hFR : ∀ lo0 hi0 ab0, FRel S cn lo0 hi0 ab0 ab gv us lo hi) : ∃ u, u < 64 ∧ us = nI u := by
  obtain ⟨u', hu, e1, -⟩ := RN.all (S := S) (n := 0) (cn := cn) (fun _ => 0) (fun _ => 0) 0
  obtain ⟨-, f2, -⟩ := hFR (fun _ => 0) (fun _ => 0) 0
  exact ⟨u', hu, f2.symm.trans e1⟩
theorem tel_fin {S : Nat → Int32} {n cn : Nat} {ab gv us : Int32} {lo hi lo1 hi1 : Nat → Int32} (hFR : ∀ lo0 hi0 ab0, FRel S cn lo0 hi0 ab0 ab gv us lo hi) (hNA : NA S n us lo hi 6 lo1 hi1) (lo0 hi0 : Nat → Int32) (ab0 : Int32) : ∀ j, j < 7 → lo1 j = (rsAll S n cn lo0 hi0 ab0).1 j ∧ hi1 j = (rsAll S n cn lo0 hi0 ab0).2.1 j := by
  obtain ⟨u', hu, e1, e2, hR⟩ := RN.all (S := S) (n := n) (cn := cn) lo0 hi0 ab0
  obtain ⟨f1, f2, f3, f4⟩ := hFR lo0 hi0 ab0
  have e : us = nI u' := f2.symm.trans e1
  subst e
  exact hNA.fin hR f1
def TelK (S : Nat → Int32) (n cn : Nat) (ab gv us : Int32) (lo hi : Nat → Int32) : Prop := (∀ lo0 hi0 ab0, (∀ j, j < 7 → (rsAll S n cn lo0 hi0 ab0).1 j = lo j ∧ (rsAll S n cn lo0 hi0 ab0).2.1 j = hi j) ∧ (rsAll S n cn lo0 hi0 ab0).2.2.1 = us ∧ (rsAll S n cn lo0 hi0 ab0).2.2.2.1 = ab ∧ (rsAll S n cn lo0 hi0 ab0).2.2.2.2 = if ab < nI 10 then gv else -100005) ∧ (ab < nI 10 → inB gv (-9999) 9999 = true) ∧ ∀ j, j < 7 → leastF (nI j) ≤ lo j ∧ lo j ≤ hi j ∧ hi j ≤ greatestF (nI j)
theorem tel_K {S : Nat → Int32} {n cn : Nat} {ab gv us : Int32} {lo hi lo1 hi1 : Nat → Int32} (hFR : ∀ lo0 hi0 ab0, FRel S cn lo0 hi0 ab0 ab gv us lo hi) (hNA : NA S n us lo hi 6 lo1 hi1) (hgv : ab < nI 10 → inB gv (-9999) 9999 = true) (hlim : ∀ j, j < 7 → leastF (nI j) ≤ lo j ∧ hi j ≤ greatestF (nI j)) (hne : allN (nonR lo1 hi1) 7 = true) : TelK S n cn ab gv us lo1 hi1 := by
  refine ⟨fun lo0 hi0 ab0 => ?_, hgv, fun j hj => ?_⟩
  · obtain ⟨u', hu, e1, e2, hR⟩ := RN.all (S := S) (n := n) (cn := cn) lo0 hi0 ab0
    obtain ⟨f1, f2, f3, f4⟩ := hFR lo0 hi0 ab0
    have hf := tel_fin hFR hNA lo0 hi0 ab0
    exact ⟨fun j hj => ⟨(hf j hj).1.symm, (hf j hj).2.symm⟩, by rw [e2]; exact f2, by rw [e2]; exact f3, by rw [e2]; exact f4⟩
  · have h1 := (((hNA.2 j hj).1 (lo1 j)).mp (Int32.le_refl _)).1
    have h2 := (((hNA.2 j hj).2 (hi1 j)).mp (Int32.le_refl _)).1
    exact ⟨Int32.le_trans (hlim j hj).1 h1, of_decide_eq_true (allN_iff.mp hne j hj), Int32.le_trans h2 (hlim j hj).2⟩
theorem can_fin {S : Nat → Int32} {n cn : Nat} {ab gv us : Int32} {lo hi lo1 hi1 : Nat → Int32} (hn : n ≤ 16) (hE : ∀ ir0 wt0, (-100005 : Int32) = (errF S cn 0 ir0 wt0 0).1) (hFR : ∀ lo0 hi0 ab0, FRel S cn lo0 hi0 ab0 ab gv us lo hi) (hNA : NA S n us lo hi 6 lo1 hi1) (hA : caA S n ab = true) (ir wt : Bool) (lo0 hi0 : Nat → Int32) (ab0 : Int32) : canB S n cn ir wt lo0 hi0 ab0 = allN (nonR lo1 hi1) 7 := by
  obtain ⟨u, hu, rfl⟩ := us_nat hFR
  have hf := tel_fin hFR hNA lo0 hi0 ab0
  rw [can_cut hE hFR, hA, show allN (caW S n (nI u)) 6 = true from allN_iff.mpr (fun w hw => by
    rw [caW_d hn hu hw]
    cases hb : bitB (nI u) (nI w) with
    | false => rfl
    | true => rw [decide_eq_true (hNA.1 w hw hb)]; rfl), Bool.true_and, Bool.true_and]
  exact allN_cong (fun j hj => by unfold caF nonR; rw [nlt_le, (hf j hj).1, (hf j hj).2])
theorem can_w {S : Nat → Int32} {n cn w : Nat} {ab gv us : Int32} {lo hi : Nat → Int32} (hn : n ≤ 16) (hE : ∀ ir0 wt0, (-100005 : Int32) = (errF S cn 0 ir0 wt0 0).1) (hFR : ∀ lo0 hi0 ab0, FRel S cn lo0 hi0 ab0 ab gv us lo hi) (hw : w < 6) (hb : bitB us (nI w) = true) (hd : decide (firN (defQ S (nI w)) n < n) = false) (ir wt : Bool) (lo0 hi0 : Nat → Int32) (ab0 : Int32) : false = canB S n cn ir wt lo0 hi0 ab0 := by
  obtain ⟨u, hu, rfl⟩ := us_nat hFR
  have e : allN (caW S n (nI u)) 6 = false := by
    cases q : allN (caW S n (nI u)) 6 with
    | false => rfl
    | true =>
      have := allN_iff.mp q w hw
      rw [caW_d hn hu hw, hb, show decide (dN S n w < n) = false from hd] at this
      cases this
  rw [can_cut hE hFR, e, Bool.and_false, Bool.false_and]
theorem can_a {S : Nat → Int32} {n cn : Nat} {ab gv us : Int32} {lo hi : Nat → Int32} (hE : ∀ ir0 wt0, (-100005 : Int32) = (errF S cn 0 ir0 wt0 0).1) (hFR : ∀ lo0 hi0 ab0, FRel S cn lo0 hi0 ab0 ab gv us lo hi) (hA : caA S n ab = false) (ir wt : Bool) (lo0 hi0 : Nat → Int32) (ab0 : Int32) : false = canB S n cn ir wt lo0 hi0 ab0 := by
  rw [can_cut hE hFR, hA, Bool.false_and, Bool.false_and]
theorem can_e {S : Nat → Int32} {n cn : Nat} {E : Int32} (hE : ∀ ir0 wt0, E = (errF S cn 0 ir0 wt0 0).1) (hne : ¬ E = -100005) (ir wt : Bool) (lo0 hi0 : Nat → Int32) (ab0 : Int32) : false = canB S n cn ir wt lo0 hi0 ab0 := by
  unfold canB
  rw [← hE ir wt, decide_eq_false hne, Bool.false_and]
set_option maxHeartbeats 4000000 in
set_option maxRecDepth 100000 in
theorem k_syntaxError (l : Launch) (G : mG) {f : mE} {T : Nat → Nat} {o q0 ra rd sp rr sb : Nat} {S P : Nat → Int32} {rc n cn : Nat} (h : CC G f T o q0 ra rd sp rr sb S P rc) (hv : VSn S n cn) : mC l G yX5_syntaxError wsX5_syntaxError ({ frames := 5, cells := 0, slots := 0, locals := 109 } : Room) f [.ref o] (fun v f1 => ∃ E, v = some (.int E) ∧ (∀ ir0 wt0, E = (errF S cn 0 ir0 wt0 0).1) ∧ CI G f1 o S P rc) 0 0 := by
  refine mC.of (cc := cX5_syntaxError) (maxL := 1) (ret := (some .int)) (by decide) rfl (Nat.le_of_ble_eq_true rfl) ?_
  intro pgm env s mt args below meth c A ls hx hb hml hr hlocks hown hname hts hK hE hA hM hl
  have hl : lv_has ls 1 [(0, .ref o)] := hl
  obtain ⟨r, p, q, t, ab, gv, us, pl, ir, ng, cp, lo, hi, hR, ht6, hRT⟩ := h.2.2.1
  obtain ⟨b, fc, pr1, ka, va, B, X, rg, pa, qa, tk, loS, hiS, abS, gvS, usS, g, K, V, hA9, hB9, hQ, hg, hgS, hF9, hgv, hL, hT0, hTk⟩ := h.q hv
  have hF := fun w9 e (hb : f w9 = some e)  => hb
  refine lv_aload_n hx hb dX5_syntaxError_0 rfl (lv_at hl 0 rfl) ?_
  refine mm_get (C := RX5) (T := TX5) (N := 7) (k := 3) hx hb hts (fun _ h => List.mem_cons_of_mem _ (List.mem_append_left _ (List.mem_append_left _ (List.mem_append_left _ (List.mem_append_left _ (List.mem_append_right _ h)))))) hown hK hM h.1 rfl (by decide) (hts (.fieldLink RX5 23 "SentenceRules" "reader" "LSentenceRules$Reader;") (List.mem_of_getElem? (i := 1) rfl)) rfl rfl dX5_syntaxError_1 ?_
  refine lv_aload_n hx hb dX5_syntaxError_4 rfl (lv_at hl 0 rfl) ?_
  refine mm_get (C := RX5) (T := TX5) (N := 7) (k := 0) hx hb hts (fun _ h => List.mem_cons_of_mem _ (List.mem_append_left _ (List.mem_append_left _ (List.mem_append_left _ (List.mem_append_left _ (List.mem_append_right _ h)))))) hown hK hM h.1 rfl (by decide) (hts (.fieldLink RX5 12 "SentenceRules" "now" "LSentenceRules$State;") (List.mem_of_getElem? (i := 2) rfl)) rfl rfl dX5_syntaxError_5 ?_
  refine mm_get (C := RX3) (T := TX3) (N := 4) (k := 3) hx hb hts (fun _ h => List.mem_cons_of_mem _ (List.mem_append_left _ (List.mem_append_left _ (List.mem_append_left _ (List.mem_append_right _ h))))) hown hK hM hA9.1.1 rfl (by decide) (hts (.fieldLink RX5 57 "SentenceRules$State" "present" "LSentenceRules$Tokens;") (List.mem_of_getElem? (i := 3) rfl)) rfl rfl dX5_syntaxError_8 ?_
  refine mm_V (As := [.ref pr1]) (rest := []) ⟨hx, hb, hml, hown, hts⟩ (c0_firstErrorV l G hR hA9.1.2.2.2.1 hA9.1.2.2.2.2.1 hA9.1.2.2.2.2.2 hA9.2.2.2.2.2.2.1 hA9.2.2.2.2.2.2.2.1 hv.2.2.2.2.1 ht6) (cwV 1 hts gX5_syntaxError_X0_firstError rfl rfl rfl (by decide +kernel) ⟨Nat.le_of_ble_eq_true rfl, Nat.le_of_ble_eq_true rfl⟩) hK hE hA hM (mm_recv hK hM hR.1 (q := (RX0, TX0, 9)) rfl) rfl hl.1 rfl (Nat.le_of_ble_eq_true rfl) dX5_syntaxError_11 ⟨Nat.le_of_ble_eq_true rfl, Nat.le_of_ble_eq_true rfl⟩ (fun v f Hp lcs hp hM => ?_)
  obtain ⟨E, ab, gv, us, pl, ir, t, ng, cp, lo, hi, rfl, ht6, hRF, hE9, hOK⟩ := hp
  have h := h.rd_ hR hRT hRF ht6
  have hR := hRF.1
  obtain ⟨b, fc, pr1, ka, va, B, X, rg, pa, qa, tk, loS, hiS, abS, gvS, usS, g, K, V, hA9, hB9, hQ, hg, hgS, hF9, hgv, hL, hT0, hTk⟩ := h.q hv
  exact mm_iret hx hb hlocks hr (Nat.le_of_ble_eq_true rfl) (Nat.le_of_ble_eq_true rfl) hM (⟨E, rfl, hE9, T, q0, ra, rd, sp, rr, sb, h⟩) dX5_syntaxError_14
set_option maxHeartbeats 4000000 in
set_option maxRecDepth 100000 in
theorem k_narrow (l : Launch) (G : mG) {f : mE} {T : Nat → Nat} {o q0 ra rd sp rr sb : Nat} {S P : Nat → Int32} {rc n cn : Nat} (h : CC G f T o q0 ra rd sp rr sb S P rc) (hv : VSn S n cn) {r p q t : Nat} {ab gv us pl cp : Int32} {ir ng : Bool} {lo hi : Nat → Int32} (hR : RD G f rd r p q ab gv us pl ir (nI t) ng cp lo hi) (ht6 : t < 6) (hRT : RT T rd r p q) (w : Int32) : mC l G yX5_narrowByDefinition wsX5_narrowByDefinition ({ frames := 3, cells := 0, slots := 0, locals := 65 } : Room) f [.ref o, .int w] (fun v f1 => v = some (.int (bI (decide (firN (defQ S w) n < n)))) ∧ ∃ lo1 hi1, RD G f1 rd r p q ab gv us pl ir (nI t) ng cp lo1 hi1 ∧ CC G f1 T o q0 ra rd sp rr sb S P rc ∧ (firN (defQ S w) n < n → ∀ j, j < 7 → lo1 j = mx (lo j) (S (57 + 66 * firN (defQ S w) n + (52 + j))) ∧ hi1 j = mn (hi j) (S (57 + 66 * firN (defQ S w) n + (59 + j))))) 0 0 := by
  refine mC.of (cc := cX5_narrowByDefinition) (maxL := 3) (ret := (some .boolean)) (by decide) rfl (Nat.le_of_ble_eq_true rfl) ?_
  intro pgm env s mt args below meth c A ls hx hb hml hr hlocks hown hname hts hK hE hA hM hl
  have hl : lv_has ls 3 [(0, .ref o), (1, .int w)] := hl
  obtain ⟨b, fc, pr1, ka, va, B, X, rg, pa, qa, tk, loS, hiS, abS, gvS, usS, g, K, V, hA9, hB9, hQ, hg, hgS, hF9, hgv, hL, hT0, hTk⟩ := h.q hv
  have hF := fun w9 e (hb : f w9 = some e)  => hb
  refine lv_aload_n hx hb dX5_narrowByDefinition_0 rfl (lv_at hl 0 rfl) ?_
  refine mm_get (C := RX5) (T := TX5) (N := 7) (k := 0) hx hb hts (fun _ h => List.mem_cons_of_mem _ (List.mem_append_left _ (List.mem_append_left _ (List.mem_append_left _ (List.mem_append_left _ (List.mem_append_right _ h)))))) hown hK hM h.1 rfl (by decide) (hts (.fieldLink RX5 12 "SentenceRules" "now" "LSentenceRules$State;") (List.mem_of_getElem? (i := 1) rfl)) rfl rfl dX5_narrowByDefinition_1 ?_
  refine lv_aload_n hx hb dX5_narrowByDefinition_4 rfl (lv_at hl 0 rfl) ?_
  refine mm_get (C := RX5) (T := TX5) (N := 7) (k := 0) hx hb hts (fun _ h => List.mem_cons_of_mem _ (List.mem_append_left _ (List.mem_append_left _ (List.mem_append_left _ (List.mem_append_left _ (List.mem_append_right _ h)))))) hown hK hM h.1 rfl (by decide) (hts (.fieldLink RX5 12 "SentenceRules" "now" "LSentenceRules$State;") (List.mem_of_getElem? (i := 1) rfl)) rfl rfl dX5_narrowByDefinition_5 ?_
  refine lv_iload_n hx hb dX5_narrowByDefinition_8 rfl (lv_at hl 1 rfl) ?_
  refine mm_V (As := [.int w]) (rest := [.ref q0]) ⟨hx, hb, hml, hown, hts⟩ (c3_definitionOf l G hQ w) (cwV 1 hts gX5_narrowByDefinition_X3_definitionOf rfl rfl rfl (by decide +kernel) ⟨Nat.le_of_ble_eq_true rfl, Nat.le_of_ble_eq_true rfl⟩) hK hE hA hM (mm_recv hK hM hA9.1.1 (q := (RX3, TX3, 4)) rfl) rfl hl.1 rfl (Nat.le_of_ble_eq_true rfl) dX5_narrowByDefinition_9 ⟨Nat.le_of_ble_eq_true rfl, Nat.le_of_ble_eq_true rfl⟩ (fun v f1 Hp lcs hp hM => ?_)
  obtain ⟨rfl, hf⟩ := hp; subst hf
  by_cases hd : (firN (defD abS w) n) < n
  · refine mv_top (y := (nI (firN (defD abS w) n))) (if_pos hd) ?_
    refine mm_V (As := [.int (nI (firN (defD abS w) n))]) (rest := []) ⟨hx, hb, hml, hown, hts⟩ (c3_sentenceAt l G hQ (firN (defD abS w) n) hd) (cwV 1 hts gX5_narrowByDefinition_X3_sentenceAt rfl rfl rfl (by decide +kernel) ⟨Nat.le_of_ble_eq_true rfl, Nat.le_of_ble_eq_true rfl⟩) hK hE hA hM (mm_recv hK hM hA9.1.1 (q := (RX3, TX3, 4)) rfl) rfl hl.1 rfl (Nat.le_of_ble_eq_true rfl) dX5_narrowByDefinition_12 ⟨Nat.le_of_ble_eq_true rfl, Nat.le_of_ble_eq_true rfl⟩ (fun v f1 Hp lcs hp hM => ?_)
    obtain ⟨rfl, hf⟩ := hp; subst hf
    have hs9 := hQ.2.2.2 (firN (defD abS w) n) hd
    refine lv_astore_n (lv' := [(2, .ref (X (firN (defD abS w) n))), (0, .ref o), (1, .int w)]) hx hb dX5_narrowByDefinition_15 rfl hl (by decide) rfl (fun ls hl => ?_)
    refine lv_aload_n hx hb dX5_narrowByDefinition_16 rfl (lv_at hl 0 rfl) ?_
    refine lv_ifnonnull (tgt := 22) hx hb dX5_narrowByDefinition_17 (by decide) ?_
    refine lv_aload_n hx hb dX5_narrowByDefinition_22 rfl (lv_at hl 1 rfl) ?_
    refine mm_get (C := RX5) (T := TX5) (N := 7) (k := 3) hx hb hts (fun _ h => List.mem_cons_of_mem _ (List.mem_append_left _ (List.mem_append_left _ (List.mem_append_left _ (List.mem_append_left _ (List.mem_append_right _ h)))))) hown hK hM h.1 rfl (by decide) (hts (.fieldLink RX5 23 "SentenceRules" "reader" "LSentenceRules$Reader;") (List.mem_of_getElem? (i := 2) rfl)) rfl rfl dX5_narrowByDefinition_23 ?_
    refine mm_get (C := RX0) (T := TX0) (N := 9) (k := 3) hx hb hts (fun _ h => List.mem_cons_of_mem _ (List.mem_append_left _ (List.mem_append_left _ (List.mem_append_left _ (List.mem_append_right _ h))))) hown hK hM hR.1 rfl (by decide) (hts (.fieldLink RX5 122 "SentenceRules$Reader" "region" "LSentenceRules$Region;") (List.mem_of_getElem? (i := 3) rfl)) rfl rfl dX5_narrowByDefinition_26 ?_
    refine lv_aload_n hx hb dX5_narrowByDefinition_29 rfl (lv_at hl 0 rfl) ?_
    refine mm_get (C := RX2) (T := TX2) (N := 5) (k := 1) hx hb hts (fun _ h => List.mem_cons_of_mem _ (List.mem_append_left _ (List.mem_append_left _ (List.mem_append_right _ h)))) hown hK hM hs9.2.1 rfl (by decide) (hts (.fieldLink RX5 135 "SentenceRules$Sentence" "region" "LSentenceRules$Region;") (List.mem_of_getElem? (i := 4) rfl)) rfl rfl dX5_narrowByDefinition_30 ?_
    refine mm_V (As := [.ref (rg (firN (defD abS w) n))]) (rest := []) ⟨hx, hb, hml, hown, hts⟩ (c1_narrowTo l G hR.2.1 hR.2.2.1 hR.2.2.2.1 hs9.2.2.1 hs9.2.2.2.1 hs9.2.2.2.2 hR.2.2.2.2 (fun z => by have h0 := (hT0 (firN (defD abS w) n) hd).1; rw [z, hRT.2.2.1] at h0; omega) (fun z => by have h0 := (hT0 (firN (defD abS w) n) hd).1; rw [z, hRT.2.2.2] at h0; omega) (fun z => by have h0 := (hT0 (firN (defD abS w) n) hd).2; rw [z, hRT.2.2.1] at h0; omega) (fun z => by have h0 := (hT0 (firN (defD abS w) n) hd).2; rw [z, hRT.2.2.2] at h0; omega)) (cwV 1 hts gX5_narrowByDefinition_X1_narrowTo rfl rfl rfl (by decide +kernel) ⟨Nat.le_of_ble_eq_true rfl, Nat.le_of_ble_eq_true rfl⟩) hK hE hA hM (mm_recv hK hM hR.2.1 (q := (RX1, TX1, 2)) rfl) rfl hl.1 rfl (Nat.le_of_ble_eq_true rfl) dX5_narrowByDefinition_33 ⟨Nat.le_of_ble_eq_true rfl, Nat.le_of_ble_eq_true rfl⟩ (fun v ff Hp lcs hp hM => ?_)
    obtain ⟨rfl, g1, g2, g3⟩ := hp
    have hR2 : RDF G f ff rd r p q ab gv us pl ir (nI t) ng cp _ _ := ⟨⟨(g3 _ (ne_oi hR.1 hR.2.2.1) (ne_oi hR.1 hR.2.2.2.1)).trans hR.1, (g3 _ (ne_oi hR.2.1 hR.2.2.1) (ne_oi hR.2.1 hR.2.2.2.1)).trans hR.2.1, g1, g2, hR.2.2.2.2⟩, fun b _ h1 h2 => g3 b h1 h2⟩
    refine lv_iconst (v := (nI 1)) hx hb dX5_narrowByDefinition_36 (by decide +kernel) ?_
    exact mm_zret hx hb hlocks hr (by first | rfl | exact bI_nar _) (Nat.le_of_ble_eq_true rfl) (Nat.le_of_ble_eq_true rfl) hM (⟨by rw [← e_def hF9 w, decide_eq_true hd]; rfl, _, _, hR2.1, h.rd_ hR hRT hR2 ht6, fun _ j hj => by rw [← e_def hF9 w, filN_atX hj, filN_atX hj]; exact ⟨congrArg (mx (lo j)) (hF9.lo_ hd hj), congrArg (mn (hi j)) (hF9.hi_ hd hj)⟩⟩) dX5_narrowByDefinition_37
  · refine mv_top (y := (-1)) (if_neg hd) ?_
    refine mm_V (As := [.int (-1)]) (rest := []) ⟨hx, hb, hml, hown, hts⟩ (c3_sentenceAtN l G hQ (-1) (Or.inl (by decide))) (cwV 1 hts gX5_narrowByDefinition_X3_sentenceAt rfl rfl rfl (by decide +kernel) ⟨Nat.le_of_ble_eq_true rfl, Nat.le_of_ble_eq_true rfl⟩) hK hE hA hM (mm_recv hK hM hA9.1.1 (q := (RX3, TX3, 4)) rfl) rfl hl.1 rfl (Nat.le_of_ble_eq_true rfl) dX5_narrowByDefinition_12 ⟨Nat.le_of_ble_eq_true rfl, Nat.le_of_ble_eq_true rfl⟩ (fun v f1 Hp lcs hp hM => ?_)
    obtain ⟨rfl, hf⟩ := hp; subst hf
    refine lv_astore_nN (lv' := [(2, .null), (0, .ref o), (1, .int w)]) hx hb dX5_narrowByDefinition_15 rfl hl (by decide) rfl (fun ls hl => ?_)
    refine lv_aload_nN hx hb dX5_narrowByDefinition_16 rfl (lv_at hl 0 rfl) ?_
    refine lv_ifnonnullN hx hb dX5_narrowByDefinition_17 ?_
    refine lv_iconst (v := (nI 0)) hx hb dX5_narrowByDefinition_20 (by decide +kernel) ?_
    exact mm_zret hx hb hlocks hr (by first | rfl | exact bI_nar _) (Nat.le_of_ble_eq_true rfl) (Nat.le_of_ble_eq_true rfl) hM (⟨by rw [← e_def hF9 w, decide_eq_false hd]; rfl, lo, hi, hR, h, fun z => absurd (by rw [e_def hF9 w]; exact z) hd⟩) dX5_narrowByDefinition_21
set_option maxHeartbeats 4000000 in
set_option maxRecDepth 100000 in
theorem k_isTellable (l : Launch) (G : mG) {f : mE} {T : Nat → Nat} {o q0 ra rd sp rr sb : Nat} {S P : Nat → Int32} {rc n cn : Nat} (h : CC G f T o q0 ra rd sp rr sb S P rc) (hv : VSn S n cn) : mC l G yX5_isTellable wsX5_isTellable ({ frames := 5, cells := 0, slots := 0, locals := 109 } : Room) f [.ref o] (fun v f1 => ∃ tb : Bool, v = some (.int (bI tb)) ∧ ∃ (r p q : Nat) (ab gv us pl : Int32) (t : Nat) (cp : Int32) (ir ng : Bool) (lo hi : Nat → Int32), RD G f1 rd r p q ab gv us pl ir (nI t) ng cp lo hi ∧ t < 6 ∧ RT T rd r p q ∧ CC G f1 T o q0 ra rd sp rr sb S P rc ∧ (∀ ir wt lo0 hi0 ab0, tb = canB S n cn ir wt lo0 hi0 ab0) ∧ (tb = true → TelK S n cn ab gv us lo hi)) 0 0 := by
  refine mC.of (cc := cX5_isTellable) (maxL := 2) (ret := (some .boolean)) (by decide) rfl (Nat.le_of_ble_eq_true rfl) ?_
  intro pgm env s mt args below meth c A ls hx hb hml hr hlocks hown hname hts hK hE hA hM hl
  have hl : lv_has ls 2 [(0, .ref o)] := hl
  obtain ⟨r, p, q, t, ab, gv, us, pl, ir, ng, cp, lo, hi, hR, ht6, hRT⟩ := h.2.2.1
  obtain ⟨b, fc, pr1, ka, va, B, X, rg, pa, qa, tk, loS, hiS, abS, gvS, usS, g, K, V, hA9, hB9, hQ, hg, hgS, hF9, hgv, hL, hT0, hTk⟩ := h.q hv
  have hn16 := hv.2.1
  have hF := fun w9 e (hb : f w9 = some e)  => hb
  refine lv_aload_n hx hb dX5_isTellable_0 rfl (lv_at hl 0 rfl) ?_
  refine mm_get (C := RX5) (T := TX5) (N := 7) (k := 3) hx hb hts (fun _ h => List.mem_cons_of_mem _ (List.mem_append_left _ (List.mem_append_left _ (List.mem_append_left _ (List.mem_append_left _ (List.mem_append_left _ (List.mem_append_right _ h))))))) hown hK hM h.1 rfl (by decide) (hts (.fieldLink RX5 23 "SentenceRules" "reader" "LSentenceRules$Reader;") (List.mem_of_getElem? (i := 1) rfl)) rfl rfl dX5_isTellable_1 ?_
  refine lv_aload_n hx hb dX5_isTellable_4 rfl (lv_at hl 0 rfl) ?_
  refine mm_get (C := RX5) (T := TX5) (N := 7) (k := 0) hx hb hts (fun _ h => List.mem_cons_of_mem _ (List.mem_append_left _ (List.mem_append_left _ (List.mem_append_left _ (List.mem_append_left _ (List.mem_append_left _ (List.mem_append_right _ h))))))) hown hK hM h.1 rfl (by decide) (hts (.fieldLink RX5 12 "SentenceRules" "now" "LSentenceRules$State;") (List.mem_of_getElem? (i := 2) rfl)) rfl rfl dX5_isTellable_5 ?_
  refine mm_get (C := RX3) (T := TX3) (N := 4) (k := 3) hx hb hts (fun _ h => List.mem_cons_of_mem _ (List.mem_append_left _ (List.mem_append_left _ (List.mem_append_left _ (List.mem_append_left _ (List.mem_append_right _ h)))))) hown hK hM hA9.1.1 rfl (by decide) (hts (.fieldLink RX5 57 "SentenceRules$State" "present" "LSentenceRules$Tokens;") (List.mem_of_getElem? (i := 3) rfl)) rfl rfl dX5_isTellable_8 ?_
  refine mm_V (As := [.ref pr1]) (rest := []) ⟨hx, hb, hml, hown, hts⟩ (c0_firstErrorV l G hR hA9.1.2.2.2.1 hA9.1.2.2.2.2.1 hA9.1.2.2.2.2.2 hA9.2.2.2.2.2.2.1 hA9.2.2.2.2.2.2.2.1 hv.2.2.2.2.1 ht6) (cwV 1 hts gX5_isTellable_X0_firstError rfl rfl rfl (by decide +kernel) ⟨Nat.le_of_ble_eq_true rfl, Nat.le_of_ble_eq_true rfl⟩) hK hE hA hM (mm_recv hK hM hR.1 (q := (RX0, TX0, 9)) rfl) rfl hl.1 rfl (Nat.le_of_ble_eq_true rfl) dX5_isTellable_11 ⟨Nat.le_of_ble_eq_true rfl, Nat.le_of_ble_eq_true rfl⟩ (fun v f Hp lcs hp hM => ?_)
  obtain ⟨E, ab, gv, us, pl, ir, t, ng, cp, lo, hi, rfl, ht6, hRF, hE9, hOK⟩ := hp
  have h := h.rd_ hR hRT hRF ht6
  have hR := hRF.1
  obtain ⟨b, fc, pr1, ka, va, B, X, rg, pa, qa, tk, loS, hiS, abS, gvS, usS, g, K, V, hA9, hB9, hQ, hg, hgS, hF9, hgv, hL, hT0, hTk⟩ := h.q hv
  refine lv_ldc (v := (-100005)) hx hb hown (hts (.constant RX5 105 (-100005)) (List.mem_of_getElem? (i := 4) rfl)) dX5_isTellable_14 ?_
  refine lv_icmp_eq (tgt := 21) hx hb dX5_isTellable_16 (by decide) (fun cz1 => ?_) (fun cz1 => ?_)
  · subst cz1
    obtain ⟨hFR, hgvB, hlim⟩ := hOK rfl
    refine lv_aload_n hx hb dX5_isTellable_21 rfl (lv_at hl 0 rfl) ?_
    refine mm_get (C := RX5) (T := TX5) (N := 7) (k := 3) hx hb hts (fun _ h => List.mem_cons_of_mem _ (List.mem_append_left _ (List.mem_append_left _ (List.mem_append_left _ (List.mem_append_left _ (List.mem_append_left _ (List.mem_append_right _ h))))))) hown hK hM h.1 rfl (by decide) (hts (.fieldLink RX5 23 "SentenceRules" "reader" "LSentenceRules$Reader;") (List.mem_of_getElem? (i := 1) rfl)) rfl rfl dX5_isTellable_22 ?_
    refine mm_get (C := RX0) (T := TX0) (N := 9) (k := 0) hx hb hts (fun _ h => List.mem_cons_of_mem _ (List.mem_append_left _ (List.mem_append_left _ (List.mem_append_left _ (List.mem_append_right _ h))))) hown hK hM hR.1 rfl (by decide) (hts (.fieldLink RX5 106 "SentenceRules$Reader" "about" "I") (List.mem_of_getElem? (i := 5) rfl)) rfl rfl dX5_isTellable_25 ?_
    refine lv_bipush (v := (nI 10)) hx hb dX5_isTellable_28 (by decide +kernel) ?_
    refine lv_icmp_lt (tgt := 56) hx hb dX5_isTellable_30 (by decide) (fun cz2 => ?_) (fun cz2 => ?_)
    · refine lv_iconst (v := (nI 0)) hx hb dX5_isTellable_56 (by decide +kernel) ?_
      refine lv_istore_n (lv' := [(1, .int (nI 0)), (0, .ref o)]) hx hb dX5_isTellable_57 rfl hl (by decide) rfl (fun ls hl => ?_)
      have loopZ : ∀ (fuel : Nat) (i : Nat) (fz : mE) (lo1 hi1 : Nat → Int32) (Hp : Heap) (lcs : List Loc) (ls : Array Slot) (hi6 : i ≤ 6) (hz : CC G fz T o q0 ra rd sp rr sb S P rc) (hRz : RD G fz rd r p q ab gv us pl ir (nI t) ng cp lo1 hi1) (hNA : NA S n us lo hi i lo1 hi1) (hcA : caA S n ab = true) (hfu : 6 - i < fuel) (hM : mM G A s.heap fz Hp lcs) (hl : lv_has ls 2 [(0, .ref o), (1, .int (nI i))]), W pgm l env ({ frames := 5, cells := 0, slots := 0, locals := 109 } : Room) s mt args below meth c Hp lcs 0 0 (MQ below (mQc G A (fun v f1 => ∃ tb : Bool, v = some (.int (bI tb)) ∧ ∃ (r p q : Nat) (ab gv us pl : Int32) (t : Nat) (cp : Int32) (ir ng : Bool) (lo hi : Nat → Int32), RD G f1 rd r p q ab gv us pl ir (nI t) ng cp lo hi ∧ t < 6 ∧ RT T rd r p q ∧ CC G f1 T o q0 ra rd sp rr sb S P rc ∧ (∀ ir wt lo0 hi0 ab0, tb = canB S n cn ir wt lo0 hi0 ab0) ∧ (tb = true → TelK S n cn ab gv us lo hi))) args s 0 0 A) (F0 mt 58 ls []) := by
        intro fuel
        induction fuel with
        | zero => intro i fz lo1 hi1 Hp lcs ls hi6 hz hRz hNA hcA hfu; exact absurd hfu (Nat.not_lt_zero _)
        | succ fuel ih =>
          intro i fz lo1 hi1 Hp lcs ls hi6 hz hRz hNA hcA hfu hM hl
          refine lv_iload_n hx hb dX5_isTellable_58 rfl (lv_at hl 1 rfl) ?_
          refine lv_bipush (v := (nI 6)) hx hb dX5_isTellable_59 (by decide +kernel) ?_
          refine ln_icmp_ge i 6 (by omega) (by omega) (tgt := 94) hx hb dX5_isTellable_61 (by decide) (fun cz3 => ?_) (fun cz3 => ?_)
          · have hi9 : i = 6 := (by omega)
            have hNA6 : NA S n us lo hi 6 lo1 hi1 := hi9 ▸ hNA
            refine lv_aload_n hx hb dX5_isTellable_94 rfl (lv_at hl 0 rfl) ?_
            refine mm_get (C := RX5) (T := TX5) (N := 7) (k := 3) hx hb hts (fun _ h => List.mem_cons_of_mem _ (List.mem_append_left _ (List.mem_append_left _ (List.mem_append_left _ (List.mem_append_left _ (List.mem_append_left _ (List.mem_append_right _ h))))))) hown hK hM hz.1 rfl (by decide) (hts (.fieldLink RX5 23 "SentenceRules" "reader" "LSentenceRules$Reader;") (List.mem_of_getElem? (i := 1) rfl)) rfl rfl dX5_isTellable_95 ?_
            refine mm_get (C := RX0) (T := TX0) (N := 9) (k := 3) hx hb hts (fun _ h => List.mem_cons_of_mem _ (List.mem_append_left _ (List.mem_append_left _ (List.mem_append_left _ (List.mem_append_right _ h))))) hown hK hM hRz.1 rfl (by decide) (hts (.fieldLink RX5 122 "SentenceRules$Reader" "region" "LSentenceRules$Region;") (List.mem_of_getElem? (i := 7) rfl)) rfl rfl dX5_isTellable_98 ?_
            refine mm_V (As := []) (rest := []) ⟨hx, hb, hml, hown, hts⟩ (c1_isEmpty l G hRz.2.1 hRz.2.2.1 hRz.2.2.2.1) (cwV 0 hts gX5_isTellable_X1_isEmpty rfl rfl rfl (by decide +kernel) ⟨Nat.le_of_ble_eq_true rfl, Nat.le_of_ble_eq_true rfl⟩) hK hE hA hM (mm_recv hK hM hRz.2.1 (q := (RX1, TX1, 2)) rfl) rfl hl.1 rfl (Nat.le_of_ble_eq_true rfl) dX5_isTellable_101 ⟨Nat.le_of_ble_eq_true rfl, Nat.le_of_ble_eq_true rfl⟩ (fun v f1 Hp lcs hp hM => ?_)
            obtain ⟨rfl, hf⟩ := hp; subst hf
            refine lvb_ne (tgt := 111) hx hb dX5_isTellable_104 (by decide) (fun cz4 => ?_) (fun cz4 => ?_)
            · refine lv_iconst (v := (nI 0)) hx hb dX5_isTellable_111 (by decide +kernel) ?_
              exact mm_zret hx hb hlocks hr (by first | rfl | exact bI_nar _) (Nat.le_of_ble_eq_true rfl) (Nat.le_of_ble_eq_true rfl) hM (⟨false, rfl, _, _, _, _, _, _, _, _, _, _, _, _, _, hRz, ht6, hRT, hz, fun ir wt lo0 hi0 ab0 => by rw [can_fin hn16 hE9 hFR hNA6 hcA, bnot_t cz4], fun z => by cases z⟩) dX5_isTellable_112
            refine lv_iconst (v := (nI 1)) hx hb dX5_isTellable_107 (by decide +kernel) ?_
            refine lv_goto (tgt := 112) hx hb dX5_isTellable_108 (by decide) ?_
            exact mm_zret hx hb hlocks hr (by first | rfl | exact bI_nar _) (Nat.le_of_ble_eq_true rfl) (Nat.le_of_ble_eq_true rfl) hM (⟨true, rfl, _, _, _, _, _, _, _, _, _, _, _, _, _, hRz, ht6, hRT, hz, fun ir wt lo0 hi0 ab0 => by rw [can_fin hn16 hE9 hFR hNA6 hcA, bnot_f cz4], fun _ => tel_K hFR hNA6 hgvB hlim (bnot_f cz4)⟩) dX5_isTellable_112
          refine lv_aload_n hx hb dX5_isTellable_64 rfl (lv_at hl 0 rfl) ?_
          refine mm_get (C := RX5) (T := TX5) (N := 7) (k := 3) hx hb hts (fun _ h => List.mem_cons_of_mem _ (List.mem_append_left _ (List.mem_append_left _ (List.mem_append_left _ (List.mem_append_left _ (List.mem_append_left _ (List.mem_append_right _ h))))))) hown hK hM hz.1 rfl (by decide) (hts (.fieldLink RX5 23 "SentenceRules" "reader" "LSentenceRules$Reader;") (List.mem_of_getElem? (i := 1) rfl)) rfl rfl dX5_isTellable_65 ?_
          refine mm_get (C := RX0) (T := TX0) (N := 9) (k := 2) hx hb hts (fun _ h => List.mem_cons_of_mem _ (List.mem_append_left _ (List.mem_append_left _ (List.mem_append_left _ (List.mem_append_right _ h))))) hown hK hM hRz.1 rfl (by decide) (hts (.fieldLink RX5 113 "SentenceRules$Reader" "used" "I") (List.mem_of_getElem? (i := 6) rfl)) rfl rfl dX5_isTellable_68 ?_
          refine lv_iload_n hx hb dX5_isTellable_71 rfl (lv_at hl 1 rfl) ?_
          refine mm_S (As := [.int us, .int (nI i)]) (rest := []) ⟨hx, hb, hml, hown, hts⟩ (c5_isBitSet l G _ us (nI i)) (va_cwS 2 hts gX5_isTellable_X5_isBitSet rfl rfl rfl (by decide +kernel) ⟨Nat.le_of_ble_eq_true rfl, Nat.le_of_ble_eq_true rfl⟩) hK hE hA hM rfl hl.1 rfl (Nat.le_of_ble_eq_true rfl) dX5_isTellable_72 ⟨Nat.le_of_ble_eq_true rfl, Nat.le_of_ble_eq_true rfl⟩ (fun v f1 Hp lcs hp hM => ?_)
          obtain ⟨rfl, hf⟩ := hp; subst hf
          refine lvb_eq (tgt := 88) hx hb dX5_isTellable_75 (by decide) (fun cz5 => ?_) (fun cz5 => ?_)
          · refine lv_iinc (v := (nI (i + 1))) (lv' := [(1, .int (nI (i + 1))), (0, .ref o)]) hx hb dX5_isTellable_88 hl (k := 1) rfl (nI_add _ _) (by decide) rfl (fun ls hl => ?_)
            refine lv_goto (tgt := 58) hx hb dX5_isTellable_91 (by decide) ?_
            exact ih (i + 1) _ _ _ _ _ ls (by omega) hz hRz (hNA.skip cz5) hcA (by omega) hM (lv_sub hl [1, 0] rfl)
          refine lv_aload_n hx hb dX5_isTellable_78 rfl (lv_at hl 0 rfl) ?_
          refine lv_iload_n hx hb dX5_isTellable_79 rfl (lv_at hl 1 rfl) ?_
          refine mm_V (As := [.int (nI i)]) (rest := []) ⟨hx, hb, hml, hown, hts⟩ (k_narrow l G hz hv hRz ht6 hRT (nI i)) (cwV 1 hts gX5_isTellable_X5_narrowByDefinition rfl rfl rfl (by decide +kernel) ⟨Nat.le_of_ble_eq_true rfl, Nat.le_of_ble_eq_true rfl⟩) hK hE hA hM (mm_recv hK hM hz.1 (q := (RX5, TX5, 7)) rfl) rfl hl.1 rfl (Nat.le_of_ble_eq_true rfl) dX5_isTellable_80 ⟨Nat.le_of_ble_eq_true rfl, Nat.le_of_ble_eq_true rfl⟩ (fun v f2 Hp lcs hp hM => ?_)
          obtain ⟨rfl, lo2, hi2, hR2, hC2, hnar⟩ := hp
          refine lvb_ne (tgt := 88) hx hb dX5_isTellable_83 (by decide) (fun cz6 => ?_) (fun cz6 => ?_)
          · refine lv_iinc (v := (nI (i + 1))) (lv' := [(1, .int (nI (i + 1))), (0, .ref o)]) hx hb dX5_isTellable_88 hl (k := 1) rfl (nI_add _ _) (by decide) rfl (fun ls hl => ?_)
            refine lv_goto (tgt := 58) hx hb dX5_isTellable_91 (by decide) ?_
            exact ih (i + 1) _ _ _ _ _ ls (by omega) hC2 hR2 (hNA.word cz5 (of_decide_eq_true cz6) (fun j hj => (hnar (of_decide_eq_true cz6) j hj).1) (fun j hj => (hnar (of_decide_eq_true cz6) j hj).2)) hcA (by omega) hM (lv_sub hl [1, 0] rfl)
          refine lv_iconst (v := (nI 0)) hx hb dX5_isTellable_86 (by decide +kernel) ?_
          exact mm_zret hx hb hlocks hr (by first | rfl | exact bI_nar _) (Nat.le_of_ble_eq_true rfl) (Nat.le_of_ble_eq_true rfl) hM (⟨false, rfl, _, _, _, _, _, _, _, _, _, _, _, _, _, hR2, ht6, hRT, hC2, fun ir wt lo0 hi0 ab0 => can_w hn16 hE9 hFR (by omega) cz5 cz6 ir wt lo0 hi0 ab0, fun z => by cases z⟩) dX5_isTellable_87
      exact loopZ 7 0 _ _ _ _ _ ls (by omega) h hR (NA.start S n us lo hi) (by rw [caA, decide_eq_true cz2]; rfl) (by omega) hM (lv_sub hl [1, 0] rfl)
    refine lv_aload_n hx hb dX5_isTellable_33 rfl (lv_at hl 0 rfl) ?_
    refine mm_get (C := RX5) (T := TX5) (N := 7) (k := 0) hx hb hts (fun _ h => List.mem_cons_of_mem _ (List.mem_append_left _ (List.mem_append_left _ (List.mem_append_left _ (List.mem_append_left _ (List.mem_append_left _ (List.mem_append_right _ h))))))) hown hK hM h.1 rfl (by decide) (hts (.fieldLink RX5 12 "SentenceRules" "now" "LSentenceRules$State;") (List.mem_of_getElem? (i := 2) rfl)) rfl rfl dX5_isTellable_34 ?_
    refine lv_aload_n hx hb dX5_isTellable_37 rfl (lv_at hl 0 rfl) ?_
    refine mm_get (C := RX5) (T := TX5) (N := 7) (k := 3) hx hb hts (fun _ h => List.mem_cons_of_mem _ (List.mem_append_left _ (List.mem_append_left _ (List.mem_append_left _ (List.mem_append_left _ (List.mem_append_left _ (List.mem_append_right _ h))))))) hown hK hM h.1 rfl (by decide) (hts (.fieldLink RX5 23 "SentenceRules" "reader" "LSentenceRules$Reader;") (List.mem_of_getElem? (i := 1) rfl)) rfl rfl dX5_isTellable_38 ?_
    refine mm_get (C := RX0) (T := TX0) (N := 9) (k := 0) hx hb hts (fun _ h => List.mem_cons_of_mem _ (List.mem_append_left _ (List.mem_append_left _ (List.mem_append_left _ (List.mem_append_right _ h))))) hown hK hM hR.1 rfl (by decide) (hts (.fieldLink RX5 106 "SentenceRules$Reader" "about" "I") (List.mem_of_getElem? (i := 5) rfl)) rfl rfl dX5_isTellable_41 ?_
    refine lv_bipush (v := (nI 10)) hx hb dX5_isTellable_44 (by decide +kernel) ?_
    refine lv_isub hx hb dX5_isTellable_46 ?_
    refine mm_V (As := [.int (ab - (nI 10))]) (rest := []) ⟨hx, hb, hml, hown, hts⟩ (c3_definitionOf l G hQ (ab - (nI 10))) (cwV 1 hts gX5_isTellable_X3_definitionOf rfl rfl rfl (by decide +kernel) ⟨Nat.le_of_ble_eq_true rfl, Nat.le_of_ble_eq_true rfl⟩) hK hE hA hM (mm_recv hK hM hA9.1.1 (q := (RX3, TX3, 4)) rfl) rfl hl.1 rfl (Nat.le_of_ble_eq_true rfl) dX5_isTellable_47 ⟨Nat.le_of_ble_eq_true rfl, Nat.le_of_ble_eq_true rfl⟩ (fun v f1 Hp lcs hp hM => ?_)
    obtain ⟨rfl, hf⟩ := hp; subst hf
    refine lv_iconst (v := (-1)) hx hb dX5_isTellable_50 (by decide +kernel) ?_
    refine lv_icmp_eq (tgt := 56) hx hb dX5_isTellable_51 (by decide) (fun cz7 => ?_) (fun cz7 => ?_)
    · refine lv_iconst (v := (nI 0)) hx hb dX5_isTellable_56 (by decide +kernel) ?_
      refine lv_istore_n (lv' := [(1, .int (nI 0)), (0, .ref o)]) hx hb dX5_isTellable_57 rfl hl (by decide) rfl (fun ls hl => ?_)
      have loopZ : ∀ (fuel : Nat) (i : Nat) (fz : mE) (lo1 hi1 : Nat → Int32) (Hp : Heap) (lcs : List Loc) (ls : Array Slot) (hi6 : i ≤ 6) (hz : CC G fz T o q0 ra rd sp rr sb S P rc) (hRz : RD G fz rd r p q ab gv us pl ir (nI t) ng cp lo1 hi1) (hNA : NA S n us lo hi i lo1 hi1) (hcA : caA S n ab = true) (hfu : 6 - i < fuel) (hM : mM G A s.heap fz Hp lcs) (hl : lv_has ls 2 [(0, .ref o), (1, .int (nI i))]), W pgm l env ({ frames := 5, cells := 0, slots := 0, locals := 109 } : Room) s mt args below meth c Hp lcs 0 0 (MQ below (mQc G A (fun v f1 => ∃ tb : Bool, v = some (.int (bI tb)) ∧ ∃ (r p q : Nat) (ab gv us pl : Int32) (t : Nat) (cp : Int32) (ir ng : Bool) (lo hi : Nat → Int32), RD G f1 rd r p q ab gv us pl ir (nI t) ng cp lo hi ∧ t < 6 ∧ RT T rd r p q ∧ CC G f1 T o q0 ra rd sp rr sb S P rc ∧ (∀ ir wt lo0 hi0 ab0, tb = canB S n cn ir wt lo0 hi0 ab0) ∧ (tb = true → TelK S n cn ab gv us lo hi))) args s 0 0 A) (F0 mt 58 ls []) := by
        intro fuel
        induction fuel with
        | zero => intro i fz lo1 hi1 Hp lcs ls hi6 hz hRz hNA hcA hfu; exact absurd hfu (Nat.not_lt_zero _)
        | succ fuel ih =>
          intro i fz lo1 hi1 Hp lcs ls hi6 hz hRz hNA hcA hfu hM hl
          refine lv_iload_n hx hb dX5_isTellable_58 rfl (lv_at hl 1 rfl) ?_
          refine lv_bipush (v := (nI 6)) hx hb dX5_isTellable_59 (by decide +kernel) ?_
          refine ln_icmp_ge i 6 (by omega) (by omega) (tgt := 94) hx hb dX5_isTellable_61 (by decide) (fun cz8 => ?_) (fun cz8 => ?_)
          · have hi9 : i = 6 := (by omega)
            have hNA6 : NA S n us lo hi 6 lo1 hi1 := hi9 ▸ hNA
            refine lv_aload_n hx hb dX5_isTellable_94 rfl (lv_at hl 0 rfl) ?_
            refine mm_get (C := RX5) (T := TX5) (N := 7) (k := 3) hx hb hts (fun _ h => List.mem_cons_of_mem _ (List.mem_append_left _ (List.mem_append_left _ (List.mem_append_left _ (List.mem_append_left _ (List.mem_append_left _ (List.mem_append_right _ h))))))) hown hK hM hz.1 rfl (by decide) (hts (.fieldLink RX5 23 "SentenceRules" "reader" "LSentenceRules$Reader;") (List.mem_of_getElem? (i := 1) rfl)) rfl rfl dX5_isTellable_95 ?_
            refine mm_get (C := RX0) (T := TX0) (N := 9) (k := 3) hx hb hts (fun _ h => List.mem_cons_of_mem _ (List.mem_append_left _ (List.mem_append_left _ (List.mem_append_left _ (List.mem_append_right _ h))))) hown hK hM hRz.1 rfl (by decide) (hts (.fieldLink RX5 122 "SentenceRules$Reader" "region" "LSentenceRules$Region;") (List.mem_of_getElem? (i := 7) rfl)) rfl rfl dX5_isTellable_98 ?_
            refine mm_V (As := []) (rest := []) ⟨hx, hb, hml, hown, hts⟩ (c1_isEmpty l G hRz.2.1 hRz.2.2.1 hRz.2.2.2.1) (cwV 0 hts gX5_isTellable_X1_isEmpty rfl rfl rfl (by decide +kernel) ⟨Nat.le_of_ble_eq_true rfl, Nat.le_of_ble_eq_true rfl⟩) hK hE hA hM (mm_recv hK hM hRz.2.1 (q := (RX1, TX1, 2)) rfl) rfl hl.1 rfl (Nat.le_of_ble_eq_true rfl) dX5_isTellable_101 ⟨Nat.le_of_ble_eq_true rfl, Nat.le_of_ble_eq_true rfl⟩ (fun v f1 Hp lcs hp hM => ?_)
            obtain ⟨rfl, hf⟩ := hp; subst hf
            refine lvb_ne (tgt := 111) hx hb dX5_isTellable_104 (by decide) (fun cz9 => ?_) (fun cz9 => ?_)
            · refine lv_iconst (v := (nI 0)) hx hb dX5_isTellable_111 (by decide +kernel) ?_
              exact mm_zret hx hb hlocks hr (by first | rfl | exact bI_nar _) (Nat.le_of_ble_eq_true rfl) (Nat.le_of_ble_eq_true rfl) hM (⟨false, rfl, _, _, _, _, _, _, _, _, _, _, _, _, _, hRz, ht6, hRT, hz, fun ir wt lo0 hi0 ab0 => by rw [can_fin hn16 hE9 hFR hNA6 hcA, bnot_t cz9], fun z => by cases z⟩) dX5_isTellable_112
            refine lv_iconst (v := (nI 1)) hx hb dX5_isTellable_107 (by decide +kernel) ?_
            refine lv_goto (tgt := 112) hx hb dX5_isTellable_108 (by decide) ?_
            exact mm_zret hx hb hlocks hr (by first | rfl | exact bI_nar _) (Nat.le_of_ble_eq_true rfl) (Nat.le_of_ble_eq_true rfl) hM (⟨true, rfl, _, _, _, _, _, _, _, _, _, _, _, _, _, hRz, ht6, hRT, hz, fun ir wt lo0 hi0 ab0 => by rw [can_fin hn16 hE9 hFR hNA6 hcA, bnot_f cz9], fun _ => tel_K hFR hNA6 hgvB hlim (bnot_f cz9)⟩) dX5_isTellable_112
          refine lv_aload_n hx hb dX5_isTellable_64 rfl (lv_at hl 0 rfl) ?_
          refine mm_get (C := RX5) (T := TX5) (N := 7) (k := 3) hx hb hts (fun _ h => List.mem_cons_of_mem _ (List.mem_append_left _ (List.mem_append_left _ (List.mem_append_left _ (List.mem_append_left _ (List.mem_append_left _ (List.mem_append_right _ h))))))) hown hK hM hz.1 rfl (by decide) (hts (.fieldLink RX5 23 "SentenceRules" "reader" "LSentenceRules$Reader;") (List.mem_of_getElem? (i := 1) rfl)) rfl rfl dX5_isTellable_65 ?_
          refine mm_get (C := RX0) (T := TX0) (N := 9) (k := 2) hx hb hts (fun _ h => List.mem_cons_of_mem _ (List.mem_append_left _ (List.mem_append_left _ (List.mem_append_left _ (List.mem_append_right _ h))))) hown hK hM hRz.1 rfl (by decide) (hts (.fieldLink RX5 113 "SentenceRules$Reader" "used" "I") (List.mem_of_getElem? (i := 6) rfl)) rfl rfl dX5_isTellable_68 ?_
          refine lv_iload_n hx hb dX5_isTellable_71 rfl (lv_at hl 1 rfl) ?_
          refine mm_S (As := [.int us, .int (nI i)]) (rest := []) ⟨hx, hb, hml, hown, hts⟩ (c5_isBitSet l G _ us (nI i)) (va_cwS 2 hts gX5_isTellable_X5_isBitSet rfl rfl rfl (by decide +kernel) ⟨Nat.le_of_ble_eq_true rfl, Nat.le_of_ble_eq_true rfl⟩) hK hE hA hM rfl hl.1 rfl (Nat.le_of_ble_eq_true rfl) dX5_isTellable_72 ⟨Nat.le_of_ble_eq_true rfl, Nat.le_of_ble_eq_true rfl⟩ (fun v f1 Hp lcs hp hM => ?_)
          obtain ⟨rfl, hf⟩ := hp; subst hf
          refine lvb_eq (tgt := 88) hx hb dX5_isTellable_75 (by decide) (fun cz10 => ?_) (fun cz10 => ?_)
          · refine lv_iinc (v := (nI (i + 1))) (lv' := [(1, .int (nI (i + 1))), (0, .ref o)]) hx hb dX5_isTellable_88 hl (k := 1) rfl (nI_add _ _) (by decide) rfl (fun ls hl => ?_)
            refine lv_goto (tgt := 58) hx hb dX5_isTellable_91 (by decide) ?_
            exact ih (i + 1) _ _ _ _ _ ls (by omega) hz hRz (hNA.skip cz10) hcA (by omega) hM (lv_sub hl [1, 0] rfl)
          refine lv_aload_n hx hb dX5_isTellable_78 rfl (lv_at hl 0 rfl) ?_
          refine lv_iload_n hx hb dX5_isTellable_79 rfl (lv_at hl 1 rfl) ?_
          refine mm_V (As := [.int (nI i)]) (rest := []) ⟨hx, hb, hml, hown, hts⟩ (k_narrow l G hz hv hRz ht6 hRT (nI i)) (cwV 1 hts gX5_isTellable_X5_narrowByDefinition rfl rfl rfl (by decide +kernel) ⟨Nat.le_of_ble_eq_true rfl, Nat.le_of_ble_eq_true rfl⟩) hK hE hA hM (mm_recv hK hM hz.1 (q := (RX5, TX5, 7)) rfl) rfl hl.1 rfl (Nat.le_of_ble_eq_true rfl) dX5_isTellable_80 ⟨Nat.le_of_ble_eq_true rfl, Nat.le_of_ble_eq_true rfl⟩ (fun v f2 Hp lcs hp hM => ?_)
          obtain ⟨rfl, lo2, hi2, hR2, hC2, hnar⟩ := hp
          refine lvb_ne (tgt := 88) hx hb dX5_isTellable_83 (by decide) (fun cz11 => ?_) (fun cz11 => ?_)
          · refine lv_iinc (v := (nI (i + 1))) (lv' := [(1, .int (nI (i + 1))), (0, .ref o)]) hx hb dX5_isTellable_88 hl (k := 1) rfl (nI_add _ _) (by decide) rfl (fun ls hl => ?_)
            refine lv_goto (tgt := 58) hx hb dX5_isTellable_91 (by decide) ?_
            exact ih (i + 1) _ _ _ _ _ ls (by omega) hC2 hR2 (hNA.word cz10 (of_decide_eq_true cz11) (fun j hj => (hnar (of_decide_eq_true cz11) j hj).1) (fun j hj => (hnar (of_decide_eq_true cz11) j hj).2)) hcA (by omega) hM (lv_sub hl [1, 0] rfl)
          refine lv_iconst (v := (nI 0)) hx hb dX5_isTellable_86 (by decide +kernel) ?_
          exact mm_zret hx hb hlocks hr (by first | rfl | exact bI_nar _) (Nat.le_of_ble_eq_true rfl) (Nat.le_of_ble_eq_true rfl) hM (⟨false, rfl, _, _, _, _, _, _, _, _, _, _, _, _, _, hR2, ht6, hRT, hC2, fun ir wt lo0 hi0 ab0 => can_w hn16 hE9 hFR (by omega) cz10 cz11 ir wt lo0 hi0 ab0, fun z => by cases z⟩) dX5_isTellable_87
      exact loopZ 7 0 _ _ _ _ _ ls (by omega) h hR (NA.start S n us lo hi) (by rw [caA, defI_d hn16, ← e_def hF9]; by_cases hd : firN (defD abS (ab - nI 10)) n < n; (exact (nI_nom1 (a := firN (defD abS (ab - nI 10)) n) (by omega) ((if_pos hd).symm.trans cz7)).elim); (rw [decide_eq_false hd]; exact Bool.or_true _)) (by omega) hM (lv_sub hl [1, 0] rfl)
    refine lv_iconst (v := (nI 0)) hx hb dX5_isTellable_54 (by decide +kernel) ?_
    exact mm_zret hx hb hlocks hr (by first | rfl | exact bI_nar _) (Nat.le_of_ble_eq_true rfl) (Nat.le_of_ble_eq_true rfl) hM (⟨false, rfl, _, _, _, _, _, _, _, _, _, _, _, _, _, hR, ht6, hRT, h, fun ir wt lo0 hi0 ab0 => can_a hE9 hFR (by rw [caA, defI_d hn16, decide_eq_false cz2, ← e_def hF9, Bool.false_or]; by_cases hd : firN (defD abS (ab - nI 10)) n < n; (rw [decide_eq_true hd]; rfl); (exact absurd (if_neg hd) cz7)) ir wt lo0 hi0 ab0, fun z => by cases z⟩) dX5_isTellable_55
  refine lv_iconst (v := (nI 0)) hx hb dX5_isTellable_19 (by decide +kernel) ?_
  exact mm_zret hx hb hlocks hr (by first | rfl | exact bI_nar _) (Nat.le_of_ble_eq_true rfl) (Nat.le_of_ble_eq_true rfl) hM (⟨false, rfl, _, _, _, _, _, _, _, _, _, _, _, _, _, hR, ht6, hRT, h, fun ir wt lo0 hi0 ab0 => can_e hE9 cz1 ir wt lo0 hi0 ab0, fun z => by cases z⟩) dX5_isTellable_20

