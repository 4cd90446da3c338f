/-! THE REFERENCE: reading a sentence -/
theorem RI.cL {G : mG} {f : mE} {o : Nat} {a : Nat → Nat} {S P lo hi ou z : Nat → Int32} {rc isr wd us ab gi wr wo : Int32} (h : RI G f o a S P lo hi ou rc isr wd us ab gi wr wo) (e : lo = z) : RI G f o a S P z hi ou rc isr wd us ab gi wr wo := e ▸ h
theorem RI.cH {G : mG} {f : mE} {o : Nat} {a : Nat → Nat} {S P lo hi ou z : Nat → Int32} {rc isr wd us ab gi wr wo : Int32} (h : RI G f o a S P lo hi ou rc isr wd us ab gi wr wo) (e : hi = z) : RI G f o a S P lo z ou rc isr wd us ab gi wr wo := e ▸ h
def atlF (l v : Int32) : Int32 := if v ≤ l then l else v
def atmF (h v : Int32) : Int32 := if h ≤ v then h else v
def narLo (S : Nat → Int32) (n : Nat) (w : Int32) (lo : Nat → Int32) : Nat → Int32 := if firN (defQ S w) n < n then filN (fun i => atlF (lo i) (S (57 + 66 * (firN (defQ S w) n) + (52 + i)))) lo 7 else lo
def narHi (S : Nat → Int32) (n : Nat) (w : Int32) (hi : Nat → Int32) : Nat → Int32 := if firN (defQ S w) n < n then filN (fun i => atmF (hi i) (S (57 + 66 * (firN (defQ S w) n) + (59 + i)))) hi 7 else hi
def nfN (S : Nat → Int32) (k : Nat) : Bool := decide (S (7 + 25 + (k + 1)) = nI 7)
def nfK (S : Nat → Int32) (k : Nat) : Nat := k + 1 + if nfN S k = true then 1 else 0
def nfH (S : Nat → Int32) (k : Nat) : Int32 := S (7 + 25 + nfK S k)
def nfV (S : Nat → Int32) (k : Nat) : Int32 := S (7 + 25 + (nfK S k + 1))
theorem n54 : ¬ nI 5 = nI 4 := by decide
def nfLoP (nt : Bool) (w v : Int32) (t : Nat) (lo : Nat → Int32) : Nat → Int32 := if w = nI 4 then upd lo t (atlF (lo t) v) else if decide (w = nI 5) = nt then lo else upd lo t (atlF (lo t) (if nt = true then v else v + nI 1))
def nfHiP (nt : Bool) (w v : Int32) (t : Nat) (hi : Nat → Int32) : Nat → Int32 := if w = nI 4 then upd hi t (atmF (hi t) v) else if decide (w = nI 5) = nt then upd hi t (atmF (hi t) (if nt = true then v else v - nI 1)) else hi
def nfLo (S : Nat → Int32) (t k : Nat) (lo : Nat → Int32) : Nat → Int32 := nfLoP (nfN S k) (nfH S k) (nfV S k) t lo
def nfHi (S : Nat → Int32) (t k : Nat) (hi : Nat → Int32) : Nat → Int32 := nfHiP (nfN S k) (nfH S k) (nfV S k) t hi
set_option maxHeartbeats 4000000 in
set_option maxRecDepth 100000 in
theorem c6_atLeast (l : Launch) (G : mG) {f : mE} {o : Nat} {a : Nat → Nat} {S P lo hi ou : Nat → Int32} {rc isr wd us ab gi wr wo : Int32} (hI : RI G f o a S P lo hi ou rc isr wd us ab gi wr wo) (k : Nat) (hk : k < 7) (x : Int32) : mC l G yX6_atLeast wsX6_atLeast ({ frames := 0, cells := 0, slots := 0, locals := 0 } : Room) f [.ref o, .int (nI k), .int x] (fun v f1 => v = none ∧ RI G f1 o a S P (upd lo k (atlF (lo k) x)) hi ou rc isr wd us ab gi wr wo) 0 0 := by
  refine mC.of (cc := cX6_atLeast) (maxL := 3) (ret := none) (by decide) rfl (Nat.le_of_ble_eq_true rfl) ?_
  intro pgm env s mt args below meth c A ls hx hb hml hr hlocks hown hname hts hK hE hA hM hl
  have hl : lv_has ls 3 [(0, .ref o), (1, .int (nI k)), (2, .int x)] := hl
  refine lv_aload_n hx hb dX6_atLeast_0 rfl (lv_at hl 0 rfl) ?_
  refine mm_get (C := RX6) (T := TX6) (N := 14) (k := 6) hx hb hts (fun _ h => List.mem_cons_of_mem _ (List.mem_append_right _ h)) hown hK hM (hI.obj) rfl (by decide) (hts (.fieldLink RX6 19 "SentenceRulesModel" "low" "[I") (List.mem_of_getElem? (i := 1) rfl)) rfl rfl dX6_atLeast_1 ?_
  refine lv_iload_n hx hb dX6_atLeast_4 rfl (lv_at hl 1 rfl) ?_
  refine lv_iload_n hx hb dX6_atLeast_5 rfl (lv_at hl 2 rfl) ?_
  refine lv_aload_n hx hb dX6_atLeast_6 rfl (lv_at hl 0 rfl) ?_
  refine mm_get (C := RX6) (T := TX6) (N := 14) (k := 6) hx hb hts (fun _ h => List.mem_cons_of_mem _ (List.mem_append_right _ h)) hown hK hM (hI.obj) rfl (by decide) (hts (.fieldLink RX6 19 "SentenceRulesModel" "low" "[I") (List.mem_of_getElem? (i := 1) rfl)) rfl rfl dX6_atLeast_7 ?_
  refine lv_iload_n hx hb dX6_atLeast_10 rfl (lv_at hl 1 rfl) ?_
  refine mn_iald hx hb hK hM (hI.low) k (by omega) (by decide) dX6_atLeast_11 ?_
  refine lv_icmp_le (tgt := 19) hx hb dX6_atLeast_12 (by decide) (fun cz1 => ?_) (fun cz1 => ?_)
  · refine lv_aload_n hx hb dX6_atLeast_19 rfl (lv_at hl 0 rfl) ?_
    refine mm_get (C := RX6) (T := TX6) (N := 14) (k := 6) hx hb hts (fun _ h => List.mem_cons_of_mem _ (List.mem_append_right _ h)) hown hK hM (hI.obj) rfl (by decide) (hts (.fieldLink RX6 19 "SentenceRulesModel" "low" "[I") (List.mem_of_getElem? (i := 1) rfl)) rfl rfl dX6_atLeast_20 ?_
    refine lv_iload_n hx hb dX6_atLeast_23 rfl (lv_at hl 1 rfl) ?_
    refine mn_iald hx hb hK hM (hI.low) k (by omega) (by decide) dX6_atLeast_24 ?_
    refine mn_iast hx hb hK hM (hI.low) k (by omega) (by decide) dX6_atLeast_25 (fun Hp lcs hM => ?_)
    have hI := hI.setLow (upd lo k (lo k))
    exact mm_vret hx hb hlocks hr (Nat.le_of_ble_eq_true rfl) (Nat.le_of_ble_eq_true rfl) hM (⟨rfl, hI.cL (by simp [atlF, cz1])⟩) dX6_atLeast_26
  refine lv_iload_n hx hb dX6_atLeast_15 rfl (lv_at hl 2 rfl) ?_
  refine lv_goto (tgt := 25) hx hb dX6_atLeast_16 (by decide) ?_
  refine mn_iast hx hb hK hM (hI.low) k (by omega) (by decide) dX6_atLeast_25 (fun Hp lcs hM => ?_)
  have hI := hI.setLow (upd lo k x)
  exact mm_vret hx hb hlocks hr (Nat.le_of_ble_eq_true rfl) (Nat.le_of_ble_eq_true rfl) hM (⟨rfl, hI.cL (by simp [atlF, cz1])⟩) dX6_atLeast_26
set_option maxHeartbeats 4000000 in
set_option maxRecDepth 100000 in
theorem c6_atMost (l : Launch) (G : mG) {f : mE} {o : Nat} {a : Nat → Nat} {S P lo hi ou : Nat → Int32} {rc isr wd us ab gi wr wo : Int32} (hI : RI G f o a S P lo hi ou rc isr wd us ab gi wr wo) (k : Nat) (hk : k < 7) (x : Int32) : mC l G yX6_atMost wsX6_atMost ({ frames := 0, cells := 0, slots := 0, locals := 0 } : Room) f [.ref o, .int (nI k), .int x] (fun v f1 => v = none ∧ RI G f1 o a S P lo (upd hi k (atmF (hi k) x)) ou rc isr wd us ab gi wr wo) 0 0 := by
  refine mC.of (cc := cX6_atMost) (maxL := 3) (ret := none) (by decide) rfl (Nat.le_of_ble_eq_true rfl) ?_
  intro pgm env s mt args below meth c A ls hx hb hml hr hlocks hown hname hts hK hE hA hM hl
  have hl : lv_has ls 3 [(0, .ref o), (1, .int (nI k)), (2, .int x)] := hl
  refine lv_aload_n hx hb dX6_atMost_0 rfl (lv_at hl 0 rfl) ?_
  refine mm_get (C := RX6) (T := TX6) (N := 14) (k := 7) hx hb hts (fun _ h => List.mem_cons_of_mem _ (List.mem_append_right _ h)) hown hK hM (hI.obj) rfl (by decide) (hts (.fieldLink RX6 22 "SentenceRulesModel" "high" "[I") (List.mem_of_getElem? (i := 1) rfl)) rfl rfl dX6_atMost_1 ?_
  refine lv_iload_n hx hb dX6_atMost_4 rfl (lv_at hl 1 rfl) ?_
  refine lv_iload_n hx hb dX6_atMost_5 rfl (lv_at hl 2 rfl) ?_
  refine lv_aload_n hx hb dX6_atMost_6 rfl (lv_at hl 0 rfl) ?_
  refine mm_get (C := RX6) (T := TX6) (N := 14) (k := 7) hx hb hts (fun _ h => List.mem_cons_of_mem _ (List.mem_append_right _ h)) hown hK hM (hI.obj) rfl (by decide) (hts (.fieldLink RX6 22 "SentenceRulesModel" "high" "[I") (List.mem_of_getElem? (i := 1) rfl)) rfl rfl dX6_atMost_7 ?_
  refine lv_iload_n hx hb dX6_atMost_10 rfl (lv_at hl 1 rfl) ?_
  refine mn_iald hx hb hK hM (hI.high) k (by omega) (by decide) dX6_atMost_11 ?_
  refine lv_icmp_ge (tgt := 19) hx hb dX6_atMost_12 (by decide) (fun cz1 => ?_) (fun cz1 => ?_)
  · refine lv_aload_n hx hb dX6_atMost_19 rfl (lv_at hl 0 rfl) ?_
    refine mm_get (C := RX6) (T := TX6) (N := 14) (k := 7) hx hb hts (fun _ h => List.mem_cons_of_mem _ (List.mem_append_right _ h)) hown hK hM (hI.obj) rfl (by decide) (hts (.fieldLink RX6 22 "SentenceRulesModel" "high" "[I") (List.mem_of_getElem? (i := 1) rfl)) rfl rfl dX6_atMost_20 ?_
    refine lv_iload_n hx hb dX6_atMost_23 rfl (lv_at hl 1 rfl) ?_
    refine mn_iald hx hb hK hM (hI.high) k (by omega) (by decide) dX6_atMost_24 ?_
    refine mn_iast hx hb hK hM (hI.high) k (by omega) (by decide) dX6_atMost_25 (fun Hp lcs hM => ?_)
    have hI := hI.setHigh (upd hi k (hi k))
    exact mm_vret hx hb hlocks hr (Nat.le_of_ble_eq_true rfl) (Nat.le_of_ble_eq_true rfl) hM (⟨rfl, hI.cH (by simp [atmF, cz1])⟩) dX6_atMost_26
  refine lv_iload_n hx hb dX6_atMost_15 rfl (lv_at hl 2 rfl) ?_
  refine lv_goto (tgt := 25) hx hb dX6_atMost_16 (by decide) ?_
  refine mn_iast hx hb hK hM (hI.high) k (by omega) (by decide) dX6_atMost_25 (fun Hp lcs hM => ?_)
  have hI := hI.setHigh (upd hi k x)
  exact mm_vret hx hb hlocks hr (Nat.le_of_ble_eq_true rfl) (Nat.le_of_ble_eq_true rfl) hM (⟨rfl, hI.cH (by simp [atmF, cz1])⟩) dX6_atMost_26
set_option maxHeartbeats 4000000 in
set_option maxRecDepth 100000 in
theorem c6_narrowD (l : Launch) (G : mG) {f : mE} {o : Nat} {a : Nat → Nat} {S P lo hi ou : Nat → Int32} {rc isr wd us ab gi wr wo : Int32} (hI : RI G f o a S P lo hi ou rc isr wd us ab gi wr wo) {n : Nat} (hn : S 56 = nI n) (hn16 : n ≤ 16) (w : Int32) (hd : firN (defQ S w) n < n) : mC l G yX6_narrow wsX6_narrow ({ frames := 2, cells := 0, slots := 0, locals := 44 } : Room) f [.ref o, .int w] (fun v f1 => v = none ∧ RI G f1 o a S P (filN (fun i => atlF (lo i) (S (57 + 66 * (firN (defQ S w) n) + (52 + i)))) lo 7) (filN (fun i => atmF (hi i) (S (57 + 66 * (firN (defQ S w) n) + (59 + i)))) hi 7) ou rc isr wd (us ||| (nI 1 <<< (w &&& 31))) ab gi wr wo) 0 0 := by
  refine mC.of (cc := cX6_narrow) (maxL := 4) (ret := none) (by decide) rfl (Nat.le_of_ble_eq_true rfl) ?_
  intro pgm env s mt args below meth c A ls hx hb hml hr hlocks hown hname hts hK hE hA hM hl
  have hl : lv_has ls 4 [(0, .ref o), (1, .int w)] := hl
  refine lv_aload_n hx hb dX6_narrow_0 rfl (lv_at hl 0 rfl) ?_
  refine lv_dup hx hb dX6_narrow_1 rfl ?_
  refine mm_get (C := RX6) (T := TX6) (N := 14) (k := 8) hx hb hts (fun _ h => List.mem_cons_of_mem _ (List.mem_append_right _ h)) hown hK hM (hI.obj) rfl (by decide) (hts (.fieldLink RX6 100 "SentenceRulesModel" "used" "I") (List.mem_of_getElem? (i := 1) rfl)) rfl rfl dX6_narrow_2 ?_
  refine lv_iconst (v := (nI 1)) hx hb dX6_narrow_5 (by decide +kernel) ?_
  refine lv_iload_n hx hb dX6_narrow_6 rfl (lv_at hl 1 rfl) ?_
  refine lv_ishl hx hb dX6_narrow_7 ?_
  refine lv_ior hx hb dX6_narrow_8 ?_
  refine mm_put (C := RX6) (T := TX6) (N := 14) (k := 8) hx hb hts (fun _ h => List.mem_cons_of_mem _ (List.mem_append_right _ h)) tyX6 tyX6_ok nmX6 hown hK hM (hI.obj) rfl (by decide) (hts (.fieldLink RX6 100 "SentenceRulesModel" "used" "I") (List.mem_of_getElem? (i := 1) rfl)) rfl rfl rfl rfl (Nat.le_of_ble_eq_true rfl) dX6_narrow_9 (fun Hp lcs hM => ?_)
  have hI := hI.setObj rc isr wd (us ||| ((nI 1) <<< (w &&& 31))) ab gi wr wo
  refine lv_aload_n hx hb dX6_narrow_12 rfl (lv_at hl 0 rfl) ?_
  refine lv_iload_n hx hb dX6_narrow_13 rfl (lv_at hl 1 rfl) ?_
  refine mm_V (As := [.int w]) (rest := []) ⟨hx, hb, hml, hown, hts⟩ (c6_definitionOf l G hI hn hn16 w) (cwV 1 hts gX6_narrow_X6_definitionOf rfl rfl rfl (by decide +kernel) ⟨Nat.le_of_ble_eq_true rfl, Nat.le_of_ble_eq_true rfl⟩) hK hE hA hM (mm_recv hK hM (hI.obj) (q := (RX6, TX6, 14)) rfl) rfl hl.1 rfl (Nat.le_of_ble_eq_true rfl) dX6_narrow_14 ⟨Nat.le_of_ble_eq_true rfl, Nat.le_of_ble_eq_true rfl⟩ (fun v f1 Hp lcs hp hM => ?_)
  obtain ⟨rfl, hf⟩ := hp; subst hf
  refine lv_istore_n (lv' := [(2, .int (defI S n w)), (0, .ref o), (1, .int w)]) hx hb dX6_narrow_17 rfl hl (by decide) rfl (fun ls hl => ?_)
  have hdv : defI S n w = nI (firN (defQ S w) n) := if_pos hd
  rw [hdv] at hl
  refine lv_iconst (v := (nI 0)) hx hb dX6_narrow_18 (by decide +kernel) ?_
  refine lv_istore_n (lv' := [(3, .int (nI 0)), (2, .int (nI (firN (defQ S w) n))), (0, .ref o), (1, .int w)]) hx hb dX6_narrow_19 rfl hl (by decide) rfl (fun ls hl => ?_)
  have loopZ : ∀ (fuel : Nat) (i : Nat) (fz : mE) (Hp : Heap) (lcs : List Loc) (ls : Array Slot) (hiN : i ≤ 7) (hIz : RI G fz o a S P (filN (fun i => atlF (lo i) (S (57 + 66 * (firN (defQ S w) n) + (52 + i)))) lo i) (filN (fun i => atmF (hi i) (S (57 + 66 * (firN (defQ S w) n) + (59 + i)))) hi i) ou rc isr wd (us ||| (nI 1 <<< (w &&& 31))) ab gi wr wo) (hfu : 7 - i < fuel) (hM : mM G A s.heap fz Hp lcs) (hl : lv_has ls 4 [(0, .ref o), (1, .int w), (2, .int (nI (firN (defQ S w) n))), (3, .int (nI i))]), W pgm l env ({ frames := 2, cells := 0, slots := 0, locals := 44 } : Room) s mt args below meth c Hp lcs 0 0 (MQ below (mQc G A (fun v f1 => v = none ∧ RI G f1 o a S P (filN (fun i => atlF (lo i) (S (57 + 66 * (firN (defQ S w) n) + (52 + i)))) lo 7) (filN (fun i => atmF (hi i) (S (57 + 66 * (firN (defQ S w) n) + (59 + i)))) hi 7) ou rc isr wd (us ||| (nI 1 <<< (w &&& 31))) ab gi wr wo)) args s 0 0 A) (F0 mt 20 ls []) := by
    intro fuel
    induction fuel with
    | zero => intro i fz Hp lcs ls hiN hIz hfu; exact absurd hfu (Nat.not_lt_zero _)
    | succ fuel ih =>
      intro i fz Hp lcs ls hiN hIz hfu hM hl
      have hI := hIz
      refine lv_iload_n hx hb dX6_narrow_20 rfl (lv_at hl 3 rfl) ?_
      refine lv_bipush (v := (nI 7)) hx hb dX6_narrow_21 (by decide +kernel) ?_
      refine ln_icmp_ge i 7 (by omega) (by omega) (tgt := 64) hx hb dX6_narrow_23 (by decide) (fun cz1 => ?_) (fun cz1 => ?_)
      · exact mm_vret hx hb hlocks hr (Nat.le_of_ble_eq_true rfl) (Nat.le_of_ble_eq_true rfl) hM ((by have hz : i = 7 := (by omega); subst hz; exact ⟨rfl, hI⟩)) dX6_narrow_64
      refine lv_iload_n hx hb dX6_narrow_26 rfl (lv_at hl 2 rfl) ?_
      refine lv_if_lt (tgt := 64) hx hb dX6_narrow_27 (by decide) (fun hq9 => absurd hq9 (nI_pos (by omega))) (fun _ => ?_)
      refine lv_aload_n hx hb dX6_narrow_30 rfl (lv_at hl 0 rfl) ?_
      refine lv_iload_n hx hb dX6_narrow_31 rfl (lv_at hl 3 rfl) ?_
      refine lv_aload_n hx hb dX6_narrow_32 rfl (lv_at hl 0 rfl) ?_
      refine lv_iload_n hx hb dX6_narrow_33 rfl (lv_at hl 2 rfl) ?_
      refine lv_bipush (v := (nI 52)) hx hb dX6_narrow_34 (by decide +kernel) ?_
      refine lv_iload_n hx hb dX6_narrow_36 rfl (lv_at hl 3 rfl) ?_
      refine ln_iadd 52 i hx hb dX6_narrow_37 ?_
      refine mm_V (As := [.int (nI (firN (defQ S w) n)), .int (nI (52 + i))]) (rest := [.int (nI i), .ref o]) ⟨hx, hb, hml, hown, hts⟩ (c6_of l G hI (firN (defQ S w) n) (52 + i) (by omega)) (cwV 2 hts gX6_narrow_X6_of rfl rfl rfl (by decide +kernel) ⟨Nat.le_of_ble_eq_true rfl, Nat.le_of_ble_eq_true rfl⟩) hK hE hA hM (mm_recv hK hM (hI.obj) (q := (RX6, TX6, 14)) rfl) rfl hl.1 rfl (Nat.le_of_ble_eq_true rfl) dX6_narrow_38 ⟨Nat.le_of_ble_eq_true rfl, Nat.le_of_ble_eq_true rfl⟩ (fun v f1 Hp lcs hp hM => ?_)
      obtain ⟨rfl, hf⟩ := hp; subst hf
      refine mm_V (As := [.int (nI i), .int (S (57 + 66 * (firN (defQ S w) n) + (52 + i)))]) (rest := []) ⟨hx, hb, hml, hown, hts⟩ (c6_atLeast l G hI i (by omega) (S (57 + 66 * (firN (defQ S w) n) + (52 + i)))) (cwV 2 hts gX6_narrow_X6_atLeast rfl rfl rfl (by decide +kernel) ⟨Nat.le_of_ble_eq_true rfl, Nat.le_of_ble_eq_true rfl⟩) hK hE hA hM (mm_recv hK hM (hI.obj) (q := (RX6, TX6, 14)) rfl) rfl hl.1 rfl (Nat.le_of_ble_eq_true rfl) dX6_narrow_41 ⟨Nat.le_of_ble_eq_true rfl, Nat.le_of_ble_eq_true rfl⟩ (fun v gz2 Hp lcs hp hM => ?_)
      obtain ⟨rfl, hI⟩ := hp
      refine lv_aload_n hx hb dX6_narrow_44 rfl (lv_at hl 0 rfl) ?_
      refine lv_iload_n hx hb dX6_narrow_45 rfl (lv_at hl 3 rfl) ?_
      refine lv_aload_n hx hb dX6_narrow_46 rfl (lv_at hl 0 rfl) ?_
      refine lv_iload_n hx hb dX6_narrow_47 rfl (lv_at hl 2 rfl) ?_
      refine lv_bipush (v := (nI 59)) hx hb dX6_narrow_48 (by decide +kernel) ?_
      refine lv_iload_n hx hb dX6_narrow_50 rfl (lv_at hl 3 rfl) ?_
      refine ln_iadd 59 i hx hb dX6_narrow_51 ?_
      refine mm_V (As := [.int (nI (firN (defQ S w) n)), .int (nI (59 + i))]) (rest := [.int (nI i), .ref o]) ⟨hx, hb, hml, hown, hts⟩ (c6_of l G hI (firN (defQ S w) n) (59 + i) (by omega)) (cwV 2 hts gX6_narrow_X6_of rfl rfl rfl (by decide +kernel) ⟨Nat.le_of_ble_eq_true rfl, Nat.le_of_ble_eq_true rfl⟩) hK hE hA hM (mm_recv hK hM (hI.obj) (q := (RX6, TX6, 14)) rfl) rfl hl.1 rfl (Nat.le_of_ble_eq_true rfl) dX6_narrow_52 ⟨Nat.le_of_ble_eq_true rfl, Nat.le_of_ble_eq_true rfl⟩ (fun v f1 Hp lcs hp hM => ?_)
      obtain ⟨rfl, hf⟩ := hp; subst hf
      refine mm_V (As := [.int (nI i), .int (S (57 + 66 * (firN (defQ S w) n) + (59 + i)))]) (rest := []) ⟨hx, hb, hml, hown, hts⟩ (c6_atMost l G hI i (by omega) (S (57 + 66 * (firN (defQ S w) n) + (59 + i)))) (cwV 2 hts gX6_narrow_X6_atMost rfl rfl rfl (by decide +kernel) ⟨Nat.le_of_ble_eq_true rfl, Nat.le_of_ble_eq_true rfl⟩) hK hE hA hM (mm_recv hK hM (hI.obj) (q := (RX6, TX6, 14)) rfl) rfl hl.1 rfl (Nat.le_of_ble_eq_true rfl) dX6_narrow_55 ⟨Nat.le_of_ble_eq_true rfl, Nat.le_of_ble_eq_true rfl⟩ (fun v gz3 Hp lcs hp hM => ?_)
      obtain ⟨rfl, hI⟩ := hp
      refine lv_iinc (v := (nI (i + 1))) (lv' := [(3, .int (nI (i + 1))), (0, .ref o), (1, .int w), (2, .int (nI (firN (defQ S w) n)))]) hx hb dX6_narrow_58 hl (k := 3) rfl (nI_add _ _) (by decide) rfl (fun ls hl => ?_)
      refine lv_goto (tgt := 20) hx hb dX6_narrow_61 (by decide) ?_
      exact ih (i + 1) _ _ _ ls (by omega) ((hI.cL (by rw [filN_at]; exact filN_s (fun i => atlF (lo i) (S (57 + 66 * (firN (defQ S w) n) + (52 + i)))) _ _)).cH (by rw [filN_at]; exact filN_s (fun i => atmF (hi i) (S (57 + 66 * (firN (defQ S w) n) + (59 + i)))) _ _)) (by omega) hM (lv_sub hl [1, 2, 3, 0] rfl)
  exact loopZ 8 0 _ _ _ ls (Nat.zero_le _) (by rw [filN_0, filN_0]; exact hI) (by omega) hM (lv_sub hl [2, 3, 1, 0] rfl)
set_option maxHeartbeats 4000000 in
set_option maxRecDepth 100000 in
theorem c6_narrowN (l : Launch) (G : mG) {f : mE} {o : Nat} {a : Nat → Nat} {S P lo hi ou : Nat → Int32} {rc isr wd us ab gi wr wo : Int32} (hI : RI G f o a S P lo hi ou rc isr wd us ab gi wr wo) {n : Nat} (hn : S 56 = nI n) (hn16 : n ≤ 16) (w : Int32) (hd : ¬ firN (defQ S w) n < n) : mC l G yX6_narrow wsX6_narrow ({ frames := 2, cells := 0, slots := 0, locals := 44 } : Room) f [.ref o, .int w] (fun v f1 => v = none ∧ RI G f1 o a S P lo hi ou rc isr wd (us ||| (nI 1 <<< (w &&& 31))) ab gi wr wo) 0 0 := by
  refine mC.of (cc := cX6_narrow) (maxL := 4) (ret := none) (by decide) rfl (Nat.le_of_ble_eq_true rfl) ?_
  intro pgm env s mt args below meth c A ls hx hb hml hr hlocks hown hname hts hK hE hA hM hl
  have hl : lv_has ls 4 [(0, .ref o), (1, .int w)] := hl
  refine lv_aload_n hx hb dX6_narrow_0 rfl (lv_at hl 0 rfl) ?_
  refine lv_dup hx hb dX6_narrow_1 rfl ?_
  refine mm_get (C := RX6) (T := TX6) (N := 14) (k := 8) hx hb hts (fun _ h => List.mem_cons_of_mem _ (List.mem_append_right _ h)) hown hK hM (hI.obj) rfl (by decide) (hts (.fieldLink RX6 100 "SentenceRulesModel" "used" "I") (List.mem_of_getElem? (i := 1) rfl)) rfl rfl dX6_narrow_2 ?_
  refine lv_iconst (v := (nI 1)) hx hb dX6_narrow_5 (by decide +kernel) ?_
  refine lv_iload_n hx hb dX6_narrow_6 rfl (lv_at hl 1 rfl) ?_
  refine lv_ishl hx hb dX6_narrow_7 ?_
  refine lv_ior hx hb dX6_narrow_8 ?_
  refine mm_put (C := RX6) (T := TX6) (N := 14) (k := 8) hx hb hts (fun _ h => List.mem_cons_of_mem _ (List.mem_append_right _ h)) tyX6 tyX6_ok nmX6 hown hK hM (hI.obj) rfl (by decide) (hts (.fieldLink RX6 100 "SentenceRulesModel" "used" "I") (List.mem_of_getElem? (i := 1) rfl)) rfl rfl rfl rfl (Nat.le_of_ble_eq_true rfl) dX6_narrow_9 (fun Hp lcs hM => ?_)
  have hI := hI.setObj rc isr wd (us ||| ((nI 1) <<< (w &&& 31))) ab gi wr wo
  refine lv_aload_n hx hb dX6_narrow_12 rfl (lv_at hl 0 rfl) ?_
  refine lv_iload_n hx hb dX6_narrow_13 rfl (lv_at hl 1 rfl) ?_
  refine mm_V (As := [.int w]) (rest := []) ⟨hx, hb, hml, hown, hts⟩ (c6_definitionOf l G hI hn hn16 w) (cwV 1 hts gX6_narrow_X6_definitionOf rfl rfl rfl (by decide +kernel) ⟨Nat.le_of_ble_eq_true rfl, Nat.le_of_ble_eq_true rfl⟩) hK hE hA hM (mm_recv hK hM (hI.obj) (q := (RX6, TX6, 14)) rfl) rfl hl.1 rfl (Nat.le_of_ble_eq_true rfl) dX6_narrow_14 ⟨Nat.le_of_ble_eq_true rfl, Nat.le_of_ble_eq_true rfl⟩ (fun v f1 Hp lcs hp hM => ?_)
  obtain ⟨rfl, hf⟩ := hp; subst hf
  refine lv_istore_n (lv' := [(2, .int (defI S n w)), (0, .ref o), (1, .int w)]) hx hb dX6_narrow_17 rfl hl (by decide) rfl (fun ls hl => ?_)
  have hdv : defI S n w = -100005 := if_neg hd
  rw [hdv] at hl
  refine lv_iconst (v := (nI 0)) hx hb dX6_narrow_18 (by decide +kernel) ?_
  refine lv_istore_n (lv' := [(3, .int (nI 0)), (2, .int (-100005)), (0, .ref o), (1, .int w)]) hx hb dX6_narrow_19 rfl hl (by decide) rfl (fun ls hl => ?_)
  have loopZ : ∀ (fuel : Nat) (i : Nat) (fz : mE) (Hp : Heap) (lcs : List Loc) (ls : Array Slot) (hiN : i ≤ 7) (hIz : RI G fz o a S P lo hi ou rc isr wd (us ||| (nI 1 <<< (w &&& 31))) ab gi wr wo) (hfu : 7 - i < fuel) (hM : mM G A s.heap fz Hp lcs) (hl : lv_has ls 4 [(0, .ref o), (1, .int w), (2, .int (-100005)), (3, .int (nI i))]), W pgm l env ({ frames := 2, cells := 0, slots := 0, locals := 44 } : Room) s mt args below meth c Hp lcs 0 0 (MQ below (mQc G A (fun v f1 => v = none ∧ RI G f1 o a S P lo hi ou rc isr wd (us ||| (nI 1 <<< (w &&& 31))) ab gi wr wo)) args s 0 0 A) (F0 mt 20 ls []) := by
    intro fuel
    induction fuel with
    | zero => intro i fz Hp lcs ls hiN hIz hfu; exact absurd hfu (Nat.not_lt_zero _)
    | succ fuel ih =>
      intro i fz Hp lcs ls hiN hIz hfu hM hl
      have hI := hIz
      refine lv_iload_n hx hb dX6_narrow_20 rfl (lv_at hl 3 rfl) ?_
      refine lv_bipush (v := (nI 7)) hx hb dX6_narrow_21 (by decide +kernel) ?_
      refine ln_icmp_ge i 7 (by omega) (by omega) (tgt := 64) hx hb dX6_narrow_23 (by decide) (fun cz1 => ?_) (fun cz1 => ?_)
      · exact mm_vret hx hb hlocks hr (Nat.le_of_ble_eq_true rfl) (Nat.le_of_ble_eq_true rfl) hM (⟨rfl, hI⟩) dX6_narrow_64
      refine lv_iload_n hx hb dX6_narrow_26 rfl (lv_at hl 2 rfl) ?_
      refine lv_if_lt (tgt := 64) hx hb dX6_narrow_27 (by decide) (fun _ => ?_) (fun hq9 => absurd (by decide) hq9)
      exact mm_vret hx hb hlocks hr (Nat.le_of_ble_eq_true rfl) (Nat.le_of_ble_eq_true rfl) hM (⟨rfl, hI⟩) dX6_narrow_64
  exact loopZ 8 0 _ _ _ ls (Nat.zero_le _) (hI) (by omega) hM (lv_sub hl [2, 3, 1, 0] rfl)
theorem c6_narrow (l : Launch) (G : mG) {f : mE} {o : Nat} {a : Nat → Nat} {S P lo hi ou : Nat → Int32} {rc isr wd us ab gi wr wo : Int32} (hI : RI G f o a S P lo hi ou rc isr wd us ab gi wr wo) {n : Nat} (hn : S 56 = nI n) (hn16 : n ≤ 16) (w : Int32) : mC l G yX6_narrow wsX6_narrow ({ frames := 2, cells := 0, slots := 0, locals := 44 } : Room) f [.ref o, .int w] (fun v f1 => v = none ∧ RI G f1 o a S P (narLo S n w lo) (narHi S n w hi) ou rc isr wd (us ||| (nI 1 <<< (w &&& 31))) ab gi wr wo) 0 0 := by
  by_cases hd : firN (defQ S w) n < n
  · exact (c6_narrowD l G hI hn hn16 w hd).mono (fun v f1 z => ⟨z.1, by rw [narLo, narHi, if_pos hd, if_pos hd]; exact z.2⟩)
  · exact (c6_narrowN l G hI hn hn16 w hd).mono (fun v f1 z => ⟨z.1, by rw [narLo, narHi, if_neg hd, if_neg hd]; exact z.2⟩)
set_option maxHeartbeats 4000000 in
set_option maxRecDepth 100000 in
theorem c6_narrowFact (l : Launch) (G : mG) {f : mE} {o : Nat} {a : Nat → Nat} {S P lo hi ou : Nat → Int32} {rc isr wd us ab gi wr wo : Int32} (hI : RI G f o a S P lo hi ou rc isr wd us ab gi wr wo) (k t : Nat) (hk : k < 24) (ht : t < 6) (hv : S (7 + 25 + k) = nI (10 + t)) : mC l G yX6_narrowFact wsX6_narrowFact ({ frames := 1, cells := 0, slots := 0, locals := 22 } : Room) f [.ref o, .int (nI k)] (fun v f1 => v = some (.int (nI (nfK S k + 2))) ∧ RI G f1 o a S P (nfLo S t k lo) (nfHi S t k hi) ou rc isr wd us ab gi wr wo) 0 0 := by
  refine mC.of (cc := cX6_narrowFact) (maxL := 7) (ret := (some .int)) (by decide) rfl (Nat.le_of_ble_eq_true rfl) ?_
  intro pgm env s mt args below meth c A ls hx hb hml hr hlocks hown hname hts hK hE hA hM hl
  have hl : lv_has ls 7 [(0, .ref o), (1, .int (nI k))] := hl
  refine lv_aload_n hx hb dX6_narrowFact_0 rfl (lv_at hl 0 rfl) ?_
  refine lv_iload_n hx hb dX6_narrowFact_1 rfl (lv_at hl 1 rfl) ?_
  refine mm_V (As := [.int (nI k)]) (rest := []) ⟨hx, hb, hml, hown, hts⟩ (c6_valueAt l G hI k (by omega)) (cwV 1 hts gX6_narrowFact_X6_valueAt rfl rfl rfl (by decide +kernel) ⟨Nat.le_of_ble_eq_true rfl, Nat.le_of_ble_eq_true rfl⟩) hK hE hA hM (mm_recv hK hM (hI.obj) (q := (RX6, TX6, 14)) rfl) rfl hl.1 rfl (Nat.le_of_ble_eq_true rfl) dX6_narrowFact_2 ⟨Nat.le_of_ble_eq_true rfl, Nat.le_of_ble_eq_true rfl⟩ (fun v f1 Hp lcs hp hM => ?_)
  obtain ⟨rfl, hf⟩ := hp; subst hf
  refine mv_top hv ?_
  refine lv_bipush (v := (nI 10)) hx hb dX6_narrowFact_5 (by decide +kernel) ?_
  refine ln_isub (10 + t) 10 (by omega) hx hb dX6_narrowFact_7 ?_
  refine mv_top (y := (nI t)) (congrArg nI (by omega)) ?_
  refine lv_istore_n (lv' := [(2, .int (nI t)), (0, .ref o), (1, .int (nI k))]) hx hb dX6_narrowFact_8 rfl hl (by decide) rfl (fun ls hl => ?_)
  refine lv_iload_n hx hb dX6_narrowFact_9 rfl (lv_at hl 2 rfl) ?_
  refine lv_iconst (v := (nI 1)) hx hb dX6_narrowFact_10 (by decide +kernel) ?_
  refine ln_iadd k 1 hx hb dX6_narrowFact_11 ?_
  refine lv_istore_n (lv' := [(3, .int (nI (k + 1))), (2, .int (nI t)), (0, .ref o), (1, .int (nI k))]) hx hb dX6_narrowFact_12 rfl hl (by decide) rfl (fun ls hl => ?_)
  refine lv_aload_n hx hb dX6_narrowFact_13 rfl (lv_at hl 2 rfl) ?_
  refine lv_iload_n hx hb dX6_narrowFact_14 rfl (lv_at hl 0 rfl) ?_
  refine mm_V (As := [.int (nI (k + 1))]) (rest := []) ⟨hx, hb, hml, hown, hts⟩ (c6_valueAt l G hI (k + 1) (by omega)) (cwV 1 hts gX6_narrowFact_X6_valueAt rfl rfl rfl (by decide +kernel) ⟨Nat.le_of_ble_eq_true rfl, Nat.le_of_ble_eq_true rfl⟩) hK hE hA hM (mm_recv hK hM (hI.obj) (q := (RX6, TX6, 14)) rfl) rfl hl.1 rfl (Nat.le_of_ble_eq_true rfl) dX6_narrowFact_15 ⟨Nat.le_of_ble_eq_true rfl, Nat.le_of_ble_eq_true rfl⟩ (fun v f1 Hp lcs hp hM => ?_)
  obtain ⟨rfl, hf⟩ := hp; subst hf
  refine lv_bipush (v := (nI 7)) hx hb dX6_narrowFact_18 (by decide +kernel) ?_
  refine lv_icmp_ne (tgt := 27) hx hb dX6_narrowFact_20 (by decide) (fun cz1 => ?_) (fun cz1 => ?_)
  · refine lv_iconst (v := (nI 0)) hx hb dX6_narrowFact_27 (by decide +kernel) ?_
    refine lv_istore (lv' := [(4, .int (nI 0)), (3, .int (nI (k + 1))), (2, .int (nI t)), (0, .ref o), (1, .int (nI k))]) hx hb dX6_narrowFact_28 hl (by decide) rfl (fun ls hl => ?_)
    refine lv_iload_n hx hb dX6_narrowFact_30 rfl (lv_at hl 1 rfl) ?_
    refine lv_iload hx hb dX6_narrowFact_31 (lv_at hl 0 rfl) ?_
    refine lv_if_eq (tgt := 40) hx hb dX6_narrowFact_33 (by decide) (fun _ => ?_) (fun hq9 => absurd hq9 (by decide))
    refine lv_iconst (v := (nI 0)) hx hb dX6_narrowFact_40 (by decide +kernel) ?_
    refine ln_iadd (k + 1) 0 hx hb dX6_narrowFact_41 ?_
    refine lv_istore_n (lv' := [(3, .int (nI ((k + 1) + 0))), (4, .int (nI 0)), (2, .int (nI t)), (0, .ref o), (1, .int (nI k))]) hx hb dX6_narrowFact_42 rfl hl (by decide) rfl (fun ls hl => ?_)
    refine lv_aload_n hx hb dX6_narrowFact_43 rfl (lv_at hl 3 rfl) ?_
    refine lv_iload_n hx hb dX6_narrowFact_44 rfl (lv_at hl 0 rfl) ?_
    refine mm_V (As := [.int (nI ((k + 1) + 0))]) (rest := []) ⟨hx, hb, hml, hown, hts⟩ (c6_valueAt l G hI ((k + 1) + 0) (by omega)) (cwV 1 hts gX6_narrowFact_X6_valueAt rfl rfl rfl (by decide +kernel) ⟨Nat.le_of_ble_eq_true rfl, Nat.le_of_ble_eq_true rfl⟩) hK hE hA hM (mm_recv hK hM (hI.obj) (q := (RX6, TX6, 14)) rfl) rfl hl.1 rfl (Nat.le_of_ble_eq_true rfl) dX6_narrowFact_45 ⟨Nat.le_of_ble_eq_true rfl, Nat.le_of_ble_eq_true rfl⟩ (fun v f1 Hp lcs hp hM => ?_)
    obtain ⟨rfl, hf⟩ := hp; subst hf
    refine lv_istore (lv' := [(5, .int (S (7 + 25 + ((k + 1) + 0)))), (3, .int (nI ((k + 1) + 0))), (4, .int (nI 0)), (2, .int (nI t)), (0, .ref o), (1, .int (nI k))]) hx hb dX6_narrowFact_48 hl (by decide) rfl (fun ls hl => ?_)
    refine lv_aload_n hx hb dX6_narrowFact_50 rfl (lv_at hl 4 rfl) ?_
    refine lv_iload_n hx hb dX6_narrowFact_51 rfl (lv_at hl 1 rfl) ?_
    refine lv_iconst (v := (nI 1)) hx hb dX6_narrowFact_52 (by decide +kernel) ?_
    refine ln_iadd ((k + 1) + 0) 1 hx hb dX6_narrowFact_53 ?_
    refine mm_V (As := [.int (nI (((k + 1) + 0) + 1))]) (rest := []) ⟨hx, hb, hml, hown, hts⟩ (c6_valueAt l G hI (((k + 1) + 0) + 1) (by omega)) (cwV 1 hts gX6_narrowFact_X6_valueAt rfl rfl rfl (by decide +kernel) ⟨Nat.le_of_ble_eq_true rfl, Nat.le_of_ble_eq_true rfl⟩) hK hE hA hM (mm_recv hK hM (hI.obj) (q := (RX6, TX6, 14)) rfl) rfl hl.1 rfl (Nat.le_of_ble_eq_true rfl) dX6_narrowFact_54 ⟨Nat.le_of_ble_eq_true rfl, Nat.le_of_ble_eq_true rfl⟩ (fun v f1 Hp lcs hp hM => ?_)
    obtain ⟨rfl, hf⟩ := hp; subst hf
    refine lv_istore (lv' := [(6, .int (S (7 + 25 + (((k + 1) + 0) + 1)))), (5, .int (S (7 + 25 + ((k + 1) + 0)))), (3, .int (nI ((k + 1) + 0))), (4, .int (nI 0)), (2, .int (nI t)), (0, .ref o), (1, .int (nI k))]) hx hb dX6_narrowFact_57 hl (by decide) rfl (fun ls hl => ?_)
    refine lv_iload hx hb dX6_narrowFact_59 (lv_at hl 1 rfl) ?_
    refine lv_iconst (v := (nI 4)) hx hb dX6_narrowFact_61 (by decide +kernel) ?_
    refine lv_icmp_ne (tgt := 82) hx hb dX6_narrowFact_62 (by decide) (fun cz2 => ?_) (fun cz2 => ?_)
    · refine lv_iload hx hb dX6_narrowFact_82 (lv_at hl 1 rfl) ?_
      refine lv_iconst (v := (nI 5)) hx hb dX6_narrowFact_84 (by decide +kernel) ?_
      refine lv_icmp_ne (tgt := 92) hx hb dX6_narrowFact_85 (by decide) (fun cz3 => ?_) (fun cz3 => ?_)
      · refine lv_iconst (v := (nI 0)) hx hb dX6_narrowFact_92 (by decide +kernel) ?_
        refine lv_iload hx hb dX6_narrowFact_93 (lv_at hl 3 rfl) ?_
        refine ln_icmp_ne 0 0 (by omega) (by omega) (tgt := 120) hx hb dX6_narrowFact_95 (by decide) (fun hq9 => absurd hq9 (by decide)) (fun _ => ?_)
        refine lv_aload_n hx hb dX6_narrowFact_98 rfl (lv_at hl 5 rfl) ?_
        refine lv_iload_n hx hb dX6_narrowFact_99 rfl (lv_at hl 4 rfl) ?_
        refine lv_iload hx hb dX6_narrowFact_100 (lv_at hl 3 rfl) ?_
        refine lv_if_eq (tgt := 110) hx hb dX6_narrowFact_102 (by decide) (fun _ => ?_) (fun hq9 => absurd hq9 (by decide))
        refine lv_iload hx hb dX6_narrowFact_110 (lv_at hl 0 rfl) ?_
        refine lv_iconst (v := (nI 1)) hx hb dX6_narrowFact_112 (by decide +kernel) ?_
        refine lv_isub hx hb dX6_narrowFact_113 ?_
        refine mm_V (As := [.int (nI t), .int ((S (7 + 25 + (((k + 1) + 0) + 1))) - (nI 1))]) (rest := []) ⟨hx, hb, hml, hown, hts⟩ (c6_atMost l G hI t (by omega) ((S (7 + 25 + (((k + 1) + 0) + 1))) - (nI 1))) (cwV 2 hts gX6_narrowFact_X6_atMost rfl rfl rfl (by decide +kernel) ⟨Nat.le_of_ble_eq_true rfl, Nat.le_of_ble_eq_true rfl⟩) hK hE hA hM (mm_recv hK hM (hI.obj) (q := (RX6, TX6, 14)) rfl) rfl hl.1 rfl (Nat.le_of_ble_eq_true rfl) dX6_narrowFact_114 ⟨Nat.le_of_ble_eq_true rfl, Nat.le_of_ble_eq_true rfl⟩ (fun v gz5 Hp lcs hp hM => ?_)
        obtain ⟨rfl, hI⟩ := hp
        refine lv_goto (tgt := 139) hx hb dX6_narrowFact_117 (by decide) ?_
        refine lv_iload_n hx hb dX6_narrowFact_139 rfl (lv_at hl 2 rfl) ?_
        refine lv_iconst (v := (nI 2)) hx hb dX6_narrowFact_140 (by decide +kernel) ?_
        refine ln_iadd ((k + 1) + 0) 2 hx hb dX6_narrowFact_141 ?_
        exact mm_iret hx hb hlocks hr (Nat.le_of_ble_eq_true rfl) (Nat.le_of_ble_eq_true rfl) hM (⟨congrArg (fun z => some (Value.int z)) (by have eN : nfN S k = false := (by rw [nfN]; simp [cz1]); have eK : nfK S k = k + 1 + 0 := (by rw [nfK, eN]; rfl); have eH : nfH S k = S (7 + 25 + (k + 1 + 0)) := (by rw [nfH, eK]); have eV : nfV S k = S (7 + 25 + (k + 1 + 0 + 1)) := (by rw [nfV, eK]); rw [eK]), (hI.cL (by have eN : nfN S k = false := (by rw [nfN]; simp [cz1]); have eK : nfK S k = k + 1 + 0 := (by rw [nfK, eN]; rfl); have eH : nfH S k = S (7 + 25 + (k + 1 + 0)) := (by rw [nfH, eK]); have eV : nfV S k = S (7 + 25 + (k + 1 + 0 + 1)) := (by rw [nfV, eK]); rw [nfLo, eN, eH, eV]; simp only [nfLoP, cz2, cz3, if_true, if_false, n54, decide_true, decide_false, Bool.false_eq_true, Bool.true_eq_false, not_true_eq_false, not_false_eq_true, eq_self_iff_true, reduceCtorEq])).cH (by have eN : nfN S k = false := (by rw [nfN]; simp [cz1]); have eK : nfK S k = k + 1 + 0 := (by rw [nfK, eN]; rfl); have eH : nfH S k = S (7 + 25 + (k + 1 + 0)) := (by rw [nfH, eK]); have eV : nfV S k = S (7 + 25 + (k + 1 + 0 + 1)) := (by rw [nfV, eK]); rw [nfHi, eN, eH, eV]; simp only [nfHiP, cz2, cz3, if_true, if_false, n54, decide_true, decide_false, Bool.false_eq_true, Bool.true_eq_false, not_true_eq_false, not_false_eq_true, eq_self_iff_true, reduceCtorEq])⟩) dX6_narrowFact_142
      refine lv_iconst (v := (nI 1)) hx hb dX6_narrowFact_88 (by decide +kernel) ?_
      refine lv_goto (tgt := 93) hx hb dX6_narrowFact_89 (by decide) ?_
      refine lv_iload hx hb dX6_narrowFact_93 (lv_at hl 3 rfl) ?_
      refine ln_icmp_ne 1 0 (by omega) (by omega) (tgt := 120) hx hb dX6_narrowFact_95 (by decide) (fun _ => ?_) (fun hq9 => absurd hq9 (by decide))
      refine lv_aload_n hx hb dX6_narrowFact_120 rfl (lv_at hl 5 rfl) ?_
      refine lv_iload_n hx hb dX6_narrowFact_121 rfl (lv_at hl 4 rfl) ?_
      refine lv_iload hx hb dX6_narrowFact_122 (lv_at hl 3 rfl) ?_
      refine lv_if_eq (tgt := 132) hx hb dX6_narrowFact_124 (by decide) (fun _ => ?_) (fun hq9 => absurd hq9 (by decide))
      refine lv_iload hx hb dX6_narrowFact_132 (lv_at hl 0 rfl) ?_
      refine lv_iconst (v := (nI 1)) hx hb dX6_narrowFact_134 (by decide +kernel) ?_
      refine lv_iadd hx hb dX6_narrowFact_135 ?_
      refine mm_V (As := [.int (nI t), .int ((S (7 + 25 + (((k + 1) + 0) + 1))) + (nI 1))]) (rest := []) ⟨hx, hb, hml, hown, hts⟩ (c6_atLeast l G hI t (by omega) ((S (7 + 25 + (((k + 1) + 0) + 1))) + (nI 1))) (cwV 2 hts gX6_narrowFact_X6_atLeast rfl rfl rfl (by decide +kernel) ⟨Nat.le_of_ble_eq_true rfl, Nat.le_of_ble_eq_true rfl⟩) hK hE hA hM (mm_recv hK hM (hI.obj) (q := (RX6, TX6, 14)) rfl) rfl hl.1 rfl (Nat.le_of_ble_eq_true rfl) dX6_narrowFact_136 ⟨Nat.le_of_ble_eq_true rfl, Nat.le_of_ble_eq_true rfl⟩ (fun v gz7 Hp lcs hp hM => ?_)
      obtain ⟨rfl, hI⟩ := hp
      refine lv_iload_n hx hb dX6_narrowFact_139 rfl (lv_at hl 2 rfl) ?_
      refine lv_iconst (v := (nI 2)) hx hb dX6_narrowFact_140 (by decide +kernel) ?_
      refine ln_iadd ((k + 1) + 0) 2 hx hb dX6_narrowFact_141 ?_
      exact mm_iret hx hb hlocks hr (Nat.le_of_ble_eq_true rfl) (Nat.le_of_ble_eq_true rfl) hM (⟨congrArg (fun z => some (Value.int z)) (by have eN : nfN S k = false := (by rw [nfN]; simp [cz1]); have eK : nfK S k = k + 1 + 0 := (by rw [nfK, eN]; rfl); have eH : nfH S k = S (7 + 25 + (k + 1 + 0)) := (by rw [nfH, eK]); have eV : nfV S k = S (7 + 25 + (k + 1 + 0 + 1)) := (by rw [nfV, eK]); rw [eK]), (hI.cL (by have eN : nfN S k = false := (by rw [nfN]; simp [cz1]); have eK : nfK S k = k + 1 + 0 := (by rw [nfK, eN]; rfl); have eH : nfH S k = S (7 + 25 + (k + 1 + 0)) := (by rw [nfH, eK]); have eV : nfV S k = S (7 + 25 + (k + 1 + 0 + 1)) := (by rw [nfV, eK]); rw [nfLo, eN, eH, eV]; simp only [nfLoP, cz2, cz3, if_true, if_false, n54, decide_true, decide_false, Bool.false_eq_true, Bool.true_eq_false, not_true_eq_false, not_false_eq_true, eq_self_iff_true, reduceCtorEq])).cH (by have eN : nfN S k = false := (by rw [nfN]; simp [cz1]); have eK : nfK S k = k + 1 + 0 := (by rw [nfK, eN]; rfl); have eH : nfH S k = S (7 + 25 + (k + 1 + 0)) := (by rw [nfH, eK]); have eV : nfV S k = S (7 + 25 + (k + 1 + 0 + 1)) := (by rw [nfV, eK]); rw [nfHi, eN, eH, eV]; simp only [nfHiP, cz2, cz3, if_true, if_false, n54, decide_true, decide_false, Bool.false_eq_true, Bool.true_eq_false, not_true_eq_false, not_false_eq_true, eq_self_iff_true, reduceCtorEq])⟩) dX6_narrowFact_142
    refine lv_aload_n hx hb dX6_narrowFact_65 rfl (lv_at hl 5 rfl) ?_
    refine lv_iload_n hx hb dX6_narrowFact_66 rfl (lv_at hl 4 rfl) ?_
    refine lv_iload hx hb dX6_narrowFact_67 (lv_at hl 0 rfl) ?_
    refine mm_V (As := [.int (nI t), .int (S (7 + 25 + (((k + 1) + 0) + 1)))]) (rest := []) ⟨hx, hb, hml, hown, hts⟩ (c6_atLeast l G hI t (by omega) (S (7 + 25 + (((k + 1) + 0) + 1)))) (cwV 2 hts gX6_narrowFact_X6_atLeast rfl rfl rfl (by decide +kernel) ⟨Nat.le_of_ble_eq_true rfl, Nat.le_of_ble_eq_true rfl⟩) hK hE hA hM (mm_recv hK hM (hI.obj) (q := (RX6, TX6, 14)) rfl) rfl hl.1 rfl (Nat.le_of_ble_eq_true rfl) dX6_narrowFact_69 ⟨Nat.le_of_ble_eq_true rfl, Nat.le_of_ble_eq_true rfl⟩ (fun v gz8 Hp lcs hp hM => ?_)
    obtain ⟨rfl, hI⟩ := hp
    refine lv_aload_n hx hb dX6_narrowFact_72 rfl (lv_at hl 5 rfl) ?_
    refine lv_iload_n hx hb dX6_narrowFact_73 rfl (lv_at hl 4 rfl) ?_
    refine lv_iload hx hb dX6_narrowFact_74 (lv_at hl 0 rfl) ?_
    refine mm_V (As := [.int (nI t), .int (S (7 + 25 + (((k + 1) + 0) + 1)))]) (rest := []) ⟨hx, hb, hml, hown, hts⟩ (c6_atMost l G hI t (by omega) (S (7 + 25 + (((k + 1) + 0) + 1)))) (cwV 2 hts gX6_narrowFact_X6_atMost rfl rfl rfl (by decide +kernel) ⟨Nat.le_of_ble_eq_true rfl, Nat.le_of_ble_eq_true rfl⟩) hK hE hA hM (mm_recv hK hM (hI.obj) (q := (RX6, TX6, 14)) rfl) rfl hl.1 rfl (Nat.le_of_ble_eq_true rfl) dX6_narrowFact_76 ⟨Nat.le_of_ble_eq_true rfl, Nat.le_of_ble_eq_true rfl⟩ (fun v gz9 Hp lcs hp hM => ?_)
    obtain ⟨rfl, hI⟩ := hp
    refine lv_goto (tgt := 139) hx hb dX6_narrowFact_79 (by decide) ?_
    refine lv_iload_n hx hb dX6_narrowFact_139 rfl (lv_at hl 2 rfl) ?_
    refine lv_iconst (v := (nI 2)) hx hb dX6_narrowFact_140 (by decide +kernel) ?_
    refine ln_iadd ((k + 1) + 0) 2 hx hb dX6_narrowFact_141 ?_
    exact mm_iret hx hb hlocks hr (Nat.le_of_ble_eq_true rfl) (Nat.le_of_ble_eq_true rfl) hM (⟨congrArg (fun z => some (Value.int z)) (by have eN : nfN S k = false := (by rw [nfN]; simp [cz1]); have eK : nfK S k = k + 1 + 0 := (by rw [nfK, eN]; rfl); have eH : nfH S k = S (7 + 25 + (k + 1 + 0)) := (by rw [nfH, eK]); have eV : nfV S k = S (7 + 25 + (k + 1 + 0 + 1)) := (by rw [nfV, eK]); rw [eK]), (hI.cL (by have eN : nfN S k = false := (by rw [nfN]; simp [cz1]); have eK : nfK S k = k + 1 + 0 := (by rw [nfK, eN]; rfl); have eH : nfH S k = S (7 + 25 + (k + 1 + 0)) := (by rw [nfH, eK]); have eV : nfV S k = S (7 + 25 + (k + 1 + 0 + 1)) := (by rw [nfV, eK]); rw [nfLo, eN, eH, eV]; simp only [nfLoP, cz2, if_true, if_false, n54, decide_true, decide_false, Bool.false_eq_true, Bool.true_eq_false, not_true_eq_false, not_false_eq_true, eq_self_iff_true, reduceCtorEq])).cH (by have eN : nfN S k = false := (by rw [nfN]; simp [cz1]); have eK : nfK S k = k + 1 + 0 := (by rw [nfK, eN]; rfl); have eH : nfH S k = S (7 + 25 + (k + 1 + 0)) := (by rw [nfH, eK]); have eV : nfV S k = S (7 + 25 + (k + 1 + 0 + 1)) := (by rw [nfV, eK]); rw [nfHi, eN, eH, eV]; simp only [nfHiP, cz2, if_true, if_false, n54, decide_true, decide_false, Bool.false_eq_true, Bool.true_eq_false, not_true_eq_false, not_false_eq_true, eq_self_iff_true, reduceCtorEq])⟩) dX6_narrowFact_142
  refine lv_iconst (v := (nI 1)) hx hb dX6_narrowFact_23 (by decide +kernel) ?_
  refine lv_goto (tgt := 28) hx hb dX6_narrowFact_24 (by decide) ?_
  refine lv_istore (lv' := [(4, .int (nI 1)), (3, .int (nI (k + 1))), (2, .int (nI t)), (0, .ref o), (1, .int (nI k))]) hx hb dX6_narrowFact_28 hl (by decide) rfl (fun ls hl => ?_)
  refine lv_iload_n hx hb dX6_narrowFact_30 rfl (lv_at hl 1 rfl) ?_
  refine lv_iload hx hb dX6_narrowFact_31 (lv_at hl 0 rfl) ?_
  refine lv_if_eq (tgt := 40) hx hb dX6_narrowFact_33 (by decide) (fun hq9 => absurd hq9 (by decide)) (fun _ => ?_)
  refine lv_iconst (v := (nI 1)) hx hb dX6_narrowFact_36 (by decide +kernel) ?_
  refine lv_goto (tgt := 41) hx hb dX6_narrowFact_37 (by decide) ?_
  refine ln_iadd (k + 1) 1 hx hb dX6_narrowFact_41 ?_
  refine lv_istore_n (lv' := [(3, .int (nI ((k + 1) + 1))), (4, .int (nI 1)), (2, .int (nI t)), (0, .ref o), (1, .int (nI k))]) hx hb dX6_narrowFact_42 rfl hl (by decide) rfl (fun ls hl => ?_)
  refine lv_aload_n hx hb dX6_narrowFact_43 rfl (lv_at hl 3 rfl) ?_
  refine lv_iload_n hx hb dX6_narrowFact_44 rfl (lv_at hl 0 rfl) ?_
  refine mm_V (As := [.int (nI ((k + 1) + 1))]) (rest := []) ⟨hx, hb, hml, hown, hts⟩ (c6_valueAt l G hI ((k + 1) + 1) (by omega)) (cwV 1 hts gX6_narrowFact_X6_valueAt rfl rfl rfl (by decide +kernel) ⟨Nat.le_of_ble_eq_true rfl, Nat.le_of_ble_eq_true rfl⟩) hK hE hA hM (mm_recv hK hM (hI.obj) (q := (RX6, TX6, 14)) rfl) rfl hl.1 rfl (Nat.le_of_ble_eq_true rfl) dX6_narrowFact_45 ⟨Nat.le_of_ble_eq_true rfl, Nat.le_of_ble_eq_true rfl⟩ (fun v f1 Hp lcs hp hM => ?_)
  obtain ⟨rfl, hf⟩ := hp; subst hf
  refine lv_istore (lv' := [(5, .int (S (7 + 25 + ((k + 1) + 1)))), (3, .int (nI ((k + 1) + 1))), (4, .int (nI 1)), (2, .int (nI t)), (0, .ref o), (1, .int (nI k))]) hx hb dX6_narrowFact_48 hl (by decide) rfl (fun ls hl => ?_)
  refine lv_aload_n hx hb dX6_narrowFact_50 rfl (lv_at hl 4 rfl) ?_
  refine lv_iload_n hx hb dX6_narrowFact_51 rfl (lv_at hl 1 rfl) ?_
  refine lv_iconst (v := (nI 1)) hx hb dX6_narrowFact_52 (by decide +kernel) ?_
  refine ln_iadd ((k + 1) + 1) 1 hx hb dX6_narrowFact_53 ?_
  refine mm_V (As := [.int (nI (((k + 1) + 1) + 1))]) (rest := []) ⟨hx, hb, hml, hown, hts⟩ (c6_valueAt l G hI (((k + 1) + 1) + 1) (by omega)) (cwV 1 hts gX6_narrowFact_X6_valueAt rfl rfl rfl (by decide +kernel) ⟨Nat.le_of_ble_eq_true rfl, Nat.le_of_ble_eq_true rfl⟩) hK hE hA hM (mm_recv hK hM (hI.obj) (q := (RX6, TX6, 14)) rfl) rfl hl.1 rfl (Nat.le_of_ble_eq_true rfl) dX6_narrowFact_54 ⟨Nat.le_of_ble_eq_true rfl, Nat.le_of_ble_eq_true rfl⟩ (fun v f1 Hp lcs hp hM => ?_)
  obtain ⟨rfl, hf⟩ := hp; subst hf
  refine lv_istore (lv' := [(6, .int (S (7 + 25 + (((k + 1) + 1) + 1)))), (5, .int (S (7 + 25 + ((k + 1) + 1)))), (3, .int (nI ((k + 1) + 1))), (4, .int (nI 1)), (2, .int (nI t)), (0, .ref o), (1, .int (nI k))]) hx hb dX6_narrowFact_57 hl (by decide) rfl (fun ls hl => ?_)
  refine lv_iload hx hb dX6_narrowFact_59 (lv_at hl 1 rfl) ?_
  refine lv_iconst (v := (nI 4)) hx hb dX6_narrowFact_61 (by decide +kernel) ?_
  refine lv_icmp_ne (tgt := 82) hx hb dX6_narrowFact_62 (by decide) (fun cz10 => ?_) (fun cz10 => ?_)
  · refine lv_iload hx hb dX6_narrowFact_82 (lv_at hl 1 rfl) ?_
    refine lv_iconst (v := (nI 5)) hx hb dX6_narrowFact_84 (by decide +kernel) ?_
    refine lv_icmp_ne (tgt := 92) hx hb dX6_narrowFact_85 (by decide) (fun cz11 => ?_) (fun cz11 => ?_)
    · refine lv_iconst (v := (nI 0)) hx hb dX6_narrowFact_92 (by decide +kernel) ?_
      refine lv_iload hx hb dX6_narrowFact_93 (lv_at hl 3 rfl) ?_
      refine ln_icmp_ne 0 1 (by omega) (by omega) (tgt := 120) hx hb dX6_narrowFact_95 (by decide) (fun _ => ?_) (fun hq9 => absurd hq9 (by decide))
      refine lv_aload_n hx hb dX6_narrowFact_120 rfl (lv_at hl 5 rfl) ?_
      refine lv_iload_n hx hb dX6_narrowFact_121 rfl (lv_at hl 4 rfl) ?_
      refine lv_iload hx hb dX6_narrowFact_122 (lv_at hl 3 rfl) ?_
      refine lv_if_eq (tgt := 132) hx hb dX6_narrowFact_124 (by decide) (fun hq9 => absurd hq9 (by decide)) (fun _ => ?_)
      refine lv_iload hx hb dX6_narrowFact_127 (lv_at hl 0 rfl) ?_
      refine lv_goto (tgt := 136) hx hb dX6_narrowFact_129 (by decide) ?_
      refine mm_V (As := [.int (nI t), .int (S (7 + 25 + (((k + 1) + 1) + 1)))]) (rest := []) ⟨hx, hb, hml, hown, hts⟩ (c6_atLeast l G hI t (by omega) (S (7 + 25 + (((k + 1) + 1) + 1)))) (cwV 2 hts gX6_narrowFact_X6_atLeast rfl rfl rfl (by decide +kernel) ⟨Nat.le_of_ble_eq_true rfl, Nat.le_of_ble_eq_true rfl⟩) hK hE hA hM (mm_recv hK hM (hI.obj) (q := (RX6, TX6, 14)) rfl) rfl hl.1 rfl (Nat.le_of_ble_eq_true rfl) dX6_narrowFact_136 ⟨Nat.le_of_ble_eq_true rfl, Nat.le_of_ble_eq_true rfl⟩ (fun v gz13 Hp lcs hp hM => ?_)
      obtain ⟨rfl, hI⟩ := hp
      refine lv_iload_n hx hb dX6_narrowFact_139 rfl (lv_at hl 2 rfl) ?_
      refine lv_iconst (v := (nI 2)) hx hb dX6_narrowFact_140 (by decide +kernel) ?_
      refine ln_iadd ((k + 1) + 1) 2 hx hb dX6_narrowFact_141 ?_
      exact mm_iret hx hb hlocks hr (Nat.le_of_ble_eq_true rfl) (Nat.le_of_ble_eq_true rfl) hM (⟨congrArg (fun z => some (Value.int z)) (by have eN : nfN S k = true := (by rw [nfN]; simp [cz1]); have eK : nfK S k = k + 1 + 1 := (by rw [nfK, eN]; rfl); have eH : nfH S k = S (7 + 25 + (k + 1 + 1)) := (by rw [nfH, eK]); have eV : nfV S k = S (7 + 25 + (k + 1 + 1 + 1)) := (by rw [nfV, eK]); rw [eK]), (hI.cL (by have eN : nfN S k = true := (by rw [nfN]; simp [cz1]); have eK : nfK S k = k + 1 + 1 := (by rw [nfK, eN]; rfl); have eH : nfH S k = S (7 + 25 + (k + 1 + 1)) := (by rw [nfH, eK]); have eV : nfV S k = S (7 + 25 + (k + 1 + 1 + 1)) := (by rw [nfV, eK]); rw [nfLo, eN, eH, eV]; simp only [nfLoP, cz10, cz11, if_true, if_false, n54, decide_true, decide_false, Bool.false_eq_true, Bool.true_eq_false, not_true_eq_false, not_false_eq_true, eq_self_iff_true, reduceCtorEq])).cH (by have eN : nfN S k = true := (by rw [nfN]; simp [cz1]); have eK : nfK S k = k + 1 + 1 := (by rw [nfK, eN]; rfl); have eH : nfH S k = S (7 + 25 + (k + 1 + 1)) := (by rw [nfH, eK]); have eV : nfV S k = S (7 + 25 + (k + 1 + 1 + 1)) := (by rw [nfV, eK]); rw [nfHi, eN, eH, eV]; simp only [nfHiP, cz10, cz11, if_true, if_false, n54, decide_true, decide_false, Bool.false_eq_true, Bool.true_eq_false, not_true_eq_false, not_false_eq_true, eq_self_iff_true, reduceCtorEq])⟩) dX6_narrowFact_142
    refine lv_iconst (v := (nI 1)) hx hb dX6_narrowFact_88 (by decide +kernel) ?_
    refine lv_goto (tgt := 93) hx hb dX6_narrowFact_89 (by decide) ?_
    refine lv_iload hx hb dX6_narrowFact_93 (lv_at hl 3 rfl) ?_
    refine ln_icmp_ne 1 1 (by omega) (by omega) (tgt := 120) hx hb dX6_narrowFact_95 (by decide) (fun hq9 => absurd hq9 (by decide)) (fun _ => ?_)
    refine lv_aload_n hx hb dX6_narrowFact_98 rfl (lv_at hl 5 rfl) ?_
    refine lv_iload_n hx hb dX6_narrowFact_99 rfl (lv_at hl 4 rfl) ?_
    refine lv_iload hx hb dX6_narrowFact_100 (lv_at hl 3 rfl) ?_
    refine lv_if_eq (tgt := 110) hx hb dX6_narrowFact_102 (by decide) (fun hq9 => absurd hq9 (by decide)) (fun _ => ?_)
    refine lv_iload hx hb dX6_narrowFact_105 (lv_at hl 0 rfl) ?_
    refine lv_goto (tgt := 114) hx hb dX6_narrowFact_107 (by decide) ?_
    refine mm_V (As := [.int (nI t), .int (S (7 + 25 + (((k + 1) + 1) + 1)))]) (rest := []) ⟨hx, hb, hml, hown, hts⟩ (c6_atMost l G hI t (by omega) (S (7 + 25 + (((k + 1) + 1) + 1)))) (cwV 2 hts gX6_narrowFact_X6_atMost rfl rfl rfl (by decide +kernel) ⟨Nat.le_of_ble_eq_true rfl, Nat.le_of_ble_eq_true rfl⟩) hK hE hA hM (mm_recv hK hM (hI.obj) (q := (RX6, TX6, 14)) rfl) rfl hl.1 rfl (Nat.le_of_ble_eq_true rfl) dX6_narrowFact_114 ⟨Nat.le_of_ble_eq_true rfl, Nat.le_of_ble_eq_true rfl⟩ (fun v gz15 Hp lcs hp hM => ?_)
    obtain ⟨rfl, hI⟩ := hp
    refine lv_goto (tgt := 139) hx hb dX6_narrowFact_117 (by decide) ?_
    refine lv_iload_n hx hb dX6_narrowFact_139 rfl (lv_at hl 2 rfl) ?_
    refine lv_iconst (v := (nI 2)) hx hb dX6_narrowFact_140 (by decide +kernel) ?_
    refine ln_iadd ((k + 1) + 1) 2 hx hb dX6_narrowFact_141 ?_
    exact mm_iret hx hb hlocks hr (Nat.le_of_ble_eq_true rfl) (Nat.le_of_ble_eq_true rfl) hM (⟨congrArg (fun z => some (Value.int z)) (by have eN : nfN S k = true := (by rw [nfN]; simp [cz1]); have eK : nfK S k = k + 1 + 1 := (by rw [nfK, eN]; rfl); have eH : nfH S k = S (7 + 25 + (k + 1 + 1)) := (by rw [nfH, eK]); have eV : nfV S k = S (7 + 25 + (k + 1 + 1 + 1)) := (by rw [nfV, eK]); rw [eK]), (hI.cL (by have eN : nfN S k = true := (by rw [nfN]; simp [cz1]); have eK : nfK S k = k + 1 + 1 := (by rw [nfK, eN]; rfl); have eH : nfH S k = S (7 + 25 + (k + 1 + 1)) := (by rw [nfH, eK]); have eV : nfV S k = S (7 + 25 + (k + 1 + 1 + 1)) := (by rw [nfV, eK]); rw [nfLo, eN, eH, eV]; simp only [nfLoP, cz10, cz11, if_true, if_false, n54, decide_true, decide_false, Bool.false_eq_true, Bool.true_eq_false, not_true_eq_false, not_false_eq_true, eq_self_iff_true, reduceCtorEq])).cH (by have eN : nfN S k = true := (by rw [nfN]; simp [cz1]); have eK : nfK S k = k + 1 + 1 := (by rw [nfK, eN]; rfl); have eH : nfH S k = S (7 + 25 + (k + 1 + 1)) := (by rw [nfH, eK]); have eV : nfV S k = S (7 + 25 + (k + 1 + 1 + 1)) := (by rw [nfV, eK]); rw [nfHi, eN, eH, eV]; simp only [nfHiP, cz10, cz11, if_true, if_false, n54, decide_true, decide_false, Bool.false_eq_true, Bool.true_eq_false, not_true_eq_false, not_false_eq_true, eq_self_iff_true, reduceCtorEq])⟩) dX6_narrowFact_142
  refine lv_aload_n hx hb dX6_narrowFact_65 rfl (lv_at hl 5 rfl) ?_
  refine lv_iload_n hx hb dX6_narrowFact_66 rfl (lv_at hl 4 rfl) ?_
  refine lv_iload hx hb dX6_narrowFact_67 (lv_at hl 0 rfl) ?_
  refine mm_V (As := [.int (nI t), .int (S (7 + 25 + (((k + 1) + 1) + 1)))]) (rest := []) ⟨hx, hb, hml, hown, hts⟩ (c6_atLeast l G hI t (by omega) (S (7 + 25 + (((k + 1) + 1) + 1)))) (cwV 2 hts gX6_narrowFact_X6_atLeast rfl rfl rfl (by decide +kernel) ⟨Nat.le_of_ble_eq_true rfl, Nat.le_of_ble_eq_true rfl⟩) hK hE hA hM (mm_recv hK hM (hI.obj) (q := (RX6, TX6, 14)) rfl) rfl hl.1 rfl (Nat.le_of_ble_eq_true rfl) dX6_narrowFact_69 ⟨Nat.le_of_ble_eq_true rfl, Nat.le_of_ble_eq_true rfl⟩ (fun v gz16 Hp lcs hp hM => ?_)
  obtain ⟨rfl, hI⟩ := hp
  refine lv_aload_n hx hb dX6_narrowFact_72 rfl (lv_at hl 5 rfl) ?_
  refine lv_iload_n hx hb dX6_narrowFact_73 rfl (lv_at hl 4 rfl) ?_
  refine lv_iload hx hb dX6_narrowFact_74 (lv_at hl 0 rfl) ?_
  refine mm_V (As := [.int (nI t), .int (S (7 + 25 + (((k + 1) + 1) + 1)))]) (rest := []) ⟨hx, hb, hml, hown, hts⟩ (c6_atMost l G hI t (by omega) (S (7 + 25 + (((k + 1) + 1) + 1)))) (cwV 2 hts gX6_narrowFact_X6_atMost rfl rfl rfl (by decide +kernel) ⟨Nat.le_of_ble_eq_true rfl, Nat.le_of_ble_eq_true rfl⟩) hK hE hA hM (mm_recv hK hM (hI.obj) (q := (RX6, TX6, 14)) rfl) rfl hl.1 rfl (Nat.le_of_ble_eq_true rfl) dX6_narrowFact_76 ⟨Nat.le_of_ble_eq_true rfl, Nat.le_of_ble_eq_true rfl⟩ (fun v gz17 Hp lcs hp hM => ?_)
  obtain ⟨rfl, hI⟩ := hp
  refine lv_goto (tgt := 139) hx hb dX6_narrowFact_79 (by decide) ?_
  refine lv_iload_n hx hb dX6_narrowFact_139 rfl (lv_at hl 2 rfl) ?_
  refine lv_iconst (v := (nI 2)) hx hb dX6_narrowFact_140 (by decide +kernel) ?_
  refine ln_iadd ((k + 1) + 1) 2 hx hb dX6_narrowFact_141 ?_
  exact mm_iret hx hb hlocks hr (Nat.le_of_ble_eq_true rfl) (Nat.le_of_ble_eq_true rfl) hM (⟨congrArg (fun z => some (Value.int z)) (by have eN : nfN S k = true := (by rw [nfN]; simp [cz1]); have eK : nfK S k = k + 1 + 1 := (by rw [nfK, eN]; rfl); have eH : nfH S k = S (7 + 25 + (k + 1 + 1)) := (by rw [nfH, eK]); have eV : nfV S k = S (7 + 25 + (k + 1 + 1 + 1)) := (by rw [nfV, eK]); rw [eK]), (hI.cL (by have eN : nfN S k = true := (by rw [nfN]; simp [cz1]); have eK : nfK S k = k + 1 + 1 := (by rw [nfK, eN]; rfl); have eH : nfH S k = S (7 + 25 + (k + 1 + 1)) := (by rw [nfH, eK]); have eV : nfV S k = S (7 + 25 + (k + 1 + 1 + 1)) := (by rw [nfV, eK]); rw [nfLo, eN, eH, eV]; simp only [nfLoP, cz10, if_true, if_false, n54, decide_true, decide_false, Bool.false_eq_true, Bool.true_eq_false, not_true_eq_false, not_false_eq_true, eq_self_iff_true, reduceCtorEq])).cH (by have eN : nfN S k = true := (by rw [nfN]; simp [cz1]); have eK : nfK S k = k + 1 + 1 := (by rw [nfK, eN]; rfl); have eH : nfH S k = S (7 + 25 + (k + 1 + 1)) := (by rw [nfH, eK]); have eV : nfV S k = S (7 + 25 + (k + 1 + 1 + 1)) := (by rw [nfV, eK]); rw [nfHi, eN, eH, eV]; simp only [nfHiP, cz10, if_true, if_false, n54, decide_true, decide_false, Bool.false_eq_true, Bool.true_eq_false, not_true_eq_false, not_false_eq_true, eq_self_iff_true, reduceCtorEq])⟩) dX6_narrowFact_142
