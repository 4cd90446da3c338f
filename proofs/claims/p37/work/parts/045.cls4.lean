/-! THE CLASS: the reader of a sentence (ab, gv, us: about, given, used; pl: the place; ir: in a rule; lf, ng, cp: the condition; lo, hi: the region) -/
def RD (G : mG) (f : mE) (rd r p q : Nat) (ab gv us pl : Int32) (ir : Bool) (lf : Int32) (ng : Bool) (cp : Int32) (lo hi : Nat → Int32) : Prop :=
  f rd = some (.inr (1, [.int ab, .int gv, .int us, .ref r, .int pl, .int (bI ir), .int lf, .int (bI ng), .int cp])) ∧ f r = some (.inr (2, [.ref p, .ref q])) ∧ f p = some (mI G 7 lo) ∧ f q = some (mI G 7 hi) ∧ p ≠ q
def RDF (G : mG) (f0 f : mE) (rd r p q : Nat) (ab gv us pl : Int32) (ir : Bool) (lf : Int32) (ng : Bool) (cp : Int32) (lo hi : Nat → Int32) : Prop :=
  RD G f rd r p q ab gv us pl ir lf ng cp lo hi ∧ ∀ b, b ≠ rd → b ≠ p → b ≠ q → f b = f0 b
section RDS
variable {G : mG} {f0 f : mE} {rd r p q : Nat} {ab gv us pl lf cp : Int32} {ir ng : Bool} {lo hi : Nat → Int32}
theorem RD.start (h : RD G f rd r p q ab gv us pl ir lf ng cp lo hi) : RDF G f f rd r p q ab gv us pl ir lf ng cp lo hi := ⟨h, fun _ _ _ _ => rfl⟩
theorem RDF.setObj (h : RDF G f0 f rd r p q ab gv us pl ir lf ng cp lo hi) (ab gv us pl : Int32) (ir : Bool) (lf : Int32) (ng : Bool) (cp : Int32) : RDF G f0 (va_up f rd (some (.inr (1, [.int ab, .int gv, .int us, .ref r, .int pl, .int (bI ir), .int lf, .int (bI ng), .int cp])))) rd r p q ab gv us pl ir lf ng cp lo hi :=
  ⟨⟨va_up_self _ _ _, (va_up_ne _ _ (ne_oo h.1.2.1 h.1.1 (by show (2 : Nat) ≠ 1; decide))).trans h.1.2.1, (va_up_ne _ _ (ne_oi h.1.1 h.1.2.2.1).symm).trans h.1.2.2.1, (va_up_ne _ _ (ne_oi h.1.1 h.1.2.2.2.1).symm).trans h.1.2.2.2.1, h.1.2.2.2.2⟩, fun b h1 h2 h3 => (va_up_ne _ _ h1).trans (h.2 b h1 h2 h3)⟩
theorem RDF.keepLo {f1 : mE} {T : Nat → Int32} (h : RDF G f0 f rd r p q ab gv us pl ir lf ng cp lo hi) (h1 : f1 p = some (mI G 7 T)) (h2 : ∀ b, b ≠ p → f1 b = f b) : RDF G f0 f1 rd r p q ab gv us pl ir lf ng cp T hi :=
  ⟨⟨(h2 _ (ne_oi h.1.1 h.1.2.2.1)).trans h.1.1, (h2 _ (ne_oi h.1.2.1 h.1.2.2.1)).trans h.1.2.1, h1, (h2 _ (Ne.symm h.1.2.2.2.2)).trans h.1.2.2.2.1, h.1.2.2.2.2⟩, fun b g1 g2 g3 => (h2 b g2).trans (h.2 b g1 g2 g3)⟩
theorem RDF.keepHi {f1 : mE} {T : Nat → Int32} (h : RDF G f0 f rd r p q ab gv us pl ir lf ng cp lo hi) (h1 : f1 q = some (mI G 7 T)) (h2 : ∀ b, b ≠ q → f1 b = f b) : RDF G f0 f1 rd r p q ab gv us pl ir lf ng cp lo T :=
  ⟨⟨(h2 _ (ne_oi h.1.1 h.1.2.2.2.1)).trans h.1.1, (h2 _ (ne_oi h.1.2.1 h.1.2.2.2.1)).trans h.1.2.1, (h2 _ h.1.2.2.2.2).trans h.1.2.2.1, h1, h.1.2.2.2.2⟩, fun b g1 g2 g3 => (h2 b g3).trans (h.2 b g1 g2 g3)⟩
theorem RDF.keep2 {f1 : mE} {T U : Nat → Int32} (h : RDF G f0 f rd r p q ab gv us pl ir lf ng cp lo hi) (h1 : f1 p = some (mI G 7 T)) (h1' : f1 q = some (mI G 7 U)) (h2 : ∀ b, b ≠ p → b ≠ q → f1 b = f b) : RDF G f0 f1 rd r p q ab gv us pl ir lf ng cp T U :=
  ⟨⟨(h2 _ (ne_oi h.1.1 h.1.2.2.1) (ne_oi h.1.1 h.1.2.2.2.1)).trans h.1.1, (h2 _ (ne_oi h.1.2.1 h.1.2.2.1) (ne_oi h.1.2.1 h.1.2.2.2.1)).trans h.1.2.1, h1, h1', h.1.2.2.2.2⟩, fun b g1 g2 g3 => (h2 b g2 g3).trans (h.2 b g1 g2 g3)⟩
theorem RDF.trans {f1 : mE} {ab1 gv1 us1 pl1 lf1 cp1 : Int32} {ir1 ng1 : Bool} {lo1 hi1 : Nat → Int32} (h : RDF G f0 f rd r p q ab gv us pl ir lf ng cp lo hi) (h2 : RDF G f f1 rd r p q ab1 gv1 us1 pl1 ir1 lf1 ng1 cp1 lo1 hi1) : RDF G f0 f1 rd r p q ab1 gv1 us1 pl1 ir1 lf1 ng1 cp1 lo1 hi1 :=
  ⟨h2.1, fun b g1 g2 g3 => (h2.2 b g1 g2 g3).trans (h.2 b g1 g2 g3)⟩
theorem RDF.cv {ab1 gv1 us1 pl1 lf1 cp1 : Int32} {ir1 ng1 : Bool} {lo1 hi1 : Nat → Int32} (h : RDF G f0 f rd r p q ab gv us pl ir lf ng cp lo hi) (e1 : ab = ab1) (e2 : gv = gv1) (e3 : us = us1) (e4 : pl = pl1) (e5 : ir = ir1) (e6 : lf = lf1) (e7 : ng = ng1) (e8 : cp = cp1) (e9 : lo = lo1) (e10 : hi = hi1) : RDF G f0 f rd r p q ab1 gv1 us1 pl1 ir1 lf1 ng1 cp1 lo1 hi1 := by
  subst e1; subst e2; subst e3; subst e4; subst e5; subst e6; subst e7; subst e8; subst e9; subst e10; exact h
end RDS
def afrV (x : Int32) : Int32 := if inB x 22 25 = true then nI 8 else -1
def afrA (x ab : Int32) : Int32 := if inB x 22 25 = true then x - nI 22 else ab
def affV (x : Int32) : Int32 := if x = 0 then nI 2 else if inB x 16 21 = true then nI 1 else afrV x
def affA (x ab : Int32) : Int32 := if x = 0 then ab else if inB x 16 21 = true then nI 10 + x - nI 16 else afrA x ab
def affI (x : Int32) (ir : Bool) : Bool := if x = 0 then ir else if inB x 16 21 = true then false else ir
def afsV (x : Int32) : Int32 := if inB x 16 21 = true then nI 6 else if inB x 10 15 = true then nI 3 else -1
def afsU (x us : Int32) : Int32 := if inB x 16 21 = true then us ||| (nI 1 <<< ((x - nI 16) &&& 31)) else us
def afsL (x lf : Int32) : Int32 := if inB x 16 21 = true then lf else if inB x 10 15 = true then x - nI 10 else lf
def afsN (x : Int32) (ng : Bool) : Bool := if inB x 16 21 = true then ng else if inB x 10 15 = true then false else ng
def afoV (x : Int32) : Int32 := if x = nI 5 then nI 5 else if x = nI 6 then nI 5 else -1
def afoC (x cp : Int32) : Int32 := if x = nI 5 then x else if x = nI 6 then x else cp
def afcV (x : Int32) : Int32 := if x = nI 4 then nI 5 else if x = nI 7 then nI 4 else afoV x
def afcC (x cp : Int32) : Int32 := if x = nI 4 then nI 4 else if x = nI 7 then cp else afoC x cp
def afcN (x : Int32) (ng : Bool) : Bool := if x = nI 4 then ng else if x = nI 7 then true else ng
def kovV (lf : Int32) : Int32 := if nI 4 ≤ lf then nI 2 else nI 1
def afvLo (cp : Int32) (ng : Bool) (t : Nat) (x : Int32) (lo : Nat → Int32) : Nat → Int32 := if cp = nI 4 then upd lo t (mx (lo t) x) else if cp = nI 5 then (if ng = true then lo else upd lo t (mx (lo t) (x + nI 1))) else (if ng = true then upd lo t (mx (lo t) x) else lo)
def afvHi (cp : Int32) (ng : Bool) (t : Nat) (x : Int32) (hi : Nat → Int32) : Nat → Int32 := if cp = nI 4 then upd hi t (mn (hi t) x) else if cp = nI 5 then (if ng = true then upd hi t (mn (hi t) x) else hi) else (if ng = true then hi else upd hi t (mn (hi t) (x - nI 1)))
def afeV (ir : Bool) (x : Int32) : Int32 := if x = nI 1 then nI 2 else if x = nI 2 then (if ir = true then nI 7 else -1) else -1
def afuV (x : Int32) : Int32 := if x = nI 9 then nI 13 else -1
set_option maxHeartbeats 4000000 in
set_option maxRecDepth 100000 in
theorem c0_afterResult (l : Launch) (G : mG) {f : mE} {rd r p q : Nat} {ab gv us pl lf cp : Int32} {ir ng : Bool} {lo hi : Nat → Int32} (hR : RD G f rd r p q ab gv us pl ir lf ng cp lo hi) (x : Int32) : mC l G yX0_afterResult wsX0_afterResult ({ frames := 1, cells := 0, slots := 0, locals := 22 } : Room) f [.ref rd, .int x] (fun v f1 => v = some (.int (afrV x)) ∧ RDF G f f1 rd r p q (afrA x ab) gv us pl ir lf ng cp lo hi) 0 0 := by
  refine mC.of (cc := cX0_afterResult) (maxL := 2) (ret := (some .int)) (by decide) rfl (Nat.le_of_ble_eq_true rfl) ?_
  intro pgm env s mt args below meth c A ls hx hb hml hr hlocks hown hname hts hK hE hA hM hl
  have hl : lv_has ls 2 [(0, .ref rd), (1, .int x)] := hl
  have hD := hR.start
  refine lv_bipush (v := (nI 22)) hx hb dX0_afterResult_0 (by decide +kernel) ?_
  refine lv_iload_n hx hb dX0_afterResult_2 rfl (lv_at hl 1 rfl) ?_
  refine lv_bipush (v := (nI 25)) hx hb dX0_afterResult_3 (by decide +kernel) ?_
  refine mm_SN (As := [.int (nI 22), .int x, .int (nI 25)]) (rest := []) ⟨hx, hb, hml, hown, hts⟩ (c5_isBetween l G _ (nI 22) x (nI 25)) ⟨va_cnB 3 hts gX0_afterResult_X5_isBetween_n100 rfl rfl rfl (hE.1.1 _ (List.mem_of_getElem? (i := 5) rfl)) (hts (.initialized RX5) (List.mem_of_getElem? (i := 3) rfl)) (by decide +kernel) ⟨Nat.le_of_ble_eq_true rfl, Nat.le_of_ble_eq_true rfl⟩, (hts (.static yX5_isBetween) (List.mem_of_getElem? (i := 2) rfl)), trivial⟩ hK hE hA hM rfl hl.1 rfl (Nat.le_of_ble_eq_true rfl) dX0_afterResult_5 ⟨Nat.le_of_ble_eq_true rfl, Nat.le_of_ble_eq_true rfl⟩ (fun v f1 Hp lcs hp hM => ?_)
  obtain ⟨rfl, hf⟩ := hp; subst hf
  refine mv_top (y := (bI (inB x 22 25))) rfl ?_
  refine lvb_ne (tgt := 13) hx hb dX0_afterResult_8 (by decide) (fun cz1 => ?_) (fun cz1 => ?_)
  · refine lv_aload_n hx hb dX0_afterResult_13 rfl (lv_at hl 0 rfl) ?_
    refine lv_iload_n hx hb dX0_afterResult_14 rfl (lv_at hl 1 rfl) ?_
    refine lv_bipush (v := (nI 22)) hx hb dX0_afterResult_15 (by decide +kernel) ?_
    refine lv_isub hx hb dX0_afterResult_17 ?_
    refine mm_put (C := RX0) (T := TX0) (N := 9) (k := 0) hx hb hts (fun _ h => List.mem_cons_of_mem _ (List.mem_append_right _ h)) tyX0 tyX0_ok nmX0 hown hK hM (hD.1.1) rfl (by decide) (hts (.fieldLink RX0 46 "SentenceRules$Reader" "about" "I") (List.mem_of_getElem? (i := 1) rfl)) rfl rfl rfl rfl (Nat.le_of_ble_eq_true rfl) dX0_afterResult_18 (fun Hp lcs hM => ?_)
    have hD := hD.setObj (x - (nI 22)) gv us pl ir lf ng cp
    refine lv_bipush (v := (nI 8)) hx hb dX0_afterResult_21 (by decide +kernel) ?_
    exact mm_iret hx hb hlocks hr (Nat.le_of_ble_eq_true rfl) (Nat.le_of_ble_eq_true rfl) hM (⟨(congrArg (fun z => some (Value.int z)) (by first | rfl | (simp [afrV, afrA, cz1]; done) | (simp_all [afrV, afrA, cz1]; done))), hD.cv (by first | rfl | (simp [afrV, afrA, cz1]; done) | (simp_all [afrV, afrA, cz1]; done)) rfl rfl rfl rfl rfl rfl rfl rfl rfl⟩) dX0_afterResult_23
  refine lv_iconst (v := (-1)) hx hb dX0_afterResult_11 (by decide +kernel) ?_
  exact mm_iret hx hb hlocks hr (Nat.le_of_ble_eq_true rfl) (Nat.le_of_ble_eq_true rfl) hM (⟨(congrArg (fun z => some (Value.int z)) (by first | rfl | (simp [afrV, afrA, cz1]; done) | (simp_all [afrV, afrA, cz1]; done))), hD.cv (by first | rfl | (simp [afrV, afrA, cz1]; done) | (simp_all [afrV, afrA, cz1]; done)) rfl rfl rfl rfl rfl rfl rfl rfl rfl⟩) dX0_afterResult_12
set_option maxHeartbeats 4000000 in
set_option maxRecDepth 100000 in
theorem c0_afterFirst (l : Launch) (G : mG) {f : mE} {rd r p q : Nat} {ab gv us pl lf cp : Int32} {ir ng : Bool} {lo hi : Nat → Int32} (hR : RD G f rd r p q ab gv us pl ir lf ng cp lo hi) (x : Int32) : mC l G yX0_afterFirst wsX0_afterFirst ({ frames := 2, cells := 0, slots := 0, locals := 43 } : Room) f [.ref rd, .int x] (fun v f1 => v = some (.int (affV x)) ∧ RDF G f f1 rd r p q (affA x ab) gv us pl (affI x ir) lf ng cp lo hi) 0 0 := by
  refine mC.of (cc := cX0_afterFirst) (maxL := 2) (ret := (some .int)) (by decide) rfl (Nat.le_of_ble_eq_true rfl) ?_
  intro pgm env s mt args below meth c A ls hx hb hml hr hlocks hown hname hts hK hE hA hM hl
  have hl : lv_has ls 2 [(0, .ref rd), (1, .int x)] := hl
  have hD := hR.start
  refine lv_iload_n hx hb dX0_afterFirst_0 rfl (lv_at hl 1 rfl) ?_
  refine lv_if_ne (tgt := 6) hx hb dX0_afterFirst_1 (by decide) (fun cz1 => ?_) (fun cz1 => ?_)
  · refine lv_bipush (v := (nI 16)) hx hb dX0_afterFirst_6 (by decide +kernel) ?_
    refine lv_iload_n hx hb dX0_afterFirst_8 rfl (lv_at hl 1 rfl) ?_
    refine lv_bipush (v := (nI 21)) hx hb dX0_afterFirst_9 (by decide +kernel) ?_
    refine mm_SN (As := [.int (nI 16), .int x, .int (nI 21)]) (rest := []) ⟨hx, hb, hml, hown, hts⟩ (c5_isBetween l G _ (nI 16) x (nI 21)) ⟨va_cnB 3 hts gX0_afterFirst_X5_isBetween_n100 rfl rfl rfl (hE.1.1 _ (List.mem_of_getElem? (i := 5) rfl)) (hts (.initialized RX5) (List.mem_of_getElem? (i := 4) rfl)) (by decide +kernel) ⟨Nat.le_of_ble_eq_true rfl, Nat.le_of_ble_eq_true rfl⟩, (hts (.static yX5_isBetween) (List.mem_of_getElem? (i := 3) rfl)), trivial⟩ hK hE hA hM rfl hl.1 rfl (Nat.le_of_ble_eq_true rfl) dX0_afterFirst_11 ⟨Nat.le_of_ble_eq_true rfl, Nat.le_of_ble_eq_true rfl⟩ (fun v f1 Hp lcs hp hM => ?_)
    obtain ⟨rfl, hf⟩ := hp; subst hf
    refine mv_top (y := (bI (inB x 16 21))) rfl ?_
    refine lvb_eq (tgt := 35) hx hb dX0_afterFirst_14 (by decide) (fun cz2 => ?_) (fun cz2 => ?_)
    · refine lv_aload_n hx hb dX0_afterFirst_35 rfl (lv_at hl 0 rfl) ?_
      refine lv_iload_n hx hb dX0_afterFirst_36 rfl (lv_at hl 1 rfl) ?_
      refine mm_V (As := [.int x]) (rest := []) ⟨hx, hb, hml, hown, hts⟩ (c0_afterResult l G hD.1 x) (cwV 1 hts gX0_afterFirst_X0_afterResult rfl rfl rfl (by decide +kernel) ⟨Nat.le_of_ble_eq_true rfl, Nat.le_of_ble_eq_true rfl⟩) hK hE hA hM (mm_recv hK hM (hD.1.1) (q := (RX0, TX0, 9)) rfl) rfl hl.1 rfl (Nat.le_of_ble_eq_true rfl) dX0_afterFirst_37 ⟨Nat.le_of_ble_eq_true rfl, Nat.le_of_ble_eq_true rfl⟩ (fun v gz3 Hp lcs hp hM => ?_)
      obtain ⟨rfl, hp1⟩ := hp
      have hD := hD.trans hp1
      exact mm_iret hx hb hlocks hr (Nat.le_of_ble_eq_true rfl) (Nat.le_of_ble_eq_true rfl) hM (⟨(congrArg (fun z => some (Value.int z)) (by first | rfl | (simp [affV, affA, affI, cz1, cz2]; done) | (simp_all [affV, affA, affI, cz1, cz2]; done))), hD.cv (by first | rfl | (simp [affV, affA, affI, cz1, cz2]; done) | (simp_all [affV, affA, affI, cz1, cz2]; done)) rfl rfl rfl (by first | rfl | (simp [affV, affA, affI, cz1, cz2]; done) | (simp_all [affV, affA, affI, cz1, cz2]; done)) rfl rfl rfl rfl rfl⟩) dX0_afterFirst_40
    refine lv_aload_n hx hb dX0_afterFirst_17 rfl (lv_at hl 0 rfl) ?_
    refine lv_iconst (v := (nI 0)) hx hb dX0_afterFirst_18 (by decide +kernel) ?_
    refine mm_put (C := RX0) (T := TX0) (N := 9) (k := 5) hx hb hts (fun _ h => List.mem_cons_of_mem _ (List.mem_append_right _ h)) tyX0 tyX0_ok nmX0 hown hK hM (hD.1.1) rfl (by decide) (hts (.fieldLink RX0 58 "SentenceRules$Reader" "inRule" "Z") (List.mem_of_getElem? (i := 1) rfl)) rfl rfl (by first | rfl | exact bI_nar _) (by first | rfl | exact bI_fit _) (Nat.le_of_ble_eq_true rfl) dX0_afterFirst_19 (fun Hp lcs hM => ?_)
    have hD := hD.setObj ab gv us pl false lf ng cp
    refine lv_aload_n hx hb dX0_afterFirst_22 rfl (lv_at hl 0 rfl) ?_
    refine lv_bipush (v := (nI 10)) hx hb dX0_afterFirst_23 (by decide +kernel) ?_
    refine lv_iload_n hx hb dX0_afterFirst_25 rfl (lv_at hl 1 rfl) ?_
    refine lv_iadd hx hb dX0_afterFirst_26 ?_
    refine lv_bipush (v := (nI 16)) hx hb dX0_afterFirst_27 (by decide +kernel) ?_
    refine lv_isub hx hb dX0_afterFirst_29 ?_
    refine mm_put (C := RX0) (T := TX0) (N := 9) (k := 0) hx hb hts (fun _ h => List.mem_cons_of_mem _ (List.mem_append_right _ h)) tyX0 tyX0_ok nmX0 hown hK hM (hD.1.1) rfl (by decide) (hts (.fieldLink RX0 46 "SentenceRules$Reader" "about" "I") (List.mem_of_getElem? (i := 2) rfl)) rfl rfl rfl rfl (Nat.le_of_ble_eq_true rfl) dX0_afterFirst_30 (fun Hp lcs hM => ?_)
    have hD := hD.setObj (((nI 10) + x) - (nI 16)) gv us pl false lf ng cp
    refine lv_iconst (v := (nI 1)) hx hb dX0_afterFirst_33 (by decide +kernel) ?_
    exact mm_iret hx hb hlocks hr (Nat.le_of_ble_eq_true rfl) (Nat.le_of_ble_eq_true rfl) hM (⟨(congrArg (fun z => some (Value.int z)) (by first | rfl | (simp [affV, affA, affI, cz1, cz2]; done) | (simp_all [affV, affA, affI, cz1, cz2]; done))), hD.cv (by first | rfl | (simp [affV, affA, affI, cz1, cz2]; done) | (simp_all [affV, affA, affI, cz1, cz2]; done)) rfl rfl rfl (by first | rfl | (simp [affV, affA, affI, cz1, cz2]; done) | (simp_all [affV, affA, affI, cz1, cz2]; done)) rfl rfl rfl rfl rfl⟩) dX0_afterFirst_34
  refine lv_iconst (v := (nI 2)) hx hb dX0_afterFirst_4 (by decide +kernel) ?_
  exact mm_iret hx hb hlocks hr (Nat.le_of_ble_eq_true rfl) (Nat.le_of_ble_eq_true rfl) hM (⟨(congrArg (fun z => some (Value.int z)) (by first | rfl | (simp [affV, affA, affI, cz1]; done) | (simp_all [affV, affA, affI, cz1]; done))), hD.cv (by first | rfl | (simp [affV, affA, affI, cz1]; done) | (simp_all [affV, affA, affI, cz1]; done)) rfl rfl rfl (by first | rfl | (simp [affV, affA, affI, cz1]; done) | (simp_all [affV, affA, affI, cz1]; done)) rfl rfl rfl rfl rfl⟩) dX0_afterFirst_5
set_option maxHeartbeats 4000000 in
set_option maxRecDepth 100000 in
theorem c0_afterSubject (l : Launch) (G : mG) {f : mE} {rd r p q : Nat} {ab gv us pl lf cp : Int32} {ir ng : Bool} {lo hi : Nat → Int32} (hR : RD G f rd r p q ab gv us pl ir lf ng cp lo hi) (x : Int32) : mC l G yX0_afterSubject wsX0_afterSubject ({ frames := 1, cells := 0, slots := 0, locals := 22 } : Room) f [.ref rd, .int x] (fun v f1 => v = some (.int (afsV x)) ∧ RDF G f f1 rd r p q ab gv (afsU x us) pl ir (afsL x lf) (afsN x ng) cp lo hi) 0 0 := by
  refine mC.of (cc := cX0_afterSubject) (maxL := 2) (ret := (some .int)) (by decide) rfl (Nat.le_of_ble_eq_true rfl) ?_
  intro pgm env s mt args below meth c A ls hx hb hml hr hlocks hown hname hts hK hE hA hM hl
  have hl : lv_has ls 2 [(0, .ref rd), (1, .int x)] := hl
  have hD := hR.start
  refine lv_bipush (v := (nI 16)) hx hb dX0_afterSubject_0 (by decide +kernel) ?_
  refine lv_iload_n hx hb dX0_afterSubject_2 rfl (lv_at hl 1 rfl) ?_
  refine lv_bipush (v := (nI 21)) hx hb dX0_afterSubject_3 (by decide +kernel) ?_
  refine mm_SN (As := [.int (nI 16), .int x, .int (nI 21)]) (rest := []) ⟨hx, hb, hml, hown, hts⟩ (c5_isBetween l G _ (nI 16) x (nI 21)) ⟨va_cnB 3 hts gX0_afterSubject_X5_isBetween_n100 rfl rfl rfl (hE.1.1 _ (List.mem_of_getElem? (i := 5) rfl)) (hts (.initialized RX5) (List.mem_of_getElem? (i := 5) rfl)) (by decide +kernel) ⟨Nat.le_of_ble_eq_true rfl, Nat.le_of_ble_eq_true rfl⟩, (hts (.static yX5_isBetween) (List.mem_of_getElem? (i := 4) rfl)), trivial⟩ hK hE hA hM rfl hl.1 rfl (Nat.le_of_ble_eq_true rfl) dX0_afterSubject_5 ⟨Nat.le_of_ble_eq_true rfl, Nat.le_of_ble_eq_true rfl⟩ (fun v f1 Hp lcs hp hM => ?_)
  obtain ⟨rfl, hf⟩ := hp; subst hf
  refine mv_top (y := (bI (inB x 16 21))) rfl ?_
  refine lvb_eq (tgt := 29) hx hb dX0_afterSubject_8 (by decide) (fun cz1 => ?_) (fun cz1 => ?_)
  · refine lv_bipush (v := (nI 10)) hx hb dX0_afterSubject_29 (by decide +kernel) ?_
    refine lv_iload_n hx hb dX0_afterSubject_31 rfl (lv_at hl 1 rfl) ?_
    refine lv_bipush (v := (nI 15)) hx hb dX0_afterSubject_32 (by decide +kernel) ?_
    refine mm_SN (As := [.int (nI 10), .int x, .int (nI 15)]) (rest := []) ⟨hx, hb, hml, hown, hts⟩ (c5_isBetween l G _ (nI 10) x (nI 15)) ⟨va_cnB 3 hts gX0_afterSubject_X5_isBetween_n100 rfl rfl rfl (hE.1.1 _ (List.mem_of_getElem? (i := 5) rfl)) (hts (.initialized RX5) (List.mem_of_getElem? (i := 5) rfl)) (by decide +kernel) ⟨Nat.le_of_ble_eq_true rfl, Nat.le_of_ble_eq_true rfl⟩, (hts (.static yX5_isBetween) (List.mem_of_getElem? (i := 4) rfl)), trivial⟩ hK hE hA hM rfl hl.1 rfl (Nat.le_of_ble_eq_true rfl) dX0_afterSubject_34 ⟨Nat.le_of_ble_eq_true rfl, Nat.le_of_ble_eq_true rfl⟩ (fun v f1 Hp lcs hp hM => ?_)
    obtain ⟨rfl, hf⟩ := hp; subst hf
    refine mv_top (y := (bI (inB x 10 15))) rfl ?_
    refine lvb_eq (tgt := 55) hx hb dX0_afterSubject_37 (by decide) (fun cz2 => ?_) (fun cz2 => ?_)
    · refine lv_iconst (v := (-1)) hx hb dX0_afterSubject_55 (by decide +kernel) ?_
      exact mm_iret hx hb hlocks hr (Nat.le_of_ble_eq_true rfl) (Nat.le_of_ble_eq_true rfl) hM (⟨(congrArg (fun z => some (Value.int z)) (by first | rfl | (simp [afsV, afsU, afsL, afsN, cz1, cz2]; done) | (simp_all [afsV, afsU, afsL, afsN, cz1, cz2]; done))), hD.cv rfl rfl (by first | rfl | (simp [afsV, afsU, afsL, afsN, cz1, cz2]; done) | (simp_all [afsV, afsU, afsL, afsN, cz1, cz2]; done)) rfl rfl (by first | rfl | (simp [afsV, afsU, afsL, afsN, cz1, cz2]; done) | (simp_all [afsV, afsU, afsL, afsN, cz1, cz2]; done)) (by first | rfl | (simp [afsV, afsU, afsL, afsN, cz1, cz2]; done) | (simp_all [afsV, afsU, afsL, afsN, cz1, cz2]; done)) rfl rfl rfl⟩) dX0_afterSubject_56
    refine lv_aload_n hx hb dX0_afterSubject_40 rfl (lv_at hl 0 rfl) ?_
    refine lv_iload_n hx hb dX0_afterSubject_41 rfl (lv_at hl 1 rfl) ?_
    refine lv_bipush (v := (nI 10)) hx hb dX0_afterSubject_42 (by decide +kernel) ?_
    refine lv_isub hx hb dX0_afterSubject_44 ?_
    refine mm_put (C := RX0) (T := TX0) (N := 9) (k := 6) hx hb hts (fun _ h => List.mem_cons_of_mem _ (List.mem_append_right _ h)) tyX0 tyX0_ok nmX0 hown hK hM (hD.1.1) rfl (by decide) (hts (.fieldLink RX0 104 "SentenceRules$Reader" "limitedFact" "I") (List.mem_of_getElem? (i := 2) rfl)) rfl rfl rfl rfl (Nat.le_of_ble_eq_true rfl) dX0_afterSubject_45 (fun Hp lcs hM => ?_)
    have hD := hD.setObj ab gv us pl ir (x - (nI 10)) ng cp
    refine lv_aload_n hx hb dX0_afterSubject_48 rfl (lv_at hl 0 rfl) ?_
    refine lv_iconst (v := (nI 0)) hx hb dX0_afterSubject_49 (by decide +kernel) ?_
    refine mm_put (C := RX0) (T := TX0) (N := 9) (k := 7) hx hb hts (fun _ h => List.mem_cons_of_mem _ (List.mem_append_right _ h)) tyX0 tyX0_ok nmX0 hown hK hM (hD.1.1) rfl (by decide) (hts (.fieldLink RX0 107 "SentenceRules$Reader" "negated" "Z") (List.mem_of_getElem? (i := 3) rfl)) rfl rfl (by first | rfl | exact bI_nar _) (by first | rfl | exact bI_fit _) (Nat.le_of_ble_eq_true rfl) dX0_afterSubject_50 (fun Hp lcs hM => ?_)
    have hD := hD.setObj ab gv us pl ir (x - (nI 10)) false cp
    refine lv_iconst (v := (nI 3)) hx hb dX0_afterSubject_53 (by decide +kernel) ?_
    exact mm_iret hx hb hlocks hr (Nat.le_of_ble_eq_true rfl) (Nat.le_of_ble_eq_true rfl) hM (⟨(congrArg (fun z => some (Value.int z)) (by first | rfl | (simp [afsV, afsU, afsL, afsN, cz1, cz2]; done) | (simp_all [afsV, afsU, afsL, afsN, cz1, cz2]; done))), hD.cv rfl rfl (by first | rfl | (simp [afsV, afsU, afsL, afsN, cz1, cz2]; done) | (simp_all [afsV, afsU, afsL, afsN, cz1, cz2]; done)) rfl rfl (by first | rfl | (simp [afsV, afsU, afsL, afsN, cz1, cz2]; done) | (simp_all [afsV, afsU, afsL, afsN, cz1, cz2]; done)) (by first | rfl | (simp [afsV, afsU, afsL, afsN, cz1, cz2]; done) | (simp_all [afsV, afsU, afsL, afsN, cz1, cz2]; done)) rfl rfl rfl⟩) dX0_afterSubject_54
  refine lv_aload_n hx hb dX0_afterSubject_11 rfl (lv_at hl 0 rfl) ?_
  refine lv_dup hx hb dX0_afterSubject_12 rfl ?_
  refine mm_get (C := RX0) (T := TX0) (N := 9) (k := 2) hx hb hts (fun _ h => List.mem_cons_of_mem _ (List.mem_append_right _ h)) hown hK hM (hD.1.1) rfl (by decide) (hts (.fieldLink RX0 52 "SentenceRules$Reader" "used" "I") (List.mem_of_getElem? (i := 1) rfl)) rfl rfl dX0_afterSubject_13 ?_
  refine lv_iconst (v := (nI 1)) hx hb dX0_afterSubject_16 (by decide +kernel) ?_
  refine lv_iload_n hx hb dX0_afterSubject_17 rfl (lv_at hl 1 rfl) ?_
  refine lv_bipush (v := (nI 16)) hx hb dX0_afterSubject_18 (by decide +kernel) ?_
  refine lv_isub hx hb dX0_afterSubject_20 ?_
  refine lv_ishl hx hb dX0_afterSubject_21 ?_
  refine lv_ior hx hb dX0_afterSubject_22 ?_
  refine mm_put (C := RX0) (T := TX0) (N := 9) (k := 2) hx hb hts (fun _ h => List.mem_cons_of_mem _ (List.mem_append_right _ h)) tyX0 tyX0_ok nmX0 hown hK hM (hD.1.1) rfl (by decide) (hts (.fieldLink RX0 52 "SentenceRules$Reader" "used" "I") (List.mem_of_getElem? (i := 1) rfl)) rfl rfl rfl rfl (Nat.le_of_ble_eq_true rfl) dX0_afterSubject_23 (fun Hp lcs hM => ?_)
  have hD := hD.setObj ab gv (us ||| ((nI 1) <<< ((x - (nI 16)) &&& 31))) pl ir lf ng cp
  refine lv_bipush (v := (nI 6)) hx hb dX0_afterSubject_26 (by decide +kernel) ?_
  exact mm_iret hx hb hlocks hr (Nat.le_of_ble_eq_true rfl) (Nat.le_of_ble_eq_true rfl) hM (⟨(congrArg (fun z => some (Value.int z)) (by first | rfl | (simp [afsV, afsU, afsL, afsN, cz1]; done) | (simp_all [afsV, afsU, afsL, afsN, cz1]; done))), hD.cv rfl rfl (by first | rfl | (simp [afsV, afsU, afsL, afsN, cz1]; done) | (simp_all [afsV, afsU, afsL, afsN, cz1]; done)) rfl rfl (by first | rfl | (simp [afsV, afsU, afsL, afsN, cz1]; done) | (simp_all [afsV, afsU, afsL, afsN, cz1]; done)) (by first | rfl | (simp [afsV, afsU, afsL, afsN, cz1]; done) | (simp_all [afsV, afsU, afsL, afsN, cz1]; done)) rfl rfl rfl⟩) dX0_afterSubject_28
set_option maxHeartbeats 4000000 in
set_option maxRecDepth 100000 in
theorem c0_afterOverOrUnder (l : Launch) (G : mG) {f : mE} {rd r p q : Nat} {ab gv us pl lf cp : Int32} {ir ng : Bool} {lo hi : Nat → Int32} (hR : RD G f rd r p q ab gv us pl ir lf ng cp lo hi) (x : Int32) : mC l G yX0_afterOverOrUnder wsX0_afterOverOrUnder ({ frames := 0, cells := 0, slots := 0, locals := 0 } : Room) f [.ref rd, .int x] (fun v f1 => v = some (.int (afoV x)) ∧ RDF G f f1 rd r p q ab gv us pl ir lf ng (afoC x cp) lo hi) 0 0 := by
  refine mC.of (cc := cX0_afterOverOrUnder) (maxL := 2) (ret := (some .int)) (by decide) rfl (Nat.le_of_ble_eq_true rfl) ?_
  intro pgm env s mt args below meth c A ls hx hb hml hr hlocks hown hname hts hK hE hA hM hl
  have hl : lv_has ls 2 [(0, .ref rd), (1, .int x)] := hl
  have hD := hR.start
  refine lv_iload_n hx hb dX0_afterOverOrUnder_0 rfl (lv_at hl 1 rfl) ?_
  refine lv_iconst (v := (nI 5)) hx hb dX0_afterOverOrUnder_1 (by decide +kernel) ?_
  refine lv_icmp_eq (tgt := 13) hx hb dX0_afterOverOrUnder_2 (by decide) (fun cz1 => ?_) (fun cz1 => ?_)
  · refine lv_aload_n hx hb dX0_afterOverOrUnder_13 rfl (lv_at hl 0 rfl) ?_
    refine lv_iload_n hx hb dX0_afterOverOrUnder_14 rfl (lv_at hl 1 rfl) ?_
    refine mm_put (C := RX0) (T := TX0) (N := 9) (k := 8) hx hb hts (fun _ h => List.mem_cons_of_mem _ (List.mem_append_right _ h)) tyX0 tyX0_ok nmX0 hown hK hM (hD.1.1) rfl (by decide) (hts (.fieldLink RX0 110 "SentenceRules$Reader" "comparison" "I") (List.mem_of_getElem? (i := 1) rfl)) rfl rfl rfl rfl (Nat.le_of_ble_eq_true rfl) dX0_afterOverOrUnder_15 (fun Hp lcs hM => ?_)
    have hD := hD.setObj ab gv us pl ir lf ng x
    refine lv_iconst (v := (nI 5)) hx hb dX0_afterOverOrUnder_18 (by decide +kernel) ?_
    exact mm_iret hx hb hlocks hr (Nat.le_of_ble_eq_true rfl) (Nat.le_of_ble_eq_true rfl) hM (⟨(congrArg (fun z => some (Value.int z)) (by first | rfl | (simp [afoV, afoC, cz1]; done) | (simp_all [afoV, afoC, cz1]; done))), hD.cv rfl rfl rfl rfl rfl rfl rfl (by first | rfl | (simp [afoV, afoC, cz1]; done) | (simp_all [afoV, afoC, cz1]; done)) rfl rfl⟩) dX0_afterOverOrUnder_19
  refine lv_iload_n hx hb dX0_afterOverOrUnder_5 rfl (lv_at hl 1 rfl) ?_
  refine lv_bipush (v := (nI 6)) hx hb dX0_afterOverOrUnder_6 (by decide +kernel) ?_
  refine lv_icmp_eq (tgt := 13) hx hb dX0_afterOverOrUnder_8 (by decide) (fun cz2 => ?_) (fun cz2 => ?_)
  · refine lv_aload_n hx hb dX0_afterOverOrUnder_13 rfl (lv_at hl 0 rfl) ?_
    refine lv_iload_n hx hb dX0_afterOverOrUnder_14 rfl (lv_at hl 1 rfl) ?_
    refine mm_put (C := RX0) (T := TX0) (N := 9) (k := 8) hx hb hts (fun _ h => List.mem_cons_of_mem _ (List.mem_append_right _ h)) tyX0 tyX0_ok nmX0 hown hK hM (hD.1.1) rfl (by decide) (hts (.fieldLink RX0 110 "SentenceRules$Reader" "comparison" "I") (List.mem_of_getElem? (i := 1) rfl)) rfl rfl rfl rfl (Nat.le_of_ble_eq_true rfl) dX0_afterOverOrUnder_15 (fun Hp lcs hM => ?_)
    have hD := hD.setObj ab gv us pl ir lf ng x
    refine lv_iconst (v := (nI 5)) hx hb dX0_afterOverOrUnder_18 (by decide +kernel) ?_
    exact mm_iret hx hb hlocks hr (Nat.le_of_ble_eq_true rfl) (Nat.le_of_ble_eq_true rfl) hM (⟨(congrArg (fun z => some (Value.int z)) (by first | rfl | (simp [afoV, afoC, cz1, cz2]; done) | (simp_all [afoV, afoC, cz1, cz2]; done))), hD.cv rfl rfl rfl rfl rfl rfl rfl (by first | rfl | (simp [afoV, afoC, cz1, cz2]; done) | (simp_all [afoV, afoC, cz1, cz2]; done)) rfl rfl⟩) dX0_afterOverOrUnder_19
  refine lv_iconst (v := (-1)) hx hb dX0_afterOverOrUnder_11 (by decide +kernel) ?_
  exact mm_iret hx hb hlocks hr (Nat.le_of_ble_eq_true rfl) (Nat.le_of_ble_eq_true rfl) hM (⟨(congrArg (fun z => some (Value.int z)) (by first | rfl | (simp [afoV, afoC, cz1, cz2]; done) | (simp_all [afoV, afoC, cz1, cz2]; done))), hD.cv rfl rfl rfl rfl rfl rfl rfl (by first | rfl | (simp [afoV, afoC, cz1, cz2]; done) | (simp_all [afoV, afoC, cz1, cz2]; done)) rfl rfl⟩) dX0_afterOverOrUnder_12
set_option maxHeartbeats 4000000 in
set_option maxRecDepth 100000 in
theorem c0_afterComparison (l : Launch) (G : mG) {f : mE} {rd r p q : Nat} {ab gv us pl lf cp : Int32} {ir ng : Bool} {lo hi : Nat → Int32} (hR : RD G f rd r p q ab gv us pl ir lf ng cp lo hi) (x : Int32) : mC l G yX0_afterComparison wsX0_afterComparison ({ frames := 1, cells := 0, slots := 0, locals := 21 } : Room) f [.ref rd, .int x] (fun v f1 => v = some (.int (afcV x)) ∧ RDF G f f1 rd r p q ab gv us pl ir lf (afcN x ng) (afcC x cp) lo hi) 0 0 := by
  refine mC.of (cc := cX0_afterComparison) (maxL := 2) (ret := (some .int)) (by decide) rfl (Nat.le_of_ble_eq_true rfl) ?_
  intro pgm env s mt args below meth c A ls hx hb hml hr hlocks hown hname hts hK hE hA hM hl
  have hl : lv_has ls 2 [(0, .ref rd), (1, .int x)] := hl
  have hD := hR.start
  refine lv_iload_n hx hb dX0_afterComparison_0 rfl (lv_at hl 1 rfl) ?_
  refine lv_iconst (v := (nI 4)) hx hb dX0_afterComparison_1 (by decide +kernel) ?_
  refine lv_icmp_ne (tgt := 12) hx hb dX0_afterComparison_2 (by decide) (fun cz1 => ?_) (fun cz1 => ?_)
  · refine lv_iload_n hx hb dX0_afterComparison_12 rfl (lv_at hl 1 rfl) ?_
    refine lv_bipush (v := (nI 7)) hx hb dX0_afterComparison_13 (by decide +kernel) ?_
    refine lv_icmp_ne (tgt := 25) hx hb dX0_afterComparison_15 (by decide) (fun cz2 => ?_) (fun cz2 => ?_)
    · refine lv_aload_n hx hb dX0_afterComparison_25 rfl (lv_at hl 0 rfl) ?_
      refine lv_iload_n hx hb dX0_afterComparison_26 rfl (lv_at hl 1 rfl) ?_
      refine mm_V (As := [.int x]) (rest := []) ⟨hx, hb, hml, hown, hts⟩ (c0_afterOverOrUnder l G hD.1 x) (cwV 1 hts gX0_afterComparison_X0_afterOverOrUnder rfl rfl rfl (by decide +kernel) ⟨Nat.le_of_ble_eq_true rfl, Nat.le_of_ble_eq_true rfl⟩) hK hE hA hM (mm_recv hK hM (hD.1.1) (q := (RX0, TX0, 9)) rfl) rfl hl.1 rfl (Nat.le_of_ble_eq_true rfl) dX0_afterComparison_27 ⟨Nat.le_of_ble_eq_true rfl, Nat.le_of_ble_eq_true rfl⟩ (fun v gz3 Hp lcs hp hM => ?_)
      obtain ⟨rfl, hp1⟩ := hp
      have hD := hD.trans hp1
      exact mm_iret hx hb hlocks hr (Nat.le_of_ble_eq_true rfl) (Nat.le_of_ble_eq_true rfl) hM (⟨(congrArg (fun z => some (Value.int z)) (by first | rfl | (simp [afcV, afcC, afcN, cz1, cz2]; done) | (simp_all [afcV, afcC, afcN, cz1, cz2]; done))), hD.cv rfl rfl rfl rfl rfl rfl (by first | rfl | (simp [afcV, afcC, afcN, cz1, cz2]; done) | (simp_all [afcV, afcC, afcN, cz1, cz2]; done)) (by first | rfl | (simp [afcV, afcC, afcN, cz1, cz2]; done) | (simp_all [afcV, afcC, afcN, cz1, cz2]; done)) rfl rfl⟩) dX0_afterComparison_30
    refine lv_aload_n hx hb dX0_afterComparison_18 rfl (lv_at hl 0 rfl) ?_
    refine lv_iconst (v := (nI 1)) hx hb dX0_afterComparison_19 (by decide +kernel) ?_
    refine mm_put (C := RX0) (T := TX0) (N := 9) (k := 7) hx hb hts (fun _ h => List.mem_cons_of_mem _ (List.mem_append_right _ h)) tyX0 tyX0_ok nmX0 hown hK hM (hD.1.1) rfl (by decide) (hts (.fieldLink RX0 107 "SentenceRules$Reader" "negated" "Z") (List.mem_of_getElem? (i := 2) rfl)) rfl rfl (by first | rfl | exact bI_nar _) (by first | rfl | exact bI_fit _) (Nat.le_of_ble_eq_true rfl) dX0_afterComparison_20 (fun Hp lcs hM => ?_)
    have hD := hD.setObj ab gv us pl ir lf true cp
    refine lv_iconst (v := (nI 4)) hx hb dX0_afterComparison_23 (by decide +kernel) ?_
    exact mm_iret hx hb hlocks hr (Nat.le_of_ble_eq_true rfl) (Nat.le_of_ble_eq_true rfl) hM (⟨(congrArg (fun z => some (Value.int z)) (by first | rfl | (simp [afcV, afcC, afcN, cz1, cz2]; done) | (simp_all [afcV, afcC, afcN, cz1, cz2]; done))), hD.cv rfl rfl rfl rfl rfl rfl (by first | rfl | (simp [afcV, afcC, afcN, cz1, cz2]; done) | (simp_all [afcV, afcC, afcN, cz1, cz2]; done)) (by first | rfl | (simp [afcV, afcC, afcN, cz1, cz2]; done) | (simp_all [afcV, afcC, afcN, cz1, cz2]; done)) rfl rfl⟩) dX0_afterComparison_24
  refine lv_aload_n hx hb dX0_afterComparison_5 rfl (lv_at hl 0 rfl) ?_
  refine lv_iconst (v := (nI 4)) hx hb dX0_afterComparison_6 (by decide +kernel) ?_
  refine mm_put (C := RX0) (T := TX0) (N := 9) (k := 8) hx hb hts (fun _ h => List.mem_cons_of_mem _ (List.mem_append_right _ h)) tyX0 tyX0_ok nmX0 hown hK hM (hD.1.1) rfl (by decide) (hts (.fieldLink RX0 110 "SentenceRules$Reader" "comparison" "I") (List.mem_of_getElem? (i := 1) rfl)) rfl rfl rfl rfl (Nat.le_of_ble_eq_true rfl) dX0_afterComparison_7 (fun Hp lcs hM => ?_)
  have hD := hD.setObj ab gv us pl ir lf ng (nI 4)
  refine lv_iconst (v := (nI 5)) hx hb dX0_afterComparison_10 (by decide +kernel) ?_
  exact mm_iret hx hb hlocks hr (Nat.le_of_ble_eq_true rfl) (Nat.le_of_ble_eq_true rfl) hM (⟨(congrArg (fun z => some (Value.int z)) (by first | rfl | (simp [afcV, afcC, afcN, cz1]; done) | (simp_all [afcV, afcC, afcN, cz1]; done))), hD.cv rfl rfl rfl rfl rfl rfl (by first | rfl | (simp [afcV, afcC, afcN, cz1]; done) | (simp_all [afcV, afcC, afcN, cz1]; done)) (by first | rfl | (simp [afcV, afcC, afcN, cz1]; done) | (simp_all [afcV, afcC, afcN, cz1]; done)) rfl rfl⟩) dX0_afterComparison_11
set_option maxHeartbeats 4000000 in
set_option maxRecDepth 100000 in
theorem c0_kindOfValue (l : Launch) (G : mG) {f : mE} {rd r p q : Nat} {ab gv us pl lf cp : Int32} {ir ng : Bool} {lo hi : Nat → Int32} (hR : RD G f rd r p q ab gv us pl ir lf ng cp lo hi) : mC l G yX0_kindOfValue wsX0_kindOfValue ({ frames := 0, cells := 0, slots := 0, locals := 0 } : Room) f [.ref rd] (fun v f1 => v = some (.int (kovV lf)) ∧ RDF G f f1 rd r p q ab gv us pl ir lf ng cp lo hi) 0 0 := by
  refine mC.of (cc := cX0_kindOfValue) (maxL := 1) (ret := (some .int)) (by decide) rfl (Nat.le_of_ble_eq_true rfl) ?_
  intro pgm env s mt args below meth c A ls hx hb hml hr hlocks hown hname hts hK hE hA hM hl
  have hl : lv_has ls 1 [(0, .ref rd)] := hl
  have hD := hR.start
  refine lv_aload_n hx hb dX0_kindOfValue_0 rfl (lv_at hl 0 rfl) ?_
  refine mm_get (C := RX0) (T := TX0) (N := 9) (k := 6) hx hb hts (fun _ h => List.mem_cons_of_mem _ (List.mem_append_right _ h)) hown hK hM (hD.1.1) rfl (by decide) (hts (.fieldLink RX0 104 "SentenceRules$Reader" "limitedFact" "I") (List.mem_of_getElem? (i := 1) rfl)) rfl rfl dX0_kindOfValue_1 ?_
  refine lv_iconst (v := (nI 4)) hx hb dX0_kindOfValue_4 (by decide +kernel) ?_
  refine lv_icmp_ge (tgt := 12) hx hb dX0_kindOfValue_5 (by decide) (fun cz1 => ?_) (fun cz1 => ?_)
  · refine lv_iconst (v := (nI 2)) hx hb dX0_kindOfValue_12 (by decide +kernel) ?_
    exact mm_iret hx hb hlocks hr (Nat.le_of_ble_eq_true rfl) (Nat.le_of_ble_eq_true rfl) hM (⟨congrArg (fun z => some (Value.int z)) (by rw [kovV, if_pos cz1]), hD⟩) dX0_kindOfValue_13
  refine lv_iconst (v := (nI 1)) hx hb dX0_kindOfValue_8 (by decide +kernel) ?_
  refine lv_goto (tgt := 13) hx hb dX0_kindOfValue_9 (by decide) ?_
  exact mm_iret hx hb hlocks hr (Nat.le_of_ble_eq_true rfl) (Nat.le_of_ble_eq_true rfl) hM (⟨congrArg (fun z => some (Value.int z)) (by rw [kovV, if_neg cz1]), hD⟩) dX0_kindOfValue_13
set_option maxHeartbeats 4000000 in
set_option maxRecDepth 100000 in
theorem c0_afterValue (l : Launch) (G : mG) {f : mE} {rd r p q : Nat} {ab gv us pl cp : Int32} {t : Nat} {ir ng : Bool} {lo hi : Nat → Int32} (hR : RD G f rd r p q ab gv us pl ir (nI t) ng cp lo hi) (ht7 : t < 7) (x : Int32) : mC l G yX0_afterValue wsX0_afterValue ({ frames := 2, cells := 0, slots := 0, locals := 43 } : Room) f [.ref rd, .int x] (fun v f1 => v = some (.int (nI 6)) ∧ RDF G f f1 rd r p q ab gv us pl ir (nI t) ng cp (afvLo cp ng t x lo) (afvHi cp ng t x hi)) 0 0 := by
  refine mC.of (cc := cX0_afterValue) (maxL := 2) (ret := (some .int)) (by decide) rfl (Nat.le_of_ble_eq_true rfl) ?_
  intro pgm env s mt args below meth c A ls hx hb hml hr hlocks hown hname hts hK hE hA hM hl
  have hl : lv_has ls 2 [(0, .ref rd), (1, .int x)] := hl
  have hD := hR.start
  refine lv_aload_n hx hb dX0_afterValue_0 rfl (lv_at hl 0 rfl) ?_
  refine mm_get (C := RX0) (T := TX0) (N := 9) (k := 8) hx hb hts (fun _ h => List.mem_cons_of_mem _ (List.mem_append_left _ (List.mem_append_right _ h))) hown hK hM (hD.1.1) rfl (by decide) (hts (.fieldLink RX0 110 "SentenceRules$Reader" "comparison" "I") (List.mem_of_getElem? (i := 1) rfl)) rfl rfl dX0_afterValue_1 ?_
  refine lv_iconst (v := (nI 4)) hx hb dX0_afterValue_4 (by decide +kernel) ?_
  refine lv_icmp_ne (tgt := 35) hx hb dX0_afterValue_5 (by decide) (fun cz1 => ?_) (fun cz1 => ?_)
  · refine lv_aload_n hx hb dX0_afterValue_35 rfl (lv_at hl 0 rfl) ?_
    refine mm_get (C := RX0) (T := TX0) (N := 9) (k := 8) hx hb hts (fun _ h => List.mem_cons_of_mem _ (List.mem_append_left _ (List.mem_append_right _ h))) hown hK hM (hD.1.1) rfl (by decide) (hts (.fieldLink RX0 110 "SentenceRules$Reader" "comparison" "I") (List.mem_of_getElem? (i := 1) rfl)) rfl rfl dX0_afterValue_36 ?_
    refine lv_iconst (v := (nI 5)) hx hb dX0_afterValue_39 (by decide +kernel) ?_
    refine lv_icmp_ne (tgt := 65) hx hb dX0_afterValue_40 (by decide) (fun cz2 => ?_) (fun cz2 => ?_)
    · refine lv_aload_n hx hb dX0_afterValue_65 rfl (lv_at hl 0 rfl) ?_
      refine mm_get (C := RX0) (T := TX0) (N := 9) (k := 8) hx hb hts (fun _ h => List.mem_cons_of_mem _ (List.mem_append_left _ (List.mem_append_right _ h))) hown hK hM (hD.1.1) rfl (by decide) (hts (.fieldLink RX0 110 "SentenceRules$Reader" "comparison" "I") (List.mem_of_getElem? (i := 1) rfl)) rfl rfl dX0_afterValue_66 ?_
      refine lv_iconst (v := (nI 5)) hx hb dX0_afterValue_69 (by decide +kernel) ?_
      refine lv_icmp_ne (tgt := 90) hx hb dX0_afterValue_70 (by decide) (fun cz3 => ?_) (fun cz3 => ?_)
      · refine lv_aload_n hx hb dX0_afterValue_90 rfl (lv_at hl 0 rfl) ?_
        refine mm_get (C := RX0) (T := TX0) (N := 9) (k := 7) hx hb hts (fun _ h => List.mem_cons_of_mem _ (List.mem_append_left _ (List.mem_append_right _ h))) hown hK hM (hD.1.1) rfl (by decide) (hts (.fieldLink RX0 107 "SentenceRules$Reader" "negated" "Z") (List.mem_of_getElem? (i := 4) rfl)) rfl rfl dX0_afterValue_91 ?_
        refine lvb_eq (tgt := 112) hx hb dX0_afterValue_94 (by decide) (fun cz4 => ?_) (fun cz4 => ?_)
        · refine lv_aload_n hx hb dX0_afterValue_112 rfl (lv_at hl 0 rfl) ?_
          refine mm_get (C := RX0) (T := TX0) (N := 9) (k := 3) hx hb hts (fun _ h => List.mem_cons_of_mem _ (List.mem_append_left _ (List.mem_append_right _ h))) hown hK hM (hD.1.1) rfl (by decide) (hts (.fieldLink RX0 12 "SentenceRules$Reader" "region" "LSentenceRules$Region;") (List.mem_of_getElem? (i := 2) rfl)) rfl rfl dX0_afterValue_113 ?_
          refine lv_aload_n hx hb dX0_afterValue_116 rfl (lv_at hl 0 rfl) ?_
          refine mm_get (C := RX0) (T := TX0) (N := 9) (k := 6) hx hb hts (fun _ h => List.mem_cons_of_mem _ (List.mem_append_left _ (List.mem_append_right _ h))) hown hK hM (hD.1.1) rfl (by decide) (hts (.fieldLink RX0 104 "SentenceRules$Reader" "limitedFact" "I") (List.mem_of_getElem? (i := 3) rfl)) rfl rfl dX0_afterValue_117 ?_
          refine lv_iload_n hx hb dX0_afterValue_120 rfl (lv_at hl 1 rfl) ?_
          refine lv_iconst (v := (nI 1)) hx hb dX0_afterValue_121 (by decide +kernel) ?_
          refine lv_isub hx hb dX0_afterValue_122 ?_
          refine mm_V (As := [.int (nI t), .int (x - (nI 1))]) (rest := []) ⟨hx, hb, hml, hown, hts⟩ (c1_keepUntil l G hD.1.2.1 hD.1.2.2.1 hD.1.2.2.2.1 hD.1.2.2.2.2 t (by omega) (x - (nI 1))) (cwV 2 hts gX0_afterValue_X1_keepUntil rfl rfl rfl (by decide +kernel) ⟨Nat.le_of_ble_eq_true rfl, Nat.le_of_ble_eq_true rfl⟩) hK hE hA hM (mm_recv hK hM (hD.1.2.1) (q := (RX1, TX1, 2)) rfl) rfl hl.1 rfl (Nat.le_of_ble_eq_true rfl) dX0_afterValue_123 ⟨Nat.le_of_ble_eq_true rfl, Nat.le_of_ble_eq_true rfl⟩ (fun v gz5 Hp lcs hp hM => ?_)
          obtain ⟨rfl, hp1, hp2⟩ := hp
          have hD := hD.keepHi hp1 hp2
          refine lv_bipush (v := (nI 6)) hx hb dX0_afterValue_126 (by decide +kernel) ?_
          exact mm_iret hx hb hlocks hr (Nat.le_of_ble_eq_true rfl) (Nat.le_of_ble_eq_true rfl) hM (⟨(congrArg (fun z => some (Value.int z)) (by first | rfl | (simp [afvLo, afvHi, n54, cz1, cz2, cz3, cz4]; done) | (simp_all [afvLo, afvHi, n54, cz1, cz2, cz3, cz4]; done))), hD.cv rfl rfl rfl rfl rfl rfl rfl rfl (by first | rfl | (simp [afvLo, afvHi, n54, cz1, cz2, cz3, cz4]; done) | (simp_all [afvLo, afvHi, n54, cz1, cz2, cz3, cz4]; done)) (by first | rfl | (simp [afvLo, afvHi, n54, cz1, cz2, cz3, cz4]; done) | (simp_all [afvLo, afvHi, n54, cz1, cz2, cz3, cz4]; done))⟩) dX0_afterValue_128
        refine lv_aload_n hx hb dX0_afterValue_97 rfl (lv_at hl 0 rfl) ?_
        refine mm_get (C := RX0) (T := TX0) (N := 9) (k := 3) hx hb hts (fun _ h => List.mem_cons_of_mem _ (List.mem_append_left _ (List.mem_append_right _ h))) hown hK hM (hD.1.1) rfl (by decide) (hts (.fieldLink RX0 12 "SentenceRules$Reader" "region" "LSentenceRules$Region;") (List.mem_of_getElem? (i := 2) rfl)) rfl rfl dX0_afterValue_98 ?_
        refine lv_aload_n hx hb dX0_afterValue_101 rfl (lv_at hl 0 rfl) ?_
        refine mm_get (C := RX0) (T := TX0) (N := 9) (k := 6) hx hb hts (fun _ h => List.mem_cons_of_mem _ (List.mem_append_left _ (List.mem_append_right _ h))) hown hK hM (hD.1.1) rfl (by decide) (hts (.fieldLink RX0 104 "SentenceRules$Reader" "limitedFact" "I") (List.mem_of_getElem? (i := 3) rfl)) rfl rfl dX0_afterValue_102 ?_
        refine lv_iload_n hx hb dX0_afterValue_105 rfl (lv_at hl 1 rfl) ?_
        refine mm_V (As := [.int (nI t), .int x]) (rest := []) ⟨hx, hb, hml, hown, hts⟩ (c1_keepFrom l G hD.1.2.1 hD.1.2.2.1 hD.1.2.2.2.1 hD.1.2.2.2.2 t (by omega) x) (cwV 2 hts gX0_afterValue_X1_keepFrom rfl rfl rfl (by decide +kernel) ⟨Nat.le_of_ble_eq_true rfl, Nat.le_of_ble_eq_true rfl⟩) hK hE hA hM (mm_recv hK hM (hD.1.2.1) (q := (RX1, TX1, 2)) rfl) rfl hl.1 rfl (Nat.le_of_ble_eq_true rfl) dX0_afterValue_106 ⟨Nat.le_of_ble_eq_true rfl, Nat.le_of_ble_eq_true rfl⟩ (fun v gz6 Hp lcs hp hM => ?_)
        obtain ⟨rfl, hp1, hp2⟩ := hp
        have hD := hD.keepLo hp1 hp2
        refine lv_goto (tgt := 126) hx hb dX0_afterValue_109 (by decide) ?_
        refine lv_bipush (v := (nI 6)) hx hb dX0_afterValue_126 (by decide +kernel) ?_
        exact mm_iret hx hb hlocks hr (Nat.le_of_ble_eq_true rfl) (Nat.le_of_ble_eq_true rfl) hM (⟨(congrArg (fun z => some (Value.int z)) (by first | rfl | (simp [afvLo, afvHi, n54, cz1, cz2, cz3, cz4]; done) | (simp_all [afvLo, afvHi, n54, cz1, cz2, cz3, cz4]; done))), hD.cv rfl rfl rfl rfl rfl rfl rfl rfl (by first | rfl | (simp [afvLo, afvHi, n54, cz1, cz2, cz3, cz4]; done) | (simp_all [afvLo, afvHi, n54, cz1, cz2, cz3, cz4]; done)) (by first | rfl | (simp [afvLo, afvHi, n54, cz1, cz2, cz3, cz4]; done) | (simp_all [afvLo, afvHi, n54, cz1, cz2, cz3, cz4]; done))⟩) dX0_afterValue_128
      refine lv_aload_n hx hb dX0_afterValue_73 rfl (lv_at hl 0 rfl) ?_
      refine mm_get (C := RX0) (T := TX0) (N := 9) (k := 3) hx hb hts (fun _ h => List.mem_cons_of_mem _ (List.mem_append_left _ (List.mem_append_right _ h))) hown hK hM (hD.1.1) rfl (by decide) (hts (.fieldLink RX0 12 "SentenceRules$Reader" "region" "LSentenceRules$Region;") (List.mem_of_getElem? (i := 2) rfl)) rfl rfl dX0_afterValue_74 ?_
      refine lv_aload_n hx hb dX0_afterValue_77 rfl (lv_at hl 0 rfl) ?_
      refine mm_get (C := RX0) (T := TX0) (N := 9) (k := 6) hx hb hts (fun _ h => List.mem_cons_of_mem _ (List.mem_append_left _ (List.mem_append_right _ h))) hown hK hM (hD.1.1) rfl (by decide) (hts (.fieldLink RX0 104 "SentenceRules$Reader" "limitedFact" "I") (List.mem_of_getElem? (i := 3) rfl)) rfl rfl dX0_afterValue_78 ?_
      refine lv_iload_n hx hb dX0_afterValue_81 rfl (lv_at hl 1 rfl) ?_
      refine lv_iconst (v := (nI 1)) hx hb dX0_afterValue_82 (by decide +kernel) ?_
      refine lv_iadd hx hb dX0_afterValue_83 ?_
      refine mm_V (As := [.int (nI t), .int (x + (nI 1))]) (rest := []) ⟨hx, hb, hml, hown, hts⟩ (c1_keepFrom l G hD.1.2.1 hD.1.2.2.1 hD.1.2.2.2.1 hD.1.2.2.2.2 t (by omega) (x + (nI 1))) (cwV 2 hts gX0_afterValue_X1_keepFrom rfl rfl rfl (by decide +kernel) ⟨Nat.le_of_ble_eq_true rfl, Nat.le_of_ble_eq_true rfl⟩) hK hE hA hM (mm_recv hK hM (hD.1.2.1) (q := (RX1, TX1, 2)) rfl) rfl hl.1 rfl (Nat.le_of_ble_eq_true rfl) dX0_afterValue_84 ⟨Nat.le_of_ble_eq_true rfl, Nat.le_of_ble_eq_true rfl⟩ (fun v gz7 Hp lcs hp hM => ?_)
      obtain ⟨rfl, hp1, hp2⟩ := hp
      have hD := hD.keepLo hp1 hp2
      refine lv_goto (tgt := 126) hx hb dX0_afterValue_87 (by decide) ?_
      refine lv_bipush (v := (nI 6)) hx hb dX0_afterValue_126 (by decide +kernel) ?_
      exact mm_iret hx hb hlocks hr (Nat.le_of_ble_eq_true rfl) (Nat.le_of_ble_eq_true rfl) hM (⟨(congrArg (fun z => some (Value.int z)) (by first | rfl | (simp [afvLo, afvHi, n54, cz1, cz2, cz3]; done) | (simp_all [afvLo, afvHi, n54, cz1, cz2, cz3]; done))), hD.cv rfl rfl rfl rfl rfl rfl rfl rfl (by first | rfl | (simp [afvLo, afvHi, n54, cz1, cz2, cz3]; done) | (simp_all [afvLo, afvHi, n54, cz1, cz2, cz3]; done)) (by first | rfl | (simp [afvLo, afvHi, n54, cz1, cz2, cz3]; done) | (simp_all [afvLo, afvHi, n54, cz1, cz2, cz3]; done))⟩) dX0_afterValue_128
    refine lv_aload_n hx hb dX0_afterValue_43 rfl (lv_at hl 0 rfl) ?_
    refine mm_get (C := RX0) (T := TX0) (N := 9) (k := 7) hx hb hts (fun _ h => List.mem_cons_of_mem _ (List.mem_append_left _ (List.mem_append_right _ h))) hown hK hM (hD.1.1) rfl (by decide) (hts (.fieldLink RX0 107 "SentenceRules$Reader" "negated" "Z") (List.mem_of_getElem? (i := 4) rfl)) rfl rfl dX0_afterValue_44 ?_
    refine lvb_eq (tgt := 65) hx hb dX0_afterValue_47 (by decide) (fun cz8 => ?_) (fun cz8 => ?_)
    · refine lv_aload_n hx hb dX0_afterValue_65 rfl (lv_at hl 0 rfl) ?_
      refine mm_get (C := RX0) (T := TX0) (N := 9) (k := 8) hx hb hts (fun _ h => List.mem_cons_of_mem _ (List.mem_append_left _ (List.mem_append_right _ h))) hown hK hM (hD.1.1) rfl (by decide) (hts (.fieldLink RX0 110 "SentenceRules$Reader" "comparison" "I") (List.mem_of_getElem? (i := 1) rfl)) rfl rfl dX0_afterValue_66 ?_
      refine lv_iconst (v := (nI 5)) hx hb dX0_afterValue_69 (by decide +kernel) ?_
      refine lv_icmp_ne (tgt := 90) hx hb dX0_afterValue_70 (by decide) (fun cz9 => ?_) (fun cz9 => ?_)
      · refine lv_aload_n hx hb dX0_afterValue_90 rfl (lv_at hl 0 rfl) ?_
        refine mm_get (C := RX0) (T := TX0) (N := 9) (k := 7) hx hb hts (fun _ h => List.mem_cons_of_mem _ (List.mem_append_left _ (List.mem_append_right _ h))) hown hK hM (hD.1.1) rfl (by decide) (hts (.fieldLink RX0 107 "SentenceRules$Reader" "negated" "Z") (List.mem_of_getElem? (i := 4) rfl)) rfl rfl dX0_afterValue_91 ?_
        refine lvb_eq (tgt := 112) hx hb dX0_afterValue_94 (by decide) (fun _ => ?_) (fun hq9 => absurd hq9 (by rw [cz8]; decide))
        refine lv_aload_n hx hb dX0_afterValue_112 rfl (lv_at hl 0 rfl) ?_
        refine mm_get (C := RX0) (T := TX0) (N := 9) (k := 3) hx hb hts (fun _ h => List.mem_cons_of_mem _ (List.mem_append_left _ (List.mem_append_right _ h))) hown hK hM (hD.1.1) rfl (by decide) (hts (.fieldLink RX0 12 "SentenceRules$Reader" "region" "LSentenceRules$Region;") (List.mem_of_getElem? (i := 2) rfl)) rfl rfl dX0_afterValue_113 ?_
        refine lv_aload_n hx hb dX0_afterValue_116 rfl (lv_at hl 0 rfl) ?_
        refine mm_get (C := RX0) (T := TX0) (N := 9) (k := 6) hx hb hts (fun _ h => List.mem_cons_of_mem _ (List.mem_append_left _ (List.mem_append_right _ h))) hown hK hM (hD.1.1) rfl (by decide) (hts (.fieldLink RX0 104 "SentenceRules$Reader" "limitedFact" "I") (List.mem_of_getElem? (i := 3) rfl)) rfl rfl dX0_afterValue_117 ?_
        refine lv_iload_n hx hb dX0_afterValue_120 rfl (lv_at hl 1 rfl) ?_
        refine lv_iconst (v := (nI 1)) hx hb dX0_afterValue_121 (by decide +kernel) ?_
        refine lv_isub hx hb dX0_afterValue_122 ?_
        refine mm_V (As := [.int (nI t), .int (x - (nI 1))]) (rest := []) ⟨hx, hb, hml, hown, hts⟩ (c1_keepUntil l G hD.1.2.1 hD.1.2.2.1 hD.1.2.2.2.1 hD.1.2.2.2.2 t (by omega) (x - (nI 1))) (cwV 2 hts gX0_afterValue_X1_keepUntil rfl rfl rfl (by decide +kernel) ⟨Nat.le_of_ble_eq_true rfl, Nat.le_of_ble_eq_true rfl⟩) hK hE hA hM (mm_recv hK hM (hD.1.2.1) (q := (RX1, TX1, 2)) rfl) rfl hl.1 rfl (Nat.le_of_ble_eq_true rfl) dX0_afterValue_123 ⟨Nat.le_of_ble_eq_true rfl, Nat.le_of_ble_eq_true rfl⟩ (fun v gz10 Hp lcs hp hM => ?_)
        obtain ⟨rfl, hp1, hp2⟩ := hp
        have hD := hD.keepHi hp1 hp2
        refine lv_bipush (v := (nI 6)) hx hb dX0_afterValue_126 (by decide +kernel) ?_
        exact mm_iret hx hb hlocks hr (Nat.le_of_ble_eq_true rfl) (Nat.le_of_ble_eq_true rfl) hM (⟨(congrArg (fun z => some (Value.int z)) (by first | rfl | (simp [afvLo, afvHi, n54, cz1, cz2, cz8, cz9]; done) | (simp_all [afvLo, afvHi, n54, cz1, cz2, cz8, cz9]; done))), hD.cv rfl rfl rfl rfl rfl rfl rfl rfl (by first | rfl | (simp [afvLo, afvHi, n54, cz1, cz2, cz8, cz9]; done) | (simp_all [afvLo, afvHi, n54, cz1, cz2, cz8, cz9]; done)) (by first | rfl | (simp [afvLo, afvHi, n54, cz1, cz2, cz8, cz9]; done) | (simp_all [afvLo, afvHi, n54, cz1, cz2, cz8, cz9]; done))⟩) dX0_afterValue_128
      refine lv_aload_n hx hb dX0_afterValue_73 rfl (lv_at hl 0 rfl) ?_
      refine mm_get (C := RX0) (T := TX0) (N := 9) (k := 3) hx hb hts (fun _ h => List.mem_cons_of_mem _ (List.mem_append_left _ (List.mem_append_right _ h))) hown hK hM (hD.1.1) rfl (by decide) (hts (.fieldLink RX0 12 "SentenceRules$Reader" "region" "LSentenceRules$Region;") (List.mem_of_getElem? (i := 2) rfl)) rfl rfl dX0_afterValue_74 ?_
      refine lv_aload_n hx hb dX0_afterValue_77 rfl (lv_at hl 0 rfl) ?_
      refine mm_get (C := RX0) (T := TX0) (N := 9) (k := 6) hx hb hts (fun _ h => List.mem_cons_of_mem _ (List.mem_append_left _ (List.mem_append_right _ h))) hown hK hM (hD.1.1) rfl (by decide) (hts (.fieldLink RX0 104 "SentenceRules$Reader" "limitedFact" "I") (List.mem_of_getElem? (i := 3) rfl)) rfl rfl dX0_afterValue_78 ?_
      refine lv_iload_n hx hb dX0_afterValue_81 rfl (lv_at hl 1 rfl) ?_
      refine lv_iconst (v := (nI 1)) hx hb dX0_afterValue_82 (by decide +kernel) ?_
      refine lv_iadd hx hb dX0_afterValue_83 ?_
      refine mm_V (As := [.int (nI t), .int (x + (nI 1))]) (rest := []) ⟨hx, hb, hml, hown, hts⟩ (c1_keepFrom l G hD.1.2.1 hD.1.2.2.1 hD.1.2.2.2.1 hD.1.2.2.2.2 t (by omega) (x + (nI 1))) (cwV 2 hts gX0_afterValue_X1_keepFrom rfl rfl rfl (by decide +kernel) ⟨Nat.le_of_ble_eq_true rfl, Nat.le_of_ble_eq_true rfl⟩) hK hE hA hM (mm_recv hK hM (hD.1.2.1) (q := (RX1, TX1, 2)) rfl) rfl hl.1 rfl (Nat.le_of_ble_eq_true rfl) dX0_afterValue_84 ⟨Nat.le_of_ble_eq_true rfl, Nat.le_of_ble_eq_true rfl⟩ (fun v gz11 Hp lcs hp hM => ?_)
      obtain ⟨rfl, hp1, hp2⟩ := hp
      have hD := hD.keepLo hp1 hp2
      refine lv_goto (tgt := 126) hx hb dX0_afterValue_87 (by decide) ?_
      refine lv_bipush (v := (nI 6)) hx hb dX0_afterValue_126 (by decide +kernel) ?_
      exact mm_iret hx hb hlocks hr (Nat.le_of_ble_eq_true rfl) (Nat.le_of_ble_eq_true rfl) hM (⟨(congrArg (fun z => some (Value.int z)) (by first | rfl | (simp [afvLo, afvHi, n54, cz1, cz2, cz8, cz9]; done) | (simp_all [afvLo, afvHi, n54, cz1, cz2, cz8, cz9]; done))), hD.cv rfl rfl rfl rfl rfl rfl rfl rfl (by first | rfl | (simp [afvLo, afvHi, n54, cz1, cz2, cz8, cz9]; done) | (simp_all [afvLo, afvHi, n54, cz1, cz2, cz8, cz9]; done)) (by first | rfl | (simp [afvLo, afvHi, n54, cz1, cz2, cz8, cz9]; done) | (simp_all [afvLo, afvHi, n54, cz1, cz2, cz8, cz9]; done))⟩) dX0_afterValue_128
    refine lv_aload_n hx hb dX0_afterValue_50 rfl (lv_at hl 0 rfl) ?_
    refine mm_get (C := RX0) (T := TX0) (N := 9) (k := 3) hx hb hts (fun _ h => List.mem_cons_of_mem _ (List.mem_append_left _ (List.mem_append_right _ h))) hown hK hM (hD.1.1) rfl (by decide) (hts (.fieldLink RX0 12 "SentenceRules$Reader" "region" "LSentenceRules$Region;") (List.mem_of_getElem? (i := 2) rfl)) rfl rfl dX0_afterValue_51 ?_
    refine lv_aload_n hx hb dX0_afterValue_54 rfl (lv_at hl 0 rfl) ?_
    refine mm_get (C := RX0) (T := TX0) (N := 9) (k := 6) hx hb hts (fun _ h => List.mem_cons_of_mem _ (List.mem_append_left _ (List.mem_append_right _ h))) hown hK hM (hD.1.1) rfl (by decide) (hts (.fieldLink RX0 104 "SentenceRules$Reader" "limitedFact" "I") (List.mem_of_getElem? (i := 3) rfl)) rfl rfl dX0_afterValue_55 ?_
    refine lv_iload_n hx hb dX0_afterValue_58 rfl (lv_at hl 1 rfl) ?_
    refine mm_V (As := [.int (nI t), .int x]) (rest := []) ⟨hx, hb, hml, hown, hts⟩ (c1_keepUntil l G hD.1.2.1 hD.1.2.2.1 hD.1.2.2.2.1 hD.1.2.2.2.2 t (by omega) x) (cwV 2 hts gX0_afterValue_X1_keepUntil rfl rfl rfl (by decide +kernel) ⟨Nat.le_of_ble_eq_true rfl, Nat.le_of_ble_eq_true rfl⟩) hK hE hA hM (mm_recv hK hM (hD.1.2.1) (q := (RX1, TX1, 2)) rfl) rfl hl.1 rfl (Nat.le_of_ble_eq_true rfl) dX0_afterValue_59 ⟨Nat.le_of_ble_eq_true rfl, Nat.le_of_ble_eq_true rfl⟩ (fun v gz12 Hp lcs hp hM => ?_)
    obtain ⟨rfl, hp1, hp2⟩ := hp
    have hD := hD.keepHi hp1 hp2
    refine lv_goto (tgt := 126) hx hb dX0_afterValue_62 (by decide) ?_
    refine lv_bipush (v := (nI 6)) hx hb dX0_afterValue_126 (by decide +kernel) ?_
    exact mm_iret hx hb hlocks hr (Nat.le_of_ble_eq_true rfl) (Nat.le_of_ble_eq_true rfl) hM (⟨(congrArg (fun z => some (Value.int z)) (by first | rfl | (simp [afvLo, afvHi, n54, cz1, cz2, cz8]; done) | (simp_all [afvLo, afvHi, n54, cz1, cz2, cz8]; done))), hD.cv rfl rfl rfl rfl rfl rfl rfl rfl (by first | rfl | (simp [afvLo, afvHi, n54, cz1, cz2, cz8]; done) | (simp_all [afvLo, afvHi, n54, cz1, cz2, cz8]; done)) (by first | rfl | (simp [afvLo, afvHi, n54, cz1, cz2, cz8]; done) | (simp_all [afvLo, afvHi, n54, cz1, cz2, cz8]; done))⟩) dX0_afterValue_128
  refine lv_aload_n hx hb dX0_afterValue_8 rfl (lv_at hl 0 rfl) ?_
  refine mm_get (C := RX0) (T := TX0) (N := 9) (k := 3) hx hb hts (fun _ h => List.mem_cons_of_mem _ (List.mem_append_left _ (List.mem_append_right _ h))) hown hK hM (hD.1.1) rfl (by decide) (hts (.fieldLink RX0 12 "SentenceRules$Reader" "region" "LSentenceRules$Region;") (List.mem_of_getElem? (i := 2) rfl)) rfl rfl dX0_afterValue_9 ?_
  refine lv_aload_n hx hb dX0_afterValue_12 rfl (lv_at hl 0 rfl) ?_
  refine mm_get (C := RX0) (T := TX0) (N := 9) (k := 6) hx hb hts (fun _ h => List.mem_cons_of_mem _ (List.mem_append_left _ (List.mem_append_right _ h))) hown hK hM (hD.1.1) rfl (by decide) (hts (.fieldLink RX0 104 "SentenceRules$Reader" "limitedFact" "I") (List.mem_of_getElem? (i := 3) rfl)) rfl rfl dX0_afterValue_13 ?_
  refine lv_iload_n hx hb dX0_afterValue_16 rfl (lv_at hl 1 rfl) ?_
  refine mm_V (As := [.int (nI t), .int x]) (rest := []) ⟨hx, hb, hml, hown, hts⟩ (c1_keepFrom l G hD.1.2.1 hD.1.2.2.1 hD.1.2.2.2.1 hD.1.2.2.2.2 t (by omega) x) (cwV 2 hts gX0_afterValue_X1_keepFrom rfl rfl rfl (by decide +kernel) ⟨Nat.le_of_ble_eq_true rfl, Nat.le_of_ble_eq_true rfl⟩) hK hE hA hM (mm_recv hK hM (hD.1.2.1) (q := (RX1, TX1, 2)) rfl) rfl hl.1 rfl (Nat.le_of_ble_eq_true rfl) dX0_afterValue_17 ⟨Nat.le_of_ble_eq_true rfl, Nat.le_of_ble_eq_true rfl⟩ (fun v gz13 Hp lcs hp hM => ?_)
  obtain ⟨rfl, hp1, hp2⟩ := hp
  have hD := hD.keepLo hp1 hp2
  refine lv_aload_n hx hb dX0_afterValue_20 rfl (lv_at hl 0 rfl) ?_
  refine mm_get (C := RX0) (T := TX0) (N := 9) (k := 3) hx hb hts (fun _ h => List.mem_cons_of_mem _ (List.mem_append_left _ (List.mem_append_right _ h))) hown hK hM (hD.1.1) rfl (by decide) (hts (.fieldLink RX0 12 "SentenceRules$Reader" "region" "LSentenceRules$Region;") (List.mem_of_getElem? (i := 2) rfl)) rfl rfl dX0_afterValue_21 ?_
  refine lv_aload_n hx hb dX0_afterValue_24 rfl (lv_at hl 0 rfl) ?_
  refine mm_get (C := RX0) (T := TX0) (N := 9) (k := 6) hx hb hts (fun _ h => List.mem_cons_of_mem _ (List.mem_append_left _ (List.mem_append_right _ h))) hown hK hM (hD.1.1) rfl (by decide) (hts (.fieldLink RX0 104 "SentenceRules$Reader" "limitedFact" "I") (List.mem_of_getElem? (i := 3) rfl)) rfl rfl dX0_afterValue_25 ?_
  refine lv_iload_n hx hb dX0_afterValue_28 rfl (lv_at hl 1 rfl) ?_
  refine mm_V (As := [.int (nI t), .int x]) (rest := []) ⟨hx, hb, hml, hown, hts⟩ (c1_keepUntil l G hD.1.2.1 hD.1.2.2.1 hD.1.2.2.2.1 hD.1.2.2.2.2 t (by omega) x) (cwV 2 hts gX0_afterValue_X1_keepUntil rfl rfl rfl (by decide +kernel) ⟨Nat.le_of_ble_eq_true rfl, Nat.le_of_ble_eq_true rfl⟩) hK hE hA hM (mm_recv hK hM (hD.1.2.1) (q := (RX1, TX1, 2)) rfl) rfl hl.1 rfl (Nat.le_of_ble_eq_true rfl) dX0_afterValue_29 ⟨Nat.le_of_ble_eq_true rfl, Nat.le_of_ble_eq_true rfl⟩ (fun v gz14 Hp lcs hp hM => ?_)
  obtain ⟨rfl, hp1, hp2⟩ := hp
  have hD := hD.keepHi hp1 hp2
  refine lv_goto (tgt := 126) hx hb dX0_afterValue_32 (by decide) ?_
  refine lv_bipush (v := (nI 6)) hx hb dX0_afterValue_126 (by decide +kernel) ?_
  exact mm_iret hx hb hlocks hr (Nat.le_of_ble_eq_true rfl) (Nat.le_of_ble_eq_true rfl) hM (⟨(congrArg (fun z => some (Value.int z)) (by first | rfl | (simp [afvLo, afvHi, n54, cz1]; done) | (simp_all [afvLo, afvHi, n54, cz1]; done))), hD.cv rfl rfl rfl rfl rfl rfl rfl rfl (by first | rfl | (simp [afvLo, afvHi, n54, cz1]; done) | (simp_all [afvLo, afvHi, n54, cz1]; done)) (by first | rfl | (simp [afvLo, afvHi, n54, cz1]; done) | (simp_all [afvLo, afvHi, n54, cz1]; done))⟩) dX0_afterValue_128
set_option maxHeartbeats 4000000 in
set_option maxRecDepth 100000 in
theorem c0_afterConditionEnd (l : Launch) (G : mG) {f : mE} {rd r p q : Nat} {ab gv us pl lf cp : Int32} {ir ng : Bool} {lo hi : Nat → Int32} (hR : RD G f rd r p q ab gv us pl ir lf ng cp lo hi) (x : Int32) : mC l G yX0_afterConditionEnd wsX0_afterConditionEnd ({ frames := 0, cells := 0, slots := 0, locals := 0 } : Room) f [.ref rd, .int x] (fun v f1 => v = some (.int (afeV ir x)) ∧ RDF G f f1 rd r p q ab gv us pl ir lf ng cp lo hi) 0 0 := by
  refine mC.of (cc := cX0_afterConditionEnd) (maxL := 2) (ret := (some .int)) (by decide) rfl (Nat.le_of_ble_eq_true rfl) ?_
  intro pgm env s mt args below meth c A ls hx hb hml hr hlocks hown hname hts hK hE hA hM hl
  have hl : lv_has ls 2 [(0, .ref rd), (1, .int x)] := hl
  have hD := hR.start
  refine lv_iload_n hx hb dX0_afterConditionEnd_0 rfl (lv_at hl 1 rfl) ?_
  refine lv_iconst (v := (nI 1)) hx hb dX0_afterConditionEnd_1 (by decide +kernel) ?_
  refine lv_icmp_ne (tgt := 7) hx hb dX0_afterConditionEnd_2 (by decide) (fun cz1 => ?_) (fun cz1 => ?_)
  · refine lv_iload_n hx hb dX0_afterConditionEnd_7 rfl (lv_at hl 1 rfl) ?_
    refine lv_iconst (v := (nI 2)) hx hb dX0_afterConditionEnd_8 (by decide +kernel) ?_
    refine lv_icmp_ne (tgt := 24) hx hb dX0_afterConditionEnd_9 (by decide) (fun cz2 => ?_) (fun cz2 => ?_)
    · refine lv_iconst (v := (-1)) hx hb dX0_afterConditionEnd_24 (by decide +kernel) ?_
      exact mm_iret hx hb hlocks hr (Nat.le_of_ble_eq_true rfl) (Nat.le_of_ble_eq_true rfl) hM (⟨(congrArg (fun z => some (Value.int z)) (by first | rfl | (simp [afeV, cz1, cz2]; done) | (simp_all [afeV, cz1, cz2]; done))), hD.cv rfl rfl rfl rfl rfl rfl rfl rfl rfl rfl⟩) dX0_afterConditionEnd_25
    refine lv_aload_n hx hb dX0_afterConditionEnd_12 rfl (lv_at hl 0 rfl) ?_
    refine mm_get (C := RX0) (T := TX0) (N := 9) (k := 5) hx hb hts (fun _ h => List.mem_cons_of_mem _ (List.mem_append_right _ h)) hown hK hM (hD.1.1) rfl (by decide) (hts (.fieldLink RX0 58 "SentenceRules$Reader" "inRule" "Z") (List.mem_of_getElem? (i := 1) rfl)) rfl rfl dX0_afterConditionEnd_13 ?_
    refine lvb_eq (tgt := 24) hx hb dX0_afterConditionEnd_16 (by decide) (fun cz3 => ?_) (fun cz3 => ?_)
    · refine lv_iconst (v := (-1)) hx hb dX0_afterConditionEnd_24 (by decide +kernel) ?_
      exact mm_iret hx hb hlocks hr (Nat.le_of_ble_eq_true rfl) (Nat.le_of_ble_eq_true rfl) hM (⟨(congrArg (fun z => some (Value.int z)) (by first | rfl | (simp [afeV, cz1, cz2, cz3]; done) | (simp_all [afeV, cz1, cz2, cz3]; done))), hD.cv rfl rfl rfl rfl rfl rfl rfl rfl rfl rfl⟩) dX0_afterConditionEnd_25
    refine lv_bipush (v := (nI 7)) hx hb dX0_afterConditionEnd_19 (by decide +kernel) ?_
    refine lv_goto (tgt := 25) hx hb dX0_afterConditionEnd_21 (by decide) ?_
    exact mm_iret hx hb hlocks hr (Nat.le_of_ble_eq_true rfl) (Nat.le_of_ble_eq_true rfl) hM (⟨(congrArg (fun z => some (Value.int z)) (by first | rfl | (simp [afeV, cz1, cz2, cz3]; done) | (simp_all [afeV, cz1, cz2, cz3]; done))), hD.cv rfl rfl rfl rfl rfl rfl rfl rfl rfl rfl⟩) dX0_afterConditionEnd_25
  refine lv_iconst (v := (nI 2)) hx hb dX0_afterConditionEnd_5 (by decide +kernel) ?_
  exact mm_iret hx hb hlocks hr (Nat.le_of_ble_eq_true rfl) (Nat.le_of_ble_eq_true rfl) hM (⟨(congrArg (fun z => some (Value.int z)) (by first | rfl | (simp [afeV, cz1]; done) | (simp_all [afeV, cz1]; done))), hD.cv rfl rfl rfl rfl rfl rfl rfl rfl rfl rfl⟩) dX0_afterConditionEnd_6
set_option maxHeartbeats 4000000 in
set_option maxRecDepth 100000 in
theorem c0_afterGiven (l : Launch) (G : mG) {f : mE} {rd r p q : Nat} {ab gv us pl lf cp : Int32} {ir ng : Bool} {lo hi : Nat → Int32} (hR : RD G f rd r p q ab gv us pl ir lf ng cp lo hi) (x : Int32) : mC l G yX0_afterGiven wsX0_afterGiven ({ frames := 0, cells := 0, slots := 0, locals := 0 } : Room) f [.ref rd, .int x] (fun v f1 => v = some (.int (nI 10)) ∧ RDF G f f1 rd r p q ab x us pl ir lf ng cp lo hi) 0 0 := by
  refine mC.of (cc := cX0_afterGiven) (maxL := 2) (ret := (some .int)) (by decide) rfl (Nat.le_of_ble_eq_true rfl) ?_
  intro pgm env s mt args below meth c A ls hx hb hml hr hlocks hown hname hts hK hE hA hM hl
  have hl : lv_has ls 2 [(0, .ref rd), (1, .int x)] := hl
  have hD := hR.start
  refine lv_aload_n hx hb dX0_afterGiven_0 rfl (lv_at hl 0 rfl) ?_
  refine lv_iload_n hx hb dX0_afterGiven_1 rfl (lv_at hl 1 rfl) ?_
  refine mm_put (C := RX0) (T := TX0) (N := 9) (k := 1) hx hb hts (fun _ h => List.mem_cons_of_mem _ (List.mem_append_right _ h)) tyX0 tyX0_ok nmX0 hown hK hM (hD.1.1) rfl (by decide) (hts (.fieldLink RX0 49 "SentenceRules$Reader" "given" "I") (List.mem_of_getElem? (i := 1) rfl)) rfl rfl rfl rfl (Nat.le_of_ble_eq_true rfl) dX0_afterGiven_2 (fun Hp lcs hM => ?_)
  have hD := hD.setObj ab x us pl ir lf ng cp
  refine lv_bipush (v := (nI 10)) hx hb dX0_afterGiven_5 (by decide +kernel) ?_
  exact mm_iret hx hb hlocks hr (Nat.le_of_ble_eq_true rfl) (Nat.le_of_ble_eq_true rfl) hM (⟨(congrArg (fun z => some (Value.int z)) rfl), hD.cv rfl rfl rfl rfl rfl rfl rfl rfl rfl rfl⟩) dX0_afterGiven_7
set_option maxHeartbeats 4000000 in
set_option maxRecDepth 100000 in
theorem c0_afterFromDate (l : Launch) (G : mG) {f : mE} {rd r p q : Nat} {ab gv us pl lf cp : Int32} {ir ng : Bool} {lo hi : Nat → Int32} (hR : RD G f rd r p q ab gv us pl ir lf ng cp lo hi) (x : Int32) : mC l G yX0_afterFromDate wsX0_afterFromDate ({ frames := 2, cells := 0, slots := 0, locals := 43 } : Room) f [.ref rd, .int x] (fun v f1 => v = some (.int (nI 12)) ∧ RDF G f f1 rd r p q ab gv us pl ir lf ng cp (upd lo 6 (mx (lo 6) x)) hi) 0 0 := by
  refine mC.of (cc := cX0_afterFromDate) (maxL := 2) (ret := (some .int)) (by decide) rfl (Nat.le_of_ble_eq_true rfl) ?_
  intro pgm env s mt args below meth c A ls hx hb hml hr hlocks hown hname hts hK hE hA hM hl
  have hl : lv_has ls 2 [(0, .ref rd), (1, .int x)] := hl
  have hD := hR.start
  refine lv_aload_n hx hb dX0_afterFromDate_0 rfl (lv_at hl 0 rfl) ?_
  refine mm_get (C := RX0) (T := TX0) (N := 9) (k := 3) hx hb hts (fun _ h => List.mem_cons_of_mem _ (List.mem_append_left _ (List.mem_append_right _ h))) hown hK hM (hD.1.1) rfl (by decide) (hts (.fieldLink RX0 12 "SentenceRules$Reader" "region" "LSentenceRules$Region;") (List.mem_of_getElem? (i := 1) rfl)) rfl rfl dX0_afterFromDate_1 ?_
  refine lv_bipush (v := (nI 6)) hx hb dX0_afterFromDate_4 (by decide +kernel) ?_
  refine lv_iload_n hx hb dX0_afterFromDate_6 rfl (lv_at hl 1 rfl) ?_
  refine mm_V (As := [.int (nI 6), .int x]) (rest := []) ⟨hx, hb, hml, hown, hts⟩ (c1_keepFrom l G hD.1.2.1 hD.1.2.2.1 hD.1.2.2.2.1 hD.1.2.2.2.2 6 (by omega) x) (cwV 2 hts gX0_afterFromDate_X1_keepFrom rfl rfl rfl (by decide +kernel) ⟨Nat.le_of_ble_eq_true rfl, Nat.le_of_ble_eq_true rfl⟩) hK hE hA hM (mm_recv hK hM (hD.1.2.1) (q := (RX1, TX1, 2)) rfl) rfl hl.1 rfl (Nat.le_of_ble_eq_true rfl) dX0_afterFromDate_7 ⟨Nat.le_of_ble_eq_true rfl, Nat.le_of_ble_eq_true rfl⟩ (fun v gz1 Hp lcs hp hM => ?_)
  obtain ⟨rfl, hp1, hp2⟩ := hp
  have hD := hD.keepLo hp1 hp2
  refine lv_bipush (v := (nI 12)) hx hb dX0_afterFromDate_10 (by decide +kernel) ?_
  exact mm_iret hx hb hlocks hr (Nat.le_of_ble_eq_true rfl) (Nat.le_of_ble_eq_true rfl) hM (⟨(congrArg (fun z => some (Value.int z)) rfl), hD.cv rfl rfl rfl rfl rfl rfl rfl rfl rfl rfl⟩) dX0_afterFromDate_12
set_option maxHeartbeats 4000000 in
set_option maxRecDepth 100000 in
theorem c0_afterUntilDate (l : Launch) (G : mG) {f : mE} {rd r p q : Nat} {ab gv us pl lf cp : Int32} {ir ng : Bool} {lo hi : Nat → Int32} (hR : RD G f rd r p q ab gv us pl ir lf ng cp lo hi) (x : Int32) : mC l G yX0_afterUntilDate wsX0_afterUntilDate ({ frames := 2, cells := 0, slots := 0, locals := 43 } : Room) f [.ref rd, .int x] (fun v f1 => v = some (.int (nI 14)) ∧ RDF G f f1 rd r p q ab gv us pl ir lf ng cp lo (upd hi 6 (mn (hi 6) x))) 0 0 := by
  refine mC.of (cc := cX0_afterUntilDate) (maxL := 2) (ret := (some .int)) (by decide) rfl (Nat.le_of_ble_eq_true rfl) ?_
  intro pgm env s mt args below meth c A ls hx hb hml hr hlocks hown hname hts hK hE hA hM hl
  have hl : lv_has ls 2 [(0, .ref rd), (1, .int x)] := hl
  have hD := hR.start
  refine lv_aload_n hx hb dX0_afterUntilDate_0 rfl (lv_at hl 0 rfl) ?_
  refine mm_get (C := RX0) (T := TX0) (N := 9) (k := 3) hx hb hts (fun _ h => List.mem_cons_of_mem _ (List.mem_append_left _ (List.mem_append_right _ h))) hown hK hM (hD.1.1) rfl (by decide) (hts (.fieldLink RX0 12 "SentenceRules$Reader" "region" "LSentenceRules$Region;") (List.mem_of_getElem? (i := 1) rfl)) rfl rfl dX0_afterUntilDate_1 ?_
  refine lv_bipush (v := (nI 6)) hx hb dX0_afterUntilDate_4 (by decide +kernel) ?_
  refine lv_iload_n hx hb dX0_afterUntilDate_6 rfl (lv_at hl 1 rfl) ?_
  refine mm_V (As := [.int (nI 6), .int x]) (rest := []) ⟨hx, hb, hml, hown, hts⟩ (c1_keepUntil l G hD.1.2.1 hD.1.2.2.1 hD.1.2.2.2.1 hD.1.2.2.2.2 6 (by omega) x) (cwV 2 hts gX0_afterUntilDate_X1_keepUntil rfl rfl rfl (by decide +kernel) ⟨Nat.le_of_ble_eq_true rfl, Nat.le_of_ble_eq_true rfl⟩) hK hE hA hM (mm_recv hK hM (hD.1.2.1) (q := (RX1, TX1, 2)) rfl) rfl hl.1 rfl (Nat.le_of_ble_eq_true rfl) dX0_afterUntilDate_7 ⟨Nat.le_of_ble_eq_true rfl, Nat.le_of_ble_eq_true rfl⟩ (fun v gz1 Hp lcs hp hM => ?_)
  obtain ⟨rfl, hp1, hp2⟩ := hp
  have hD := hD.keepHi hp1 hp2
  refine lv_bipush (v := (nI 14)) hx hb dX0_afterUntilDate_10 (by decide +kernel) ?_
  exact mm_iret hx hb hlocks hr (Nat.le_of_ble_eq_true rfl) (Nat.le_of_ble_eq_true rfl) hM (⟨(congrArg (fun z => some (Value.int z)) rfl), hD.cv rfl rfl rfl rfl rfl rfl rfl rfl rfl rfl⟩) dX0_afterUntilDate_12
set_option maxHeartbeats 4000000 in
set_option maxRecDepth 100000 in
theorem c0_afterUntil (l : Launch) (G : mG) {f : mE} {rd r p q : Nat} {ab gv us pl lf cp : Int32} {ir ng : Bool} {lo hi : Nat → Int32} (hR : RD G f rd r p q ab gv us pl ir lf ng cp lo hi) (x : Int32) : mC l G yX0_afterUntil wsX0_afterUntil ({ frames := 0, cells := 0, slots := 0, locals := 0 } : Room) f [.ref rd, .int x] (fun v f1 => v = some (.int (afuV x)) ∧ RDF G f f1 rd r p q ab gv us pl ir lf ng cp lo hi) 0 0 := by
  refine mC.of (cc := cX0_afterUntil) (maxL := 2) (ret := (some .int)) (by decide) rfl (Nat.le_of_ble_eq_true rfl) ?_
  intro pgm env s mt args below meth c A ls hx hb hml hr hlocks hown hname hts hK hE hA hM hl
  have hl : lv_has ls 2 [(0, .ref rd), (1, .int x)] := hl
  have hD := hR.start
  refine lv_iload_n hx hb dX0_afterUntil_0 rfl (lv_at hl 1 rfl) ?_
  refine lv_bipush (v := (nI 9)) hx hb dX0_afterUntil_1 (by decide +kernel) ?_
  refine lv_icmp_ne (tgt := 11) hx hb dX0_afterUntil_3 (by decide) (fun cz1 => ?_) (fun cz1 => ?_)
  · refine lv_iconst (v := (-1)) hx hb dX0_afterUntil_11 (by decide +kernel) ?_
    exact mm_iret hx hb hlocks hr (Nat.le_of_ble_eq_true rfl) (Nat.le_of_ble_eq_true rfl) hM (⟨(congrArg (fun z => some (Value.int z)) (by first | rfl | (simp [afuV, cz1]; done) | (simp_all [afuV, cz1]; done))), hD.cv rfl rfl rfl rfl rfl rfl rfl rfl rfl rfl⟩) dX0_afterUntil_12
  refine lv_bipush (v := (nI 13)) hx hb dX0_afterUntil_6 (by decide +kernel) ?_
  refine lv_goto (tgt := 12) hx hb dX0_afterUntil_8 (by decide) ?_
  exact mm_iret hx hb hlocks hr (Nat.le_of_ble_eq_true rfl) (Nat.le_of_ble_eq_true rfl) hM (⟨(congrArg (fun z => some (Value.int z)) (by first | rfl | (simp [afuV, cz1]; done) | (simp_all [afuV, cz1]; done))), hD.cv rfl rfl rfl rfl rfl rfl rfl rfl rfl rfl⟩) dX0_afterUntil_12
set_option maxHeartbeats 4000000 in
set_option maxRecDepth 100000 in
theorem c0_begin (l : Launch) (G : mG) {f : mE} {rd r p q : Nat} {ab gv us pl lf cp : Int32} {ir ng : Bool} {lo hi : Nat → Int32} (hR : RD G f rd r p q ab gv us pl ir lf ng cp lo hi) : mC l G yX0_begin wsX0_begin ({ frames := 2, cells := 0, slots := 0, locals := 41 } : Room) f [.ref rd] (fun v f1 => v = none ∧ RDF G f f1 rd r p q (nI 0) (nI 0) (nI 0) (nI 0) true lf ng cp (filN (wholeLo) lo 7) (filN (wholeHi) hi 7)) 0 0 := by
  refine mC.of (cc := cX0_begin) (maxL := 1) (ret := none) (by decide) rfl (Nat.le_of_ble_eq_true rfl) ?_
  intro pgm env s mt args below meth c A ls hx hb hml hr hlocks hown hname hts hK hE hA hM hl
  have hl : lv_has ls 1 [(0, .ref rd)] := hl
  have hD := hR.start
  refine lv_aload_n hx hb dX0_begin_0 rfl (lv_at hl 0 rfl) ?_
  refine lv_iconst (v := (nI 0)) hx hb dX0_begin_1 (by decide +kernel) ?_
  refine mm_put (C := RX0) (T := TX0) (N := 9) (k := 0) hx hb hts (fun _ h => List.mem_cons_of_mem _ (List.mem_append_left _ (List.mem_append_right _ h))) tyX0 tyX0_ok nmX0 hown hK hM (hD.1.1) rfl (by decide) (hts (.fieldLink RX0 46 "SentenceRules$Reader" "about" "I") (List.mem_of_getElem? (i := 1) rfl)) rfl rfl rfl rfl (Nat.le_of_ble_eq_true rfl) dX0_begin_2 (fun Hp lcs hM => ?_)
  have hD := hD.setObj (nI 0) gv us pl ir lf ng cp
  refine lv_aload_n hx hb dX0_begin_5 rfl (lv_at hl 0 rfl) ?_
  refine lv_iconst (v := (nI 0)) hx hb dX0_begin_6 (by decide +kernel) ?_
  refine mm_put (C := RX0) (T := TX0) (N := 9) (k := 1) hx hb hts (fun _ h => List.mem_cons_of_mem _ (List.mem_append_left _ (List.mem_append_right _ h))) tyX0 tyX0_ok nmX0 hown hK hM (hD.1.1) rfl (by decide) (hts (.fieldLink RX0 49 "SentenceRules$Reader" "given" "I") (List.mem_of_getElem? (i := 2) rfl)) rfl rfl rfl rfl (Nat.le_of_ble_eq_true rfl) dX0_begin_7 (fun Hp lcs hM => ?_)
  have hD := hD.setObj (nI 0) (nI 0) us pl ir lf ng cp
  refine lv_aload_n hx hb dX0_begin_10 rfl (lv_at hl 0 rfl) ?_
  refine lv_iconst (v := (nI 0)) hx hb dX0_begin_11 (by decide +kernel) ?_
  refine mm_put (C := RX0) (T := TX0) (N := 9) (k := 2) hx hb hts (fun _ h => List.mem_cons_of_mem _ (List.mem_append_left _ (List.mem_append_right _ h))) tyX0 tyX0_ok nmX0 hown hK hM (hD.1.1) rfl (by decide) (hts (.fieldLink RX0 52 "SentenceRules$Reader" "used" "I") (List.mem_of_getElem? (i := 3) rfl)) rfl rfl rfl rfl (Nat.le_of_ble_eq_true rfl) dX0_begin_12 (fun Hp lcs hM => ?_)
  have hD := hD.setObj (nI 0) (nI 0) (nI 0) pl ir lf ng cp
  refine lv_aload_n hx hb dX0_begin_15 rfl (lv_at hl 0 rfl) ?_
  refine mm_get (C := RX0) (T := TX0) (N := 9) (k := 3) hx hb hts (fun _ h => List.mem_cons_of_mem _ (List.mem_append_left _ (List.mem_append_right _ h))) hown hK hM (hD.1.1) rfl (by decide) (hts (.fieldLink RX0 12 "SentenceRules$Reader" "region" "LSentenceRules$Region;") (List.mem_of_getElem? (i := 4) rfl)) rfl rfl dX0_begin_16 ?_
  refine mm_V (As := []) (rest := []) ⟨hx, hb, hml, hown, hts⟩ (c1_widen l G hD.1.2.1 hD.1.2.2.1 hD.1.2.2.2.1 hD.1.2.2.2.2) (cwV 0 hts gX0_begin_X1_widen rfl rfl rfl (by decide +kernel) ⟨Nat.le_of_ble_eq_true rfl, Nat.le_of_ble_eq_true rfl⟩) hK hE hA hM (mm_recv hK hM (hD.1.2.1) (q := (RX1, TX1, 2)) rfl) rfl hl.1 rfl (Nat.le_of_ble_eq_true rfl) dX0_begin_19 ⟨Nat.le_of_ble_eq_true rfl, Nat.le_of_ble_eq_true rfl⟩ (fun v gz1 Hp lcs hp hM => ?_)
  obtain ⟨rfl, hp1, hp2, hp3⟩ := hp
  have hD := hD.keep2 hp1 hp2 hp3
  refine lv_aload_n hx hb dX0_begin_22 rfl (lv_at hl 0 rfl) ?_
  refine lv_iconst (v := (nI 0)) hx hb dX0_begin_23 (by decide +kernel) ?_
  refine mm_put (C := RX0) (T := TX0) (N := 9) (k := 4) hx hb hts (fun _ h => List.mem_cons_of_mem _ (List.mem_append_left _ (List.mem_append_right _ h))) tyX0 tyX0_ok nmX0 hown hK hM (hD.1.1) rfl (by decide) (hts (.fieldLink RX0 38 "SentenceRules$Reader" "place" "I") (List.mem_of_getElem? (i := 5) rfl)) rfl rfl rfl rfl (Nat.le_of_ble_eq_true rfl) dX0_begin_24 (fun Hp lcs hM => ?_)
  have hD := hD.setObj (nI 0) (nI 0) (nI 0) (nI 0) ir lf ng cp
  refine lv_aload_n hx hb dX0_begin_27 rfl (lv_at hl 0 rfl) ?_
  refine lv_iconst (v := (nI 1)) hx hb dX0_begin_28 (by decide +kernel) ?_
  refine mm_put (C := RX0) (T := TX0) (N := 9) (k := 5) hx hb hts (fun _ h => List.mem_cons_of_mem _ (List.mem_append_left _ (List.mem_append_right _ h))) tyX0 tyX0_ok nmX0 hown hK hM (hD.1.1) rfl (by decide) (hts (.fieldLink RX0 58 "SentenceRules$Reader" "inRule" "Z") (List.mem_of_getElem? (i := 6) rfl)) rfl rfl (by first | rfl | exact bI_nar _) (by first | rfl | exact bI_fit _) (Nat.le_of_ble_eq_true rfl) dX0_begin_29 (fun Hp lcs hM => ?_)
  have hD := hD.setObj (nI 0) (nI 0) (nI 0) (nI 0) true lf ng cp
  exact mm_vret hx hb hlocks hr (Nat.le_of_ble_eq_true rfl) (Nat.le_of_ble_eq_true rfl) hM (⟨rfl, hD.cv rfl rfl rfl rfl rfl rfl rfl rfl rfl rfl⟩) dX0_begin_32
set_option maxHeartbeats 4000000 in
set_option maxRecDepth 100000 in
theorem c0_isComplete (l : Launch) (G : mG) {f : mE} {rd r p q : Nat} {ab gv us lf cp : Int32} {pl : Nat} {ir ng : Bool} {lo hi : Nat → Int32} (hR : RD G f rd r p q ab gv us (nI pl) ir lf ng cp lo hi) (hp14 : pl ≤ 14) : mC l G yX0_isComplete wsX0_isComplete ({ frames := 0, cells := 0, slots := 0, locals := 0 } : Room) f [.ref rd] (fun v f1 => v = some (.int (bI (comB ir pl))) ∧ RDF G f f1 rd r p q ab gv us (nI pl) ir lf ng cp lo hi) 0 0 := by
  refine mC.of (cc := cX0_isComplete) (maxL := 1) (ret := (some .boolean)) (by decide) rfl (Nat.le_of_ble_eq_true rfl) ?_
  intro pgm env s mt args below meth c A ls hx hb hml hr hlocks hown hname hts hK hE hA hM hl
  have hl : lv_has ls 1 [(0, .ref rd)] := hl
  have hD := hR.start
  refine lv_aload_n hx hb dX0_isComplete_0 rfl (lv_at hl 0 rfl) ?_
  refine mm_get (C := RX0) (T := TX0) (N := 9) (k := 4) hx hb hts (fun _ h => List.mem_cons_of_mem _ (List.mem_append_right _ h)) hown hK hM (hD.1.1) rfl (by decide) (hts (.fieldLink RX0 38 "SentenceRules$Reader" "place" "I") (List.mem_of_getElem? (i := 1) rfl)) rfl rfl dX0_isComplete_1 ?_
  by_cases cz1 : pl = 6
  · refine lv_tableIn (tgt := 56) hx hb dX0_isComplete_4 (by rw [nI_toInt (by omega)]; omega) (by rw [nI_toInt (by omega)]; omega) (by rw [cz1]; rfl) (by decide) ?_
    refine lv_aload_n hx hb dX0_isComplete_56 rfl (lv_at hl 0 rfl) ?_
    refine mm_get (C := RX0) (T := TX0) (N := 9) (k := 5) hx hb hts (fun _ h => List.mem_cons_of_mem _ (List.mem_append_right _ h)) hown hK hM (hD.1.1) rfl (by decide) (hts (.fieldLink RX0 58 "SentenceRules$Reader" "inRule" "Z") (List.mem_of_getElem? (i := 2) rfl)) rfl rfl dX0_isComplete_57 ?_
    refine lvb_ne (tgt := 67) hx hb dX0_isComplete_60 (by decide) (fun cz2 => ?_) (fun cz2 => ?_)
    · refine lv_iconst (v := (nI 0)) hx hb dX0_isComplete_67 (by decide +kernel) ?_
      exact mm_zret hx hb hlocks hr (by first | rfl | exact bI_nar _) (Nat.le_of_ble_eq_true rfl) (Nat.le_of_ble_eq_true rfl) hM (⟨congrArg (fun z => some (Value.int z)) (bIf (by first | (simp [comB, cz1, cz2]; done) | (simp [comB, cz1, cz2]; omega))), hD⟩) dX0_isComplete_68
    refine lv_iconst (v := (nI 1)) hx hb dX0_isComplete_63 (by decide +kernel) ?_
    refine lv_goto (tgt := 68) hx hb dX0_isComplete_64 (by decide) ?_
    exact mm_zret hx hb hlocks hr (by first | rfl | exact bI_nar _) (Nat.le_of_ble_eq_true rfl) (Nat.le_of_ble_eq_true rfl) hM (⟨congrArg (fun z => some (Value.int z)) (bIt (by first | (simp [comB, cz1, cz2]; done) | (simp [comB, cz1, cz2]; omega))), hD⟩) dX0_isComplete_68
  by_cases cz3 : pl = 10
  · refine lv_tableIn (tgt := 69) hx hb dX0_isComplete_4 (by rw [nI_toInt (by omega)]; omega) (by rw [nI_toInt (by omega)]; omega) (by rw [cz3]; rfl) (by decide) ?_
    refine lv_iconst (v := (nI 1)) hx hb dX0_isComplete_69 (by decide +kernel) ?_
    exact mm_zret hx hb hlocks hr (by first | rfl | exact bI_nar _) (Nat.le_of_ble_eq_true rfl) (Nat.le_of_ble_eq_true rfl) hM (⟨congrArg (fun z => some (Value.int z)) (bIt (by first | (simp [comB, cz1, cz3]; done) | (simp [comB, cz1, cz3]; omega))), hD⟩) dX0_isComplete_70
  by_cases cz4 : pl = 12
  · refine lv_tableIn (tgt := 69) hx hb dX0_isComplete_4 (by rw [nI_toInt (by omega)]; omega) (by rw [nI_toInt (by omega)]; omega) (by rw [cz4]; rfl) (by decide) ?_
    refine lv_iconst (v := (nI 1)) hx hb dX0_isComplete_69 (by decide +kernel) ?_
    exact mm_zret hx hb hlocks hr (by first | rfl | exact bI_nar _) (Nat.le_of_ble_eq_true rfl) (Nat.le_of_ble_eq_true rfl) hM (⟨congrArg (fun z => some (Value.int z)) (bIt (by first | (simp [comB, cz1, cz3, cz4]; done) | (simp [comB, cz1, cz3, cz4]; omega))), hD⟩) dX0_isComplete_70
  by_cases cz5 : pl = 14
  · refine lv_tableIn (tgt := 69) hx hb dX0_isComplete_4 (by rw [nI_toInt (by omega)]; omega) (by rw [nI_toInt (by omega)]; omega) (by rw [cz5]; rfl) (by decide) ?_
    refine lv_iconst (v := (nI 1)) hx hb dX0_isComplete_69 (by decide +kernel) ?_
    exact mm_zret hx hb hlocks hr (by first | rfl | exact bI_nar _) (Nat.le_of_ble_eq_true rfl) (Nat.le_of_ble_eq_true rfl) hM (⟨congrArg (fun z => some (Value.int z)) (bIt (by first | (simp [comB, cz1, cz3, cz4, cz5]; done) | (simp [comB, cz1, cz3, cz4, cz5]; omega))), hD⟩) dX0_isComplete_70
  by_cases cz6 : pl = 7
  · refine lv_tableIn (tgt := 71) hx hb dX0_isComplete_4 (by rw [nI_toInt (by omega)]; omega) (by rw [nI_toInt (by omega)]; omega) (by rw [cz6]; rfl) (by decide) ?_
    refine lv_iconst (v := (nI 0)) hx hb dX0_isComplete_71 (by decide +kernel) ?_
    exact mm_zret hx hb hlocks hr (by first | rfl | exact bI_nar _) (Nat.le_of_ble_eq_true rfl) (Nat.le_of_ble_eq_true rfl) hM (⟨congrArg (fun z => some (Value.int z)) (bIf (by first | (simp [comB, cz1, cz3, cz4, cz5, cz6]; done) | (simp [comB, cz1, cz3, cz4, cz5, cz6]; omega))), hD⟩) dX0_isComplete_72
  by_cases cz7 : pl = 8
  · refine lv_tableIn (tgt := 71) hx hb dX0_isComplete_4 (by rw [nI_toInt (by omega)]; omega) (by rw [nI_toInt (by omega)]; omega) (by rw [cz7]; rfl) (by decide) ?_
    refine lv_iconst (v := (nI 0)) hx hb dX0_isComplete_71 (by decide +kernel) ?_
    exact mm_zret hx hb hlocks hr (by first | rfl | exact bI_nar _) (Nat.le_of_ble_eq_true rfl) (Nat.le_of_ble_eq_true rfl) hM (⟨congrArg (fun z => some (Value.int z)) (bIf (by first | (simp [comB, cz1, cz3, cz4, cz5, cz6, cz7]; done) | (simp [comB, cz1, cz3, cz4, cz5, cz6, cz7]; omega))), hD⟩) dX0_isComplete_72
  by_cases cz8 : pl = 9
  · refine lv_tableIn (tgt := 71) hx hb dX0_isComplete_4 (by rw [nI_toInt (by omega)]; omega) (by rw [nI_toInt (by omega)]; omega) (by rw [cz8]; rfl) (by decide) ?_
    refine lv_iconst (v := (nI 0)) hx hb dX0_isComplete_71 (by decide +kernel) ?_
    exact mm_zret hx hb hlocks hr (by first | rfl | exact bI_nar _) (Nat.le_of_ble_eq_true rfl) (Nat.le_of_ble_eq_true rfl) hM (⟨congrArg (fun z => some (Value.int z)) (bIf (by first | (simp [comB, cz1, cz3, cz4, cz5, cz6, cz7, cz8]; done) | (simp [comB, cz1, cz3, cz4, cz5, cz6, cz7, cz8]; omega))), hD⟩) dX0_isComplete_72
  by_cases cz9 : pl = 11
  · refine lv_tableIn (tgt := 71) hx hb dX0_isComplete_4 (by rw [nI_toInt (by omega)]; omega) (by rw [nI_toInt (by omega)]; omega) (by rw [cz9]; rfl) (by decide) ?_
    refine lv_iconst (v := (nI 0)) hx hb dX0_isComplete_71 (by decide +kernel) ?_
    exact mm_zret hx hb hlocks hr (by first | rfl | exact bI_nar _) (Nat.le_of_ble_eq_true rfl) (Nat.le_of_ble_eq_true rfl) hM (⟨congrArg (fun z => some (Value.int z)) (bIf (by first | (simp [comB, cz1, cz3, cz4, cz5, cz6, cz7, cz8, cz9]; done) | (simp [comB, cz1, cz3, cz4, cz5, cz6, cz7, cz8, cz9]; omega))), hD⟩) dX0_isComplete_72
  by_cases cz10 : pl = 13
  · refine lv_tableIn (tgt := 71) hx hb dX0_isComplete_4 (by rw [nI_toInt (by omega)]; omega) (by rw [nI_toInt (by omega)]; omega) (by rw [cz10]; rfl) (by decide) ?_
    refine lv_iconst (v := (nI 0)) hx hb dX0_isComplete_71 (by decide +kernel) ?_
    exact mm_zret hx hb hlocks hr (by first | rfl | exact bI_nar _) (Nat.le_of_ble_eq_true rfl) (Nat.le_of_ble_eq_true rfl) hM (⟨congrArg (fun z => some (Value.int z)) (bIf (by first | (simp [comB, cz1, cz3, cz4, cz5, cz6, cz7, cz8, cz9, cz10]; done) | (simp [comB, cz1, cz3, cz4, cz5, cz6, cz7, cz8, cz9, cz10]; omega))), hD⟩) dX0_isComplete_72
  refine lv_tableOut (tgt := 71) hx hb dX0_isComplete_4 (by rw [nI_toInt (by omega)]; omega) (by decide) ?_
  refine lv_iconst (v := (nI 0)) hx hb dX0_isComplete_71 (by decide +kernel) ?_
  exact mm_zret hx hb hlocks hr (by first | rfl | exact bI_nar _) (Nat.le_of_ble_eq_true rfl) (Nat.le_of_ble_eq_true rfl) hM (⟨congrArg (fun z => some (Value.int z)) (bIf (by first | (simp [comB, cz1, cz3, cz4, cz5, cz6, cz7, cz8, cz9, cz10]; done) | (simp [comB, cz1, cz3, cz4, cz5, cz6, cz7, cz8, cz9, cz10]; omega))), hD⟩) dX0_isComplete_72

